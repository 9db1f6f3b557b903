/-! the reference's sums over sets, its order -/
theorem q_Ref_isItem {d n : Nat} {I : mx_I} (J : mx_J) (hn : I 95 6 = nI n) (x : Int32) : mx_Cal mx_tab (d + 2) 148 [.ref 94, .int x] (mk I J) (some (.int (if x < 0 then 0 else if nI n - 1 < x then 0 else 1))) (mk I J) := by
  refine mx_Cal_in (ls := [some (.ref 94), some (.int x)]) tab_148 (by rw [mx_rcv, oc_94]; trivial) (Nat.le_of_ble_eq_true rfl) rfl ?_
  simp only [x_Ref_isItem_0, x_Ref_isItem_1, x_Ref_isItem_2, x_Ref_isItem_3, x_Ref_isItem_6, x_Ref_isItem_8, x_Ref_isItem_9, x_Ref_isItem_10, x_Ref_isItem_11, x_Ref_isItem_14, mk_I, mk_J, mk_Q, mk_n, mk_sI, mk_sJ, Option.toList_some, Option.toList_none, List.cons_append, List.nil_append, true_and, and_true, oc_94, rt_94_0, rt_94_1, rt_94_3, rt_94_8, rt_94_9, rt_94_10, rt_94_11, rt_94_12, rt_94_15, rt_94_16, rt_94_18, rt_94_21, rt_94_22, rt_94_23, rt_94_24, or_95, tc_0, kc_0, tc_1, kc_1, tc_2, kc_2, tc_3, kc_3, tc_4, kc_4, tc_5, kc_5, tc_6, kc_6, tc_7, kc_7, hn, mx_call (q_Ref_in _ _ _ _) (Nat.le_add_left 1 d)]
  by_cases h1 : x < 0
  · simp [h1]
  · by_cases h2 : nI n - 1 < x <;> simp [h1, h2]
def rF (I : mx_I) (i : Nat) : Int32 := I 95 (8 + 5 * i + 4)
theorem l_Ref_leftSet {d n : Nat} {I : mx_I} {J : mx_J} {P : mx_P} (hn : I 95 6 = nI n) (h9 : n ≤ 9) : ∀ (k i : Nat), i + k = n → mx_R k_Ref_leftSet (mx_Cal mx_tab (d + 2)) 4 [some (.ref 94), some (.int (nI (lsN (rF I) i))), some (.int (nI i))] [] (mk I J) P = mx_R k_Ref_leftSet (mx_Cal mx_tab (d + 2)) 39 [some (.ref 94), some (.int (nI (lsN (rF I) n))), some (.int (nI n))] [] (mk I J) P
  | 0, i, h => by
    have : i = n := by omega
    subst this
    rw [x_Ref_leftSet_4]
    simp only [x_Ref_leftSet_0, x_Ref_leftSet_1, x_Ref_leftSet_2, x_Ref_leftSet_3, x_Ref_leftSet_5, x_Ref_leftSet_6, x_Ref_leftSet_9, x_Ref_leftSet_11, x_Ref_leftSet_12, x_Ref_leftSet_15, x_Ref_leftSet_16, x_Ref_leftSet_17, x_Ref_leftSet_18, x_Ref_leftSet_21, x_Ref_leftSet_24, x_Ref_leftSet_25, x_Ref_leftSet_26, x_Ref_leftSet_27, x_Ref_leftSet_30, x_Ref_leftSet_31, x_Ref_leftSet_32, x_Ref_leftSet_33, x_Ref_leftSet_36, x_Ref_leftSet_40, mk_I, mk_J, mk_Q, mk_n, mk_sI, mk_sJ, Option.toList_some, Option.toList_none, List.cons_append, List.nil_append, true_and, and_true, oc_94, rt_94_0, rt_94_1, rt_94_3, rt_94_8, rt_94_9, rt_94_10, rt_94_11, rt_94_12, rt_94_15, rt_94_16, rt_94_18, rt_94_21, rt_94_22, rt_94_23, rt_94_24, or_95, tc_0, kc_0, tc_1, kc_1, tc_2, kc_2, tc_3, kc_3, tc_4, kc_4, tc_5, kc_5, tc_6, kc_6, tc_7, kc_7, hn]
    rw [if_pos (nI_le (Nat.le_refl _) (by omega))]
  | k + 1, i, h => by
    rw [x_Ref_leftSet_4]
    simp only [x_Ref_leftSet_0, x_Ref_leftSet_1, x_Ref_leftSet_2, x_Ref_leftSet_3, x_Ref_leftSet_5, x_Ref_leftSet_6, x_Ref_leftSet_9, x_Ref_leftSet_11, x_Ref_leftSet_12, x_Ref_leftSet_15, x_Ref_leftSet_16, x_Ref_leftSet_17, x_Ref_leftSet_18, x_Ref_leftSet_21, x_Ref_leftSet_24, x_Ref_leftSet_25, x_Ref_leftSet_26, x_Ref_leftSet_27, x_Ref_leftSet_30, x_Ref_leftSet_31, x_Ref_leftSet_32, x_Ref_leftSet_33, x_Ref_leftSet_36, x_Ref_leftSet_40, mk_I, mk_J, mk_Q, mk_n, mk_sI, mk_sJ, Option.toList_some, Option.toList_none, List.cons_append, List.nil_append, true_and, and_true, oc_94, rt_94_0, rt_94_1, rt_94_3, rt_94_8, rt_94_9, rt_94_10, rt_94_11, rt_94_12, rt_94_15, rt_94_16, rt_94_18, rt_94_21, rt_94_22, rt_94_23, rt_94_24, or_95, tc_0, kc_0, tc_1, kc_1, tc_2, kc_2, tc_3, kc_3, tc_4, kc_4, tc_5, kc_5, tc_6, kc_6, tc_7, kc_7, hn, mx_call (q_Ref_isLeft I J (show i < 9 by omega)) (Nat.le_add_left 2 d), nI_1]
    rw [if_neg (nI_ge (by omega) (by omega)), ← l_Ref_leftSet hn h9 k (i + 1) (by omega)]
    have hl := lsN_lt (rF I) i
    by_cases hf : I 95 (8 + 5 * i + 4) = 0
    · simp only [hf, if_true, or_bit i (by omega) _ hl, lsN, rF]
      simp
    · simp only [hf, if_false, if_true, lsN, rF, Nat.add_zero]
      simp
theorem q_Ref_leftSet {d n : Nat} {I : mx_I} (J : mx_J) (hn : I 95 6 = nI n) (h9 : n ≤ 9) : mx_Cal mx_tab (d + 3) 171 [.ref 94] (mk I J) (some (.int (nI (lsN (rF I) n)))) (mk I J) := by
  refine mx_Cal_in (ls := [some (.ref 94), none, none]) tab_171 (by rw [mx_rcv, oc_94]; trivial) (Nat.le_of_ble_eq_true rfl) rfl ?_
  have h := l_Ref_leftSet (d := d) (J := J) (P := fun v' h'' => v' = some (.int (nI (lsN (rF I) n))) ∧ h'' = mk I J) hn h9 n 0 (by omega)
  rw [lsN, nI_0] at h
  rw [x_Ref_leftSet_0, x_Ref_leftSet_1, x_Ref_leftSet_2, x_Ref_leftSet_3, h]
  simp only [x_Ref_leftSet_0, x_Ref_leftSet_1, x_Ref_leftSet_2, x_Ref_leftSet_3, x_Ref_leftSet_5, x_Ref_leftSet_6, x_Ref_leftSet_9, x_Ref_leftSet_11, x_Ref_leftSet_12, x_Ref_leftSet_15, x_Ref_leftSet_16, x_Ref_leftSet_17, x_Ref_leftSet_18, x_Ref_leftSet_21, x_Ref_leftSet_24, x_Ref_leftSet_25, x_Ref_leftSet_26, x_Ref_leftSet_27, x_Ref_leftSet_30, x_Ref_leftSet_31, x_Ref_leftSet_32, x_Ref_leftSet_33, x_Ref_leftSet_36, x_Ref_leftSet_39, x_Ref_leftSet_40]
  exact ⟨trivial, trivial⟩
/-- whether the i-th bit of a small set is there -/
theorem bit_at : ∀ i, i < 9 → ∀ a, a < 512 → ((nI a >>> (nI i &&& 31) &&& 1 : Int32) = 1) = (a.testBit i = true) := by
  intro i hi a ha
  have h : ∀ i, i < 9 → ∀ a, a < 512 → (decide ((nI a >>> (nI i &&& 31) &&& 1 : Int32) = 1) = a.testBit i) := by decide +kernel
  have := h i hi a ha
  rw [← this, decide_eq_true_eq]
theorem l_Ref_leastAll {d n a : Nat} {I : mx_I} {J : mx_J} {P : mx_P} (hn : I 95 6 = nI n) (h9 : n ≤ 9) (ha : a < 512) : ∀ (k i : Nat), i + k = n → mx_R k_Ref_leastAll (mx_Cal mx_tab (d + 2)) 4 [some (.ref 94), some (.int (nI a)), some (.int (sm (fun i => if a.testBit i = true then rL I i else 0) i)), some (.int (nI i))] [] (mk I J) P = mx_R k_Ref_leastAll (mx_Cal mx_tab (d + 2)) 42 [some (.ref 94), some (.int (nI a)), some (.int (sm (fun i => if a.testBit i = true then rL I i else 0) n)), some (.int (nI n))] [] (mk I J) P
  | 0, i, h => by
    have : i = n := by omega
    subst this
    rw [x_Ref_leastAll_4]
    simp only [x_Ref_leastAll_0, x_Ref_leastAll_1, x_Ref_leastAll_2, x_Ref_leastAll_3, x_Ref_leastAll_5, x_Ref_leastAll_6, x_Ref_leastAll_9, x_Ref_leastAll_11, x_Ref_leastAll_12, x_Ref_leastAll_15, x_Ref_leastAll_16, x_Ref_leastAll_17, x_Ref_leastAll_18, x_Ref_leastAll_19, x_Ref_leastAll_20, x_Ref_leastAll_21, x_Ref_leastAll_22, x_Ref_leastAll_25, x_Ref_leastAll_26, x_Ref_leastAll_27, x_Ref_leastAll_30, x_Ref_leastAll_33, x_Ref_leastAll_34, x_Ref_leastAll_35, x_Ref_leastAll_36, x_Ref_leastAll_39, x_Ref_leastAll_43, mk_I, mk_J, mk_Q, mk_n, mk_sI, mk_sJ, Option.toList_some, Option.toList_none, List.cons_append, List.nil_append, true_and, and_true, oc_94, rt_94_0, rt_94_1, rt_94_3, rt_94_8, rt_94_9, rt_94_10, rt_94_11, rt_94_12, rt_94_15, rt_94_16, rt_94_18, rt_94_21, rt_94_22, rt_94_23, rt_94_24, or_95, tc_0, kc_0, tc_1, kc_1, tc_2, kc_2, tc_3, kc_3, tc_4, kc_4, tc_5, kc_5, tc_6, kc_6, tc_7, kc_7, hn]
    rw [if_pos (nI_le (Nat.le_refl _) (by omega))]
  | k + 1, i, h => by
    rw [x_Ref_leastAll_4]
    simp only [x_Ref_leastAll_0, x_Ref_leastAll_1, x_Ref_leastAll_2, x_Ref_leastAll_3, x_Ref_leastAll_5, x_Ref_leastAll_6, x_Ref_leastAll_9, x_Ref_leastAll_11, x_Ref_leastAll_12, x_Ref_leastAll_15, x_Ref_leastAll_16, x_Ref_leastAll_17, x_Ref_leastAll_18, x_Ref_leastAll_19, x_Ref_leastAll_20, x_Ref_leastAll_21, x_Ref_leastAll_22, x_Ref_leastAll_25, x_Ref_leastAll_26, x_Ref_leastAll_27, x_Ref_leastAll_30, x_Ref_leastAll_33, x_Ref_leastAll_34, x_Ref_leastAll_35, x_Ref_leastAll_36, x_Ref_leastAll_39, x_Ref_leastAll_43, mk_I, mk_J, mk_Q, mk_n, mk_sI, mk_sJ, Option.toList_some, Option.toList_none, List.cons_append, List.nil_append, true_and, and_true, oc_94, rt_94_0, rt_94_1, rt_94_3, rt_94_8, rt_94_9, rt_94_10, rt_94_11, rt_94_12, rt_94_15, rt_94_16, rt_94_18, rt_94_21, rt_94_22, rt_94_23, rt_94_24, or_95, tc_0, kc_0, tc_1, kc_1, tc_2, kc_2, tc_3, kc_3, tc_4, kc_4, tc_5, kc_5, tc_6, kc_6, tc_7, kc_7, hn, mx_call (q_Ref_leastOf I J (show i < 9 by omega)) (Nat.le_add_left 2 d), nI_1]
    rw [if_neg (nI_ge (by omega) (by omega)), ← l_Ref_leastAll hn h9 ha k (i + 1) (by omega)]
    have hb := bit_at i (by omega) a ha
    by_cases hf : a.testBit i = true
    · have hb1 : (nI a >>> (nI i &&& 31) &&& 1 : Int32) = 1 := by rw [hb]; exact hf
      simp [hb1, sm, hf]
    · have hb1 : ¬ (nI a >>> (nI i &&& 31) &&& 1 : Int32) = 1 := by rw [hb]; exact hf
      simp [hb1, sm, hf]
theorem q_Ref_leastAll {d n a : Nat} {I : mx_I} (J : mx_J) (hn : I 95 6 = nI n) (h9 : n ≤ 9) (ha : a < 512) : mx_Cal mx_tab (d + 3) 173 [.ref 94, .int (nI a)] (mk I J) (some (.int (sm (fun i => if a.testBit i = true then rL I i else 0) n))) (mk I J) := by
  refine mx_Cal_in (ls := [some (.ref 94), some (.int (nI a)), none, none]) tab_173 (by rw [mx_rcv, oc_94]; trivial) (Nat.le_of_ble_eq_true rfl) rfl ?_
  have h := l_Ref_leastAll (d := d) (J := J) (P := fun v' h'' => v' = some (.int (sm (fun i => if a.testBit i = true then rL I i else 0) n)) ∧ h'' = mk I J) hn h9 ha n 0 (by omega)
  rw [sm, nI_0] at h
  rw [x_Ref_leastAll_0, x_Ref_leastAll_1, x_Ref_leastAll_2, x_Ref_leastAll_3, h]
  simp only [x_Ref_leastAll_0, x_Ref_leastAll_1, x_Ref_leastAll_2, x_Ref_leastAll_3, x_Ref_leastAll_5, x_Ref_leastAll_6, x_Ref_leastAll_9, x_Ref_leastAll_11, x_Ref_leastAll_12, x_Ref_leastAll_15, x_Ref_leastAll_16, x_Ref_leastAll_17, x_Ref_leastAll_18, x_Ref_leastAll_19, x_Ref_leastAll_20, x_Ref_leastAll_21, x_Ref_leastAll_22, x_Ref_leastAll_25, x_Ref_leastAll_26, x_Ref_leastAll_27, x_Ref_leastAll_30, x_Ref_leastAll_33, x_Ref_leastAll_34, x_Ref_leastAll_35, x_Ref_leastAll_36, x_Ref_leastAll_39, x_Ref_leastAll_42, x_Ref_leastAll_43]
  exact ⟨trivial, trivial⟩
theorem l_Ref_mostAll {d n a : Nat} {I : mx_I} {J : mx_J} {P : mx_P} (hn : I 95 6 = nI n) (h9 : n ≤ 9) (ha : a < 512) : ∀ (k i : Nat), i + k = n → mx_R k_Ref_mostAll (mx_Cal mx_tab (d + 2)) 4 [some (.ref 94), some (.int (nI a)), some (.int (sm (fun i => if a.testBit i = true then rM I i else 0) i)), some (.int (nI i))] [] (mk I J) P = mx_R k_Ref_mostAll (mx_Cal mx_tab (d + 2)) 42 [some (.ref 94), some (.int (nI a)), some (.int (sm (fun i => if a.testBit i = true then rM I i else 0) n)), some (.int (nI n))] [] (mk I J) P
  | 0, i, h => by
    have : i = n := by omega
    subst this
    rw [x_Ref_mostAll_4]
    simp only [x_Ref_mostAll_0, x_Ref_mostAll_1, x_Ref_mostAll_2, x_Ref_mostAll_3, x_Ref_mostAll_5, x_Ref_mostAll_6, x_Ref_mostAll_9, x_Ref_mostAll_11, x_Ref_mostAll_12, x_Ref_mostAll_15, x_Ref_mostAll_16, x_Ref_mostAll_17, x_Ref_mostAll_18, x_Ref_mostAll_19, x_Ref_mostAll_20, x_Ref_mostAll_21, x_Ref_mostAll_22, x_Ref_mostAll_25, x_Ref_mostAll_26, x_Ref_mostAll_27, x_Ref_mostAll_30, x_Ref_mostAll_33, x_Ref_mostAll_34, x_Ref_mostAll_35, x_Ref_mostAll_36, x_Ref_mostAll_39, x_Ref_mostAll_43, mk_I, mk_J, mk_Q, mk_n, mk_sI, mk_sJ, Option.toList_some, Option.toList_none, List.cons_append, List.nil_append, true_and, and_true, oc_94, rt_94_0, rt_94_1, rt_94_3, rt_94_8, rt_94_9, rt_94_10, rt_94_11, rt_94_12, rt_94_15, rt_94_16, rt_94_18, rt_94_21, rt_94_22, rt_94_23, rt_94_24, or_95, tc_0, kc_0, tc_1, kc_1, tc_2, kc_2, tc_3, kc_3, tc_4, kc_4, tc_5, kc_5, tc_6, kc_6, tc_7, kc_7, hn]
    rw [if_pos (nI_le (Nat.le_refl _) (by omega))]
  | k + 1, i, h => by
    rw [x_Ref_mostAll_4]
    simp only [x_Ref_mostAll_0, x_Ref_mostAll_1, x_Ref_mostAll_2, x_Ref_mostAll_3, x_Ref_mostAll_5, x_Ref_mostAll_6, x_Ref_mostAll_9, x_Ref_mostAll_11, x_Ref_mostAll_12, x_Ref_mostAll_15, x_Ref_mostAll_16, x_Ref_mostAll_17, x_Ref_mostAll_18, x_Ref_mostAll_19, x_Ref_mostAll_20, x_Ref_mostAll_21, x_Ref_mostAll_22, x_Ref_mostAll_25, x_Ref_mostAll_26, x_Ref_mostAll_27, x_Ref_mostAll_30, x_Ref_mostAll_33, x_Ref_mostAll_34, x_Ref_mostAll_35, x_Ref_mostAll_36, x_Ref_mostAll_39, x_Ref_mostAll_43, mk_I, mk_J, mk_Q, mk_n, mk_sI, mk_sJ, Option.toList_some, Option.toList_none, List.cons_append, List.nil_append, true_and, and_true, oc_94, rt_94_0, rt_94_1, rt_94_3, rt_94_8, rt_94_9, rt_94_10, rt_94_11, rt_94_12, rt_94_15, rt_94_16, rt_94_18, rt_94_21, rt_94_22, rt_94_23, rt_94_24, or_95, tc_0, kc_0, tc_1, kc_1, tc_2, kc_2, tc_3, kc_3, tc_4, kc_4, tc_5, kc_5, tc_6, kc_6, tc_7, kc_7, hn, mx_call (q_Ref_mostOf I J (show i < 9 by omega)) (Nat.le_add_left 2 d), nI_1]
    rw [if_neg (nI_ge (by omega) (by omega)), ← l_Ref_mostAll hn h9 ha k (i + 1) (by omega)]
    have hb := bit_at i (by omega) a ha
    by_cases hf : a.testBit i = true
    · have hb1 : (nI a >>> (nI i &&& 31) &&& 1 : Int32) = 1 := by rw [hb]; exact hf
      simp [hb1, sm, hf]
    · have hb1 : ¬ (nI a >>> (nI i &&& 31) &&& 1 : Int32) = 1 := by rw [hb]; exact hf
      simp [hb1, sm, hf]
theorem q_Ref_mostAll {d n a : Nat} {I : mx_I} (J : mx_J) (hn : I 95 6 = nI n) (h9 : n ≤ 9) (ha : a < 512) : mx_Cal mx_tab (d + 3) 174 [.ref 94, .int (nI a)] (mk I J) (some (.int (sm (fun i => if a.testBit i = true then rM I i else 0) n))) (mk I J) := by
  refine mx_Cal_in (ls := [some (.ref 94), some (.int (nI a)), none, none]) tab_174 (by rw [mx_rcv, oc_94]; trivial) (Nat.le_of_ble_eq_true rfl) rfl ?_
  have h := l_Ref_mostAll (d := d) (J := J) (P := fun v' h'' => v' = some (.int (sm (fun i => if a.testBit i = true then rM I i else 0) n)) ∧ h'' = mk I J) hn h9 ha n 0 (by omega)
  rw [sm, nI_0] at h
  rw [x_Ref_mostAll_0, x_Ref_mostAll_1, x_Ref_mostAll_2, x_Ref_mostAll_3, h]
  simp only [x_Ref_mostAll_0, x_Ref_mostAll_1, x_Ref_mostAll_2, x_Ref_mostAll_3, x_Ref_mostAll_5, x_Ref_mostAll_6, x_Ref_mostAll_9, x_Ref_mostAll_11, x_Ref_mostAll_12, x_Ref_mostAll_15, x_Ref_mostAll_16, x_Ref_mostAll_17, x_Ref_mostAll_18, x_Ref_mostAll_19, x_Ref_mostAll_20, x_Ref_mostAll_21, x_Ref_mostAll_22, x_Ref_mostAll_25, x_Ref_mostAll_26, x_Ref_mostAll_27, x_Ref_mostAll_30, x_Ref_mostAll_33, x_Ref_mostAll_34, x_Ref_mostAll_35, x_Ref_mostAll_36, x_Ref_mostAll_39, x_Ref_mostAll_42, x_Ref_mostAll_43]
  exact ⟨trivial, trivial⟩
def rT (I : mx_I) (i : Nat) : Int32 := I 95 (8 + 5 * i + 2)
theorem l_Ref_truthAll {d n a : Nat} {I : mx_I} {J : mx_J} {P : mx_P} (hn : I 95 6 = nI n) (h9 : n ≤ 9) (ha : a < 512) : ∀ (k i : Nat), i + k = n → mx_R k_Ref_truthAll (mx_Cal mx_tab (d + 2)) 4 [some (.ref 94), some (.int (nI a)), some (.int (sm (fun i => if a.testBit i = true then rT I i else 0) i)), some (.int (nI i))] [] (mk I J) P = mx_R k_Ref_truthAll (mx_Cal mx_tab (d + 2)) 43 [some (.ref 94), some (.int (nI a)), some (.int (sm (fun i => if a.testBit i = true then rT I i else 0) n)), some (.int (nI n))] [] (mk I J) P
  | 0, i, h => by
    have : i = n := by omega
    subst this
    rw [x_Ref_truthAll_4]
    simp only [x_Ref_truthAll_0, x_Ref_truthAll_1, x_Ref_truthAll_2, x_Ref_truthAll_3, x_Ref_truthAll_5, x_Ref_truthAll_6, x_Ref_truthAll_9, x_Ref_truthAll_11, x_Ref_truthAll_12, x_Ref_truthAll_15, x_Ref_truthAll_16, x_Ref_truthAll_17, x_Ref_truthAll_18, x_Ref_truthAll_19, x_Ref_truthAll_20, x_Ref_truthAll_21, x_Ref_truthAll_22, x_Ref_truthAll_25, x_Ref_truthAll_26, x_Ref_truthAll_27, x_Ref_truthAll_28, x_Ref_truthAll_31, x_Ref_truthAll_34, x_Ref_truthAll_35, x_Ref_truthAll_36, x_Ref_truthAll_37, x_Ref_truthAll_40, x_Ref_truthAll_44, mk_I, mk_J, mk_Q, mk_n, mk_sI, mk_sJ, Option.toList_some, Option.toList_none, List.cons_append, List.nil_append, true_and, and_true, oc_94, rt_94_0, rt_94_1, rt_94_3, rt_94_8, rt_94_9, rt_94_10, rt_94_11, rt_94_12, rt_94_15, rt_94_16, rt_94_18, rt_94_21, rt_94_22, rt_94_23, rt_94_24, or_95, tc_0, kc_0, tc_1, kc_1, tc_2, kc_2, tc_3, kc_3, tc_4, kc_4, tc_5, kc_5, tc_6, kc_6, tc_7, kc_7, hn]
    rw [if_pos (nI_le (Nat.le_refl _) (by omega))]
  | k + 1, i, h => by
    rw [x_Ref_truthAll_4]
    simp only [x_Ref_truthAll_0, x_Ref_truthAll_1, x_Ref_truthAll_2, x_Ref_truthAll_3, x_Ref_truthAll_5, x_Ref_truthAll_6, x_Ref_truthAll_9, x_Ref_truthAll_11, x_Ref_truthAll_12, x_Ref_truthAll_15, x_Ref_truthAll_16, x_Ref_truthAll_17, x_Ref_truthAll_18, x_Ref_truthAll_19, x_Ref_truthAll_20, x_Ref_truthAll_21, x_Ref_truthAll_22, x_Ref_truthAll_25, x_Ref_truthAll_26, x_Ref_truthAll_27, x_Ref_truthAll_28, x_Ref_truthAll_31, x_Ref_truthAll_34, x_Ref_truthAll_35, x_Ref_truthAll_36, x_Ref_truthAll_37, x_Ref_truthAll_40, x_Ref_truthAll_44, mk_I, mk_J, mk_Q, mk_n, mk_sI, mk_sJ, Option.toList_some, Option.toList_none, List.cons_append, List.nil_append, true_and, and_true, oc_94, rt_94_0, rt_94_1, rt_94_3, rt_94_8, rt_94_9, rt_94_10, rt_94_11, rt_94_12, rt_94_15, rt_94_16, rt_94_18, rt_94_21, rt_94_22, rt_94_23, rt_94_24, or_95, tc_0, kc_0, tc_1, kc_1, tc_2, kc_2, tc_3, kc_3, tc_4, kc_4, tc_5, kc_5, tc_6, kc_6, tc_7, kc_7, hn, mx_call (q_Ref_its_2 I J (show i < 9 by omega)) (Nat.le_add_left 1 (d + 1)), nI_1]
    rw [if_neg (nI_ge (by omega) (by omega)), ← l_Ref_truthAll hn h9 ha k (i + 1) (by omega)]
    have hb := bit_at i (by omega) a ha
    by_cases hf : a.testBit i = true
    · have hb1 : (nI a >>> (nI i &&& 31) &&& 1 : Int32) = 1 := by rw [hb]; exact hf
      simp [hb1, sm, hf, rT]
    · have hb1 : ¬ (nI a >>> (nI i &&& 31) &&& 1 : Int32) = 1 := by rw [hb]; exact hf
      simp [hb1, sm, hf]
theorem q_Ref_truthAll {d n a : Nat} {I : mx_I} (J : mx_J) (hn : I 95 6 = nI n) (h9 : n ≤ 9) (ha : a < 512) : mx_Cal mx_tab (d + 3) 214 [.ref 94, .int (nI a)] (mk I J) (some (.int (sm (fun i => if a.testBit i = true then rT I i else 0) n))) (mk I J) := by
  refine mx_Cal_in (ls := [some (.ref 94), some (.int (nI a)), none, none]) tab_214 (by rw [mx_rcv, oc_94]; trivial) (Nat.le_of_ble_eq_true rfl) rfl ?_
  have h := l_Ref_truthAll (d := d) (J := J) (P := fun v' h'' => v' = some (.int (sm (fun i => if a.testBit i = true then rT I i else 0) n)) ∧ h'' = mk I J) hn h9 ha n 0 (by omega)
  rw [sm, nI_0] at h
  rw [x_Ref_truthAll_0, x_Ref_truthAll_1, x_Ref_truthAll_2, x_Ref_truthAll_3, h]
  simp only [x_Ref_truthAll_0, x_Ref_truthAll_1, x_Ref_truthAll_2, x_Ref_truthAll_3, x_Ref_truthAll_5, x_Ref_truthAll_6, x_Ref_truthAll_9, x_Ref_truthAll_11, x_Ref_truthAll_12, x_Ref_truthAll_15, x_Ref_truthAll_16, x_Ref_truthAll_17, x_Ref_truthAll_18, x_Ref_truthAll_19, x_Ref_truthAll_20, x_Ref_truthAll_21, x_Ref_truthAll_22, x_Ref_truthAll_25, x_Ref_truthAll_26, x_Ref_truthAll_27, x_Ref_truthAll_28, x_Ref_truthAll_31, x_Ref_truthAll_34, x_Ref_truthAll_35, x_Ref_truthAll_36, x_Ref_truthAll_37, x_Ref_truthAll_40, x_Ref_truthAll_43, x_Ref_truthAll_44]
  exact ⟨trivial, trivial⟩
