/-! the class's ITEMS (the object 2), method by method -/
theorem L3 : isLn 3 = true := by decide +kernel
theorem L5 : isLn 5 = true := by decide +kernel
theorem L7 : isLn 7 = true := by decide +kernel
theorem L9 : isLn 9 = true := by decide +kernel
theorem L11 : isLn 11 = true := by decide +kernel
theorem at3 (I : mx_I) {k : Nat} (hk : k < 9) : at_ I 3 (nI k) = I 4 k := at_nI (r := 3) (hk : k < ln 3) (by decide +kernel)
theorem at5 (I : mx_I) {k : Nat} (hk : k < 9) : at_ I 5 (nI k) = I 6 k := at_nI (r := 5) (hk : k < ln 5) (by decide +kernel)
theorem at7 (I : mx_I) {k : Nat} (hk : k < 9) : at_ I 7 (nI k) = I 8 k := at_nI (r := 7) (hk : k < ln 7) (by decide +kernel)
theorem at9 (I : mx_I) {k : Nat} (hk : k < 9) : at_ I 9 (nI k) = I 10 k := at_nI (r := 9) (hk : k < ln 9) (by decide +kernel)
theorem at11 (I : mx_I) {k : Nat} (hk : k < 9) : at_ I 11 (nI k) = I 12 k := at_nI (r := 11) (hk : k < ln 11) (by decide +kernel)
theorem q_Items_has {d : Nat} (I : mx_I) (J : mx_J) (i : Int32) : mx_Cal mx_tab (d + 1) 14 [.ref 2, .int i] (mk I J) (some (.int (if i < 0 then 0 else if I 2 0 ≤ i then 0 else 1))) (mk I J) := by
  refine mx_Cal_in (ls := [some (.ref 2), some (.int i)]) tab_14 (by rw [mx_rcv, oc_2]; trivial) (Nat.le_of_ble_eq_true rfl) rfl ?_
  simp only [x_Items_has_0, x_Items_has_1, x_Items_has_4, x_Items_has_5, x_Items_has_6, x_Items_has_9, x_Items_has_12, x_Items_has_13, x_Items_has_16, x_Items_has_17, mk_I, mk_J, mk_Q, mk_n, mk_sI, mk_sJ, Option.toList_some, Option.toList_none, List.cons_append, List.nil_append, true_and, and_true, oc_2]
  by_cases h1 : i < 0
  · simp [h1]
  · by_cases h2 : I 2 0 ≤ i <;> simp [h1, h2]
theorem q_Items_isLeft {d n k : Nat} {I : mx_I} (J : mx_J) (hn : I 2 0 = nI n) (h9 : n ≤ 9) (hk : k < n) : mx_Cal mx_tab (d + 2) 15 [.ref 2, .int (nI k)] (mk I J) (some (.int (if I 10 k = 0 then 1 else 0))) (mk I J) := by
  refine mx_Cal_in (ls := [some (.ref 2), some (.int (nI k))]) tab_15 (by rw [mx_rcv, oc_2]; trivial) (Nat.le_of_ble_eq_true rfl) rfl ?_
  simp only [x_Items_isLeft_0, x_Items_isLeft_1, x_Items_isLeft_2, x_Items_isLeft_5, x_Items_isLeft_8, x_Items_isLeft_9, x_Items_isLeft_12, x_Items_isLeft_13, x_Items_isLeft_16, x_Items_isLeft_19, x_Items_isLeft_20, x_Items_isLeft_23, x_Items_isLeft_24, mk_I, mk_J, mk_Q, mk_n, mk_sI, mk_sJ, Option.toList_some, Option.toList_none, List.cons_append, List.nil_append, true_and, and_true, oc_2, rt_2_1, rt_2_2, rt_2_3, rt_2_4, rt_2_5, mx_call (q_Items_has _ _ _) (Nat.le_add_left 1 _), mx_call (q_Line_at L9 _ _ _) (Nat.le_add_left 1 _), hn, at9 I (show k < 9 by omega)]
  rw [if_neg (nI_pos (by omega)), if_neg (nI_ge hk (by omega))]
  by_cases h : I 10 k = 0 <;> simp [h]
/-- which are left, as bits -/
def lsN (f : Nat → Int32) : Nat → Nat
  | 0 => 0
  | i + 1 => lsN f i + (if f i = 0 then 2 ^ i else 0)
theorem lsN_lt (f : Nat → Int32) : ∀ n, lsN f n < 2 ^ n
  | 0 => Nat.lt_of_lt_of_eq Nat.zero_lt_one rfl
  | n + 1 => by
    have := lsN_lt f n
    unfold lsN
    rw [Nat.pow_succ]
    split <;> omega
theorem or_bit : ∀ i, i < 9 → ∀ a, a < 2 ^ i → (nI a ||| ((1 : Int32) <<< (nI i &&& 31))) = nI (a + 2 ^ i) := by decide +kernel
theorem l_Items_leftSet {d n : Nat} {I : mx_I} {J : mx_J} {P : mx_P} (hn : I 2 0 = nI n) (h9 : n ≤ 9) : ∀ (k i : Nat), i + k = n → mx_R k_Items_leftSet (mx_Cal mx_tab (d + 2)) 4 [some (.ref 2), some (.int (nI (lsN (I 10) i))), some (.int (nI i))] [] (mk I J) P = mx_R k_Items_leftSet (mx_Cal mx_tab (d + 2)) 32 [some (.ref 2), some (.int (nI (lsN (I 10) n))), some (.int (nI n))] [] (mk I J) P
  | 0, i, h => by
    have : i = n := by omega
    subst this
    rw [x_Items_leftSet_4]
    simp only [x_Items_leftSet_0, x_Items_leftSet_1, x_Items_leftSet_2, x_Items_leftSet_3, x_Items_leftSet_5, x_Items_leftSet_6, x_Items_leftSet_9, x_Items_leftSet_12, x_Items_leftSet_13, x_Items_leftSet_14, x_Items_leftSet_17, x_Items_leftSet_20, x_Items_leftSet_21, x_Items_leftSet_22, x_Items_leftSet_23, x_Items_leftSet_24, x_Items_leftSet_25, x_Items_leftSet_26, x_Items_leftSet_29, x_Items_leftSet_33, mk_I, mk_J, mk_Q, mk_n, mk_sI, mk_sJ, Option.toList_some, Option.toList_none, List.cons_append, List.nil_append, true_and, and_true, oc_2, hn]
    rw [if_pos (nI_le (Nat.le_refl _) (by omega))]
  | k + 1, i, h => by
    rw [x_Items_leftSet_4]
    simp only [x_Items_leftSet_0, x_Items_leftSet_1, x_Items_leftSet_2, x_Items_leftSet_3, x_Items_leftSet_5, x_Items_leftSet_6, x_Items_leftSet_9, x_Items_leftSet_12, x_Items_leftSet_13, x_Items_leftSet_14, x_Items_leftSet_17, x_Items_leftSet_20, x_Items_leftSet_21, x_Items_leftSet_22, x_Items_leftSet_23, x_Items_leftSet_24, x_Items_leftSet_25, x_Items_leftSet_26, x_Items_leftSet_29, x_Items_leftSet_33, mk_I, mk_J, mk_Q, mk_n, mk_sI, mk_sJ, Option.toList_some, Option.toList_none, List.cons_append, List.nil_append, true_and, and_true, oc_2, hn, mx_call (q_Items_isLeft J hn h9 (show i < n by omega)) (Nat.le_add_left 2 d), nI_1]
    rw [if_neg (nI_ge (by omega) (by omega)), ← l_Items_leftSet hn h9 k (i + 1) (by omega)]
    have hl := lsN_lt (I 10) i
    by_cases hf : I 10 i = 0
    · simp only [hf, if_true, or_bit i (by omega) _ hl, lsN]
      simp
    · simp only [hf, if_false, if_true, lsN, Nat.add_zero]
theorem q_Items_leftSet {d n : Nat} {I : mx_I} (J : mx_J) (hn : I 2 0 = nI n) (h9 : n ≤ 9) : mx_Cal mx_tab (d + 3) 24 [.ref 2] (mk I J) (some (.int (nI (lsN (I 10) n)))) (mk I J) := by
  refine mx_Cal_in (ls := [some (.ref 2), none, none]) tab_24 (by rw [mx_rcv, oc_2]; trivial) (Nat.le_of_ble_eq_true rfl) rfl ?_
  rw [x_Items_leftSet_0, x_Items_leftSet_1, x_Items_leftSet_2, x_Items_leftSet_3, ← nI_0]
  have h := l_Items_leftSet (d := d) (J := J) (P := fun v' h'' => v' = some (.int (nI (lsN (I 10) n))) ∧ h'' = mk I J) hn h9 n 0 (by omega)
  rw [lsN] at h
  rw [h]
  simp only [x_Items_leftSet_0, x_Items_leftSet_1, x_Items_leftSet_2, x_Items_leftSet_3, x_Items_leftSet_5, x_Items_leftSet_6, x_Items_leftSet_9, x_Items_leftSet_12, x_Items_leftSet_13, x_Items_leftSet_14, x_Items_leftSet_17, x_Items_leftSet_20, x_Items_leftSet_21, x_Items_leftSet_22, x_Items_leftSet_23, x_Items_leftSet_24, x_Items_leftSet_25, x_Items_leftSet_26, x_Items_leftSet_29, x_Items_leftSet_32, x_Items_leftSet_33]
  exact ⟨trivial, trivial⟩
