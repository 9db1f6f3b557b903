/-! the reference (the object 94), method by method: the plain ones -/
theorem ite_le {α : Sort _} (a b : Int32) (X Y : α) : (if b ≤ a then X else Y) = if a < b then Y else X := by
  by_cases h : a < b
  · rw [if_pos h, if_neg (Int32.not_le.mpr h)]
  · rw [if_neg h, if_pos (Int32.not_lt.mp h)]
theorem its_ix (i w : Nat) : 8 + 5 * nI i + nI w = nI (8 + 5 * i + w) := by
  show nI 8 + nI 5 * nI i + nI w = _
  rw [pk_mul, nI_add, nI_add]
theorem tc_0 : (0 : Int32).toNatClampNeg = 0 := rfl
theorem kc_0 : ((0 : Int32) ≤ 0 ∧ 0 < 387) = True := by decide
theorem tc_1 : (1 : Int32).toNatClampNeg = 1 := rfl
theorem kc_1 : ((0 : Int32) ≤ 1 ∧ 1 < 387) = True := by decide
theorem tc_2 : (2 : Int32).toNatClampNeg = 2 := rfl
theorem kc_2 : ((0 : Int32) ≤ 2 ∧ 2 < 387) = True := by decide
theorem tc_3 : (3 : Int32).toNatClampNeg = 3 := rfl
theorem kc_3 : ((0 : Int32) ≤ 3 ∧ 3 < 387) = True := by decide
theorem tc_4 : (4 : Int32).toNatClampNeg = 4 := rfl
theorem kc_4 : ((0 : Int32) ≤ 4 ∧ 4 < 387) = True := by decide
theorem tc_5 : (5 : Int32).toNatClampNeg = 5 := rfl
theorem kc_5 : ((0 : Int32) ≤ 5 ∧ 5 < 387) = True := by decide
theorem tc_6 : (6 : Int32).toNatClampNeg = 6 := rfl
theorem kc_6 : ((0 : Int32) ≤ 6 ∧ 6 < 387) = True := by decide
theorem tc_7 : (7 : Int32).toNatClampNeg = 7 := rfl
theorem kc_7 : ((0 : Int32) ≤ 7 ∧ 7 < 387) = True := by decide
theorem q_Ref_in {d : Nat} (h : mx_H) (v lo hi : Int32) : mx_Cal mx_tab (d + 1) 145 [.int v, .int lo, .int hi] h (some (.int (if v < lo then 0 else if hi < v then 0 else 1))) h := by
  refine mx_Cal_in (ls := [some (.int v), some (.int lo), some (.int hi)]) tab_145 trivial (Nat.le_of_ble_eq_true rfl) rfl ?_
  simp only [x_Ref_in_0, x_Ref_in_1, x_Ref_in_2, x_Ref_in_5, x_Ref_in_6, x_Ref_in_7, x_Ref_in_10, x_Ref_in_11, x_Ref_in_14, x_Ref_in_15, mk_I, mk_J, mk_Q, mk_n, mk_sI, mk_sJ, Option.toList_some, Option.toList_none, List.cons_append, List.nil_append, true_and, and_true]
  by_cases h1 : v < lo
  · simp [h1]
  · by_cases h2 : hi < v <;> simp [h1, h2]
theorem q_Ref_held {d : Nat} (h : mx_H) (v lo hi : Int32) : mx_Cal mx_tab (d + 1) 146 [.int v, .int lo, .int hi] h (some (.int (if v < lo then lo else if hi < v then hi else v))) h := by
  refine mx_Cal_in (ls := [some (.int v), some (.int lo), some (.int hi)]) tab_146 trivial (Nat.le_of_ble_eq_true rfl) rfl ?_
  simp only [x_Ref_held_0, x_Ref_held_1, x_Ref_held_2, x_Ref_held_5, x_Ref_held_6, x_Ref_held_9, x_Ref_held_10, x_Ref_held_11, x_Ref_held_14, x_Ref_held_15, x_Ref_held_18, x_Ref_held_19, mk_I, mk_J, mk_Q, mk_n, mk_sI, mk_sJ, Option.toList_some, Option.toList_none, List.cons_append, List.nil_append, true_and, and_true, ite_le]
  by_cases h1 : v < lo
  · simp only [h1, if_true]
  · by_cases h2 : hi < v <;> simp only [h1, h2, if_true, if_false]
theorem q_Ref_error {d k : Nat} (I : mx_I) (J : mx_J) (hk : k < 7) : mx_Cal mx_tab (d + 1) 144 [.ref 94, .int (nI k)] (mk I J) (some (.int (-1000000000 - nI k))) (mk (mx_ups I 97 k (I 97 k + 1)) J) := by
  refine mx_Cal_in (ls := [some (.ref 94), some (.int (nI k))]) tab_144 (by rw [mx_rcv, oc_94]; trivial) (Nat.le_of_ble_eq_true rfl) rfl ?_
  have h3 := nI_rng hk (show 7 ≤ 2 ^ 31 by decide)
  rw [nI_clamp (by omega)] at h3
  simp only [x_Ref_error_0, x_Ref_error_1, x_Ref_error_4, x_Ref_error_5, x_Ref_error_6, x_Ref_error_7, x_Ref_error_8, x_Ref_error_9, x_Ref_error_10, x_Ref_error_12, x_Ref_error_13, x_Ref_error_14, mk_I, mk_J, mk_Q, mk_n, mk_sI, mk_sJ, Option.toList_some, Option.toList_none, List.cons_append, List.nil_append, true_and, and_true, oc_94, rt_94_0, rt_94_1, rt_94_3, rt_94_8, rt_94_9, rt_94_10, rt_94_11, rt_94_12, rt_94_15, rt_94_16, rt_94_18, rt_94_21, rt_94_22, rt_94_23, rt_94_24, or_97, oa_97, nI_clamp (show k < 2 ^ 31 by omega), h3]
theorem q_Ref_its_0 {d i : Nat} (I : mx_I) (J : mx_J) (hi : i < 9) : mx_Cal mx_tab (d + 1) 149 [.ref 94, .int (nI i), .int 0] (mk I J) (some (.int (I 95 (8 + 5 * i)))) (mk I J) := by
  refine mx_Cal_in (ls := [some (.ref 94), some (.int (nI i)), some (.int 0)]) tab_149 (by rw [mx_rcv, oc_94]; trivial) (Nat.le_of_ble_eq_true rfl) rfl ?_
  have h3 := nI_rng (show 8 + 5 * i + 0 < 387 by omega) (by decide)
  have h4 := nI_clamp (show 8 + 5 * i + 0 < 2 ^ 31 by omega)
  rw [h4] at h3
  have e := its_ix i 0
  rw [nI_0] at e
  simp only [Nat.add_zero] at h3 h4 e
  simp only [x_Ref_its_0, x_Ref_its_1, x_Ref_its_4, x_Ref_its_6, x_Ref_its_7, x_Ref_its_8, x_Ref_its_9, x_Ref_its_10, x_Ref_its_11, x_Ref_its_12, x_Ref_its_13, mk_I, mk_J, mk_Q, mk_n, mk_sI, mk_sJ, Option.toList_some, Option.toList_none, List.cons_append, List.nil_append, true_and, and_true, oc_94, rt_94_0, rt_94_1, rt_94_3, rt_94_8, rt_94_9, rt_94_10, rt_94_11, rt_94_12, rt_94_15, rt_94_16, rt_94_18, rt_94_21, rt_94_22, rt_94_23, rt_94_24, or_95, e, h4, h3]
theorem q_Ref_its_1 {d i : Nat} (I : mx_I) (J : mx_J) (hi : i < 9) : mx_Cal mx_tab (d + 1) 149 [.ref 94, .int (nI i), .int 1] (mk I J) (some (.int (I 95 (8 + 5 * i + 1)))) (mk I J) := by
  refine mx_Cal_in (ls := [some (.ref 94), some (.int (nI i)), some (.int 1)]) tab_149 (by rw [mx_rcv, oc_94]; trivial) (Nat.le_of_ble_eq_true rfl) rfl ?_
  have h3 := nI_rng (show 8 + 5 * i + 1 < 387 by omega) (by decide)
  have h4 := nI_clamp (show 8 + 5 * i + 1 < 2 ^ 31 by omega)
  rw [h4] at h3
  have e : 8 + 5 * nI i + 1 = nI (8 + 5 * i + 1) := its_ix i 1
  simp only [x_Ref_its_0, x_Ref_its_1, x_Ref_its_4, x_Ref_its_6, x_Ref_its_7, x_Ref_its_8, x_Ref_its_9, x_Ref_its_10, x_Ref_its_11, x_Ref_its_12, x_Ref_its_13, mk_I, mk_J, mk_Q, mk_n, mk_sI, mk_sJ, Option.toList_some, Option.toList_none, List.cons_append, List.nil_append, true_and, and_true, oc_94, rt_94_0, rt_94_1, rt_94_3, rt_94_8, rt_94_9, rt_94_10, rt_94_11, rt_94_12, rt_94_15, rt_94_16, rt_94_18, rt_94_21, rt_94_22, rt_94_23, rt_94_24, or_95, e, h4, h3]
theorem q_Ref_its_2 {d i : Nat} (I : mx_I) (J : mx_J) (hi : i < 9) : mx_Cal mx_tab (d + 1) 149 [.ref 94, .int (nI i), .int 2] (mk I J) (some (.int (I 95 (8 + 5 * i + 2)))) (mk I J) := by
  refine mx_Cal_in (ls := [some (.ref 94), some (.int (nI i)), some (.int 2)]) tab_149 (by rw [mx_rcv, oc_94]; trivial) (Nat.le_of_ble_eq_true rfl) rfl ?_
  have h3 := nI_rng (show 8 + 5 * i + 2 < 387 by omega) (by decide)
  have h4 := nI_clamp (show 8 + 5 * i + 2 < 2 ^ 31 by omega)
  rw [h4] at h3
  have e : 8 + 5 * nI i + 2 = nI (8 + 5 * i + 2) := its_ix i 2
  simp only [x_Ref_its_0, x_Ref_its_1, x_Ref_its_4, x_Ref_its_6, x_Ref_its_7, x_Ref_its_8, x_Ref_its_9, x_Ref_its_10, x_Ref_its_11, x_Ref_its_12, x_Ref_its_13, mk_I, mk_J, mk_Q, mk_n, mk_sI, mk_sJ, Option.toList_some, Option.toList_none, List.cons_append, List.nil_append, true_and, and_true, oc_94, rt_94_0, rt_94_1, rt_94_3, rt_94_8, rt_94_9, rt_94_10, rt_94_11, rt_94_12, rt_94_15, rt_94_16, rt_94_18, rt_94_21, rt_94_22, rt_94_23, rt_94_24, or_95, e, h4, h3]
theorem q_Ref_its_3 {d i : Nat} (I : mx_I) (J : mx_J) (hi : i < 9) : mx_Cal mx_tab (d + 1) 149 [.ref 94, .int (nI i), .int 3] (mk I J) (some (.int (I 95 (8 + 5 * i + 3)))) (mk I J) := by
  refine mx_Cal_in (ls := [some (.ref 94), some (.int (nI i)), some (.int 3)]) tab_149 (by rw [mx_rcv, oc_94]; trivial) (Nat.le_of_ble_eq_true rfl) rfl ?_
  have h3 := nI_rng (show 8 + 5 * i + 3 < 387 by omega) (by decide)
  have h4 := nI_clamp (show 8 + 5 * i + 3 < 2 ^ 31 by omega)
  rw [h4] at h3
  have e : 8 + 5 * nI i + 3 = nI (8 + 5 * i + 3) := its_ix i 3
  simp only [x_Ref_its_0, x_Ref_its_1, x_Ref_its_4, x_Ref_its_6, x_Ref_its_7, x_Ref_its_8, x_Ref_its_9, x_Ref_its_10, x_Ref_its_11, x_Ref_its_12, x_Ref_its_13, mk_I, mk_J, mk_Q, mk_n, mk_sI, mk_sJ, Option.toList_some, Option.toList_none, List.cons_append, List.nil_append, true_and, and_true, oc_94, rt_94_0, rt_94_1, rt_94_3, rt_94_8, rt_94_9, rt_94_10, rt_94_11, rt_94_12, rt_94_15, rt_94_16, rt_94_18, rt_94_21, rt_94_22, rt_94_23, rt_94_24, or_95, e, h4, h3]
theorem q_Ref_its_4 {d i : Nat} (I : mx_I) (J : mx_J) (hi : i < 9) : mx_Cal mx_tab (d + 1) 149 [.ref 94, .int (nI i), .int 4] (mk I J) (some (.int (I 95 (8 + 5 * i + 4)))) (mk I J) := by
  refine mx_Cal_in (ls := [some (.ref 94), some (.int (nI i)), some (.int 4)]) tab_149 (by rw [mx_rcv, oc_94]; trivial) (Nat.le_of_ble_eq_true rfl) rfl ?_
  have h3 := nI_rng (show 8 + 5 * i + 4 < 387 by omega) (by decide)
  have h4 := nI_clamp (show 8 + 5 * i + 4 < 2 ^ 31 by omega)
  rw [h4] at h3
  have e : 8 + 5 * nI i + 4 = nI (8 + 5 * i + 4) := its_ix i 4
  simp only [x_Ref_its_0, x_Ref_its_1, x_Ref_its_4, x_Ref_its_6, x_Ref_its_7, x_Ref_its_8, x_Ref_its_9, x_Ref_its_10, x_Ref_its_11, x_Ref_its_12, x_Ref_its_13, mk_I, mk_J, mk_Q, mk_n, mk_sI, mk_sJ, Option.toList_some, Option.toList_none, List.cons_append, List.nil_append, true_and, and_true, oc_94, rt_94_0, rt_94_1, rt_94_3, rt_94_8, rt_94_9, rt_94_10, rt_94_11, rt_94_12, rt_94_15, rt_94_16, rt_94_18, rt_94_21, rt_94_22, rt_94_23, rt_94_24, or_95, e, h4, h3]
theorem q_Ref_lays1_0 {d i : Nat} (I : mx_I) (J : mx_J) (hi : i < 9) (v : Int32) : mx_Cal mx_tab (d + 1) 150 [.ref 94, .int (nI i), .int 0, .int v] (mk I J) none (mk (mx_ups I 95 (8 + 5 * i) v) J) := by
  refine mx_Cal_in (ls := [some (.ref 94), some (.int (nI i)), some (.int 0), some (.int v)]) tab_150 (by rw [mx_rcv, oc_94]; trivial) (Nat.le_of_ble_eq_true rfl) rfl ?_
  have h3 := nI_rng (show 8 + 5 * i + 0 < 387 by omega) (by decide)
  have h4 := nI_clamp (show 8 + 5 * i + 0 < 2 ^ 31 by omega)
  rw [h4] at h3
  have e : 8 + 5 * nI i + 0 = nI (8 + 5 * i + 0) := its_ix i 0
  simp only [Nat.add_zero] at h3 h4 e
  simp only [x_Ref_lays1_0, x_Ref_lays1_1, x_Ref_lays1_4, x_Ref_lays1_6, x_Ref_lays1_7, x_Ref_lays1_8, x_Ref_lays1_9, x_Ref_lays1_10, x_Ref_lays1_11, x_Ref_lays1_12, x_Ref_lays1_13, x_Ref_lays1_14, mk_I, mk_J, mk_Q, mk_n, mk_sI, mk_sJ, Option.toList_some, Option.toList_none, List.cons_append, List.nil_append, true_and, and_true, oc_94, rt_94_0, rt_94_1, rt_94_3, rt_94_8, rt_94_9, rt_94_10, rt_94_11, rt_94_12, rt_94_15, rt_94_16, rt_94_18, rt_94_21, rt_94_22, rt_94_23, rt_94_24, oa_95, e, h4, h3]
theorem q_Ref_lays1_1 {d i : Nat} (I : mx_I) (J : mx_J) (hi : i < 9) (v : Int32) : mx_Cal mx_tab (d + 1) 150 [.ref 94, .int (nI i), .int 1, .int v] (mk I J) none (mk (mx_ups I 95 (8 + 5 * i + 1) v) J) := by
  refine mx_Cal_in (ls := [some (.ref 94), some (.int (nI i)), some (.int 1), some (.int v)]) tab_150 (by rw [mx_rcv, oc_94]; trivial) (Nat.le_of_ble_eq_true rfl) rfl ?_
  have h3 := nI_rng (show 8 + 5 * i + 1 < 387 by omega) (by decide)
  have h4 := nI_clamp (show 8 + 5 * i + 1 < 2 ^ 31 by omega)
  rw [h4] at h3
  have e : 8 + 5 * nI i + 1 = nI (8 + 5 * i + 1) := its_ix i 1
  simp only [x_Ref_lays1_0, x_Ref_lays1_1, x_Ref_lays1_4, x_Ref_lays1_6, x_Ref_lays1_7, x_Ref_lays1_8, x_Ref_lays1_9, x_Ref_lays1_10, x_Ref_lays1_11, x_Ref_lays1_12, x_Ref_lays1_13, x_Ref_lays1_14, mk_I, mk_J, mk_Q, mk_n, mk_sI, mk_sJ, Option.toList_some, Option.toList_none, List.cons_append, List.nil_append, true_and, and_true, oc_94, rt_94_0, rt_94_1, rt_94_3, rt_94_8, rt_94_9, rt_94_10, rt_94_11, rt_94_12, rt_94_15, rt_94_16, rt_94_18, rt_94_21, rt_94_22, rt_94_23, rt_94_24, oa_95, e, h4, h3]
theorem q_Ref_lays1_2 {d i : Nat} (I : mx_I) (J : mx_J) (hi : i < 9) (v : Int32) : mx_Cal mx_tab (d + 1) 150 [.ref 94, .int (nI i), .int 2, .int v] (mk I J) none (mk (mx_ups I 95 (8 + 5 * i + 2) v) J) := by
  refine mx_Cal_in (ls := [some (.ref 94), some (.int (nI i)), some (.int 2), some (.int v)]) tab_150 (by rw [mx_rcv, oc_94]; trivial) (Nat.le_of_ble_eq_true rfl) rfl ?_
  have h3 := nI_rng (show 8 + 5 * i + 2 < 387 by omega) (by decide)
  have h4 := nI_clamp (show 8 + 5 * i + 2 < 2 ^ 31 by omega)
  rw [h4] at h3
  have e : 8 + 5 * nI i + 2 = nI (8 + 5 * i + 2) := its_ix i 2
  simp only [x_Ref_lays1_0, x_Ref_lays1_1, x_Ref_lays1_4, x_Ref_lays1_6, x_Ref_lays1_7, x_Ref_lays1_8, x_Ref_lays1_9, x_Ref_lays1_10, x_Ref_lays1_11, x_Ref_lays1_12, x_Ref_lays1_13, x_Ref_lays1_14, mk_I, mk_J, mk_Q, mk_n, mk_sI, mk_sJ, Option.toList_some, Option.toList_none, List.cons_append, List.nil_append, true_and, and_true, oc_94, rt_94_0, rt_94_1, rt_94_3, rt_94_8, rt_94_9, rt_94_10, rt_94_11, rt_94_12, rt_94_15, rt_94_16, rt_94_18, rt_94_21, rt_94_22, rt_94_23, rt_94_24, oa_95, e, h4, h3]
theorem q_Ref_lays1_3 {d i : Nat} (I : mx_I) (J : mx_J) (hi : i < 9) (v : Int32) : mx_Cal mx_tab (d + 1) 150 [.ref 94, .int (nI i), .int 3, .int v] (mk I J) none (mk (mx_ups I 95 (8 + 5 * i + 3) v) J) := by
  refine mx_Cal_in (ls := [some (.ref 94), some (.int (nI i)), some (.int 3), some (.int v)]) tab_150 (by rw [mx_rcv, oc_94]; trivial) (Nat.le_of_ble_eq_true rfl) rfl ?_
  have h3 := nI_rng (show 8 + 5 * i + 3 < 387 by omega) (by decide)
  have h4 := nI_clamp (show 8 + 5 * i + 3 < 2 ^ 31 by omega)
  rw [h4] at h3
  have e : 8 + 5 * nI i + 3 = nI (8 + 5 * i + 3) := its_ix i 3
  simp only [x_Ref_lays1_0, x_Ref_lays1_1, x_Ref_lays1_4, x_Ref_lays1_6, x_Ref_lays1_7, x_Ref_lays1_8, x_Ref_lays1_9, x_Ref_lays1_10, x_Ref_lays1_11, x_Ref_lays1_12, x_Ref_lays1_13, x_Ref_lays1_14, mk_I, mk_J, mk_Q, mk_n, mk_sI, mk_sJ, Option.toList_some, Option.toList_none, List.cons_append, List.nil_append, true_and, and_true, oc_94, rt_94_0, rt_94_1, rt_94_3, rt_94_8, rt_94_9, rt_94_10, rt_94_11, rt_94_12, rt_94_15, rt_94_16, rt_94_18, rt_94_21, rt_94_22, rt_94_23, rt_94_24, oa_95, e, h4, h3]
theorem q_Ref_lays1_4 {d i : Nat} (I : mx_I) (J : mx_J) (hi : i < 9) (v : Int32) : mx_Cal mx_tab (d + 1) 150 [.ref 94, .int (nI i), .int 4, .int v] (mk I J) none (mk (mx_ups I 95 (8 + 5 * i + 4) v) J) := by
  refine mx_Cal_in (ls := [some (.ref 94), some (.int (nI i)), some (.int 4), some (.int v)]) tab_150 (by rw [mx_rcv, oc_94]; trivial) (Nat.le_of_ble_eq_true rfl) rfl ?_
  have h3 := nI_rng (show 8 + 5 * i + 4 < 387 by omega) (by decide)
  have h4 := nI_clamp (show 8 + 5 * i + 4 < 2 ^ 31 by omega)
  rw [h4] at h3
  have e : 8 + 5 * nI i + 4 = nI (8 + 5 * i + 4) := its_ix i 4
  simp only [x_Ref_lays1_0, x_Ref_lays1_1, x_Ref_lays1_4, x_Ref_lays1_6, x_Ref_lays1_7, x_Ref_lays1_8, x_Ref_lays1_9, x_Ref_lays1_10, x_Ref_lays1_11, x_Ref_lays1_12, x_Ref_lays1_13, x_Ref_lays1_14, mk_I, mk_J, mk_Q, mk_n, mk_sI, mk_sJ, Option.toList_some, Option.toList_none, List.cons_append, List.nil_append, true_and, and_true, oc_94, rt_94_0, rt_94_1, rt_94_3, rt_94_8, rt_94_9, rt_94_10, rt_94_11, rt_94_12, rt_94_15, rt_94_16, rt_94_18, rt_94_21, rt_94_22, rt_94_23, rt_94_24, oa_95, e, h4, h3]
theorem q_Ref_change1 {d t : Nat} (I : mx_I) (J : mx_J) (ht : t < 387) (v : Int32) : mx_Cal mx_tab (d + 1) 151 [.ref 94, .int (nI t), .int v] (mk I J) (some (.int (I 95 t))) (mk (mx_ups I 95 t v) J) := by
  refine mx_Cal_in (ls := [some (.ref 94), some (.int (nI t)), some (.int v), none]) tab_151 (by rw [mx_rcv, oc_94]; trivial) (Nat.le_of_ble_eq_true rfl) rfl ?_
  have h3 := nI_rng ht (by decide)
  rw [nI_clamp (by omega)] at h3
  simp only [x_Ref_change1_0, x_Ref_change1_1, x_Ref_change1_4, x_Ref_change1_5, x_Ref_change1_6, x_Ref_change1_7, x_Ref_change1_8, x_Ref_change1_11, x_Ref_change1_12, x_Ref_change1_13, x_Ref_change1_14, x_Ref_change1_15, mk_I, mk_J, mk_Q, mk_n, mk_sI, mk_sJ, Option.toList_some, Option.toList_none, List.cons_append, List.nil_append, true_and, and_true, oc_94, rt_94_0, rt_94_1, rt_94_3, rt_94_8, rt_94_9, rt_94_10, rt_94_11, rt_94_12, rt_94_15, rt_94_16, rt_94_18, rt_94_21, rt_94_22, rt_94_23, rt_94_24, or_95, oa_95, nI_clamp (show t < 2 ^ 31 by omega), h3]
/-- LEAST, MOST of the i-th item as the reference has it -/
def rL (I : mx_I) (i : Nat) : Int32 := leastF (I 95 (8 + 5 * i)) (I 95 (8 + 5 * i + 1)) (I 95 (8 + 5 * i + 2))
def rM (I : mx_I) (i : Nat) : Int32 := mostF (I 95 (8 + 5 * i)) (I 95 (8 + 5 * i + 1)) (I 95 (8 + 5 * i + 2))
theorem q_Ref_leastOf {d i : Nat} (I : mx_I) (J : mx_J) (hi : i < 9) : mx_Cal mx_tab (d + 2) 168 [.ref 94, .int (nI i)] (mk I J) (some (.int (rL I i))) (mk I J) := by
  refine mx_Cal_in (ls := [some (.ref 94), some (.int (nI i)), none, none]) tab_168 (by rw [mx_rcv, oc_94]; trivial) (Nat.le_of_ble_eq_true rfl) rfl ?_
  simp only [x_Ref_leastOf_0, x_Ref_leastOf_1, x_Ref_leastOf_2, x_Ref_leastOf_3, x_Ref_leastOf_6, x_Ref_leastOf_7, x_Ref_leastOf_8, x_Ref_leastOf_9, x_Ref_leastOf_10, x_Ref_leastOf_13, x_Ref_leastOf_14, x_Ref_leastOf_15, x_Ref_leastOf_16, x_Ref_leastOf_17, x_Ref_leastOf_20, x_Ref_leastOf_60, x_Ref_leastOf_61, x_Ref_leastOf_63, x_Ref_leastOf_64, x_Ref_leastOf_65, x_Ref_leastOf_68, x_Ref_leastOf_69, x_Ref_leastOf_72, x_Ref_leastOf_74, x_Ref_leastOf_75, x_Ref_leastOf_76, x_Ref_leastOf_77, x_Ref_leastOf_79, x_Ref_leastOf_80, x_Ref_leastOf_81, x_Ref_leastOf_82, x_Ref_leastOf_83, x_Ref_leastOf_84, x_Ref_leastOf_85, x_Ref_leastOf_86, x_Ref_leastOf_88, x_Ref_leastOf_89, x_Ref_leastOf_90, x_Ref_leastOf_91, x_Ref_leastOf_92, x_Ref_leastOf_93, x_Ref_leastOf_94, x_Ref_leastOf_96, x_Ref_leastOf_97, x_Ref_leastOf_98, x_Ref_leastOf_99, mk_I, mk_J, mk_Q, mk_n, mk_sI, mk_sJ, Option.toList_some, Option.toList_none, List.cons_append, List.nil_append, true_and, and_true, oc_94, mx_call (q_Ref_its_0 I J hi) (Nat.le_add_left 1 d), mx_call (q_Ref_its_1 I J hi) (Nat.le_add_left 1 d), mx_call (q_Ref_its_2 I J hi) (Nat.le_add_left 1 d), rL, leastF, ite_le]
  repeat' split
  all_goals simp_all
theorem q_Ref_mostOf {d i : Nat} (I : mx_I) (J : mx_J) (hi : i < 9) : mx_Cal mx_tab (d + 2) 169 [.ref 94, .int (nI i)] (mk I J) (some (.int (rM I i))) (mk I J) := by
  refine mx_Cal_in (ls := [some (.ref 94), some (.int (nI i)), none, none]) tab_169 (by rw [mx_rcv, oc_94]; trivial) (Nat.le_of_ble_eq_true rfl) rfl ?_
  simp only [x_Ref_mostOf_0, x_Ref_mostOf_1, x_Ref_mostOf_2, x_Ref_mostOf_3, x_Ref_mostOf_6, x_Ref_mostOf_7, x_Ref_mostOf_8, x_Ref_mostOf_9, x_Ref_mostOf_10, x_Ref_mostOf_13, x_Ref_mostOf_14, x_Ref_mostOf_15, x_Ref_mostOf_16, x_Ref_mostOf_17, x_Ref_mostOf_20, x_Ref_mostOf_56, x_Ref_mostOf_58, x_Ref_mostOf_59, x_Ref_mostOf_60, x_Ref_mostOf_61, x_Ref_mostOf_62, x_Ref_mostOf_63, x_Ref_mostOf_64, x_Ref_mostOf_65, x_Ref_mostOf_67, x_Ref_mostOf_69, x_Ref_mostOf_70, x_Ref_mostOf_71, x_Ref_mostOf_72, x_Ref_mostOf_73, x_Ref_mostOf_74, x_Ref_mostOf_75, x_Ref_mostOf_76, x_Ref_mostOf_77, x_Ref_mostOf_78, x_Ref_mostOf_80, x_Ref_mostOf_81, x_Ref_mostOf_82, x_Ref_mostOf_83, mk_I, mk_J, mk_Q, mk_n, mk_sI, mk_sJ, Option.toList_some, Option.toList_none, List.cons_append, List.nil_append, true_and, and_true, oc_94, mx_call (q_Ref_its_0 I J hi) (Nat.le_add_left 1 d), mx_call (q_Ref_its_1 I J hi) (Nat.le_add_left 1 d), mx_call (q_Ref_its_2 I J hi) (Nat.le_add_left 1 d), rM, mostF]
  repeat' split
  all_goals simp_all
theorem q_Ref_isLeft {d i : Nat} (I : mx_I) (J : mx_J) (hi : i < 9) : mx_Cal mx_tab (d + 2) 170 [.ref 94, .int (nI i)] (mk I J) (some (.int (if I 95 (8 + 5 * i + 4) = 0 then 1 else 0))) (mk I J) := by
  refine mx_Cal_in (ls := [some (.ref 94), some (.int (nI i))]) tab_170 (by rw [mx_rcv, oc_94]; trivial) (Nat.le_of_ble_eq_true rfl) rfl ?_
  simp only [x_Ref_isLeft_0, x_Ref_isLeft_1, x_Ref_isLeft_2, x_Ref_isLeft_3, x_Ref_isLeft_6, x_Ref_isLeft_9, x_Ref_isLeft_10, x_Ref_isLeft_13, x_Ref_isLeft_14, mk_I, mk_J, mk_Q, mk_n, mk_sI, mk_sJ, Option.toList_some, Option.toList_none, List.cons_append, List.nil_append, true_and, and_true, oc_94, mx_call (q_Ref_its_4 I J hi) (Nat.le_add_left 1 d)]
  by_cases h : I 95 (8 + 5 * i + 4) = 0 <;> simp [h]
theorem m_err_1 {d : Nat} (I : mx_I) (J : mx_J) : mx_Cal mx_tab (d + 1) 144 [.ref 94, .int 1] (mk I J) (some (.int (-1000000000 - nI 1))) (mk (eM I 1) J) := q_Ref_error (k := 1) I J (by decide)
theorem m_err_2 {d : Nat} (I : mx_I) (J : mx_J) : mx_Cal mx_tab (d + 1) 144 [.ref 94, .int 2] (mk I J) (some (.int (-1000000000 - nI 2))) (mk (eM I 2) J) := q_Ref_error (k := 2) I J (by decide)
theorem m_err_3 {d : Nat} (I : mx_I) (J : mx_J) : mx_Cal mx_tab (d + 1) 144 [.ref 94, .int 3] (mk I J) (some (.int (-1000000000 - nI 3))) (mk (eM I 3) J) := q_Ref_error (k := 3) I J (by decide)
theorem m_err_4 {d : Nat} (I : mx_I) (J : mx_J) : mx_Cal mx_tab (d + 1) 144 [.ref 94, .int 4] (mk I J) (some (.int (-1000000000 - nI 4))) (mk (eM I 4) J) := q_Ref_error (k := 4) I J (by decide)
theorem m_err_5 {d : Nat} (I : mx_I) (J : mx_J) : mx_Cal mx_tab (d + 1) 144 [.ref 94, .int 5] (mk I J) (some (.int (-1000000000 - nI 5))) (mk (eM I 5) J) := q_Ref_error (k := 5) I J (by decide)
theorem m_err_6 {d : Nat} (I : mx_I) (J : mx_J) : mx_Cal mx_tab (d + 1) 144 [.ref 94, .int 6] (mk I J) (some (.int (-1000000000 - nI 6))) (mk (eM I 6) J) := q_Ref_error (k := 6) I J (by decide)
