/-! the plain calls -/
theorem ex_nI {x : Int32} {n : Nat} (hn : n < 2 ^ 31) (h1 : ¬ x < 0) (h2 : ¬ nI n ≤ x) : ∃ k, k < n ∧ x = nI k := by
  obtain ⟨a, b⟩ := in_rng hn h1 h2
  refine ⟨x.toNatClampNeg, b, ?_⟩
  apply Int32.toInt_inj.mp
  rw [nI_toInt (by omega), tn_c]
  rw [Int32.lt_iff_toInt_lt] at h1
  have : (0 : Int32).toInt = 0 := rfl
  omega
theorem z_00 : ((0 : Int32) = 0) = True := by decide
theorem z_10 : ((1 : Int32) = 0) = False := by decide
theorem ltN_ {a b : Nat} (ha : a < 2 ^ 31) (hb : b < 2 ^ 31) : (nI a < nI b) = (a < b) := by
  rw [Int32.lt_iff_toInt_lt, nI_toInt ha, nI_toInt hb]
  exact propext (by omega)
theorem lt_pred {t : Nat} {i : Int32} (ht : t < 2 ^ 30) (hi : ¬ i < 0) : (nI t - 1 < i) = (nI t ≤ i) := by
  rw [Int32.lt_iff_toInt_lt] at hi
  rw [Int32.lt_iff_toInt_lt, Int32.le_iff_toInt_le, nI_toInt (by omega)]
  have z : (0 : Int32).toInt = 0 := rfl
  cases t with
  | zero =>
    have : (nI 0 - 1).toInt = -1 := rfl
    exact propext (by omega)
  | succ t =>
    have : nI (t + 1) - 1 = nI t := by
      rw [← nI_add t 1]; exact Int32.add_sub_cancel _ _
    rw [this, nI_toInt (by omega)]
    exact propext (by omega)
theorem q_Show_there {d : Nat} (I : mx_I) (J : mx_J) : mx_Cal mx_tab (d + 1) 54 [.ref 1] (mk I J) (some (.int (I 1 1 - I 1 2))) (mk I J) := by
  refine mx_Cal_in (ls := [some (.ref 1)]) tab_54 (by rw [mx_rcv, oc_1]; trivial) (Nat.le_of_ble_eq_true rfl) rfl ?_
  simp only [x_Show_there_0, x_Show_there_1, x_Show_there_4, x_Show_there_5, x_Show_there_8, x_Show_there_9, mk_I, mk_J, mk_Q, mk_n, mk_sI, mk_sJ, Option.toList_some, Option.toList_none, List.cons_append, List.nil_append, true_and, and_true, oc_1, rt_1_0, rt_1_5, rt_1_6, rt_1_7, rt_1_8]
theorem sub3 (a b c : Int32) : a - b - c = a - c - b := by
  rw [Int32.sub_eq_add_neg, Int32.sub_eq_add_neg, Int32.sub_eq_add_neg, Int32.sub_eq_add_neg, Int32.add_assoc, Int32.add_comm (-b), ← Int32.add_assoc]
theorem op_tuned {L : Nat} {xs : Nat → Int32} {I : mx_I} (hI : Inv L xs I) : OpI L xs I 115 201 [] := by
  intro J
  obtain ⟨-, a, b, c, c1, c2, c3, c4, c5, c6, c7, c8, c9⟩ := hI.1.2.1
  have e : I 1 1 - I 1 2 - I 1 3 = I 95 1 - I 95 2 - I 95 0 := by
    rw [sub3 (I 95 1)]
    have c4' : I 1 1 = I 95 1 := c4.trans c5.symm
    have c6' : I 1 2 = I 95 0 := c6.trans c7.symm
    have c8' : I 1 3 = I 95 2 := c8.trans c9.symm
    rw [c4', c6', c8']
  by_cases h : I 95 1 - I 95 2 - I 95 0 < 0
  · refine ⟨-1000000000 - nI 3, eX I 3, eM (eX I 3) 3, J, J, ?_, ?_, hI.2.2.2.2.2.err 3, hI.err 3⟩
    · refine mx_Cal_in (ls := [some (.ref 0), none]) (d := 299) tab_115 (by rw [mx_rcv, oc_0]; trivial) (Nat.le_of_ble_eq_true rfl) rfl ?_
      simp only [x_Main_tuned_0, x_Main_tuned_1, x_Main_tuned_4, x_Main_tuned_7, x_Main_tuned_8, x_Main_tuned_11, x_Main_tuned_14, x_Main_tuned_15, x_Main_tuned_16, x_Main_tuned_17, x_Main_tuned_20, x_Main_tuned_21, x_Main_tuned_22, x_Main_tuned_25, x_Main_tuned_28, x_Main_tuned_29, mk_I, mk_J, mk_Q, mk_n, mk_sI, mk_sJ, Option.toList_some, Option.toList_none, List.cons_append, List.nil_append, true_and, and_true, oc_0, oc_1, rt_0_0, rt_0_1, rt_0_3, rt_0_4, rt_0_5, rt_0_6, rt_0_7, rt_0_8, rt_0_9, rt_1_0, rt_1_5, rt_1_6, rt_1_7, rt_1_8, ite_le, mx_call (q_Show_there (d := 0) I J) (show 1 ≤ 299 by decide), e, h, if_true, mx_call (x_err_3 (d := 0) I J) (show 2 ≤ 299 by decide)]
    · refine mx_Cal_in (ls := [some (.ref 94), none]) (d := 299) tab_201 (by rw [mx_rcv, oc_94]; trivial) (Nat.le_of_ble_eq_true rfl) rfl ?_
      simp only [x_Ref_tuned_0, x_Ref_tuned_1, x_Ref_tuned_4, x_Ref_tuned_5, x_Ref_tuned_6, x_Ref_tuned_7, x_Ref_tuned_10, x_Ref_tuned_11, x_Ref_tuned_12, x_Ref_tuned_13, x_Ref_tuned_14, x_Ref_tuned_17, x_Ref_tuned_18, x_Ref_tuned_19, x_Ref_tuned_20, x_Ref_tuned_21, x_Ref_tuned_22, x_Ref_tuned_25, x_Ref_tuned_26, x_Ref_tuned_27, x_Ref_tuned_30, x_Ref_tuned_33, x_Ref_tuned_34, mk_I, mk_J, mk_Q, mk_n, mk_sI, mk_sJ, Option.toList_some, Option.toList_none, List.cons_append, List.nil_append, true_and, and_true, oc_94, rt_94_0, rt_94_1, rt_94_3, rt_94_8, rt_94_9, rt_94_10, rt_94_11, rt_94_12, rt_94_15, rt_94_16, rt_94_18, rt_94_21, rt_94_22, rt_94_23, rt_94_24, or_95, tc_0, kc_0, tc_1, kc_1, tc_2, kc_2, tc_3, kc_3, tc_4, kc_4, tc_5, kc_5, tc_6, kc_6, tc_7, kc_7, ite_le, eX_a I 3 (show 95 ≠ 54 by decide), h, if_true, mx_call (m_err_3 (d := 0) (eX I 3) J) (show 1 ≤ 299 by decide)]
  · refine ⟨I 95 1 - I 95 2 - I 95 0, I, I, J, J, ?_, ?_, hI.2.2.2.2.2, hI⟩
    · refine mx_Cal_in (ls := [some (.ref 0), none]) (d := 299) tab_115 (by rw [mx_rcv, oc_0]; trivial) (Nat.le_of_ble_eq_true rfl) rfl ?_
      simp only [x_Main_tuned_0, x_Main_tuned_1, x_Main_tuned_4, x_Main_tuned_7, x_Main_tuned_8, x_Main_tuned_11, x_Main_tuned_14, x_Main_tuned_15, x_Main_tuned_16, x_Main_tuned_17, x_Main_tuned_20, x_Main_tuned_21, x_Main_tuned_22, x_Main_tuned_25, x_Main_tuned_28, x_Main_tuned_29, mk_I, mk_J, mk_Q, mk_n, mk_sI, mk_sJ, Option.toList_some, Option.toList_none, List.cons_append, List.nil_append, true_and, and_true, oc_0, oc_1, rt_0_0, rt_0_1, rt_0_3, rt_0_4, rt_0_5, rt_0_6, rt_0_7, rt_0_8, rt_0_9, rt_1_0, rt_1_5, rt_1_6, rt_1_7, rt_1_8, ite_le, mx_call (q_Show_there (d := 0) I J) (show 1 ≤ 299 by decide), e, h, if_false]
    · refine mx_Cal_in (ls := [some (.ref 94), none]) (d := 299) tab_201 (by rw [mx_rcv, oc_94]; trivial) (Nat.le_of_ble_eq_true rfl) rfl ?_
      simp only [x_Ref_tuned_0, x_Ref_tuned_1, x_Ref_tuned_4, x_Ref_tuned_5, x_Ref_tuned_6, x_Ref_tuned_7, x_Ref_tuned_10, x_Ref_tuned_11, x_Ref_tuned_12, x_Ref_tuned_13, x_Ref_tuned_14, x_Ref_tuned_17, x_Ref_tuned_18, x_Ref_tuned_19, x_Ref_tuned_20, x_Ref_tuned_21, x_Ref_tuned_22, x_Ref_tuned_25, x_Ref_tuned_26, x_Ref_tuned_27, x_Ref_tuned_30, x_Ref_tuned_33, x_Ref_tuned_34, mk_I, mk_J, mk_Q, mk_n, mk_sI, mk_sJ, Option.toList_some, Option.toList_none, List.cons_append, List.nil_append, true_and, and_true, oc_94, rt_94_0, rt_94_1, rt_94_3, rt_94_8, rt_94_9, rt_94_10, rt_94_11, rt_94_12, rt_94_15, rt_94_16, rt_94_18, rt_94_21, rt_94_22, rt_94_23, rt_94_24, or_95, tc_0, kc_0, tc_1, kc_1, tc_2, kc_2, tc_3, kc_3, tc_4, kc_4, tc_5, kc_5, tc_6, kc_6, tc_7, kc_7, ite_le, h, if_false]
