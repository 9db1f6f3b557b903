/-! the reference's items by plain numbers -/
theorem k0_0 : ((0 : Int32) ≤ 0) = True := by decide
theorem k0_1 : ((0 : Int32) ≤ 1) = True := by decide
theorem k0_2 : ((0 : Int32) ≤ 2) = True := by decide
theorem k0_3 : ((0 : Int32) ≤ 3) = True := by decide
theorem k0_4 : ((0 : Int32) ≤ 4) = True := by decide
theorem k0_5 : ((0 : Int32) ≤ 5) = True := by decide
theorem k0_6 : ((0 : Int32) ≤ 6) = True := by decide
theorem k0_7 : ((0 : Int32) ≤ 7) = True := by decide
section RT
variable {n : Nat} {I : mx_I} {K M T F pl od : Nat → Nat}
theorem q_rIsL {d k : Nat} (hr : RI I n K M T F pl) (J : mx_J) (hk : k < n) : mx_Cal mx_tab (d + 2) 170 [.ref 94, .int (nI k)] (mk I J) (some (.int (if F k = 0 then 1 else 0))) (mk I J) := by
  have h9 := hr.1
  have h := q_Ref_isLeft (d := d) I J (show k < 9 by omega)
  obtain ⟨b1, b2, b3, b4, b5, d1, d2, d3, d4, d5⟩ := hr.2.2 k hk
  rw [d5] at h
  simp (disch := omega) only [eq0] at h
  exact h
theorem q_itsK {d k : Nat} (hr : RI I n K M T F pl) (J : mx_J) (hk : k < n) : mx_Cal mx_tab (d + 1) 149 [.ref 94, .int (nI k), .int 0] (mk I J) (some (.int (nI (K k)))) (mk I J) := by
  have h9 := hr.1
  have h := q_Ref_its_0 (d := d) I J (show k < 9 by omega)
  obtain ⟨b1, b2, b3, b4, b5, d1, d2, d3, d4, d5⟩ := hr.2.2 k hk
  rw [d1] at h; exact h
theorem q_itsM {d k : Nat} (hr : RI I n K M T F pl) (J : mx_J) (hk : k < n) : mx_Cal mx_tab (d + 1) 149 [.ref 94, .int (nI k), .int 1] (mk I J) (some (.int (nI (M k)))) (mk I J) := by
  have h9 := hr.1
  have h := q_Ref_its_1 (d := d) I J (show k < 9 by omega)
  obtain ⟨b1, b2, b3, b4, b5, d1, d2, d3, d4, d5⟩ := hr.2.2 k hk
  rw [d2] at h; exact h
theorem q_itsT {d k : Nat} (hr : RI I n K M T F pl) (J : mx_J) (hk : k < n) : mx_Cal mx_tab (d + 1) 149 [.ref 94, .int (nI k), .int 2] (mk I J) (some (.int (nI (T k)))) (mk I J) := by
  have h9 := hr.1
  have h := q_Ref_its_2 (d := d) I J (show k < 9 by omega)
  obtain ⟨b1, b2, b3, b4, b5, d1, d2, d3, d4, d5⟩ := hr.2.2 k hk
  rw [d3] at h; exact h
theorem q_itsP {d k : Nat} (hr : RI I n K M T F pl) (J : mx_J) (hk : k < n) : mx_Cal mx_tab (d + 1) 149 [.ref 94, .int (nI k), .int 3] (mk I J) (some (.int (nI (pl k)))) (mk I J) := by
  have h9 := hr.1
  have h := q_Ref_its_3 (d := d) I J (show k < 9 by omega)
  obtain ⟨b1, b2, b3, b4, b5, d1, d2, d3, d4, d5⟩ := hr.2.2 k hk
  rw [d4] at h; exact h
theorem q_itsF {d k : Nat} (hr : RI I n K M T F pl) (J : mx_J) (hk : k < n) : mx_Cal mx_tab (d + 1) 149 [.ref 94, .int (nI k), .int 4] (mk I J) (some (.int (nI (F k)))) (mk I J) := by
  have h9 := hr.1
  have h := q_Ref_its_4 (d := d) I J (show k < 9 by omega)
  obtain ⟨b1, b2, b3, b4, b5, d1, d2, d3, d4, d5⟩ := hr.2.2 k hk
  rw [d5] at h; exact h
theorem q_rL {d k : Nat} (hr : RI I n K M T F pl) (J : mx_J) (hk : k < n) : mx_Cal mx_tab (d + 2) 168 [.ref 94, .int (nI k)] (mk I J) (some (.int (nI (LN K M T k)))) (mk I J) := by
  have h9 := hr.1
  have h := q_Ref_leastOf (d := d) I J (show k < 9 by omega)
  rw [hr.L hk] at h; exact h
theorem q_rM {d k : Nat} (hr : RI I n K M T F pl) (J : mx_J) (hk : k < n) : mx_Cal mx_tab (d + 2) 169 [.ref 94, .int (nI k)] (mk I J) (some (.int (nI (MN K M T k)))) (mk I J) := by
  have h9 := hr.1
  have h := q_Ref_mostOf (d := d) I J (show k < 9 by omega)
  rw [hr.M hk] at h; exact h
theorem q_itemAt {d p : Nat} (hr : RI I n K M T F pl) (ho : OrdR n pl od) (J : mx_J) (hp : p < n) : mx_Cal mx_tab (d + 2) 177 [.ref 94, .int (nI p)] (mk I J) (some (.int (nI (od p)))) (mk I J) := by
  have h9 := hr.1
  have hn := hr.2.1
  have ho1 := (ho.2 p hp).1
  refine mx_Cal_in (ls := [some (.ref 94), some (.int (nI p)), none, none]) tab_177 (by rw [mx_rcv, oc_94]; trivial) (Nat.le_of_ble_eq_true rfl) rfl ?_
  simp only [x_Ref_itemAt_0, x_Ref_itemAt_1, x_Ref_itemAt_2, x_Ref_itemAt_3]
  refine lq (i0 := 0) (n := n) (fun i => [some (.ref 94), some (.int (nI p)), some (.int (if od p < i then nI (od p) else -1)), some (.int (nI i))]) (fun _ => mk I J) (Nat.zero_le n) rfl rfl (fun i hi0 hi ih => ?_) ?_
  · obtain ⟨b1, b2, b3, b4, b5, d1, d2, d3, d4, d5⟩ := hr.2.2 i hi
    rw [x_Ref_itemAt_4]
    by_cases hz : pl i = p
    · have hz2 : od p = i := by rw [← hz, (ho.1 i hi).2]
      have e1 := q_itsP (d := 0) hr J hi
      rw [hz] at e1
      have hz3 : (if od p < i + 1 then nI (od p) else (-1 : Int32)) = nI i := by rw [if_pos (show od p < i + 1 by omega), hz2]
      rw [hz3] at ih
      simp (disch := omega) only [x_Ref_itemAt_0, x_Ref_itemAt_1, x_Ref_itemAt_2, x_Ref_itemAt_3, x_Ref_itemAt_5, x_Ref_itemAt_6, x_Ref_itemAt_9, x_Ref_itemAt_11, x_Ref_itemAt_12, x_Ref_itemAt_15, x_Ref_itemAt_16, x_Ref_itemAt_17, x_Ref_itemAt_18, x_Ref_itemAt_21, x_Ref_itemAt_22, x_Ref_itemAt_25, x_Ref_itemAt_26, x_Ref_itemAt_29, x_Ref_itemAt_30, x_Ref_itemAt_31, x_Ref_itemAt_34, x_Ref_itemAt_37, x_Ref_itemAt_38, mk_I, mk_J, mk_Q, mk_n, mk_sI, mk_sJ, Option.toList_some, Option.toList_none, List.cons_append, List.nil_append, true_and, and_true, leT, leF, ltT, ltF, eqF, lt0F, le0T, le0F, eq0F, natT, nI_clamp, nI_1, if_true, if_false, not_true_eq_false, not_false_eq_true, z_00, z_10, oc_94, rt_94_0, rt_94_1, rt_94_3, rt_94_8, rt_94_9, rt_94_10, rt_94_11, rt_94_12, rt_94_15, rt_94_16, rt_94_18, rt_94_21, rt_94_22, rt_94_23, rt_94_24, or_95, tc_0, kc_0, k0_0, tc_1, kc_1, k0_1, tc_2, kc_2, k0_2, tc_3, kc_3, k0_3, tc_4, kc_4, k0_4, tc_5, kc_5, k0_5, tc_6, kc_6, k0_6, tc_7, kc_7, k0_7, hn, mx_call e1 _]
      exact ih
    · have hz2 : od p ≠ i := fun q => hz (by rw [← q, (ho.2 p hp).2])
      have hz3 : (if od p < i + 1 then nI (od p) else (-1 : Int32)) = (if od p < i then nI (od p) else -1) := by
        by_cases q : od p < i
        · rw [if_pos q, if_pos (by omega)]
        · rw [if_neg q, if_neg (by omega)]
      rw [hz3] at ih
      simp (disch := omega) only [x_Ref_itemAt_0, x_Ref_itemAt_1, x_Ref_itemAt_2, x_Ref_itemAt_3, x_Ref_itemAt_5, x_Ref_itemAt_6, x_Ref_itemAt_9, x_Ref_itemAt_11, x_Ref_itemAt_12, x_Ref_itemAt_15, x_Ref_itemAt_16, x_Ref_itemAt_17, x_Ref_itemAt_18, x_Ref_itemAt_21, x_Ref_itemAt_22, x_Ref_itemAt_25, x_Ref_itemAt_26, x_Ref_itemAt_29, x_Ref_itemAt_30, x_Ref_itemAt_31, x_Ref_itemAt_34, x_Ref_itemAt_37, x_Ref_itemAt_38, mk_I, mk_J, mk_Q, mk_n, mk_sI, mk_sJ, Option.toList_some, Option.toList_none, List.cons_append, List.nil_append, true_and, and_true, leT, leF, ltT, ltF, eqF, lt0F, le0T, le0F, eq0F, natT, nI_clamp, nI_1, if_true, if_false, not_true_eq_false, not_false_eq_true, z_00, z_10, oc_94, rt_94_0, rt_94_1, rt_94_3, rt_94_8, rt_94_9, rt_94_10, rt_94_11, rt_94_12, rt_94_15, rt_94_16, rt_94_18, rt_94_21, rt_94_22, rt_94_23, rt_94_24, or_95, tc_0, kc_0, k0_0, tc_1, kc_1, k0_1, tc_2, kc_2, k0_2, tc_3, kc_3, k0_3, tc_4, kc_4, k0_4, tc_5, kc_5, k0_5, tc_6, kc_6, k0_6, tc_7, kc_7, k0_7, hn, mx_call (q_itsP (d := 0) hr J hi) _]
      exact ih
  · rw [x_Ref_itemAt_4]
    simp (disch := omega) only [x_Ref_itemAt_0, x_Ref_itemAt_1, x_Ref_itemAt_2, x_Ref_itemAt_3, x_Ref_itemAt_5, x_Ref_itemAt_6, x_Ref_itemAt_9, x_Ref_itemAt_11, x_Ref_itemAt_12, x_Ref_itemAt_15, x_Ref_itemAt_16, x_Ref_itemAt_17, x_Ref_itemAt_18, x_Ref_itemAt_21, x_Ref_itemAt_22, x_Ref_itemAt_25, x_Ref_itemAt_26, x_Ref_itemAt_29, x_Ref_itemAt_30, x_Ref_itemAt_31, x_Ref_itemAt_34, x_Ref_itemAt_37, x_Ref_itemAt_38, mk_I, mk_J, mk_Q, mk_n, mk_sI, mk_sJ, Option.toList_some, Option.toList_none, List.cons_append, List.nil_append, true_and, and_true, leT, leF, ltT, ltF, eqF, lt0F, le0T, le0F, eq0F, natT, nI_clamp, nI_1, if_true, if_false, not_true_eq_false, not_false_eq_true, z_00, z_10, oc_94, rt_94_0, rt_94_1, rt_94_3, rt_94_8, rt_94_9, rt_94_10, rt_94_11, rt_94_12, rt_94_15, rt_94_16, rt_94_18, rt_94_21, rt_94_22, rt_94_23, rt_94_24, or_95, tc_0, kc_0, k0_0, tc_1, kc_1, k0_1, tc_2, kc_2, k0_2, tc_3, kc_3, k0_3, tc_4, kc_4, k0_4, tc_5, kc_5, k0_5, tc_6, kc_6, k0_6, tc_7, kc_7, k0_7, hn]
theorem q_onNow {d p : Nat} (hr : RI I n K M T F pl) (ho : OrdR n pl od) (J : mx_J) (hp : p ≤ n) (h1 : ∀ i, i < p → ¬ F (od i) = 0) (h2 : p < n → F (od p) = 0) : mx_Cal mx_tab (d + 3) 178 [.ref 94] (mk I J) (some (.int (if p < n then nI (od p) else -1))) (mk I J) := by
  have h9 := hr.1
  have hn := hr.2.1
  refine mx_Cal_in (ls := [some (.ref 94), none]) tab_178 (by rw [mx_rcv, oc_94]; trivial) (Nat.le_of_ble_eq_true rfl) rfl ?_
  simp only [x_Ref_onNow_0, x_Ref_onNow_1]
  refine lq (i0 := 0) (n := p) (fun i => [some (.ref 94), some (.int (nI i))]) (fun _ => mk I J) (Nat.zero_le p) rfl rfl (fun i hi0 hi ih => ?_) ?_
  · have b5 := (ho.2 i (show i < n by omega)).1
    rw [x_Ref_onNow_2]
    simp (disch := omega) only [x_Ref_onNow_0, x_Ref_onNow_1, x_Ref_onNow_3, x_Ref_onNow_4, x_Ref_onNow_7, x_Ref_onNow_9, x_Ref_onNow_10, x_Ref_onNow_13, x_Ref_onNow_14, x_Ref_onNow_15, x_Ref_onNow_16, x_Ref_onNow_19, x_Ref_onNow_22, x_Ref_onNow_25, x_Ref_onNow_28, x_Ref_onNow_31, x_Ref_onNow_32, x_Ref_onNow_33, x_Ref_onNow_36, x_Ref_onNow_38, x_Ref_onNow_39, x_Ref_onNow_42, x_Ref_onNow_43, x_Ref_onNow_44, x_Ref_onNow_47, x_Ref_onNow_50, x_Ref_onNow_51, mk_I, mk_J, mk_Q, mk_n, mk_sI, mk_sJ, Option.toList_some, Option.toList_none, List.cons_append, List.nil_append, true_and, and_true, leT, leF, ltT, ltF, eqF, lt0F, le0T, le0F, eq0F, natT, nI_clamp, nI_1, if_true, if_false, not_true_eq_false, not_false_eq_true, z_00, z_10, oc_94, rt_94_0, rt_94_1, rt_94_3, rt_94_8, rt_94_9, rt_94_10, rt_94_11, rt_94_12, rt_94_15, rt_94_16, rt_94_18, rt_94_21, rt_94_22, rt_94_23, rt_94_24, or_95, tc_0, kc_0, k0_0, tc_1, kc_1, k0_1, tc_2, kc_2, k0_2, tc_3, kc_3, k0_3, tc_4, kc_4, k0_4, tc_5, kc_5, k0_5, tc_6, kc_6, k0_6, tc_7, kc_7, k0_7, hn, mx_call (q_itemAt (d := 0) hr ho J (show i < n by omega)) _, mx_call (q_rIsL (d := 0) hr J b5) _, h1 i hi]
    exact ih
  · by_cases hpn : p < n
    · have b5 := (ho.2 p hpn).1
      rw [x_Ref_onNow_2]
      simp (disch := omega) only [x_Ref_onNow_0, x_Ref_onNow_1, x_Ref_onNow_3, x_Ref_onNow_4, x_Ref_onNow_7, x_Ref_onNow_9, x_Ref_onNow_10, x_Ref_onNow_13, x_Ref_onNow_14, x_Ref_onNow_15, x_Ref_onNow_16, x_Ref_onNow_19, x_Ref_onNow_22, x_Ref_onNow_25, x_Ref_onNow_28, x_Ref_onNow_31, x_Ref_onNow_32, x_Ref_onNow_33, x_Ref_onNow_36, x_Ref_onNow_38, x_Ref_onNow_39, x_Ref_onNow_42, x_Ref_onNow_43, x_Ref_onNow_44, x_Ref_onNow_47, x_Ref_onNow_50, x_Ref_onNow_51, mk_I, mk_J, mk_Q, mk_n, mk_sI, mk_sJ, Option.toList_some, Option.toList_none, List.cons_append, List.nil_append, true_and, and_true, leT, leF, ltT, ltF, eqF, lt0F, le0T, le0F, eq0F, natT, nI_clamp, nI_1, if_true, if_false, not_true_eq_false, not_false_eq_true, z_00, z_10, oc_94, rt_94_0, rt_94_1, rt_94_3, rt_94_8, rt_94_9, rt_94_10, rt_94_11, rt_94_12, rt_94_15, rt_94_16, rt_94_18, rt_94_21, rt_94_22, rt_94_23, rt_94_24, or_95, tc_0, kc_0, k0_0, tc_1, kc_1, k0_1, tc_2, kc_2, k0_2, tc_3, kc_3, k0_3, tc_4, kc_4, k0_4, tc_5, kc_5, k0_5, tc_6, kc_6, k0_6, tc_7, kc_7, k0_7, hn, mx_call (q_itemAt (d := 0) hr ho J hpn) _, mx_call (q_rIsL (d := 0) hr J b5) _, h2 hpn]
    · rw [if_neg hpn, x_Ref_onNow_2]
      simp (disch := omega) only [x_Ref_onNow_0, x_Ref_onNow_1, x_Ref_onNow_3, x_Ref_onNow_4, x_Ref_onNow_7, x_Ref_onNow_9, x_Ref_onNow_10, x_Ref_onNow_13, x_Ref_onNow_14, x_Ref_onNow_15, x_Ref_onNow_16, x_Ref_onNow_19, x_Ref_onNow_22, x_Ref_onNow_25, x_Ref_onNow_28, x_Ref_onNow_31, x_Ref_onNow_32, x_Ref_onNow_33, x_Ref_onNow_36, x_Ref_onNow_38, x_Ref_onNow_39, x_Ref_onNow_42, x_Ref_onNow_43, x_Ref_onNow_44, x_Ref_onNow_47, x_Ref_onNow_50, x_Ref_onNow_51, mk_I, mk_J, mk_Q, mk_n, mk_sI, mk_sJ, Option.toList_some, Option.toList_none, List.cons_append, List.nil_append, true_and, and_true, leT, leF, ltT, ltF, eqF, lt0F, le0T, le0F, eq0F, natT, nI_clamp, nI_1, if_true, if_false, not_true_eq_false, not_false_eq_true, z_00, z_10, oc_94, rt_94_0, rt_94_1, rt_94_3, rt_94_8, rt_94_9, rt_94_10, rt_94_11, rt_94_12, rt_94_15, rt_94_16, rt_94_18, rt_94_21, rt_94_22, rt_94_23, rt_94_24, or_95, tc_0, kc_0, k0_0, tc_1, kc_1, k0_1, tc_2, kc_2, k0_2, tc_3, kc_3, k0_3, tc_4, kc_4, k0_4, tc_5, kc_5, k0_5, tc_6, kc_6, k0_6, tc_7, kc_7, k0_7, hn]
theorem q_rLeftSet {d : Nat} (hr : RI I n K M T F pl) (J : mx_J) : mx_Cal mx_tab (d + 3) 171 [.ref 94] (mk I J) (some (.int (nI (lfN F n)))) (mk I J) := by
  have h := q_Ref_leftSet (d := d) J hr.2.1 hr.1
  rw [lsN_lfN (f := rF I) (F := F) (fun i hi => ⟨(hr.2.2 i hi).2.2.2.2.2.2.2.2.2, (hr.2.2 i hi).2.2.2.1⟩)] at h
  exact h
theorem q_rLeastAll {d a : Nat} (hr : RI I n K M T F pl) (J : mx_J) (ha : a < 512) : mx_Cal mx_tab (d + 3) 173 [.ref 94, .int (nI a)] (mk I J) (some (.int (nI (sN (fun i => if a.testBit i = true then LN K M T i else 0) n)))) (mk I J) := by
  have h := q_Ref_leastAll (d := d) J hr.2.1 hr.1 ha
  rw [sm_sN (g := fun i => if a.testBit i = true then LN K M T i else 0) (fun i hi => by
    by_cases q : a.testBit i = true
    · rw [if_pos q, if_pos q, hr.L hi]
    · rw [if_neg q, if_neg q]; rfl)] at h
  exact h
theorem q_rMostAll {d a : Nat} (hr : RI I n K M T F pl) (J : mx_J) (ha : a < 512) : mx_Cal mx_tab (d + 3) 174 [.ref 94, .int (nI a)] (mk I J) (some (.int (nI (sN (fun i => if a.testBit i = true then MN K M T i else 0) n)))) (mk I J) := by
  have h := q_Ref_mostAll (d := d) J hr.2.1 hr.1 ha
  rw [sm_sN (g := fun i => if a.testBit i = true then MN K M T i else 0) (fun i hi => by
    by_cases q : a.testBit i = true
    · rw [if_pos q, if_pos q, hr.M hi]
    · rw [if_neg q, if_neg q]; rfl)] at h
  exact h
theorem q_rTruthAll {d a : Nat} (hr : RI I n K M T F pl) (J : mx_J) (ha : a < 512) : mx_Cal mx_tab (d + 3) 214 [.ref 94, .int (nI a)] (mk I J) (some (.int (nI (sN (fun i => if a.testBit i = true then T i else 0) n)))) (mk I J) := by
  have h := q_Ref_truthAll (d := d) J hr.2.1 hr.1 ha
  rw [sm_sN (g := fun i => if a.testBit i = true then T i else 0) (fun i hi => by
    by_cases q : a.testBit i = true
    · rw [if_pos q, if_pos q]; exact (hr.2.2 i hi).2.2.2.2.2.2.2.1
    · rw [if_neg q, if_neg q]; rfl)] at h
  exact h
theorem clr_nI : ∀ a, a < 512 → 0 < a → nI a &&& (nI a - 1) = nI (a &&& (a - 1)) ∧ (a &&& (a - 1)) < a ∧ pcN a = pcN (a &&& (a - 1)) + 1 := by decide +kernel
theorem l_bitsOf {C : mx_C} {h : mx_H} {P : mx_P} {z : Int32} : ∀ (m a c : Nat), a ≤ m → a < 512 → mx_R k_Ref_bitsOf C 4 [some (.int z), some (.int (nI c)), some (.int (nI a))] [] h P = P (some (.int (nI (c + pcN a)))) h
  | 0, a, c, hm, ha => by
    have : a = 0 := by omega
    subst this
    rw [x_Ref_bitsOf_4]
    simp (disch := omega) only [x_Ref_bitsOf_0, x_Ref_bitsOf_1, x_Ref_bitsOf_2, x_Ref_bitsOf_3, x_Ref_bitsOf_5, x_Ref_bitsOf_8, x_Ref_bitsOf_11, x_Ref_bitsOf_12, x_Ref_bitsOf_13, x_Ref_bitsOf_14, x_Ref_bitsOf_15, x_Ref_bitsOf_16, x_Ref_bitsOf_17, x_Ref_bitsOf_20, x_Ref_bitsOf_21, nI_0, if_true, show pcN 0 = 0 from rfl, Nat.add_zero]
  | m + 1, a, c, hm, ha => by
    by_cases h0 : a = 0
    · subst h0
      rw [x_Ref_bitsOf_4]
      simp (disch := omega) only [x_Ref_bitsOf_0, x_Ref_bitsOf_1, x_Ref_bitsOf_2, x_Ref_bitsOf_3, x_Ref_bitsOf_5, x_Ref_bitsOf_8, x_Ref_bitsOf_11, x_Ref_bitsOf_12, x_Ref_bitsOf_13, x_Ref_bitsOf_14, x_Ref_bitsOf_15, x_Ref_bitsOf_16, x_Ref_bitsOf_17, x_Ref_bitsOf_20, x_Ref_bitsOf_21, nI_0, if_true, show pcN 0 = 0 from rfl, Nat.add_zero]
    · obtain ⟨e1, e2, e3⟩ := clr_nI a ha (by omega)
      rw [x_Ref_bitsOf_4]
      simp (disch := omega) only [x_Ref_bitsOf_0, x_Ref_bitsOf_1, x_Ref_bitsOf_2, x_Ref_bitsOf_3, x_Ref_bitsOf_5, x_Ref_bitsOf_8, x_Ref_bitsOf_11, x_Ref_bitsOf_12, x_Ref_bitsOf_13, x_Ref_bitsOf_14, x_Ref_bitsOf_15, x_Ref_bitsOf_16, x_Ref_bitsOf_17, x_Ref_bitsOf_20, x_Ref_bitsOf_21, eq0F, if_false, nI_1, e1]
      rw [l_bitsOf m _ (c + 1) (by omega) (by omega), e3]
      rw [show c + 1 + pcN (a &&& (a - 1)) = c + (pcN (a &&& (a - 1)) + 1) by omega]
theorem q_bitsOf {d a : Nat} (h : mx_H) (ha : a < 512) : mx_Cal mx_tab (d + 1) 172 [.int (nI a)] h (some (.int (nI (pcN a)))) h := by
  refine mx_Cal_in (ls := [some (.int (nI a)), none, none]) tab_172 trivial (Nat.le_of_ble_eq_true rfl) rfl ?_
  simp only [x_Ref_bitsOf_0, x_Ref_bitsOf_1, x_Ref_bitsOf_2, x_Ref_bitsOf_3]
  rw [← nI_0, l_bitsOf a a 0 (Nat.le_refl _) ha, Nat.zero_add]
  exact ⟨rfl, rfl⟩
theorem q_isItem {d : Nat} (hr : RI I n K M T F pl) (J : mx_J) (x : Int32) : mx_Cal mx_tab (d + 2) 148 [.ref 94, .int x] (mk I J) (some (.int (if x < 0 then 0 else if nI n ≤ x then 0 else 1))) (mk I J) := by
  have h9 := hr.1
  have h := q_Ref_isItem (d := d) J hr.2.1 x
  by_cases hx : x < 0
  · simp only [hx, if_true] at h ⊢; exact h
  · simp only [hx, if_false, lt_pred (show n < 2 ^ 30 by omega) hx] at h ⊢; exact h
theorem q_there {d : Nat} (J : mx_J) : mx_Cal mx_tab (d + 1) 175 [.ref 94] (mk I J) (some (.int (I 95 1 - I 95 0))) (mk I J) := by
  refine mx_Cal_in (ls := [some (.ref 94)]) tab_175 (by rw [mx_rcv, oc_94]; trivial) (Nat.le_of_ble_eq_true rfl) rfl ?_
  simp (disch := omega) only [x_Ref_thereIs_0, x_Ref_thereIs_1, x_Ref_thereIs_4, x_Ref_thereIs_5, x_Ref_thereIs_6, x_Ref_thereIs_7, x_Ref_thereIs_10, x_Ref_thereIs_11, x_Ref_thereIs_12, x_Ref_thereIs_13, mk_I, mk_J, mk_Q, mk_n, mk_sI, mk_sJ, Option.toList_some, Option.toList_none, List.cons_append, List.nil_append, true_and, and_true, leT, leF, ltT, ltF, eqF, lt0F, le0T, le0F, eq0F, natT, nI_clamp, nI_1, if_true, if_false, not_true_eq_false, not_false_eq_true, z_00, z_10, oc_94, rt_94_0, rt_94_1, rt_94_3, rt_94_8, rt_94_9, rt_94_10, rt_94_11, rt_94_12, rt_94_15, rt_94_16, rt_94_18, rt_94_21, rt_94_22, rt_94_23, rt_94_24, or_95, oa_95, tc_0, kc_0, k0_0, tc_1, kc_1, k0_1, tc_2, kc_2, k0_2, tc_3, kc_3, k0_3, tc_4, kc_4, k0_4, tc_5, kc_5, k0_5, tc_6, kc_6, k0_6, tc_7, kc_7, k0_7]
theorem q_fitsSet {d a : Nat} (hr : RI I n K M T F pl) (J : mx_J) (ha : a < 512) (t : Int32) : mx_Cal mx_tab (d + 4) 176 [.ref 94, .int (nI a), .int t] (mk I J) (some (.int (if nI (sN (fun i => if a.testBit i = true then LN K M T i else 0) n) ≤ t then (if t ≤ nI (sN (fun i => if a.testBit i = true then MN K M T i else 0) n) then 1 else 0) else 0))) (mk I J) := by
  refine mx_Cal_in (ls := [some (.ref 94), some (.int (nI a)), some (.int t)]) tab_176 (by rw [mx_rcv, oc_94]; trivial) (Nat.le_of_ble_eq_true rfl) rfl ?_
  simp (disch := omega) only [x_Ref_fitsSet_0, x_Ref_fitsSet_1, x_Ref_fitsSet_2, x_Ref_fitsSet_5, x_Ref_fitsSet_6, x_Ref_fitsSet_9, x_Ref_fitsSet_10, x_Ref_fitsSet_11, x_Ref_fitsSet_12, x_Ref_fitsSet_15, x_Ref_fitsSet_18, x_Ref_fitsSet_19, x_Ref_fitsSet_22, x_Ref_fitsSet_23, mk_I, mk_J, mk_Q, mk_n, mk_sI, mk_sJ, Option.toList_some, Option.toList_none, List.cons_append, List.nil_append, true_and, and_true, oc_94, mx_call (q_rLeastAll (d := 0) hr J ha) _, mx_call (q_rMostAll (d := 0) hr J ha) _, ite_le]
  by_cases h1 : t < nI (sN (fun i => if a.testBit i = true then LN K M T i else 0) n)
  · simp [h1]
  · by_cases h2 : nI (sN (fun i => if a.testBit i = true then MN K M T i else 0) n) < t
    · simp [h1, h2]
    · simp [h1, h2]
end RT
