/-! the class's ITEMS by plain numbers -/
section IT
variable {n : Nat} {I : mx_I} {K M T F pl od : Nat → Nat}
theorem q_isL {d k : Nat} (hc : CI I n K M T F od) (J : mx_J) (hk : k < n) : mx_Cal mx_tab (d + 2) 15 [.ref 2, .int (nI k)] (mk I J) (some (.int (if F k = 0 then 1 else 0))) (mk I J) := by
  have h := q_Items_isLeft (d := d) J hc.2.1 hc.1 hk
  obtain ⟨b1, b2, b3, b4, b5, d1, d2, d3, d4, d5⟩ := hc.2.2 k hk
  rw [d4] at h
  simp (disch := omega) only [eq0] at h
  exact h
theorem q_placeOf {d k : Nat} (hc : CI I n K M T F od) (ho : OrdR n pl od) (J : mx_J) (hk : k < n) : mx_Cal mx_tab (d + 2) 21 [.ref 2, .int (nI k)] (mk I J) (some (.int (nI (pl k)))) (mk I J) := by
  have h9 := hc.1
  have hn := hc.2.1
  have hp := (ho.1 k hk).1
  refine mx_Cal_in (ls := [some (.ref 2), some (.int (nI k)), none, none]) tab_21 (by rw [mx_rcv, oc_2]; trivial) (Nat.le_of_ble_eq_true rfl) rfl ?_
  simp only [x_Items_placeOf_0, x_Items_placeOf_1, x_Items_placeOf_2, x_Items_placeOf_3]
  refine lq (i0 := 0) (n := n) (fun i => [some (.ref 2), some (.int (nI k)), some (.int (nI (if pl k < i then pl k else 0))), some (.int (nI i))]) (fun _ => mk I J) (Nat.zero_le n) rfl rfl (fun i _ hi ih => ?_) ?_
  · obtain ⟨b1, b2, b3, b4, b5, d1, d2, d3, d4, d5⟩ := hc.2.2 i hi
    rw [x_Items_placeOf_4]
    have e1 := at11 I (show i < 9 by omega)
    rw [d5] at e1
    by_cases hz : od i = k
    · have hz2 : pl k = i := by rw [← hz, (ho.2 i hi).2]
      rw [hz] at e1
      have hz3 : (if pl k < i + 1 then pl k else 0) = i := by rw [if_pos (show pl k < i + 1 by omega), hz2]
      rw [hz3] at ih
      simp (disch := omega) only [x_Items_placeOf_0, x_Items_placeOf_1, x_Items_placeOf_2, x_Items_placeOf_3, x_Items_placeOf_5, x_Items_placeOf_6, x_Items_placeOf_9, x_Items_placeOf_12, x_Items_placeOf_13, x_Items_placeOf_16, x_Items_placeOf_17, x_Items_placeOf_20, x_Items_placeOf_21, x_Items_placeOf_24, x_Items_placeOf_25, x_Items_placeOf_26, x_Items_placeOf_29, x_Items_placeOf_32, x_Items_placeOf_33, mk_I, mk_J, mk_Q, mk_n, mk_sI, mk_sJ, Option.toList_some, Option.toList_none, List.cons_append, List.nil_append, true_and, and_true, leT, leF, ltT, ltF, eqF, lt0F, le0T, le0F, eq0F, natT, nI_clamp, nI_1, if_true, if_false, not_true_eq_false, not_false_eq_true, z_00, z_10, oc_2, rt_2_1, rt_2_2, rt_2_3, rt_2_4, rt_2_5, hn, mx_call (q_Line_at (d := 0) L11 _ _ _) _, e1]
      exact ih
    · have hz2 : pl k ≠ i := fun q => hz (by rw [← q, (ho.1 k hk).2])
      have hz3 : (if pl k < i + 1 then pl k else 0) = (if pl k < i then pl k else 0) := by
        by_cases q : pl k < i
        · rw [if_pos q, if_pos (by omega)]
        · rw [if_neg q, if_neg (by omega)]
      rw [hz3] at ih
      simp (disch := omega) only [x_Items_placeOf_0, x_Items_placeOf_1, x_Items_placeOf_2, x_Items_placeOf_3, x_Items_placeOf_5, x_Items_placeOf_6, x_Items_placeOf_9, x_Items_placeOf_12, x_Items_placeOf_13, x_Items_placeOf_16, x_Items_placeOf_17, x_Items_placeOf_20, x_Items_placeOf_21, x_Items_placeOf_24, x_Items_placeOf_25, x_Items_placeOf_26, x_Items_placeOf_29, x_Items_placeOf_32, x_Items_placeOf_33, mk_I, mk_J, mk_Q, mk_n, mk_sI, mk_sJ, Option.toList_some, Option.toList_none, List.cons_append, List.nil_append, true_and, and_true, leT, leF, ltT, ltF, eqF, lt0F, le0T, le0F, eq0F, natT, nI_clamp, nI_1, if_true, if_false, not_true_eq_false, not_false_eq_true, z_00, z_10, oc_2, rt_2_1, rt_2_2, rt_2_3, rt_2_4, rt_2_5, hn, mx_call (q_Line_at (d := 0) L11 _ _ _) _, e1]
      exact ih
  · rw [x_Items_placeOf_4]
    simp (disch := omega) only [x_Items_placeOf_0, x_Items_placeOf_1, x_Items_placeOf_2, x_Items_placeOf_3, x_Items_placeOf_5, x_Items_placeOf_6, x_Items_placeOf_9, x_Items_placeOf_12, x_Items_placeOf_13, x_Items_placeOf_16, x_Items_placeOf_17, x_Items_placeOf_20, x_Items_placeOf_21, x_Items_placeOf_24, x_Items_placeOf_25, x_Items_placeOf_26, x_Items_placeOf_29, x_Items_placeOf_32, x_Items_placeOf_33, mk_I, mk_J, mk_Q, mk_n, mk_sI, mk_sJ, Option.toList_some, Option.toList_none, List.cons_append, List.nil_append, true_and, and_true, leT, leF, ltT, ltF, eqF, lt0F, le0T, le0F, eq0F, natT, nI_clamp, nI_1, if_true, if_false, not_true_eq_false, not_false_eq_true, z_00, z_10, oc_2, hn, if_pos hp]
theorem q_leastFrom {d p0 : Nat} (hc : CI I n K M T F od) (J : mx_J) (hp : p0 ≤ n) : mx_Cal mx_tab (d + 3) 29 [.ref 2, .int (nI p0)] (mk I J) (some (.int (nI (sN (fun q => if p0 ≤ q ∧ F (od q) = 0 then LN K M T (od q) else 0) n)))) (mk I J) := by
  have h9 := hc.1
  have hn := hc.2.1
  refine mx_Cal_in (ls := [some (.ref 2), some (.int (nI p0)), none, none, none]) tab_29 (by rw [mx_rcv, oc_2]; trivial) (Nat.le_of_ble_eq_true rfl) rfl ?_
  simp (disch := omega) only [x_Items_leastOfLeftFrom_0, x_Items_leastOfLeftFrom_1, x_Items_leastOfLeftFrom_2, x_Items_leastOfLeftFrom_3, x_Items_leastOfLeftFrom_4, x_Items_leastOfLeftFrom_7, maxI0]
  refine lqj (i0 := p0) (n := n) (fun i w => [some (.ref 2), some (.int (nI p0)), some (.int (nI (sN (fun q => if p0 ≤ q ∧ F (od q) = 0 then LN K M T (od q) else 0) i))), some (.int (nI i)), w]) (fun _ _ => mk I J) none hp ?_ rfl (fun i w hi0 hi => ⟨some (.int (nI (od i))), fun ih => ?_⟩) (fun w => ?_)
  · have z : sN (fun q => if p0 ≤ q ∧ F (od q) = 0 then LN K M T (od q) else 0) p0 = 0 := sN_zero (fun i hi => if_neg (by omega))
    simp only [z, nI_0]
  · obtain ⟨b1, b2, b3, b4, b5, d1, d2, d3, d4, d5⟩ := hc.2.2 i hi
    have e1 := at11 I (show i < 9 by omega)
    rw [d5] at e1
    rw [sN] at ih
    rw [x_Items_leastOfLeftFrom_8]
    by_cases hF : F (od i) = 0
    · rw [if_pos ⟨hi0, hF⟩] at ih
      simp (disch := omega) only [x_Items_leastOfLeftFrom_0, x_Items_leastOfLeftFrom_1, x_Items_leastOfLeftFrom_2, x_Items_leastOfLeftFrom_3, x_Items_leastOfLeftFrom_4, x_Items_leastOfLeftFrom_7, x_Items_leastOfLeftFrom_9, x_Items_leastOfLeftFrom_10, x_Items_leastOfLeftFrom_13, x_Items_leastOfLeftFrom_16, x_Items_leastOfLeftFrom_17, x_Items_leastOfLeftFrom_20, x_Items_leastOfLeftFrom_21, x_Items_leastOfLeftFrom_24, x_Items_leastOfLeftFrom_26, x_Items_leastOfLeftFrom_27, x_Items_leastOfLeftFrom_28, x_Items_leastOfLeftFrom_30, x_Items_leastOfLeftFrom_33, x_Items_leastOfLeftFrom_36, x_Items_leastOfLeftFrom_37, x_Items_leastOfLeftFrom_39, x_Items_leastOfLeftFrom_42, x_Items_leastOfLeftFrom_45, x_Items_leastOfLeftFrom_46, x_Items_leastOfLeftFrom_47, x_Items_leastOfLeftFrom_48, x_Items_leastOfLeftFrom_51, x_Items_leastOfLeftFrom_54, x_Items_leastOfLeftFrom_55, mk_I, mk_J, mk_Q, mk_n, mk_sI, mk_sJ, Option.toList_some, Option.toList_none, List.cons_append, List.nil_append, true_and, and_true, leT, leF, ltT, ltF, eqF, lt0F, le0T, le0F, eq0F, natT, nI_clamp, nI_1, if_true, if_false, not_true_eq_false, not_false_eq_true, z_00, z_10, oc_2, rt_2_1, rt_2_2, rt_2_3, rt_2_4, rt_2_5, hn, mx_call (q_Line_at (d := 0) L11 _ _ _) _, e1, mx_call (q_isL (d := 0) hc J b5) _, hF, mx_call (q_Items_least (d := 0) I J (show od i < 9 by omega)) _, hc.L b5, nI_add]
      exact ih
    · rw [if_neg (fun q => hF q.2)] at ih
      simp (disch := omega) only [x_Items_leastOfLeftFrom_0, x_Items_leastOfLeftFrom_1, x_Items_leastOfLeftFrom_2, x_Items_leastOfLeftFrom_3, x_Items_leastOfLeftFrom_4, x_Items_leastOfLeftFrom_7, x_Items_leastOfLeftFrom_9, x_Items_leastOfLeftFrom_10, x_Items_leastOfLeftFrom_13, x_Items_leastOfLeftFrom_16, x_Items_leastOfLeftFrom_17, x_Items_leastOfLeftFrom_20, x_Items_leastOfLeftFrom_21, x_Items_leastOfLeftFrom_24, x_Items_leastOfLeftFrom_26, x_Items_leastOfLeftFrom_27, x_Items_leastOfLeftFrom_28, x_Items_leastOfLeftFrom_30, x_Items_leastOfLeftFrom_33, x_Items_leastOfLeftFrom_36, x_Items_leastOfLeftFrom_37, x_Items_leastOfLeftFrom_39, x_Items_leastOfLeftFrom_42, x_Items_leastOfLeftFrom_45, x_Items_leastOfLeftFrom_46, x_Items_leastOfLeftFrom_47, x_Items_leastOfLeftFrom_48, x_Items_leastOfLeftFrom_51, x_Items_leastOfLeftFrom_54, x_Items_leastOfLeftFrom_55, mk_I, mk_J, mk_Q, mk_n, mk_sI, mk_sJ, Option.toList_some, Option.toList_none, List.cons_append, List.nil_append, true_and, and_true, leT, leF, ltT, ltF, eqF, lt0F, le0T, le0F, eq0F, natT, nI_clamp, nI_1, if_true, if_false, not_true_eq_false, not_false_eq_true, z_00, z_10, oc_2, rt_2_1, rt_2_2, rt_2_3, rt_2_4, rt_2_5, hn, mx_call (q_Line_at (d := 0) L11 _ _ _) _, e1, mx_call (q_isL (d := 0) hc J b5) _, hF, Int32.add_zero]
      exact ih
  · rw [x_Items_leastOfLeftFrom_8]
    simp (disch := omega) only [x_Items_leastOfLeftFrom_0, x_Items_leastOfLeftFrom_1, x_Items_leastOfLeftFrom_2, x_Items_leastOfLeftFrom_3, x_Items_leastOfLeftFrom_4, x_Items_leastOfLeftFrom_7, x_Items_leastOfLeftFrom_9, x_Items_leastOfLeftFrom_10, x_Items_leastOfLeftFrom_13, x_Items_leastOfLeftFrom_16, x_Items_leastOfLeftFrom_17, x_Items_leastOfLeftFrom_20, x_Items_leastOfLeftFrom_21, x_Items_leastOfLeftFrom_24, x_Items_leastOfLeftFrom_26, x_Items_leastOfLeftFrom_27, x_Items_leastOfLeftFrom_28, x_Items_leastOfLeftFrom_30, x_Items_leastOfLeftFrom_33, x_Items_leastOfLeftFrom_36, x_Items_leastOfLeftFrom_37, x_Items_leastOfLeftFrom_39, x_Items_leastOfLeftFrom_42, x_Items_leastOfLeftFrom_45, x_Items_leastOfLeftFrom_46, x_Items_leastOfLeftFrom_47, x_Items_leastOfLeftFrom_48, x_Items_leastOfLeftFrom_51, x_Items_leastOfLeftFrom_54, x_Items_leastOfLeftFrom_55, mk_I, mk_J, mk_Q, mk_n, mk_sI, mk_sJ, Option.toList_some, Option.toList_none, List.cons_append, List.nil_append, true_and, and_true, leT, leF, ltT, ltF, eqF, lt0F, le0T, le0F, eq0F, natT, nI_clamp, nI_1, if_true, if_false, not_true_eq_false, not_false_eq_true, z_00, z_10, oc_2, hn]
theorem q_mostFrom {d p0 : Nat} (hc : CI I n K M T F od) (J : mx_J) (hp : p0 ≤ n) : mx_Cal mx_tab (d + 3) 30 [.ref 2, .int (nI p0)] (mk I J) (some (.int (nI (sN (fun q => if p0 ≤ q ∧ F (od q) = 0 then MN K M T (od q) else 0) n)))) (mk I J) := by
  have h9 := hc.1
  have hn := hc.2.1
  refine mx_Cal_in (ls := [some (.ref 2), some (.int (nI p0)), none, none, none]) tab_30 (by rw [mx_rcv, oc_2]; trivial) (Nat.le_of_ble_eq_true rfl) rfl ?_
  simp (disch := omega) only [x_Items_mostOfLeftFrom_0, x_Items_mostOfLeftFrom_1, x_Items_mostOfLeftFrom_2, x_Items_mostOfLeftFrom_3, x_Items_mostOfLeftFrom_4, x_Items_mostOfLeftFrom_7, maxI0]
  refine lqj (i0 := p0) (n := n) (fun i w => [some (.ref 2), some (.int (nI p0)), some (.int (nI (sN (fun q => if p0 ≤ q ∧ F (od q) = 0 then MN K M T (od q) else 0) i))), some (.int (nI i)), w]) (fun _ _ => mk I J) none hp ?_ rfl (fun i w hi0 hi => ⟨some (.int (nI (od i))), fun ih => ?_⟩) (fun w => ?_)
  · have z : sN (fun q => if p0 ≤ q ∧ F (od q) = 0 then MN K M T (od q) else 0) p0 = 0 := sN_zero (fun i hi => if_neg (by omega))
    simp only [z, nI_0]
  · obtain ⟨b1, b2, b3, b4, b5, d1, d2, d3, d4, d5⟩ := hc.2.2 i hi
    have e1 := at11 I (show i < 9 by omega)
    rw [d5] at e1
    rw [sN] at ih
    rw [x_Items_mostOfLeftFrom_8]
    by_cases hF : F (od i) = 0
    · rw [if_pos ⟨hi0, hF⟩] at ih
      simp (disch := omega) only [x_Items_mostOfLeftFrom_0, x_Items_mostOfLeftFrom_1, x_Items_mostOfLeftFrom_2, x_Items_mostOfLeftFrom_3, x_Items_mostOfLeftFrom_4, x_Items_mostOfLeftFrom_7, x_Items_mostOfLeftFrom_9, x_Items_mostOfLeftFrom_10, x_Items_mostOfLeftFrom_13, x_Items_mostOfLeftFrom_16, x_Items_mostOfLeftFrom_17, x_Items_mostOfLeftFrom_20, x_Items_mostOfLeftFrom_21, x_Items_mostOfLeftFrom_24, x_Items_mostOfLeftFrom_26, x_Items_mostOfLeftFrom_27, x_Items_mostOfLeftFrom_28, x_Items_mostOfLeftFrom_30, x_Items_mostOfLeftFrom_33, x_Items_mostOfLeftFrom_36, x_Items_mostOfLeftFrom_37, x_Items_mostOfLeftFrom_39, x_Items_mostOfLeftFrom_42, x_Items_mostOfLeftFrom_45, x_Items_mostOfLeftFrom_46, x_Items_mostOfLeftFrom_47, x_Items_mostOfLeftFrom_48, x_Items_mostOfLeftFrom_51, x_Items_mostOfLeftFrom_54, x_Items_mostOfLeftFrom_55, mk_I, mk_J, mk_Q, mk_n, mk_sI, mk_sJ, Option.toList_some, Option.toList_none, List.cons_append, List.nil_append, true_and, and_true, leT, leF, ltT, ltF, eqF, lt0F, le0T, le0F, eq0F, natT, nI_clamp, nI_1, if_true, if_false, not_true_eq_false, not_false_eq_true, z_00, z_10, oc_2, rt_2_1, rt_2_2, rt_2_3, rt_2_4, rt_2_5, hn, mx_call (q_Line_at (d := 0) L11 _ _ _) _, e1, mx_call (q_isL (d := 0) hc J b5) _, hF, mx_call (q_Items_most (d := 0) I J (show od i < 9 by omega)) _, hc.M b5, nI_add]
      exact ih
    · rw [if_neg (fun q => hF q.2)] at ih
      simp (disch := omega) only [x_Items_mostOfLeftFrom_0, x_Items_mostOfLeftFrom_1, x_Items_mostOfLeftFrom_2, x_Items_mostOfLeftFrom_3, x_Items_mostOfLeftFrom_4, x_Items_mostOfLeftFrom_7, x_Items_mostOfLeftFrom_9, x_Items_mostOfLeftFrom_10, x_Items_mostOfLeftFrom_13, x_Items_mostOfLeftFrom_16, x_Items_mostOfLeftFrom_17, x_Items_mostOfLeftFrom_20, x_Items_mostOfLeftFrom_21, x_Items_mostOfLeftFrom_24, x_Items_mostOfLeftFrom_26, x_Items_mostOfLeftFrom_27, x_Items_mostOfLeftFrom_28, x_Items_mostOfLeftFrom_30, x_Items_mostOfLeftFrom_33, x_Items_mostOfLeftFrom_36, x_Items_mostOfLeftFrom_37, x_Items_mostOfLeftFrom_39, x_Items_mostOfLeftFrom_42, x_Items_mostOfLeftFrom_45, x_Items_mostOfLeftFrom_46, x_Items_mostOfLeftFrom_47, x_Items_mostOfLeftFrom_48, x_Items_mostOfLeftFrom_51, x_Items_mostOfLeftFrom_54, x_Items_mostOfLeftFrom_55, mk_I, mk_J, mk_Q, mk_n, mk_sI, mk_sJ, Option.toList_some, Option.toList_none, List.cons_append, List.nil_append, true_and, and_true, leT, leF, ltT, ltF, eqF, lt0F, le0T, le0F, eq0F, natT, nI_clamp, nI_1, if_true, if_false, not_true_eq_false, not_false_eq_true, z_00, z_10, oc_2, rt_2_1, rt_2_2, rt_2_3, rt_2_4, rt_2_5, hn, mx_call (q_Line_at (d := 0) L11 _ _ _) _, e1, mx_call (q_isL (d := 0) hc J b5) _, hF, Int32.add_zero]
      exact ih
  · rw [x_Items_mostOfLeftFrom_8]
    simp (disch := omega) only [x_Items_mostOfLeftFrom_0, x_Items_mostOfLeftFrom_1, x_Items_mostOfLeftFrom_2, x_Items_mostOfLeftFrom_3, x_Items_mostOfLeftFrom_4, x_Items_mostOfLeftFrom_7, x_Items_mostOfLeftFrom_9, x_Items_mostOfLeftFrom_10, x_Items_mostOfLeftFrom_13, x_Items_mostOfLeftFrom_16, x_Items_mostOfLeftFrom_17, x_Items_mostOfLeftFrom_20, x_Items_mostOfLeftFrom_21, x_Items_mostOfLeftFrom_24, x_Items_mostOfLeftFrom_26, x_Items_mostOfLeftFrom_27, x_Items_mostOfLeftFrom_28, x_Items_mostOfLeftFrom_30, x_Items_mostOfLeftFrom_33, x_Items_mostOfLeftFrom_36, x_Items_mostOfLeftFrom_37, x_Items_mostOfLeftFrom_39, x_Items_mostOfLeftFrom_42, x_Items_mostOfLeftFrom_45, x_Items_mostOfLeftFrom_46, x_Items_mostOfLeftFrom_47, x_Items_mostOfLeftFrom_48, x_Items_mostOfLeftFrom_51, x_Items_mostOfLeftFrom_54, x_Items_mostOfLeftFrom_55, mk_I, mk_J, mk_Q, mk_n, mk_sI, mk_sJ, Option.toList_some, Option.toList_none, List.cons_append, List.nil_append, true_and, and_true, leT, leF, ltT, ltF, eqF, lt0F, le0T, le0F, eq0F, natT, nI_clamp, nI_1, if_true, if_false, not_true_eq_false, not_false_eq_true, z_00, z_10, oc_2, hn]
theorem q_leastLeft {d : Nat} (hc : CI I n K M T F od) (J : mx_J) : mx_Cal mx_tab (d + 4) 27 [.ref 2] (mk I J) (some (.int (nI (sN (fun q => if F (od q) = 0 then LN K M T (od q) else 0) n)))) (mk I J) := by
  have h := q_leastFrom (d := d) (p0 := 0) hc J (Nat.zero_le n)
  simp only [Nat.zero_le, true_and, nI_0] at h
  refine mx_Cal_in (ls := [some (.ref 2)]) tab_27 (by rw [mx_rcv, oc_2]; trivial) (Nat.le_of_ble_eq_true rfl) rfl ?_
  simp only [x_Items_leastOfLeft_0, x_Items_leastOfLeft_1, x_Items_leastOfLeft_2, x_Items_leastOfLeft_5, mk_I, mk_J, mk_Q, mk_n, mk_sI, mk_sJ, Option.toList_some, Option.toList_none, List.cons_append, List.nil_append, true_and, and_true, mx_call h (Nat.le_refl (d + 3))]
theorem q_mostLeft {d : Nat} (hc : CI I n K M T F od) (J : mx_J) : mx_Cal mx_tab (d + 4) 28 [.ref 2] (mk I J) (some (.int (nI (sN (fun q => if F (od q) = 0 then MN K M T (od q) else 0) n)))) (mk I J) := by
  have h := q_mostFrom (d := d) (p0 := 0) hc J (Nat.zero_le n)
  simp only [Nat.zero_le, true_and, nI_0] at h
  refine mx_Cal_in (ls := [some (.ref 2)]) tab_28 (by rw [mx_rcv, oc_2]; trivial) (Nat.le_of_ble_eq_true rfl) rfl ?_
  simp only [x_Items_mostOfLeft_0, x_Items_mostOfLeft_1, x_Items_mostOfLeft_2, x_Items_mostOfLeft_5, mk_I, mk_J, mk_Q, mk_n, mk_sI, mk_sJ, Option.toList_some, Option.toList_none, List.cons_append, List.nil_append, true_and, and_true, mx_call h (Nat.le_refl (d + 3))]
theorem q_trueLeft {d : Nat} (hc : CI I n K M T F od) (J : mx_J) : mx_Cal mx_tab (d + 3) 26 [.ref 2] (mk I J) (some (.int (nI (sN (fun i => if F i = 0 then T i else 0) n)))) (mk I J) := by
  have h9 := hc.1
  have hn := hc.2.1
  refine mx_Cal_in (ls := [some (.ref 2), none, none]) tab_26 (by rw [mx_rcv, oc_2]; trivial) (Nat.le_of_ble_eq_true rfl) rfl ?_
  simp only [x_Items_trueOfLeft_0, x_Items_trueOfLeft_1, x_Items_trueOfLeft_2, x_Items_trueOfLeft_3]
  refine lq (i0 := 0) (n := n) (fun i => [some (.ref 2), some (.int (nI (sN (fun i => if F i = 0 then T i else 0) i))), some (.int (nI i))]) (fun _ => mk I J) (Nat.zero_le n) rfl rfl (fun i hi0 hi ih => ?_) ?_
  · obtain ⟨b1, b2, b3, b4, b5, d1, d2, d3, d4, d5⟩ := hc.2.2 i hi
    have e1 := at7 I (show i < 9 by omega)
    rw [d3] at e1
    rw [sN] at ih
    rw [x_Items_trueOfLeft_4]
    by_cases hF : F i = 0
    · rw [if_pos hF] at ih
      simp (disch := omega) only [x_Items_trueOfLeft_0, x_Items_trueOfLeft_1, x_Items_trueOfLeft_2, x_Items_trueOfLeft_3, x_Items_trueOfLeft_5, x_Items_trueOfLeft_6, x_Items_trueOfLeft_9, x_Items_trueOfLeft_12, x_Items_trueOfLeft_13, x_Items_trueOfLeft_14, x_Items_trueOfLeft_15, x_Items_trueOfLeft_18, x_Items_trueOfLeft_21, x_Items_trueOfLeft_22, x_Items_trueOfLeft_25, x_Items_trueOfLeft_26, x_Items_trueOfLeft_29, x_Items_trueOfLeft_32, x_Items_trueOfLeft_33, x_Items_trueOfLeft_34, x_Items_trueOfLeft_35, x_Items_trueOfLeft_38, x_Items_trueOfLeft_41, x_Items_trueOfLeft_42, mk_I, mk_J, mk_Q, mk_n, mk_sI, mk_sJ, Option.toList_some, Option.toList_none, List.cons_append, List.nil_append, true_and, and_true, leT, leF, ltT, ltF, eqF, lt0F, le0T, le0F, eq0F, natT, nI_clamp, nI_1, if_true, if_false, not_true_eq_false, not_false_eq_true, z_00, z_10, oc_2, rt_2_1, rt_2_2, rt_2_3, rt_2_4, rt_2_5, hn, mx_call (q_Line_at (d := 0) L7 _ _ _) _, e1, mx_call (q_isL (d := 0) hc J hi) _, hF, nI_add]
      exact ih
    · rw [if_neg hF] at ih
      simp (disch := omega) only [x_Items_trueOfLeft_0, x_Items_trueOfLeft_1, x_Items_trueOfLeft_2, x_Items_trueOfLeft_3, x_Items_trueOfLeft_5, x_Items_trueOfLeft_6, x_Items_trueOfLeft_9, x_Items_trueOfLeft_12, x_Items_trueOfLeft_13, x_Items_trueOfLeft_14, x_Items_trueOfLeft_15, x_Items_trueOfLeft_18, x_Items_trueOfLeft_21, x_Items_trueOfLeft_22, x_Items_trueOfLeft_25, x_Items_trueOfLeft_26, x_Items_trueOfLeft_29, x_Items_trueOfLeft_32, x_Items_trueOfLeft_33, x_Items_trueOfLeft_34, x_Items_trueOfLeft_35, x_Items_trueOfLeft_38, x_Items_trueOfLeft_41, x_Items_trueOfLeft_42, mk_I, mk_J, mk_Q, mk_n, mk_sI, mk_sJ, Option.toList_some, Option.toList_none, List.cons_append, List.nil_append, true_and, and_true, leT, leF, ltT, ltF, eqF, lt0F, le0T, le0F, eq0F, natT, nI_clamp, nI_1, if_true, if_false, not_true_eq_false, not_false_eq_true, z_00, z_10, oc_2, rt_2_1, rt_2_2, rt_2_3, rt_2_4, rt_2_5, hn, mx_call (q_isL (d := 0) hc J hi) _, hF, Int32.add_zero]
      exact ih
  · rw [x_Items_trueOfLeft_4]
    simp (disch := omega) only [x_Items_trueOfLeft_0, x_Items_trueOfLeft_1, x_Items_trueOfLeft_2, x_Items_trueOfLeft_3, x_Items_trueOfLeft_5, x_Items_trueOfLeft_6, x_Items_trueOfLeft_9, x_Items_trueOfLeft_12, x_Items_trueOfLeft_13, x_Items_trueOfLeft_14, x_Items_trueOfLeft_15, x_Items_trueOfLeft_18, x_Items_trueOfLeft_21, x_Items_trueOfLeft_22, x_Items_trueOfLeft_25, x_Items_trueOfLeft_26, x_Items_trueOfLeft_29, x_Items_trueOfLeft_32, x_Items_trueOfLeft_33, x_Items_trueOfLeft_34, x_Items_trueOfLeft_35, x_Items_trueOfLeft_38, x_Items_trueOfLeft_41, x_Items_trueOfLeft_42, mk_I, mk_J, mk_Q, mk_n, mk_sI, mk_sJ, Option.toList_some, Option.toList_none, List.cons_append, List.nil_append, true_and, and_true, leT, leF, ltT, ltF, eqF, lt0F, le0T, le0F, eq0F, natT, nI_clamp, nI_1, if_true, if_false, not_true_eq_false, not_false_eq_true, z_00, z_10, oc_2, hn]
/-- which are left, as a number of bits -/
def lfN (F : Nat → Nat) : Nat → Nat
  | 0 => 0
  | i + 1 => lfN F i + (if F i = 0 then 2 ^ i else 0)
theorem lfN_lt (F : Nat → Nat) : ∀ n, lfN F n < 2 ^ n
  | 0 => Nat.lt_of_lt_of_eq Nat.zero_lt_one rfl
  | n + 1 => by
    have := lfN_lt F n
    unfold lfN
    rw [Nat.pow_succ]
    split <;> omega
theorem lfN_512 (F : Nat → Nat) {n : Nat} (h9 : n ≤ 9) : lfN F n < 512 := by
  have h := lfN_lt F n
  have h2 : 2 ^ n ≤ 2 ^ 9 := Nat.pow_le_pow_right (by omega) h9
  omega
theorem lfN_bit (F : Nat → Nat) : ∀ n i, (lfN F n).testBit i = (decide (i < n) && decide (F i = 0))
  | 0, i => by simp [lfN]
  | n + 1, i => by
    have h := lfN_lt F n
    have ih := lfN_bit F n i
    unfold lfN
    by_cases hF : F n = 0
    · rw [if_pos hF, Nat.add_comm]
      by_cases h1 : i = n
      · subst h1
        rw [Nat.testBit_two_pow_add_eq, Nat.testBit_lt_two_pow h]
        simp [hF]
      · by_cases h2 : i < n
        · rw [Nat.testBit_two_pow_add_gt h2, ih, decide_eq_true h2, decide_eq_true (show i < n + 1 by omega)]
        · rw [decide_eq_false (show ¬ i < n + 1 by omega)]
          have h3 : 2 ^ (n + 1) ≤ 2 ^ i := Nat.pow_le_pow_right (by omega) (by omega)
          rw [Nat.pow_succ] at h3
          exact Nat.testBit_lt_two_pow (by omega)
    · rw [if_neg hF, Nat.add_zero, ih]
      by_cases h1 : i = n
      · subst h1; simp [hF]
      · by_cases h2 : i < n
        · rw [decide_eq_true h2, decide_eq_true (show i < n + 1 by omega)]
        · rw [decide_eq_false h2, decide_eq_false (show ¬ i < n + 1 by omega)]
theorem lsN_lfN {f : Nat → Int32} {F : Nat → Nat} : ∀ {n : Nat}, (∀ i, i < n → f i = nI (F i) ∧ F i < 3) → lsN f n = lfN F n
  | 0, _ => rfl
  | n + 1, h => by
    obtain ⟨h1, h2⟩ := h n (by omega)
    unfold lsN lfN
    rw [lsN_lfN (fun i hi => h i (by omega)), h1]
    simp (disch := omega) only [eq0]
theorem q_leftSet {d : Nat} (hc : CI I n K M T F od) (J : mx_J) : mx_Cal mx_tab (d + 3) 24 [.ref 2] (mk I J) (some (.int (nI (lfN F n)))) (mk I J) := by
  have h := q_Items_leftSet (d := d) J hc.2.1 hc.1
  rw [lsN_lfN (fun i hi => ⟨(hc.2.2 i hi).2.2.2.2.2.2.2.2.1, (hc.2.2 i hi).2.2.2.1⟩)] at h
  exact h
/-- how many bits of a small number are set -/
def pcN (a : Nat) : Nat := sN (fun i => (a.testBit i).toNat) 9
theorem bitCount_nI : ∀ a, a < 512 → ∀ (C : mx_C) (h : mx_H) (P : mx_P), mx_R k_JI_bitCount C 0 [some (.int (nI a))] [] h P = P (some (.int (nI (pcN a)))) h := by
  intro a ha C h P
  have e : ∀ a, a < 512 → BC (nI a) = nI (pcN a) := by decide +kernel
  rw [← e a ha]
  simp only [x_JI_bitCount_0, x_JI_bitCount_1, x_JI_bitCount_2, x_JI_bitCount_3, x_JI_bitCount_4, x_JI_bitCount_7, x_JI_bitCount_8, x_JI_bitCount_9, x_JI_bitCount_10, x_JI_bitCount_11, x_JI_bitCount_14, x_JI_bitCount_15, x_JI_bitCount_16, x_JI_bitCount_17, x_JI_bitCount_18, x_JI_bitCount_21, x_JI_bitCount_22, x_JI_bitCount_23, x_JI_bitCount_24, x_JI_bitCount_25, x_JI_bitCount_26, x_JI_bitCount_27, x_JI_bitCount_28, x_JI_bitCount_29, x_JI_bitCount_32, x_JI_bitCount_33, x_JI_bitCount_34, x_JI_bitCount_35, x_JI_bitCount_36, x_JI_bitCount_38, x_JI_bitCount_39, x_JI_bitCount_40, x_JI_bitCount_41, x_JI_bitCount_42, x_JI_bitCount_43, x_JI_bitCount_45, x_JI_bitCount_46, x_JI_bitCount_47, x_JI_bitCount_48, x_JI_bitCount_49, x_JI_bitCount_51, x_JI_bitCount_52]
  rfl
theorem q_bitCount {d a : Nat} (h : mx_H) (ha : a < 512) : mx_Cal mx_tab (d + 1) 0 [.int (nI a)] h (some (.int (nI (pcN a)))) h := by
  refine mx_Cal_in (ls := [some (.int (nI a))]) tab_0 trivial (Nat.le_of_ble_eq_true rfl) rfl ?_
  rw [bitCount_nI a ha]
  exact ⟨rfl, rfl⟩
theorem q_howMany {d : Nat} (hc : CI I n K M T F od) (J : mx_J) : mx_Cal mx_tab (d + 4) 25 [.ref 2] (mk I J) (some (.int (nI (pcN (lfN F n))))) (mk I J) := by
  refine mx_Cal_in (ls := [some (.ref 2)]) tab_25 (by rw [mx_rcv, oc_2]; trivial) (Nat.le_of_ble_eq_true rfl) rfl ?_
  simp (disch := omega) only [x_Items_howManyLeft_0, x_Items_howManyLeft_1, x_Items_howManyLeft_4, x_Items_howManyLeft_7, mk_I, mk_J, mk_Q, mk_n, mk_sI, mk_sJ, Option.toList_some, Option.toList_none, List.cons_append, List.nil_append, true_and, and_true, mx_call (q_leftSet (d := 0) hc J) _, mx_call (q_bitCount (d := 0) _ (lfN_512 F hc.1)) _]
theorem q_on {d p : Nat} (hc : CI I n K M T F od) (J : mx_J) (hp : p ≤ n) (h1 : ∀ i, i < p → ¬ F (od i) = 0) (h2 : p < n → F (od p) = 0) : mx_Cal mx_tab (d + 3) 23 [.ref 2] (mk I J) (some (.int (if p < n then nI (od p) else -1))) (mk I J) := by
  have h9 := hc.1
  have hn := hc.2.1
  refine mx_Cal_in (ls := [some (.ref 2), none]) tab_23 (by rw [mx_rcv, oc_2]; trivial) (Nat.le_of_ble_eq_true rfl) rfl ?_
  simp only [x_Items_on_0, x_Items_on_1]
  refine lq (i0 := 0) (n := p) (fun i => [some (.ref 2), some (.int (nI i))]) (fun _ => mk I J) (Nat.zero_le p) rfl rfl (fun i hi0 hi ih => ?_) ?_
  · obtain ⟨b1, b2, b3, b4, b5, d1, d2, d3, d4, d5⟩ := hc.2.2 i (by omega)
    have e1 := at11 I (show i < 9 by omega)
    rw [d5] at e1
    rw [x_Items_on_2]
    simp (disch := omega) only [x_Items_on_0, x_Items_on_1, x_Items_on_3, x_Items_on_4, x_Items_on_7, x_Items_on_10, x_Items_on_11, x_Items_on_12, x_Items_on_15, x_Items_on_16, x_Items_on_19, x_Items_on_22, x_Items_on_25, x_Items_on_26, x_Items_on_29, x_Items_on_30, x_Items_on_33, x_Items_on_34, x_Items_on_37, x_Items_on_40, x_Items_on_41, mk_I, mk_J, mk_Q, mk_n, mk_sI, mk_sJ, Option.toList_some, Option.toList_none, List.cons_append, List.nil_append, true_and, and_true, leT, leF, ltT, ltF, eqF, lt0F, le0T, le0F, eq0F, natT, nI_clamp, nI_1, if_true, if_false, not_true_eq_false, not_false_eq_true, z_00, z_10, oc_2, rt_2_1, rt_2_2, rt_2_3, rt_2_4, rt_2_5, hn, mx_call (q_Line_at (d := 0) L11 _ _ _) _, e1, mx_call (q_isL (d := 0) hc J b5) _, h1 i hi]
    exact ih
  · by_cases hpn : p < n
    · obtain ⟨b1, b2, b3, b4, b5, d1, d2, d3, d4, d5⟩ := hc.2.2 p hpn
      have e1 := at11 I (show p < 9 by omega)
      rw [d5] at e1
      rw [x_Items_on_2]
      simp (disch := omega) only [x_Items_on_0, x_Items_on_1, x_Items_on_3, x_Items_on_4, x_Items_on_7, x_Items_on_10, x_Items_on_11, x_Items_on_12, x_Items_on_15, x_Items_on_16, x_Items_on_19, x_Items_on_22, x_Items_on_25, x_Items_on_26, x_Items_on_29, x_Items_on_30, x_Items_on_33, x_Items_on_34, x_Items_on_37, x_Items_on_40, x_Items_on_41, mk_I, mk_J, mk_Q, mk_n, mk_sI, mk_sJ, Option.toList_some, Option.toList_none, List.cons_append, List.nil_append, true_and, and_true, leT, leF, ltT, ltF, eqF, lt0F, le0T, le0F, eq0F, natT, nI_clamp, nI_1, if_true, if_false, not_true_eq_false, not_false_eq_true, z_00, z_10, oc_2, rt_2_1, rt_2_2, rt_2_3, rt_2_4, rt_2_5, hn, mx_call (q_Line_at (d := 0) L11 _ _ _) _, e1, mx_call (q_isL (d := 0) hc J b5) _, h2 hpn]
    · rw [if_neg hpn, x_Items_on_2]
      simp (disch := omega) only [x_Items_on_0, x_Items_on_1, x_Items_on_3, x_Items_on_4, x_Items_on_7, x_Items_on_10, x_Items_on_11, x_Items_on_12, x_Items_on_15, x_Items_on_16, x_Items_on_19, x_Items_on_22, x_Items_on_25, x_Items_on_26, x_Items_on_29, x_Items_on_30, x_Items_on_33, x_Items_on_34, x_Items_on_37, x_Items_on_40, x_Items_on_41, mk_I, mk_J, mk_Q, mk_n, mk_sI, mk_sJ, Option.toList_some, Option.toList_none, List.cons_append, List.nil_append, true_and, and_true, leT, leF, ltT, ltF, eqF, lt0F, le0T, le0F, eq0F, natT, nI_clamp, nI_1, if_true, if_false, not_true_eq_false, not_false_eq_true, z_00, z_10, oc_2, rt_2_1, rt_2_2, rt_2_3, rt_2_4, rt_2_5, hn]
end IT
