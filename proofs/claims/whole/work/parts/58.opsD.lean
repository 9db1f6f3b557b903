/-! loops that change cells; anew, check; the sheets -/
theorem lqx {σ : Type} {cl : List (Nat × mx_N)} {C : mx_C} {pc i0 n : Nat} (ls : Nat → σ → mx_L) (h : σ → mx_H) (Q : Nat → σ → Prop) {s0 : σ} (hle : i0 ≤ n) (h0 : Q i0 s0) (step : ∀ i s, i0 ≤ i → i < n → Q i s → ∃ s', Q (i + 1) s' ∧ ∀ P, mx_R cl C pc (ls (i + 1) s') [] (h s') P → mx_R cl C pc (ls i s) [] (h s) P) : ∃ s', Q n s' ∧ ∀ P, mx_R cl C pc (ls n s') [] (h s') P → mx_R cl C pc (ls i0 s0) [] (h s0) P := by
  obtain ⟨k, rfl⟩ := Nat.le.dest hle
  clear hle
  induction k with
  | zero => exact ⟨s0, h0, fun _ h => h⟩
  | succ k ih =>
    obtain ⟨s1, h1, e1⟩ := ih (fun i s a b => step i s a (by omega))
    obtain ⟨s2, h2, e2⟩ := step (i0 + k) s1 (by omega) (by omega) h1
    exact ⟨s2, h2, fun P h => e1 P (e2 P h)⟩
def anF (F : Nat → Nat) (i : Nat) : Nat → Nat := fun j => if j < i ∧ F j = 2 then 0 else F j
theorem anF_0 (F : Nat → Nat) : anF F 0 = F := by
  funext j
  unfold anF
  rw [if_neg (by omega)]
theorem anF_1 {F : Nat → Nat} {i : Nat} (h : F i = 2) : anF F (i + 1) = pt (anF F i) i 0 := by
  funext j
  unfold anF pt
  by_cases q : j = i
  · subst q
    rw [if_pos rfl, if_pos ⟨by omega, h⟩]
  · rw [if_neg q]
    show _ = (if j < i ∧ F j = 2 then 0 else F j)
    by_cases q2 : j < i ∧ F j = 2
    · rw [if_pos q2, if_pos ⟨by omega, q2.2⟩]
    · rw [if_neg q2, if_neg (fun z => q2 ⟨by omega, z.2⟩)]
theorem anF_2 {F : Nat → Nat} {i : Nat} (h : F i ≠ 2) : anF F (i + 1) = anF F i := by
  funext j
  unfold anF
  by_cases q2 : j < i ∧ F j = 2
  · rw [if_pos q2, if_pos ⟨by omega, q2.2⟩]
  · rw [if_neg q2, if_neg (fun z => q2 ⟨by
      rcases Nat.lt_or_ge j i with w | w
      · exact w
      · exfalso
        have : j = i := by omega
        subst this
        exact h z.2, z.2⟩)]
theorem anF_i (F : Nat → Nat) (i : Nat) : anF F i i = F i := if_neg (by omega)
theorem q_bringBack {n : Nat} {I : mx_I} {K M T F od : Nat → Nat} (hc : CI I n K M T F od) (J : mx_J) : ∃ I', (CI I' n K M T (anF F n) od ∧ ∀ a j, a ≠ 10 → I' a j = I a j) ∧ mx_Cal mx_tab 2 31 [.ref 2] (mk I J) none (mk I' J) := by
  have h9 := hc.1
  obtain ⟨I', hQ, hP⟩ := lqx (cl := k_Items_bringBackDone) (C := mx_Cal mx_tab 1) (pc := 2) (i0 := 0) (n := n) (fun i (_ : mx_I) => [some (.ref 2), some (.int (nI i))]) (fun I' => mk I' J) (fun i I' => CI I' n K M T (anF F i) od ∧ ∀ a j, a ≠ 10 → I' a j = I a j) (s0 := I) (Nat.zero_le n) ⟨by rw [anF_0]; exact hc, fun _ _ _ => rfl⟩ (fun i I' _ hi hQ => by
    obtain ⟨hc', hf⟩ := hQ
    obtain ⟨b1, b2, b3, b4, b5, d1, d2, d3, d4, d5⟩ := hc'.2.2 i hi
    rw [anF_i] at d4 b4
    have e1 := at9 I' (show i < 9 by omega)
    rw [d4] at e1
    have hn' := hc'.2.1
    by_cases hF : F i = 2
    · refine ⟨mx_ups I' 10 i (nI 0), ⟨by rw [anF_1 hF]; exact hc'.setF (by omega), fun a j h => by rw [ups_ne _ _ (by omega)]; exact hf a j h⟩, fun P ih => ?_⟩
      rw [hF] at e1
      rw [x_Items_bringBackDone_2]
      simp (disch := omega) only [x_Items_bringBackDone_0, x_Items_bringBackDone_1, x_Items_bringBackDone_3, x_Items_bringBackDone_4, x_Items_bringBackDone_7, x_Items_bringBackDone_10, x_Items_bringBackDone_11, x_Items_bringBackDone_14, x_Items_bringBackDone_15, x_Items_bringBackDone_18, x_Items_bringBackDone_19, x_Items_bringBackDone_22, x_Items_bringBackDone_23, x_Items_bringBackDone_26, x_Items_bringBackDone_27, x_Items_bringBackDone_28, x_Items_bringBackDone_31, x_Items_bringBackDone_34, x_Items_bringBackDone_37, mk_I, mk_J, mk_Q, mk_n, mk_sI, mk_sJ, Option.toList_some, Option.toList_none, List.cons_append, List.nil_append, true_and, and_true, leT, leF, ltT, ltF, eqF, lt0F, le0T, le0F, eq0F, natT, nI_clamp, nI_1, if_true, if_false, not_true_eq_false, not_false_eq_true, z_00, z_10, eq_self, true_or, or_true, or_false, false_or, oc_0, oc_1, oc_2, rt_0_0, rt_0_1, rt_0_3, rt_0_4, rt_0_5, rt_0_6, rt_0_7, rt_0_8, rt_0_9, rt_1_0, rt_1_5, rt_1_6, rt_1_7, rt_1_8, rt_2_1, rt_2_2, rt_2_3, rt_2_4, rt_2_5, hn', mx_call (q_Line_at (d := 0) L9 _ _ _) _, e1, show (2 : Int32) = nI 2 from rfl, mx_call (q_st9 (d := 0) _ _ (show i < 9 by omega) _) _]
      exact ih
    · refine ⟨I', ⟨by rw [anF_2 hF]; exact hc', hf⟩, fun P ih => ?_⟩
      rw [x_Items_bringBackDone_2]
      simp (disch := omega) only [x_Items_bringBackDone_0, x_Items_bringBackDone_1, x_Items_bringBackDone_3, x_Items_bringBackDone_4, x_Items_bringBackDone_7, x_Items_bringBackDone_10, x_Items_bringBackDone_11, x_Items_bringBackDone_14, x_Items_bringBackDone_15, x_Items_bringBackDone_18, x_Items_bringBackDone_19, x_Items_bringBackDone_22, x_Items_bringBackDone_23, x_Items_bringBackDone_26, x_Items_bringBackDone_27, x_Items_bringBackDone_28, x_Items_bringBackDone_31, x_Items_bringBackDone_34, x_Items_bringBackDone_37, mk_I, mk_J, mk_Q, mk_n, mk_sI, mk_sJ, Option.toList_some, Option.toList_none, List.cons_append, List.nil_append, true_and, and_true, leT, leF, ltT, ltF, eqF, lt0F, le0T, le0F, eq0F, natT, nI_clamp, nI_1, if_true, if_false, not_true_eq_false, not_false_eq_true, z_00, z_10, eq_self, true_or, or_true, or_false, false_or, oc_0, oc_1, oc_2, rt_0_0, rt_0_1, rt_0_3, rt_0_4, rt_0_5, rt_0_6, rt_0_7, rt_0_8, rt_0_9, rt_1_0, rt_1_5, rt_1_6, rt_1_7, rt_1_8, rt_2_1, rt_2_2, rt_2_3, rt_2_4, rt_2_5, hn', mx_call (q_Line_at (d := 0) L9 _ _ _) _, e1, show (2 : Int32) = nI 2 from rfl]
      exact ih)
  refine ⟨I', hQ, ?_⟩
  have hn' := hQ.1.2.1
  refine mx_Cal_in (ls := [some (.ref 2), none]) tab_31 (by rw [mx_rcv, oc_2]; trivial) (Nat.le_of_ble_eq_true rfl) rfl ?_
  simp only [x_Items_bringBackDone_0, x_Items_bringBackDone_1]
  refine hP _ ?_
  rw [x_Items_bringBackDone_2]
  simp (disch := omega) only [x_Items_bringBackDone_0, x_Items_bringBackDone_1, x_Items_bringBackDone_3, x_Items_bringBackDone_4, x_Items_bringBackDone_7, x_Items_bringBackDone_10, x_Items_bringBackDone_11, x_Items_bringBackDone_14, x_Items_bringBackDone_15, x_Items_bringBackDone_18, x_Items_bringBackDone_19, x_Items_bringBackDone_22, x_Items_bringBackDone_23, x_Items_bringBackDone_26, x_Items_bringBackDone_27, x_Items_bringBackDone_28, x_Items_bringBackDone_31, x_Items_bringBackDone_34, x_Items_bringBackDone_37, mk_I, mk_J, mk_Q, mk_n, mk_sI, mk_sJ, Option.toList_some, Option.toList_none, List.cons_append, List.nil_append, true_and, and_true, leT, leF, ltT, ltF, eqF, lt0F, le0T, le0F, eq0F, natT, nI_clamp, nI_1, if_true, if_false, not_true_eq_false, not_false_eq_true, z_00, z_10, eq_self, true_or, or_true, or_false, false_or, oc_0, oc_1, oc_2, rt_0_0, rt_0_1, rt_0_3, rt_0_4, rt_0_5, rt_0_6, rt_0_7, rt_0_8, rt_0_9, rt_1_0, rt_1_5, rt_1_6, rt_1_7, rt_1_8, rt_2_1, rt_2_2, rt_2_3, rt_2_4, rt_2_5, hn']
theorem op_anew {L : Nat} {xs : Nat → Int32} {I : mx_I} (hI : Inv L xs I) : OpI L xs I 110 196 [] := by
  obtain ⟨⟨n, pl, od, hit⟩, hcl, htp, hw, ht0, ht1⟩ := hI.1
  have ho := hit.2.2.2.1
  have hz5 := hit.2.2.2.2.2
  obtain ⟨K, M, T, F, hc, hr⟩ := hit.sk
  have h9 := hc.1
  have hn := hc.2.1
  have hm := hr.2.1
  obtain ⟨z0, a, b, c, a9, b9, c9, ca, ra, cb, rb, cc, rc⟩ := hcl
  have z0 : I 1 4 = I 95 3 := z0
  have ca : I 1 1 = nI a := ca
  have cb : I 1 2 = nI b := cb
  have cc : I 1 3 = nI c := cc
  have hc1 : CI (mx_ups I 1 2 0) n K M T F od := hc.congr (fun a j _ => by rw [ups_ne _ _ (by omega)])
  intro J
  obtain ⟨I1, ⟨hc2, hf⟩, hcal⟩ := q_bringBack hc1 J
  have hr1 : RI (mx_ups I1 95 0 0) n K M T F pl := hr.congr (fun j q => by rw [ups_ne _ _ (by omega), hf 95 j (by omega), ups_ne _ _ (by omega)])
  obtain ⟨I2, ⟨hr2, hf2⟩, hP⟩ := lqx (cl := k_Ref_anew) (C := mx_Cal mx_tab 299) (pc := 9) (i0 := 0) (n := n) (fun i (_ : mx_I) => [some (.ref 94), some (.int (nI i))]) (fun I' => mk I' J) (fun i I' => RI I' n K M T (anF F i) pl ∧ ∀ a j, ¬ (a = 95 ∧ (8 ≤ j ∧ j < 53)) → I' a j = mx_ups I1 95 0 0 a j) (s0 := mx_ups I1 95 0 0) (Nat.zero_le n) ⟨by rw [anF_0]; exact hr1, fun _ _ _ => rfl⟩ (fun i I' _ hi hQ => by
    obtain ⟨hc', hf⟩ := hQ
    obtain ⟨b1, b2, b3, b4, b5, d1, d2, d3, d4, d5⟩ := hc'.2.2 i hi
    have e1 := q_itsF (d := 0) hc' J hi
    rw [anF_i] at e1 b4
    have hn' := hc'.2.1
    have l2 : (2 : Int32) = nI 2 := rfl
    by_cases hF : F i = 2
    · refine ⟨mx_ups I' 95 (8 + 5 * i + 4) (nI 0), ⟨by rw [anF_1 hF]; exact hc'.setF (by omega), fun a j h => by rw [ups_ne _ _ (by omega)]; exact hf a j h⟩, fun P ih => ?_⟩
      rw [hF] at e1
      rw [x_Ref_anew_9]
      simp (disch := omega) only [x_Ref_anew_0, x_Ref_anew_1, x_Ref_anew_4, x_Ref_anew_5, x_Ref_anew_6, x_Ref_anew_7, x_Ref_anew_8, x_Ref_anew_10, x_Ref_anew_11, x_Ref_anew_14, x_Ref_anew_16, x_Ref_anew_17, x_Ref_anew_20, x_Ref_anew_21, x_Ref_anew_22, x_Ref_anew_23, x_Ref_anew_24, x_Ref_anew_25, x_Ref_anew_26, x_Ref_anew_29, x_Ref_anew_30, x_Ref_anew_33, x_Ref_anew_34, x_Ref_anew_37, x_Ref_anew_38, x_Ref_anew_39, x_Ref_anew_40, x_Ref_anew_43, x_Ref_anew_46, x_Ref_anew_49, x_Ref_anew_52, x_Ref_anew_53, x_Ref_anew_56, x_Ref_anew_59, mk_I, mk_J, mk_Q, mk_n, mk_sI, mk_sJ, Option.toList_some, Option.toList_none, List.cons_append, List.nil_append, true_and, and_true, leT, leF, ltT, ltF, eqF, lt0F, le0T, le0F, eq0F, natT, nI_clamp, nI_1, if_true, if_false, not_true_eq_false, not_false_eq_true, z_00, z_10, eq_self, true_or, or_true, or_false, false_or, oc_94, rt_94_0, rt_94_1, rt_94_3, rt_94_8, rt_94_9, rt_94_10, rt_94_11, rt_94_12, rt_94_15, rt_94_16, rt_94_18, rt_94_21, rt_94_22, rt_94_23, rt_94_24, or_95, oa_95, tc_0, kc_0, k0_0, tc_1, kc_1, k0_1, tc_2, kc_2, k0_2, tc_3, kc_3, k0_3, tc_4, kc_4, k0_4, tc_5, kc_5, k0_5, tc_6, kc_6, k0_6, tc_7, kc_7, k0_7, hn', mx_call e1 _, l2, mx_call (q_Ref_lays1_4 (d := 0) _ _ (show i < 9 by omega) _) _]
      exact ih
    · have e3 : mx_ups I' 95 (8 + 5 * i + 4) (nI (F i)) = I' := by
        funext a j
        by_cases q : a = 95 ∧ j = 8 + 5 * i + 4
        · obtain ⟨rfl, rfl⟩ := q
          rw [ups_same, d5, anF_i]
        · rw [ups_ne _ _ (by omega)]
      refine ⟨I', ⟨by rw [anF_2 hF]; exact hc', hf⟩, fun P ih => ?_⟩
      rw [x_Ref_anew_9]
      simp (disch := omega) only [x_Ref_anew_0, x_Ref_anew_1, x_Ref_anew_4, x_Ref_anew_5, x_Ref_anew_6, x_Ref_anew_7, x_Ref_anew_8, x_Ref_anew_10, x_Ref_anew_11, x_Ref_anew_14, x_Ref_anew_16, x_Ref_anew_17, x_Ref_anew_20, x_Ref_anew_21, x_Ref_anew_22, x_Ref_anew_23, x_Ref_anew_24, x_Ref_anew_25, x_Ref_anew_26, x_Ref_anew_29, x_Ref_anew_30, x_Ref_anew_33, x_Ref_anew_34, x_Ref_anew_37, x_Ref_anew_38, x_Ref_anew_39, x_Ref_anew_40, x_Ref_anew_43, x_Ref_anew_46, x_Ref_anew_49, x_Ref_anew_52, x_Ref_anew_53, x_Ref_anew_56, x_Ref_anew_59, mk_I, mk_J, mk_Q, mk_n, mk_sI, mk_sJ, Option.toList_some, Option.toList_none, List.cons_append, List.nil_append, true_and, and_true, leT, leF, ltT, ltF, eqF, lt0F, le0T, le0F, eq0F, natT, nI_clamp, nI_1, if_true, if_false, not_true_eq_false, not_false_eq_true, z_00, z_10, eq_self, true_or, or_true, or_false, false_or, oc_94, rt_94_0, rt_94_1, rt_94_3, rt_94_8, rt_94_9, rt_94_10, rt_94_11, rt_94_12, rt_94_15, rt_94_16, rt_94_18, rt_94_21, rt_94_22, rt_94_23, rt_94_24, or_95, oa_95, tc_0, kc_0, k0_0, tc_1, kc_1, k0_1, tc_2, kc_2, k0_2, tc_3, kc_3, k0_3, tc_4, kc_4, k0_4, tc_5, kc_5, k0_5, tc_6, kc_6, k0_6, tc_7, kc_7, k0_7, hn', mx_call e1 _, l2, mx_call (q_Ref_lays1_4 (d := 0) _ _ (show i < 9 by omega) _) _, e3]
      exact ih)
  have hrn := hr2.2.1
  refine ⟨nI (pcN (lfN (anF F n) n)), I1, I2, J, J, ?_, ?_, hI.2.2.2.2.2.upd (fun a j h => by rw [hf a j (by omega), ups_ne _ _ (by omega)]), hI.ic (fun a j h => by rw [hf2 a j (by omega), ups_ne _ _ (by omega), hf a j (by omega), ups_ne _ _ (by omega)]) ⟨n, pl, od, ItemsR.of (hc2.congr (fun a j h => by rw [hf2 a j (by omega), ups_ne _ _ (by omega)])) hr2 ho ?_⟩ ⟨?_, a, 0, c, a9, by omega, c9, ?_⟩⟩
  · refine mx_Cal_in (ls := [some (.ref 0)]) (d := 299) tab_110 (by rw [mx_rcv, oc_0]; trivial) (Nat.le_of_ble_eq_true rfl) rfl ?_
    simp (disch := omega) only [x_Main_anew_0, x_Main_anew_1, x_Main_anew_4, x_Main_anew_5, x_Main_anew_8, x_Main_anew_9, x_Main_anew_12, x_Main_anew_15, x_Main_anew_18, x_Main_anew_19, x_Main_anew_22, x_Main_anew_25, x_Main_anew_28, mk_I, mk_J, mk_Q, mk_n, mk_sI, mk_sJ, Option.toList_some, Option.toList_none, List.cons_append, List.nil_append, true_and, and_true, leT, leF, ltT, ltF, eqF, lt0F, le0T, le0F, eq0F, natT, nI_clamp, nI_1, if_true, if_false, not_true_eq_false, not_false_eq_true, z_00, z_10, eq_self, true_or, or_true, or_false, false_or, oc_0, oc_1, oc_2, rt_0_0, rt_0_1, rt_0_3, rt_0_4, rt_0_5, rt_0_6, rt_0_7, rt_0_8, rt_0_9, rt_1_0, rt_1_5, rt_1_6, rt_1_7, rt_1_8, rt_2_1, rt_2_2, rt_2_3, rt_2_4, rt_2_5, mx_call hcal _, mx_call (q_howMany (d := 0) hc2 J) _]
  · refine mx_Cal_in (ls := [some (.ref 94), none]) (d := 299) tab_196 (by rw [mx_rcv, oc_94]; trivial) (Nat.le_of_ble_eq_true rfl) rfl ?_
    simp (disch := omega) only [x_Ref_anew_0, x_Ref_anew_1, x_Ref_anew_4, x_Ref_anew_5, x_Ref_anew_6, x_Ref_anew_7, x_Ref_anew_8, mk_I, mk_J, mk_Q, mk_n, mk_sI, mk_sJ, Option.toList_some, Option.toList_none, List.cons_append, List.nil_append, true_and, and_true, leT, leF, ltT, ltF, eqF, lt0F, le0T, le0F, eq0F, natT, nI_clamp, nI_1, if_true, if_false, not_true_eq_false, not_false_eq_true, z_00, z_10, eq_self, true_or, or_true, or_false, false_or, oc_94, rt_94_0, rt_94_1, rt_94_3, rt_94_8, rt_94_9, rt_94_10, rt_94_11, rt_94_12, rt_94_15, rt_94_16, rt_94_18, rt_94_21, rt_94_22, rt_94_23, rt_94_24, or_95, oa_95, tc_0, kc_0, k0_0, tc_1, kc_1, k0_1, tc_2, kc_2, k0_2, tc_3, kc_3, k0_3, tc_4, kc_4, k0_4, tc_5, kc_5, k0_5, tc_6, kc_6, k0_6, tc_7, kc_7, k0_7]
    refine hP _ ?_
    rw [x_Ref_anew_9]
    simp (disch := omega) only [x_Ref_anew_0, x_Ref_anew_1, x_Ref_anew_4, x_Ref_anew_5, x_Ref_anew_6, x_Ref_anew_7, x_Ref_anew_8, x_Ref_anew_10, x_Ref_anew_11, x_Ref_anew_14, x_Ref_anew_16, x_Ref_anew_17, x_Ref_anew_20, x_Ref_anew_21, x_Ref_anew_22, x_Ref_anew_23, x_Ref_anew_24, x_Ref_anew_25, x_Ref_anew_26, x_Ref_anew_29, x_Ref_anew_30, x_Ref_anew_33, x_Ref_anew_34, x_Ref_anew_37, x_Ref_anew_38, x_Ref_anew_39, x_Ref_anew_40, x_Ref_anew_43, x_Ref_anew_46, x_Ref_anew_49, x_Ref_anew_52, x_Ref_anew_53, x_Ref_anew_56, x_Ref_anew_59, mk_I, mk_J, mk_Q, mk_n, mk_sI, mk_sJ, Option.toList_some, Option.toList_none, List.cons_append, List.nil_append, true_and, and_true, leT, leF, ltT, ltF, eqF, lt0F, le0T, le0F, eq0F, natT, nI_clamp, nI_1, if_true, if_false, not_true_eq_false, not_false_eq_true, z_00, z_10, eq_self, true_or, or_true, or_false, false_or, oc_94, rt_94_0, rt_94_1, rt_94_3, rt_94_8, rt_94_9, rt_94_10, rt_94_11, rt_94_12, rt_94_15, rt_94_16, rt_94_18, rt_94_21, rt_94_22, rt_94_23, rt_94_24, or_95, oa_95, tc_0, kc_0, k0_0, tc_1, kc_1, k0_1, tc_2, kc_2, k0_2, tc_3, kc_3, k0_3, tc_4, kc_4, k0_4, tc_5, kc_5, k0_5, tc_6, kc_6, k0_6, tc_7, kc_7, k0_7, hrn, mx_call (q_rLeftSet (d := 0) hr2 J) _, mx_call (q_bitsOf (d := 0) _ (lfN_512 (anF F n) h9)) _]
  · have e : ∀ a, a = 3 ∨ a = 5 ∨ a = 7 ∨ a = 9 ∨ a = 11 → I2 a 1 = I a 1 := fun a h => by rw [hf2 a 1 (by omega), ups_ne _ _ (by omega), hf a 1 (by omega), ups_ne _ _ (by omega)]
    rw [e 3 (by omega), e 5 (by omega), e 7 (by omega), e 9 (by omega), e 11 (by omega)]
    exact hz5
  · simp only [Nat.add_zero]
    rw [hf2 1 4 (by omega), hf2 95 3 (by omega), ups_ne _ _ (by omega), ups_ne _ _ (by omega), hf 1 4 (by omega), hf 95 3 (by omega), ups_ne _ _ (by omega), ups_ne _ _ (by omega)]
    exact z0
  · simp only [Nat.add_zero]
    rw [hf2 1 1 (by omega), hf2 1 2 (by omega), hf2 1 3 (by omega), hf2 95 0 (by omega), hf2 95 1 (by omega), hf2 95 2 (by omega), ups_same]
    simp (disch := omega) only [ups_ne]
    rw [hf 1 1 (by omega), hf 1 2 (by omega), hf 1 3 (by omega), hf 95 1 (by omega), hf 95 2 (by omega), ups_same]
    simp (disch := omega) only [ups_ne]
    exact ⟨ca, ra, rfl, rfl, cc, rc⟩
theorem at15 (I : mx_I) {k : Nat} (hk : k < 24) : at_ I 15 (nI k) = I 16 k := at_nI (r := 15) (hk : k < ln 15) (by decide +kernel)
theorem q_unlike {d n w p : Nat} {I : mx_I} {K M T F od : Nat → Nat} (hc : CI I n K M T F od) (J : mx_J) (hw : w ≤ 24) (h1 : I 15 1 = nI w) (hp : p ≤ w) (hp1 : ∀ i, i < p → i < n ∧ I 16 i = nI (T i)) (hp2 : p < w → ¬ (p < n ∧ I 16 p = nI (T p))) : mx_Cal mx_tab (d + 2) 33 [.ref 2, .ref 15] (mk I J) (some (.int (if p < w then nI p else -1))) (mk I J) := by
  have h9 := hc.1
  have hn := hc.2.1
  refine mx_Cal_in (ls := [some (.ref 2), some (.ref 15), none]) tab_33 (by rw [mx_rcv, oc_2]; trivial) (Nat.le_of_ble_eq_true rfl) rfl ?_
  simp only [x_Items_firstUnlike_0, x_Items_firstUnlike_1]
  refine lq (i0 := 0) (n := p) (fun i => [some (.ref 2), some (.ref 15), some (.int (nI i))]) (fun _ => mk I J) (Nat.zero_le p) rfl rfl (fun i hi0 hi ih => ?_) ?_
  · obtain ⟨hin, hW⟩ := hp1 i hi
    obtain ⟨b1, b2, b3, b4, b5, d1, d2, d3, d4, d5⟩ := hc.2.2 i hin
    have a7 := at7 I (show i < 9 by omega)
    have a15 := at15 I (show i < 24 by omega)
    rw [d3] at a7
    rw [hW] at a15
    rw [x_Items_firstUnlike_2]
    simp (disch := omega) only [x_Items_firstUnlike_0, x_Items_firstUnlike_1, x_Items_firstUnlike_3, x_Items_firstUnlike_4, x_Items_firstUnlike_7, x_Items_firstUnlike_10, x_Items_firstUnlike_11, x_Items_firstUnlike_12, x_Items_firstUnlike_15, x_Items_firstUnlike_18, x_Items_firstUnlike_19, x_Items_firstUnlike_20, x_Items_firstUnlike_23, x_Items_firstUnlike_24, x_Items_firstUnlike_27, x_Items_firstUnlike_28, x_Items_firstUnlike_31, x_Items_firstUnlike_34, x_Items_firstUnlike_35, x_Items_firstUnlike_36, x_Items_firstUnlike_39, x_Items_firstUnlike_42, x_Items_firstUnlike_43, mk_I, mk_J, mk_Q, mk_n, mk_sI, mk_sJ, Option.toList_some, Option.toList_none, List.cons_append, List.nil_append, true_and, and_true, leT, leF, ltT, ltF, eqF, lt0F, le0T, le0F, eq0F, natT, nI_clamp, nI_1, if_true, if_false, not_true_eq_false, not_false_eq_true, z_00, z_10, eq_self, true_or, or_true, or_false, false_or, oc_0, oc_1, oc_2, rt_0_0, rt_0_1, rt_0_3, rt_0_4, rt_0_5, rt_0_6, rt_0_7, rt_0_8, rt_0_9, rt_1_0, rt_1_5, rt_1_6, rt_1_7, rt_1_8, rt_2_1, rt_2_2, rt_2_3, rt_2_4, rt_2_5, oc_15, h1, hn, mx_call (q_has (d := 0) hn J _) _, hasV_k h9 hin, mx_call (q_Line_at (d := 0) L15 _ _ _) _, mx_call (q_Line_at (d := 0) L7 _ _ _) _, a7, a15]
    exact ih
  · rw [x_Items_firstUnlike_2]
    by_cases hpw : p < w
    · have a15 := at15 I (show p < 24 by omega)
      rcases hasV_cases h9 (nI p) with e0 | ⟨k, hk, hkp⟩
      · simp (disch := omega) only [x_Items_firstUnlike_0, x_Items_firstUnlike_1, x_Items_firstUnlike_3, x_Items_firstUnlike_4, x_Items_firstUnlike_7, x_Items_firstUnlike_10, x_Items_firstUnlike_11, x_Items_firstUnlike_12, x_Items_firstUnlike_15, x_Items_firstUnlike_18, x_Items_firstUnlike_19, x_Items_firstUnlike_20, x_Items_firstUnlike_23, x_Items_firstUnlike_24, x_Items_firstUnlike_27, x_Items_firstUnlike_28, x_Items_firstUnlike_31, x_Items_firstUnlike_34, x_Items_firstUnlike_35, x_Items_firstUnlike_36, x_Items_firstUnlike_39, x_Items_firstUnlike_42, x_Items_firstUnlike_43, mk_I, mk_J, mk_Q, mk_n, mk_sI, mk_sJ, Option.toList_some, Option.toList_none, List.cons_append, List.nil_append, true_and, and_true, leT, leF, ltT, ltF, eqF, lt0F, le0T, le0F, eq0F, natT, nI_clamp, nI_1, if_true, if_false, not_true_eq_false, not_false_eq_true, z_00, z_10, eq_self, true_or, or_true, or_false, false_or, oc_0, oc_1, oc_2, rt_0_0, rt_0_1, rt_0_3, rt_0_4, rt_0_5, rt_0_6, rt_0_7, rt_0_8, rt_0_9, rt_1_0, rt_1_5, rt_1_6, rt_1_7, rt_1_8, rt_2_1, rt_2_2, rt_2_3, rt_2_4, rt_2_5, oc_15, h1, hn, mx_call (q_has (d := 0) hn J _) _, e0, if_pos hpw]
      · have hkp : p = k := (nI_eq (by omega) (by omega)).mp hkp
        subst hkp
        obtain ⟨b1, b2, b3, b4, b5, d1, d2, d3, d4, d5⟩ := hc.2.2 p hk
        have a7 := at7 I (show p < 9 by omega)
        rw [d3] at a7
        have hne : (I 16 p = nI (T p)) = False := eq_false (fun q => hp2 hpw ⟨hk, q⟩)
        simp (disch := omega) only [x_Items_firstUnlike_0, x_Items_firstUnlike_1, x_Items_firstUnlike_3, x_Items_firstUnlike_4, x_Items_firstUnlike_7, x_Items_firstUnlike_10, x_Items_firstUnlike_11, x_Items_firstUnlike_12, x_Items_firstUnlike_15, x_Items_firstUnlike_18, x_Items_firstUnlike_19, x_Items_firstUnlike_20, x_Items_firstUnlike_23, x_Items_firstUnlike_24, x_Items_firstUnlike_27, x_Items_firstUnlike_28, x_Items_firstUnlike_31, x_Items_firstUnlike_34, x_Items_firstUnlike_35, x_Items_firstUnlike_36, x_Items_firstUnlike_39, x_Items_firstUnlike_42, x_Items_firstUnlike_43, mk_I, mk_J, mk_Q, mk_n, mk_sI, mk_sJ, Option.toList_some, Option.toList_none, List.cons_append, List.nil_append, true_and, and_true, leT, leF, ltT, ltF, eqF, lt0F, le0T, le0F, eq0F, natT, nI_clamp, nI_1, if_true, if_false, not_true_eq_false, not_false_eq_true, z_00, z_10, eq_self, true_or, or_true, or_false, false_or, oc_0, oc_1, oc_2, rt_0_0, rt_0_1, rt_0_3, rt_0_4, rt_0_5, rt_0_6, rt_0_7, rt_0_8, rt_0_9, rt_1_0, rt_1_5, rt_1_6, rt_1_7, rt_1_8, rt_2_1, rt_2_2, rt_2_3, rt_2_4, rt_2_5, oc_15, h1, hn, mx_call (q_has (d := 0) hn J _) _, hasV_k h9 hk, mx_call (q_Line_at (d := 0) L15 _ _ _) _, mx_call (q_Line_at (d := 0) L7 _ _ _) _, a7, a15, hne, if_pos hpw]
    · have : p = w := by omega
      subst this
      simp (disch := omega) only [x_Items_firstUnlike_0, x_Items_firstUnlike_1, x_Items_firstUnlike_3, x_Items_firstUnlike_4, x_Items_firstUnlike_7, x_Items_firstUnlike_10, x_Items_firstUnlike_11, x_Items_firstUnlike_12, x_Items_firstUnlike_15, x_Items_firstUnlike_18, x_Items_firstUnlike_19, x_Items_firstUnlike_20, x_Items_firstUnlike_23, x_Items_firstUnlike_24, x_Items_firstUnlike_27, x_Items_firstUnlike_28, x_Items_firstUnlike_31, x_Items_firstUnlike_34, x_Items_firstUnlike_35, x_Items_firstUnlike_36, x_Items_firstUnlike_39, x_Items_firstUnlike_42, x_Items_firstUnlike_43, mk_I, mk_J, mk_Q, mk_n, mk_sI, mk_sJ, Option.toList_some, Option.toList_none, List.cons_append, List.nil_append, true_and, and_true, leT, leF, ltT, ltF, eqF, lt0F, le0T, le0F, eq0F, natT, nI_clamp, nI_1, if_true, if_false, not_true_eq_false, not_false_eq_true, z_00, z_10, eq_self, true_or, or_true, or_false, false_or, oc_0, oc_1, oc_2, rt_0_0, rt_0_1, rt_0_3, rt_0_4, rt_0_5, rt_0_6, rt_0_7, rt_0_8, rt_0_9, rt_1_0, rt_1_5, rt_1_6, rt_1_7, rt_1_8, rt_2_1, rt_2_2, rt_2_3, rt_2_4, rt_2_5, oc_15, h1, if_neg hpw]
theorem op_check {L : Nat} {xs : Nat → Int32} {I : mx_I} (hI : Inv L xs I) : OpI L xs I 132 236 [] := by
  obtain ⟨⟨n, pl, od, hit⟩, hcl, htp, hw, ht0, ht1⟩ := hI.1
  have ho := hit.2.2.2.1
  have hz5 := hit.2.2.2.2.2
  obtain ⟨K, M, T, F, hc, hr⟩ := hit.sk
  have h9 := hc.1
  have hn := hc.2.1
  have hm := hr.2.1
  obtain ⟨z0, a, b, c, a9, b9, c9, ca, ra, cb, rb, cc, rc⟩ := hcl
  have z0 : I 1 4 = I 95 3 := z0
  have ca : I 1 1 = nI a := ca
  have cb : I 1 2 = nI b := cb
  have cc : I 1 3 = nI c := cc
  obtain ⟨w, w24, w1, w2, w3⟩ := hw
  have w1 : I 15 1 = nI w := w1
  have w3 : ∀ j, j < w → I 16 j = I 95 (363 + j) := w3
  obtain ⟨p, hp, hp1, hp2⟩ := first_ex (fun i => ¬ (i < n ∧ I 16 i = nI (T i))) w
  have hp1 : ∀ i, i < p → i < n ∧ I 16 i = nI (T i) := fun i hi => Classical.not_not.mp (hp1 i hi)
  have c363 : (363 : Int32) = nI 363 := rfl
  have hr1 : RI (mx_ups (mx_ups I 15 1 0) 95 5 0) n K M T F pl := hr.congr (fun j q => by simp (disch := omega) only [ups_ne])
  refine OpI.two hI (if p < w then nI (p + 1) else 0) (mx_ups I 15 1 0) (mx_ups (mx_ups I 15 1 0) 95 5 0) (fun a j h => by rw [ups_ne _ _ (by omega)]) (hI.wt (fun a j h => ?_) ⟨0, by omega, ?_, ?_, fun j hj => absurd hj (by omega)⟩) (fun J => ?_) (fun J => ?_)
  · simp (disch := omega) only [ups_ne]
  · simp (disch := omega) only [ups_ne, ups_same, Nat.add_zero]; rfl
  · simp (disch := omega) only [ups_same]; rfl
  · refine mx_Cal_in (ls := [some (.ref 0), none]) (d := 299) tab_132 (by rw [mx_rcv, oc_0]; trivial) (Nat.le_of_ble_eq_true rfl) rfl ?_
    simp (disch := omega) only [x_Main_check_0, x_Main_check_1, x_Main_check_4, x_Main_check_7, x_Main_check_8, x_Main_check_11, x_Main_check_14, x_Main_check_17, x_Main_check_18, x_Main_check_19, x_Main_check_22, x_Main_check_25, x_Main_check_28, x_Main_check_29, x_Main_check_30, x_Main_check_31, mk_I, mk_J, mk_Q, mk_n, mk_sI, mk_sJ, Option.toList_some, Option.toList_none, List.cons_append, List.nil_append, true_and, and_true, leT, leF, ltT, ltF, eqF, lt0F, le0T, le0F, eq0F, natT, nI_clamp, nI_1, if_true, if_false, not_true_eq_false, not_false_eq_true, z_00, z_10, eq_self, true_or, or_true, or_false, false_or, oc_0, oc_1, oc_2, rt_0_0, rt_0_1, rt_0_3, rt_0_4, rt_0_5, rt_0_6, rt_0_7, rt_0_8, rt_0_9, rt_1_0, rt_1_5, rt_1_6, rt_1_7, rt_1_8, rt_2_1, rt_2_2, rt_2_3, rt_2_4, rt_2_5, mx_call (q_unlike (d := 0) hc J w24 w1 hp hp1 hp2) _, mx_call (q_Line_clear (d := 0) L15 I J) _]
    by_cases hpw : p < w
    · simp only [if_pos hpw, nI_1]
    · simp only [if_neg hpw]; rfl
  · refine mx_Cal_in (ls := [some (.ref 94), none, none]) (d := 299) tab_236 (by rw [mx_rcv, oc_94]; trivial) (Nat.le_of_ble_eq_true rfl) rfl ?_
    simp (disch := omega) only [x_Ref_check_0, x_Ref_check_1, x_Ref_check_4, x_Ref_check_5, x_Ref_check_6, x_Ref_check_7, x_Ref_check_8, x_Ref_check_11, x_Ref_check_12, x_Ref_check_13, x_Ref_check_14, x_Ref_check_15, mk_I, mk_J, mk_Q, mk_n, mk_sI, mk_sJ, Option.toList_some, Option.toList_none, List.cons_append, List.nil_append, true_and, and_true, leT, leF, ltT, ltF, eqF, lt0F, le0T, le0F, eq0F, natT, nI_clamp, nI_1, if_true, if_false, not_true_eq_false, not_false_eq_true, z_00, z_10, eq_self, true_or, or_true, or_false, false_or, oc_94, rt_94_0, rt_94_1, rt_94_3, rt_94_8, rt_94_9, rt_94_10, rt_94_11, rt_94_12, rt_94_15, rt_94_16, rt_94_18, rt_94_21, rt_94_22, rt_94_23, rt_94_24, or_95, oa_95, tc_0, kc_0, k0_0, tc_1, kc_1, k0_1, tc_2, kc_2, k0_2, tc_3, kc_3, k0_3, tc_4, kc_4, k0_4, tc_5, kc_5, k0_5, tc_6, kc_6, k0_6, tc_7, kc_7, k0_7, ups_ne, w2]
    have e6 := hr1.2.1
    have wv : ∀ i, i < w → mx_ups (mx_ups I 15 1 0) 95 5 0 95 (363 + i) = I 16 i := fun i hi => by
      simp (disch := omega) only [ups_ne]; exact (w3 i hi).symm
    refine lq (i0 := 0) (n := p) (fun i => [some (.ref 94), some (.int (nI w)), some (.int (nI i))]) (fun _ => mk (mx_ups (mx_ups I 15 1 0) 95 5 0) J) (Nat.zero_le p) rfl rfl (fun i hi0 hi ih => ?_) ?_
    · obtain ⟨hin, hW⟩ := hp1 i hi
      have e7 := wv i (by omega)
      rw [hW] at e7
      rw [x_Ref_check_16]
      simp (disch := omega) only [x_Ref_check_17, x_Ref_check_18, x_Ref_check_21, x_Ref_check_22, x_Ref_check_23, x_Ref_check_26, x_Ref_check_29, x_Ref_check_30, x_Ref_check_33, x_Ref_check_36, x_Ref_check_37, x_Ref_check_38, x_Ref_check_39, x_Ref_check_40, x_Ref_check_41, x_Ref_check_42, x_Ref_check_45, x_Ref_check_48, x_Ref_check_49, x_Ref_check_50, x_Ref_check_51, x_Ref_check_52, x_Ref_check_55, x_Ref_check_58, x_Ref_check_59, mk_I, mk_J, mk_Q, mk_n, mk_sI, mk_sJ, Option.toList_some, Option.toList_none, List.cons_append, List.nil_append, true_and, and_true, leT, leF, ltT, ltF, eqF, lt0F, le0T, le0F, eq0F, natT, nI_clamp, nI_1, if_true, if_false, not_true_eq_false, not_false_eq_true, z_00, z_10, eq_self, true_or, or_true, or_false, false_or, oc_94, rt_94_0, rt_94_1, rt_94_3, rt_94_8, rt_94_9, rt_94_10, rt_94_11, rt_94_12, rt_94_15, rt_94_16, rt_94_18, rt_94_21, rt_94_22, rt_94_23, rt_94_24, or_95, oa_95, tc_0, kc_0, k0_0, tc_1, kc_1, k0_1, tc_2, kc_2, k0_2, tc_3, kc_3, k0_3, tc_4, kc_4, k0_4, tc_5, kc_5, k0_5, tc_6, kc_6, k0_6, tc_7, kc_7, k0_7, mx_call (q_rHas (d := 0) hr1 J _) _, hasV_k h9 hin, c363, nI_add, e7, mx_call (q_itsT (d := 0) hr1 J hin) _]
      exact ih
    · rw [x_Ref_check_16]
      by_cases hpw : p < w
      · rcases hasV_cases h9 (nI p) with e0 | ⟨k, hk, hkp⟩
        · simp (disch := omega) only [x_Ref_check_17, x_Ref_check_18, x_Ref_check_21, x_Ref_check_22, x_Ref_check_23, x_Ref_check_26, x_Ref_check_29, x_Ref_check_30, x_Ref_check_33, x_Ref_check_36, x_Ref_check_37, x_Ref_check_38, x_Ref_check_39, x_Ref_check_40, x_Ref_check_41, x_Ref_check_42, x_Ref_check_45, x_Ref_check_48, x_Ref_check_49, x_Ref_check_50, x_Ref_check_51, x_Ref_check_52, x_Ref_check_55, x_Ref_check_58, x_Ref_check_59, mk_I, mk_J, mk_Q, mk_n, mk_sI, mk_sJ, Option.toList_some, Option.toList_none, List.cons_append, List.nil_append, true_and, and_true, leT, leF, ltT, ltF, eqF, lt0F, le0T, le0F, eq0F, natT, nI_clamp, nI_1, if_true, if_false, not_true_eq_false, not_false_eq_true, z_00, z_10, eq_self, true_or, or_true, or_false, false_or, oc_94, rt_94_0, rt_94_1, rt_94_3, rt_94_8, rt_94_9, rt_94_10, rt_94_11, rt_94_12, rt_94_15, rt_94_16, rt_94_18, rt_94_21, rt_94_22, rt_94_23, rt_94_24, or_95, oa_95, tc_0, kc_0, k0_0, tc_1, kc_1, k0_1, tc_2, kc_2, k0_2, tc_3, kc_3, k0_3, tc_4, kc_4, k0_4, tc_5, kc_5, k0_5, tc_6, kc_6, k0_6, tc_7, kc_7, k0_7, mx_call (q_rHas (d := 0) hr1 J _) _, e0, if_pos hpw, show (1 : Int32) + nI p = nI (p + 1) from by rw [Int32.add_comm, nI_1]]
        · have hkp : p = k := (nI_eq (by omega) (by omega)).mp hkp
          subst hkp
          have hne : (I 16 p = nI (T p)) = False := eq_false (fun q => hp2 hpw ⟨hk, q⟩)
          simp (disch := omega) only [x_Ref_check_17, x_Ref_check_18, x_Ref_check_21, x_Ref_check_22, x_Ref_check_23, x_Ref_check_26, x_Ref_check_29, x_Ref_check_30, x_Ref_check_33, x_Ref_check_36, x_Ref_check_37, x_Ref_check_38, x_Ref_check_39, x_Ref_check_40, x_Ref_check_41, x_Ref_check_42, x_Ref_check_45, x_Ref_check_48, x_Ref_check_49, x_Ref_check_50, x_Ref_check_51, x_Ref_check_52, x_Ref_check_55, x_Ref_check_58, x_Ref_check_59, mk_I, mk_J, mk_Q, mk_n, mk_sI, mk_sJ, Option.toList_some, Option.toList_none, List.cons_append, List.nil_append, true_and, and_true, leT, leF, ltT, ltF, eqF, lt0F, le0T, le0F, eq0F, natT, nI_clamp, nI_1, if_true, if_false, not_true_eq_false, not_false_eq_true, z_00, z_10, eq_self, true_or, or_true, or_false, false_or, oc_94, rt_94_0, rt_94_1, rt_94_3, rt_94_8, rt_94_9, rt_94_10, rt_94_11, rt_94_12, rt_94_15, rt_94_16, rt_94_18, rt_94_21, rt_94_22, rt_94_23, rt_94_24, or_95, oa_95, tc_0, kc_0, k0_0, tc_1, kc_1, k0_1, tc_2, kc_2, k0_2, tc_3, kc_3, k0_3, tc_4, kc_4, k0_4, tc_5, kc_5, k0_5, tc_6, kc_6, k0_6, tc_7, kc_7, k0_7, mx_call (q_rHas (d := 0) hr1 J _) _, hasV_k h9 hk, c363, nI_add, wv p hpw, mx_call (q_itsT (d := 0) hr1 J hk) _, hne, if_pos hpw, show (1 : Int32) + nI p = nI (p + 1) from by rw [Int32.add_comm, nI_1]]
      · have : p = w := by omega
        subst this
        simp (disch := omega) only [x_Ref_check_17, x_Ref_check_18, x_Ref_check_21, x_Ref_check_22, x_Ref_check_23, x_Ref_check_26, x_Ref_check_29, x_Ref_check_30, x_Ref_check_33, x_Ref_check_36, x_Ref_check_37, x_Ref_check_38, x_Ref_check_39, x_Ref_check_40, x_Ref_check_41, x_Ref_check_42, x_Ref_check_45, x_Ref_check_48, x_Ref_check_49, x_Ref_check_50, x_Ref_check_51, x_Ref_check_52, x_Ref_check_55, x_Ref_check_58, x_Ref_check_59, mk_I, mk_J, mk_Q, mk_n, mk_sI, mk_sJ, Option.toList_some, Option.toList_none, List.cons_append, List.nil_append, true_and, and_true, leT, leF, ltT, ltF, eqF, lt0F, le0T, le0F, eq0F, natT, nI_clamp, nI_1, if_true, if_false, not_true_eq_false, not_false_eq_true, z_00, z_10, eq_self, true_or, or_true, or_false, false_or, oc_94, rt_94_0, rt_94_1, rt_94_3, rt_94_8, rt_94_9, rt_94_10, rt_94_11, rt_94_12, rt_94_15, rt_94_16, rt_94_18, rt_94_21, rt_94_22, rt_94_23, rt_94_24, or_95, oa_95, tc_0, kc_0, k0_0, tc_1, kc_1, k0_1, tc_2, kc_2, k0_2, tc_3, kc_3, k0_3, tc_4, kc_4, k0_4, tc_5, kc_5, k0_5, tc_6, kc_6, k0_6, tc_7, kc_7, k0_7, if_neg hpw]
theorem sh4 {q : Nat} (hq : q < 4) : q = 0 ∨ q = 1 ∨ q = 2 ∨ q = 3 := by omega
theorem L_sh {q : Nat} (hq : q < 4) : isLn (83 + 3 * q) = true := by
  rcases sh4 hq with rfl | rfl | rfl | rfl <;> decide +kernel
theorem lc_sh {q : Nat} (hq : q < 4) : lc (83 + 3 * q) = 84 + 3 * q := by
  rcases sh4 hq with rfl | rfl | rfl | rfl <;> rfl
theorem ln_sh {q : Nat} (hq : q < 4) : ln (83 + 3 * q) = 24 := by
  rcases sh4 hq with rfl | rfl | rfl | rfl <;> rfl
theorem oc_sh {q : Nat} (hq : q < 4) (I : mx_I) (J : mx_J) : (mx_okc 6 (82 + 3 * q) (mk I J) = true) = True := by
  rcases sh4 hq with rfl | rfl | rfl | rfl <;> exact eq_true rfl
theorem oc_sl {q : Nat} (hq : q < 4) (I : mx_I) (J : mx_J) : (mx_okc 1 (83 + 3 * q) (mk I J) = true) = True := ln_oc (L_sh hq) I J
theorem rt_sh {q : Nat} (hq : q < 4) : mx_rf (mx_RT (82 + 3 * q) 1) = .ref (83 + 3 * q) := by
  rcases sh4 hq with rfl | rfl | rfl | rfl <;> rfl
theorem rt_sl {q : Nat} (hq : q < 4) : mx_rf (mx_RT (83 + 3 * q) 0) = .ref (84 + 3 * q) := by
  rcases sh4 hq with rfl | rfl | rfl | rfl <;> rfl
theorem rt_s81 {q : Nat} (hq : q < 4) : mx_rf (mx_RT 81 q) = .ref (82 + 3 * q) := by
  rcases sh4 hq with rfl | rfl | rfl | rfl <;> rfl
theorem at_sh (I : mx_I) {q k : Nat} (hq : q < 4) (hk : k < 24) : at_ I (83 + 3 * q) (nI k) = I (84 + 3 * q) k := by
  rw [at_nI (by rw [ln_sh hq]; exact hk) (by rw [ln_sh hq]; omega), lc_sh hq]
theorem q_isSheet {d : Nat} (h : mx_H) (x : Int32) : mx_Cal mx_tab (d + 1) 137 [.int x] h (some (.int (hasV 4 x))) h := by
  refine mx_Cal_in (ls := [some (.int x)]) tab_137 trivial (Nat.le_of_ble_eq_true rfl) rfl ?_
  simp only [x_Main_isSheet_0, x_Main_isSheet_1, x_Main_isSheet_4, x_Main_isSheet_5, x_Main_isSheet_6, x_Main_isSheet_9, x_Main_isSheet_10, x_Main_isSheet_13, x_Main_isSheet_14, hasV, show (4 : Int32) = nI 4 from rfl]
  by_cases h1 : x < 0
  · simp [h1]
  · by_cases h2 : nI 4 ≤ x <;> simp [h1, h2]
theorem inV_has (x : Int32) : inV x 0 3 = hasV 4 x := by
  unfold inV hasV
  by_cases h1 : x < 0
  · rw [if_pos h1, if_pos h1]
  · have e := lt_pred (t := 4) (i := x) (by omega) h1
    rw [show nI 4 - 1 = 3 from rfl] at e
    simp only [h1, if_false, e]
theorem q_rIsSheet {d : Nat} (h : mx_H) (x : Int32) : mx_Cal mx_tab (d + 2) 226 [.int x] h (some (.int (hasV 4 x))) h := by
  refine mx_Cal_in (ls := [some (.int x)]) tab_226 trivial (Nat.le_of_ble_eq_true rfl) rfl ?_
  simp (disch := omega) only [x_Ref_isSheet_0, x_Ref_isSheet_1, x_Ref_isSheet_2, x_Ref_isSheet_3, x_Ref_isSheet_6, mk_I, mk_J, mk_Q, mk_n, mk_sI, mk_sJ, Option.toList_some, Option.toList_none, List.cons_append, List.nil_append, true_and, and_true, mx_call (q_rIn (d := 0) _ _ _ _) _, inV_has]
  unfold hasV
  by_cases h1 : x < 0
  · simp [h1]
  · by_cases h2 : nI 4 ≤ x <;> simp [h1, h2]
theorem q_sheetAt {d q : Nat} (I : mx_I) (J : mx_J) (hq : q < 4) : mx_Cal mx_tab (d + 1) 136 [.ref 0, .int (nI q)] (mk I J) (some (.ref (82 + 3 * q))) (mk I J) := by
  refine mx_Cal_in (ls := [some (.ref 0), some (.int (nI q))]) tab_136 (by rw [mx_rcv, oc_0]; trivial) (Nat.le_of_ble_eq_true rfl) rfl ?_
  simp (disch := omega) only [x_Main_sheetAt_0, x_Main_sheetAt_1, x_Main_sheetAt_4, x_Main_sheetAt_5, x_Main_sheetAt_6, x_Main_sheetAt_9, x_Main_sheetAt_10, x_Main_sheetAt_13, x_Main_sheetAt_14, x_Main_sheetAt_17, x_Main_sheetAt_18, x_Main_sheetAt_19, x_Main_sheetAt_22, x_Main_sheetAt_23, x_Main_sheetAt_23n, mk_I, mk_J, mk_Q, mk_n, mk_sI, mk_sJ, Option.toList_some, Option.toList_none, List.cons_append, List.nil_append, true_and, and_true, leT, leF, ltT, ltF, eqF, lt0F, le0T, le0F, eq0F, natT, nI_clamp, nI_1, if_true, if_false, not_true_eq_false, not_false_eq_true, z_00, z_10, eq_self, true_or, or_true, or_false, false_or, oc_0, oc_1, oc_2, rt_0_0, rt_0_1, rt_0_3, rt_0_4, rt_0_5, rt_0_6, rt_0_7, rt_0_8, rt_0_9, rt_1_0, rt_1_5, rt_1_6, rt_1_7, rt_1_8, rt_2_1, rt_2_2, rt_2_3, rt_2_4, rt_2_5, oa_81, al_81, ia_81, rt_s81 hq]
theorem q_isMissing {d q : Nat} (I : mx_I) (J : mx_J) (hq : q < 4) : mx_Cal mx_tab (d + 1) 138 [.ref (82 + 3 * q)] (mk I J) (some (.int (if I (82 + 3 * q) 0 = 0 then 1 else 0))) (mk I J) := by
  refine mx_Cal_in (ls := [some (.ref (82 + 3 * q))]) tab_138 trivial (Nat.le_of_ble_eq_true rfl) rfl ?_
  by_cases h : I (82 + 3 * q) 0 = 0 <;> simp (disch := omega) only [x_Main_isMissing_0, x_Main_isMissing_0n, x_Main_isMissing_1, x_Main_isMissing_1n, x_Main_isMissing_4, x_Main_isMissing_4n, x_Main_isMissing_5, x_Main_isMissing_8, x_Main_isMissing_11, x_Main_isMissing_12, x_Main_isMissing_15, x_Main_isMissing_16, mk_I, mk_J, mk_Q, mk_n, mk_sI, mk_sJ, Option.toList_some, Option.toList_none, List.cons_append, List.nil_append, true_and, and_true, leT, leF, ltT, ltF, eqF, lt0F, le0T, le0F, eq0F, natT, nI_clamp, nI_1, if_true, if_false, not_true_eq_false, not_false_eq_true, z_00, z_10, eq_self, true_or, or_true, or_false, false_or, oc_0, oc_1, oc_2, rt_0_0, rt_0_1, rt_0_3, rt_0_4, rt_0_5, rt_0_6, rt_0_7, rt_0_8, rt_0_9, rt_1_0, rt_1_5, rt_1_6, rt_1_7, rt_1_8, rt_2_1, rt_2_2, rt_2_3, rt_2_4, rt_2_5, oc_sh hq, h]
theorem q_lacks0 {d : Nat} (I : mx_I) (J : mx_J) {x : Int32} (hx : hasV 4 x = 0) : mx_Cal mx_tab (d + 3) 230 [.ref 94, .int x] (mk I J) (some (.int 1)) (mk I J) := by
  refine mx_Cal_in (ls := [some (.ref 94), some (.int x)]) tab_230 (by rw [mx_rcv, oc_94]; trivial) (Nat.le_of_ble_eq_true rfl) rfl ?_
  simp (disch := omega) only [x_Ref_lacks_0, x_Ref_lacks_1, x_Ref_lacks_4, x_Ref_lacks_7, x_Ref_lacks_8, x_Ref_lacks_11, x_Ref_lacks_12, x_Ref_lacks_15, x_Ref_lacks_16, x_Ref_lacks_17, x_Ref_lacks_20, x_Ref_lacks_21, x_Ref_lacks_24, x_Ref_lacks_25, mk_I, mk_J, mk_Q, mk_n, mk_sI, mk_sJ, Option.toList_some, Option.toList_none, List.cons_append, List.nil_append, true_and, and_true, leT, leF, ltT, ltF, eqF, lt0F, le0T, le0F, eq0F, natT, nI_clamp, nI_1, if_true, if_false, not_true_eq_false, not_false_eq_true, z_00, z_10, eq_self, true_or, or_true, or_false, false_or, oc_94, rt_94_0, rt_94_1, rt_94_3, rt_94_8, rt_94_9, rt_94_10, rt_94_11, rt_94_12, rt_94_15, rt_94_16, rt_94_18, rt_94_21, rt_94_22, rt_94_23, rt_94_24, or_95, oa_95, tc_0, kc_0, k0_0, tc_1, kc_1, k0_1, tc_2, kc_2, k0_2, tc_3, kc_3, k0_3, tc_4, kc_4, k0_4, tc_5, kc_5, k0_5, tc_6, kc_6, k0_6, tc_7, kc_7, k0_7, mx_call (q_rIsSheet (d := 0) _ _) _, hx]
theorem q_lacks {d q : Nat} (I : mx_I) (J : mx_J) (hq : q < 4) : mx_Cal mx_tab (d + 3) 230 [.ref 94, .int (nI q)] (mk I J) (some (.int (if I 106 q = 0 then 2 else 0))) (mk I J) := by
  have hx := hasV_k (n := 4) (by omega) hq
  refine mx_Cal_in (ls := [some (.ref 94), some (.int (nI q))]) tab_230 (by rw [mx_rcv, oc_94]; trivial) (Nat.le_of_ble_eq_true rfl) rfl ?_
  by_cases h : I 106 q = 0 <;> simp (disch := omega) only [x_Ref_lacks_0, x_Ref_lacks_1, x_Ref_lacks_4, x_Ref_lacks_7, x_Ref_lacks_8, x_Ref_lacks_11, x_Ref_lacks_12, x_Ref_lacks_15, x_Ref_lacks_16, x_Ref_lacks_17, x_Ref_lacks_20, x_Ref_lacks_21, x_Ref_lacks_24, x_Ref_lacks_25, mk_I, mk_J, mk_Q, mk_n, mk_sI, mk_sJ, Option.toList_some, Option.toList_none, List.cons_append, List.nil_append, true_and, and_true, leT, leF, ltT, ltF, eqF, lt0F, le0T, le0F, eq0F, natT, nI_clamp, nI_1, if_true, if_false, not_true_eq_false, not_false_eq_true, z_00, z_10, eq_self, true_or, or_true, or_false, false_or, oc_94, rt_94_0, rt_94_1, rt_94_3, rt_94_8, rt_94_9, rt_94_10, rt_94_11, rt_94_12, rt_94_15, rt_94_16, rt_94_18, rt_94_21, rt_94_22, rt_94_23, rt_94_24, or_95, oa_95, tc_0, kc_0, k0_0, tc_1, kc_1, k0_1, tc_2, kc_2, k0_2, tc_3, kc_3, k0_3, tc_4, kc_4, k0_4, tc_5, kc_5, k0_5, tc_6, kc_6, k0_6, tc_7, kc_7, k0_7, or_106, mx_call (q_rIsSheet (d := 0) _ _) _, hx, h]
theorem byte_sh (v : Int32) : v <<< ((32 - 8 : Int32) &&& 31) >>> ((32 - 8 : Int32) &&& 31) = v.toInt8.toInt32 := by
  apply Int32.toBitVec_inj.mp
  simp only [Int32.toBitVec_shiftRight, Int32.toBitVec_shiftLeft, Int32.toBitVec_and, Int8.toBitVec_toInt32, Int32.toBitVec_toInt8]
  apply BitVec.eq_of_getLsbD_eq
  intro i hi
  have e : ((32 - 8 : Int32).toBitVec &&& (31 : Int32).toBitVec).smod 32 = 24 := by decide
  rw [e]
  simp [BitVec.getLsbD_sshiftRight, BitVec.getLsbD_signExtend, BitVec.getLsbD_shiftLeft]
  have q1 : ¬ 32 ≤ i := by omega
  by_cases h : i < 8
  · have q2 : 24 + i < 32 := by omega
    have q3 : ¬ 24 + i < 24 := by omega
    simp only [q1, q2, q3, h, hi, decide_true, decide_false, Bool.not_false, Bool.true_and, if_true]
  · have q2 : ¬ 24 + i < 32 := by omega
    simp only [q1, q2, h, hi, decide_true, decide_false, Bool.not_false, Bool.true_and, if_false]
    simp [BitVec.msb_eq_getLsbD_last, BitVec.getMsbD, BitVec.getElem_signExtend]
theorem short_sh (v : Int32) : v <<< ((32 - 16 : Int32) &&& 31) >>> ((32 - 16 : Int32) &&& 31) = v.toInt16.toInt32 := by
  apply Int32.toBitVec_inj.mp
  simp only [Int32.toBitVec_shiftRight, Int32.toBitVec_shiftLeft, Int32.toBitVec_and, Int16.toBitVec_toInt32, Int32.toBitVec_toInt16]
  apply BitVec.eq_of_getLsbD_eq
  intro i hi
  have e : ((32 - 16 : Int32).toBitVec &&& (31 : Int32).toBitVec).smod 32 = 16 := by decide
  rw [e]
  simp [BitVec.getLsbD_sshiftRight, BitVec.getLsbD_signExtend, BitVec.getLsbD_shiftLeft]
  have q1 : ¬ 32 ≤ i := by omega
  by_cases h : i < 16
  · have q2 : 16 + i < 32 := by omega
    have q3 : ¬ 16 + i < 16 := by omega
    simp only [q1, q2, q3, h, hi, decide_true, decide_false, Bool.not_false, Bool.true_and, if_true]
  · have q2 : ¬ 16 + i < 32 := by omega
    simp only [q1, q2, h, hi, decide_true, decide_false, Bool.not_false, Bool.true_and, if_false]
    simp [BitVec.msb_eq_getLsbD_last, BitVec.getMsbD, BitVec.getElem_signExtend]
theorem int_sh (v : Int32) : v <<< ((32 - 32 : Int32) &&& 31) >>> ((32 - 32 : Int32) &&& 31) = v := by
  rw [show ((32 - 32 : Int32) &&& 31) = 0 from by decide]
  simp
