/-! shift -/
def shO (od : Nat → Nat) (k b P : Nat) : Nat → Nat := fun p => if p = P then k else if b ≤ p ∧ p < P then od (p + 1) else if P < p ∧ p ≤ b then od (p - 1) else od p
def shP0 (pl : Nat → Nat) (b P : Nat) : Nat → Nat := fun i => if b < pl i ∧ pl i ≤ P then pl i - 1 else if pl i < b ∧ P ≤ pl i then pl i + 1 else pl i
theorem shift_ord {n k P : Nat} {pl od : Nat → Nat} (ho : OrdR n pl od) (hk : k < n) (hP : P < n) : OrdR n (pt (shP0 pl (pl k) P) k P) (shO od k (pl k) P) := by
  have hb := (ho.1 k hk).1
  have hbk := (ho.1 k hk).2
  refine ⟨fun i hi => ?_, fun p hp => ?_⟩
  · by_cases hik : i = k
    · subst hik
      rw [pt_eq]
      exact ⟨hP, if_pos rfl⟩
    · rw [pt_ne _ hik]
      obtain ⟨h1, h2⟩ := ho.1 i hi
      have hne : pl i ≠ pl k := fun q => hik (by rw [← h2, q, hbk])
      unfold shP0
      by_cases c1 : pl k < pl i ∧ pl i ≤ P
      · rw [if_pos c1]
        refine ⟨by omega, ?_⟩
        unfold shO
        rw [if_neg (by omega), if_pos (by omega), show pl i - 1 + 1 = pl i by omega, h2]
      · rw [if_neg c1]
        by_cases c2 : pl i < pl k ∧ P ≤ pl i
        · rw [if_pos c2]
          refine ⟨by omega, ?_⟩
          unfold shO
          rw [if_neg (by omega), if_neg (by omega), if_pos (by omega), show pl i + 1 - 1 = pl i by omega, h2]
        · rw [if_neg c2]
          refine ⟨h1, ?_⟩
          unfold shO
          rw [if_neg (by omega), if_neg (by omega), if_neg (by omega), h2]
  · unfold shO
    by_cases c0 : p = P
    · rw [if_pos c0, pt_eq]
      exact ⟨hk, c0.symm⟩
    · rw [if_neg c0]
      by_cases c1 : pl k ≤ p ∧ p < P
      · rw [if_pos c1]
        obtain ⟨h1, h2⟩ := ho.2 (p + 1) (by omega)
        have hne : od (p + 1) ≠ k := fun q => by rw [q] at h2; omega
        rw [pt_ne _ hne]
        unfold shP0
        rw [h2, if_pos (by omega)]
        exact ⟨h1, by omega⟩
      · rw [if_neg c1]
        by_cases c2 : P < p ∧ p ≤ pl k
        · rw [if_pos c2]
          obtain ⟨h1, h2⟩ := ho.2 (p - 1) (by omega)
          have hne : od (p - 1) ≠ k := fun q => by rw [q] at h2; omega
          rw [pt_ne _ hne]
          unfold shP0
          rw [h2, if_neg (by omega), if_pos (by omega)]
          exact ⟨h1, by omega⟩
        · rw [if_neg c2]
          obtain ⟨h1, h2⟩ := ho.2 p hp
          have hne : od p ≠ k := fun q => by rw [q] at h2; omega
          rw [pt_ne _ hne]
          unfold shP0
          rw [h2, if_neg (by omega), if_neg (by omega)]
          exact ⟨h1, rfl⟩
theorem RI.setP {n : Nat} {I : mx_I} {K M T F pl : Nat → Nat} (h : RI I n K M T F pl) {k v : Nat} (hv : v < n) : RI (mx_ups I 95 (8 + 5 * k + 3) (nI v)) n K M T F (pt pl k v) := by
  have h9 := h.1
  refine ⟨h.1, by rw [ups_ne _ _ (by omega)]; exact h.2.1, fun i hi => ?_⟩
  obtain ⟨b1, b2, b3, b4, b5, d1, d2, d3, d4, d5⟩ := h.2.2 i hi
  by_cases q : i = k
  · subst q
    rw [pt_eq]
    simp (disch := omega) only [ups_ne, ups_same]
    exact ⟨b1, b2, b3, b4, hv, d1, d2, d3, trivial, d5⟩
  · rw [pt_ne pl q]
    simp (disch := omega) only [ups_ne]
    exact ⟨b1, b2, b3, b4, b5, d1, d2, d3, d4, d5⟩
theorem q_bringTo {n k P : Nat} {I : mx_I} {K M T F pl od : Nat → Nat} (hc : CI I n K M T F od) (ho : OrdR n pl od) (J : mx_J) (hk : k < n) (hP : P < n) : ∃ I', (CI I' n K M T F (shO od k (pl k) P) ∧ ∀ a j, a ≠ 12 → I' a j = I a j) ∧ mx_Cal mx_tab 4 22 [.ref 2, .int (nI k), .int (nI P)] (mk I J) (some (.int (nI (pl k)))) (mk I' J) := by
  have h9 := hc.1
  have hn := hc.2.1
  have hb := (ho.1 k hk).1
  obtain ⟨I1, ⟨g1, g2⟩, hP1⟩ := lqx (cl := k_Items_bringTo) (C := mx_Cal mx_tab 3) (pc := 9) (i0 := pl k) (n := max (pl k) P) (fun p (_ : mx_I) => [some (.ref 2), some (.int (nI k)), some (.int (nI P)), some (.int (nI (pl k))), some (.int (nI p))]) (fun I' => mk I' J) (fun p I' => (∀ x, x < n → I' 12 x = if pl k ≤ x ∧ x < p then I 12 (x + 1) else I 12 x) ∧ ∀ a j, a ≠ 12 → I' a j = I a j) (s0 := I) (Nat.le_max_left _ _) ⟨fun x _ => by rw [if_neg (by omega)], fun _ _ _ => rfl⟩ (fun p I' hp0 hp hQ => by
    obtain ⟨g1, g2⟩ := hQ
    have hpP : p < P := by omega
    have e1 := at11 I' (show p + 1 < 9 by omega)
    rw [g1 (p + 1) (by omega), if_neg (by omega)] at e1
    refine ⟨mx_ups I' 12 p (I 12 (p + 1)), ⟨fun x hx => ?_, fun a j h => by rw [ups_ne _ _ (by omega)]; exact g2 a j h⟩, fun Q ih => ?_⟩
    · by_cases hxp : x = p
      · subst hxp
        rw [ups_same, if_pos (by omega)]
      · rw [ups_ne _ _ (by omega), g1 x hx]
        by_cases q : pl k ≤ x ∧ x < p
        · rw [if_pos q, if_pos (by omega)]
        · rw [if_neg q, if_neg (by omega)]
    · rw [x_Items_bringTo_9]
      simp (disch := omega) only [x_Items_bringTo_11, x_Items_bringTo_12, x_Items_bringTo_15, x_Items_bringTo_16, x_Items_bringTo_19, x_Items_bringTo_21, x_Items_bringTo_22, x_Items_bringTo_25, x_Items_bringTo_27, x_Items_bringTo_28, x_Items_bringTo_29, x_Items_bringTo_32, x_Items_bringTo_35, x_Items_bringTo_38, x_Items_bringTo_41, x_Items_bringTo_42, x_Items_bringTo_44, x_Items_bringTo_46, x_Items_bringTo_47, x_Items_bringTo_50, x_Items_bringTo_51, x_Items_bringTo_54, x_Items_bringTo_56, x_Items_bringTo_57, x_Items_bringTo_60, x_Items_bringTo_62, x_Items_bringTo_63, x_Items_bringTo_64, x_Items_bringTo_67, x_Items_bringTo_70, x_Items_bringTo_73, x_Items_bringTo_76, x_Items_bringTo_77, x_Items_bringTo_80, x_Items_bringTo_81, x_Items_bringTo_82, x_Items_bringTo_85, x_Items_bringTo_86, mk_I, mk_J, mk_Q, mk_n, mk_sI, mk_sJ, Option.toList_some, Option.toList_none, List.cons_append, List.nil_append, true_and, and_true, ↓reduceIte, leT, leF, ltT, ltF, eqF, lt0F, le0T, le0F, eq0F, natT, nI_clamp, nI_1, if_true, if_false, not_true_eq_false, not_false_eq_true, z_00, z_10, eq_self, true_or, or_true, or_false, false_or, oc_0, oc_1, oc_2, rt_0_0, rt_0_1, rt_0_3, rt_0_4, rt_0_5, rt_0_6, rt_0_7, rt_0_8, rt_0_9, rt_1_0, rt_1_5, rt_1_6, rt_1_7, rt_1_8, rt_2_1, rt_2_2, rt_2_3, rt_2_4, rt_2_5, mx_call (q_Line_at (d := 0) L11 _ _ _) _, e1, mx_call (q_st11 (d := 0) _ _ (show p < 9 by omega) _) _]
      exact ih)
  obtain ⟨I2, ⟨f1, f2⟩, hP2⟩ := lqx (cl := k_Items_bringTo) (C := mx_Cal mx_tab 3) (pc := 44) (i0 := 0) (n := pl k - P) (fun i (_ : mx_I) => [some (.ref 2), some (.int (nI k)), some (.int (nI P)), some (.int (nI (pl k))), some (.int (nI (pl k - i)))]) (fun I' => mk I' J) (fun i I' => (∀ x, x < n → I' 12 x = if pl k - i < x ∧ x ≤ pl k then I1 12 (x - 1) else I1 12 x) ∧ ∀ a j, a ≠ 12 → I' a j = I a j) (s0 := I1) (Nat.zero_le _) ⟨fun x _ => by rw [if_neg (by omega)], g2⟩ (fun i I' _ hi hQ => by
    obtain ⟨g1, g2⟩ := hQ
    obtain ⟨t, ht⟩ : ∃ t, pl k - i = t + 1 := ⟨pl k - i - 1, by omega⟩
    have e1 := at11 I' (show t < 9 by omega)
    rw [g1 t (by omega), if_neg (by omega)] at e1
    refine ⟨mx_ups I' 12 (t + 1) (I1 12 t), ⟨fun x hx => ?_, fun a j h => by rw [ups_ne _ _ (by omega)]; exact g2 a j h⟩, fun Q ih => ?_⟩
    · by_cases hxp : x = t + 1
      · subst hxp
        rw [ups_same, if_pos (by omega), Nat.add_sub_cancel]
      · rw [ups_ne _ _ (by omega), g1 x hx]
        by_cases q : pl k - i < x ∧ x ≤ pl k
        · rw [if_pos q, if_pos (by omega)]
        · rw [if_neg q, if_neg (by omega)]
    · rw [show pl k - (i + 1) = t by omega] at ih
      rw [ht, x_Items_bringTo_44]
      simp (disch := omega) only [x_Items_bringTo_46, x_Items_bringTo_47, x_Items_bringTo_50, x_Items_bringTo_51, x_Items_bringTo_54, x_Items_bringTo_56, x_Items_bringTo_57, x_Items_bringTo_60, x_Items_bringTo_62, x_Items_bringTo_63, x_Items_bringTo_64, x_Items_bringTo_67, x_Items_bringTo_70, x_Items_bringTo_73, x_Items_bringTo_76, x_Items_bringTo_77, x_Items_bringTo_80, x_Items_bringTo_81, x_Items_bringTo_82, x_Items_bringTo_85, x_Items_bringTo_86, mk_I, mk_J, mk_Q, mk_n, mk_sI, mk_sJ, Option.toList_some, Option.toList_none, List.cons_append, List.nil_append, true_and, and_true, ↓reduceIte, leT, leF, ltT, ltF, eqF, lt0F, le0T, le0F, eq0F, natT, nI_clamp, nI_1, if_true, if_false, not_true_eq_false, not_false_eq_true, z_00, z_10, eq_self, true_or, or_true, or_false, false_or, oc_0, oc_1, oc_2, rt_0_0, rt_0_1, rt_0_3, rt_0_4, rt_0_5, rt_0_6, rt_0_7, rt_0_8, rt_0_9, rt_1_0, rt_1_5, rt_1_6, rt_1_7, rt_1_8, rt_2_1, rt_2_2, rt_2_3, rt_2_4, rt_2_5, nI_pred, pk_m1, mx_call (q_Line_at (d := 0) L11 _ _ _) _, e1, mx_call (q_st11 (d := 0) _ _ (show t + 1 < 9 by omega) _) _]
      exact ih)
  refine ⟨mx_ups I2 12 P (nI k), ⟨⟨h9, by rw [ups_ne _ _ (by omega), f2 _ _ (by omega)]; exact hn, fun i hi => ?_⟩, fun a j h => by rw [ups_ne _ _ (by omega)]; exact f2 a j h⟩, ?_⟩
  · obtain ⟨b1, b2, b3, b4, b5, d1, d2, d3, d4, d5⟩ := hc.2.2 i hi
    have hoi := ((shift_ord ho hk hP).2 i hi).1
    rw [ups_ne _ _ (by omega), ups_ne _ _ (by omega), ups_ne _ _ (by omega), ups_ne _ _ (by omega), f2 _ _ (by omega), f2 _ _ (by omega), f2 _ _ (by omega), f2 _ _ (by omega)]
    refine ⟨b1, b2, b3, b4, hoi, d1, d2, d3, d4, ?_⟩
    unfold shO
    by_cases c0 : i = P
    · subst c0
      rw [ups_same, if_pos rfl]
    · rw [ups_ne _ _ (by omega), if_neg c0, f1 i hi]
      by_cases c1 : pl k ≤ i ∧ i < P
      · rw [if_pos c1, if_neg (by omega), g1 i hi, if_pos (by omega)]
        exact (hc.2.2 (i + 1) (by omega)).2.2.2.2.2.2.2.2.2
      · rw [if_neg c1]
        by_cases c2 : P < i ∧ i ≤ pl k
        · rw [if_pos c2, if_pos (by omega), g1 (i - 1) (by omega), if_neg (by omega)]
          exact (hc.2.2 (i - 1) (by omega)).2.2.2.2.2.2.2.2.2
        · rw [if_neg c2, if_neg (by omega), g1 i hi, if_neg (by omega)]
          exact d5
  · refine mx_Cal_in (ls := [some (.ref 2), some (.int (nI k)), some (.int (nI P)), none, none]) tab_22 (by rw [mx_rcv, oc_2]; trivial) (Nat.le_of_ble_eq_true rfl) rfl ?_
    simp (disch := omega) only [x_Items_bringTo_0, x_Items_bringTo_1, x_Items_bringTo_2, x_Items_bringTo_5, x_Items_bringTo_6, x_Items_bringTo_7, mk_I, mk_J, mk_Q, mk_n, mk_sI, mk_sJ, Option.toList_some, Option.toList_none, List.cons_append, List.nil_append, true_and, and_true, ↓reduceIte, leT, leF, ltT, ltF, eqF, lt0F, le0T, le0F, eq0F, natT, nI_clamp, nI_1, if_true, if_false, not_true_eq_false, not_false_eq_true, z_00, z_10, eq_self, true_or, or_true, or_false, false_or, oc_0, oc_1, oc_2, rt_0_0, rt_0_1, rt_0_3, rt_0_4, rt_0_5, rt_0_6, rt_0_7, rt_0_8, rt_0_9, rt_1_0, rt_1_5, rt_1_6, rt_1_7, rt_1_8, rt_2_1, rt_2_2, rt_2_3, rt_2_4, rt_2_5, mx_call (q_placeOf (d := 0) hc ho J hk) _]
    refine hP1 _ ?_
    rw [x_Items_bringTo_9]
    simp (disch := omega) only [x_Items_bringTo_11, x_Items_bringTo_12, x_Items_bringTo_41, x_Items_bringTo_42, ↓reduceIte, leT, leF, ltT, ltF, eqF, lt0F, le0T, le0F, eq0F, natT, nI_clamp, nI_1, if_true, if_false, not_true_eq_false, not_false_eq_true, z_00, z_10, eq_self, true_or, or_true, or_false, false_or]
    refine hP2 _ ?_
    rw [x_Items_bringTo_44]
    simp (disch := omega) only [x_Items_bringTo_46, x_Items_bringTo_47, x_Items_bringTo_76, x_Items_bringTo_77, x_Items_bringTo_80, x_Items_bringTo_81, x_Items_bringTo_82, x_Items_bringTo_85, x_Items_bringTo_86, mk_I, mk_J, mk_Q, mk_n, mk_sI, mk_sJ, Option.toList_some, Option.toList_none, List.cons_append, List.nil_append, true_and, and_true, ↓reduceIte, leT, leF, ltT, ltF, eqF, lt0F, le0T, le0F, eq0F, natT, nI_clamp, nI_1, if_true, if_false, not_true_eq_false, not_false_eq_true, z_00, z_10, eq_self, true_or, or_true, or_false, false_or, oc_0, oc_1, oc_2, rt_0_0, rt_0_1, rt_0_3, rt_0_4, rt_0_5, rt_0_6, rt_0_7, rt_0_8, rt_0_9, rt_1_0, rt_1_5, rt_1_6, rt_1_7, rt_1_8, rt_2_1, rt_2_2, rt_2_3, rt_2_4, rt_2_5, mx_call (q_st11 (d := 0) _ _ (show P < 9 by omega) _) _]
theorem shV {n : Nat} {x : Int32} (h9 : n ≤ 9) (h : hasV n x = 0) : (if x < 0 then (0 : Int32) else if nI n - 1 < x then 0 else 1) = 0 := by
  unfold hasV at h
  by_cases h1 : x < 0
  · rw [if_pos h1]
  · simp only [h1, if_false, lt_pred (show n < 2 ^ 30 by omega) h1] at h ⊢
    exact h
theorem op_shift {L : Nat} {xs : Nat → Int32} {I : mx_I} (hI : Inv L xs I) (x0 x1 : Int32) : OpI L xs I 100 185 [.int x0, .int x1] := by
  obtain ⟨⟨n, pl, od, hit⟩, hcl, htp, hw, ht0, ht1⟩ := hI.1
  have ho := hit.2.2.2.1
  have hz5 := hit.2.2.2.2.2
  obtain ⟨K, M, T, F, hc, hr⟩ := hit.sk
  have h9 := hc.1
  have hn := hc.2.1
  have hm := hr.2.1
  obtain ⟨z0, a, b, c, a9, b9, c9, ca, ra, cb, rb, cc, rc⟩ := hcl
  have z0 : I 1 4 = I 95 3 := z0
  have ca : I 1 1 = nI a := ca
  have cb : I 1 2 = nI b := cb
  have cc : I 1 3 = nI c := cc
  rcases hasV_cases h9 x0 with e0 | ⟨k, hk, rfl⟩
  · refine OpI.err hI 1 (fun J => ?_) (fun J => ?_)
    · refine mx_Cal_in (ls := [some (.ref 0), some (.int _), some (.int _)]) (d := 299) tab_100 (by rw [mx_rcv, oc_0]; trivial) (Nat.le_of_ble_eq_true rfl) rfl ?_
      simp (disch := omega) only [x_Main_shift_0, x_Main_shift_1, x_Main_shift_4, x_Main_shift_7, x_Main_shift_8, x_Main_shift_11, x_Main_shift_14, x_Main_shift_15, x_Main_shift_18, x_Main_shift_21, x_Main_shift_22, x_Main_shift_25, x_Main_shift_28, x_Main_shift_29, x_Main_shift_30, x_Main_shift_33, x_Main_shift_34, x_Main_shift_35, x_Main_shift_38, x_Main_shift_41, x_Main_shift_42, x_Main_shift_45, x_Main_shift_48, x_Main_shift_49, x_Main_shift_50, x_Main_shift_53, x_Main_shift_54, x_Main_shift_55, x_Main_shift_58, x_Main_shift_61, x_Main_shift_62, x_Main_shift_63, x_Main_shift_66, mk_I, mk_J, mk_Q, mk_n, mk_sI, mk_sJ, Option.toList_some, Option.toList_none, List.cons_append, List.nil_append, true_and, and_true, ↓reduceIte, leT, leF, ltT, ltF, eqF, lt0F, le0T, le0F, eq0F, natT, nI_clamp, nI_1, if_true, if_false, not_true_eq_false, not_false_eq_true, z_00, z_10, eq_self, true_or, or_true, or_false, false_or, oc_0, oc_1, oc_2, rt_0_0, rt_0_1, rt_0_3, rt_0_4, rt_0_5, rt_0_6, rt_0_7, rt_0_8, rt_0_9, rt_1_0, rt_1_5, rt_1_6, rt_1_7, rt_1_8, rt_2_1, rt_2_2, rt_2_3, rt_2_4, rt_2_5, mx_call (q_has (d := 0) hn J _) _, e0, mx_call (x_err_1 (d := 0) I J) _, mx_call (x_errN (d := 0) (k := 1) I J (by omega)) _]
    · refine mx_Cal_in (ls := [some (.ref 94), some (.int _), some (.int _), none, none, none, none]) (d := 299) tab_185 (by rw [mx_rcv, oc_94]; trivial) (Nat.le_of_ble_eq_true rfl) rfl ?_
      simp (disch := omega) only [x_Ref_shift_0, x_Ref_shift_1, x_Ref_shift_2, x_Ref_shift_5, x_Ref_shift_8, x_Ref_shift_9, x_Ref_shift_10, x_Ref_shift_11, x_Ref_shift_14, x_Ref_shift_16, x_Ref_shift_17, x_Ref_shift_18, x_Ref_shift_19, x_Ref_shift_22, x_Ref_shift_25, x_Ref_shift_26, x_Ref_shift_27, x_Ref_shift_30, x_Ref_shift_31, x_Ref_shift_32, x_Ref_shift_33, x_Ref_shift_36, x_Ref_shift_39, x_Ref_shift_40, x_Ref_shift_41, x_Ref_shift_44, x_Ref_shift_45, x_Ref_shift_46, x_Ref_shift_47, x_Ref_shift_48, x_Ref_shift_51, x_Ref_shift_52, x_Ref_shift_53, x_Ref_shift_55, x_Ref_shift_57, x_Ref_shift_58, x_Ref_shift_61, x_Ref_shift_63, x_Ref_shift_64, x_Ref_shift_67, x_Ref_shift_68, x_Ref_shift_70, x_Ref_shift_71, x_Ref_shift_74, x_Ref_shift_76, x_Ref_shift_78, x_Ref_shift_79, x_Ref_shift_82, x_Ref_shift_84, x_Ref_shift_85, x_Ref_shift_88, x_Ref_shift_89, x_Ref_shift_92, x_Ref_shift_94, x_Ref_shift_95, x_Ref_shift_98, x_Ref_shift_100, x_Ref_shift_101, x_Ref_shift_104, x_Ref_shift_105, x_Ref_shift_108, x_Ref_shift_109, x_Ref_shift_111, x_Ref_shift_112, x_Ref_shift_114, x_Ref_shift_115, x_Ref_shift_117, x_Ref_shift_119, x_Ref_shift_120, x_Ref_shift_123, x_Ref_shift_126, x_Ref_shift_129, x_Ref_shift_130, x_Ref_shift_131, x_Ref_shift_132, x_Ref_shift_133, x_Ref_shift_136, x_Ref_shift_137, mk_I, mk_J, mk_Q, mk_n, mk_sI, mk_sJ, Option.toList_some, Option.toList_none, List.cons_append, List.nil_append, true_and, and_true, ↓reduceIte, leT, leF, ltT, ltF, eqF, lt0F, le0T, le0F, eq0F, natT, nI_clamp, nI_1, if_true, if_false, not_true_eq_false, not_false_eq_true, z_00, z_10, eq_self, true_or, or_true, or_false, false_or, oc_94, rt_94_0, rt_94_1, rt_94_3, rt_94_8, rt_94_9, rt_94_10, rt_94_11, rt_94_12, rt_94_15, rt_94_16, rt_94_18, rt_94_21, rt_94_22, rt_94_23, rt_94_24, or_95, oa_95, tc_0, kc_0, k0_0, tc_1, kc_1, k0_1, tc_2, kc_2, k0_2, tc_3, kc_3, k0_3, tc_4, kc_4, k0_4, tc_5, kc_5, k0_5, tc_6, kc_6, k0_6, tc_7, kc_7, k0_7, eX95, eX94, mx_call (q_rHas (d := 0) (hr.eX 1) J _) _, e0, mx_call (m_err_1 (d := 0) (eX I 1) J) _, mx_call (m_errN (d := 0) (k := 1) (eX I 1) J (by omega)) _]
  have e0 := hasV_k h9 hk
  obtain ⟨b1, b2, b3, b4, b5, d1, d2, d3, d4, d5⟩ := hc.2.2 k hk
  rcases hasV_cases h9 x1 with e1 | ⟨P, hP, rfl⟩
  · refine OpI.err hI 1 (fun J => ?_) (fun J => ?_)
    · refine mx_Cal_in (ls := [some (.ref 0), some (.int _), some (.int _)]) (d := 299) tab_100 (by rw [mx_rcv, oc_0]; trivial) (Nat.le_of_ble_eq_true rfl) rfl ?_
      simp (disch := omega) only [x_Main_shift_0, x_Main_shift_1, x_Main_shift_4, x_Main_shift_7, x_Main_shift_8, x_Main_shift_11, x_Main_shift_14, x_Main_shift_15, x_Main_shift_18, x_Main_shift_21, x_Main_shift_22, x_Main_shift_25, x_Main_shift_28, x_Main_shift_29, x_Main_shift_30, x_Main_shift_33, x_Main_shift_34, x_Main_shift_35, x_Main_shift_38, x_Main_shift_41, x_Main_shift_42, x_Main_shift_45, x_Main_shift_48, x_Main_shift_49, x_Main_shift_50, x_Main_shift_53, x_Main_shift_54, x_Main_shift_55, x_Main_shift_58, x_Main_shift_61, x_Main_shift_62, x_Main_shift_63, x_Main_shift_66, mk_I, mk_J, mk_Q, mk_n, mk_sI, mk_sJ, Option.toList_some, Option.toList_none, List.cons_append, List.nil_append, true_and, and_true, ↓reduceIte, leT, leF, ltT, ltF, eqF, lt0F, le0T, le0F, eq0F, natT, nI_clamp, nI_1, if_true, if_false, not_true_eq_false, not_false_eq_true, z_00, z_10, eq_self, true_or, or_true, or_false, false_or, oc_0, oc_1, oc_2, rt_0_0, rt_0_1, rt_0_3, rt_0_4, rt_0_5, rt_0_6, rt_0_7, rt_0_8, rt_0_9, rt_1_0, rt_1_5, rt_1_6, rt_1_7, rt_1_8, rt_2_1, rt_2_2, rt_2_3, rt_2_4, rt_2_5, mx_call (q_has (d := 0) hn J _) _, e0, e1, mx_call (x_err_1 (d := 0) I J) _, mx_call (x_errN (d := 0) (k := 1) I J (by omega)) _]
    · refine mx_Cal_in (ls := [some (.ref 94), some (.int _), some (.int _), none, none, none, none]) (d := 299) tab_185 (by rw [mx_rcv, oc_94]; trivial) (Nat.le_of_ble_eq_true rfl) rfl ?_
      simp (disch := omega) only [x_Ref_shift_0, x_Ref_shift_1, x_Ref_shift_2, x_Ref_shift_5, x_Ref_shift_8, x_Ref_shift_9, x_Ref_shift_10, x_Ref_shift_11, x_Ref_shift_14, x_Ref_shift_16, x_Ref_shift_17, x_Ref_shift_18, x_Ref_shift_19, x_Ref_shift_22, x_Ref_shift_25, x_Ref_shift_26, x_Ref_shift_27, x_Ref_shift_30, x_Ref_shift_31, x_Ref_shift_32, x_Ref_shift_33, x_Ref_shift_36, x_Ref_shift_39, x_Ref_shift_40, x_Ref_shift_41, x_Ref_shift_44, x_Ref_shift_45, mk_I, mk_J, mk_Q, mk_n, mk_sI, mk_sJ, Option.toList_some, Option.toList_none, List.cons_append, List.nil_append, true_and, and_true, ↓reduceIte, leT, leF, ltT, ltF, eqF, lt0F, le0T, le0F, eq0F, natT, nI_clamp, nI_1, if_true, if_false, not_true_eq_false, not_false_eq_true, z_00, z_10, eq_self, true_or, or_true, or_false, false_or, oc_94, rt_94_0, rt_94_1, rt_94_3, rt_94_8, rt_94_9, rt_94_10, rt_94_11, rt_94_12, rt_94_15, rt_94_16, rt_94_18, rt_94_21, rt_94_22, rt_94_23, rt_94_24, or_95, oa_95, tc_0, kc_0, k0_0, tc_1, kc_1, k0_1, tc_2, kc_2, k0_2, tc_3, kc_3, k0_3, tc_4, kc_4, k0_4, tc_5, kc_5, k0_5, tc_6, kc_6, k0_6, tc_7, kc_7, k0_7, eX95, eX94, mx_call (q_rHas (d := 0) (hr.eX 1) J _) _, e0, mx_call (q_Ref_in (d := 0) _ _ _ _) _, eX95, hm, show (if x1 < 0 then (0 : Int32) else if nI n - 1 < x1 then 0 else 1) = 0 from shV h9 e1, mx_call (m_err_1 (d := 0) (eX I 1) J) _, mx_call (m_errN (d := 0) (k := 1) (eX I 1) J (by omega)) _]
  have e1 := hasV_k h9 hP
  by_cases hF : F k = 0
  rotate_left
  · refine OpI.err hI 3 (fun J => ?_) (fun J => ?_)
    · refine mx_Cal_in (ls := [some (.ref 0), some (.int _), some (.int _)]) (d := 299) tab_100 (by rw [mx_rcv, oc_0]; trivial) (Nat.le_of_ble_eq_true rfl) rfl ?_
      simp (disch := omega) only [x_Main_shift_0, x_Main_shift_1, x_Main_shift_4, x_Main_shift_7, x_Main_shift_8, x_Main_shift_11, x_Main_shift_14, x_Main_shift_15, x_Main_shift_18, x_Main_shift_21, x_Main_shift_22, x_Main_shift_25, x_Main_shift_28, x_Main_shift_29, x_Main_shift_30, x_Main_shift_33, x_Main_shift_34, x_Main_shift_35, x_Main_shift_38, x_Main_shift_41, x_Main_shift_42, x_Main_shift_45, x_Main_shift_48, x_Main_shift_49, x_Main_shift_50, x_Main_shift_53, x_Main_shift_54, x_Main_shift_55, x_Main_shift_58, x_Main_shift_61, x_Main_shift_62, x_Main_shift_63, x_Main_shift_66, mk_I, mk_J, mk_Q, mk_n, mk_sI, mk_sJ, Option.toList_some, Option.toList_none, List.cons_append, List.nil_append, true_and, and_true, ↓reduceIte, leT, leF, ltT, ltF, eqF, lt0F, le0T, le0F, eq0F, natT, nI_clamp, nI_1, if_true, if_false, not_true_eq_false, not_false_eq_true, z_00, z_10, eq_self, true_or, or_true, or_false, false_or, oc_0, oc_1, oc_2, rt_0_0, rt_0_1, rt_0_3, rt_0_4, rt_0_5, rt_0_6, rt_0_7, rt_0_8, rt_0_9, rt_1_0, rt_1_5, rt_1_6, rt_1_7, rt_1_8, rt_2_1, rt_2_2, rt_2_3, rt_2_4, rt_2_5, mx_call (q_has (d := 0) hn J _) _, e0, e1, mx_call (q_isL (d := 0) hc J hk) _, hF, mx_call (x_err_3 (d := 0) I J) _, mx_call (x_errN (d := 0) (k := 3) I J (by omega)) _]
    · refine mx_Cal_in (ls := [some (.ref 94), some (.int _), some (.int _), none, none, none, none]) (d := 299) tab_185 (by rw [mx_rcv, oc_94]; trivial) (Nat.le_of_ble_eq_true rfl) rfl ?_
      simp (disch := omega) only [x_Ref_shift_0, x_Ref_shift_1, x_Ref_shift_2, x_Ref_shift_5, x_Ref_shift_8, x_Ref_shift_9, x_Ref_shift_10, x_Ref_shift_11, x_Ref_shift_14, x_Ref_shift_16, x_Ref_shift_17, x_Ref_shift_18, x_Ref_shift_19, x_Ref_shift_22, x_Ref_shift_25, x_Ref_shift_26, x_Ref_shift_27, x_Ref_shift_30, x_Ref_shift_31, x_Ref_shift_32, x_Ref_shift_33, x_Ref_shift_36, x_Ref_shift_39, x_Ref_shift_40, x_Ref_shift_41, x_Ref_shift_44, x_Ref_shift_45, mk_I, mk_J, mk_Q, mk_n, mk_sI, mk_sJ, Option.toList_some, Option.toList_none, List.cons_append, List.nil_append, true_and, and_true, ↓reduceIte, leT, leF, ltT, ltF, eqF, lt0F, le0T, le0F, eq0F, natT, nI_clamp, nI_1, if_true, if_false, not_true_eq_false, not_false_eq_true, z_00, z_10, eq_self, true_or, or_true, or_false, false_or, oc_94, rt_94_0, rt_94_1, rt_94_3, rt_94_8, rt_94_9, rt_94_10, rt_94_11, rt_94_12, rt_94_15, rt_94_16, rt_94_18, rt_94_21, rt_94_22, rt_94_23, rt_94_24, or_95, oa_95, tc_0, kc_0, k0_0, tc_1, kc_1, k0_1, tc_2, kc_2, k0_2, tc_3, kc_3, k0_3, tc_4, kc_4, k0_4, tc_5, kc_5, k0_5, tc_6, kc_6, k0_6, tc_7, kc_7, k0_7, eX95, eX94, mx_call (q_rHas (d := 0) (hr.eX 3) J _) _, e0, mx_call (q_Ref_in (d := 0) _ _ _ _) _, eX95, hm, lt_pred (show n < 2 ^ 30 by omega) (show ¬ nI P < 0 from nI_pos (by omega)), mx_call (q_rIsL (d := 0) (hr.eX 3) J hk) _, hF, mx_call (m_err_3 (d := 0) (eX I 3) J) _, mx_call (m_errN (d := 0) (k := 3) (eX I 3) J (by omega)) _]
  intro J
  obtain ⟨I1, ⟨hc1, hf1⟩, hcal⟩ := q_bringTo hc ho J hk hP
  have hb := (ho.1 k hk).1
  have hr1 : RI I1 n K M T F pl := hr.congr (fun j _ => hf1 95 j (by omega))
  obtain ⟨⟨I2, w⟩, ⟨hr2, hf2⟩, hP2⟩ := lqx (σ := mx_I × (Option Value × Option Value)) (cl := k_Ref_shift) (C := mx_Cal mx_tab 299) (pc := 55) (i0 := 0) (n := n) (fun i s => [some (.ref 94), some (.int (nI k)), some (.int (nI P)), some (.int (nI (pl k))), some (.int (nI i)), s.2.1, s.2.2]) (fun s => mk s.1 J) (fun i s => RI s.1 n K M T F (fun j => if j < i then shP0 pl (pl k) P j else pl j) ∧ ∀ a j, ¬ (a = 95 ∧ 8 ≤ j ∧ j < 53) → s.1 a j = I1 a j) (s0 := (I1, none, none)) (Nat.zero_le n) ⟨by
      have : (fun j => if j < 0 then shP0 pl (pl k) P j else pl j) = pl := by funext j; rw [if_neg (by omega)]
      rw [this]; exact hr1, fun _ _ _ => rfl⟩ (fun i s _ hi hQ => by
    obtain ⟨hr', hf⟩ := hQ
    have hm' := hr'.2.1
    have e3 := q_itsP (d := 0) hr' J hi
    have hpi := (ho.1 i hi).1
    rw [show (if i < i then shP0 pl (pl k) P i else pl i) = pl i from if_neg (by omega)] at e3
    have hsh : shP0 pl (pl k) P i < n := by
      unfold shP0
      by_cases c1 : pl k < pl i ∧ pl i ≤ P
      · rw [if_pos c1]; omega
      · rw [if_neg c1]
        by_cases c2 : pl i < pl k ∧ P ≤ pl i
        · rw [if_pos c2]; omega
        · rw [if_neg c2]; exact hpi
    have hfn : (fun j => if j < i + 1 then shP0 pl (pl k) P j else pl j) = pt (fun j => if j < i then shP0 pl (pl k) P j else pl j) i (shP0 pl (pl k) P i) := by
      funext j
      unfold pt
      by_cases q : j = i
      · subst q; rw [if_pos rfl, if_pos (by omega)]
      · rw [if_neg q]
        show _ = (if j < i then shP0 pl (pl k) P j else pl j)
        by_cases q2 : j < i
        · rw [if_pos q2, if_pos (by omega)]
        · rw [if_neg q2, if_neg (by omega)]
    refine ⟨(mx_ups s.1 95 (8 + 5 * i + 3) (nI (shP0 pl (pl k) P i)), some (.int (nI (pl i))), some (.int (if pl k < pl i ∧ pl i ≤ P then -1 else if pl i < pl k ∧ P ≤ pl i then 1 else 0))), ⟨by
      rw [hfn]; exact hr'.setP hsh, fun a j h => by
      show mx_ups s.1 95 (8 + 5 * i + 3) (nI (shP0 pl (pl k) P i)) a j = I1 a j
      rw [ups_ne _ _ (by omega)]; exact hf a j h⟩, fun Q ih => ?_⟩
    rw [x_Ref_shift_55]
    by_cases c1 : pl k < pl i ∧ pl i ≤ P
    · obtain ⟨t, ht⟩ : ∃ t, pl i = t + 1 := ⟨pl i - 1, by omega⟩
      have e4 : shP0 pl (pl k) P i = t := by unfold shP0; rw [if_pos c1]; omega
      simp only [if_pos c1, e4] at ih
      rw [ht] at ih e3
      simp (disch := omega) only [x_Ref_shift_57, x_Ref_shift_58, x_Ref_shift_61, x_Ref_shift_63, x_Ref_shift_64, x_Ref_shift_67, x_Ref_shift_68, x_Ref_shift_70, x_Ref_shift_71, x_Ref_shift_74, x_Ref_shift_76, x_Ref_shift_78, x_Ref_shift_79, x_Ref_shift_82, x_Ref_shift_84, x_Ref_shift_85, x_Ref_shift_88, x_Ref_shift_89, x_Ref_shift_92, x_Ref_shift_94, x_Ref_shift_95, x_Ref_shift_98, x_Ref_shift_100, x_Ref_shift_101, x_Ref_shift_104, x_Ref_shift_105, x_Ref_shift_108, x_Ref_shift_109, x_Ref_shift_111, x_Ref_shift_112, x_Ref_shift_114, x_Ref_shift_115, x_Ref_shift_117, x_Ref_shift_119, x_Ref_shift_120, x_Ref_shift_123, x_Ref_shift_126, x_Ref_shift_129, x_Ref_shift_130, x_Ref_shift_131, x_Ref_shift_132, x_Ref_shift_133, x_Ref_shift_136, x_Ref_shift_137, mk_I, mk_J, mk_Q, mk_n, mk_sI, mk_sJ, Option.toList_some, Option.toList_none, List.cons_append, List.nil_append, true_and, and_true, ↓reduceIte, leT, leF, ltT, ltF, eqF, lt0F, le0T, le0F, eq0F, natT, nI_clamp, nI_1, if_true, if_false, not_true_eq_false, not_false_eq_true, z_00, z_10, eq_self, true_or, or_true, or_false, false_or, oc_94, rt_94_0, rt_94_1, rt_94_3, rt_94_8, rt_94_9, rt_94_10, rt_94_11, rt_94_12, rt_94_15, rt_94_16, rt_94_18, rt_94_21, rt_94_22, rt_94_23, rt_94_24, or_95, oa_95, tc_0, kc_0, k0_0, tc_1, kc_1, k0_1, tc_2, kc_2, k0_2, tc_3, kc_3, k0_3, tc_4, kc_4, k0_4, tc_5, kc_5, k0_5, tc_6, kc_6, k0_6, tc_7, kc_7, k0_7, hm', mx_call e3 _, pk_m1, mx_call (q_Ref_lays1_3 (d := 0) _ _ (show i < 9 by omega) _) _]
      exact ih
    · by_cases c2 : pl i < pl k ∧ P ≤ pl i
      · have e4 : shP0 pl (pl k) P i = pl i + 1 := by unfold shP0; rw [if_neg c1, if_pos c2]
        simp only [if_neg c1, if_pos c2, e4] at ih
        simp (disch := omega) only [x_Ref_shift_57, x_Ref_shift_58, x_Ref_shift_61, x_Ref_shift_63, x_Ref_shift_64, x_Ref_shift_67, x_Ref_shift_68, x_Ref_shift_70, x_Ref_shift_71, x_Ref_shift_74, x_Ref_shift_76, x_Ref_shift_78, x_Ref_shift_79, x_Ref_shift_82, x_Ref_shift_84, x_Ref_shift_85, x_Ref_shift_88, x_Ref_shift_89, x_Ref_shift_92, x_Ref_shift_94, x_Ref_shift_95, x_Ref_shift_98, x_Ref_shift_100, x_Ref_shift_101, x_Ref_shift_104, x_Ref_shift_105, x_Ref_shift_108, x_Ref_shift_109, x_Ref_shift_111, x_Ref_shift_112, x_Ref_shift_114, x_Ref_shift_115, x_Ref_shift_117, x_Ref_shift_119, x_Ref_shift_120, x_Ref_shift_123, x_Ref_shift_126, x_Ref_shift_129, x_Ref_shift_130, x_Ref_shift_131, x_Ref_shift_132, x_Ref_shift_133, x_Ref_shift_136, x_Ref_shift_137, mk_I, mk_J, mk_Q, mk_n, mk_sI, mk_sJ, Option.toList_some, Option.toList_none, List.cons_append, List.nil_append, true_and, and_true, ↓reduceIte, leT, leF, ltT, ltF, eqF, lt0F, le0T, le0F, eq0F, natT, nI_clamp, nI_1, if_true, if_false, not_true_eq_false, not_false_eq_true, z_00, z_10, eq_self, true_or, or_true, or_false, false_or, oc_94, rt_94_0, rt_94_1, rt_94_3, rt_94_8, rt_94_9, rt_94_10, rt_94_11, rt_94_12, rt_94_15, rt_94_16, rt_94_18, rt_94_21, rt_94_22, rt_94_23, rt_94_24, or_95, oa_95, tc_0, kc_0, k0_0, tc_1, kc_1, k0_1, tc_2, kc_2, k0_2, tc_3, kc_3, k0_3, tc_4, kc_4, k0_4, tc_5, kc_5, k0_5, tc_6, kc_6, k0_6, tc_7, kc_7, k0_7, hm', mx_call e3 _, mx_call (q_Ref_lays1_3 (d := 0) _ _ (show i < 9 by omega) _) _]
        exact ih
      · have e4 : shP0 pl (pl k) P i = pl i := by unfold shP0; rw [if_neg c1, if_neg c2]
        simp only [if_neg c1, if_neg c2, e4] at ih
        have h0 : nI (pl i) + 0 = nI (pl i) := Int32.add_zero _
        by_cases c3 : pl i ≤ pl k
        · by_cases c4 : pl k ≤ pl i
          · simp (disch := omega) only [x_Ref_shift_57, x_Ref_shift_58, x_Ref_shift_61, x_Ref_shift_63, x_Ref_shift_64, x_Ref_shift_67, x_Ref_shift_68, x_Ref_shift_70, x_Ref_shift_71, x_Ref_shift_74, x_Ref_shift_76, x_Ref_shift_78, x_Ref_shift_79, x_Ref_shift_82, x_Ref_shift_84, x_Ref_shift_85, x_Ref_shift_88, x_Ref_shift_89, x_Ref_shift_92, x_Ref_shift_94, x_Ref_shift_95, x_Ref_shift_98, x_Ref_shift_100, x_Ref_shift_101, x_Ref_shift_104, x_Ref_shift_105, x_Ref_shift_108, x_Ref_shift_109, x_Ref_shift_111, x_Ref_shift_112, x_Ref_shift_114, x_Ref_shift_115, x_Ref_shift_117, x_Ref_shift_119, x_Ref_shift_120, x_Ref_shift_123, x_Ref_shift_126, x_Ref_shift_129, x_Ref_shift_130, x_Ref_shift_131, x_Ref_shift_132, x_Ref_shift_133, x_Ref_shift_136, x_Ref_shift_137, mk_I, mk_J, mk_Q, mk_n, mk_sI, mk_sJ, Option.toList_some, Option.toList_none, List.cons_append, List.nil_append, true_and, and_true, ↓reduceIte, leT, leF, ltT, ltF, eqF, lt0F, le0T, le0F, eq0F, natT, nI_clamp, nI_1, if_true, if_false, not_true_eq_false, not_false_eq_true, z_00, z_10, eq_self, true_or, or_true, or_false, false_or, oc_94, rt_94_0, rt_94_1, rt_94_3, rt_94_8, rt_94_9, rt_94_10, rt_94_11, rt_94_12, rt_94_15, rt_94_16, rt_94_18, rt_94_21, rt_94_22, rt_94_23, rt_94_24, or_95, oa_95, tc_0, kc_0, k0_0, tc_1, kc_1, k0_1, tc_2, kc_2, k0_2, tc_3, kc_3, k0_3, tc_4, kc_4, k0_4, tc_5, kc_5, k0_5, tc_6, kc_6, k0_6, tc_7, kc_7, k0_7, hm', mx_call e3 _, h0, mx_call (q_Ref_lays1_3 (d := 0) _ _ (show i < 9 by omega) _) _]
            exact ih
          · simp (disch := omega) only [x_Ref_shift_57, x_Ref_shift_58, x_Ref_shift_61, x_Ref_shift_63, x_Ref_shift_64, x_Ref_shift_67, x_Ref_shift_68, x_Ref_shift_70, x_Ref_shift_71, x_Ref_shift_74, x_Ref_shift_76, x_Ref_shift_78, x_Ref_shift_79, x_Ref_shift_82, x_Ref_shift_84, x_Ref_shift_85, x_Ref_shift_88, x_Ref_shift_89, x_Ref_shift_92, x_Ref_shift_94, x_Ref_shift_95, x_Ref_shift_98, x_Ref_shift_100, x_Ref_shift_101, x_Ref_shift_104, x_Ref_shift_105, x_Ref_shift_108, x_Ref_shift_109, x_Ref_shift_111, x_Ref_shift_112, x_Ref_shift_114, x_Ref_shift_115, x_Ref_shift_117, x_Ref_shift_119, x_Ref_shift_120, x_Ref_shift_123, x_Ref_shift_126, x_Ref_shift_129, x_Ref_shift_130, x_Ref_shift_131, x_Ref_shift_132, x_Ref_shift_133, x_Ref_shift_136, x_Ref_shift_137, mk_I, mk_J, mk_Q, mk_n, mk_sI, mk_sJ, Option.toList_some, Option.toList_none, List.cons_append, List.nil_append, true_and, and_true, ↓reduceIte, leT, leF, ltT, ltF, eqF, lt0F, le0T, le0F, eq0F, natT, nI_clamp, nI_1, if_true, if_false, not_true_eq_false, not_false_eq_true, z_00, z_10, eq_self, true_or, or_true, or_false, false_or, oc_94, rt_94_0, rt_94_1, rt_94_3, rt_94_8, rt_94_9, rt_94_10, rt_94_11, rt_94_12, rt_94_15, rt_94_16, rt_94_18, rt_94_21, rt_94_22, rt_94_23, rt_94_24, or_95, oa_95, tc_0, kc_0, k0_0, tc_1, kc_1, k0_1, tc_2, kc_2, k0_2, tc_3, kc_3, k0_3, tc_4, kc_4, k0_4, tc_5, kc_5, k0_5, tc_6, kc_6, k0_6, tc_7, kc_7, k0_7, hm', mx_call e3 _, h0, mx_call (q_Ref_lays1_3 (d := 0) _ _ (show i < 9 by omega) _) _]
            exact ih
        · simp (disch := omega) only [x_Ref_shift_57, x_Ref_shift_58, x_Ref_shift_61, x_Ref_shift_63, x_Ref_shift_64, x_Ref_shift_67, x_Ref_shift_68, x_Ref_shift_70, x_Ref_shift_71, x_Ref_shift_74, x_Ref_shift_76, x_Ref_shift_78, x_Ref_shift_79, x_Ref_shift_82, x_Ref_shift_84, x_Ref_shift_85, x_Ref_shift_88, x_Ref_shift_89, x_Ref_shift_92, x_Ref_shift_94, x_Ref_shift_95, x_Ref_shift_98, x_Ref_shift_100, x_Ref_shift_101, x_Ref_shift_104, x_Ref_shift_105, x_Ref_shift_108, x_Ref_shift_109, x_Ref_shift_111, x_Ref_shift_112, x_Ref_shift_114, x_Ref_shift_115, x_Ref_shift_117, x_Ref_shift_119, x_Ref_shift_120, x_Ref_shift_123, x_Ref_shift_126, x_Ref_shift_129, x_Ref_shift_130, x_Ref_shift_131, x_Ref_shift_132, x_Ref_shift_133, x_Ref_shift_136, x_Ref_shift_137, mk_I, mk_J, mk_Q, mk_n, mk_sI, mk_sJ, Option.toList_some, Option.toList_none, List.cons_append, List.nil_append, true_and, and_true, ↓reduceIte, leT, leF, ltT, ltF, eqF, lt0F, le0T, le0F, eq0F, natT, nI_clamp, nI_1, if_true, if_false, not_true_eq_false, not_false_eq_true, z_00, z_10, eq_self, true_or, or_true, or_false, false_or, oc_94, rt_94_0, rt_94_1, rt_94_3, rt_94_8, rt_94_9, rt_94_10, rt_94_11, rt_94_12, rt_94_15, rt_94_16, rt_94_18, rt_94_21, rt_94_22, rt_94_23, rt_94_24, or_95, oa_95, tc_0, kc_0, k0_0, tc_1, kc_1, k0_1, tc_2, kc_2, k0_2, tc_3, kc_3, k0_3, tc_4, kc_4, k0_4, tc_5, kc_5, k0_5, tc_6, kc_6, k0_6, tc_7, kc_7, k0_7, hm', mx_call e3 _, h0, mx_call (q_Ref_lays1_3 (d := 0) _ _ (show i < 9 by omega) _) _]
          exact ih)
  have hf2 : ∀ a j, ¬ (a = 95 ∧ 8 ≤ j ∧ j < 53) → I2 a j = I1 a j := hf2
  have hr2 : RI I2 n K M T F (shP0 pl (pl k) P) := by
    have h9 := hr2.1
    refine ⟨h9, hr2.2.1, fun i hi => ?_⟩
    have := hr2.2.2 i hi
    simp only [hi, if_true] at this
    exact this
  have hr3 := hr2.setP (k := k) hP
  refine ⟨nI (pl k), I1, mx_ups I2 95 (8 + 5 * k + 3) (nI P), J, J, ?_, ?_, hI.2.2.2.2.2.upd (fun a j h => hf1 a j (by omega)), hI.itm (fun a j h => by rw [ups_ne _ _ (by omega), hf2 a j (by omega), hf1 a j (by omega)]) ⟨n, _, _, ItemsR.of (hc1.congr (fun a j h => by rw [ups_ne _ _ (by omega), hf2 a j (by omega)])) hr3 (shift_ord ho hk hP) ?_⟩⟩
  · refine mx_Cal_in (ls := [some (.ref 0), some (.int _), some (.int _)]) (d := 299) tab_100 (by rw [mx_rcv, oc_0]; trivial) (Nat.le_of_ble_eq_true rfl) rfl ?_
    simp (disch := omega) only [x_Main_shift_0, x_Main_shift_1, x_Main_shift_4, x_Main_shift_7, x_Main_shift_8, x_Main_shift_11, x_Main_shift_14, x_Main_shift_15, x_Main_shift_18, x_Main_shift_21, x_Main_shift_22, x_Main_shift_25, x_Main_shift_28, x_Main_shift_29, x_Main_shift_30, x_Main_shift_33, x_Main_shift_34, x_Main_shift_35, x_Main_shift_38, x_Main_shift_41, x_Main_shift_42, x_Main_shift_45, x_Main_shift_48, x_Main_shift_49, x_Main_shift_50, x_Main_shift_53, x_Main_shift_54, x_Main_shift_55, x_Main_shift_58, x_Main_shift_61, x_Main_shift_62, x_Main_shift_63, x_Main_shift_66, mk_I, mk_J, mk_Q, mk_n, mk_sI, mk_sJ, Option.toList_some, Option.toList_none, List.cons_append, List.nil_append, true_and, and_true, ↓reduceIte, leT, leF, ltT, ltF, eqF, lt0F, le0T, le0F, eq0F, natT, nI_clamp, nI_1, if_true, if_false, not_true_eq_false, not_false_eq_true, z_00, z_10, eq_self, true_or, or_true, or_false, false_or, oc_0, oc_1, oc_2, rt_0_0, rt_0_1, rt_0_3, rt_0_4, rt_0_5, rt_0_6, rt_0_7, rt_0_8, rt_0_9, rt_1_0, rt_1_5, rt_1_6, rt_1_7, rt_1_8, rt_2_1, rt_2_2, rt_2_3, rt_2_4, rt_2_5, mx_call (q_has (d := 0) hn J _) _, e0, e1, mx_call (q_isL (d := 0) hc J hk) _, hF, mx_call hcal _]
  · refine mx_Cal_in (ls := [some (.ref 94), some (.int _), some (.int _), none, none, none, none]) (d := 299) tab_185 (by rw [mx_rcv, oc_94]; trivial) (Nat.le_of_ble_eq_true rfl) rfl ?_
    have hm1 := hr1.2.1
    simp (disch := omega) only [x_Ref_shift_0, x_Ref_shift_1, x_Ref_shift_2, x_Ref_shift_5, x_Ref_shift_8, x_Ref_shift_9, x_Ref_shift_10, x_Ref_shift_11, x_Ref_shift_14, x_Ref_shift_16, x_Ref_shift_17, x_Ref_shift_18, x_Ref_shift_19, x_Ref_shift_22, x_Ref_shift_25, x_Ref_shift_26, x_Ref_shift_27, x_Ref_shift_30, x_Ref_shift_31, x_Ref_shift_32, x_Ref_shift_33, x_Ref_shift_36, x_Ref_shift_39, x_Ref_shift_40, x_Ref_shift_41, x_Ref_shift_44, x_Ref_shift_45, x_Ref_shift_46, x_Ref_shift_47, x_Ref_shift_48, x_Ref_shift_51, x_Ref_shift_52, x_Ref_shift_53, mk_I, mk_J, mk_Q, mk_n, mk_sI, mk_sJ, Option.toList_some, Option.toList_none, List.cons_append, List.nil_append, true_and, and_true, ↓reduceIte, leT, leF, ltT, ltF, eqF, lt0F, le0T, le0F, eq0F, natT, nI_clamp, nI_1, if_true, if_false, not_true_eq_false, not_false_eq_true, z_00, z_10, eq_self, true_or, or_true, or_false, false_or, oc_94, rt_94_0, rt_94_1, rt_94_3, rt_94_8, rt_94_9, rt_94_10, rt_94_11, rt_94_12, rt_94_15, rt_94_16, rt_94_18, rt_94_21, rt_94_22, rt_94_23, rt_94_24, or_95, oa_95, tc_0, kc_0, k0_0, tc_1, kc_1, k0_1, tc_2, kc_2, k0_2, tc_3, kc_3, k0_3, tc_4, kc_4, k0_4, tc_5, kc_5, k0_5, tc_6, kc_6, k0_6, tc_7, kc_7, k0_7, mx_call (q_rHas (d := 0) hr1 J _) _, e0, mx_call (q_Ref_in (d := 0) _ _ _ _) _, hm1, lt_pred (show n < 2 ^ 30 by omega) (show ¬ nI P < 0 from nI_pos (by omega)), mx_call (q_rIsL (d := 0) hr1 J hk) _, hF, mx_call (q_itsP (d := 0) hr1 J hk) _]
    refine hP2 _ ?_
    have hm2 := hr2.2.1
    rw [x_Ref_shift_55]
    simp (disch := omega) only [x_Ref_shift_57, x_Ref_shift_58, x_Ref_shift_61, x_Ref_shift_63, x_Ref_shift_64, x_Ref_shift_67, x_Ref_shift_68, x_Ref_shift_70, x_Ref_shift_71, x_Ref_shift_74, x_Ref_shift_76, x_Ref_shift_78, x_Ref_shift_79, x_Ref_shift_82, x_Ref_shift_84, x_Ref_shift_85, x_Ref_shift_88, x_Ref_shift_89, x_Ref_shift_92, x_Ref_shift_94, x_Ref_shift_95, x_Ref_shift_98, x_Ref_shift_100, x_Ref_shift_101, x_Ref_shift_104, x_Ref_shift_105, x_Ref_shift_108, x_Ref_shift_109, x_Ref_shift_111, x_Ref_shift_112, x_Ref_shift_114, x_Ref_shift_115, x_Ref_shift_117, x_Ref_shift_119, x_Ref_shift_120, x_Ref_shift_123, x_Ref_shift_126, x_Ref_shift_129, x_Ref_shift_130, x_Ref_shift_131, x_Ref_shift_132, x_Ref_shift_133, x_Ref_shift_136, x_Ref_shift_137, mk_I, mk_J, mk_Q, mk_n, mk_sI, mk_sJ, Option.toList_some, Option.toList_none, List.cons_append, List.nil_append, true_and, and_true, ↓reduceIte, leT, leF, ltT, ltF, eqF, lt0F, le0T, le0F, eq0F, natT, nI_clamp, nI_1, if_true, if_false, not_true_eq_false, not_false_eq_true, z_00, z_10, eq_self, true_or, or_true, or_false, false_or, oc_94, rt_94_0, rt_94_1, rt_94_3, rt_94_8, rt_94_9, rt_94_10, rt_94_11, rt_94_12, rt_94_15, rt_94_16, rt_94_18, rt_94_21, rt_94_22, rt_94_23, rt_94_24, or_95, oa_95, tc_0, kc_0, k0_0, tc_1, kc_1, k0_1, tc_2, kc_2, k0_2, tc_3, kc_3, k0_3, tc_4, kc_4, k0_4, tc_5, kc_5, k0_5, tc_6, kc_6, k0_6, tc_7, kc_7, k0_7, hm2, mx_call (q_Ref_lays1_3 (d := 0) _ _ (show k < 9 by omega) _) _]
  · have e : ∀ a, a = 3 ∨ a = 5 ∨ a = 7 ∨ a = 9 ∨ a = 11 → mx_ups I2 95 (8 + 5 * k + 3) (nI P) a 1 = I a 1 := fun a h => by rw [ups_ne _ _ (by omega), hf2 a 1 (by omega), hf1 a 1 (by omega)]
    rw [e 3 (by omega), e 5 (by omega), e 7 (by omega), e 9 (by omega), e 11 (by omega)]
    exact hz5
