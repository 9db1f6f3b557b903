/-! loose -/
theorem zN_ex : ∃ f : Int32 → Int32, ∀ z, z * 1103515245 + 12345 = f z := ⟨fun z => z * 1103515245 + 12345, fun _ => rfl⟩
noncomputable def zN : Int32 → Int32 := Classical.choose zN_ex
theorem zN_eq (z : Int32) : z * 1103515245 + 12345 = zN z := Classical.choose_spec zN_ex z
theorem dN_ex : ∃ f : Int32 → Nat, ∀ x : Int32, (x.toUInt32 >>> ((8 : Int32).toUInt32 &&& Int32.toUInt32 31)).toInt32 = nI (f x) ∧ f x < 16777216 := by
  refine ⟨fun x => x.toBitVec.toNat / 256, fun x => ?_⟩
  have h : x.toBitVec.toNat / 256 < 16777216 := by
    have := x.toBitVec.isLt
    omega
  refine ⟨?_, h⟩
  show (x.toUInt32 >>> ((8 : Int32).toUInt32 &&& Int32.toUInt32 31)).toInt32 = nI (x.toBitVec.toNat / 256)
  apply Int32.toBitVec_inj.mp
  apply BitVec.eq_of_toNat_eq
  rw [pk_ushr x 8 8 (by decide), pk_tn (by omega)]
noncomputable def dN : Int32 → Nat := Classical.choose dN_ex
theorem dN_lt (z : Int32) : dN z < 16777216 := (Classical.choose_spec dN_ex z).2
theorem dN_eq (x : Int32) : (x.toUInt32 >>> ((8 : Int32).toUInt32 &&& Int32.toUInt32 31)).toInt32 = nI (dN x) := (Classical.choose_spec dN_ex x).1
theorem q_draw {d : Nat} (I : mx_I) (J : mx_J) : mx_Cal mx_tab (d + 1) 58 [.ref 1] (mk I J) (some (.int (nI (dN (zN (I 1 4)))))) (mk (mx_ups I 1 4 (zN (I 1 4))) J) := by
  refine mx_Cal_in (ls := [some (.ref 1)]) tab_58 (by rw [mx_rcv, oc_1]; trivial) (Nat.le_of_ble_eq_true rfl) rfl ?_
  simp (disch := omega) only [x_Show_draw_0, x_Show_draw_1, x_Show_draw_2, x_Show_draw_5, x_Show_draw_7, x_Show_draw_8, x_Show_draw_11, x_Show_draw_12, x_Show_draw_15, x_Show_draw_16, x_Show_draw_19, x_Show_draw_21, x_Show_draw_22, mk_I, mk_J, mk_Q, mk_n, mk_sI, mk_sJ, Option.toList_some, Option.toList_none, List.cons_append, List.nil_append, true_and, and_true, ↓reduceIte, leT, leF, ltT, ltF, eqF, lt0F, le0T, le0F, eq0F, natT, nI_clamp, nI_1, if_true, if_false, not_true_eq_false, not_false_eq_true, z_00, z_10, eq_self, true_or, or_true, or_false, false_or, oc_0, oc_1, oc_2, rt_0_0, rt_0_1, rt_0_3, rt_0_4, rt_0_5, rt_0_6, rt_0_7, rt_0_8, rt_0_9, rt_1_0, rt_1_5, rt_1_6, rt_1_7, rt_1_8, rt_2_1, rt_2_2, rt_2_3, rt_2_4, rt_2_5, ups_same, zN_eq, dN_eq]
theorem q_rDraw {d : Nat} (I : mx_I) (J : mx_J) : mx_Cal mx_tab (d + 1) 194 [.ref 94] (mk I J) (some (.int (nI (dN (zN (I 95 3)))))) (mk (mx_ups I 95 3 (zN (I 95 3))) J) := by
  refine mx_Cal_in (ls := [some (.ref 94)]) tab_194 (by rw [mx_rcv, oc_94]; trivial) (Nat.le_of_ble_eq_true rfl) rfl ?_
  simp (disch := omega) only [x_Ref_draw_0, x_Ref_draw_1, x_Ref_draw_4, x_Ref_draw_5, x_Ref_draw_6, x_Ref_draw_9, x_Ref_draw_10, x_Ref_draw_11, x_Ref_draw_13, x_Ref_draw_14, x_Ref_draw_17, x_Ref_draw_18, x_Ref_draw_19, x_Ref_draw_20, x_Ref_draw_23, x_Ref_draw_24, x_Ref_draw_25, x_Ref_draw_27, x_Ref_draw_28, mk_I, mk_J, mk_Q, mk_n, mk_sI, mk_sJ, Option.toList_some, Option.toList_none, List.cons_append, List.nil_append, true_and, and_true, ↓reduceIte, leT, leF, ltT, ltF, eqF, lt0F, le0T, le0F, eq0F, natT, nI_clamp, nI_1, if_true, if_false, not_true_eq_false, not_false_eq_true, z_00, z_10, eq_self, true_or, or_true, or_false, false_or, oc_94, rt_94_0, rt_94_1, rt_94_3, rt_94_8, rt_94_9, rt_94_10, rt_94_11, rt_94_12, rt_94_15, rt_94_16, rt_94_18, rt_94_21, rt_94_22, rt_94_23, rt_94_24, or_95, oa_95, tc_0, kc_0, k0_0, tc_1, kc_1, k0_1, tc_2, kc_2, k0_2, tc_3, kc_3, k0_3, tc_4, kc_4, k0_4, tc_5, kc_5, k0_5, tc_6, kc_6, k0_6, tc_7, kc_7, k0_7, ups_same, zN_eq, dN_eq]
abbrev lsT : Type := (Nat → Nat) × Nat × Int32
noncomputable def onP (F od : Nat → Nat) (n : Nat) : Nat := Classical.choose (first_ex (fun p => F (od p) = 0) n)
theorem onP_sp (F od : Nat → Nat) (n : Nat) : onP F od n ≤ n ∧ (∀ i, i < onP F od n → ¬ F (od i) = 0) ∧ (onP F od n < n → F (od (onP F od n)) = 0) := Classical.choose_spec (first_ex (fun p => F (od p) = 0) n)
/-- the seconds by draw of the item at a place -/
noncomputable def lsV (K M T : Nat → Nat) (i : Nat) (z : Int32) : Nat := LN K M T i + dN (zN z) % (MN K M T i - LN K M T i + 1)
def lsC (n : Nat) (K M T od : Nat → Nat) (s : lsT) : Prop := onP s.1 od n < n ∧ s.2.1 + lsV K M T (od (onP s.1 od n)) s.2.2 ≤ 9999
noncomputable def lsS (n : Nat) (K M T od : Nat → Nat) (s : lsT) : lsT :=
  if onP s.1 od n < n then (if s.2.1 + lsV K M T (od (onP s.1 od n)) s.2.2 ≤ 9999 then (pt s.1 (od (onP s.1 od n)) 2, s.2.1 + lsV K M T (od (onP s.1 od n)) s.2.2, zN s.2.2) else (s.1, s.2.1, zN s.2.2)) else s
noncomputable def lsI (n : Nat) (K M T od : Nat → Nat) (s : lsT) : Nat → lsT
  | 0 => s
  | j + 1 => lsS n K M T od (lsI n K M T od s j)
def lsX (I : mx_I) (n : Nat) (K M T od : Nat → Nat) (s : lsT) : Prop := CI I n K M T s.1 od ∧ I 1 2 = nI s.2.1 ∧ s.2.1 ≤ 9999 ∧ I 1 4 = s.2.2
def lsR (I : mx_I) (n : Nat) (K M T pl : Nat → Nat) (s : lsT) : Prop := RI I n K M T s.1 pl ∧ I 95 0 = nI s.2.1 ∧ s.2.1 ≤ 9999 ∧ I 95 3 = s.2.2
theorem max1 {a : Nat} (h : 1 ≤ a) (ha : a < 2 ^ 31) : (if (1 : Int32) < nI a then nI a else 1) = nI a := by
  by_cases h1 : a = 1
  · subst h1; decide
  · rw [if_pos (show (1 : Int32) < nI a from nI_lt (a := 1) (by omega) ha)]
theorem lsV_le {n : Nat} {I : mx_I} {K M T F od : Nat → Nat} (hc : CI I n K M T F od) {i : Nat} (hi : i < n) (z : Int32) : lsV K M T i z ≤ 1075 := by
  obtain ⟨l1, l2, l3⟩ := hc.lb hi
  unfold lsV
  have := Nat.mod_lt (dN (zN z)) (show MN K M T i - LN K M T i + 1 > 0 by omega)
  omega
theorem q_oneDraw {n : Nat} {I : mx_I} {K M T od : Nat → Nat} {s : lsT} (hx : lsX I n K M T od s) (J : mx_J) [Decidable (lsC n K M T od s)] : ∃ I', (lsX I' n K M T od (lsS n K M T od s) ∧ ∀ a j, a ≠ 10 → ¬ (a = 1 ∧ (j = 2 ∨ j = 4)) → I' a j = I a j) ∧ mx_Cal mx_tab 5 57 [.ref 1] (mk I J) (some (.int (if lsC n K M T od s then 1 else 0))) (mk I' J) := by
  obtain ⟨hc, cb, b9, cz⟩ := hx
  have h9 := hc.1
  have c9999 : (9999 : Int32) = nI 9999 := rfl
  obtain ⟨hp, hp1, hp2⟩ := onP_sp s.1 od n
  by_cases hpn : onP s.1 od n < n
  · have b5 := (hc.2.2 _ hpn).2.2.2.2.1
    obtain ⟨l1, l2, l3⟩ := hc.lb b5
    have hV := lsV_le hc b5 s.2.2
    have hrem := dN_lt (zN s.2.2)
    have eV : nI (LN K M T (od (onP s.1 od n))) + (nI (dN (zN s.2.2)) - nI (dN (zN s.2.2)) / nI (MN K M T (od (onP s.1 od n)) - LN K M T (od (onP s.1 od n)) + 1) * nI (MN K M T (od (onP s.1 od n)) - LN K M T (od (onP s.1 od n)) + 1)) = nI (lsV K M T (od (onP s.1 od n)) s.2.2) := by
      rw [pk_rem (by omega) (by omega) (by omega), nI_add]; rfl
    have hdr := q_draw (d := 0) I J
    rw [cz] at hdr
    have hcb : mx_ups I 1 4 (zN s.2.2) 1 2 = nI s.2.1 := by rw [ups_ne _ _ (by omega)]; exact cb
    have hc1 : CI (mx_ups I 1 4 (zN s.2.2)) n K M T s.1 od := hc.congr (fun a j _ => by rw [ups_ne _ _ (by omega)])
    by_cases hq : s.2.1 + lsV K M T (od (onP s.1 od n)) s.2.2 ≤ 9999
    · have hC : lsC n K M T od s := ⟨hpn, hq⟩
      have hf := q_finish (d := 0) (mx_ups I 1 4 (zN s.2.2)) J (show od (onP s.1 od n) < 9 by omega) (nI (lsV K M T (od (onP s.1 od n)) s.2.2))
      rw [hcb, nI_add] at hf
      refine ⟨mx_ups (mx_ups (mx_ups I 1 4 (zN s.2.2)) 10 (od (onP s.1 od n)) (nI 2)) 1 2 (nI (s.2.1 + lsV K M T (od (onP s.1 od n)) s.2.2)), ⟨?_, fun a j h1 h2 => by simp (disch := omega) only [ups_ne]⟩, ?_⟩
      · unfold lsS
        rw [if_pos hpn, if_pos hq]
        refine ⟨(hc1.setF (k := od (onP s.1 od n)) (v := 2) (by omega)).congr (fun a j _ => by rw [ups_ne _ _ (by omega)]), ups_same _ _ _ _, hq, ?_⟩
        simp (disch := omega) only [ups_ne, ups_same]
      · refine mx_Cal_in (ls := [some (.ref 1), none, none, none, none]) tab_57 (by rw [mx_rcv, oc_1]; trivial) (Nat.le_of_ble_eq_true rfl) rfl ?_
        simp (disch := omega) only [x_Show_finishesOneByDraw_0, x_Show_finishesOneByDraw_1, x_Show_finishesOneByDraw_4, x_Show_finishesOneByDraw_7, x_Show_finishesOneByDraw_8, x_Show_finishesOneByDraw_9, x_Show_finishesOneByDraw_12, x_Show_finishesOneByDraw_13, x_Show_finishesOneByDraw_14, x_Show_finishesOneByDraw_15, x_Show_finishesOneByDraw_18, x_Show_finishesOneByDraw_19, x_Show_finishesOneByDraw_22, x_Show_finishesOneByDraw_23, x_Show_finishesOneByDraw_24, x_Show_finishesOneByDraw_25, x_Show_finishesOneByDraw_28, x_Show_finishesOneByDraw_29, x_Show_finishesOneByDraw_32, x_Show_finishesOneByDraw_33, x_Show_finishesOneByDraw_34, x_Show_finishesOneByDraw_35, x_Show_finishesOneByDraw_36, x_Show_finishesOneByDraw_39, x_Show_finishesOneByDraw_40, x_Show_finishesOneByDraw_41, x_Show_finishesOneByDraw_42, x_Show_finishesOneByDraw_45, x_Show_finishesOneByDraw_46, x_Show_finishesOneByDraw_47, x_Show_finishesOneByDraw_48, x_Show_finishesOneByDraw_50, x_Show_finishesOneByDraw_51, x_Show_finishesOneByDraw_54, x_Show_finishesOneByDraw_56, x_Show_finishesOneByDraw_57, x_Show_finishesOneByDraw_60, x_Show_finishesOneByDraw_63, x_Show_finishesOneByDraw_64, x_Show_finishesOneByDraw_65, x_Show_finishesOneByDraw_66, x_Show_finishesOneByDraw_67, x_Show_finishesOneByDraw_69, x_Show_finishesOneByDraw_72, x_Show_finishesOneByDraw_73, x_Show_finishesOneByDraw_74, mk_I, mk_J, mk_Q, mk_n, mk_sI, mk_sJ, Option.toList_some, Option.toList_none, List.cons_append, List.nil_append, true_and, and_true, ↓reduceIte, leT, leF, ltT, ltF, eqF, lt0F, le0T, le0F, eq0F, natT, nI_clamp, nI_1, if_true, if_false, not_true_eq_false, not_false_eq_true, z_00, z_10, eq_self, true_or, or_true, or_false, false_or, oc_0, oc_1, oc_2, rt_0_0, rt_0_1, rt_0_3, rt_0_4, rt_0_5, rt_0_6, rt_0_7, rt_0_8, rt_0_9, rt_1_0, rt_1_5, rt_1_6, rt_1_7, rt_1_8, rt_2_1, rt_2_2, rt_2_3, rt_2_4, rt_2_5, mx_call (q_on (d := 0) hc J hp hp1 hp2) _, hpn, mx_call (q_Items_least (d := 0) I J (show od (onP s.1 od n) < 9 by omega)) _, hc.L b5, mx_call (q_Items_most (d := 0) I J (show od (onP s.1 od n) < 9 by omega)) _, hc.M b5, pk_sub, max1, mx_call hdr _, eV, hcb, nI_add, c9999, mx_call hf _, if_pos hC]
    · have hC : ¬ lsC n K M T od s := fun h => hq h.2
      refine ⟨mx_ups I 1 4 (zN s.2.2), ⟨?_, fun a j h1 h2 => by simp (disch := omega) only [ups_ne]⟩, ?_⟩
      · unfold lsS
        rw [if_pos hpn, if_neg hq]
        exact ⟨hc1, hcb, b9, ups_same _ _ _ _⟩
      · refine mx_Cal_in (ls := [some (.ref 1), none, none, none, none]) tab_57 (by rw [mx_rcv, oc_1]; trivial) (Nat.le_of_ble_eq_true rfl) rfl ?_
        simp (disch := omega) only [x_Show_finishesOneByDraw_0, x_Show_finishesOneByDraw_1, x_Show_finishesOneByDraw_4, x_Show_finishesOneByDraw_7, x_Show_finishesOneByDraw_8, x_Show_finishesOneByDraw_9, x_Show_finishesOneByDraw_12, x_Show_finishesOneByDraw_13, x_Show_finishesOneByDraw_14, x_Show_finishesOneByDraw_15, x_Show_finishesOneByDraw_18, x_Show_finishesOneByDraw_19, x_Show_finishesOneByDraw_22, x_Show_finishesOneByDraw_23, x_Show_finishesOneByDraw_24, x_Show_finishesOneByDraw_25, x_Show_finishesOneByDraw_28, x_Show_finishesOneByDraw_29, x_Show_finishesOneByDraw_32, x_Show_finishesOneByDraw_33, x_Show_finishesOneByDraw_34, x_Show_finishesOneByDraw_35, x_Show_finishesOneByDraw_36, x_Show_finishesOneByDraw_39, x_Show_finishesOneByDraw_40, x_Show_finishesOneByDraw_41, x_Show_finishesOneByDraw_42, x_Show_finishesOneByDraw_45, x_Show_finishesOneByDraw_46, x_Show_finishesOneByDraw_47, x_Show_finishesOneByDraw_48, x_Show_finishesOneByDraw_50, x_Show_finishesOneByDraw_51, x_Show_finishesOneByDraw_54, x_Show_finishesOneByDraw_56, x_Show_finishesOneByDraw_57, x_Show_finishesOneByDraw_60, x_Show_finishesOneByDraw_63, x_Show_finishesOneByDraw_64, x_Show_finishesOneByDraw_65, x_Show_finishesOneByDraw_66, x_Show_finishesOneByDraw_67, x_Show_finishesOneByDraw_69, x_Show_finishesOneByDraw_72, x_Show_finishesOneByDraw_73, x_Show_finishesOneByDraw_74, mk_I, mk_J, mk_Q, mk_n, mk_sI, mk_sJ, Option.toList_some, Option.toList_none, List.cons_append, List.nil_append, true_and, and_true, ↓reduceIte, leT, leF, ltT, ltF, eqF, lt0F, le0T, le0F, eq0F, natT, nI_clamp, nI_1, if_true, if_false, not_true_eq_false, not_false_eq_true, z_00, z_10, eq_self, true_or, or_true, or_false, false_or, oc_0, oc_1, oc_2, rt_0_0, rt_0_1, rt_0_3, rt_0_4, rt_0_5, rt_0_6, rt_0_7, rt_0_8, rt_0_9, rt_1_0, rt_1_5, rt_1_6, rt_1_7, rt_1_8, rt_2_1, rt_2_2, rt_2_3, rt_2_4, rt_2_5, mx_call (q_on (d := 0) hc J hp hp1 hp2) _, hpn, mx_call (q_Items_least (d := 0) I J (show od (onP s.1 od n) < 9 by omega)) _, hc.L b5, mx_call (q_Items_most (d := 0) I J (show od (onP s.1 od n) < 9 by omega)) _, hc.M b5, pk_sub, max1, mx_call hdr _, eV, hcb, nI_add, c9999, if_neg hC]
  · have hC : ¬ lsC n K M T od s := fun h => hpn h.1
    refine ⟨I, ⟨?_, fun _ _ _ _ => rfl⟩, ?_⟩
    · unfold lsS
      rw [if_neg hpn]
      exact ⟨hc, cb, b9, cz⟩
    · refine mx_Cal_in (ls := [some (.ref 1), none, none, none, none]) tab_57 (by rw [mx_rcv, oc_1]; trivial) (Nat.le_of_ble_eq_true rfl) rfl ?_
      simp (disch := omega) only [x_Show_finishesOneByDraw_0, x_Show_finishesOneByDraw_1, x_Show_finishesOneByDraw_4, x_Show_finishesOneByDraw_7, x_Show_finishesOneByDraw_8, x_Show_finishesOneByDraw_9, x_Show_finishesOneByDraw_12, x_Show_finishesOneByDraw_13, x_Show_finishesOneByDraw_14, x_Show_finishesOneByDraw_15, x_Show_finishesOneByDraw_18, x_Show_finishesOneByDraw_19, x_Show_finishesOneByDraw_22, x_Show_finishesOneByDraw_23, x_Show_finishesOneByDraw_24, x_Show_finishesOneByDraw_25, x_Show_finishesOneByDraw_28, x_Show_finishesOneByDraw_29, x_Show_finishesOneByDraw_32, x_Show_finishesOneByDraw_33, x_Show_finishesOneByDraw_34, x_Show_finishesOneByDraw_35, x_Show_finishesOneByDraw_36, x_Show_finishesOneByDraw_39, x_Show_finishesOneByDraw_40, x_Show_finishesOneByDraw_41, x_Show_finishesOneByDraw_42, x_Show_finishesOneByDraw_45, x_Show_finishesOneByDraw_46, x_Show_finishesOneByDraw_47, x_Show_finishesOneByDraw_48, x_Show_finishesOneByDraw_50, x_Show_finishesOneByDraw_51, x_Show_finishesOneByDraw_54, x_Show_finishesOneByDraw_56, x_Show_finishesOneByDraw_57, x_Show_finishesOneByDraw_60, x_Show_finishesOneByDraw_63, x_Show_finishesOneByDraw_64, x_Show_finishesOneByDraw_65, x_Show_finishesOneByDraw_66, x_Show_finishesOneByDraw_67, x_Show_finishesOneByDraw_69, x_Show_finishesOneByDraw_72, x_Show_finishesOneByDraw_73, x_Show_finishesOneByDraw_74, mk_I, mk_J, mk_Q, mk_n, mk_sI, mk_sJ, Option.toList_some, Option.toList_none, List.cons_append, List.nil_append, true_and, and_true, ↓reduceIte, leT, leF, ltT, ltF, eqF, lt0F, le0T, le0F, eq0F, natT, nI_clamp, nI_1, if_true, if_false, not_true_eq_false, not_false_eq_true, z_00, z_10, eq_self, true_or, or_true, or_false, false_or, oc_0, oc_1, oc_2, rt_0_0, rt_0_1, rt_0_3, rt_0_4, rt_0_5, rt_0_6, rt_0_7, rt_0_8, rt_0_9, rt_1_0, rt_1_5, rt_1_6, rt_1_7, rt_1_8, rt_2_1, rt_2_2, rt_2_3, rt_2_4, rt_2_5, mx_call (q_on (d := 0) hc J hp hp1 hp2) _, hpn, z_0m1, if_neg hC]
theorem op_loose {L : Nat} {xs : Nat → Int32} {I : mx_I} (hI : Inv L xs I) (x0 : Int32) : OpI L xs I 109 195 [.int x0] := by
  obtain ⟨⟨n, pl, od, hit⟩, hcl, htp, hw, ht0, ht1⟩ := hI.1
  have ho := hit.2.2.2.1
  have hz5 := hit.2.2.2.2.2
  obtain ⟨K, M, T, F, hc, hr⟩ := hit.sk
  have h9 := hc.1
  have hn := hc.2.1
  have hm := hr.2.1
  obtain ⟨z0, a, b, c, a9, b9, c9, ca, ra, cb, rb, cc, rc⟩ := hcl
  have z0 : I 1 4 = I 95 3 := z0
  have ca : I 1 1 = nI a := ca
  have cb : I 1 2 = nI b := cb
  have cc : I 1 3 = nI c := cc
  have c9999 : (9999 : Int32) = nI 9999 := rfl
  have l9 : (9 : Int32) = nI 9 := rfl
  by_cases h1 : x0 < 1
  · refine OpI.err hI 1 (fun J => ?_) (fun J => ?_)
    · refine mx_Cal_in (ls := [some (.ref 0), some (.int _), none, none]) (d := 299) tab_109 (by rw [mx_rcv, oc_0]; trivial) (Nat.le_of_ble_eq_true rfl) rfl ?_
      simp (disch := omega) only [x_Main_loose_0, x_Main_loose_1, x_Main_loose_2, x_Main_loose_5, x_Main_loose_6, x_Main_loose_8, x_Main_loose_11, x_Main_loose_12, x_Main_loose_13, x_Main_loose_16, x_Main_loose_17, mk_I, mk_J, mk_Q, mk_n, mk_sI, mk_sJ, Option.toList_some, Option.toList_none, List.cons_append, List.nil_append, true_and, and_true, ↓reduceIte, leT, leF, ltT, ltF, eqF, lt0F, le0T, le0F, eq0F, natT, nI_clamp, nI_1, if_true, if_false, not_true_eq_false, not_false_eq_true, z_00, z_10, eq_self, true_or, or_true, or_false, false_or, oc_0, oc_1, oc_2, rt_0_0, rt_0_1, rt_0_3, rt_0_4, rt_0_5, rt_0_6, rt_0_7, rt_0_8, rt_0_9, rt_1_0, rt_1_5, rt_1_6, rt_1_7, rt_1_8, rt_2_1, rt_2_2, rt_2_3, rt_2_4, rt_2_5, ite_le, h1, mx_call (x_err_1 (d := 0) I J) _, mx_call (x_errN (d := 0) (k := 1) I J (by omega)) _]
    · refine mx_Cal_in (ls := [some (.ref 94), some (.int _), none, none, none, none]) (d := 299) tab_195 (by rw [mx_rcv, oc_94]; trivial) (Nat.le_of_ble_eq_true rfl) rfl ?_
      simp (disch := omega) only [x_Ref_loose_0, x_Ref_loose_1, x_Ref_loose_2, x_Ref_loose_4, x_Ref_loose_7, x_Ref_loose_10, x_Ref_loose_11, x_Ref_loose_12, x_Ref_loose_15, x_Ref_loose_16, mk_I, mk_J, mk_Q, mk_n, mk_sI, mk_sJ, Option.toList_some, Option.toList_none, List.cons_append, List.nil_append, true_and, and_true, ↓reduceIte, leT, leF, ltT, ltF, eqF, lt0F, le0T, le0F, eq0F, natT, nI_clamp, nI_1, if_true, if_false, not_true_eq_false, not_false_eq_true, z_00, z_10, eq_self, true_or, or_true, or_false, false_or, oc_94, rt_94_0, rt_94_1, rt_94_3, rt_94_8, rt_94_9, rt_94_10, rt_94_11, rt_94_12, rt_94_15, rt_94_16, rt_94_18, rt_94_21, rt_94_22, rt_94_23, rt_94_24, or_95, oa_95, tc_0, kc_0, k0_0, tc_1, kc_1, k0_1, tc_2, kc_2, k0_2, tc_3, kc_3, k0_3, tc_4, kc_4, k0_4, tc_5, kc_5, k0_5, tc_6, kc_6, k0_6, tc_7, kc_7, k0_7, eX95, eX94, mx_call (q_Ref_in (d := 0) _ _ _ _) _, h1, mx_call (m_err_1 (d := 0) (eX I 1) J) _, mx_call (m_errN (d := 0) (k := 1) (eX I 1) J (by omega)) _]
  by_cases h2 : nI 9 < x0
  · refine OpI.err hI 1 (fun J => ?_) (fun J => ?_)
    · refine mx_Cal_in (ls := [some (.ref 0), some (.int _), none, none]) (d := 299) tab_109 (by rw [mx_rcv, oc_0]; trivial) (Nat.le_of_ble_eq_true rfl) rfl ?_
      simp (disch := omega) only [x_Main_loose_0, x_Main_loose_1, x_Main_loose_2, x_Main_loose_5, x_Main_loose_6, x_Main_loose_8, x_Main_loose_11, x_Main_loose_12, x_Main_loose_13, x_Main_loose_16, x_Main_loose_17, mk_I, mk_J, mk_Q, mk_n, mk_sI, mk_sJ, Option.toList_some, Option.toList_none, List.cons_append, List.nil_append, true_and, and_true, ↓reduceIte, leT, leF, ltT, ltF, eqF, lt0F, le0T, le0F, eq0F, natT, nI_clamp, nI_1, if_true, if_false, not_true_eq_false, not_false_eq_true, z_00, z_10, eq_self, true_or, or_true, or_false, false_or, oc_0, oc_1, oc_2, rt_0_0, rt_0_1, rt_0_3, rt_0_4, rt_0_5, rt_0_6, rt_0_7, rt_0_8, rt_0_9, rt_1_0, rt_1_5, rt_1_6, rt_1_7, rt_1_8, rt_2_1, rt_2_2, rt_2_3, rt_2_4, rt_2_5, ite_le, h1, l9, h2, mx_call (x_err_1 (d := 0) I J) _, mx_call (x_errN (d := 0) (k := 1) I J (by omega)) _]
    · refine mx_Cal_in (ls := [some (.ref 94), some (.int _), none, none, none, none]) (d := 299) tab_195 (by rw [mx_rcv, oc_94]; trivial) (Nat.le_of_ble_eq_true rfl) rfl ?_
      simp (disch := omega) only [x_Ref_loose_0, x_Ref_loose_1, x_Ref_loose_2, x_Ref_loose_4, x_Ref_loose_7, x_Ref_loose_10, x_Ref_loose_11, x_Ref_loose_12, x_Ref_loose_15, x_Ref_loose_16, mk_I, mk_J, mk_Q, mk_n, mk_sI, mk_sJ, Option.toList_some, Option.toList_none, List.cons_append, List.nil_append, true_and, and_true, ↓reduceIte, leT, leF, ltT, ltF, eqF, lt0F, le0T, le0F, eq0F, natT, nI_clamp, nI_1, if_true, if_false, not_true_eq_false, not_false_eq_true, z_00, z_10, eq_self, true_or, or_true, or_false, false_or, oc_94, rt_94_0, rt_94_1, rt_94_3, rt_94_8, rt_94_9, rt_94_10, rt_94_11, rt_94_12, rt_94_15, rt_94_16, rt_94_18, rt_94_21, rt_94_22, rt_94_23, rt_94_24, or_95, oa_95, tc_0, kc_0, k0_0, tc_1, kc_1, k0_1, tc_2, kc_2, k0_2, tc_3, kc_3, k0_3, tc_4, kc_4, k0_4, tc_5, kc_5, k0_5, tc_6, kc_6, k0_6, tc_7, kc_7, k0_7, eX95, eX94, mx_call (q_Ref_in (d := 0) _ _ _ _) _, h1, l9, h2, mx_call (m_err_1 (d := 0) (eX I 1) J) _, mx_call (m_errN (d := 0) (k := 1) (eX I 1) J (by omega)) _]
  obtain ⟨N, n1, n9, rfl⟩ := rng (a := 1) (b := 9) (by omega) h1 h2 (by omega)
  have dec : ∀ s, Decidable (lsC n K M T od s) := fun s => Classical.propDecidable _
  obtain ⟨e, he, he1, he2⟩ := first_ex (fun j => ¬ lsC n K M T od (lsI n K M T od (F, b, I 95 3) j)) N
  have he1 : ∀ j, j < e → lsC n K M T od (lsI n K M T od (F, b, I 95 3) j) := fun j hj => Classical.not_not.mp (he1 j hj)
  intro J
  -- the class
  obtain ⟨I1, ⟨hx1, hf1⟩, hP1⟩ := lqx (cl := k_Main_loose) (C := mx_Cal mx_tab 299) (pc := 21) (i0 := 0) (n := e) (fun j (_ : mx_I) => [some (.ref 0), some (.int (nI N)), some (.int (nI j)), some (.int (nI j))]) (fun I' => mk I' J) (fun j I' => lsX I' n K M T od (lsI n K M T od (F, b, I 95 3) j) ∧ ∀ a j, a ≠ 10 → ¬ (a = 1 ∧ (j = 2 ∨ j = 4)) → I' a j = I a j) (s0 := I) (Nat.zero_le e) ⟨⟨hc, cb, b9, z0⟩, fun _ _ _ _ => rfl⟩ (fun j I' _ hj hQ => by
    obtain ⟨hx, hf⟩ := hQ
    obtain ⟨I2, ⟨hx2, hf2⟩, hcal⟩ := q_oneDraw hx J
    rw [if_pos (he1 j hj)] at hcal
    refine ⟨I2, ⟨hx2, fun a j h h' => by rw [hf2 a j h h']; exact hf a j h h'⟩, fun P ih => ?_⟩
    rw [x_Main_loose_21]
    simp (disch := omega) only [x_Main_loose_22, x_Main_loose_23, x_Main_loose_26, x_Main_loose_27, x_Main_loose_30, x_Main_loose_33, x_Main_loose_36, x_Main_loose_39, x_Main_loose_42, x_Main_loose_45, x_Main_loose_46, mk_I, mk_J, mk_Q, mk_n, mk_sI, mk_sJ, Option.toList_some, Option.toList_none, List.cons_append, List.nil_append, true_and, and_true, ↓reduceIte, leT, leF, ltT, ltF, eqF, lt0F, le0T, le0F, eq0F, natT, nI_clamp, nI_1, if_true, if_false, not_true_eq_false, not_false_eq_true, z_00, z_10, eq_self, true_or, or_true, or_false, false_or, oc_0, oc_1, oc_2, rt_0_0, rt_0_1, rt_0_3, rt_0_4, rt_0_5, rt_0_6, rt_0_7, rt_0_8, rt_0_9, rt_1_0, rt_1_5, rt_1_6, rt_1_7, rt_1_8, rt_2_1, rt_2_2, rt_2_3, rt_2_4, rt_2_5, mx_call hcal _]
    exact ih)
  have fin : ∃ I2, (lsX I2 n K M T od (lsI n K M T od (F, b, I 95 3) (if e < N then e + 1 else e)) ∧ ∀ a j, a ≠ 10 → ¬ (a = 1 ∧ (j = 2 ∨ j = 4)) → I2 a j = I a j) ∧ mx_Cal mx_tab 300 109 [.ref 0, .int (nI N)] (mk I J) (some (.int (nI e))) (mk I2 J) := by
    by_cases heN : e < N
    · obtain ⟨I2, ⟨hx2, hf2⟩, hcal⟩ := q_oneDraw hx1 J
      rw [if_neg (he2 heN)] at hcal
      refine ⟨I2, ⟨by rw [if_pos heN]; exact hx2, fun a j h h' => by rw [hf2 a j h h']; exact hf1 a j h h'⟩, ?_⟩
      refine mx_Cal_in (ls := [some (.ref 0), some (.int (nI N)), none, none]) (d := 299) tab_109 (by rw [mx_rcv, oc_0]; trivial) (Nat.le_of_ble_eq_true rfl) rfl ?_
      simp (disch := omega) only [x_Main_loose_0, x_Main_loose_1, x_Main_loose_2, x_Main_loose_5, x_Main_loose_6, x_Main_loose_8, x_Main_loose_11, x_Main_loose_12, x_Main_loose_13, x_Main_loose_16, x_Main_loose_17, x_Main_loose_18, x_Main_loose_19, x_Main_loose_20, mk_I, mk_J, mk_Q, mk_n, mk_sI, mk_sJ, Option.toList_some, Option.toList_none, List.cons_append, List.nil_append, true_and, and_true, ↓reduceIte, leT, leF, ltT, ltF, eqF, lt0F, le0T, le0F, eq0F, natT, nI_clamp, nI_1, if_true, if_false, not_true_eq_false, not_false_eq_true, z_00, z_10, eq_self, true_or, or_true, or_false, false_or, oc_0, oc_1, oc_2, rt_0_0, rt_0_1, rt_0_3, rt_0_4, rt_0_5, rt_0_6, rt_0_7, rt_0_8, rt_0_9, rt_1_0, rt_1_5, rt_1_6, rt_1_7, rt_1_8, rt_2_1, rt_2_2, rt_2_3, rt_2_4, rt_2_5, ite_le, h1, l9, h2]
      refine hP1 _ ?_
      rw [x_Main_loose_21]
      simp (disch := omega) only [x_Main_loose_22, x_Main_loose_23, x_Main_loose_26, x_Main_loose_27, x_Main_loose_30, x_Main_loose_33, x_Main_loose_36, x_Main_loose_39, x_Main_loose_42, x_Main_loose_45, x_Main_loose_46, mk_I, mk_J, mk_Q, mk_n, mk_sI, mk_sJ, Option.toList_some, Option.toList_none, List.cons_append, List.nil_append, true_and, and_true, ↓reduceIte, leT, leF, ltT, ltF, eqF, lt0F, le0T, le0F, eq0F, natT, nI_clamp, nI_1, if_true, if_false, not_true_eq_false, not_false_eq_true, z_00, z_10, eq_self, true_or, or_true, or_false, false_or, oc_0, oc_1, oc_2, rt_0_0, rt_0_1, rt_0_3, rt_0_4, rt_0_5, rt_0_6, rt_0_7, rt_0_8, rt_0_9, rt_1_0, rt_1_5, rt_1_6, rt_1_7, rt_1_8, rt_2_1, rt_2_2, rt_2_3, rt_2_4, rt_2_5, mx_call hcal _]
    · refine ⟨I1, ⟨by rw [if_neg heN]; exact hx1, hf1⟩, ?_⟩
      refine mx_Cal_in (ls := [some (.ref 0), some (.int (nI N)), none, none]) (d := 299) tab_109 (by rw [mx_rcv, oc_0]; trivial) (Nat.le_of_ble_eq_true rfl) rfl ?_
      simp (disch := omega) only [x_Main_loose_0, x_Main_loose_1, x_Main_loose_2, x_Main_loose_5, x_Main_loose_6, x_Main_loose_8, x_Main_loose_11, x_Main_loose_12, x_Main_loose_13, x_Main_loose_16, x_Main_loose_17, x_Main_loose_18, x_Main_loose_19, x_Main_loose_20, mk_I, mk_J, mk_Q, mk_n, mk_sI, mk_sJ, Option.toList_some, Option.toList_none, List.cons_append, List.nil_append, true_and, and_true, ↓reduceIte, leT, leF, ltT, ltF, eqF, lt0F, le0T, le0F, eq0F, natT, nI_clamp, nI_1, if_true, if_false, not_true_eq_false, not_false_eq_true, z_00, z_10, eq_self, true_or, or_true, or_false, false_or, oc_0, oc_1, oc_2, rt_0_0, rt_0_1, rt_0_3, rt_0_4, rt_0_5, rt_0_6, rt_0_7, rt_0_8, rt_0_9, rt_1_0, rt_1_5, rt_1_6, rt_1_7, rt_1_8, rt_2_1, rt_2_2, rt_2_3, rt_2_4, rt_2_5, ite_le, h1, l9, h2]
      refine hP1 _ ?_
      rw [x_Main_loose_21]
      simp (disch := omega) only [x_Main_loose_22, x_Main_loose_23, x_Main_loose_26, x_Main_loose_27, x_Main_loose_30, x_Main_loose_33, x_Main_loose_36, x_Main_loose_39, x_Main_loose_42, x_Main_loose_45, x_Main_loose_46, mk_I, mk_J, mk_Q, mk_n, mk_sI, mk_sJ, Option.toList_some, Option.toList_none, List.cons_append, List.nil_append, true_and, and_true, ↓reduceIte, leT, leF, ltT, ltF, eqF, lt0F, le0T, le0F, eq0F, natT, nI_clamp, nI_1, if_true, if_false, not_true_eq_false, not_false_eq_true, z_00, z_10, eq_self, true_or, or_true, or_false, false_or, oc_0, oc_1, oc_2, rt_0_0, rt_0_1, rt_0_3, rt_0_4, rt_0_5, rt_0_6, rt_0_7, rt_0_8, rt_0_9, rt_1_0, rt_1_5, rt_1_6, rt_1_7, rt_1_8, rt_2_1, rt_2_2, rt_2_3, rt_2_4, rt_2_5]
  obtain ⟨I2, ⟨hx2, hf2⟩, hcal⟩ := fin
  -- the reference
  have hr2 : RI I2 n K M T F pl := hr.congr (fun j _ => hf2 95 j (by omega) (by omega))
  obtain ⟨⟨I3, w⟩, ⟨hx3, hf3⟩, hP3⟩ := lqx (σ := mx_I × (Option Value × Option Value)) (cl := k_Ref_loose) (C := mx_Cal mx_tab 299) (pc := 20) (i0 := 0) (n := e) (fun j s => [some (.ref 94), some (.int (nI N)), some (.int (nI j)), some (.int 1), s.2.1, s.2.2]) (fun s => mk s.1 J) (fun j s => lsR s.1 n K M T pl (lsI n K M T od (F, b, I 95 3) j) ∧ ∀ a j, ¬ (a = 95 ∧ (j = 0 ∨ j = 3 ∨ (8 ≤ j ∧ j < 53))) → s.1 a j = I2 a j) (s0 := (I2, none, none)) (Nat.zero_le e) ⟨⟨hr2, by show I2 95 0 = nI b; rw [hf2 95 0 (by omega) (by omega)]; exact rb, b9, hf2 95 3 (by omega) (by omega)⟩, fun _ _ _ => rfl⟩ (fun j s _ hj hQ => by
    obtain ⟨⟨hr', rb', b9', rz'⟩, hf⟩ := hQ
    obtain ⟨hp, hp1, hp2⟩ := onP_sp (lsI n K M T od (F, b, I 95 3) j).1 od n
    obtain ⟨hpn, hq⟩ := he1 j hj
    have b5 := (ho.2 _ hpn).1
    obtain ⟨l1, l2, l3⟩ := hc.lb b5
    have hV := lsV_le hc b5 (lsI n K M T od (F, b, I 95 3) j).2.2
    have hrem := dN_lt (zN (lsI n K M T od (F, b, I 95 3) j).2.2)
    generalize hs : lsI n K M T od (F, b, I 95 3) j = S at *
    have eV : nI (LN K M T (od (onP S.1 od n))) + (nI (dN (zN S.2.2)) - nI (dN (zN S.2.2)) / nI (MN K M T (od (onP S.1 od n)) - LN K M T (od (onP S.1 od n)) + 1) * nI (MN K M T (od (onP S.1 od n)) - LN K M T (od (onP S.1 od n)) + 1)) = nI (lsV K M T (od (onP S.1 od n)) S.2.2) := by
      rw [pk_rem (by omega) (by omega) (by omega), nI_add]; rfl
    have hdr := q_rDraw (d := 0) s.1 J
    rw [rz'] at hdr
    have hr1 : RI (mx_ups s.1 95 3 (zN S.2.2)) n K M T S.1 pl := hr'.congr (fun j h => by rw [ups_ne _ _ (by omega)])
    have hcb : mx_ups s.1 95 3 (zN S.2.2) 95 0 = nI S.2.1 := by rw [ups_ne _ _ (by omega)]; exact rb'
    have hd := q_isDone (d := 0) (mx_ups s.1 95 3 (zN S.2.2)) J (show od (onP S.1 od n) < 9 by omega) (nI (lsV K M T (od (onP S.1 od n)) S.2.2))
    rw [hcb, nI_add] at hd
    refine ⟨(mx_ups (mx_ups (mx_ups s.1 95 3 (zN S.2.2)) 95 (8 + 5 * od (onP S.1 od n) + 4) (nI 2)) 95 0 (nI (S.2.1 + lsV K M T (od (onP S.1 od n)) S.2.2)), some (.int (nI (od (onP S.1 od n)))), some (.int (nI (lsV K M T (od (onP S.1 od n)) S.2.2)))), ⟨?_, fun a j h => ?_⟩, fun P ih => ?_⟩
    · show lsR (mx_ups (mx_ups (mx_ups s.1 95 3 (zN S.2.2)) 95 (8 + 5 * od (onP S.1 od n) + 4) (nI 2)) 95 0 (nI (S.2.1 + lsV K M T (od (onP S.1 od n)) S.2.2))) n K M T pl (lsS n K M T od (lsI n K M T od (F, b, I 95 3) j))
      rw [hs]
      unfold lsS
      rw [if_pos hpn, if_pos hq]
      refine ⟨(hr1.setF (k := od (onP S.1 od n)) (v := 2) (by omega)).congr (fun j h => by rw [ups_ne _ _ (by omega)]), ups_same _ _ _ _, hq, ?_⟩
      show mx_ups (mx_ups (mx_ups s.1 95 3 (zN S.2.2)) 95 (8 + 5 * od (onP S.1 od n) + 4) (nI 2)) 95 0 (nI (S.2.1 + lsV K M T (od (onP S.1 od n)) S.2.2)) 95 3 = zN S.2.2
      simp (disch := omega) only [ups_ne, ups_same]
    · show mx_ups (mx_ups (mx_ups s.1 95 3 (zN S.2.2)) 95 (8 + 5 * od (onP S.1 od n) + 4) (nI 2)) 95 0 (nI (S.2.1 + lsV K M T (od (onP S.1 od n)) S.2.2)) a j = I2 a j
      simp (disch := omega) only [ups_ne]
      exact hf a j h
    · rw [x_Ref_loose_20]
      simp (disch := omega) only [x_Ref_loose_21, x_Ref_loose_24, x_Ref_loose_25, x_Ref_loose_26, x_Ref_loose_29, x_Ref_loose_30, x_Ref_loose_33, x_Ref_loose_34, x_Ref_loose_37, x_Ref_loose_38, x_Ref_loose_41, x_Ref_loose_43, x_Ref_loose_44, x_Ref_loose_46, x_Ref_loose_49, x_Ref_loose_50, x_Ref_loose_53, x_Ref_loose_54, x_Ref_loose_56, x_Ref_loose_59, x_Ref_loose_60, x_Ref_loose_62, x_Ref_loose_65, x_Ref_loose_66, x_Ref_loose_67, x_Ref_loose_68, x_Ref_loose_69, x_Ref_loose_70, x_Ref_loose_72, x_Ref_loose_73, x_Ref_loose_76, x_Ref_loose_77, x_Ref_loose_78, x_Ref_loose_80, x_Ref_loose_81, x_Ref_loose_84, x_Ref_loose_87, x_Ref_loose_88, x_Ref_loose_91, x_Ref_loose_92, x_Ref_loose_93, x_Ref_loose_94, x_Ref_loose_97, x_Ref_loose_98, x_Ref_loose_100, x_Ref_loose_102, x_Ref_loose_105, x_Ref_loose_108, x_Ref_loose_111, x_Ref_loose_112, mk_I, mk_J, mk_Q, mk_n, mk_sI, mk_sJ, Option.toList_some, Option.toList_none, List.cons_append, List.nil_append, true_and, and_true, ↓reduceIte, leT, leF, ltT, ltF, eqF, lt0F, le0T, le0F, eq0F, natT, nI_clamp, nI_1, if_true, if_false, not_true_eq_false, not_false_eq_true, z_00, z_10, eq_self, true_or, or_true, or_false, false_or, oc_94, rt_94_0, rt_94_1, rt_94_3, rt_94_8, rt_94_9, rt_94_10, rt_94_11, rt_94_12, rt_94_15, rt_94_16, rt_94_18, rt_94_21, rt_94_22, rt_94_23, rt_94_24, or_95, oa_95, tc_0, kc_0, k0_0, tc_1, kc_1, k0_1, tc_2, kc_2, k0_2, tc_3, kc_3, k0_3, tc_4, kc_4, k0_4, tc_5, kc_5, k0_5, tc_6, kc_6, k0_6, tc_7, kc_7, k0_7, mx_call (q_onNow (d := 0) hr' ho J hp hp1 hp2) _, hpn, ne_m1, mx_call (q_rL (d := 0) hr' J b5) _, mx_call hdr _, mx_call (q_rM (d := 0) hr1 J b5) _, mx_call (q_rL (d := 0) hr1 J b5) _, pk_sub, eV, hcb, nI_add, c9999, mx_call hd _]
      exact ih)
  have hf3 : ∀ a j, ¬ (a = 95 ∧ (j = 0 ∨ j = 3 ∨ (8 ≤ j ∧ j < 53))) → I3 a j = I2 a j := hf3
  have fin2 : ∃ I4, (lsR I4 n K M T pl (lsI n K M T od (F, b, I 95 3) (if e < N then e + 1 else e)) ∧ ∀ a j, ¬ (a = 95 ∧ (j = 0 ∨ j = 3 ∨ (8 ≤ j ∧ j < 53))) → I4 a j = I2 a j) ∧ mx_R k_Ref_loose (mx_Cal mx_tab 299) 20 [some (.ref 94), some (.int (nI N)), some (.int (nI e)), some (.int 1), w.1, w.2] [] (mk I3 J) (fun v' h'' => v' = some (.int (nI e)) ∧ h'' = mk I4 J) := by
    by_cases heN : e < N
    · obtain ⟨hr', rb', b9', rz'⟩ := hx3
      have hC := he2 heN
      obtain ⟨hp, hp1, hp2⟩ := onP_sp (lsI n K M T od (F, b, I 95 3) e).1 od n
      rw [if_pos heN]
      show ∃ I4, (lsR I4 n K M T pl (lsS n K M T od (lsI n K M T od (F, b, I 95 3) e)) ∧ _) ∧ _
      generalize hs : lsI n K M T od (F, b, I 95 3) e = S at *
      have hr' : RI I3 n K M T S.1 pl := hr'
      have rb' : I3 95 0 = nI S.2.1 := rb'
      have rz' : I3 95 3 = S.2.2 := rz'
      by_cases hpn : onP S.1 od n < n
      · have hq : ¬ S.2.1 + lsV K M T (od (onP S.1 od n)) S.2.2 ≤ 9999 := fun h => hC ⟨hpn, h⟩
        have b5 := (ho.2 _ hpn).1
        obtain ⟨l1, l2, l3⟩ := hc.lb b5
        have hV := lsV_le hc b5 S.2.2
        have hrem := dN_lt (zN S.2.2)
        have eV : nI (LN K M T (od (onP S.1 od n))) + (nI (dN (zN S.2.2)) - nI (dN (zN S.2.2)) / nI (MN K M T (od (onP S.1 od n)) - LN K M T (od (onP S.1 od n)) + 1) * nI (MN K M T (od (onP S.1 od n)) - LN K M T (od (onP S.1 od n)) + 1)) = nI (lsV K M T (od (onP S.1 od n)) S.2.2) := by
          rw [pk_rem (by omega) (by omega) (by omega), nI_add]; rfl
        have hdr := q_rDraw (d := 0) I3 J
        rw [rz'] at hdr
        have hr1 : RI (mx_ups I3 95 3 (zN S.2.2)) n K M T S.1 pl := hr'.congr (fun j h => by rw [ups_ne _ _ (by omega)])
        have hcb : mx_ups I3 95 3 (zN S.2.2) 95 0 = nI S.2.1 := by rw [ups_ne _ _ (by omega)]; exact rb'
        refine ⟨mx_ups I3 95 3 (zN S.2.2), ⟨?_, fun a j h => by rw [ups_ne _ _ (by omega)]; exact hf3 a j h⟩, ?_⟩
        · unfold lsS
          rw [if_pos hpn, if_neg hq]
          exact ⟨hr1, hcb, b9', ups_same _ _ _ _⟩
        · have back : mx_R k_Ref_loose (mx_Cal mx_tab 299) 20 [some (.ref 94), some (.int (nI N)), some (.int (nI e)), some (.int 0), some (.int (nI (od (onP S.1 od n)))), some (.int (nI (lsV K M T (od (onP S.1 od n)) S.2.2)))] [] (mk (mx_ups I3 95 3 (zN S.2.2)) J) (fun v' h'' => v' = some (.int (nI e)) ∧ h'' = mk (mx_ups I3 95 3 (zN S.2.2)) J) := by
            rw [x_Ref_loose_20]
            simp (disch := omega) only [x_Ref_loose_21, x_Ref_loose_111, x_Ref_loose_112, ↓reduceIte, leT, leF, ltT, ltF, eqF, lt0F, le0T, le0F, eq0F, natT, nI_clamp, nI_1, if_true, if_false, not_true_eq_false, not_false_eq_true, z_00, z_10, eq_self, true_or, or_true, or_false, false_or]
            exact ⟨trivial, trivial⟩
          rw [x_Ref_loose_20]
          simp (disch := omega) only [x_Ref_loose_21, x_Ref_loose_24, x_Ref_loose_25, x_Ref_loose_26, x_Ref_loose_29, x_Ref_loose_30, x_Ref_loose_33, x_Ref_loose_34, x_Ref_loose_37, x_Ref_loose_38, x_Ref_loose_41, x_Ref_loose_43, x_Ref_loose_44, x_Ref_loose_46, x_Ref_loose_49, x_Ref_loose_50, x_Ref_loose_53, x_Ref_loose_54, x_Ref_loose_56, x_Ref_loose_59, x_Ref_loose_60, x_Ref_loose_62, x_Ref_loose_65, x_Ref_loose_66, x_Ref_loose_67, x_Ref_loose_68, x_Ref_loose_69, x_Ref_loose_70, x_Ref_loose_72, x_Ref_loose_73, x_Ref_loose_76, x_Ref_loose_77, x_Ref_loose_78, x_Ref_loose_80, x_Ref_loose_81, x_Ref_loose_84, x_Ref_loose_87, x_Ref_loose_88, x_Ref_loose_91, x_Ref_loose_92, x_Ref_loose_93, x_Ref_loose_94, x_Ref_loose_97, x_Ref_loose_98, x_Ref_loose_100, x_Ref_loose_102, x_Ref_loose_105, x_Ref_loose_108, x_Ref_loose_111, x_Ref_loose_112, mk_I, mk_J, mk_Q, mk_n, mk_sI, mk_sJ, Option.toList_some, Option.toList_none, List.cons_append, List.nil_append, true_and, and_true, ↓reduceIte, leT, leF, ltT, ltF, eqF, lt0F, le0T, le0F, eq0F, natT, nI_clamp, nI_1, if_true, if_false, not_true_eq_false, not_false_eq_true, z_00, z_10, eq_self, true_or, or_true, or_false, false_or, oc_94, rt_94_0, rt_94_1, rt_94_3, rt_94_8, rt_94_9, rt_94_10, rt_94_11, rt_94_12, rt_94_15, rt_94_16, rt_94_18, rt_94_21, rt_94_22, rt_94_23, rt_94_24, or_95, oa_95, tc_0, kc_0, k0_0, tc_1, kc_1, k0_1, tc_2, kc_2, k0_2, tc_3, kc_3, k0_3, tc_4, kc_4, k0_4, tc_5, kc_5, k0_5, tc_6, kc_6, k0_6, tc_7, kc_7, k0_7, mx_call (q_onNow (d := 0) hr' ho J hp hp1 hp2) _, hpn, ne_m1, mx_call (q_rL (d := 0) hr' J b5) _, mx_call hdr _, mx_call (q_rM (d := 0) hr1 J b5) _, mx_call (q_rL (d := 0) hr1 J b5) _, pk_sub, eV, hcb, nI_add, c9999]
          exact back
      · refine ⟨I3, ⟨?_, hf3⟩, ?_⟩
        · unfold lsS
          rw [if_neg hpn]
          exact ⟨hr', rb', b9', rz'⟩
        · rw [x_Ref_loose_20]
          simp (disch := omega) only [x_Ref_loose_21, x_Ref_loose_24, x_Ref_loose_25, x_Ref_loose_26, x_Ref_loose_29, x_Ref_loose_30, x_Ref_loose_33, x_Ref_loose_34, x_Ref_loose_37, x_Ref_loose_38, x_Ref_loose_41, x_Ref_loose_43, x_Ref_loose_44, x_Ref_loose_46, x_Ref_loose_49, x_Ref_loose_50, x_Ref_loose_53, x_Ref_loose_54, x_Ref_loose_56, x_Ref_loose_59, x_Ref_loose_60, x_Ref_loose_62, x_Ref_loose_65, x_Ref_loose_66, x_Ref_loose_67, x_Ref_loose_68, x_Ref_loose_69, x_Ref_loose_70, x_Ref_loose_72, x_Ref_loose_73, x_Ref_loose_76, x_Ref_loose_77, x_Ref_loose_78, x_Ref_loose_80, x_Ref_loose_81, x_Ref_loose_84, x_Ref_loose_87, x_Ref_loose_88, x_Ref_loose_91, x_Ref_loose_92, x_Ref_loose_93, x_Ref_loose_94, x_Ref_loose_97, x_Ref_loose_98, x_Ref_loose_100, x_Ref_loose_102, x_Ref_loose_105, x_Ref_loose_108, x_Ref_loose_111, x_Ref_loose_112, mk_I, mk_J, mk_Q, mk_n, mk_sI, mk_sJ, Option.toList_some, Option.toList_none, List.cons_append, List.nil_append, true_and, and_true, ↓reduceIte, leT, leF, ltT, ltF, eqF, lt0F, le0T, le0F, eq0F, natT, nI_clamp, nI_1, if_true, if_false, not_true_eq_false, not_false_eq_true, z_00, z_10, eq_self, true_or, or_true, or_false, false_or, oc_94, rt_94_0, rt_94_1, rt_94_3, rt_94_8, rt_94_9, rt_94_10, rt_94_11, rt_94_12, rt_94_15, rt_94_16, rt_94_18, rt_94_21, rt_94_22, rt_94_23, rt_94_24, or_95, oa_95, tc_0, kc_0, k0_0, tc_1, kc_1, k0_1, tc_2, kc_2, k0_2, tc_3, kc_3, k0_3, tc_4, kc_4, k0_4, tc_5, kc_5, k0_5, tc_6, kc_6, k0_6, tc_7, kc_7, k0_7, mx_call (q_onNow (d := 0) hr' ho J hp hp1 hp2) _, hpn]
    · refine ⟨I3, ⟨by rw [if_neg heN]; exact hx3, hf3⟩, ?_⟩
      rw [x_Ref_loose_20]
      simp (disch := omega) only [x_Ref_loose_21, x_Ref_loose_24, x_Ref_loose_25, x_Ref_loose_26, x_Ref_loose_111, x_Ref_loose_112, ↓reduceIte, leT, leF, ltT, ltF, eqF, lt0F, le0T, le0F, eq0F, natT, nI_clamp, nI_1, if_true, if_false, not_true_eq_false, not_false_eq_true, z_00, z_10, eq_self, true_or, or_true, or_false, false_or]
      exact ⟨trivial, trivial⟩
  obtain ⟨I4, ⟨hx4, hf4⟩, hP4⟩ := fin2
  obtain ⟨hc2, cb2, b92, cz2⟩ := hx2
  obtain ⟨hr4, rb4, -, rz4⟩ := hx4
  generalize hs : lsI n K M T od (F, b, I 95 3) (if e < N then e + 1 else e) = S at *
  refine ⟨nI e, I2, I4, J, J, hcal, ?_, hI.2.2.2.2.2.upd (fun a j h => hf2 a j (by omega) (by omega)), hI.ic (fun a j h => by rw [hf4 a j (by omega), hf2 a j (by omega) (by omega)]) ⟨n, pl, od, ItemsR.of (hc2.congr (fun a j h => hf4 a j (by omega))) hr4 ho ?_⟩ ⟨?_, a, S.2.1, c, a9, b92, c9, ?_⟩⟩
  · refine mx_Cal_in (ls := [some (.ref 94), some (.int _), none, none, none, none]) (d := 299) tab_195 (by rw [mx_rcv, oc_94]; trivial) (Nat.le_of_ble_eq_true rfl) rfl ?_
    simp (disch := omega) only [x_Ref_loose_0, x_Ref_loose_1, x_Ref_loose_2, x_Ref_loose_4, x_Ref_loose_7, x_Ref_loose_10, x_Ref_loose_11, x_Ref_loose_12, x_Ref_loose_15, x_Ref_loose_16, x_Ref_loose_17, x_Ref_loose_18, x_Ref_loose_19, mk_I, mk_J, mk_Q, mk_n, mk_sI, mk_sJ, Option.toList_some, Option.toList_none, List.cons_append, List.nil_append, true_and, and_true, ↓reduceIte, leT, leF, ltT, ltF, eqF, lt0F, le0T, le0F, eq0F, natT, nI_clamp, nI_1, if_true, if_false, not_true_eq_false, not_false_eq_true, z_00, z_10, eq_self, true_or, or_true, or_false, false_or, oc_94, rt_94_0, rt_94_1, rt_94_3, rt_94_8, rt_94_9, rt_94_10, rt_94_11, rt_94_12, rt_94_15, rt_94_16, rt_94_18, rt_94_21, rt_94_22, rt_94_23, rt_94_24, or_95, oa_95, tc_0, kc_0, k0_0, tc_1, kc_1, k0_1, tc_2, kc_2, k0_2, tc_3, kc_3, k0_3, tc_4, kc_4, k0_4, tc_5, kc_5, k0_5, tc_6, kc_6, k0_6, tc_7, kc_7, k0_7, mx_call (q_Ref_in (d := 0) _ _ _ _) _, h1, l9, h2]
    exact hP3 _ hP4
  · have q : ∀ a, a = 3 ∨ a = 5 ∨ a = 7 ∨ a = 9 ∨ a = 11 → I4 a 1 = I a 1 := fun a h => by rw [hf4 a 1 (by omega), hf2 a 1 (by omega) (by omega)]
    rw [q 3 (by omega), q 5 (by omega), q 7 (by omega), q 9 (by omega), q 11 (by omega)]
    exact hz5
  · simp only [Nat.add_zero]
    rw [hf4 1 4 (by omega), cz2, rz4]
  · simp only [Nat.add_zero]
    rw [hf4 1 1 (by omega), hf4 1 2 (by omega), hf4 1 3 (by omega), hf4 95 1 (by omega), hf4 95 2 (by omega), rb4, cb2, hf2 1 1 (by omega) (by omega), hf2 1 3 (by omega) (by omega), hf2 95 1 (by omega) (by omega), hf2 95 2 (by omega) (by omega)]
    exact ⟨ca, ra, rfl, rfl, cc, rc⟩
