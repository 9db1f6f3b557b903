/-! feed -/
theorem sh64a : ∀ k, k < 8 → (((8 * nI k : Int32).toInt64.toUInt64 &&& Int64.toUInt64 63).toBitVec % 64#64).toNat = 8 * k := by decide +kernel
theorem sh64b : ∀ k, k < 8 → (((8 * nI k : Int32).toInt64 &&& 63).toBitVec.smod 64#64).toNat = 8 * k := by decide +kernel
theorem by1 (b : BitVec 64) : (b &&& 255#64).signExtend 32 = BitVec.ofNat 32 ((b &&& 255#64).toNat) := by
  rw [BitVec.signExtend_eq_setWidth_of_le _ (by decide)]
  apply BitVec.eq_of_toNat_eq
  rw [BitVec.toNat_setWidth, BitVec.toNat_ofNat]
theorem by2 (b : BitVec 64) {s : Nat} (hs : s ≤ 56) : (b.sshiftRight s) &&& 255#64 = (b >>> s) &&& 255#64 := by
  apply BitVec.eq_of_getLsbD_eq
  intro i hi
  rw [BitVec.getLsbD_and, BitVec.getLsbD_and, BitVec.getLsbD_sshiftRight, BitVec.getLsbD_ushiftRight]
  by_cases h : i < 8
  · rw [if_pos (show s + i < 64 by omega)]
    simp [show ¬ 64 ≤ i by omega]
  · have e : (255#64).getLsbD i = false := by
      rw [BitVec.getLsbD_ofNat, show (255 : Nat) = 2 ^ 8 - 1 from rfl, Nat.testBit_two_pow_sub_one]
      simp [h]
    rw [e, Bool.and_false, Bool.and_false]
def byN (w : Int64) (k : Nat) : Nat := ((w.toBitVec >>> (8 * k)) &&& 255#64).toNat
theorem byN_lt (w : Int64) (k : Nat) : byN w k < 256 := by
  unfold byN
  rw [BitVec.toNat_and]
  exact Nat.lt_of_le_of_lt Nat.and_le_right (by decide)
theorem byA (w : Int64) {k : Nat} (hk : k < 8) : ((w.toUInt64 >>> ((8 * nI k : Int32).toInt64.toUInt64 &&& Int64.toUInt64 63)).toInt64 &&& 255).toInt32 = nI (byN w k) := by
  apply Int32.toBitVec_inj.mp
  show ((w.toBitVec >>> (((8 * nI k : Int32).toInt64.toUInt64 &&& Int64.toUInt64 63).toBitVec % 64#64)) &&& 255#64).signExtend 32 = BitVec.ofNat 32 (byN w k)
  rw [BitVec.ushiftRight_eq', sh64a k hk, by1]
  rfl
theorem byB (w : Int64) {k : Nat} (hk : k < 8) : (w >>> ((8 * nI k : Int32).toInt64 &&& 63) &&& 255).toInt32 = nI (byN w k) := by
  apply Int32.toBitVec_inj.mp
  show ((w.toBitVec.sshiftRight ((((8 * nI k : Int32).toInt64 &&& 63).toBitVec.smod 64#64).toNat)) &&& 255#64).signExtend 32 = BitVec.ofNat 32 (byN w k)
  rw [sh64b k hk, by2 _ (by omega), by1]
  rfl
theorem L13 : isLn 13 = true := by decide +kernel
theorem q_apT {d k : Nat} (I : mx_I) (J : mx_J) (hk : k < 60) (hs : I 13 1 = nI k) (v : Int32) : mx_Cal mx_tab (d + 1) 6 [.ref 13, .int v] (mk I J) none (mk (mx_ups (mx_ups I 14 k v) 13 1 (nI (k + 1))) J) := q_Line_append L13 I J hs (show k < ln 13 from hk) v
theorem ln13 : nI (ln 13) = nI 60 := by decide +kernel
theorem op_feed {L : Nat} {xs : Nat → Int32} {I : mx_I} (hI : Inv L xs I) (x0 : Int64) (x1 : Int32) : OpI L xs I 102 152 [.long x0, .int x1] := by
  obtain ⟨⟨n, pl, od, hit⟩, hcl, htp, hw, ht0, ht1⟩ := hI.1
  have ho := hit.2.2.2.1
  have hz5 := hit.2.2.2.2.2
  obtain ⟨K, M, T, F, hc, hr⟩ := hit.sk
  have h9 := hc.1
  have hn := hc.2.1
  have hm := hr.2.1
  obtain ⟨z0, a, b, c, a9, b9, c9, ca, ra, cb, rb, cc, rc⟩ := hcl
  have z0 : I 1 4 = I 95 3 := z0
  have ca : I 1 1 = nI a := ca
  have cb : I 1 2 = nI b := cb
  have cc : I 1 3 = nI c := cc
  have l8 : (8 : Int32) = nI 8 := rfl
  have l60 : (60 : Int32) = nI 60 := rfl
  have c303 : (303 : Int32) = nI 303 := rfl
  obtain ⟨t, t60, t1, t2, t3⟩ := htp
  have t1 : I 13 1 = nI t := t1
  have t3 : ∀ j, j < t → ∃ z, z < 256 ∧ I 14 j = nI z ∧ I 95 (303 + j) = nI z := t3
  by_cases h1 : x1 < 1
  · refine OpI.err hI 1 (fun J => ?_) (fun J => ?_)
    · refine mx_Cal_in (ls := [some (.ref 0), some (.long _), none, some (.int _), none]) (d := 299) tab_102 (by rw [mx_rcv, oc_0]; trivial) (Nat.le_of_ble_eq_true rfl) rfl ?_
      simp (disch := omega) only [x_Main_feed_0, x_Main_feed_1, x_Main_feed_2, x_Main_feed_5, x_Main_feed_6, x_Main_feed_8, x_Main_feed_11, x_Main_feed_12, x_Main_feed_13, x_Main_feed_16, x_Main_feed_17, x_Main_feed_18, x_Main_feed_21, x_Main_feed_24, x_Main_feed_25, x_Main_feed_28, x_Main_feed_31, x_Main_feed_32, x_Main_feed_33, x_Main_feed_36, x_Main_feed_37, mk_I, mk_J, mk_Q, mk_n, mk_sI, mk_sJ, Option.toList_some, Option.toList_none, List.cons_append, List.nil_append, true_and, and_true, ↓reduceIte, leT, leF, ltT, ltF, eqF, lt0F, le0T, le0F, eq0F, natT, nI_clamp, nI_1, if_true, if_false, not_true_eq_false, not_false_eq_true, z_00, z_10, eq_self, true_or, or_true, or_false, false_or, oc_0, oc_1, oc_2, rt_0_0, rt_0_1, rt_0_3, rt_0_4, rt_0_5, rt_0_6, rt_0_7, rt_0_8, rt_0_9, rt_1_0, rt_1_5, rt_1_6, rt_1_7, rt_1_8, rt_2_1, rt_2_2, rt_2_3, rt_2_4, rt_2_5, ite_le, h1, mx_call (x_err_1 (d := 0) I J) _, mx_call (x_errN (d := 0) (k := 1) I J (by omega)) _]
    · refine mx_Cal_in (ls := [some (.ref 94), some (.long _), none, some (.int _), none]) (d := 299) tab_152 (by rw [mx_rcv, oc_94]; trivial) (Nat.le_of_ble_eq_true rfl) rfl ?_
      simp (disch := omega) only [x_Ref_feed_0, x_Ref_feed_1, x_Ref_feed_2, x_Ref_feed_4, x_Ref_feed_7, x_Ref_feed_10, x_Ref_feed_11, x_Ref_feed_12, x_Ref_feed_15, x_Ref_feed_16, x_Ref_feed_17, x_Ref_feed_20, x_Ref_feed_21, x_Ref_feed_22, x_Ref_feed_23, x_Ref_feed_24, x_Ref_feed_26, x_Ref_feed_29, x_Ref_feed_30, x_Ref_feed_31, x_Ref_feed_34, x_Ref_feed_35, mk_I, mk_J, mk_Q, mk_n, mk_sI, mk_sJ, Option.toList_some, Option.toList_none, List.cons_append, List.nil_append, true_and, and_true, ↓reduceIte, leT, leF, ltT, ltF, eqF, lt0F, le0T, le0F, eq0F, natT, nI_clamp, nI_1, if_true, if_false, not_true_eq_false, not_false_eq_true, z_00, z_10, eq_self, true_or, or_true, or_false, false_or, oc_94, rt_94_0, rt_94_1, rt_94_3, rt_94_8, rt_94_9, rt_94_10, rt_94_11, rt_94_12, rt_94_15, rt_94_16, rt_94_18, rt_94_21, rt_94_22, rt_94_23, rt_94_24, or_95, oa_95, tc_0, kc_0, k0_0, tc_1, kc_1, k0_1, tc_2, kc_2, k0_2, tc_3, kc_3, k0_3, tc_4, kc_4, k0_4, tc_5, kc_5, k0_5, tc_6, kc_6, k0_6, tc_7, kc_7, k0_7, eX95, eX94, mx_call (q_Ref_in (d := 0) _ _ _ _) _, h1, mx_call (m_err_1 (d := 0) (eX I 1) J) _, mx_call (m_errN (d := 0) (k := 1) (eX I 1) J (by omega)) _]
  by_cases h2 : nI 8 < x1
  · refine OpI.err hI 1 (fun J => ?_) (fun J => ?_)
    · refine mx_Cal_in (ls := [some (.ref 0), some (.long _), none, some (.int _), none]) (d := 299) tab_102 (by rw [mx_rcv, oc_0]; trivial) (Nat.le_of_ble_eq_true rfl) rfl ?_
      simp (disch := omega) only [x_Main_feed_0, x_Main_feed_1, x_Main_feed_2, x_Main_feed_5, x_Main_feed_6, x_Main_feed_8, x_Main_feed_11, x_Main_feed_12, x_Main_feed_13, x_Main_feed_16, x_Main_feed_17, x_Main_feed_18, x_Main_feed_21, x_Main_feed_24, x_Main_feed_25, x_Main_feed_28, x_Main_feed_31, x_Main_feed_32, x_Main_feed_33, x_Main_feed_36, x_Main_feed_37, mk_I, mk_J, mk_Q, mk_n, mk_sI, mk_sJ, Option.toList_some, Option.toList_none, List.cons_append, List.nil_append, true_and, and_true, ↓reduceIte, leT, leF, ltT, ltF, eqF, lt0F, le0T, le0F, eq0F, natT, nI_clamp, nI_1, if_true, if_false, not_true_eq_false, not_false_eq_true, z_00, z_10, eq_self, true_or, or_true, or_false, false_or, oc_0, oc_1, oc_2, rt_0_0, rt_0_1, rt_0_3, rt_0_4, rt_0_5, rt_0_6, rt_0_7, rt_0_8, rt_0_9, rt_1_0, rt_1_5, rt_1_6, rt_1_7, rt_1_8, rt_2_1, rt_2_2, rt_2_3, rt_2_4, rt_2_5, ite_le, h1, l8, h2, mx_call (x_err_1 (d := 0) I J) _, mx_call (x_errN (d := 0) (k := 1) I J (by omega)) _]
    · refine mx_Cal_in (ls := [some (.ref 94), some (.long _), none, some (.int _), none]) (d := 299) tab_152 (by rw [mx_rcv, oc_94]; trivial) (Nat.le_of_ble_eq_true rfl) rfl ?_
      simp (disch := omega) only [x_Ref_feed_0, x_Ref_feed_1, x_Ref_feed_2, x_Ref_feed_4, x_Ref_feed_7, x_Ref_feed_10, x_Ref_feed_11, x_Ref_feed_12, x_Ref_feed_15, x_Ref_feed_16, x_Ref_feed_17, x_Ref_feed_20, x_Ref_feed_21, x_Ref_feed_22, x_Ref_feed_23, x_Ref_feed_24, x_Ref_feed_26, x_Ref_feed_29, x_Ref_feed_30, x_Ref_feed_31, x_Ref_feed_34, x_Ref_feed_35, mk_I, mk_J, mk_Q, mk_n, mk_sI, mk_sJ, Option.toList_some, Option.toList_none, List.cons_append, List.nil_append, true_and, and_true, ↓reduceIte, leT, leF, ltT, ltF, eqF, lt0F, le0T, le0F, eq0F, natT, nI_clamp, nI_1, if_true, if_false, not_true_eq_false, not_false_eq_true, z_00, z_10, eq_self, true_or, or_true, or_false, false_or, oc_94, rt_94_0, rt_94_1, rt_94_3, rt_94_8, rt_94_9, rt_94_10, rt_94_11, rt_94_12, rt_94_15, rt_94_16, rt_94_18, rt_94_21, rt_94_22, rt_94_23, rt_94_24, or_95, oa_95, tc_0, kc_0, k0_0, tc_1, kc_1, k0_1, tc_2, kc_2, k0_2, tc_3, kc_3, k0_3, tc_4, kc_4, k0_4, tc_5, kc_5, k0_5, tc_6, kc_6, k0_6, tc_7, kc_7, k0_7, eX95, eX94, mx_call (q_Ref_in (d := 0) _ _ _ _) _, h1, l8, h2, mx_call (m_err_1 (d := 0) (eX I 1) J) _, mx_call (m_errN (d := 0) (k := 1) (eX I 1) J (by omega)) _]
  obtain ⟨N, n1, n8, rfl⟩ := rng (a := 1) (b := 8) (by omega) h1 h2 (by omega)
  by_cases hf : 60 < t + N
  · refine OpI.err hI 4 (fun J => ?_) (fun J => ?_)
    · refine mx_Cal_in (ls := [some (.ref 0), some (.long _), none, some (.int _), none]) (d := 299) tab_102 (by rw [mx_rcv, oc_0]; trivial) (Nat.le_of_ble_eq_true rfl) rfl ?_
      simp (disch := omega) only [x_Main_feed_0, x_Main_feed_1, x_Main_feed_2, x_Main_feed_5, x_Main_feed_6, x_Main_feed_8, x_Main_feed_11, x_Main_feed_12, x_Main_feed_13, x_Main_feed_16, x_Main_feed_17, x_Main_feed_18, x_Main_feed_21, x_Main_feed_24, x_Main_feed_25, x_Main_feed_28, x_Main_feed_31, x_Main_feed_32, x_Main_feed_33, x_Main_feed_36, x_Main_feed_37, mk_I, mk_J, mk_Q, mk_n, mk_sI, mk_sJ, Option.toList_some, Option.toList_none, List.cons_append, List.nil_append, true_and, and_true, ↓reduceIte, leT, leF, ltT, ltF, eqF, lt0F, le0T, le0F, eq0F, natT, nI_clamp, nI_1, if_true, if_false, not_true_eq_false, not_false_eq_true, z_00, z_10, eq_self, true_or, or_true, or_false, false_or, oc_0, oc_1, oc_2, rt_0_0, rt_0_1, rt_0_3, rt_0_4, rt_0_5, rt_0_6, rt_0_7, rt_0_8, rt_0_9, rt_1_0, rt_1_5, rt_1_6, rt_1_7, rt_1_8, rt_2_1, rt_2_2, rt_2_3, rt_2_4, rt_2_5, ite_le, h1, l8, h2, oc_13, mx_call (q_Line_hasRoom (d := 0) L13 I J _) _, ln13, t1, pk_sub, mx_call (x_err_4 (d := 0) I J) _, mx_call (x_errN (d := 0) (k := 4) I J (by omega)) _]
    · refine mx_Cal_in (ls := [some (.ref 94), some (.long _), none, some (.int _), none]) (d := 299) tab_152 (by rw [mx_rcv, oc_94]; trivial) (Nat.le_of_ble_eq_true rfl) rfl ?_
      simp (disch := omega) only [x_Ref_feed_0, x_Ref_feed_1, x_Ref_feed_2, x_Ref_feed_4, x_Ref_feed_7, x_Ref_feed_10, x_Ref_feed_11, x_Ref_feed_12, x_Ref_feed_15, x_Ref_feed_16, x_Ref_feed_17, x_Ref_feed_20, x_Ref_feed_21, x_Ref_feed_22, x_Ref_feed_23, x_Ref_feed_24, x_Ref_feed_26, x_Ref_feed_29, x_Ref_feed_30, x_Ref_feed_31, x_Ref_feed_34, x_Ref_feed_35, mk_I, mk_J, mk_Q, mk_n, mk_sI, mk_sJ, Option.toList_some, Option.toList_none, List.cons_append, List.nil_append, true_and, and_true, ↓reduceIte, leT, leF, ltT, ltF, eqF, lt0F, le0T, le0F, eq0F, natT, nI_clamp, nI_1, if_true, if_false, not_true_eq_false, not_false_eq_true, z_00, z_10, eq_self, true_or, or_true, or_false, false_or, oc_94, rt_94_0, rt_94_1, rt_94_3, rt_94_8, rt_94_9, rt_94_10, rt_94_11, rt_94_12, rt_94_15, rt_94_16, rt_94_18, rt_94_21, rt_94_22, rt_94_23, rt_94_24, or_95, oa_95, tc_0, kc_0, k0_0, tc_1, kc_1, k0_1, tc_2, kc_2, k0_2, tc_3, kc_3, k0_3, tc_4, kc_4, k0_4, tc_5, kc_5, k0_5, tc_6, kc_6, k0_6, tc_7, kc_7, k0_7, eX95, eX94, mx_call (q_Ref_in (d := 0) _ _ _ _) _, h1, l8, h2, t2, nI_add, l60, mx_call (m_err_4 (d := 0) (eX I 4) J) _, mx_call (m_errN (d := 0) (k := 4) (eX I 4) J (by omega)) _]
  intro J
  obtain ⟨I1, ⟨p1, p2, p3⟩, hP1⟩ := lqx (cl := k_Main_feed) (C := mx_Cal mx_tab 299) (pc := 40) (i0 := 0) (n := N) (fun j (_ : mx_I) => [some (.ref 0), some (.long x0), none, some (.int (nI N)), some (.int (nI j))]) (fun I' => mk I' J) (fun j I' => I' 13 1 = nI (t + j) ∧ (∀ i, i < j → I' 14 (t + i) = nI (byN x0 i)) ∧ ∀ a i, ¬ (a = 13 ∧ i = 1) → ¬ (a = 14 ∧ t ≤ i) → I' a i = I a i) (s0 := I) (Nat.zero_le N) ⟨t1, fun i hi => absurd hi (by omega), fun _ _ _ _ => rfl⟩ (fun j I' _ hj hQ => by
    obtain ⟨q1, q2, q3⟩ := hQ
    refine ⟨mx_ups (mx_ups I' 14 (t + j) (nI (byN x0 j))) 13 1 (nI (t + j + 1)), ⟨ups_same _ _ _ _, fun i hi => ?_, fun a i u1 u2 => ?_⟩, fun P ih => ?_⟩
    · by_cases hij : i = j
      · subst hij
        simp (disch := omega) only [ups_ne, ups_same]
      · simp (disch := omega) only [ups_ne]
        exact q2 i (by omega)
    · simp (disch := omega) only [ups_ne]
      exact q3 a i u1 u2
    · rw [x_Main_feed_40]
      simp (disch := omega) only [x_Main_feed_42, x_Main_feed_43, x_Main_feed_46, x_Main_feed_47, x_Main_feed_50, x_Main_feed_53, x_Main_feed_54, x_Main_feed_56, x_Main_feed_58, x_Main_feed_59, x_Main_feed_60, x_Main_feed_63, x_Main_feed_64, x_Main_feed_65, x_Main_feed_68, x_Main_feed_71, x_Main_feed_74, x_Main_feed_75, x_Main_feed_78, x_Main_feed_81, x_Main_feed_84, mk_I, mk_J, mk_Q, mk_n, mk_sI, mk_sJ, Option.toList_some, Option.toList_none, List.cons_append, List.nil_append, true_and, and_true, ↓reduceIte, leT, leF, ltT, ltF, eqF, lt0F, le0T, le0F, eq0F, natT, nI_clamp, nI_1, if_true, if_false, not_true_eq_false, not_false_eq_true, z_00, z_10, eq_self, true_or, or_true, or_false, false_or, oc_0, oc_1, oc_2, rt_0_0, rt_0_1, rt_0_3, rt_0_4, rt_0_5, rt_0_6, rt_0_7, rt_0_8, rt_0_9, rt_1_0, rt_1_5, rt_1_6, rt_1_7, rt_1_8, rt_2_1, rt_2_2, rt_2_3, rt_2_4, rt_2_5, oc_13, byA, mx_call (q_apT (d := 0) I' J (show t + j < 60 by omega) q1 _) _]
      exact ih)
  obtain ⟨I2, ⟨r1, r2, r3⟩, hP2⟩ := lqx (cl := k_Ref_feed) (C := mx_Cal mx_tab 299) (pc := 38) (i0 := 0) (n := N) (fun j (_ : mx_I) => [some (.ref 94), some (.long x0), none, some (.int (nI N)), some (.int (nI j))]) (fun I' => mk I' J) (fun j I' => I' 95 4 = nI (t + j) ∧ (∀ i, i < j → I' 95 (303 + (t + i)) = nI (byN x0 i)) ∧ ∀ a i, ¬ (a = 95 ∧ (i = 4 ∨ (303 + t ≤ i ∧ i < 363))) → I' a i = I1 a i) (s0 := I1) (Nat.zero_le N) ⟨by rw [p3 95 4 (by omega) (by omega)]; exact t2, fun i hi => absurd hi (by omega), fun _ _ _ => rfl⟩ (fun j I' _ hj hQ => by
    obtain ⟨q1, q2, q3⟩ := hQ
    refine ⟨mx_ups (mx_ups I' 95 (303 + (t + j)) (nI (byN x0 j))) 95 4 (nI (t + j + 1)), ⟨ups_same _ _ _ _, fun i hi => ?_, fun a i u1 => ?_⟩, fun P ih => ?_⟩
    · by_cases hij : i = j
      · subst hij
        simp (disch := omega) only [ups_ne, ups_same]
      · simp (disch := omega) only [ups_ne]
        exact q2 i (by omega)
    · simp (disch := omega) only [ups_ne]
      exact q3 a i u1
    · rw [x_Ref_feed_38]
      simp (disch := omega) only [x_Ref_feed_40, x_Ref_feed_41, x_Ref_feed_44, x_Ref_feed_45, x_Ref_feed_48, x_Ref_feed_51, x_Ref_feed_52, x_Ref_feed_55, x_Ref_feed_56, x_Ref_feed_57, x_Ref_feed_58, x_Ref_feed_59, x_Ref_feed_61, x_Ref_feed_63, x_Ref_feed_64, x_Ref_feed_65, x_Ref_feed_68, x_Ref_feed_69, x_Ref_feed_70, x_Ref_feed_71, x_Ref_feed_72, x_Ref_feed_75, x_Ref_feed_76, x_Ref_feed_77, x_Ref_feed_78, x_Ref_feed_79, x_Ref_feed_80, x_Ref_feed_81, x_Ref_feed_84, x_Ref_feed_87, x_Ref_feed_88, x_Ref_feed_91, x_Ref_feed_92, x_Ref_feed_93, mk_I, mk_J, mk_Q, mk_n, mk_sI, mk_sJ, Option.toList_some, Option.toList_none, List.cons_append, List.nil_append, true_and, and_true, ↓reduceIte, leT, leF, ltT, ltF, eqF, lt0F, le0T, le0F, eq0F, natT, nI_clamp, nI_1, if_true, if_false, not_true_eq_false, not_false_eq_true, z_00, z_10, eq_self, true_or, or_true, or_false, false_or, oc_94, rt_94_0, rt_94_1, rt_94_3, rt_94_8, rt_94_9, rt_94_10, rt_94_11, rt_94_12, rt_94_15, rt_94_16, rt_94_18, rt_94_21, rt_94_22, rt_94_23, rt_94_24, or_95, oa_95, tc_0, kc_0, k0_0, tc_1, kc_1, k0_1, tc_2, kc_2, k0_2, tc_3, kc_3, k0_3, tc_4, kc_4, k0_4, tc_5, kc_5, k0_5, tc_6, kc_6, k0_6, tc_7, kc_7, k0_7, byB, q1, c303, nI_add, ups_ne]
      exact ih)
  refine ⟨nI (t + N), I1, I2, J, J, ?_, ?_, hI.2.2.2.2.2.upd (fun a j h => p3 a j (by omega) (by omega)), hI.tap (fun a j h => by rw [r3 a j (by omega), p3 a j (by omega) (by omega)]) ⟨t + N, by omega, ?_, r1, fun j hj => ?_⟩⟩
  · refine mx_Cal_in (ls := [some (.ref 0), some (.long _), none, some (.int _), none]) (d := 299) tab_102 (by rw [mx_rcv, oc_0]; trivial) (Nat.le_of_ble_eq_true rfl) rfl ?_
    simp (disch := omega) only [x_Main_feed_0, x_Main_feed_1, x_Main_feed_2, x_Main_feed_5, x_Main_feed_6, x_Main_feed_8, x_Main_feed_11, x_Main_feed_12, x_Main_feed_13, x_Main_feed_16, x_Main_feed_17, x_Main_feed_18, x_Main_feed_21, x_Main_feed_24, x_Main_feed_25, x_Main_feed_28, x_Main_feed_31, x_Main_feed_32, x_Main_feed_33, x_Main_feed_36, x_Main_feed_37, x_Main_feed_38, mk_I, mk_J, mk_Q, mk_n, mk_sI, mk_sJ, Option.toList_some, Option.toList_none, List.cons_append, List.nil_append, true_and, and_true, ↓reduceIte, leT, leF, ltT, ltF, eqF, lt0F, le0T, le0F, eq0F, natT, nI_clamp, nI_1, if_true, if_false, not_true_eq_false, not_false_eq_true, z_00, z_10, eq_self, true_or, or_true, or_false, false_or, oc_0, oc_1, oc_2, rt_0_0, rt_0_1, rt_0_3, rt_0_4, rt_0_5, rt_0_6, rt_0_7, rt_0_8, rt_0_9, rt_1_0, rt_1_5, rt_1_6, rt_1_7, rt_1_8, rt_2_1, rt_2_2, rt_2_3, rt_2_4, rt_2_5, ite_le, h1, l8, h2, oc_13, mx_call (q_Line_hasRoom (d := 0) L13 I J _) _, ln13, t1, pk_sub]
    refine hP1 _ ?_
    rw [x_Main_feed_40]
    simp (disch := omega) only [x_Main_feed_42, x_Main_feed_43, x_Main_feed_46, x_Main_feed_47, x_Main_feed_50, x_Main_feed_53, x_Main_feed_54, x_Main_feed_56, x_Main_feed_58, x_Main_feed_59, x_Main_feed_60, x_Main_feed_63, x_Main_feed_64, x_Main_feed_65, x_Main_feed_68, x_Main_feed_71, x_Main_feed_74, x_Main_feed_75, x_Main_feed_78, x_Main_feed_81, x_Main_feed_84, mk_I, mk_J, mk_Q, mk_n, mk_sI, mk_sJ, Option.toList_some, Option.toList_none, List.cons_append, List.nil_append, true_and, and_true, ↓reduceIte, leT, leF, ltT, ltF, eqF, lt0F, le0T, le0F, eq0F, natT, nI_clamp, nI_1, if_true, if_false, not_true_eq_false, not_false_eq_true, z_00, z_10, eq_self, true_or, or_true, or_false, false_or, oc_0, oc_1, oc_2, rt_0_0, rt_0_1, rt_0_3, rt_0_4, rt_0_5, rt_0_6, rt_0_7, rt_0_8, rt_0_9, rt_1_0, rt_1_5, rt_1_6, rt_1_7, rt_1_8, rt_2_1, rt_2_2, rt_2_3, rt_2_4, rt_2_5, oc_13, p1]
  · refine mx_Cal_in (ls := [some (.ref 94), some (.long _), none, some (.int _), none]) (d := 299) tab_152 (by rw [mx_rcv, oc_94]; trivial) (Nat.le_of_ble_eq_true rfl) rfl ?_
    simp (disch := omega) only [x_Ref_feed_0, x_Ref_feed_1, x_Ref_feed_2, x_Ref_feed_4, x_Ref_feed_7, x_Ref_feed_10, x_Ref_feed_11, x_Ref_feed_12, x_Ref_feed_15, x_Ref_feed_16, x_Ref_feed_17, x_Ref_feed_20, x_Ref_feed_21, x_Ref_feed_22, x_Ref_feed_23, x_Ref_feed_24, x_Ref_feed_26, x_Ref_feed_29, x_Ref_feed_30, x_Ref_feed_31, x_Ref_feed_34, x_Ref_feed_35, x_Ref_feed_36, mk_I, mk_J, mk_Q, mk_n, mk_sI, mk_sJ, Option.toList_some, Option.toList_none, List.cons_append, List.nil_append, true_and, and_true, ↓reduceIte, leT, leF, ltT, ltF, eqF, lt0F, le0T, le0F, eq0F, natT, nI_clamp, nI_1, if_true, if_false, not_true_eq_false, not_false_eq_true, z_00, z_10, eq_self, true_or, or_true, or_false, false_or, oc_94, rt_94_0, rt_94_1, rt_94_3, rt_94_8, rt_94_9, rt_94_10, rt_94_11, rt_94_12, rt_94_15, rt_94_16, rt_94_18, rt_94_21, rt_94_22, rt_94_23, rt_94_24, or_95, oa_95, tc_0, kc_0, k0_0, tc_1, kc_1, k0_1, tc_2, kc_2, k0_2, tc_3, kc_3, k0_3, tc_4, kc_4, k0_4, tc_5, kc_5, k0_5, tc_6, kc_6, k0_6, tc_7, kc_7, k0_7, mx_call (q_Ref_in (d := 0) _ _ _ _) _, h1, l8, h2, p3, t2, nI_add, l60]
    refine hP2 _ ?_
    rw [x_Ref_feed_38]
    simp (disch := omega) only [x_Ref_feed_40, x_Ref_feed_41, x_Ref_feed_44, x_Ref_feed_45, x_Ref_feed_48, x_Ref_feed_51, x_Ref_feed_52, x_Ref_feed_55, x_Ref_feed_56, x_Ref_feed_57, x_Ref_feed_58, x_Ref_feed_59, x_Ref_feed_61, x_Ref_feed_63, x_Ref_feed_64, x_Ref_feed_65, x_Ref_feed_68, x_Ref_feed_69, x_Ref_feed_70, x_Ref_feed_71, x_Ref_feed_72, x_Ref_feed_75, x_Ref_feed_76, x_Ref_feed_77, x_Ref_feed_78, x_Ref_feed_79, x_Ref_feed_80, x_Ref_feed_81, x_Ref_feed_84, x_Ref_feed_87, x_Ref_feed_88, x_Ref_feed_91, x_Ref_feed_92, x_Ref_feed_93, mk_I, mk_J, mk_Q, mk_n, mk_sI, mk_sJ, Option.toList_some, Option.toList_none, List.cons_append, List.nil_append, true_and, and_true, ↓reduceIte, leT, leF, ltT, ltF, eqF, lt0F, le0T, le0F, eq0F, natT, nI_clamp, nI_1, if_true, if_false, not_true_eq_false, not_false_eq_true, z_00, z_10, eq_self, true_or, or_true, or_false, false_or, oc_94, rt_94_0, rt_94_1, rt_94_3, rt_94_8, rt_94_9, rt_94_10, rt_94_11, rt_94_12, rt_94_15, rt_94_16, rt_94_18, rt_94_21, rt_94_22, rt_94_23, rt_94_24, or_95, oa_95, tc_0, kc_0, k0_0, tc_1, kc_1, k0_1, tc_2, kc_2, k0_2, tc_3, kc_3, k0_3, tc_4, kc_4, k0_4, tc_5, kc_5, k0_5, tc_6, kc_6, k0_6, tc_7, kc_7, k0_7, r1]
  · show I2 13 1 = nI (t + N)
    rw [r3 13 1 (by omega)]; exact p1
  · by_cases hjt : j < t
    · obtain ⟨z, z1, z2, z3⟩ := t3 j hjt
      refine ⟨z, z1, ?_, ?_⟩
      · show I2 14 j = nI z
        rw [r3 14 j (by omega), p3 14 j (by omega) (by omega)]; exact z2
      · rw [r3 95 _ (by omega), p3 95 _ (by omega) (by omega)]; exact z3
    · refine ⟨byN x0 (j - t), byN_lt _ _, ?_, ?_⟩
      · show I2 14 j = _
        have e := p2 (j - t) (by omega)
        rw [show t + (j - t) = j by omega] at e
        rw [r3 14 j (by omega)]; exact e
      · have e := r2 (j - t) (by omega)
        rw [show t + (j - t) = j by omega] at e
        exact e
