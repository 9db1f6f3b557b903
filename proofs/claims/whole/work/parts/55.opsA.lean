/-! calls, one by one -/
theorem OpI.two {L : Nat} {xs : Nat → Int32} {I : mx_I} {gx gm : Nat} {args : List Value} (hI : Inv L xs I) (v : Int32) (I1 I2 : mx_I) (hs : ∀ a j, 1000 ≤ a → I1 a j = I a j) (hi : Inv L xs I2) (h1 : ∀ J, mx_Cal mx_tab 300 gx (.ref 0 :: args) (mk I J) (some (.int v)) (mk I1 J)) (h2 : ∀ J, mx_Cal mx_tab 300 gm (.ref 94 :: args) (mk I1 J) (some (.int v)) (mk I2 J)) : OpI L xs I gx gm args :=
  fun J => ⟨v, I1, I2, J, J, h1 J, h2 J, hI.2.2.2.2.2.upd hs, hi⟩
theorem OpI.pure {L : Nat} {xs : Nat → Int32} {I : mx_I} {gx gm : Nat} {args : List Value} (hI : Inv L xs I) (v : Int32) (h1 : ∀ J, mx_Cal mx_tab 300 gx (.ref 0 :: args) (mk I J) (some (.int v)) (mk I J)) (h2 : ∀ J, mx_Cal mx_tab 300 gm (.ref 94 :: args) (mk I J) (some (.int v)) (mk I J)) : OpI L xs I gx gm args :=
  OpI.two hI v I I (fun _ _ _ => rfl) hI h1 h2
theorem OpI.err {L : Nat} {xs : Nat → Int32} {I : mx_I} {gx gm : Nat} {args : List Value} (hI : Inv L xs I) (k : Nat) (h1 : ∀ J, mx_Cal mx_tab 300 gx (.ref 0 :: args) (mk I J) (some (.int (-1000000000 - nI k))) (mk (eX I k) J)) (h2 : ∀ J, mx_Cal mx_tab 300 gm (.ref 94 :: args) (mk (eX I k) J) (some (.int (-1000000000 - nI k))) (mk (eM (eX I k) k) J)) : OpI L xs I gx gm args :=
  OpI.two hI _ (eX I k) (eM (eX I k) k) (fun a j h => eX_a I k (by omega) j) (hI.err k) h1 h2
theorem RI.eX {n : Nat} {I : mx_I} {K M T F pl : Nat → Nat} (h : RI I n K M T F pl) (k : Nat) : RI (eX I k) n K M T F pl := h.congr (fun j _ => eX_a I k (by decide) j)
theorem eX95 (I : mx_I) (k j : Nat) : eX I k 95 j = I 95 j := eX_a I k (by decide) j
theorem eX94 (I : mx_I) (k j : Nat) : eX I k 94 j = I 94 j := eX_a I k (by decide) j
theorem eX10 (I : mx_I) (k : Nat) {a : Nat} (j : Nat) (h : 105 ≤ a) : eX I k a j = I a j := eX_a I k (by omega) j
def hasV (n : Nat) (x : Int32) : Int32 := if x < 0 then 0 else if nI n ≤ x then 0 else 1
def inV (v lo hi : Int32) : Int32 := if v < lo then 0 else if hi < v then 0 else 1
theorem hasV_k {n k : Nat} (h9 : n ≤ 9) (h : k < n) : hasV n (nI k) = 1 := by
  unfold hasV
  simp (disch := omega) only [lt0F, leF, if_false]
theorem hasV_cases {n : Nat} (h9 : n ≤ 9) (x : Int32) : hasV n x = 0 ∨ ∃ k, k < n ∧ x = nI k := by
  unfold hasV
  by_cases h1 : x < 0
  · exact Or.inl (if_pos h1)
  · by_cases h2 : nI n ≤ x
    · rw [if_neg h1, if_pos h2]; exact Or.inl rfl
    · exact Or.inr (ex_nI (by omega) h1 h2)
theorem inV_cases {b : Nat} (hb : b < 2 ^ 31) (x : Int32) : inV x 0 (nI b) = 0 ∨ (∃ k, k ≤ b ∧ x = nI k ∧ inV x 0 (nI b) = 1) := by
  unfold inV
  by_cases h1 : x < 0
  · exact Or.inl (if_pos h1)
  · by_cases h2 : nI b < x
    · rw [if_neg h1, if_pos h2]; exact Or.inl rfl
    · obtain ⟨k, h3, h4⟩ := rng0 hb h1 h2
      rw [if_neg h1, if_neg h2]
      exact Or.inr ⟨k, h3, h4, rfl⟩
theorem d10 {k : Nat} (h : k < 2 ^ 31) : nI k / 10 = nI (k / 10) := pk_div (d := 10) h (by omega) (by omega)
theorem m10 {k : Nat} (h : k < 2 ^ 31) : nI k - nI (k / 10) * 10 = nI (k % 10) := by
  rw [← d10 h]; exact pk_rem (d := 10) h (by omega) (by omega)
theorem z_100 : ((10 : Int32) = 0) = False := by decide
theorem q_has {d n : Nat} {I : mx_I} (hn : I 2 0 = nI n) (J : mx_J) (x : Int32) : mx_Cal mx_tab (d + 1) 14 [.ref 2, .int x] (mk I J) (some (.int (hasV n x))) (mk I J) := by
  have h := q_Items_has (d := d) I J x
  rw [hn] at h; exact h
theorem q_rHas {d n : Nat} {I : mx_I} {K M T F pl : Nat → Nat} (hr : RI I n K M T F pl) (J : mx_J) (x : Int32) : mx_Cal mx_tab (d + 2) 148 [.ref 94, .int x] (mk I J) (some (.int (hasV n x))) (mk I J) := q_isItem hr J x
theorem q_rIn {d : Nat} (h : mx_H) (v lo hi : Int32) : mx_Cal mx_tab (d + 1) 145 [.int v, .int lo, .int hi] h (some (.int (inV v lo hi))) h := q_Ref_in h v lo hi
theorem q_isKm {d : Nat} (h : mx_H) (x : Int32) : mx_Cal mx_tab (d + 1) 139 [.int x] h (some (.int (inV x 0 (nI 69)))) h := by
  refine mx_Cal_in (ls := [some (.int x)]) tab_139 trivial (Nat.le_of_ble_eq_true rfl) rfl ?_
  simp only [x_Main_isKm_0, x_Main_isKm_1, x_Main_isKm_4, x_Main_isKm_5, x_Main_isKm_7, x_Main_isKm_10, x_Main_isKm_11, x_Main_isKm_14, x_Main_isKm_15, inV, show (69 : Int32) = nI 69 from rfl]
  by_cases h1 : x < 0
  · simp [h1]
  · by_cases h2 : nI 69 < x <;> simp [h1, h2]
theorem q_isKind {d : Nat} (h : mx_H) (x : Int32) : mx_Cal mx_tab (d + 2) 179 [.int x] h (some (.int (inV x 0 (nI 69)))) h := by
  refine mx_Cal_in (ls := [some (.int x)]) tab_179 trivial (Nat.le_of_ble_eq_true rfl) rfl ?_
  simp (disch := omega) only [x_Ref_isKind_0, x_Ref_isKind_1, x_Ref_isKind_2, x_Ref_isKind_4, x_Ref_isKind_7, mk_I, mk_J, mk_Q, mk_n, mk_sI, mk_sJ, Option.toList_some, Option.toList_none, List.cons_append, List.nil_append, true_and, and_true, mx_call (q_rIn (d := 0) _ _ _ _) _, show (69 : Int32) = nI 69 from rfl]
  unfold inV
  by_cases h1 : x < 0
  · simp [h1]
  · by_cases h2 : nI 69 < x <;> simp [h1, h2]
theorem q_isTruth {d : Nat} (h : mx_H) (x : Int32) : mx_Cal mx_tab (d + 1) 140 [.int x] h (some (.int (inV x 0 (nI 999)))) h := by
  refine mx_Cal_in (ls := [some (.int x)]) tab_140 trivial (Nat.le_of_ble_eq_true rfl) rfl ?_
  simp only [x_Main_isTruth_0, x_Main_isTruth_1, x_Main_isTruth_4, x_Main_isTruth_5, x_Main_isTruth_8, x_Main_isTruth_11, x_Main_isTruth_12, x_Main_isTruth_15, x_Main_isTruth_16, inV, show (999 : Int32) = nI 999 from rfl]
  by_cases h1 : x < 0
  · simp [h1]
  · by_cases h2 : nI 999 < x <;> simp [h1, h2]
theorem sN_left {n : Nat} {F pl od : Nat → Nat} (ho : OrdR n pl od) (g : Nat → Nat) : sN (fun q => if F (od q) = 0 then g (od q) else 0) n = sN (fun i => if (lfN F n).testBit i = true then g i else 0) n := by
  rw [sN_perm ho (fun _ i => if F i = 0 then g i else 0)]
  exact sN_congr fun i hi => by
    rw [lfN_bit]
    simp [hi]
theorem q_st3 {d k : Nat} (I : mx_I) (J : mx_J) (hk : k < 9) (v : Int32) : mx_Cal mx_tab (d + 1) 5 [.ref 3, .int (nI k), .int v] (mk I J) none (mk (mx_ups I 4 k v) J) := q_Line_set L3 I J (show k < ln 3 from hk) v
theorem q_st5 {d k : Nat} (I : mx_I) (J : mx_J) (hk : k < 9) (v : Int32) : mx_Cal mx_tab (d + 1) 5 [.ref 5, .int (nI k), .int v] (mk I J) none (mk (mx_ups I 6 k v) J) := q_Line_set L5 I J (show k < ln 5 from hk) v
theorem q_st7 {d k : Nat} (I : mx_I) (J : mx_J) (hk : k < 9) (v : Int32) : mx_Cal mx_tab (d + 1) 5 [.ref 7, .int (nI k), .int v] (mk I J) none (mk (mx_ups I 8 k v) J) := q_Line_set L7 I J (show k < ln 7 from hk) v
theorem q_st9 {d k : Nat} (I : mx_I) (J : mx_J) (hk : k < 9) (v : Int32) : mx_Cal mx_tab (d + 1) 5 [.ref 9, .int (nI k), .int v] (mk I J) none (mk (mx_ups I 10 k v) J) := q_Line_set L9 I J (show k < ln 9 from hk) v
theorem q_st11 {d k : Nat} (I : mx_I) (J : mx_J) (hk : k < 9) (v : Int32) : mx_Cal mx_tab (d + 1) 5 [.ref 11, .int (nI k), .int v] (mk I J) none (mk (mx_ups I 12 k v) J) := q_Line_set L11 I J (show k < ln 11 from hk) v
theorem q_name {d k v : Nat} (I : mx_I) (J : mx_J) (hk : k < 9) (hv : v < 100) : mx_Cal mx_tab (d + 2) 18 [.ref 2, .int (nI k), .int (nI v)] (mk I J) none (mk (mx_ups (mx_ups I 4 k (nI (v / 10))) 6 k (nI (v % 10))) J) := by
  refine mx_Cal_in (ls := [some (.ref 2), some (.int (nI k)), some (.int (nI v))]) tab_18 (by rw [mx_rcv, oc_2]; trivial) (Nat.le_of_ble_eq_true rfl) rfl ?_
  simp (disch := omega) only [x_Items_name_0, x_Items_name_1, x_Items_name_4, x_Items_name_5, x_Items_name_6, x_Items_name_8, x_Items_name_9, x_Items_name_12, x_Items_name_13, x_Items_name_16, x_Items_name_17, x_Items_name_18, x_Items_name_20, x_Items_name_21, x_Items_name_24, mk_I, mk_J, mk_Q, mk_n, mk_sI, mk_sJ, Option.toList_some, Option.toList_none, List.cons_append, List.nil_append, true_and, and_true, leT, leF, ltT, ltF, eqF, lt0F, le0T, le0F, eq0F, natT, nI_clamp, nI_1, if_true, if_false, not_true_eq_false, not_false_eq_true, z_00, z_10, eq_self, true_or, or_true, or_false, false_or, oc_0, oc_1, oc_2, rt_0_0, rt_0_1, rt_0_3, rt_0_4, rt_0_5, rt_0_6, rt_0_7, rt_0_8, rt_0_9, rt_1_0, rt_1_5, rt_1_6, rt_1_7, rt_1_8, rt_2_1, rt_2_2, rt_2_3, rt_2_4, rt_2_5, d10, m10, z_100, mx_call (q_st3 (d := 0) _ _ hk _) _, mx_call (q_st5 (d := 0) _ _ hk _) _]
section SETS
variable {n : Nat} {I : mx_I} {K M T F pl od : Nat → Nat}
def pt (f : Nat → Nat) (k v : Nat) : Nat → Nat := fun i => if i = k then v else f i
theorem pt_eq (f : Nat → Nat) (k v : Nat) : pt f k v k = v := if_pos rfl
theorem pt_ne (f : Nat → Nat) {k v i : Nat} (h : i ≠ k) : pt f k v i = f i := if_neg h
theorem CI.setF (h : CI I n K M T F od) {k v : Nat} (hv : v < 3) : CI (mx_ups I 10 k (nI v)) n K M T (pt F k v) od := by
  refine ⟨h.1, by rw [ups_ne _ _ (by omega)]; exact h.2.1, fun i hi => ?_⟩
  obtain ⟨b1, b2, b3, b4, b5, d1, d2, d3, d4, d5⟩ := h.2.2 i hi
  by_cases q : i = k
  · subst q
    rw [pt_eq]
    simp (disch := omega) only [ups_ne, ups_same]
    exact ⟨b1, b2, b3, hv, b5, d1, d2, d3, trivial, d5⟩
  · rw [pt_ne F q]
    simp (disch := omega) only [ups_ne]
    exact ⟨b1, b2, b3, b4, b5, d1, d2, d3, d4, d5⟩
theorem RI.setF (h : RI I n K M T F pl) {k v : Nat} (hv : v < 3) : RI (mx_ups I 95 (8 + 5 * k + 4) (nI v)) n K M T (pt F k v) pl := by
  have h9 := h.1
  refine ⟨h.1, by rw [ups_ne _ _ (by omega)]; exact h.2.1, fun i hi => ?_⟩
  obtain ⟨b1, b2, b3, b4, b5, d1, d2, d3, d4, d5⟩ := h.2.2 i hi
  by_cases q : i = k
  · subst q
    rw [pt_eq]
    simp (disch := omega) only [ups_ne, ups_same]
    exact ⟨b1, b2, b3, hv, b5, d1, d2, d3, d4, trivial⟩
  · rw [pt_ne F q]
    simp (disch := omega) only [ups_ne]
    exact ⟨b1, b2, b3, b4, b5, d1, d2, d3, d4, d5⟩
theorem CI.setT (h : CI I n K M T F od) {k v : Nat} (hv : v < 1000) : CI (mx_ups I 8 k (nI v)) n K M (pt T k v) F od := by
  refine ⟨h.1, by rw [ups_ne _ _ (by omega)]; exact h.2.1, fun i hi => ?_⟩
  obtain ⟨b1, b2, b3, b4, b5, d1, d2, d3, d4, d5⟩ := h.2.2 i hi
  by_cases q : i = k
  · subst q
    rw [pt_eq]
    simp (disch := omega) only [ups_ne, ups_same]
    exact ⟨b1, b2, hv, b4, b5, d1, d2, trivial, d4, d5⟩
  · rw [pt_ne T q]
    simp (disch := omega) only [ups_ne]
    exact ⟨b1, b2, b3, b4, b5, d1, d2, d3, d4, d5⟩
theorem RI.setT (h : RI I n K M T F pl) {k v : Nat} (hv : v < 1000) : RI (mx_ups I 95 (8 + 5 * k + 2) (nI v)) n K M (pt T k v) F pl := by
  have h9 := h.1
  refine ⟨h.1, by rw [ups_ne _ _ (by omega)]; exact h.2.1, fun i hi => ?_⟩
  obtain ⟨b1, b2, b3, b4, b5, d1, d2, d3, d4, d5⟩ := h.2.2 i hi
  by_cases q : i = k
  · subst q
    rw [pt_eq]
    simp (disch := omega) only [ups_ne, ups_same]
    exact ⟨b1, b2, hv, b4, b5, d1, d2, trivial, d4, d5⟩
  · rw [pt_ne T q]
    simp (disch := omega) only [ups_ne]
    exact ⟨b1, b2, b3, b4, b5, d1, d2, d3, d4, d5⟩
theorem CI.setKM (h : CI I n K M T F od) {k v w : Nat} (hv : v < 7) (hw : w < 10) : CI (mx_ups (mx_ups I 4 k (nI v)) 6 k (nI w)) n (pt K k v) (pt M k w) T F od := by
  refine ⟨h.1, by rw [ups_ne _ _ (by omega), ups_ne _ _ (by omega)]; exact h.2.1, fun i hi => ?_⟩
  obtain ⟨b1, b2, b3, b4, b5, d1, d2, d3, d4, d5⟩ := h.2.2 i hi
  by_cases q : i = k
  · subst q
    rw [pt_eq, pt_eq]
    simp (disch := omega) only [ups_ne, ups_same]
    exact ⟨hv, hw, b3, b4, b5, trivial, trivial, d3, d4, d5⟩
  · rw [pt_ne K q, pt_ne M q]
    simp (disch := omega) only [ups_ne]
    exact ⟨b1, b2, b3, b4, b5, d1, d2, d3, d4, d5⟩
theorem RI.setKM (h : RI I n K M T F pl) {k v w : Nat} (hv : v < 7) (hw : w < 10) : RI (mx_ups (mx_ups I 95 (8 + 5 * k + 1) (nI w)) 95 (8 + 5 * k) (nI v)) n (pt K k v) (pt M k w) T F pl := by
  have h9 := h.1
  refine ⟨h.1, by rw [ups_ne _ _ (by omega), ups_ne _ _ (by omega)]; exact h.2.1, fun i hi => ?_⟩
  obtain ⟨b1, b2, b3, b4, b5, d1, d2, d3, d4, d5⟩ := h.2.2 i hi
  by_cases q : i = k
  · subst q
    rw [pt_eq, pt_eq]
    simp (disch := omega) only [ups_ne, ups_same]
    exact ⟨hv, hw, b3, b4, b5, trivial, trivial, d3, d4, d5⟩
  · rw [pt_ne K q, pt_ne M q]
    simp (disch := omega) only [ups_ne]
    exact ⟨b1, b2, b3, b4, b5, d1, d2, d3, d4, d5⟩
end SETS
theorem op_become {L : Nat} {xs : Nat → Int32} {I : mx_I} (hI : Inv L xs I) (x0 x1 : Int32) : OpI L xs I 97 182 [.int x0, .int x1] := by
  obtain ⟨⟨n, pl, od, hit⟩, hcl, htp, hw, ht0, ht1⟩ := hI.1
  have ho := hit.2.2.2.1
  have hz5 := hit.2.2.2.2.2
  obtain ⟨K, M, T, F, hc, hr⟩ := hit.sk
  have h9 := hc.1
  have hn := hc.2.1
  have hm := hr.2.1
  obtain ⟨z0, a, b, c, a9, b9, c9, ca, ra, cb, rb, cc, rc⟩ := hcl
  have z0 : I 1 4 = I 95 3 := z0
  have ca : I 1 1 = nI a := ca
  have cb : I 1 2 = nI b := cb
  have cc : I 1 3 = nI c := cc
  rcases hasV_cases h9 x0 with e0 | ⟨k, hk, rfl⟩
  · refine OpI.err hI 1 (fun J => ?_) (fun J => ?_)
    · refine mx_Cal_in (ls := [some (.ref 0), some (.int _), some (.int _), none]) (d := 299) tab_97 (by rw [mx_rcv, oc_0]; trivial) (Nat.le_of_ble_eq_true rfl) rfl ?_
      simp (disch := omega) only [x_Main_become_0, x_Main_become_1, x_Main_become_4, x_Main_become_7, x_Main_become_8, x_Main_become_11, x_Main_become_14, x_Main_become_15, x_Main_become_18, x_Main_become_21, x_Main_become_22, x_Main_become_23, x_Main_become_26, x_Main_become_27, x_Main_become_28, x_Main_become_31, x_Main_become_34, x_Main_become_37, x_Main_become_38, x_Main_become_41, x_Main_become_42, x_Main_become_43, x_Main_become_46, x_Main_become_49, x_Main_become_50, x_Main_become_51, x_Main_become_54, x_Main_become_55, mk_I, mk_J, mk_Q, mk_n, mk_sI, mk_sJ, Option.toList_some, Option.toList_none, List.cons_append, List.nil_append, true_and, and_true, leT, leF, ltT, ltF, eqF, lt0F, le0T, le0F, eq0F, natT, nI_clamp, nI_1, if_true, if_false, not_true_eq_false, not_false_eq_true, z_00, z_10, eq_self, true_or, or_true, or_false, false_or, oc_0, oc_1, oc_2, rt_0_0, rt_0_1, rt_0_3, rt_0_4, rt_0_5, rt_0_6, rt_0_7, rt_0_8, rt_0_9, rt_1_0, rt_1_5, rt_1_6, rt_1_7, rt_1_8, rt_2_1, rt_2_2, rt_2_3, rt_2_4, rt_2_5, mx_call (q_has (d := 0) hn J _) _, e0, mx_call (x_err_1 (d := 0) I J) _]
    · refine mx_Cal_in (ls := [some (.ref 94), some (.int _), some (.int _)]) (d := 299) tab_182 (by rw [mx_rcv, oc_94]; trivial) (Nat.le_of_ble_eq_true rfl) rfl ?_
      simp (disch := omega) only [x_Ref_become_0, x_Ref_become_1, x_Ref_become_2, x_Ref_become_5, x_Ref_become_8, x_Ref_become_9, x_Ref_become_12, x_Ref_become_15, x_Ref_become_16, x_Ref_become_17, x_Ref_become_20, x_Ref_become_21, x_Ref_become_22, x_Ref_become_23, x_Ref_become_24, x_Ref_become_25, x_Ref_become_27, x_Ref_become_28, x_Ref_become_31, x_Ref_become_32, x_Ref_become_34, x_Ref_become_35, x_Ref_become_36, x_Ref_become_37, x_Ref_become_38, x_Ref_become_39, x_Ref_become_40, x_Ref_become_41, x_Ref_become_43, x_Ref_become_44, x_Ref_become_47, mk_I, mk_J, mk_Q, mk_n, mk_sI, mk_sJ, Option.toList_some, Option.toList_none, List.cons_append, List.nil_append, true_and, and_true, leT, leF, ltT, ltF, eqF, lt0F, le0T, le0F, eq0F, natT, nI_clamp, nI_1, if_true, if_false, not_true_eq_false, not_false_eq_true, z_00, z_10, eq_self, true_or, or_true, or_false, false_or, oc_94, rt_94_0, rt_94_1, rt_94_3, rt_94_8, rt_94_9, rt_94_10, rt_94_11, rt_94_12, rt_94_15, rt_94_16, rt_94_18, rt_94_21, rt_94_22, rt_94_23, rt_94_24, or_95, oa_95, tc_0, kc_0, k0_0, tc_1, kc_1, k0_1, tc_2, kc_2, k0_2, tc_3, kc_3, k0_3, tc_4, kc_4, k0_4, tc_5, kc_5, k0_5, tc_6, kc_6, k0_6, tc_7, kc_7, k0_7, mx_call (q_rHas (d := 0) (hr.eX 1) J _) _, e0, mx_call (m_err_1 (d := 0) (eX I 1) J) _]
  have e0 := hasV_k h9 hk
  rcases inV_cases (b := 69) (by omega) x1 with e1 | ⟨v, hv, rfl, e1⟩
  · refine OpI.err hI 1 (fun J => ?_) (fun J => ?_)
    · refine mx_Cal_in (ls := [some (.ref 0), some (.int _), some (.int _), none]) (d := 299) tab_97 (by rw [mx_rcv, oc_0]; trivial) (Nat.le_of_ble_eq_true rfl) rfl ?_
      simp (disch := omega) only [x_Main_become_0, x_Main_become_1, x_Main_become_4, x_Main_become_7, x_Main_become_8, x_Main_become_11, x_Main_become_14, x_Main_become_15, x_Main_become_18, x_Main_become_21, x_Main_become_22, x_Main_become_23, x_Main_become_26, x_Main_become_27, x_Main_become_28, x_Main_become_31, x_Main_become_34, x_Main_become_37, x_Main_become_38, x_Main_become_41, x_Main_become_42, x_Main_become_43, x_Main_become_46, x_Main_become_49, x_Main_become_50, x_Main_become_51, x_Main_become_54, x_Main_become_55, mk_I, mk_J, mk_Q, mk_n, mk_sI, mk_sJ, Option.toList_some, Option.toList_none, List.cons_append, List.nil_append, true_and, and_true, leT, leF, ltT, ltF, eqF, lt0F, le0T, le0F, eq0F, natT, nI_clamp, nI_1, if_true, if_false, not_true_eq_false, not_false_eq_true, z_00, z_10, eq_self, true_or, or_true, or_false, false_or, oc_0, oc_1, oc_2, rt_0_0, rt_0_1, rt_0_3, rt_0_4, rt_0_5, rt_0_6, rt_0_7, rt_0_8, rt_0_9, rt_1_0, rt_1_5, rt_1_6, rt_1_7, rt_1_8, rt_2_1, rt_2_2, rt_2_3, rt_2_4, rt_2_5, mx_call (q_has (d := 0) hn J _) _, e0, mx_call (q_isKm (d := 0) _ _) _, e1, mx_call (x_err_1 (d := 0) I J) _]
    · refine mx_Cal_in (ls := [some (.ref 94), some (.int _), some (.int _)]) (d := 299) tab_182 (by rw [mx_rcv, oc_94]; trivial) (Nat.le_of_ble_eq_true rfl) rfl ?_
      simp (disch := omega) only [x_Ref_become_0, x_Ref_become_1, x_Ref_become_2, x_Ref_become_5, x_Ref_become_8, x_Ref_become_9, x_Ref_become_12, x_Ref_become_15, x_Ref_become_16, x_Ref_become_17, x_Ref_become_20, x_Ref_become_21, x_Ref_become_22, x_Ref_become_23, x_Ref_become_24, x_Ref_become_25, x_Ref_become_27, x_Ref_become_28, x_Ref_become_31, x_Ref_become_32, x_Ref_become_34, x_Ref_become_35, x_Ref_become_36, x_Ref_become_37, x_Ref_become_38, x_Ref_become_39, x_Ref_become_40, x_Ref_become_41, x_Ref_become_43, x_Ref_become_44, x_Ref_become_47, mk_I, mk_J, mk_Q, mk_n, mk_sI, mk_sJ, Option.toList_some, Option.toList_none, List.cons_append, List.nil_append, true_and, and_true, leT, leF, ltT, ltF, eqF, lt0F, le0T, le0F, eq0F, natT, nI_clamp, nI_1, if_true, if_false, not_true_eq_false, not_false_eq_true, z_00, z_10, eq_self, true_or, or_true, or_false, false_or, oc_94, rt_94_0, rt_94_1, rt_94_3, rt_94_8, rt_94_9, rt_94_10, rt_94_11, rt_94_12, rt_94_15, rt_94_16, rt_94_18, rt_94_21, rt_94_22, rt_94_23, rt_94_24, or_95, oa_95, tc_0, kc_0, k0_0, tc_1, kc_1, k0_1, tc_2, kc_2, k0_2, tc_3, kc_3, k0_3, tc_4, kc_4, k0_4, tc_5, kc_5, k0_5, tc_6, kc_6, k0_6, tc_7, kc_7, k0_7, mx_call (q_rHas (d := 0) (hr.eX 1) J _) _, e0, mx_call (q_isKind (d := 0) _ _) _, e1, mx_call (m_err_1 (d := 0) (eX I 1) J) _]
  obtain ⟨b1, b2, b3, b4, b5, d1, d2, d3, d4, d5⟩ := hc.2.2 k hk
  obtain ⟨-, -, -, -, -, f1, f2, f3, f4, f5⟩ := hr.2.2 k hk
  have e2 := at3 I (show k < 9 by omega)
  rw [d1] at e2
  have hc2 := hc.setKM (k := k) (v := v / 10) (w := v % 10) (by omega) (by omega)
  have hr2 := (hr.congr (I' := mx_ups (mx_ups I 4 k (nI (v / 10))) 6 k (nI (v % 10))) (fun j _ => by rw [ups_ne _ _ (by omega), ups_ne _ _ (by omega)])).setKM (k := k) (v := v / 10) (w := v % 10) (by omega) (by omega)
  refine OpI.two hI (nI (K k)) (mx_ups (mx_ups I 4 k (nI (v / 10))) 6 k (nI (v % 10))) _ (fun a j h => by rw [ups_ne _ _ (by omega), ups_ne _ _ (by omega)]) (hI.itm (fun a j h => ?_) ⟨n, pl, od, ItemsR.of (hc2.congr (fun a j h => ?_)) hr2 ho ?_⟩) (fun J => ?_) (fun J => ?_)
  · simp (disch := omega) only [ups_ne]
  · simp (disch := omega) only [ups_ne]
  · simp (disch := omega) only [ups_ne]; exact hz5
  · refine mx_Cal_in (ls := [some (.ref 0), some (.int _), some (.int _), none]) (d := 299) tab_97 (by rw [mx_rcv, oc_0]; trivial) (Nat.le_of_ble_eq_true rfl) rfl ?_
    simp (disch := omega) only [x_Main_become_0, x_Main_become_1, x_Main_become_4, x_Main_become_7, x_Main_become_8, x_Main_become_11, x_Main_become_14, x_Main_become_15, x_Main_become_18, x_Main_become_21, x_Main_become_22, x_Main_become_23, x_Main_become_26, x_Main_become_27, x_Main_become_28, x_Main_become_31, x_Main_become_34, x_Main_become_37, x_Main_become_38, x_Main_become_41, x_Main_become_42, x_Main_become_43, x_Main_become_46, x_Main_become_49, x_Main_become_50, x_Main_become_51, x_Main_become_54, x_Main_become_55, mk_I, mk_J, mk_Q, mk_n, mk_sI, mk_sJ, Option.toList_some, Option.toList_none, List.cons_append, List.nil_append, true_and, and_true, leT, leF, ltT, ltF, eqF, lt0F, le0T, le0F, eq0F, natT, nI_clamp, nI_1, if_true, if_false, not_true_eq_false, not_false_eq_true, z_00, z_10, eq_self, true_or, or_true, or_false, false_or, oc_0, oc_1, oc_2, rt_0_0, rt_0_1, rt_0_3, rt_0_4, rt_0_5, rt_0_6, rt_0_7, rt_0_8, rt_0_9, rt_1_0, rt_1_5, rt_1_6, rt_1_7, rt_1_8, rt_2_1, rt_2_2, rt_2_3, rt_2_4, rt_2_5, mx_call (q_has (d := 0) hn J _) _, e0, mx_call (q_isKm (d := 0) _ _) _, e1, mx_call (q_Line_at (d := 0) L3 _ _ _) _, e2, mx_call (q_name (d := 0) _ _ (show k < 9 by omega) (show v < 100 by omega)) _]
  · refine mx_Cal_in (ls := [some (.ref 94), some (.int _), some (.int _)]) (d := 299) tab_182 (by rw [mx_rcv, oc_94]; trivial) (Nat.le_of_ble_eq_true rfl) rfl ?_
    have e3 : mx_ups (mx_ups (mx_ups I 4 k (nI (v / 10))) 6 k (nI (v % 10))) 95 (8 + 5 * k + 1) (nI (v % 10)) 95 (8 + 5 * k) = nI (K k) := by
      simp (disch := omega) only [ups_ne]; exact f1
    have e4 := q_Ref_change1 (d := 0) (t := 8 + 5 * k) (mx_ups (mx_ups (mx_ups I 4 k (nI (v / 10))) 6 k (nI (v % 10))) 95 (8 + 5 * k + 1) (nI (v % 10))) J (by omega) (nI (v / 10))
    rw [e3] at e4
    have e5 : 8 + 5 * nI k + 0 = nI (8 + 5 * k) := its_ix k 0
    simp (disch := omega) only [x_Ref_become_0, x_Ref_become_1, x_Ref_become_2, x_Ref_become_5, x_Ref_become_8, x_Ref_become_9, x_Ref_become_12, x_Ref_become_15, x_Ref_become_16, x_Ref_become_17, x_Ref_become_20, x_Ref_become_21, x_Ref_become_22, x_Ref_become_23, x_Ref_become_24, x_Ref_become_25, x_Ref_become_27, x_Ref_become_28, x_Ref_become_31, x_Ref_become_32, x_Ref_become_34, x_Ref_become_35, x_Ref_become_36, x_Ref_become_37, x_Ref_become_38, x_Ref_become_39, x_Ref_become_40, x_Ref_become_41, x_Ref_become_43, x_Ref_become_44, x_Ref_become_47, mk_I, mk_J, mk_Q, mk_n, mk_sI, mk_sJ, Option.toList_some, Option.toList_none, List.cons_append, List.nil_append, true_and, and_true, leT, leF, ltT, ltF, eqF, lt0F, le0T, le0F, eq0F, natT, nI_clamp, nI_1, if_true, if_false, not_true_eq_false, not_false_eq_true, z_00, z_10, eq_self, true_or, or_true, or_false, false_or, oc_94, rt_94_0, rt_94_1, rt_94_3, rt_94_8, rt_94_9, rt_94_10, rt_94_11, rt_94_12, rt_94_15, rt_94_16, rt_94_18, rt_94_21, rt_94_22, rt_94_23, rt_94_24, or_95, oa_95, tc_0, kc_0, k0_0, tc_1, kc_1, k0_1, tc_2, kc_2, k0_2, tc_3, kc_3, k0_3, tc_4, kc_4, k0_4, tc_5, kc_5, k0_5, tc_6, kc_6, k0_6, tc_7, kc_7, k0_7, mx_call (q_rHas (d := 0) (hr.congr (I' := mx_ups (mx_ups I 4 k (nI (v / 10))) 6 k (nI (v % 10))) (fun j _ => by rw [ups_ne _ _ (by omega), ups_ne _ _ (by omega)])) J _) _, e0, mx_call (q_isKind (d := 0) _ _) _, e1, d10, m10, z_100, mx_call (q_Ref_lays1_1 (d := 0) _ _ (show k < 9 by omega) _) _, e5, mx_call e4 _]
theorem op_truth {L : Nat} {xs : Nat → Int32} {I : mx_I} (hI : Inv L xs I) (x0 x1 : Int32) : OpI L xs I 99 184 [.int x0, .int x1] := by
  obtain ⟨⟨n, pl, od, hit⟩, hcl, htp, hw, ht0, ht1⟩ := hI.1
  have ho := hit.2.2.2.1
  have hz5 := hit.2.2.2.2.2
  obtain ⟨K, M, T, F, hc, hr⟩ := hit.sk
  have h9 := hc.1
  have hn := hc.2.1
  have hm := hr.2.1
  obtain ⟨z0, a, b, c, a9, b9, c9, ca, ra, cb, rb, cc, rc⟩ := hcl
  have z0 : I 1 4 = I 95 3 := z0
  have ca : I 1 1 = nI a := ca
  have cb : I 1 2 = nI b := cb
  have cc : I 1 3 = nI c := cc
  have c999 : (999 : Int32) = nI 999 := rfl
  rcases hasV_cases h9 x0 with e0 | ⟨k, hk, rfl⟩
  · refine OpI.err hI 1 (fun J => ?_) (fun J => ?_)
    · refine mx_Cal_in (ls := [some (.ref 0), some (.int _), some (.int _), none]) (d := 299) tab_99 (by rw [mx_rcv, oc_0]; trivial) (Nat.le_of_ble_eq_true rfl) rfl ?_
      simp (disch := omega) only [x_Main_truth_0, x_Main_truth_1, x_Main_truth_4, x_Main_truth_7, x_Main_truth_8, x_Main_truth_11, x_Main_truth_14, x_Main_truth_15, x_Main_truth_18, x_Main_truth_21, x_Main_truth_22, x_Main_truth_23, x_Main_truth_26, x_Main_truth_27, x_Main_truth_28, x_Main_truth_31, x_Main_truth_34, x_Main_truth_37, x_Main_truth_38, x_Main_truth_41, x_Main_truth_42, x_Main_truth_43, x_Main_truth_46, x_Main_truth_49, x_Main_truth_52, x_Main_truth_53, x_Main_truth_54, x_Main_truth_57, x_Main_truth_58, mk_I, mk_J, mk_Q, mk_n, mk_sI, mk_sJ, Option.toList_some, Option.toList_none, List.cons_append, List.nil_append, true_and, and_true, leT, leF, ltT, ltF, eqF, lt0F, le0T, le0F, eq0F, natT, nI_clamp, nI_1, if_true, if_false, not_true_eq_false, not_false_eq_true, z_00, z_10, eq_self, true_or, or_true, or_false, false_or, oc_0, oc_1, oc_2, rt_0_0, rt_0_1, rt_0_3, rt_0_4, rt_0_5, rt_0_6, rt_0_7, rt_0_8, rt_0_9, rt_1_0, rt_1_5, rt_1_6, rt_1_7, rt_1_8, rt_2_1, rt_2_2, rt_2_3, rt_2_4, rt_2_5, mx_call (q_has (d := 0) hn J _) _, e0, mx_call (x_err_1 (d := 0) I J) _]
    · refine mx_Cal_in (ls := [some (.ref 94), some (.int _), some (.int _)]) (d := 299) tab_184 (by rw [mx_rcv, oc_94]; trivial) (Nat.le_of_ble_eq_true rfl) rfl ?_
      simp (disch := omega) only [x_Ref_truth_0, x_Ref_truth_1, x_Ref_truth_2, x_Ref_truth_5, x_Ref_truth_8, x_Ref_truth_9, x_Ref_truth_10, x_Ref_truth_13, x_Ref_truth_16, x_Ref_truth_19, x_Ref_truth_20, x_Ref_truth_22, x_Ref_truth_23, x_Ref_truth_24, x_Ref_truth_25, x_Ref_truth_26, x_Ref_truth_27, x_Ref_truth_28, x_Ref_truth_29, x_Ref_truth_32, x_Ref_truth_35, x_Ref_truth_36, x_Ref_truth_37, x_Ref_truth_40, mk_I, mk_J, mk_Q, mk_n, mk_sI, mk_sJ, Option.toList_some, Option.toList_none, List.cons_append, List.nil_append, true_and, and_true, leT, leF, ltT, ltF, eqF, lt0F, le0T, le0F, eq0F, natT, nI_clamp, nI_1, if_true, if_false, not_true_eq_false, not_false_eq_true, z_00, z_10, eq_self, true_or, or_true, or_false, false_or, oc_94, rt_94_0, rt_94_1, rt_94_3, rt_94_8, rt_94_9, rt_94_10, rt_94_11, rt_94_12, rt_94_15, rt_94_16, rt_94_18, rt_94_21, rt_94_22, rt_94_23, rt_94_24, or_95, oa_95, tc_0, kc_0, k0_0, tc_1, kc_1, k0_1, tc_2, kc_2, k0_2, tc_3, kc_3, k0_3, tc_4, kc_4, k0_4, tc_5, kc_5, k0_5, tc_6, kc_6, k0_6, tc_7, kc_7, k0_7, mx_call (q_rHas (d := 0) (hr.eX 1) J _) _, e0, mx_call (m_err_1 (d := 0) (eX I 1) J) _]
  have e0 := hasV_k h9 hk
  rcases inV_cases (b := 999) (by omega) x1 with e1 | ⟨v, hv, rfl, e1⟩
  · refine OpI.err hI 1 (fun J => ?_) (fun J => ?_)
    · refine mx_Cal_in (ls := [some (.ref 0), some (.int _), some (.int _), none]) (d := 299) tab_99 (by rw [mx_rcv, oc_0]; trivial) (Nat.le_of_ble_eq_true rfl) rfl ?_
      simp (disch := omega) only [x_Main_truth_0, x_Main_truth_1, x_Main_truth_4, x_Main_truth_7, x_Main_truth_8, x_Main_truth_11, x_Main_truth_14, x_Main_truth_15, x_Main_truth_18, x_Main_truth_21, x_Main_truth_22, x_Main_truth_23, x_Main_truth_26, x_Main_truth_27, x_Main_truth_28, x_Main_truth_31, x_Main_truth_34, x_Main_truth_37, x_Main_truth_38, x_Main_truth_41, x_Main_truth_42, x_Main_truth_43, x_Main_truth_46, x_Main_truth_49, x_Main_truth_52, x_Main_truth_53, x_Main_truth_54, x_Main_truth_57, x_Main_truth_58, mk_I, mk_J, mk_Q, mk_n, mk_sI, mk_sJ, Option.toList_some, Option.toList_none, List.cons_append, List.nil_append, true_and, and_true, leT, leF, ltT, ltF, eqF, lt0F, le0T, le0F, eq0F, natT, nI_clamp, nI_1, if_true, if_false, not_true_eq_false, not_false_eq_true, z_00, z_10, eq_self, true_or, or_true, or_false, false_or, oc_0, oc_1, oc_2, rt_0_0, rt_0_1, rt_0_3, rt_0_4, rt_0_5, rt_0_6, rt_0_7, rt_0_8, rt_0_9, rt_1_0, rt_1_5, rt_1_6, rt_1_7, rt_1_8, rt_2_1, rt_2_2, rt_2_3, rt_2_4, rt_2_5, mx_call (q_has (d := 0) hn J _) _, e0, mx_call (q_isTruth (d := 0) _ _) _, e1, mx_call (x_err_1 (d := 0) I J) _]
    · refine mx_Cal_in (ls := [some (.ref 94), some (.int _), some (.int _)]) (d := 299) tab_184 (by rw [mx_rcv, oc_94]; trivial) (Nat.le_of_ble_eq_true rfl) rfl ?_
      simp (disch := omega) only [x_Ref_truth_0, x_Ref_truth_1, x_Ref_truth_2, x_Ref_truth_5, x_Ref_truth_8, x_Ref_truth_9, x_Ref_truth_10, x_Ref_truth_13, x_Ref_truth_16, x_Ref_truth_19, x_Ref_truth_20, x_Ref_truth_22, x_Ref_truth_23, x_Ref_truth_24, x_Ref_truth_25, x_Ref_truth_26, x_Ref_truth_27, x_Ref_truth_28, x_Ref_truth_29, x_Ref_truth_32, x_Ref_truth_35, x_Ref_truth_36, x_Ref_truth_37, x_Ref_truth_40, mk_I, mk_J, mk_Q, mk_n, mk_sI, mk_sJ, Option.toList_some, Option.toList_none, List.cons_append, List.nil_append, true_and, and_true, leT, leF, ltT, ltF, eqF, lt0F, le0T, le0F, eq0F, natT, nI_clamp, nI_1, if_true, if_false, not_true_eq_false, not_false_eq_true, z_00, z_10, eq_self, true_or, or_true, or_false, false_or, oc_94, rt_94_0, rt_94_1, rt_94_3, rt_94_8, rt_94_9, rt_94_10, rt_94_11, rt_94_12, rt_94_15, rt_94_16, rt_94_18, rt_94_21, rt_94_22, rt_94_23, rt_94_24, or_95, oa_95, tc_0, kc_0, k0_0, tc_1, kc_1, k0_1, tc_2, kc_2, k0_2, tc_3, kc_3, k0_3, tc_4, kc_4, k0_4, tc_5, kc_5, k0_5, tc_6, kc_6, k0_6, tc_7, kc_7, k0_7, mx_call (q_rHas (d := 0) (hr.eX 1) J _) _, e0, mx_call (q_rIn (d := 0) _ _ _ _) _, c999, e1, mx_call (m_err_1 (d := 0) (eX I 1) J) _]
  obtain ⟨b1, b2, b3, b4, b5, d1, d2, d3, d4, d5⟩ := hc.2.2 k hk
  obtain ⟨-, -, -, -, -, f1, f2, f3, f4, f5⟩ := hr.2.2 k hk
  have e2 := at7 I (show k < 9 by omega)
  rw [d3] at e2
  have hc2 := hc.setT (k := k) (v := v) (by omega)
  have hr1 := hr.congr (I' := mx_ups I 8 k (nI v)) (fun j _ => by rw [ups_ne _ _ (by omega)])
  have hr2 := hr1.setT (k := k) (v := v) (by omega)
  refine OpI.two hI (nI (T k)) (mx_ups I 8 k (nI v)) _ (fun a j h => by rw [ups_ne _ _ (by omega)]) (hI.itm (fun a j h => ?_) ⟨n, pl, od, ItemsR.of (hc2.congr (fun a j h => ?_)) hr2 ho ?_⟩) (fun J => ?_) (fun J => ?_)
  · simp (disch := omega) only [ups_ne]
  · simp (disch := omega) only [ups_ne]
  · simp (disch := omega) only [ups_ne]; exact hz5
  · refine mx_Cal_in (ls := [some (.ref 0), some (.int _), some (.int _), none]) (d := 299) tab_99 (by rw [mx_rcv, oc_0]; trivial) (Nat.le_of_ble_eq_true rfl) rfl ?_
    simp (disch := omega) only [x_Main_truth_0, x_Main_truth_1, x_Main_truth_4, x_Main_truth_7, x_Main_truth_8, x_Main_truth_11, x_Main_truth_14, x_Main_truth_15, x_Main_truth_18, x_Main_truth_21, x_Main_truth_22, x_Main_truth_23, x_Main_truth_26, x_Main_truth_27, x_Main_truth_28, x_Main_truth_31, x_Main_truth_34, x_Main_truth_37, x_Main_truth_38, x_Main_truth_41, x_Main_truth_42, x_Main_truth_43, x_Main_truth_46, x_Main_truth_49, x_Main_truth_52, x_Main_truth_53, x_Main_truth_54, x_Main_truth_57, x_Main_truth_58, mk_I, mk_J, mk_Q, mk_n, mk_sI, mk_sJ, Option.toList_some, Option.toList_none, List.cons_append, List.nil_append, true_and, and_true, leT, leF, ltT, ltF, eqF, lt0F, le0T, le0F, eq0F, natT, nI_clamp, nI_1, if_true, if_false, not_true_eq_false, not_false_eq_true, z_00, z_10, eq_self, true_or, or_true, or_false, false_or, oc_0, oc_1, oc_2, rt_0_0, rt_0_1, rt_0_3, rt_0_4, rt_0_5, rt_0_6, rt_0_7, rt_0_8, rt_0_9, rt_1_0, rt_1_5, rt_1_6, rt_1_7, rt_1_8, rt_2_1, rt_2_2, rt_2_3, rt_2_4, rt_2_5, mx_call (q_has (d := 0) hn J _) _, e0, mx_call (q_isTruth (d := 0) _ _) _, e1, mx_call (q_Line_at (d := 0) L7 _ _ _) _, e2, mx_call (q_st7 (d := 0) _ _ (show k < 9 by omega) _) _]
  · refine mx_Cal_in (ls := [some (.ref 94), some (.int _), some (.int _)]) (d := 299) tab_184 (by rw [mx_rcv, oc_94]; trivial) (Nat.le_of_ble_eq_true rfl) rfl ?_
    have e3 : mx_ups I 8 k (nI v) 95 (8 + 5 * k + 2) = nI (T k) := by
      simp (disch := omega) only [ups_ne]; exact f3
    have e4 := q_Ref_change1 (d := 0) (t := 8 + 5 * k + 2) (mx_ups I 8 k (nI v)) J (by omega) (nI v)
    rw [e3] at e4
    have e5 : 8 + 5 * nI k + 2 = nI (8 + 5 * k + 2) := its_ix k 2
    simp (disch := omega) only [x_Ref_truth_0, x_Ref_truth_1, x_Ref_truth_2, x_Ref_truth_5, x_Ref_truth_8, x_Ref_truth_9, x_Ref_truth_10, x_Ref_truth_13, x_Ref_truth_16, x_Ref_truth_19, x_Ref_truth_20, x_Ref_truth_22, x_Ref_truth_23, x_Ref_truth_24, x_Ref_truth_25, x_Ref_truth_26, x_Ref_truth_27, x_Ref_truth_28, x_Ref_truth_29, x_Ref_truth_32, x_Ref_truth_35, x_Ref_truth_36, x_Ref_truth_37, x_Ref_truth_40, mk_I, mk_J, mk_Q, mk_n, mk_sI, mk_sJ, Option.toList_some, Option.toList_none, List.cons_append, List.nil_append, true_and, and_true, leT, leF, ltT, ltF, eqF, lt0F, le0T, le0F, eq0F, natT, nI_clamp, nI_1, if_true, if_false, not_true_eq_false, not_false_eq_true, z_00, z_10, eq_self, true_or, or_true, or_false, false_or, oc_94, rt_94_0, rt_94_1, rt_94_3, rt_94_8, rt_94_9, rt_94_10, rt_94_11, rt_94_12, rt_94_15, rt_94_16, rt_94_18, rt_94_21, rt_94_22, rt_94_23, rt_94_24, or_95, oa_95, tc_0, kc_0, k0_0, tc_1, kc_1, k0_1, tc_2, kc_2, k0_2, tc_3, kc_3, k0_3, tc_4, kc_4, k0_4, tc_5, kc_5, k0_5, tc_6, kc_6, k0_6, tc_7, kc_7, k0_7, mx_call (q_rHas (d := 0) hr1 J _) _, e0, mx_call (q_rIn (d := 0) _ _ _ _) _, c999, e1, e5, mx_call e4 _]
theorem op_drop {L : Nat} {xs : Nat → Int32} {I : mx_I} (hI : Inv L xs I) (x0 : Int32) : OpI L xs I 108 193 [.int x0] := by
  obtain ⟨⟨n, pl, od, hit⟩, hcl, htp, hw, ht0, ht1⟩ := hI.1
  have ho := hit.2.2.2.1
  have hz5 := hit.2.2.2.2.2
  obtain ⟨K, M, T, F, hc, hr⟩ := hit.sk
  have h9 := hc.1
  have hn := hc.2.1
  have hm := hr.2.1
  obtain ⟨z0, a, b, c, a9, b9, c9, ca, ra, cb, rb, cc, rc⟩ := hcl
  have z0 : I 1 4 = I 95 3 := z0
  have ca : I 1 1 = nI a := ca
  have cb : I 1 2 = nI b := cb
  have cc : I 1 3 = nI c := cc
  rcases hasV_cases h9 x0 with e0 | ⟨k, hk, rfl⟩
  · refine OpI.err hI 1 (fun J => ?_) (fun J => ?_)
    · refine mx_Cal_in (ls := [some (.ref 0), some (.int _)]) (d := 299) tab_108 (by rw [mx_rcv, oc_0]; trivial) (Nat.le_of_ble_eq_true rfl) rfl ?_
      simp (disch := omega) only [x_Main_drop_0, x_Main_drop_1, x_Main_drop_4, x_Main_drop_7, x_Main_drop_8, x_Main_drop_11, x_Main_drop_14, x_Main_drop_15, x_Main_drop_16, x_Main_drop_19, x_Main_drop_20, x_Main_drop_21, x_Main_drop_24, x_Main_drop_27, x_Main_drop_28, x_Main_drop_31, x_Main_drop_34, x_Main_drop_35, x_Main_drop_36, x_Main_drop_39, x_Main_drop_40, x_Main_drop_41, x_Main_drop_44, x_Main_drop_47, x_Main_drop_50, x_Main_drop_51, x_Main_drop_52, x_Main_drop_55, x_Main_drop_56, x_Main_drop_59, x_Main_drop_62, x_Main_drop_65, mk_I, mk_J, mk_Q, mk_n, mk_sI, mk_sJ, Option.toList_some, Option.toList_none, List.cons_append, List.nil_append, true_and, and_true, leT, leF, ltT, ltF, eqF, lt0F, le0T, le0F, eq0F, natT, nI_clamp, nI_1, if_true, if_false, not_true_eq_false, not_false_eq_true, z_00, z_10, eq_self, true_or, or_true, or_false, false_or, oc_0, oc_1, oc_2, rt_0_0, rt_0_1, rt_0_3, rt_0_4, rt_0_5, rt_0_6, rt_0_7, rt_0_8, rt_0_9, rt_1_0, rt_1_5, rt_1_6, rt_1_7, rt_1_8, rt_2_1, rt_2_2, rt_2_3, rt_2_4, rt_2_5, mx_call (q_has (d := 0) hn J _) _, e0, mx_call (x_err_1 (d := 0) I J) _]
    · refine mx_Cal_in (ls := [some (.ref 94), some (.int _)]) (d := 299) tab_193 (by rw [mx_rcv, oc_94]; trivial) (Nat.le_of_ble_eq_true rfl) rfl ?_
      simp (disch := omega) only [x_Ref_drop_0, x_Ref_drop_1, x_Ref_drop_2, x_Ref_drop_5, x_Ref_drop_8, x_Ref_drop_9, x_Ref_drop_10, x_Ref_drop_13, x_Ref_drop_14, x_Ref_drop_15, x_Ref_drop_16, x_Ref_drop_19, x_Ref_drop_22, x_Ref_drop_23, x_Ref_drop_24, x_Ref_drop_27, x_Ref_drop_28, x_Ref_drop_29, x_Ref_drop_30, x_Ref_drop_31, x_Ref_drop_32, x_Ref_drop_35, x_Ref_drop_36, x_Ref_drop_39, x_Ref_drop_42, mk_I, mk_J, mk_Q, mk_n, mk_sI, mk_sJ, Option.toList_some, Option.toList_none, List.cons_append, List.nil_append, true_and, and_true, leT, leF, ltT, ltF, eqF, lt0F, le0T, le0F, eq0F, natT, nI_clamp, nI_1, if_true, if_false, not_true_eq_false, not_false_eq_true, z_00, z_10, eq_self, true_or, or_true, or_false, false_or, oc_94, rt_94_0, rt_94_1, rt_94_3, rt_94_8, rt_94_9, rt_94_10, rt_94_11, rt_94_12, rt_94_15, rt_94_16, rt_94_18, rt_94_21, rt_94_22, rt_94_23, rt_94_24, or_95, oa_95, tc_0, kc_0, k0_0, tc_1, kc_1, k0_1, tc_2, kc_2, k0_2, tc_3, kc_3, k0_3, tc_4, kc_4, k0_4, tc_5, kc_5, k0_5, tc_6, kc_6, k0_6, tc_7, kc_7, k0_7, mx_call (q_rHas (d := 0) (hr.eX 1) J _) _, e0, mx_call (m_err_1 (d := 0) (eX I 1) J) _]
  have e0 := hasV_k h9 hk
  by_cases hF : F k = 0
  · have hc2 := hc.setF (k := k) (v := 1) (by omega)
    have hr1 := hr.congr (I' := mx_ups I 10 k (nI 1)) (fun j _ => by rw [ups_ne _ _ (by omega)])
    have hr2 := hr1.setF (k := k) (v := 1) (by omega)
    refine OpI.two hI (nI (pcN (lfN (pt F k 1) n))) (mx_ups I 10 k (nI 1)) _ (fun a j h => by rw [ups_ne _ _ (by omega)]) (hI.itm (fun a j h => ?_) ⟨n, pl, od, ItemsR.of (hc2.congr (fun a j h => ?_)) hr2 ho ?_⟩) (fun J => ?_) (fun J => ?_)
    · simp (disch := omega) only [ups_ne]
    · simp (disch := omega) only [ups_ne]
    · simp (disch := omega) only [ups_ne]; exact hz5
    · refine mx_Cal_in (ls := [some (.ref 0), some (.int _)]) (d := 299) tab_108 (by rw [mx_rcv, oc_0]; trivial) (Nat.le_of_ble_eq_true rfl) rfl ?_
      simp (disch := omega) only [x_Main_drop_0, x_Main_drop_1, x_Main_drop_4, x_Main_drop_7, x_Main_drop_8, x_Main_drop_11, x_Main_drop_14, x_Main_drop_15, x_Main_drop_16, x_Main_drop_19, x_Main_drop_20, x_Main_drop_21, x_Main_drop_24, x_Main_drop_27, x_Main_drop_28, x_Main_drop_31, x_Main_drop_34, x_Main_drop_35, x_Main_drop_36, x_Main_drop_39, x_Main_drop_40, x_Main_drop_41, x_Main_drop_44, x_Main_drop_47, x_Main_drop_50, x_Main_drop_51, x_Main_drop_52, x_Main_drop_55, x_Main_drop_56, x_Main_drop_59, x_Main_drop_62, x_Main_drop_65, mk_I, mk_J, mk_Q, mk_n, mk_sI, mk_sJ, Option.toList_some, Option.toList_none, List.cons_append, List.nil_append, true_and, and_true, leT, leF, ltT, ltF, eqF, lt0F, le0T, le0F, eq0F, natT, nI_clamp, nI_1, if_true, if_false, not_true_eq_false, not_false_eq_true, z_00, z_10, eq_self, true_or, or_true, or_false, false_or, oc_0, oc_1, oc_2, rt_0_0, rt_0_1, rt_0_3, rt_0_4, rt_0_5, rt_0_6, rt_0_7, rt_0_8, rt_0_9, rt_1_0, rt_1_5, rt_1_6, rt_1_7, rt_1_8, rt_2_1, rt_2_2, rt_2_3, rt_2_4, rt_2_5, mx_call (q_has (d := 0) hn J _) _, e0, mx_call (q_isL (d := 0) hc J hk) _, hF, show (1 : Int32) = nI 1 from rfl, mx_call (q_st9 (d := 0) _ _ (show k < 9 by omega) _) _, mx_call (q_howMany (d := 0) hc2 J) _]
    · refine mx_Cal_in (ls := [some (.ref 94), some (.int _)]) (d := 299) tab_193 (by rw [mx_rcv, oc_94]; trivial) (Nat.le_of_ble_eq_true rfl) rfl ?_
      simp (disch := omega) only [x_Ref_drop_0, x_Ref_drop_1, x_Ref_drop_2, x_Ref_drop_5, x_Ref_drop_8, x_Ref_drop_9, x_Ref_drop_10, x_Ref_drop_13, x_Ref_drop_14, x_Ref_drop_15, x_Ref_drop_16, x_Ref_drop_19, x_Ref_drop_22, x_Ref_drop_23, x_Ref_drop_24, x_Ref_drop_27, x_Ref_drop_28, x_Ref_drop_29, x_Ref_drop_30, x_Ref_drop_31, x_Ref_drop_32, x_Ref_drop_35, x_Ref_drop_36, x_Ref_drop_39, x_Ref_drop_42, mk_I, mk_J, mk_Q, mk_n, mk_sI, mk_sJ, Option.toList_some, Option.toList_none, List.cons_append, List.nil_append, true_and, and_true, leT, leF, ltT, ltF, eqF, lt0F, le0T, le0F, eq0F, natT, nI_clamp, nI_1, if_true, if_false, not_true_eq_false, not_false_eq_true, z_00, z_10, eq_self, true_or, or_true, or_false, false_or, oc_94, rt_94_0, rt_94_1, rt_94_3, rt_94_8, rt_94_9, rt_94_10, rt_94_11, rt_94_12, rt_94_15, rt_94_16, rt_94_18, rt_94_21, rt_94_22, rt_94_23, rt_94_24, or_95, oa_95, tc_0, kc_0, k0_0, tc_1, kc_1, k0_1, tc_2, kc_2, k0_2, tc_3, kc_3, k0_3, tc_4, kc_4, k0_4, tc_5, kc_5, k0_5, tc_6, kc_6, k0_6, tc_7, kc_7, k0_7, mx_call (q_rHas (d := 0) hr1 J _) _, e0, mx_call (q_rIsL (d := 0) hr1 J hk) _, hF, mx_call (q_Ref_lays1_4 (d := 0) _ _ (show k < 9 by omega) _) _, show mx_ups (mx_ups I 10 k (nI 1)) 95 (8 + 5 * k + 4) 1 = mx_ups (mx_ups I 10 k (nI 1)) 95 (8 + 5 * k + 4) (nI 1) from rfl, mx_call (q_rLeftSet (d := 0) hr2 J) _, mx_call (q_bitsOf (d := 0) _ (lfN_512 (pt F k 1) h9)) _]
  · refine OpI.err hI 3 (fun J => ?_) (fun J => ?_)
    · refine mx_Cal_in (ls := [some (.ref 0), some (.int _)]) (d := 299) tab_108 (by rw [mx_rcv, oc_0]; trivial) (Nat.le_of_ble_eq_true rfl) rfl ?_
      simp (disch := omega) only [x_Main_drop_0, x_Main_drop_1, x_Main_drop_4, x_Main_drop_7, x_Main_drop_8, x_Main_drop_11, x_Main_drop_14, x_Main_drop_15, x_Main_drop_16, x_Main_drop_19, x_Main_drop_20, x_Main_drop_21, x_Main_drop_24, x_Main_drop_27, x_Main_drop_28, x_Main_drop_31, x_Main_drop_34, x_Main_drop_35, x_Main_drop_36, x_Main_drop_39, x_Main_drop_40, x_Main_drop_41, x_Main_drop_44, x_Main_drop_47, x_Main_drop_50, x_Main_drop_51, x_Main_drop_52, x_Main_drop_55, x_Main_drop_56, x_Main_drop_59, x_Main_drop_62, x_Main_drop_65, mk_I, mk_J, mk_Q, mk_n, mk_sI, mk_sJ, Option.toList_some, Option.toList_none, List.cons_append, List.nil_append, true_and, and_true, leT, leF, ltT, ltF, eqF, lt0F, le0T, le0F, eq0F, natT, nI_clamp, nI_1, if_true, if_false, not_true_eq_false, not_false_eq_true, z_00, z_10, eq_self, true_or, or_true, or_false, false_or, oc_0, oc_1, oc_2, rt_0_0, rt_0_1, rt_0_3, rt_0_4, rt_0_5, rt_0_6, rt_0_7, rt_0_8, rt_0_9, rt_1_0, rt_1_5, rt_1_6, rt_1_7, rt_1_8, rt_2_1, rt_2_2, rt_2_3, rt_2_4, rt_2_5, mx_call (q_has (d := 0) hn J _) _, e0, mx_call (q_isL (d := 0) hc J hk) _, hF, mx_call (x_err_3 (d := 0) I J) _]
    · refine mx_Cal_in (ls := [some (.ref 94), some (.int _)]) (d := 299) tab_193 (by rw [mx_rcv, oc_94]; trivial) (Nat.le_of_ble_eq_true rfl) rfl ?_
      simp (disch := omega) only [x_Ref_drop_0, x_Ref_drop_1, x_Ref_drop_2, x_Ref_drop_5, x_Ref_drop_8, x_Ref_drop_9, x_Ref_drop_10, x_Ref_drop_13, x_Ref_drop_14, x_Ref_drop_15, x_Ref_drop_16, x_Ref_drop_19, x_Ref_drop_22, x_Ref_drop_23, x_Ref_drop_24, x_Ref_drop_27, x_Ref_drop_28, x_Ref_drop_29, x_Ref_drop_30, x_Ref_drop_31, x_Ref_drop_32, x_Ref_drop_35, x_Ref_drop_36, x_Ref_drop_39, x_Ref_drop_42, mk_I, mk_J, mk_Q, mk_n, mk_sI, mk_sJ, Option.toList_some, Option.toList_none, List.cons_append, List.nil_append, true_and, and_true, leT, leF, ltT, ltF, eqF, lt0F, le0T, le0F, eq0F, natT, nI_clamp, nI_1, if_true, if_false, not_true_eq_false, not_false_eq_true, z_00, z_10, eq_self, true_or, or_true, or_false, false_or, oc_94, rt_94_0, rt_94_1, rt_94_3, rt_94_8, rt_94_9, rt_94_10, rt_94_11, rt_94_12, rt_94_15, rt_94_16, rt_94_18, rt_94_21, rt_94_22, rt_94_23, rt_94_24, or_95, oa_95, tc_0, kc_0, k0_0, tc_1, kc_1, k0_1, tc_2, kc_2, k0_2, tc_3, kc_3, k0_3, tc_4, kc_4, k0_4, tc_5, kc_5, k0_5, tc_6, kc_6, k0_6, tc_7, kc_7, k0_7, mx_call (q_rHas (d := 0) (hr.eX 3) J _) _, e0, mx_call (q_rIsL (d := 0) (hr.eX 3) J hk) _, hF, mx_call (m_err_3 (d := 0) (eX I 3) J) _]
theorem sub_turn (x a b : Int32) : x - (a - b) = b - a + x := by
  rw [Int32.sub_eq_add_neg, Int32.neg_sub, Int32.add_comm]
theorem op_over {L : Nat} {xs : Nat → Int32} {I : mx_I} (hI : Inv L xs I) : OpI L xs I 112 198 [] := by
  obtain ⟨⟨n, pl, od, hit⟩, hcl, htp, hw, ht0, ht1⟩ := hI.1
  have ho := hit.2.2.2.1
  have hz5 := hit.2.2.2.2.2
  obtain ⟨K, M, T, F, hc, hr⟩ := hit.sk
  have h9 := hc.1
  have hn := hc.2.1
  have hm := hr.2.1
  obtain ⟨z0, a, b, c, a9, b9, c9, ca, ra, cb, rb, cc, rc⟩ := hcl
  have z0 : I 1 4 = I 95 3 := z0
  have ca : I 1 1 = nI a := ca
  have cb : I 1 2 = nI b := cb
  have cc : I 1 3 = nI c := cc
  refine OpI.pure hI (nI b - nI a + nI (sN (fun i => if F i = 0 then T i else 0) n)) (fun J => ?_) (fun J => ?_)
  · refine mx_Cal_in (ls := [some (.ref 0)]) (d := 299) tab_112 (by rw [mx_rcv, oc_0]; trivial) (Nat.le_of_ble_eq_true rfl) rfl ?_
    simp (disch := omega) only [x_Main_over_0, x_Main_over_1, x_Main_over_4, x_Main_over_7, x_Main_over_10, x_Main_over_11, x_Main_over_14, x_Main_over_17, x_Main_over_18, mk_I, mk_J, mk_Q, mk_n, mk_sI, mk_sJ, Option.toList_some, Option.toList_none, List.cons_append, List.nil_append, true_and, and_true, leT, leF, ltT, ltF, eqF, lt0F, le0T, le0F, eq0F, natT, nI_clamp, nI_1, if_true, if_false, not_true_eq_false, not_false_eq_true, z_00, z_10, eq_self, true_or, or_true, or_false, false_or, oc_0, oc_1, oc_2, rt_0_0, rt_0_1, rt_0_3, rt_0_4, rt_0_5, rt_0_6, rt_0_7, rt_0_8, rt_0_9, rt_1_0, rt_1_5, rt_1_6, rt_1_7, rt_1_8, rt_2_1, rt_2_2, rt_2_3, rt_2_4, rt_2_5, mx_call (q_trueLeft (d := 0) hc J) _, mx_call (q_Show_there (d := 0) I J) _, ca, cb, sub_turn]
  · refine mx_Cal_in (ls := [some (.ref 94), none, none]) (d := 299) tab_198 (by rw [mx_rcv, oc_94]; trivial) (Nat.le_of_ble_eq_true rfl) rfl ?_
    simp (disch := omega) only [x_Ref_over_0, x_Ref_over_1, x_Ref_over_4, x_Ref_over_5, x_Ref_over_6, x_Ref_over_7, x_Ref_over_10, x_Ref_over_11, x_Ref_over_12, x_Ref_over_13, x_Ref_over_14, x_Ref_over_15, mk_I, mk_J, mk_Q, mk_n, mk_sI, mk_sJ, Option.toList_some, Option.toList_none, List.cons_append, List.nil_append, true_and, and_true, leT, leF, ltT, ltF, eqF, lt0F, le0T, le0F, eq0F, natT, nI_clamp, nI_1, if_true, if_false, not_true_eq_false, not_false_eq_true, z_00, z_10, eq_self, true_or, or_true, or_false, false_or, oc_94, rt_94_0, rt_94_1, rt_94_3, rt_94_8, rt_94_9, rt_94_10, rt_94_11, rt_94_12, rt_94_15, rt_94_16, rt_94_18, rt_94_21, rt_94_22, rt_94_23, rt_94_24, or_95, oa_95, tc_0, kc_0, k0_0, tc_1, kc_1, k0_1, tc_2, kc_2, k0_2, tc_3, kc_3, k0_3, tc_4, kc_4, k0_4, tc_5, kc_5, k0_5, tc_6, kc_6, k0_6, tc_7, kc_7, k0_7, ra, rb]
    refine lq (i0 := 0) (n := n) (fun i => [some (.ref 94), some (.int (nI b - nI a + nI (sN (fun i => if F i = 0 then T i else 0) i))), some (.int (nI i))]) (fun _ => mk I J) (Nat.zero_le n) ?_ rfl (fun i hi0 hi ih => ?_) ?_
    · simp only [sN, nI_0, Int32.add_zero]
    · obtain ⟨b1, b2, b3, b4, b5, d1, d2, d3, d4, d5⟩ := hr.2.2 i hi
      rw [sN, ← nI_add, ← Int32.add_assoc] at ih
      rw [x_Ref_over_16]
      by_cases hF : F i = 0
      · rw [if_pos hF] at ih
        simp (disch := omega) only [x_Ref_over_17, x_Ref_over_18, x_Ref_over_21, x_Ref_over_23, x_Ref_over_24, x_Ref_over_27, x_Ref_over_28, x_Ref_over_29, x_Ref_over_30, x_Ref_over_33, x_Ref_over_36, x_Ref_over_37, x_Ref_over_38, x_Ref_over_39, x_Ref_over_42, x_Ref_over_45, x_Ref_over_46, x_Ref_over_47, x_Ref_over_48, x_Ref_over_51, x_Ref_over_54, x_Ref_over_55, mk_I, mk_J, mk_Q, mk_n, mk_sI, mk_sJ, Option.toList_some, Option.toList_none, List.cons_append, List.nil_append, true_and, and_true, leT, leF, ltT, ltF, eqF, lt0F, le0T, le0F, eq0F, natT, nI_clamp, nI_1, if_true, if_false, not_true_eq_false, not_false_eq_true, z_00, z_10, eq_self, true_or, or_true, or_false, false_or, oc_94, rt_94_0, rt_94_1, rt_94_3, rt_94_8, rt_94_9, rt_94_10, rt_94_11, rt_94_12, rt_94_15, rt_94_16, rt_94_18, rt_94_21, rt_94_22, rt_94_23, rt_94_24, or_95, oa_95, tc_0, kc_0, k0_0, tc_1, kc_1, k0_1, tc_2, kc_2, k0_2, tc_3, kc_3, k0_3, tc_4, kc_4, k0_4, tc_5, kc_5, k0_5, tc_6, kc_6, k0_6, tc_7, kc_7, k0_7, hm, mx_call (q_rIsL (d := 0) hr J hi) _, hF, mx_call (q_itsT (d := 0) hr J hi) _]
        exact ih
      · rw [if_neg hF] at ih
        simp (disch := omega) only [x_Ref_over_17, x_Ref_over_18, x_Ref_over_21, x_Ref_over_23, x_Ref_over_24, x_Ref_over_27, x_Ref_over_28, x_Ref_over_29, x_Ref_over_30, x_Ref_over_33, x_Ref_over_36, x_Ref_over_37, x_Ref_over_38, x_Ref_over_39, x_Ref_over_42, x_Ref_over_45, x_Ref_over_46, x_Ref_over_47, x_Ref_over_48, x_Ref_over_51, x_Ref_over_54, x_Ref_over_55, mk_I, mk_J, mk_Q, mk_n, mk_sI, mk_sJ, Option.toList_some, Option.toList_none, List.cons_append, List.nil_append, true_and, and_true, leT, leF, ltT, ltF, eqF, lt0F, le0T, le0F, eq0F, natT, nI_clamp, nI_1, if_true, if_false, not_true_eq_false, not_false_eq_true, z_00, z_10, eq_self, true_or, or_true, or_false, false_or, oc_94, rt_94_0, rt_94_1, rt_94_3, rt_94_8, rt_94_9, rt_94_10, rt_94_11, rt_94_12, rt_94_15, rt_94_16, rt_94_18, rt_94_21, rt_94_22, rt_94_23, rt_94_24, or_95, oa_95, tc_0, kc_0, k0_0, tc_1, kc_1, k0_1, tc_2, kc_2, k0_2, tc_3, kc_3, k0_3, tc_4, kc_4, k0_4, tc_5, kc_5, k0_5, tc_6, kc_6, k0_6, tc_7, kc_7, k0_7, hm, mx_call (q_rIsL (d := 0) hr J hi) _, hF]
        exact ih
    · rw [x_Ref_over_16]
      simp (disch := omega) only [x_Ref_over_17, x_Ref_over_18, x_Ref_over_21, x_Ref_over_23, x_Ref_over_24, x_Ref_over_27, x_Ref_over_28, x_Ref_over_29, x_Ref_over_30, x_Ref_over_33, x_Ref_over_36, x_Ref_over_37, x_Ref_over_38, x_Ref_over_39, x_Ref_over_42, x_Ref_over_45, x_Ref_over_46, x_Ref_over_47, x_Ref_over_48, x_Ref_over_51, x_Ref_over_54, x_Ref_over_55, mk_I, mk_J, mk_Q, mk_n, mk_sI, mk_sJ, Option.toList_some, Option.toList_none, List.cons_append, List.nil_append, true_and, and_true, leT, leF, ltT, ltF, eqF, lt0F, le0T, le0F, eq0F, natT, nI_clamp, nI_1, if_true, if_false, not_true_eq_false, not_false_eq_true, z_00, z_10, eq_self, true_or, or_true, or_false, false_or, oc_94, rt_94_0, rt_94_1, rt_94_3, rt_94_8, rt_94_9, rt_94_10, rt_94_11, rt_94_12, rt_94_15, rt_94_16, rt_94_18, rt_94_21, rt_94_22, rt_94_23, rt_94_24, or_95, oa_95, tc_0, kc_0, k0_0, tc_1, kc_1, k0_1, tc_2, kc_2, k0_2, tc_3, kc_3, k0_3, tc_4, kc_4, k0_4, tc_5, kc_5, k0_5, tc_6, kc_6, k0_6, tc_7, kc_7, k0_7, hm]
def fitV (t : Int32) (A B : Nat) : Int32 := if t < nI A then 0 else if nI B < t then 0 else 1
theorem fitV_cases (t : Int32) (A B : Nat) : fitV t A B = 0 ∨ (fitV t A B = 1 ∧ ¬ t < nI A ∧ ¬ nI B < t) := by
  unfold fitV
  by_cases h1 : t < nI A
  · exact Or.inl (if_pos h1)
  · by_cases h2 : nI B < t
    · rw [if_neg h1, if_pos h2]; exact Or.inl rfl
    · rw [if_neg h1, if_neg h2]; exact Or.inr ⟨rfl, h1, h2⟩
theorem q_fitsLeft {d n : Nat} {I : mx_I} {K M T F pl od : Nat → Nat} (hc : CI I n K M T F od) (ho : OrdR n pl od) (J : mx_J) : mx_Cal mx_tab (d + 5) 55 [.ref 1] (mk I J) (some (.int (fitV (I 1 1 - I 1 2) (sN (fun i => if (lfN F n).testBit i = true then LN K M T i else 0) n) (sN (fun i => if (lfN F n).testBit i = true then MN K M T i else 0) n)))) (mk I J) := by
  refine mx_Cal_in (ls := [some (.ref 1)]) tab_55 (by rw [mx_rcv, oc_1]; trivial) (Nat.le_of_ble_eq_true rfl) rfl ?_
  have h1 := q_leastLeft (d := 0) hc J
  have h2 := q_mostLeft (d := 0) hc J
  rw [sN_left ho] at h1 h2
  simp (disch := omega) only [x_Show_fitsLeft_0, x_Show_fitsLeft_1, x_Show_fitsLeft_4, x_Show_fitsLeft_5, x_Show_fitsLeft_8, x_Show_fitsLeft_11, x_Show_fitsLeft_14, x_Show_fitsLeft_15, x_Show_fitsLeft_18, x_Show_fitsLeft_19, x_Show_fitsLeft_22, x_Show_fitsLeft_25, x_Show_fitsLeft_28, x_Show_fitsLeft_29, x_Show_fitsLeft_32, x_Show_fitsLeft_33, mk_I, mk_J, mk_Q, mk_n, mk_sI, mk_sJ, Option.toList_some, Option.toList_none, List.cons_append, List.nil_append, true_and, and_true, leT, leF, ltT, ltF, eqF, lt0F, le0T, le0F, eq0F, natT, nI_clamp, nI_1, if_true, if_false, not_true_eq_false, not_false_eq_true, z_00, z_10, eq_self, true_or, or_true, or_false, false_or, oc_0, oc_1, oc_2, rt_0_0, rt_0_1, rt_0_3, rt_0_4, rt_0_5, rt_0_6, rt_0_7, rt_0_8, rt_0_9, rt_1_0, rt_1_5, rt_1_6, rt_1_7, rt_1_8, rt_2_1, rt_2_2, rt_2_3, rt_2_4, rt_2_5, mx_call (q_Show_there (d := 0) I J) _, mx_call h1 _, mx_call h2 _]
  unfold fitV
  by_cases h1 : I 1 1 - I 1 2 < nI (sN (fun i => if (lfN F n).testBit i = true then LN K M T i else 0) n)
  · simp [h1]
  · by_cases h2 : nI (sN (fun i => if (lfN F n).testBit i = true then MN K M T i else 0) n) < I 1 1 - I 1 2 <;> simp [h1, h2]
theorem q_rFits {d n a : Nat} {I : mx_I} {K M T F pl : Nat → Nat} (hr : RI I n K M T F pl) (J : mx_J) (ha : a < 512) (t : Int32) : mx_Cal mx_tab (d + 4) 176 [.ref 94, .int (nI a), .int t] (mk I J) (some (.int (fitV t (sN (fun i => if a.testBit i = true then LN K M T i else 0) n) (sN (fun i => if a.testBit i = true then MN K M T i else 0) n)))) (mk I J) := by
  have h := q_fitsSet (d := d) hr J ha t
  simp only [ite_le] at h
  exact h
theorem op_fits {L : Nat} {xs : Nat → Int32} {I : mx_I} (hI : Inv L xs I) : OpI L xs I 113 199 [] := by
  obtain ⟨⟨n, pl, od, hit⟩, hcl, htp, hw, ht0, ht1⟩ := hI.1
  have ho := hit.2.2.2.1
  have hz5 := hit.2.2.2.2.2
  obtain ⟨K, M, T, F, hc, hr⟩ := hit.sk
  have h9 := hc.1
  have hn := hc.2.1
  have hm := hr.2.1
  obtain ⟨z0, a, b, c, a9, b9, c9, ca, ra, cb, rb, cc, rc⟩ := hcl
  have z0 : I 1 4 = I 95 3 := z0
  have ca : I 1 1 = nI a := ca
  have cb : I 1 2 = nI b := cb
  have cc : I 1 3 = nI c := cc
  refine OpI.pure hI (fitV (nI a - nI b) (sN (fun i => if (lfN F n).testBit i = true then LN K M T i else 0) n) (sN (fun i => if (lfN F n).testBit i = true then MN K M T i else 0) n)) (fun J => ?_) (fun J => ?_)
  · refine mx_Cal_in (ls := [some (.ref 0)]) (d := 299) tab_113 (by rw [mx_rcv, oc_0]; trivial) (Nat.le_of_ble_eq_true rfl) rfl ?_
    simp (disch := omega) only [x_Main_fits_0, x_Main_fits_1, x_Main_fits_4, x_Main_fits_7, x_Main_fits_10, x_Main_fits_11, x_Main_fits_14, x_Main_fits_15, mk_I, mk_J, mk_Q, mk_n, mk_sI, mk_sJ, Option.toList_some, Option.toList_none, List.cons_append, List.nil_append, true_and, and_true, leT, leF, ltT, ltF, eqF, lt0F, le0T, le0F, eq0F, natT, nI_clamp, nI_1, if_true, if_false, not_true_eq_false, not_false_eq_true, z_00, z_10, eq_self, true_or, or_true, or_false, false_or, oc_0, oc_1, oc_2, rt_0_0, rt_0_1, rt_0_3, rt_0_4, rt_0_5, rt_0_6, rt_0_7, rt_0_8, rt_0_9, rt_1_0, rt_1_5, rt_1_6, rt_1_7, rt_1_8, rt_2_1, rt_2_2, rt_2_3, rt_2_4, rt_2_5, mx_call (q_fitsLeft (d := 0) hc ho J) _, ca, cb]
    rcases fitV_cases (nI a - nI b) (sN (fun i => if (lfN F n).testBit i = true then LN K M T i else 0) n) (sN (fun i => if (lfN F n).testBit i = true then MN K M T i else 0) n) with h | ⟨h, -⟩ <;> simp [h]
  · refine mx_Cal_in (ls := [some (.ref 94)]) (d := 299) tab_199 (by rw [mx_rcv, oc_94]; trivial) (Nat.le_of_ble_eq_true rfl) rfl ?_
    simp (disch := omega) only [x_Ref_fits_0, x_Ref_fits_1, x_Ref_fits_2, x_Ref_fits_5, x_Ref_fits_6, x_Ref_fits_9, x_Ref_fits_12, x_Ref_fits_15, x_Ref_fits_16, x_Ref_fits_19, x_Ref_fits_20, mk_I, mk_J, mk_Q, mk_n, mk_sI, mk_sJ, Option.toList_some, Option.toList_none, List.cons_append, List.nil_append, true_and, and_true, leT, leF, ltT, ltF, eqF, lt0F, le0T, le0F, eq0F, natT, nI_clamp, nI_1, if_true, if_false, not_true_eq_false, not_false_eq_true, z_00, z_10, eq_self, true_or, or_true, or_false, false_or, oc_94, rt_94_0, rt_94_1, rt_94_3, rt_94_8, rt_94_9, rt_94_10, rt_94_11, rt_94_12, rt_94_15, rt_94_16, rt_94_18, rt_94_21, rt_94_22, rt_94_23, rt_94_24, or_95, oa_95, tc_0, kc_0, k0_0, tc_1, kc_1, k0_1, tc_2, kc_2, k0_2, tc_3, kc_3, k0_3, tc_4, kc_4, k0_4, tc_5, kc_5, k0_5, tc_6, kc_6, k0_6, tc_7, kc_7, k0_7, mx_call (q_there (d := 0) J) _, mx_call (q_rLeftSet (d := 0) hr J) _, mx_call (q_rFits (d := 0) hr J (lfN_512 F h9) _) _, ra, rb]
    rcases fitV_cases (nI a - nI b) (sN (fun i => if (lfN F n).testBit i = true then LN K M T i else 0) n) (sN (fun i => if (lfN F n).testBit i = true then MN K M T i else 0) n) with h | ⟨h, -⟩ <;> simp [h]
theorem op_spare {L : Nat} {xs : Nat → Int32} {I : mx_I} (hI : Inv L xs I) : OpI L xs I 114 200 [] := by
  obtain ⟨⟨n, pl, od, hit⟩, hcl, htp, hw, ht0, ht1⟩ := hI.1
  have ho := hit.2.2.2.1
  have hz5 := hit.2.2.2.2.2
  obtain ⟨K, M, T, F, hc, hr⟩ := hit.sk
  have h9 := hc.1
  have hn := hc.2.1
  have hm := hr.2.1
  obtain ⟨z0, a, b, c, a9, b9, c9, ca, ra, cb, rb, cc, rc⟩ := hcl
  have z0 : I 1 4 = I 95 3 := z0
  have ca : I 1 1 = nI a := ca
  have cb : I 1 2 = nI b := cb
  have cc : I 1 3 = nI c := cc
  by_cases h : nI a - nI b - nI (sN (fun i => if (lfN F n).testBit i = true then LN K M T i else 0) n) < 0
  · refine OpI.err hI 2 (fun J => ?_) (fun J => ?_)
    · refine mx_Cal_in (ls := [some (.ref 0), none]) (d := 299) tab_114 (by rw [mx_rcv, oc_0]; trivial) (Nat.le_of_ble_eq_true rfl) rfl ?_
      have h1 := q_leastLeft (d := 0) hc J
      rw [sN_left ho] at h1
      simp (disch := omega) only [x_Main_spare_0, x_Main_spare_1, x_Main_spare_4, x_Main_spare_7, x_Main_spare_8, x_Main_spare_11, x_Main_spare_14, x_Main_spare_17, x_Main_spare_18, x_Main_spare_19, x_Main_spare_20, x_Main_spare_23, x_Main_spare_24, x_Main_spare_25, x_Main_spare_28, x_Main_spare_31, x_Main_spare_32, mk_I, mk_J, mk_Q, mk_n, mk_sI, mk_sJ, Option.toList_some, Option.toList_none, List.cons_append, List.nil_append, true_and, and_true, leT, leF, ltT, ltF, eqF, lt0F, le0T, le0F, eq0F, natT, nI_clamp, nI_1, if_true, if_false, not_true_eq_false, not_false_eq_true, z_00, z_10, eq_self, true_or, or_true, or_false, false_or, oc_0, oc_1, oc_2, rt_0_0, rt_0_1, rt_0_3, rt_0_4, rt_0_5, rt_0_6, rt_0_7, rt_0_8, rt_0_9, rt_1_0, rt_1_5, rt_1_6, rt_1_7, rt_1_8, rt_2_1, rt_2_2, rt_2_3, rt_2_4, rt_2_5, mx_call (q_Show_there (d := 0) I J) _, mx_call h1 _, ca, cb, ite_le, h, mx_call (x_err_2 (d := 0) I J) _]
    · refine mx_Cal_in (ls := [some (.ref 94), none]) (d := 299) tab_200 (by rw [mx_rcv, oc_94]; trivial) (Nat.le_of_ble_eq_true rfl) rfl ?_
      simp (disch := omega) only [x_Ref_spare_0, x_Ref_spare_1, x_Ref_spare_4, x_Ref_spare_5, x_Ref_spare_6, x_Ref_spare_9, x_Ref_spare_12, x_Ref_spare_13, x_Ref_spare_14, x_Ref_spare_15, x_Ref_spare_18, x_Ref_spare_19, x_Ref_spare_20, x_Ref_spare_23, x_Ref_spare_26, x_Ref_spare_27, mk_I, mk_J, mk_Q, mk_n, mk_sI, mk_sJ, Option.toList_some, Option.toList_none, List.cons_append, List.nil_append, true_and, and_true, leT, leF, ltT, ltF, eqF, lt0F, le0T, le0F, eq0F, natT, nI_clamp, nI_1, if_true, if_false, not_true_eq_false, not_false_eq_true, z_00, z_10, eq_self, true_or, or_true, or_false, false_or, oc_94, rt_94_0, rt_94_1, rt_94_3, rt_94_8, rt_94_9, rt_94_10, rt_94_11, rt_94_12, rt_94_15, rt_94_16, rt_94_18, rt_94_21, rt_94_22, rt_94_23, rt_94_24, or_95, oa_95, tc_0, kc_0, k0_0, tc_1, kc_1, k0_1, tc_2, kc_2, k0_2, tc_3, kc_3, k0_3, tc_4, kc_4, k0_4, tc_5, kc_5, k0_5, tc_6, kc_6, k0_6, tc_7, kc_7, k0_7, mx_call (q_there (d := 0) J) _, mx_call (q_rLeftSet (d := 0) (hr.eX 2) J) _, mx_call (q_rLeastAll (d := 0) (hr.eX 2) J (lfN_512 F h9)) _, eX95, ra, rb, ite_le, h, mx_call (m_err_2 (d := 0) (eX I 2) J) _]
  · refine OpI.pure hI (nI a - nI b - nI (sN (fun i => if (lfN F n).testBit i = true then LN K M T i else 0) n)) (fun J => ?_) (fun J => ?_)
    · refine mx_Cal_in (ls := [some (.ref 0), none]) (d := 299) tab_114 (by rw [mx_rcv, oc_0]; trivial) (Nat.le_of_ble_eq_true rfl) rfl ?_
      have h1 := q_leastLeft (d := 0) hc J
      rw [sN_left ho] at h1
      simp (disch := omega) only [x_Main_spare_0, x_Main_spare_1, x_Main_spare_4, x_Main_spare_7, x_Main_spare_8, x_Main_spare_11, x_Main_spare_14, x_Main_spare_17, x_Main_spare_18, x_Main_spare_19, x_Main_spare_20, x_Main_spare_23, x_Main_spare_24, x_Main_spare_25, x_Main_spare_28, x_Main_spare_31, x_Main_spare_32, mk_I, mk_J, mk_Q, mk_n, mk_sI, mk_sJ, Option.toList_some, Option.toList_none, List.cons_append, List.nil_append, true_and, and_true, leT, leF, ltT, ltF, eqF, lt0F, le0T, le0F, eq0F, natT, nI_clamp, nI_1, if_true, if_false, not_true_eq_false, not_false_eq_true, z_00, z_10, eq_self, true_or, or_true, or_false, false_or, oc_0, oc_1, oc_2, rt_0_0, rt_0_1, rt_0_3, rt_0_4, rt_0_5, rt_0_6, rt_0_7, rt_0_8, rt_0_9, rt_1_0, rt_1_5, rt_1_6, rt_1_7, rt_1_8, rt_2_1, rt_2_2, rt_2_3, rt_2_4, rt_2_5, mx_call (q_Show_there (d := 0) I J) _, mx_call h1 _, ca, cb, ite_le, h]
    · refine mx_Cal_in (ls := [some (.ref 94), none]) (d := 299) tab_200 (by rw [mx_rcv, oc_94]; trivial) (Nat.le_of_ble_eq_true rfl) rfl ?_
      simp (disch := omega) only [x_Ref_spare_0, x_Ref_spare_1, x_Ref_spare_4, x_Ref_spare_5, x_Ref_spare_6, x_Ref_spare_9, x_Ref_spare_12, x_Ref_spare_13, x_Ref_spare_14, x_Ref_spare_15, x_Ref_spare_18, x_Ref_spare_19, x_Ref_spare_20, x_Ref_spare_23, x_Ref_spare_26, x_Ref_spare_27, mk_I, mk_J, mk_Q, mk_n, mk_sI, mk_sJ, Option.toList_some, Option.toList_none, List.cons_append, List.nil_append, true_and, and_true, leT, leF, ltT, ltF, eqF, lt0F, le0T, le0F, eq0F, natT, nI_clamp, nI_1, if_true, if_false, not_true_eq_false, not_false_eq_true, z_00, z_10, eq_self, true_or, or_true, or_false, false_or, oc_94, rt_94_0, rt_94_1, rt_94_3, rt_94_8, rt_94_9, rt_94_10, rt_94_11, rt_94_12, rt_94_15, rt_94_16, rt_94_18, rt_94_21, rt_94_22, rt_94_23, rt_94_24, or_95, oa_95, tc_0, kc_0, k0_0, tc_1, kc_1, k0_1, tc_2, kc_2, k0_2, tc_3, kc_3, k0_3, tc_4, kc_4, k0_4, tc_5, kc_5, k0_5, tc_6, kc_6, k0_6, tc_7, kc_7, k0_7, mx_call (q_there (d := 0) J) _, mx_call (q_rLeftSet (d := 0) hr J) _, mx_call (q_rLeastAll (d := 0) hr J (lfN_512 F h9)) _, ra, rb, ite_le, h]
