/-! row: the class's thought -/
theorem gdL {L1 L2 : List Nat} {j : Nat} (h : j < L1.length) : (L1 ++ L2).getD j 0 = L1.getD j 0 := by
  rw [List.getD_eq_getElem?_getD, List.getD_eq_getElem?_getD, List.getElem?_append_left h]
theorem gdR {L1 : List Nat} {b : Nat} : (L1 ++ [b]).getD L1.length 0 = b := by
  rw [List.getD_eq_getElem?_getD, List.getElem?_append_right (Nat.le_refl _), Nat.sub_self]
  rfl
theorem pc_pos : ∀ s, s < 64 → s ≠ 0 → 0 < pcN s := by decide +kernel
theorem pc_all : ∀ c, c ≤ 6 → pcN (2 ^ c - 1) = c := by decide +kernel
theorem pc_0 : pcN 0 = 0 := by decide
theorem q_choose {d c : Nat} {g : Nat → Nat → Int} {mem : Nat → Nat} {I : mx_I} (hR : RwQ g mem c I) (h75 : ∀ t, t < 2 ^ c → I 75 t = Int32.ofInt (BV g c (pcN t) t)) (J : mx_J) : ∃ I', (∀ w, w < c → I' 69 w = nI (mem ((pathN g c c (2 ^ c - 1)).getD w 0))) ∧ (pathN g c c (2 ^ c - 1)).length = c ∧ (∀ a j, a ≠ 69 → ¬ (a = 68 ∧ j = 1) → I' a j = I a j) ∧ mx_Cal mx_tab (d + 4) 78 [.ref 67, .int (nI (2 ^ c - 1))] (mk I J) none (mk I' J) := by
  have hR0 := hR
  obtain ⟨h6, r1, r2, r3, r4⟩ := hR0
  have h64 := p64 h6
  have hpos : 0 < 2 ^ c := Nat.pow_pos (by omega)
  have hcl := q_Line_clear (d := 0) L68 I J
  obtain ⟨⟨I', s, w⟩, ⟨a1, a2, ⟨D, a3, a4, a5⟩, a6, a7⟩, hP⟩ := lqx (cl := k_Rows_choose) (C := mx_Cal mx_tab (d + 3)) (pc := 11) (i0 := 0) (n := c) (fun p (t : mx_I × Nat × Option Value) => [some (.ref 67), some (.int (nI (2 ^ c - 1))), some (.int (nI t.2.1)), some (.int (nI p)), t.2.2]) (fun t => mk t.1 J) (fun p t => t.2.1 < 2 ^ c ∧ pcN t.2.1 + p = c ∧ (∃ D : List Nat, D.length = p ∧ pathN g c c (2 ^ c - 1) = D ++ pathN g c (c - p) t.2.1 ∧ ∀ q, q < p → t.1 69 q = nI (mem (D.getD q 0))) ∧ t.1 68 1 = nI p ∧ ∀ a j, a ≠ 69 → ¬ (a = 68 ∧ j = 1) → t.1 a j = I a j) (s0 := (mx_ups I 68 1 0, 2 ^ c - 1, none)) (Nat.zero_le c) ⟨by show 2 ^ c - 1 < 2 ^ c; omega, by show pcN (2 ^ c - 1) + 0 = c; rw [pc_all c h6, Nat.add_zero], ⟨[], rfl, rfl, fun q hq => absurd hq (Nat.not_lt_zero q)⟩, by dsimp only; exact ups_same _ _ _ _, fun a j h1 h2 => ups_ne _ _ (by omega)⟩ (fun p t _ hp hQ => by
    obtain ⟨I', s, w⟩ := t
    obtain ⟨a1, a2, ⟨D, a3, a4, a5⟩, a6, a7⟩ := hQ
    have a1 : s < 2 ^ c := a1
    have a2 : pcN s + p = c := a2
    have a4 : pathN g c c (2 ^ c - 1) = D ++ pathN g c (c - p) s := a4
    have a5 : ∀ q, q < p → I' 69 q = nI (mem (D.getD q 0)) := a5
    have a6 : I' 68 1 = nI p := a6
    have a7 : ∀ a j, a ≠ 69 → ¬ (a = 68 ∧ j = 1) → I' a j = I a j := a7
    obtain ⟨k, hk⟩ : ∃ k, c - p = k + 1 := ⟨c - p - 1, by omega⟩
    have hks : pcN s = k + 1 := by omega
    obtain ⟨z, e1, e2, e3, e4⟩ := BN_ok (g := g) h6 a1 hks
    have eb := BN_some e1
    have hR' : RwQ g mem c I' := hR.congr (fun a j h => a7 a j (by omega) (by omega))
    have hb := q_bestNext (d := d) hR' J a1 hks (fun t ht => (a7 75 t (by omega) (by omega)).trans (h75 t (by omega)))
    rw [eb] at hb
    obtain ⟨z1, z2, z3, z4⟩ := s64 s (by omega) z.1 (by omega) e3
    have p5 := p512 z.1 (by omega)
    have es : nI s &&& (nI (2 ^ z.1) ^^^ -1) = nI (s - 2 ^ z.1) := by rw [andn (by omega) p5, z3]
    have hm : at_ I' 70 (nI z.1) = nI (mem z.1) := by
      rw [at70 _ (by omega)]
      exact hR'.2.2.1 _ e2
    have hap := q_ap68 (d := 0) I' J (show p < 6 by omega) a6 (nI (mem z.1))
    have r1' := hR'.2.1
    refine ⟨(mx_ups (mx_ups I' 69 p (nI (mem z.1))) 68 1 (nI (p + 1)), s - 2 ^ z.1, some (.int (nI z.1))), ⟨by show s - 2 ^ z.1 < 2 ^ c; omega, by show pcN (s - 2 ^ z.1) + (p + 1) = c; omega, ⟨D ++ [z.1], by rw [List.length_append, a3]; rfl, ?_, fun q hq => ?_⟩, by dsimp only; exact ups_same _ _ _ _, fun a j h1 h2 => by dsimp only; rw [ups_ne _ _ (by omega), ups_ne _ _ (by omega)]; exact a7 a j h1 h2⟩, fun P ih => ?_⟩
    · show pathN g c c (2 ^ c - 1) = (D ++ [z.1]) ++ pathN g c (c - (p + 1)) (s - 2 ^ z.1)
      rw [a4, hk, show c - (p + 1) = k by omega, List.append_assoc]
      show D ++ (BN g c k s :: pathN g c k (s - 2 ^ BN g c k s)) = _
      rw [eb]
      rfl
    · dsimp only
      rw [ups_ne _ _ (by omega)]
      by_cases hqp : q = p
      · subst hqp
        rw [ups_same, ← a3, gdR]
      · rw [ups_ne _ _ (by omega), gdL (by omega)]
        exact a5 q (by omega)
    · show mx_R k_Rows_choose (mx_Cal mx_tab (d + 3)) 11 [some (.ref 67), some (.int (nI (2 ^ c - 1))), some (.int (nI s)), some (.int (nI p)), w] [] (mk I' J) P
      rw [x_Rows_choose_11]
      simp (disch := omega) only [x_Rows_choose_12, x_Rows_choose_13, x_Rows_choose_16, x_Rows_choose_19, x_Rows_choose_22, x_Rows_choose_23, x_Rows_choose_24, x_Rows_choose_27, x_Rows_choose_29, x_Rows_choose_30, x_Rows_choose_33, x_Rows_choose_34, x_Rows_choose_37, x_Rows_choose_39, x_Rows_choose_42, x_Rows_choose_45, x_Rows_choose_46, x_Rows_choose_47, x_Rows_choose_49, x_Rows_choose_50, x_Rows_choose_51, x_Rows_choose_52, x_Rows_choose_53, x_Rows_choose_54, x_Rows_choose_57, mk_I, mk_J, mk_Q, mk_n, mk_sI, mk_sJ, Option.toList_some, Option.toList_none, List.cons_append, List.nil_append, true_and, and_true, ↓reduceIte, leT, leF, ltT, ltF, eqF, lt0F, le0T, le0F, eq0F, natT, nI_clamp, nI_1, if_true, if_false, not_true_eq_false, not_false_eq_true, z_00, z_10, eq_self, true_or, or_true, or_false, false_or, oc_67, oc_70, rt_67_1, rt_67_2, rt_67_3, rt_67_4, r1', mx_call hb _, mx_call (q_Line_at (d := 0) L70 _ _ _) _, hm, mx_call hap _, sh_c, es, nI_1]
      exact ih)
  have a4 : pathN g c c (2 ^ c - 1) = D ++ pathN g c (c - c) s := a4
  rw [Nat.sub_self] at a4
  have a4 : pathN g c c (2 ^ c - 1) = D := a4.trans (List.append_nil D)
  refine ⟨I', by rw [a4]; exact a5, by rw [a4]; exact a3, a7, ?_⟩
  have r1' : I' 70 1 = nI c := (a7 70 1 (by omega) (by omega)).trans r1
  refine mx_Cal_in (ls := [some (.ref 67), some (.int (nI (2 ^ c - 1))), none, none, none]) tab_78 (by rw [mx_rcv, oc_67]; trivial) (Nat.le_of_ble_eq_true rfl) rfl ?_
  simp (disch := omega) only [x_Rows_choose_0, x_Rows_choose_1, x_Rows_choose_4, x_Rows_choose_7, x_Rows_choose_8, x_Rows_choose_9, x_Rows_choose_10, mk_I, mk_J, mk_Q, mk_n, mk_sI, mk_sJ, Option.toList_some, Option.toList_none, List.cons_append, List.nil_append, true_and, and_true, oc_67, rt_67_1, rt_67_2, rt_67_3, rt_67_4, mx_call hcl _]
  refine hP _ ?_
  show mx_R k_Rows_choose (mx_Cal mx_tab (d + 3)) 11 [some (.ref 67), some (.int (nI (2 ^ c - 1))), some (.int (nI s)), some (.int (nI c)), w] [] (mk I' J) _
  rw [x_Rows_choose_11]
  simp (disch := omega) only [x_Rows_choose_12, x_Rows_choose_13, x_Rows_choose_16, x_Rows_choose_19, x_Rows_choose_60, mk_I, mk_J, mk_Q, mk_n, mk_sI, mk_sJ, Option.toList_some, Option.toList_none, List.cons_append, List.nil_append, true_and, and_true, ↓reduceIte, leT, leF, ltT, ltF, eqF, lt0F, le0T, le0F, eq0F, natT, nI_clamp, nI_1, if_true, if_false, not_true_eq_false, not_false_eq_true, z_00, z_10, eq_self, true_or, or_true, or_false, false_or, oc_67, oc_70, rt_67_1, rt_67_2, rt_67_3, rt_67_4, r1']
theorem q_rowThink {n : Nat} {I : mx_I} {K M T F od : Nat → Nat} (hc : CI I n K M T F od) (ht : TextR I 1 22 95 178) (h6 : cnN F n ≤ 6) (J : mx_J) : ∃ I', I' 67 0 = Int32.ofInt (BV (gm (I 95) K F n) (cnN F n) (cnN F n) (2 ^ cnN F n - 1)) ∧ (∀ w, w < cnN F n → I' 69 w = nI (memN F n ((pathN (gm (I 95) K F n) (cnN F n) (cnN F n) (2 ^ cnN F n - 1)).getD w 0))) ∧ (pathN (gm (I 95) K F n) (cnN F n) (cnN F n) (2 ^ cnN F n - 1)).length = cnN F n ∧ (∀ a j, ¬ ((a = 0 ∧ j ≠ 2) ∨ a = 20 ∨ a = 21 ∨ a = 25 ∨ a = 26 ∨ a = 53 ∨ (55 ≤ a ∧ a ≤ 62) ∨ (63 ≤ a ∧ a ≤ 66 ∧ j ≠ 0) ∨ (67 ≤ a ∧ a ≤ 78) ∨ (a = 94 ∧ j ≠ 2 ∧ j ≠ 17) ∨ (98 ≤ a ∧ a ≤ 104) ∨ a = 109) → I' a j = I a j) ∧ mx_Cal mx_tab 6 74 [.ref 67, .ref 1] (mk I J) none (mk I' J) := by
  obtain ⟨I1, ⟨b1, b2, b3, b4⟩, hask⟩ := q_ask hc ht h6 J
  have h64 := p64 h6
  have hpos : 0 < 2 ^ cnN F n := Nat.pow_pos (by omega)
  have hR : RwQ (gm (I 95) K F n) (memN F n) (cnN F n) I1 := ⟨h6, b1, b2, b3, fun j p => gm_le _ _ _ _ j p⟩
  have hst0 : mx_Cal mx_tab 1 5 [.ref 74, .int 0, .int 0] (mk I1 J) none (mk (mx_ups I1 75 0 0) J) := q_st74 (d := 0) (k := 0) I1 J (by omega) 0
  have hall : nI (2 ^ cnN F n) - 1 = nI (2 ^ cnN F n - 1) := by
    rw [show 2 ^ cnN F n = (2 ^ cnN F n - 1) + 1 by omega, nI_s1, Nat.add_sub_cancel]
  have sh9 := sh1 (cnN F n) (by omega)
  obtain ⟨I2, ⟨c1, c2⟩, hP⟩ := lqx (cl := k_Rows_think) (C := mx_Cal mx_tab 5) (pc := 28) (i0 := 1) (n := 2 ^ cnN F n) (fun i (_ : mx_I) => [some (.ref 67), some (.ref 1), some (.int (nI (2 ^ cnN F n - 1))), some (.int (nI i))]) (fun I' => mk I' J) (fun i I' => (∀ t, t < i → I' 75 t = Int32.ofInt (BV (gm (I 95) K F n) (cnN F n) (pcN t) t)) ∧ ∀ a j, a ≠ 75 → I' a j = I1 a j) (s0 := mx_ups I1 75 0 0) (by omega) ⟨fun t h => by
      have : t = 0 := by omega
      subst this
      rw [ups_same, pc_0]
      rfl, fun a j h => ups_ne _ _ (by omega)⟩ (fun i I' h1 hi hQ => by
    obtain ⟨c1, c2⟩ := hQ
    have hR' : RwQ (gm (I 95) K F n) (memN F n) (cnN F n) I' := hR.congr (fun a j h => c2 a j (by omega))
    have hpp := pc_pos i (by omega) (by omega)
    obtain ⟨k, hk⟩ : ∃ k, pcN i = k + 1 := ⟨pcN i - 1, by omega⟩
    obtain ⟨z, e1, e2, e3, e4⟩ := BN_ok (g := gm (I 95) K F n) h6 hi hk
    have hb := q_bestNext (d := 0) hR' J hi hk c1
    have hw := q_withNext (d := 0) hR' J hi hk e2 e3 c1
    rw [BN_some e1] at hb
    rw [← e4, ← BV_some e1, ← hk] at hw
    refine ⟨mx_ups I' 75 i (Int32.ofInt (BV (gm (I 95) K F n) (cnN F n) (pcN i) i)), ⟨fun t h => ?_, fun a j h => by rw [ups_ne _ _ (by omega)]; exact c2 a j h⟩, fun P ih => ?_⟩
    · by_cases q : t = i
      · subst q; exact ups_same _ _ _ _
      · rw [ups_ne _ _ (by omega)]; exact c1 t (by omega)
    · rw [x_Rows_think_28]
      simp (disch := omega) only [x_Rows_think_29, x_Rows_think_30, x_Rows_think_33, x_Rows_think_34, x_Rows_think_37, x_Rows_think_38, x_Rows_think_39, x_Rows_think_40, x_Rows_think_41, x_Rows_think_42, x_Rows_think_45, x_Rows_think_48, x_Rows_think_51, x_Rows_think_54, mk_I, mk_J, mk_Q, mk_n, mk_sI, mk_sJ, Option.toList_some, Option.toList_none, List.cons_append, List.nil_append, true_and, and_true, ↓reduceIte, leT, leF, ltT, ltF, eqF, lt0F, le0T, le0F, eq0F, natT, nI_clamp, nI_1, if_true, if_false, not_true_eq_false, not_false_eq_true, z_00, z_10, eq_self, true_or, or_true, or_false, false_or, oc_67, rt_67_1, rt_67_2, rt_67_3, rt_67_4, mx_call hb _, mx_call hw _, mx_call (q_st74 (d := 0) I' J (show i < 64 by omega) _) _, nI_1]
      exact ih)
  have h75 : ∀ t, t < 2 ^ cnN F n → (mx_ups I2 67 0 (Int32.ofInt (BV (gm (I 95) K F n) (cnN F n) (cnN F n) (2 ^ cnN F n - 1)))) 75 t = Int32.ofInt (BV (gm (I 95) K F n) (cnN F n) (pcN t) t) := fun t h => by
    rw [ups_ne _ _ (by omega)]; exact c1 t h
  have hR2 : RwQ (gm (I 95) K F n) (memN F n) (cnN F n) (mx_ups I2 67 0 (Int32.ofInt (BV (gm (I 95) K F n) (cnN F n) (cnN F n) (2 ^ cnN F n - 1)))) := hR.congr (fun a j h => by rw [ups_ne _ _ (by omega)]; exact c2 a j (by omega))
  obtain ⟨I3, d1, d2, d3, d4⟩ := q_choose (d := 0) hR2 h75 J
  have eall : at_ I2 74 (nI (2 ^ cnN F n - 1)) = Int32.ofInt (BV (gm (I 95) K F n) (cnN F n) (cnN F n) (2 ^ cnN F n - 1)) := by
    rw [at74 _ (by omega), c1 _ (by omega), pc_all _ h6]
  refine ⟨I3, ?_, d1, d2, fun a j h => ?_, ?_⟩
  · rw [d3 67 0 (by omega) (by omega)]
    exact ups_same _ _ _ _
  · rw [d3 a j (by omega) (by omega), ups_ne _ _ (by omega), c2 a j (by omega)]
    exact b4 a j (by omega) (by omega) (by omega) (by omega) (by omega)
  · refine mx_Cal_in (ls := [some (.ref 67), some (.ref 1), none, none]) tab_74 (by rw [mx_rcv, oc_67]; trivial) (Nat.le_of_ble_eq_true rfl) rfl ?_
    simp (disch := omega) only [x_Rows_think_0, x_Rows_think_1, x_Rows_think_2, x_Rows_think_5, x_Rows_think_6, x_Rows_think_7, x_Rows_think_10, x_Rows_think_13, x_Rows_think_14, x_Rows_think_15, x_Rows_think_16, x_Rows_think_17, x_Rows_think_18, x_Rows_think_21, x_Rows_think_22, x_Rows_think_23, x_Rows_think_26, x_Rows_think_27, mk_I, mk_J, mk_Q, mk_n, mk_sI, mk_sJ, Option.toList_some, Option.toList_none, List.cons_append, List.nil_append, true_and, and_true, oc_67, oc_70, rt_67_1, rt_67_2, rt_67_3, rt_67_4, mx_call hask _, b1, sh9, hall, mx_call hst0 _]
    refine hP _ ?_
    rw [x_Rows_think_28]
    simp (disch := omega) only [x_Rows_think_29, x_Rows_think_30, x_Rows_think_57, x_Rows_think_58, x_Rows_think_59, x_Rows_think_62, x_Rows_think_63, x_Rows_think_66, x_Rows_think_69, x_Rows_think_70, x_Rows_think_71, x_Rows_think_74, mk_I, mk_J, mk_Q, mk_n, mk_sI, mk_sJ, Option.toList_some, Option.toList_none, List.cons_append, List.nil_append, true_and, and_true, ↓reduceIte, leT, leF, ltT, ltF, eqF, lt0F, le0T, le0F, eq0F, natT, nI_clamp, nI_1, if_true, if_false, not_true_eq_false, not_false_eq_true, z_00, z_10, eq_self, true_or, or_true, or_false, false_or, oc_67, rt_67_1, rt_67_2, rt_67_3, rt_67_4, mx_call (q_Line_at (d := 0) L74 _ _ _) _, eall, mx_call d4 _]
/-! row: the reference -/
def RS (c : Nat) (I : mx_I) : Option (Int × List Nat) → Prop
  | none => I 94 14 = 0
  | some a => I 94 14 = 1 ∧ I 94 13 = Int32.ofInt a.1 ∧ (-600 ≤ a.1 ∧ a.1 ≤ 600) ∧ a.2.length = c ∧ ∀ q, q < c → I 102 q = nI (a.2.getD q 0)
theorem RS.congr {c : Nat} {I I' : mx_I} {S : Option (Int × List Nat)} (h : RS c I S) (e : ∀ a j, (a = 94 ∧ (j = 13 ∨ j = 14)) ∨ a = 102 → I' a j = I a j) : RS c I' S := by
  cases S with
  | none => exact (e 94 14 (by omega)).trans h
  | some a =>
    obtain ⟨h1, h2, h3, h4, h5⟩ := h
    exact ⟨(e 94 14 (by omega)).trans h1, (e 94 13 (by omega)).trans h2, h3, h4, fun q hq => (e 102 q (by omega)).trans (h5 q hq)⟩
theorem bit_at0 : ∀ i, i < 9 → ∀ a, a < 512 → ((nI a >>> (nI i &&& 31) &&& 1 : Int32) = 0) = (a.testBit i = false) := by
  intro i hi a ha
  have h : ∀ i, i < 9 → ∀ a, a < 512 → (decide ((nI a >>> (nI i &&& 31) &&& 1 : Int32) = 0) = !a.testBit i) := by decide +kernel
  have := h i hi a ha
  by_cases hb : a.testBit i = true
  · rw [hb] at this ⊢
    simpa using this
  · have hb : a.testBit i = false := by simpa using hb
    rw [hb] at this ⊢
    simpa using this
theorem or512 : ∀ i, i < 9 → ∀ a, a < 512 → (nI a ||| nI (2 ^ i)) = nI (a ||| 2 ^ i) ∧ a ||| 2 ^ i < 512 := by decide +kernel
theorem zI_le' {a b : Int} (ha : -10000 ≤ a ∧ a ≤ 10000) (hb : -10000 ≤ b ∧ b ≤ 10000) : (Int32.ofInt a ≤ Int32.ofInt b) = (a ≤ b) := zI_le ha hb
theorem l_record {C : mx_C} {c : Nat} {U ac w : Int32} {pre : List Nat} {acc : Int} (I : mx_I) (J : mx_J) (h6 : c ≤ 6) (hl : pre.length = c) (hac : ac = Int32.ofInt acc) (hb : -600 ≤ acc ∧ acc ≤ 600) (hr : ∀ q, q < c → I 101 q = nI (pre.getD q 0)) : ∃ I', RS c I' (some (acc, pre)) ∧ (∀ a j, a ≠ 102 → ¬ (a = 94 ∧ (j = 13 ∨ j = 14)) → I' a j = I a j) ∧ ∀ P, P none (mk I' J) → mx_R k_Ref_goesRow C 21 [some (.ref 94), some (.int w), some (.int (nI c)), some (.int U), some (.int ac), none] [] (mk I J) P := by
  subst hac
  obtain ⟨I', ⟨a1, a2⟩, hP⟩ := lqx (cl := k_Ref_goesRow) (C := C) (pc := 35) (i0 := 0) (n := c) (fun i (_ : mx_I) => [some (.ref 94), some (.int w), some (.int (nI c)), some (.int U), some (.int (Int32.ofInt acc)), some (.int (nI i))]) (fun I' => mk I' J) (fun i I' => (∀ q, q < i → I' 102 q = nI (pre.getD q 0)) ∧ ∀ a j, a ≠ 102 → I' a j = (mx_ups (mx_ups I 94 14 1) 94 13 (Int32.ofInt acc)) a j) (s0 := mx_ups (mx_ups I 94 14 1) 94 13 (Int32.ofInt acc)) (Nat.zero_le c) ⟨fun q hq => absurd hq (Nat.not_lt_zero q), fun _ _ _ => rfl⟩ (fun i I' _ hi hQ => by
    obtain ⟨a1, a2⟩ := hQ
    have e1 : I' 101 i = nI (pre.getD i 0) := by
      rw [a2 101 i (by omega), ups_ne _ _ (by omega), ups_ne _ _ (by omega)]
      exact hr i hi
    refine ⟨mx_ups I' 102 i (nI (pre.getD i 0)), ⟨fun q hq => ?_, fun a j h => by rw [ups_ne _ _ (by omega)]; exact a2 a j h⟩, fun P ih => ?_⟩
    · by_cases hqi : q = i
      · subst hqi; exact ups_same _ _ _ _
      · rw [ups_ne _ _ (by omega)]; exact a1 q (by omega)
    · rw [x_Ref_goesRow_35]
      simp (disch := omega) only [x_Ref_goesRow_37, x_Ref_goesRow_38, x_Ref_goesRow_41, x_Ref_goesRow_42, x_Ref_goesRow_45, x_Ref_goesRow_47, x_Ref_goesRow_48, x_Ref_goesRow_51, x_Ref_goesRow_53, x_Ref_goesRow_54, x_Ref_goesRow_55, x_Ref_goesRow_58, mk_I, mk_J, mk_Q, mk_n, mk_sI, mk_sJ, Option.toList_some, Option.toList_none, List.cons_append, List.nil_append, true_and, and_true, ↓reduceIte, leT, leF, ltT, ltF, eqF, lt0F, le0T, le0F, eq0F, natT, nI_clamp, nI_1, if_true, if_false, not_true_eq_false, not_false_eq_true, z_00, z_10, eq_self, true_or, or_true, or_false, false_or, oc_94, rt_94_0, rt_94_1, rt_94_3, rt_94_8, rt_94_9, rt_94_10, rt_94_11, rt_94_12, rt_94_15, rt_94_16, rt_94_18, rt_94_21, rt_94_22, rt_94_23, rt_94_24, or_101, oa_102, nI_clamp, e1, nI_1]
      exact ih)
  refine ⟨I', ⟨?_, ?_, hb, hl, a1⟩, fun a j h1 h2 => ?_, fun P hp => ?_⟩
  · rw [a2 94 14 (by omega), ups_ne _ _ (by omega), ups_same]
  · rw [a2 94 13 (by omega), ups_same]
  · rw [a2 a j h1, ups_ne _ _ (by omega), ups_ne _ _ (by omega)]
  · simp (disch := omega) only [x_Ref_goesRow_21, x_Ref_goesRow_22, x_Ref_goesRow_23, x_Ref_goesRow_26, x_Ref_goesRow_27, x_Ref_goesRow_29, x_Ref_goesRow_32, x_Ref_goesRow_33, mk_I, mk_J, mk_Q, mk_n, mk_sI, mk_sJ, Option.toList_some, Option.toList_none, List.cons_append, List.nil_append, true_and, and_true, oc_94, decide_true, Bool.or_true, Bool.true_or, Bool.and_true, eq_self]
    refine hP P ?_
    rw [x_Ref_goesRow_35]
    simp (disch := omega) only [x_Ref_goesRow_37, x_Ref_goesRow_38, x_Ref_goesRow_61, ↓reduceIte, leT, leF, ltT, ltF, eqF, lt0F, le0T, le0F, eq0F, natT, nI_clamp, nI_1, if_true, if_false, not_true_eq_false, not_false_eq_true, z_00, z_10, eq_self, true_or, or_true, or_false, false_or]
    exact hp
theorem q_goes {n c : Nat} {K M T F pl : Nat → Nat} {X : Nat → Int32} (h6 : c ≤ 6) : ∀ (k U : Nat) (pre : List Nat) (acc : Int) (I : mx_I) (J : mx_J) (S : Option (Int × List Nat)), RI I n K M T F pl → TxV 1 178 X → I 95 = X → pre.length + k = c → U < 512 → (-(99 * (pre.length : Int)) ≤ acc ∧ acc ≤ 99 * (pre.length : Int)) → RS c I S → (∀ q, q < pre.length → I 101 q = nI (pre.getD q 0)) → ∃ I', RS c I' (fm S (resN (GV X K) F n k U pre acc)) ∧ (∀ q, q < pre.length → I' 101 q = nI (pre.getD q 0)) ∧ (∀ a j, a ≠ 99 → a ≠ 100 → a ≠ 101 → a ≠ 102 → ¬ (a = 94 ∧ (j = 13 ∨ j = 14)) → I' a j = I a j) ∧ mx_Cal mx_tab (k + 5) 208 [.ref 94, .int (nI pre.length), .int (nI c), .int (nI U), .int (Int32.ofInt acc)] (mk I J) none (mk I' J)
  | 0, U, pre, acc, I, J, S, hr, ht, hX, hl, hU, hb, hS, hrow => by
    have hl : pre.length = c := by omega
    show ∃ I', RS c I' (fm S (some (acc, pre))) ∧ _
    have ll : nI pre.length = nI c := by rw [hl]
    have hrow' : ∀ q, q < c → I 101 q = nI (pre.getD q 0) := fun q hq => hrow q (by omega)
    obtain ⟨I', v1, v2, v3⟩ := l_record (C := mx_Cal mx_tab 4) (U := nI U) (w := nI pre.length) (acc := acc) I J h6 hl rfl (by omega) hrow'
    cases S with
    | none =>
      have hS : I 94 14 = 0 := hS
      refine ⟨I', v1, fun q hq => (v2 101 q (by omega) (by omega)).trans (hrow q hq), fun a j h1 h2 h3 h4 h5 => v2 a j h4 h5, ?_⟩
      refine mx_Cal_in (ls := [some (.ref 94), some (.int (nI pre.length)), some (.int (nI c)), some (.int (nI U)), some (.int (Int32.ofInt acc)), none]) tab_208 (by rw [mx_rcv, oc_94]; trivial) (Nat.le_of_ble_eq_true rfl) rfl ?_
      simp (disch := omega) only [x_Ref_goesRow_0, x_Ref_goesRow_1, x_Ref_goesRow_2, x_Ref_goesRow_5, x_Ref_goesRow_6, x_Ref_goesRow_9, x_Ref_goesRow_12, x_Ref_goesRow_14, x_Ref_goesRow_15, x_Ref_goesRow_18, mk_I, mk_J, mk_Q, mk_n, mk_sI, mk_sJ, Option.toList_some, Option.toList_none, List.cons_append, List.nil_append, true_and, and_true, ↓reduceIte, leT, leF, ltT, ltF, eqF, lt0F, le0T, le0F, eq0F, natT, nI_clamp, nI_1, if_true, if_false, not_true_eq_false, not_false_eq_true, z_00, z_10, eq_self, true_or, or_true, or_false, false_or, oc_94, ll, hS]
      rw [ll] at v3
      exact v3 _ (And.intro rfl rfl)
    | some a =>
      obtain ⟨s1, s2, s3, s4, s5⟩ := hS
      rw [fm_ss]
      have hle := zI_le (a := acc) (b := a.1) (by omega) (by omega)
      by_cases hlt : a.1 < acc
      · have hle' : (acc ≤ a.1) = False := eq_false (by omega)
        rw [if_pos (show a.1 < (acc, pre).1 from hlt)]
        refine ⟨I', v1, fun q hq => (v2 101 q (by omega) (by omega)).trans (hrow q hq), fun a j h1 h2 h3 h4 h5 => v2 a j h4 h5, ?_⟩
        refine mx_Cal_in (ls := [some (.ref 94), some (.int (nI pre.length)), some (.int (nI c)), some (.int (nI U)), some (.int (Int32.ofInt acc)), none]) tab_208 (by rw [mx_rcv, oc_94]; trivial) (Nat.le_of_ble_eq_true rfl) rfl ?_
        simp (disch := omega) only [x_Ref_goesRow_0, x_Ref_goesRow_1, x_Ref_goesRow_2, x_Ref_goesRow_5, x_Ref_goesRow_6, x_Ref_goesRow_9, x_Ref_goesRow_12, x_Ref_goesRow_14, x_Ref_goesRow_15, x_Ref_goesRow_18, mk_I, mk_J, mk_Q, mk_n, mk_sI, mk_sJ, Option.toList_some, Option.toList_none, List.cons_append, List.nil_append, true_and, and_true, ↓reduceIte, leT, leF, ltT, ltF, eqF, lt0F, le0T, le0F, eq0F, natT, nI_clamp, nI_1, if_true, if_false, not_true_eq_false, not_false_eq_true, z_00, z_10, eq_self, true_or, or_true, or_false, false_or, oc_94, ll, s1, s2, hle, hle']
        rw [ll] at v3
        exact v3 _ (And.intro rfl rfl)
      · have hle' : (acc ≤ a.1) = True := eq_true (by omega)
        rw [if_neg (show ¬ a.1 < (acc, pre).1 from hlt)]
        refine ⟨I, ⟨s1, s2, s3, s4, s5⟩, hrow, fun _ _ _ _ _ _ _ => rfl, ?_⟩
        refine mx_Cal_in (ls := [some (.ref 94), some (.int (nI pre.length)), some (.int (nI c)), some (.int (nI U)), some (.int (Int32.ofInt acc)), none]) tab_208 (by rw [mx_rcv, oc_94]; trivial) (Nat.le_of_ble_eq_true rfl) rfl ?_
        simp (disch := omega) only [x_Ref_goesRow_0, x_Ref_goesRow_1, x_Ref_goesRow_2, x_Ref_goesRow_5, x_Ref_goesRow_6, x_Ref_goesRow_9, x_Ref_goesRow_12, x_Ref_goesRow_14, x_Ref_goesRow_15, x_Ref_goesRow_18, x_Ref_goesRow_61, mk_I, mk_J, mk_Q, mk_n, mk_sI, mk_sJ, Option.toList_some, Option.toList_none, List.cons_append, List.nil_append, true_and, and_true, ↓reduceIte, leT, leF, ltT, ltF, eqF, lt0F, le0T, le0F, eq0F, natT, nI_clamp, nI_1, if_true, if_false, not_true_eq_false, not_false_eq_true, z_00, z_10, eq_self, true_or, or_true, or_false, false_or, oc_94, ll, s1, s2, hle, hle']
  | k + 1, U, pre, acc, I, J, S, hr, ht, hX, hl, hU, hb, hS, hrow => by
    have h9 := hr.1
    have hn := hr.2.1
    obtain ⟨I', ⟨a1, a2, a3⟩, hP⟩ := lqx (cl := k_Ref_goesRow) (C := mx_Cal mx_tab (k + 5)) (pc := 65) (i0 := 0) (n := n) (fun i (_ : mx_I) => [some (.ref 94), some (.int (nI pre.length)), some (.int (nI c)), some (.int (nI U)), some (.int (Int32.ofInt acc)), some (.int (nI i))]) (fun I' => mk I' J) (fun i I' => RS c I' (fm S (fld (fun i => if F i = 0 ∧ U.testBit i = false then resN (GV X K) F n k (U ||| 2 ^ i) (pre ++ [i]) (acc + GV X K i pre.length) else none) i)) ∧ (∀ q, q < pre.length → I' 101 q = nI (pre.getD q 0)) ∧ ∀ a j, a ≠ 99 → a ≠ 100 → a ≠ 101 → a ≠ 102 → ¬ (a = 94 ∧ (j = 13 ∨ j = 14)) → I' a j = I a j) (s0 := I) (Nat.zero_le n) ⟨by show RS c I (fm S none); rw [fm_none]; exact hS, hrow, fun _ _ _ _ _ _ _ => rfl⟩ (fun i I' _ hi hQ => by
      obtain ⟨a1, a2, a3⟩ := hQ
      have g95 : I' 95 = X := (funext fun j => a3 95 j (by omega) (by omega) (by omega) (by omega) (by omega)).trans hX
      have hr' : RI I' n K M T F pl := hr.congr (fun j _ => a3 95 j (by omega) (by omega) (by omega) (by omega) (by omega))
      have hn' := hr'.2.1
      have hbit := bit_at0 i (by omega) U hU
      by_cases hgo : F i = 0 ∧ U.testBit i = false
      · obtain ⟨hF, hub⟩ := hgo
        have hz : ((nI U >>> (nI i &&& 31) &&& 1 : Int32) = 0) = True := by rw [hbit]; exact eq_true hub
        obtain ⟨o1, o2⟩ := or512 i (by omega) U hU
        have hg95 : (mx_ups I' 101 pre.length (nI i)) 95 = X := (funext fun j => ups_ne _ _ (by omega)).trans g95
        obtain ⟨I2, u1, u2⟩ := q_likedTold (mx_ups I' 101 pre.length (nI i)) J (by rw [hg95]; exact ht) (nI i) (nI pre.length) (nI (K i))
        rw [hg95] at u2
        have hgb := GV_le X K i pre.length
        have u2' : mx_Cal mx_tab 3 188 [.ref 94, .int (nI i), .int (nI pre.length), .int (nI (K i))] (mk (mx_ups I' 101 pre.length (nI i)) J) (some (.int (Int32.ofInt (GV X K i pre.length)))) (mk I2 J) := by
          have e : gv X K i pre.length = Int32.ofInt (GV X K i pre.length) := gv_of _ _ _ _
          rw [← e]
          exact u2
        have f2 : ∀ a j, a ≠ 99 → a ≠ 100 → a ≠ 101 → I2 a j = I' a j := fun a j h1 h2 h3 => (u1 a j h1 h2).trans (ups_ne _ _ (by omega))
        have hr2 : RI I2 n K M T F pl := hr'.congr (fun j _ => f2 95 j (by omega) (by omega) (by omega))
        have g952 : I2 95 = X := (funext fun j => f2 95 j (by omega) (by omega) (by omega)).trans g95
        have hk3 := q_itsK (d := 0) (hr'.congr (I' := mx_ups I' 101 pre.length (nI i)) (fun j _ => ups_ne _ _ (by omega))) J hi
        have ll : (pre ++ [i]).length = pre.length + 1 := by rw [List.length_append]; rfl
        have row2 : ∀ q, q < (pre ++ [i]).length → I2 101 q = nI ((pre ++ [i]).getD q 0) := fun q hq => by
          rw [u1 101 q (by omega) (by omega)]
          by_cases hqp : q = pre.length
          · subst hqp
            rw [ups_same, gdR]
          · rw [ups_ne _ _ (by omega), gdL (by omega)]
            exact a2 q (by omega)
        obtain ⟨I3, v1, v2, v3, v4⟩ := q_goes h6 k (U ||| 2 ^ i) (pre ++ [i]) (acc + GV X K i pre.length) I2 J _ hr2 ht g952 (by rw [ll]; omega) o2 (by rw [ll]; omega) (a1.congr (fun a j h => f2 a j (by omega) (by omega) (by omega))) row2
        rw [ll] at v4
        refine ⟨I3, ⟨?_, fun q hq => ?_, fun a j h1 h2 h3 h4 h5 => by rw [v3 a j h1 h2 h3 h4 h5, f2 a j h1 h2 h3]; exact a3 a j h1 h2 h3 h4 h5⟩, fun P ih => ?_⟩
        · rw [fm_assoc] at v1
          show RS c I3 (fm S (fm (fld _ i) (if F i = 0 ∧ U.testBit i = false then resN (GV X K) F n k (U ||| 2 ^ i) (pre ++ [i]) (acc + GV X K i pre.length) else none)))
          rw [if_pos ⟨hF, hub⟩]
          exact v1
        · rw [v2 q (by omega), gdL hq]
        · rw [x_Ref_goesRow_65]
          simp (disch := omega) only [x_Ref_goesRow_67, x_Ref_goesRow_68, x_Ref_goesRow_71, x_Ref_goesRow_73, x_Ref_goesRow_74, x_Ref_goesRow_77, x_Ref_goesRow_78, x_Ref_goesRow_80, x_Ref_goesRow_83, x_Ref_goesRow_86, x_Ref_goesRow_87, x_Ref_goesRow_89, x_Ref_goesRow_90, x_Ref_goesRow_91, x_Ref_goesRow_92, x_Ref_goesRow_95, x_Ref_goesRow_96, x_Ref_goesRow_99, x_Ref_goesRow_100, x_Ref_goesRow_102, x_Ref_goesRow_103, x_Ref_goesRow_104, x_Ref_goesRow_105, x_Ref_goesRow_106, x_Ref_goesRow_107, x_Ref_goesRow_108, x_Ref_goesRow_109, x_Ref_goesRow_110, x_Ref_goesRow_112, x_Ref_goesRow_113, x_Ref_goesRow_114, x_Ref_goesRow_116, x_Ref_goesRow_117, x_Ref_goesRow_119, x_Ref_goesRow_120, x_Ref_goesRow_121, x_Ref_goesRow_123, x_Ref_goesRow_124, x_Ref_goesRow_127, x_Ref_goesRow_130, x_Ref_goesRow_131, x_Ref_goesRow_134, x_Ref_goesRow_137, mk_I, mk_J, mk_Q, mk_n, mk_sI, mk_sJ, Option.toList_some, Option.toList_none, List.cons_append, List.nil_append, true_and, and_true, ↓reduceIte, leT, leF, ltT, ltF, eqF, lt0F, le0T, le0F, eq0F, natT, nI_clamp, nI_1, if_true, if_false, not_true_eq_false, not_false_eq_true, z_00, z_10, eq_self, true_or, or_true, or_false, false_or, oc_94, rt_94_0, rt_94_1, rt_94_3, rt_94_8, rt_94_9, rt_94_10, rt_94_11, rt_94_12, rt_94_15, rt_94_16, rt_94_18, rt_94_21, rt_94_22, rt_94_23, rt_94_24, or_95, oa_95, tc_0, kc_0, k0_0, tc_1, kc_1, k0_1, tc_2, kc_2, k0_2, tc_3, kc_3, k0_3, tc_4, kc_4, k0_4, tc_5, kc_5, k0_5, tc_6, kc_6, k0_6, tc_7, kc_7, k0_7, oa_101, hn', nI_clamp, mx_call (q_rIsL (d := 0) hr' _ hi) _, hF, hz, nI_1, sh1, o1, mx_call hk3 _, mx_call u2' _, zI_add, mx_call v4 _]
          exact ih
      · refine ⟨I', ⟨?_, a2, a3⟩, fun P ih => ?_⟩
        · show RS c I' (fm S (fm (fld _ i) (if F i = 0 ∧ U.testBit i = false then resN (GV X K) F n k (U ||| 2 ^ i) (pre ++ [i]) (acc + GV X K i pre.length) else none)))
          rw [if_neg hgo, fm_none]
          exact a1
        · rw [x_Ref_goesRow_65]
          by_cases hF : F i = 0
          · have hub : ¬ U.testBit i = false := fun q => hgo ⟨hF, q⟩
            have hz : ((nI U >>> (nI i &&& 31) &&& 1 : Int32) = 0) = False := by rw [hbit]; exact eq_false hub
            simp (disch := omega) only [x_Ref_goesRow_67, x_Ref_goesRow_68, x_Ref_goesRow_71, x_Ref_goesRow_73, x_Ref_goesRow_74, x_Ref_goesRow_77, x_Ref_goesRow_78, x_Ref_goesRow_80, x_Ref_goesRow_83, x_Ref_goesRow_86, x_Ref_goesRow_87, x_Ref_goesRow_89, x_Ref_goesRow_90, x_Ref_goesRow_91, x_Ref_goesRow_92, x_Ref_goesRow_95, x_Ref_goesRow_96, x_Ref_goesRow_99, x_Ref_goesRow_100, x_Ref_goesRow_102, x_Ref_goesRow_103, x_Ref_goesRow_104, x_Ref_goesRow_105, x_Ref_goesRow_106, x_Ref_goesRow_107, x_Ref_goesRow_108, x_Ref_goesRow_109, x_Ref_goesRow_110, x_Ref_goesRow_112, x_Ref_goesRow_113, x_Ref_goesRow_114, x_Ref_goesRow_116, x_Ref_goesRow_117, x_Ref_goesRow_119, x_Ref_goesRow_120, x_Ref_goesRow_121, x_Ref_goesRow_123, x_Ref_goesRow_124, x_Ref_goesRow_127, x_Ref_goesRow_130, x_Ref_goesRow_131, x_Ref_goesRow_134, x_Ref_goesRow_137, mk_I, mk_J, mk_Q, mk_n, mk_sI, mk_sJ, Option.toList_some, Option.toList_none, List.cons_append, List.nil_append, true_and, and_true, ↓reduceIte, leT, leF, ltT, ltF, eqF, lt0F, le0T, le0F, eq0F, natT, nI_clamp, nI_1, if_true, if_false, not_true_eq_false, not_false_eq_true, z_00, z_10, eq_self, true_or, or_true, or_false, false_or, oc_94, rt_94_0, rt_94_1, rt_94_3, rt_94_8, rt_94_9, rt_94_10, rt_94_11, rt_94_12, rt_94_15, rt_94_16, rt_94_18, rt_94_21, rt_94_22, rt_94_23, rt_94_24, or_95, oa_95, tc_0, kc_0, k0_0, tc_1, kc_1, k0_1, tc_2, kc_2, k0_2, tc_3, kc_3, k0_3, tc_4, kc_4, k0_4, tc_5, kc_5, k0_5, tc_6, kc_6, k0_6, tc_7, kc_7, k0_7, hn', mx_call (q_rIsL (d := 0) hr' _ hi) _, hF, hz, nI_1]
            exact ih
          · simp (disch := omega) only [x_Ref_goesRow_67, x_Ref_goesRow_68, x_Ref_goesRow_71, x_Ref_goesRow_73, x_Ref_goesRow_74, x_Ref_goesRow_77, x_Ref_goesRow_78, x_Ref_goesRow_80, x_Ref_goesRow_83, x_Ref_goesRow_86, x_Ref_goesRow_87, x_Ref_goesRow_89, x_Ref_goesRow_90, x_Ref_goesRow_91, x_Ref_goesRow_92, x_Ref_goesRow_95, x_Ref_goesRow_96, x_Ref_goesRow_99, x_Ref_goesRow_100, x_Ref_goesRow_102, x_Ref_goesRow_103, x_Ref_goesRow_104, x_Ref_goesRow_105, x_Ref_goesRow_106, x_Ref_goesRow_107, x_Ref_goesRow_108, x_Ref_goesRow_109, x_Ref_goesRow_110, x_Ref_goesRow_112, x_Ref_goesRow_113, x_Ref_goesRow_114, x_Ref_goesRow_116, x_Ref_goesRow_117, x_Ref_goesRow_119, x_Ref_goesRow_120, x_Ref_goesRow_121, x_Ref_goesRow_123, x_Ref_goesRow_124, x_Ref_goesRow_127, x_Ref_goesRow_130, x_Ref_goesRow_131, x_Ref_goesRow_134, x_Ref_goesRow_137, mk_I, mk_J, mk_Q, mk_n, mk_sI, mk_sJ, Option.toList_some, Option.toList_none, List.cons_append, List.nil_append, true_and, and_true, ↓reduceIte, leT, leF, ltT, ltF, eqF, lt0F, le0T, le0F, eq0F, natT, nI_clamp, nI_1, if_true, if_false, not_true_eq_false, not_false_eq_true, z_00, z_10, eq_self, true_or, or_true, or_false, false_or, oc_94, rt_94_0, rt_94_1, rt_94_3, rt_94_8, rt_94_9, rt_94_10, rt_94_11, rt_94_12, rt_94_15, rt_94_16, rt_94_18, rt_94_21, rt_94_22, rt_94_23, rt_94_24, or_95, oa_95, tc_0, kc_0, k0_0, tc_1, kc_1, k0_1, tc_2, kc_2, k0_2, tc_3, kc_3, k0_3, tc_4, kc_4, k0_4, tc_5, kc_5, k0_5, tc_6, kc_6, k0_6, tc_7, kc_7, k0_7, hn', mx_call (q_rIsL (d := 0) hr' _ hi) _, hF, nI_1]
            exact ih)
    refine ⟨I', a1, a2, a3, ?_⟩
    have hn' : I' 95 6 = nI n := (a3 95 6 (by omega) (by omega) (by omega) (by omega) (by omega)).trans hn
    show mx_Cal mx_tab ((k + 5) + 1) 208 [.ref 94, .int (nI pre.length), .int (nI c), .int (nI U), .int (Int32.ofInt acc)] (mk I J) none (mk I' J)
    refine mx_Cal_in (ls := [some (.ref 94), some (.int (nI pre.length)), some (.int (nI c)), some (.int (nI U)), some (.int (Int32.ofInt acc)), none]) tab_208 (by rw [mx_rcv, oc_94]; trivial) (Nat.le_of_ble_eq_true rfl) rfl ?_
    simp (disch := omega) only [x_Ref_goesRow_0, x_Ref_goesRow_1, x_Ref_goesRow_2, x_Ref_goesRow_62, x_Ref_goesRow_63, mk_I, mk_J, mk_Q, mk_n, mk_sI, mk_sJ, Option.toList_some, Option.toList_none, List.cons_append, List.nil_append, true_and, and_true, ↓reduceIte, leT, leF, ltT, ltF, eqF, lt0F, le0T, le0F, eq0F, natT, nI_clamp, nI_1, if_true, if_false, not_true_eq_false, not_false_eq_true, z_00, z_10, eq_self, true_or, or_true, or_false, false_or]
    refine hP _ ?_
    rw [x_Ref_goesRow_65]
    simp (disch := omega) only [x_Ref_goesRow_67, x_Ref_goesRow_68, x_Ref_goesRow_71, x_Ref_goesRow_73, x_Ref_goesRow_74, x_Ref_goesRow_140, mk_I, mk_J, mk_Q, mk_n, mk_sI, mk_sJ, Option.toList_some, Option.toList_none, List.cons_append, List.nil_append, true_and, and_true, ↓reduceIte, leT, leF, ltT, ltF, eqF, lt0F, le0T, le0F, eq0F, natT, nI_clamp, nI_1, if_true, if_false, not_true_eq_false, not_false_eq_true, z_00, z_10, eq_self, true_or, or_true, or_false, false_or, oc_94, rt_94_0, rt_94_1, rt_94_3, rt_94_8, rt_94_9, rt_94_10, rt_94_11, rt_94_12, rt_94_15, rt_94_16, rt_94_18, rt_94_21, rt_94_22, rt_94_23, rt_94_24, or_95, oa_95, tc_0, kc_0, k0_0, tc_1, kc_1, k0_1, tc_2, kc_2, k0_2, tc_3, kc_3, k0_3, tc_4, kc_4, k0_4, tc_5, kc_5, k0_5, tc_6, kc_6, k0_6, tc_7, kc_7, k0_7, hn']
theorem map_getD (f : Nat → Nat) {L : List Nat} {w : Nat} (h : w < L.length) : (L.map f).getD w 0 = f (L.getD w 0) := by
  rw [List.getD_eq_getElem?_getD, List.getD_eq_getElem?_getD, List.getElem?_map]
  rw [List.getElem?_eq_getElem h]
  rfl
theorem op_row {L : Nat} {xs : Nat → Int32} {I : mx_I} (hI : Inv L xs I) (x0 : Int32) : OpI L xs I 119 209 [.int x0] := by
  obtain ⟨⟨n, pl, od, hit⟩, hcl, htp, hw, ht0, ht1⟩ := hI.1
  have ho := hit.2.2.2.1
  have hz5 := hit.2.2.2.2.2
  obtain ⟨K, M, T, F, hc, hr⟩ := hit.sk
  have h9 := hc.1
  have hn := hc.2.1
  have hm := hr.2.1
  obtain ⟨z0, a, b, c, a9, b9, c9, ca, ra, cb, rb, cc, rc⟩ := hcl
  have z0 : I 1 4 = I 95 3 := z0
  have ca : I 1 1 = nI a := ca
  have cb : I 1 2 = nI b := cb
  have cc : I 1 3 = nI c := cc
  have hm1 : (-1 : Int32).toInt = -1 := by decide
  have hl5 := lfN_512 F h9
  have hpc := pcN_cnN F h9
  have hp9 := pcN_le (lfN F n)
  by_cases h1 : x0 < -1
  · refine OpI.err hI 1 (fun J => ?_) (fun J => ?_)
    · refine mx_Cal_in (ls := [some (.ref 0), some (.int _), none]) (d := 299) tab_119 (by rw [mx_rcv, oc_0]; trivial) (Nat.le_of_ble_eq_true rfl) rfl ?_
      simp (disch := omega) only [x_Main_row_0, x_Main_row_1, x_Main_row_2, x_Main_row_5, x_Main_row_6, x_Main_row_8, x_Main_row_11, x_Main_row_12, x_Main_row_13, x_Main_row_16, mk_I, mk_J, mk_Q, mk_n, mk_sI, mk_sJ, Option.toList_some, Option.toList_none, List.cons_append, List.nil_append, true_and, and_true, ↓reduceIte, leT, leF, ltT, ltF, eqF, lt0F, le0T, le0F, eq0F, natT, nI_clamp, nI_1, if_true, if_false, not_true_eq_false, not_false_eq_true, z_00, z_10, eq_self, true_or, or_true, or_false, false_or, oc_0, oc_1, oc_2, rt_0_0, rt_0_1, rt_0_3, rt_0_4, rt_0_5, rt_0_6, rt_0_7, rt_0_8, rt_0_9, rt_1_0, rt_1_5, rt_1_6, rt_1_7, rt_1_8, rt_2_1, rt_2_2, rt_2_3, rt_2_4, rt_2_5, ite_le, h1, mx_call (x_err_1 (d := 0) I J) _, mx_call (x_errN (d := 0) (k := 1) I J (by omega)) _]
    · refine mx_Cal_in (ls := [some (.ref 94), some (.int _), none]) (d := 299) tab_209 (by rw [mx_rcv, oc_94]; trivial) (Nat.le_of_ble_eq_true rfl) rfl ?_
      simp (disch := omega) only [x_Ref_row_0, x_Ref_row_1, x_Ref_row_2, x_Ref_row_3, x_Ref_row_6, x_Ref_row_9, x_Ref_row_10, x_Ref_row_11, x_Ref_row_14, mk_I, mk_J, mk_Q, mk_n, mk_sI, mk_sJ, Option.toList_some, Option.toList_none, List.cons_append, List.nil_append, true_and, and_true, ↓reduceIte, leT, leF, ltT, ltF, eqF, lt0F, le0T, le0F, eq0F, natT, nI_clamp, nI_1, if_true, if_false, not_true_eq_false, not_false_eq_true, z_00, z_10, eq_self, true_or, or_true, or_false, false_or, oc_94, rt_94_0, rt_94_1, rt_94_3, rt_94_8, rt_94_9, rt_94_10, rt_94_11, rt_94_12, rt_94_15, rt_94_16, rt_94_18, rt_94_21, rt_94_22, rt_94_23, rt_94_24, or_95, oa_95, tc_0, kc_0, k0_0, tc_1, kc_1, k0_1, tc_2, kc_2, k0_2, tc_3, kc_3, k0_3, tc_4, kc_4, k0_4, tc_5, kc_5, k0_5, tc_6, kc_6, k0_6, tc_7, kc_7, k0_7, eX95, eX94, mx_call (q_Ref_in (d := 0) _ _ _ _) _, h1, mx_call (m_err_1 (d := 0) (eX I 1) J) _, mx_call (m_errN (d := 0) (k := 1) (eX I 1) J (by omega)) _]
  by_cases h2 : x0 < 6
  rotate_left
  · have h2' : (5 : Int32) < x0 := by
      rw [Int32.lt_iff_toInt_lt] at h2 ⊢
      have : (6 : Int32).toInt = 6 := rfl
      have : (5 : Int32).toInt = 5 := rfl
      omega
    refine OpI.err hI 1 (fun J => ?_) (fun J => ?_)
    · refine mx_Cal_in (ls := [some (.ref 0), some (.int _), none]) (d := 299) tab_119 (by rw [mx_rcv, oc_0]; trivial) (Nat.le_of_ble_eq_true rfl) rfl ?_
      simp (disch := omega) only [x_Main_row_0, x_Main_row_1, x_Main_row_2, x_Main_row_5, x_Main_row_6, x_Main_row_8, x_Main_row_11, x_Main_row_12, x_Main_row_13, x_Main_row_16, mk_I, mk_J, mk_Q, mk_n, mk_sI, mk_sJ, Option.toList_some, Option.toList_none, List.cons_append, List.nil_append, true_and, and_true, ↓reduceIte, leT, leF, ltT, ltF, eqF, lt0F, le0T, le0F, eq0F, natT, nI_clamp, nI_1, if_true, if_false, not_true_eq_false, not_false_eq_true, z_00, z_10, eq_self, true_or, or_true, or_false, false_or, oc_0, oc_1, oc_2, rt_0_0, rt_0_1, rt_0_3, rt_0_4, rt_0_5, rt_0_6, rt_0_7, rt_0_8, rt_0_9, rt_1_0, rt_1_5, rt_1_6, rt_1_7, rt_1_8, rt_2_1, rt_2_2, rt_2_3, rt_2_4, rt_2_5, ite_le, h1, h2, mx_call (x_err_1 (d := 0) I J) _, mx_call (x_errN (d := 0) (k := 1) I J (by omega)) _]
    · refine mx_Cal_in (ls := [some (.ref 94), some (.int _), none]) (d := 299) tab_209 (by rw [mx_rcv, oc_94]; trivial) (Nat.le_of_ble_eq_true rfl) rfl ?_
      simp (disch := omega) only [x_Ref_row_0, x_Ref_row_1, x_Ref_row_2, x_Ref_row_3, x_Ref_row_6, x_Ref_row_9, x_Ref_row_10, x_Ref_row_11, x_Ref_row_14, mk_I, mk_J, mk_Q, mk_n, mk_sI, mk_sJ, Option.toList_some, Option.toList_none, List.cons_append, List.nil_append, true_and, and_true, ↓reduceIte, leT, leF, ltT, ltF, eqF, lt0F, le0T, le0F, eq0F, natT, nI_clamp, nI_1, if_true, if_false, not_true_eq_false, not_false_eq_true, z_00, z_10, eq_self, true_or, or_true, or_false, false_or, oc_94, rt_94_0, rt_94_1, rt_94_3, rt_94_8, rt_94_9, rt_94_10, rt_94_11, rt_94_12, rt_94_15, rt_94_16, rt_94_18, rt_94_21, rt_94_22, rt_94_23, rt_94_24, or_95, oa_95, tc_0, kc_0, k0_0, tc_1, kc_1, k0_1, tc_2, kc_2, k0_2, tc_3, kc_3, k0_3, tc_4, kc_4, k0_4, tc_5, kc_5, k0_5, tc_6, kc_6, k0_6, tc_7, kc_7, k0_7, eX95, eX94, mx_call (q_Ref_in (d := 0) _ _ _ _) _, h1, h2', mx_call (m_err_1 (d := 0) (eX I 1) J) _, mx_call (m_errN (d := 0) (k := 1) (eX I 1) J (by omega)) _]
  have h2' : ¬ (5 : Int32) < x0 := by
    rw [Int32.lt_iff_toInt_lt] at h2 ⊢
    have : (6 : Int32).toInt = 6 := rfl
    have : (5 : Int32).toInt = 5 := rfl
    omega
  by_cases h3 : 6 < pcN (lfN F n)
  · have e3 : (nI 6 < nI (pcN (lfN F n))) = True := ltT h3 (by omega)
    have l6 : (6 : Int32) = nI 6 := rfl
    refine OpI.err hI 3 (fun J => ?_) (fun J => ?_)
    · refine mx_Cal_in (ls := [some (.ref 0), some (.int _), none]) (d := 299) tab_119 (by rw [mx_rcv, oc_0]; trivial) (Nat.le_of_ble_eq_true rfl) rfl ?_
      simp (disch := omega) only [x_Main_row_0, x_Main_row_1, x_Main_row_2, x_Main_row_5, x_Main_row_6, x_Main_row_8, x_Main_row_11, x_Main_row_12, x_Main_row_13, x_Main_row_16, x_Main_row_17, x_Main_row_18, x_Main_row_21, x_Main_row_24, x_Main_row_27, x_Main_row_28, x_Main_row_29, x_Main_row_31, x_Main_row_34, x_Main_row_35, x_Main_row_36, x_Main_row_39, mk_I, mk_J, mk_Q, mk_n, mk_sI, mk_sJ, Option.toList_some, Option.toList_none, List.cons_append, List.nil_append, true_and, and_true, ↓reduceIte, leT, leF, ltT, ltF, eqF, lt0F, le0T, le0F, eq0F, natT, nI_clamp, nI_1, if_true, if_false, not_true_eq_false, not_false_eq_true, z_00, z_10, eq_self, true_or, or_true, or_false, false_or, oc_0, oc_1, oc_2, rt_0_0, rt_0_1, rt_0_3, rt_0_4, rt_0_5, rt_0_6, rt_0_7, rt_0_8, rt_0_9, rt_1_0, rt_1_5, rt_1_6, rt_1_7, rt_1_8, rt_2_1, rt_2_2, rt_2_3, rt_2_4, rt_2_5, ite_le, h1, h2, mx_call (q_howMany (d := 0) hc J) _]
      simp (disch := omega) only [l6, e3, ↓reduceIte, leT, leF, ltT, ltF, eqF, lt0F, le0T, le0F, eq0F, natT, nI_clamp, nI_1, if_true, if_false, not_true_eq_false, not_false_eq_true, z_00, z_10, eq_self, true_or, or_true, or_false, false_or, mx_call (x_err_3 (d := 0) I J) _, mx_call (x_errN (d := 0) (k := 3) I J (by omega)) _, x_Main_row_0, x_Main_row_1, x_Main_row_2, x_Main_row_5, x_Main_row_6, x_Main_row_8, x_Main_row_11, x_Main_row_12, x_Main_row_13, x_Main_row_16, x_Main_row_17, x_Main_row_18, x_Main_row_21, x_Main_row_24, x_Main_row_27, x_Main_row_28, x_Main_row_29, x_Main_row_31, x_Main_row_34, x_Main_row_35, x_Main_row_36, x_Main_row_39, mk_I, mk_J, mk_Q, mk_n, mk_sI, mk_sJ, Option.toList_some, Option.toList_none, List.cons_append, List.nil_append, true_and, and_true]
    · refine mx_Cal_in (ls := [some (.ref 94), some (.int _), none]) (d := 299) tab_209 (by rw [mx_rcv, oc_94]; trivial) (Nat.le_of_ble_eq_true rfl) rfl ?_
      simp (disch := omega) only [x_Ref_row_0, x_Ref_row_1, x_Ref_row_2, x_Ref_row_3, x_Ref_row_6, x_Ref_row_9, x_Ref_row_10, x_Ref_row_11, x_Ref_row_14, x_Ref_row_15, x_Ref_row_16, x_Ref_row_19, x_Ref_row_22, x_Ref_row_23, x_Ref_row_24, x_Ref_row_26, x_Ref_row_29, x_Ref_row_30, x_Ref_row_31, x_Ref_row_34, mk_I, mk_J, mk_Q, mk_n, mk_sI, mk_sJ, Option.toList_some, Option.toList_none, List.cons_append, List.nil_append, true_and, and_true, ↓reduceIte, leT, leF, ltT, ltF, eqF, lt0F, le0T, le0F, eq0F, natT, nI_clamp, nI_1, if_true, if_false, not_true_eq_false, not_false_eq_true, z_00, z_10, eq_self, true_or, or_true, or_false, false_or, oc_94, rt_94_0, rt_94_1, rt_94_3, rt_94_8, rt_94_9, rt_94_10, rt_94_11, rt_94_12, rt_94_15, rt_94_16, rt_94_18, rt_94_21, rt_94_22, rt_94_23, rt_94_24, or_95, oa_95, tc_0, kc_0, k0_0, tc_1, kc_1, k0_1, tc_2, kc_2, k0_2, tc_3, kc_3, k0_3, tc_4, kc_4, k0_4, tc_5, kc_5, k0_5, tc_6, kc_6, k0_6, tc_7, kc_7, k0_7, eX95, eX94, mx_call (q_Ref_in (d := 0) _ _ _ _) _, h1, h2', mx_call (q_rLeftSet (d := 0) (hr.eX 3) J) _, mx_call (q_bitsOf (d := 0) _ hl5) _, ite_le]
      simp (disch := omega) only [l6, e3, ↓reduceIte, leT, leF, ltT, ltF, eqF, lt0F, le0T, le0F, eq0F, natT, nI_clamp, nI_1, if_true, if_false, not_true_eq_false, not_false_eq_true, z_00, z_10, eq_self, true_or, or_true, or_false, false_or, mx_call (m_err_3 (d := 0) (eX I 3) J) _, mx_call (m_errN (d := 0) (k := 3) (eX I 3) J (by omega)) _, x_Ref_row_0, x_Ref_row_1, x_Ref_row_2, x_Ref_row_3, x_Ref_row_6, x_Ref_row_9, x_Ref_row_10, x_Ref_row_11, x_Ref_row_14, x_Ref_row_15, x_Ref_row_16, x_Ref_row_19, x_Ref_row_22, x_Ref_row_23, x_Ref_row_24, x_Ref_row_26, x_Ref_row_29, x_Ref_row_30, x_Ref_row_31, x_Ref_row_34, mk_I, mk_J, mk_Q, mk_n, mk_sI, mk_sJ, Option.toList_some, Option.toList_none, List.cons_append, List.nil_append, true_and, and_true]
  have e3 : ((6 : Int32) < nI (pcN (lfN F n))) = False := ltF (b := pcN (lfN F n)) (a := 6) (by omega) (by omega)
  by_cases h4 : x0 < nI (pcN (lfN F n))
  rotate_left
  · refine OpI.err hI 2 (fun J => ?_) (fun J => ?_)
    · refine mx_Cal_in (ls := [some (.ref 0), some (.int _), none]) (d := 299) tab_119 (by rw [mx_rcv, oc_0]; trivial) (Nat.le_of_ble_eq_true rfl) rfl ?_
      simp (disch := omega) only [x_Main_row_0, x_Main_row_1, x_Main_row_2, x_Main_row_5, x_Main_row_6, x_Main_row_8, x_Main_row_11, x_Main_row_12, x_Main_row_13, x_Main_row_16, x_Main_row_17, x_Main_row_18, x_Main_row_21, x_Main_row_24, x_Main_row_27, x_Main_row_28, x_Main_row_29, x_Main_row_31, x_Main_row_34, x_Main_row_35, x_Main_row_36, x_Main_row_39, x_Main_row_40, x_Main_row_41, x_Main_row_42, x_Main_row_45, x_Main_row_46, x_Main_row_47, x_Main_row_50, mk_I, mk_J, mk_Q, mk_n, mk_sI, mk_sJ, Option.toList_some, Option.toList_none, List.cons_append, List.nil_append, true_and, and_true, ↓reduceIte, leT, leF, ltT, ltF, eqF, lt0F, le0T, le0F, eq0F, natT, nI_clamp, nI_1, if_true, if_false, not_true_eq_false, not_false_eq_true, z_00, z_10, eq_self, true_or, or_true, or_false, false_or, oc_0, oc_1, oc_2, rt_0_0, rt_0_1, rt_0_3, rt_0_4, rt_0_5, rt_0_6, rt_0_7, rt_0_8, rt_0_9, rt_1_0, rt_1_5, rt_1_6, rt_1_7, rt_1_8, rt_2_1, rt_2_2, rt_2_3, rt_2_4, rt_2_5, ite_le, h1, h2, mx_call (q_howMany (d := 0) hc J) _, e3, h4, mx_call (x_err_2 (d := 0) I J) _, mx_call (x_errN (d := 0) (k := 2) I J (by omega)) _]
    · refine mx_Cal_in (ls := [some (.ref 94), some (.int _), none]) (d := 299) tab_209 (by rw [mx_rcv, oc_94]; trivial) (Nat.le_of_ble_eq_true rfl) rfl ?_
      simp (disch := omega) only [x_Ref_row_0, x_Ref_row_1, x_Ref_row_2, x_Ref_row_3, x_Ref_row_6, x_Ref_row_9, x_Ref_row_10, x_Ref_row_11, x_Ref_row_14, x_Ref_row_15, x_Ref_row_16, x_Ref_row_19, x_Ref_row_22, x_Ref_row_23, x_Ref_row_24, x_Ref_row_26, x_Ref_row_29, x_Ref_row_30, x_Ref_row_31, x_Ref_row_34, x_Ref_row_35, x_Ref_row_36, x_Ref_row_37, x_Ref_row_40, x_Ref_row_41, x_Ref_row_42, x_Ref_row_45, mk_I, mk_J, mk_Q, mk_n, mk_sI, mk_sJ, Option.toList_some, Option.toList_none, List.cons_append, List.nil_append, true_and, and_true, ↓reduceIte, leT, leF, ltT, ltF, eqF, lt0F, le0T, le0F, eq0F, natT, nI_clamp, nI_1, if_true, if_false, not_true_eq_false, not_false_eq_true, z_00, z_10, eq_self, true_or, or_true, or_false, false_or, oc_94, rt_94_0, rt_94_1, rt_94_3, rt_94_8, rt_94_9, rt_94_10, rt_94_11, rt_94_12, rt_94_15, rt_94_16, rt_94_18, rt_94_21, rt_94_22, rt_94_23, rt_94_24, or_95, oa_95, tc_0, kc_0, k0_0, tc_1, kc_1, k0_1, tc_2, kc_2, k0_2, tc_3, kc_3, k0_3, tc_4, kc_4, k0_4, tc_5, kc_5, k0_5, tc_6, kc_6, k0_6, tc_7, kc_7, k0_7, eX95, eX94, mx_call (q_Ref_in (d := 0) _ _ _ _) _, h1, h2', mx_call (q_rLeftSet (d := 0) (hr.eX 2) J) _, mx_call (q_bitsOf (d := 0) _ hl5) _, ite_le, e3, h4, mx_call (m_err_2 (d := 0) (eX I 2) J) _, mx_call (m_errN (d := 0) (k := 2) (eX I 2) J (by omega)) _]
  have h6 : cnN F n ≤ 6 := by omega
  intro J
  obtain ⟨I1, p1, p2, p3, p4, hth⟩ := q_rowThink hc ht1 h6 J
  have hI1 : Inv L xs I1 := hI.scr p4
  have g1 : I1 95 = I 95 := funext fun j => p4 95 j (by omega)
  have hr1 : RI I1 n K M T F pl := hr.congr (fun j _ => by rw [g1])
  have hS0 : RS (cnN F n) (mx_ups I1 94 14 0) none := ups_same _ _ _ _
  have g2 : (mx_ups I1 94 14 0) 95 = I 95 := (funext fun j => ups_ne _ _ (by omega)).trans g1
  have hr2 : RI (mx_ups I1 94 14 0) n K M T F pl := hr1.congr (fun j _ => ups_ne _ _ (by omega))
  obtain ⟨I2, v1, v2, v3, v4⟩ := q_goes (X := I 95) h6 (cnN F n) 0 [] 0 (mx_ups I1 94 14 0) J none hr2 ht1.tx g2 (by simp) (by omega) (by simp) hS0 (fun q hq => absurd hq (Nat.not_lt_zero q))
  have h64 := p64 h6
  have hpos : 0 < 2 ^ cnN F n := Nat.pow_pos (by omega)
  have eres := res_eq (G := GV (I 95) K) (F := F) (n := n) h6 rfl (cnN F n) (2 ^ cnN F n - 1) 0 [] 0 (by omega) (pc_all _ h6) (by simp) (fun j hj => by
    rw [Nat.zero_testBit, Nat.testBit_two_pow_sub_one]
    simp [hj])
  rw [eres, Int.zero_add, List.nil_append] at v1
  obtain ⟨w1, w2, w3, w4, w5⟩ := v1
  have w5 : ∀ q, q < cnN F n → I2 102 q = nI (((pathN (gm (I 95) K F n) (cnN F n) (cnN F n) (2 ^ cnN F n - 1)).map (memN F n)).getD q 0) := w5
  have w2 : I2 94 13 = Int32.ofInt (BV (gm (I 95) K F n) (cnN F n) (cnN F n) (2 ^ cnN F n - 1)) := w2
  have hI2 : Inv L xs I2 := hI1.scr (fun a j h => (v3 a j (by omega) (by omega) (by omega) (by omega) (by omega)).trans (ups_ne _ _ (by omega)))
  rw [← hpc] at v4
  have v4' : mx_Cal mx_tab (pcN (lfN F n) + 5) 208 [.ref 94, .int 0, .int (nI (pcN (lfN F n))), .int 0, .int 0] (mk (mx_ups I1 94 14 0) J) none (mk I2 J) := v4
  by_cases h5 : x0 = -1
  · subst h5
    refine ⟨Int32.ofInt (BV (gm (I 95) K F n) (cnN F n) (cnN F n) (2 ^ cnN F n - 1)), I1, I2, J, J, ?_, ?_, hI1.2.2.2.2.2, hI2⟩
    · refine mx_Cal_in (ls := [some (.ref 0), some (.int _), none]) (d := 299) tab_119 (by rw [mx_rcv, oc_0]; trivial) (Nat.le_of_ble_eq_true rfl) rfl ?_
      simp (disch := omega) only [x_Main_row_0, x_Main_row_1, x_Main_row_2, x_Main_row_5, x_Main_row_6, x_Main_row_8, x_Main_row_11, x_Main_row_12, x_Main_row_13, x_Main_row_16, x_Main_row_17, x_Main_row_18, x_Main_row_21, x_Main_row_24, x_Main_row_27, x_Main_row_28, x_Main_row_29, x_Main_row_31, x_Main_row_34, x_Main_row_35, x_Main_row_36, x_Main_row_39, x_Main_row_40, x_Main_row_41, x_Main_row_42, x_Main_row_45, x_Main_row_46, x_Main_row_47, x_Main_row_50, x_Main_row_51, x_Main_row_52, x_Main_row_55, x_Main_row_56, x_Main_row_59, x_Main_row_62, x_Main_row_63, x_Main_row_66, x_Main_row_67, x_Main_row_70, x_Main_row_73, x_Main_row_76, x_Main_row_77, x_Main_row_80, x_Main_row_83, x_Main_row_84, x_Main_row_87, mk_I, mk_J, mk_Q, mk_n, mk_sI, mk_sJ, Option.toList_some, Option.toList_none, List.cons_append, List.nil_append, true_and, and_true, ↓reduceIte, leT, leF, ltT, ltF, eqF, lt0F, le0T, le0F, eq0F, natT, nI_clamp, nI_1, if_true, if_false, not_true_eq_false, not_false_eq_true, z_00, z_10, eq_self, true_or, or_true, or_false, false_or, oc_0, oc_1, oc_2, rt_0_0, rt_0_1, rt_0_3, rt_0_4, rt_0_5, rt_0_6, rt_0_7, rt_0_8, rt_0_9, rt_1_0, rt_1_5, rt_1_6, rt_1_7, rt_1_8, rt_2_1, rt_2_2, rt_2_3, rt_2_4, rt_2_5, oc_67, ite_le, h1, h2, mx_call (q_howMany (d := 0) hc J) _, e3, h4, mx_call hth _, m1_lt0, p1]
    · refine mx_Cal_in (ls := [some (.ref 94), some (.int _), none]) (d := 299) tab_209 (by rw [mx_rcv, oc_94]; trivial) (Nat.le_of_ble_eq_true rfl) rfl ?_
      simp (disch := omega) only [x_Ref_row_0, x_Ref_row_1, x_Ref_row_2, x_Ref_row_3, x_Ref_row_6, x_Ref_row_9, x_Ref_row_10, x_Ref_row_11, x_Ref_row_14, x_Ref_row_15, x_Ref_row_16, x_Ref_row_19, x_Ref_row_22, x_Ref_row_23, x_Ref_row_24, x_Ref_row_26, x_Ref_row_29, x_Ref_row_30, x_Ref_row_31, x_Ref_row_34, x_Ref_row_35, x_Ref_row_36, x_Ref_row_37, x_Ref_row_40, x_Ref_row_41, x_Ref_row_42, x_Ref_row_45, x_Ref_row_46, x_Ref_row_47, x_Ref_row_48, x_Ref_row_51, x_Ref_row_52, x_Ref_row_53, x_Ref_row_54, x_Ref_row_55, x_Ref_row_56, x_Ref_row_59, x_Ref_row_60, x_Ref_row_61, x_Ref_row_64, x_Ref_row_65, x_Ref_row_68, x_Ref_row_71, x_Ref_row_72, x_Ref_row_75, x_Ref_row_76, x_Ref_row_77, mk_I, mk_J, mk_Q, mk_n, mk_sI, mk_sJ, Option.toList_some, Option.toList_none, List.cons_append, List.nil_append, true_and, and_true, ↓reduceIte, leT, leF, ltT, ltF, eqF, lt0F, le0T, le0F, eq0F, natT, nI_clamp, nI_1, if_true, if_false, not_true_eq_false, not_false_eq_true, z_00, z_10, eq_self, true_or, or_true, or_false, false_or, oc_94, rt_94_0, rt_94_1, rt_94_3, rt_94_8, rt_94_9, rt_94_10, rt_94_11, rt_94_12, rt_94_15, rt_94_16, rt_94_18, rt_94_21, rt_94_22, rt_94_23, rt_94_24, or_95, oa_95, tc_0, kc_0, k0_0, tc_1, kc_1, k0_1, tc_2, kc_2, k0_2, tc_3, kc_3, k0_3, tc_4, kc_4, k0_4, tc_5, kc_5, k0_5, tc_6, kc_6, k0_6, tc_7, kc_7, k0_7, mx_call (q_Ref_in (d := 0) _ _ _ _) _, h1, h2', mx_call (q_rLeftSet (d := 0) hr1 J) _, mx_call (q_bitsOf (d := 0) _ hl5) _, ite_le, e3, h4, decide_true, Bool.or_true, Bool.true_or, Bool.and_true, mx_call v4' _, w2]
  · have h0 : ¬ x0 < 0 := by
      rw [Int32.lt_iff_toInt_lt] at h1 ⊢
      have : (0 : Int32).toInt = 0 := rfl
      intro hlt
      exact h5 (Int32.toInt_inj.mp (by omega))
    obtain ⟨w, hw, rfl⟩ := ex_nI (n := pcN (lfN F n)) (by omega) h0 (Int32.not_le.mpr h4)
    have hwc : w < cnN F n := by omega
    have hm : at_ I1 68 (nI w) = nI (memN F n ((pathN (gm (I 95) K F n) (cnN F n) (cnN F n) (2 ^ cnN F n - 1)).getD w 0)) := by
      rw [at68 _ (by omega)]
      exact p2 w hwc
    have e5 := w5 w hwc
    rw [map_getD _ (by omega)] at e5
    refine ⟨nI (memN F n ((pathN (gm (I 95) K F n) (cnN F n) (cnN F n) (2 ^ cnN F n - 1)).getD w 0)), I1, I2, J, J, ?_, ?_, hI1.2.2.2.2.2, hI2⟩
    · refine mx_Cal_in (ls := [some (.ref 0), some (.int _), none]) (d := 299) tab_119 (by rw [mx_rcv, oc_0]; trivial) (Nat.le_of_ble_eq_true rfl) rfl ?_
      simp (disch := omega) only [x_Main_row_0, x_Main_row_1, x_Main_row_2, x_Main_row_5, x_Main_row_6, x_Main_row_8, x_Main_row_11, x_Main_row_12, x_Main_row_13, x_Main_row_16, x_Main_row_17, x_Main_row_18, x_Main_row_21, x_Main_row_24, x_Main_row_27, x_Main_row_28, x_Main_row_29, x_Main_row_31, x_Main_row_34, x_Main_row_35, x_Main_row_36, x_Main_row_39, x_Main_row_40, x_Main_row_41, x_Main_row_42, x_Main_row_45, x_Main_row_46, x_Main_row_47, x_Main_row_50, x_Main_row_51, x_Main_row_52, x_Main_row_55, x_Main_row_56, x_Main_row_59, x_Main_row_62, x_Main_row_63, x_Main_row_66, x_Main_row_67, x_Main_row_70, x_Main_row_73, x_Main_row_76, x_Main_row_77, x_Main_row_80, x_Main_row_83, x_Main_row_84, x_Main_row_87, mk_I, mk_J, mk_Q, mk_n, mk_sI, mk_sJ, Option.toList_some, Option.toList_none, List.cons_append, List.nil_append, true_and, and_true, ↓reduceIte, leT, leF, ltT, ltF, eqF, lt0F, le0T, le0F, eq0F, natT, nI_clamp, nI_1, if_true, if_false, not_true_eq_false, not_false_eq_true, z_00, z_10, eq_self, true_or, or_true, or_false, false_or, oc_0, oc_1, oc_2, rt_0_0, rt_0_1, rt_0_3, rt_0_4, rt_0_5, rt_0_6, rt_0_7, rt_0_8, rt_0_9, rt_1_0, rt_1_5, rt_1_6, rt_1_7, rt_1_8, rt_2_1, rt_2_2, rt_2_3, rt_2_4, rt_2_5, oc_67, rt_67_1, rt_67_2, rt_67_3, rt_67_4, ite_le, h1, h2, mx_call (q_howMany (d := 0) hc J) _, e3, mx_call hth _, mx_call (q_Line_at (d := 0) L68 _ _ _) _, hm]
    · refine mx_Cal_in (ls := [some (.ref 94), some (.int _), none]) (d := 299) tab_209 (by rw [mx_rcv, oc_94]; trivial) (Nat.le_of_ble_eq_true rfl) rfl ?_
      simp (disch := omega) only [x_Ref_row_0, x_Ref_row_1, x_Ref_row_2, x_Ref_row_3, x_Ref_row_6, x_Ref_row_9, x_Ref_row_10, x_Ref_row_11, x_Ref_row_14, x_Ref_row_15, x_Ref_row_16, x_Ref_row_19, x_Ref_row_22, x_Ref_row_23, x_Ref_row_24, x_Ref_row_26, x_Ref_row_29, x_Ref_row_30, x_Ref_row_31, x_Ref_row_34, x_Ref_row_35, x_Ref_row_36, x_Ref_row_37, x_Ref_row_40, x_Ref_row_41, x_Ref_row_42, x_Ref_row_45, x_Ref_row_46, x_Ref_row_47, x_Ref_row_48, x_Ref_row_51, x_Ref_row_52, x_Ref_row_53, x_Ref_row_54, x_Ref_row_55, x_Ref_row_56, x_Ref_row_59, x_Ref_row_60, x_Ref_row_61, x_Ref_row_64, x_Ref_row_65, x_Ref_row_68, x_Ref_row_71, x_Ref_row_72, x_Ref_row_75, x_Ref_row_76, x_Ref_row_77, mk_I, mk_J, mk_Q, mk_n, mk_sI, mk_sJ, Option.toList_some, Option.toList_none, List.cons_append, List.nil_append, true_and, and_true, ↓reduceIte, leT, leF, ltT, ltF, eqF, lt0F, le0T, le0F, eq0F, natT, nI_clamp, nI_1, if_true, if_false, not_true_eq_false, not_false_eq_true, z_00, z_10, eq_self, true_or, or_true, or_false, false_or, oc_94, rt_94_0, rt_94_1, rt_94_3, rt_94_8, rt_94_9, rt_94_10, rt_94_11, rt_94_12, rt_94_15, rt_94_16, rt_94_18, rt_94_21, rt_94_22, rt_94_23, rt_94_24, or_95, oa_95, tc_0, kc_0, k0_0, tc_1, kc_1, k0_1, tc_2, kc_2, k0_2, tc_3, kc_3, k0_3, tc_4, kc_4, k0_4, tc_5, kc_5, k0_5, tc_6, kc_6, k0_6, tc_7, kc_7, k0_7, or_102, mx_call (q_Ref_in (d := 0) _ _ _ _) _, h1, h2', mx_call (q_rLeftSet (d := 0) hr1 J) _, mx_call (q_bitsOf (d := 0) _ hl5) _, ite_le, e3, decide_true, Bool.or_true, Bool.true_or, Bool.and_true, mx_call v4' _, ne_m1, nI_clamp, e5]
