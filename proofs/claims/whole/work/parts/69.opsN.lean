/-! sums over sets; sums -/
theorem tbp {i t : Nat} (ht : t < 2 ^ i) (j : Nat) : (2 ^ i + t).testBit j = (decide (j = i) || t.testBit j) := by
  by_cases h1 : j = i
  · subst h1
    rw [Nat.testBit_two_pow_add_eq, Nat.testBit_lt_two_pow ht]
    simp
  · by_cases h2 : j < i
    · rw [Nat.testBit_two_pow_add_gt h2]
      simp [h1]
    · have h3 : 2 ^ (i + 1) ≤ 2 ^ j := Nat.pow_le_pow_right (by omega) (by omega)
      rw [Nat.pow_succ] at h3
      rw [Nat.testBit_lt_two_pow (by omega), Nat.testBit_lt_two_pow (show t < 2 ^ j by omega)]
      simp [h1]
theorem sub_and {a l : Nat} : a &&& l = a ↔ ∀ j, a.testBit j = true → l.testBit j = true := by
  constructor
  · intro h j hj
    rw [← h, Nat.testBit_and] at hj
    simp at hj
    exact hj.2
  · intro h
    apply Nat.eq_of_testBit_eq
    intro j
    rw [Nat.testBit_and]
    by_cases q : a.testBit j = true
    · rw [q, h j q]; rfl
    · simp at q
      rw [q]; rfl
theorem sub_tail {i t l : Nat} (ht : t < 2 ^ i) (h : (2 ^ i + t) &&& l = 2 ^ i + t) : t &&& l = t := sub_and.mpr (fun j hj => sub_and.mp h j (by rw [tbp ht, hj, Bool.or_true]))
theorem sub_head {i t l : Nat} (ht : t < 2 ^ i) (h : (2 ^ i + t) &&& l = 2 ^ i + t) : l.testBit i = true := sub_and.mp h i (by rw [tbp ht]; simp)
def sS (V : Nat → Nat) (n s : Nat) : Nat := sN (fun j => if s.testBit j = true then V j else 0) n
theorem sS_0 (V : Nat → Nat) (n : Nat) : sS V n 0 = 0 := sN_zero (fun i _ => by simp)
theorem sS_bit {V : Nat → Nat} {n i t : Nat} (hi : i < n) (ht : t < 2 ^ i) : sS V n (2 ^ i + t) = sS V n t + V i := by
  have h := sN_one V i n
  rw [if_pos hi] at h
  unfold sS
  rw [← h, ← sN_add]
  refine sN_congr (fun j _ => ?_)
  rw [tbp ht]
  by_cases q : j = i
  · subst q
    rw [Nat.testBit_lt_two_pow ht]
    simp
  · simp [q]
theorem and_pow0 {l i : Nat} (hl : l < 512) (hi : i < 9) : (nI l &&& nI (2 ^ i) = 0) = (l.testBit i = false) := by
  rw [nI_and]
  have h1 : l &&& 2 ^ i < 512 := and_512 _ hl
  rw [show (0 : Int32) = nI 0 from rfl]
  apply propext
  rw [nI_eq (by omega) (by omega)]
  constructor
  · intro h
    have h2 : (l &&& 2 ^ i).testBit i = false := by rw [h]; simp
    rw [Nat.testBit_and, Nat.testBit_two_pow] at h2
    simpa using h2
  · intro h
    apply Nat.eq_of_testBit_eq
    intro j
    rw [Nat.testBit_and, Nat.testBit_two_pow, Nat.zero_testBit]
    by_cases q : i = j
    · subst q; rw [h]; rfl
    · simp [q]
theorem L61 : isLn 61 = true := by decide +kernel
theorem at61 (I : mx_I) {k : Nat} (hk : k < 9) : at_ I 61 (nI k) = I 62 k := at_nI (r := 61) (hk : k < ln 61) (by decide +kernel)
theorem tb_n {l n i : Nat} (hl : l < 2 ^ n) (h : l.testBit i = true) : i < n := by
  rcases Nat.lt_or_ge i n with q | q
  · exact q
  · have := Nat.pow_le_pow_right (show 0 < 2 by omega) q
    rw [Nat.testBit_lt_two_pow (by omega)] at h
    cases h
theorem pow9 {i : Nat} (h : i < 9) : 2 ^ i + 2 ^ i ≤ 512 := by
  have h1 : 2 ^ (i + 1) ≤ 2 ^ 9 := Nat.pow_le_pow_right (by omega) (by omega)
  rw [Nat.pow_succ] at h1
  omega
theorem pow2 (i : Nat) : 2 ^ (i + 1) = 2 ^ i + 2 ^ i := by rw [Nat.pow_succ]; omega
theorem q_addUp63 {n l : Nat} {V : Nat → Nat} (I : mx_I) (J : mx_J) (h9 : n ≤ 9) (hl : l < 2 ^ n) (hv : ∀ j, j < n → I 62 j = nI (V j)) (h0 : I 63 0 = 0) : ∃ I', ((∀ s, s < 512 → s &&& l = s → I' 63 s = nI (sS V n s)) ∧ ∀ b j, ¬ (b = 63 ∧ j ≠ 0) → I' b j = I b j) ∧ mx_Cal mx_tab 2 70 [.ref 60, .ref 63, .int (nI l)] (mk I J) none (mk I' J) := by
  have hl5 : l < 512 := Nat.lt_of_lt_of_le hl (Nat.pow_le_pow_right (show 0 < 2 by omega) h9)
  obtain ⟨⟨I1, w1, w2⟩, ⟨p1, p2⟩, hP1⟩ := lqx (σ := mx_I × Option Value × Option Value) (cl := k_Sets_addUp) (C := mx_Cal mx_tab 1) (pc := 5) (i0 := 0) (n := 9) (fun i s => [some (.ref 60), some (.ref 63), some (.int (nI l)), some (.int (nI (2 ^ i))), some (.int (nI i)), s.2.1, s.2.2]) (fun s => mk s.1 J) (fun i s => (∀ t, t < 2 ^ i → t &&& l = t → s.1 63 t = nI (sS V n t)) ∧ ∀ b j, ¬ (b = 63 ∧ j ≠ 0) → s.1 b j = I b j) (s0 := (I, none, none)) (Nat.zero_le 9) ⟨fun t ht _ => by
      have : t = 0 := by have h1 : t < 1 := ht; omega
      subst this
      rw [sS_0]
      exact h0, fun _ _ _ => rfl⟩ (fun i s _ hi hQ => by
    obtain ⟨I', v1, v2⟩ := s
    obtain ⟨q1, q2⟩ := hQ
    have q1 : ∀ t, t < 2 ^ i → t &&& l = t → I' 63 t = nI (sS V n t) := q1
    have q2 : ∀ b j, ¬ (b = 63 ∧ j ≠ 0) → I' b j = I b j := q2
    have e1 := at61 I' hi
    have hp9 := pow9 hi
    have hp0 := Nat.two_pow_pos i
    by_cases hb : l.testBit i = true
    · have hin := tb_n hl hb
      rw [q2 62 i (by omega), hv i hin] at e1
      have hbf : (l.testBit i = false) = False := eq_false (by rw [hb]; decide)
      obtain ⟨I2, ⟨r1, r2⟩, hP2⟩ := lqx (cl := k_Sets_addUp) (C := mx_Cal mx_tab 1) (pc := 26) (i0 := 0) (n := 2 ^ i) (fun t (_ : mx_I) => [some (.ref 60), some (.ref 63), some (.int (nI l)), some (.int (nI (2 ^ i))), some (.int (nI i)), some (.int (nI (V i))), some (.int (nI t))]) (fun s => mk s J) (fun t I2 => (∀ r, r < 2 ^ i + t → r &&& l = r → I2 63 r = nI (sS V n r)) ∧ ∀ b j, ¬ (b = 63 ∧ j ≠ 0) → I2 b j = I b j) (s0 := I') (Nat.zero_le _) ⟨fun r hr => q1 r hr, q2⟩ (fun t I2 _ ht hQ2 => by
        obtain ⟨u1, u2⟩ := hQ2
        refine ⟨mx_ups I2 63 (2 ^ i + t) (I2 63 t + nI (V i)), ⟨fun r hr hrl => ?_, fun b j hbj => ?_⟩, fun P ih => ?_⟩
        · by_cases hrt : r = 2 ^ i + t
          · subst hrt
            rw [ups_same, u1 t (by omega) (sub_tail ht hrl), sS_bit hin ht, nI_add]
          · rw [ups_ne _ _ (by omega)]
            exact u1 r (by omega) hrl
        · rw [ups_ne _ _ (by omega)]
          exact u2 b j hbj
        · rw [x_Sets_addUp_26]
          simp (disch := omega) only [x_Sets_addUp_27, x_Sets_addUp_28, x_Sets_addUp_29, x_Sets_addUp_32, x_Sets_addUp_34, x_Sets_addUp_35, x_Sets_addUp_38, x_Sets_addUp_39, x_Sets_addUp_41, x_Sets_addUp_42, x_Sets_addUp_43, x_Sets_addUp_44, x_Sets_addUp_47, x_Sets_addUp_48, x_Sets_addUp_49, x_Sets_addUp_51, x_Sets_addUp_52, x_Sets_addUp_53, x_Sets_addUp_55, x_Sets_addUp_56, x_Sets_addUp_58, x_Sets_addUp_59, x_Sets_addUp_60, x_Sets_addUp_63, x_Sets_addUp_66, x_Sets_addUp_69, x_Sets_addUp_70, x_Sets_addUp_71, x_Sets_addUp_72, x_Sets_addUp_73, x_Sets_addUp_76, mk_I, mk_J, mk_Q, mk_n, mk_sI, mk_sJ, Option.toList_some, Option.toList_none, List.cons_append, List.nil_append, true_and, and_true, ↓reduceIte, leT, leF, ltT, ltF, eqF, lt0F, le0T, le0F, eq0F, natT, nI_clamp, nI_1, if_true, if_false, not_true_eq_false, not_false_eq_true, z_00, z_10, eq_self, true_or, or_true, or_false, false_or, oa_63, or_63, al_63, ia_63, and_pow0 hl5 hi, hbf, nI_add]
          exact ih)
      have r1 : ∀ r, r < 2 ^ i + 2 ^ i → r &&& l = r → I2 63 r = nI (sS V n r) := r1
      refine ⟨(I2, some (.int (nI (V i))), some (.int (nI (2 ^ i)))), ⟨fun t ht => ?_, r2⟩, fun P ih => ?_⟩
      · rw [pow2] at ht
        exact r1 t ht
      · rw [pow2] at ih
        rw [x_Sets_addUp_5]
        simp (disch := omega) only [x_Sets_addUp_7, x_Sets_addUp_9, x_Sets_addUp_12, x_Sets_addUp_13, x_Sets_addUp_16, x_Sets_addUp_18, x_Sets_addUp_21, x_Sets_addUp_23, x_Sets_addUp_24, mk_I, mk_J, mk_Q, mk_n, mk_sI, mk_sJ, Option.toList_some, Option.toList_none, List.cons_append, List.nil_append, true_and, and_true, ↓reduceIte, leT, leF, ltT, ltF, eqF, lt0F, le0T, le0F, eq0F, natT, nI_clamp, nI_1, if_true, if_false, not_true_eq_false, not_false_eq_true, z_00, z_10, eq_self, true_or, or_true, or_false, false_or, show (9 : Int32) = nI 9 from rfl, oc_60, rt_60_1, rt_60_2, rt_60_3, rt_60_4, rt_60_5, mx_call (q_Line_at (d := 0) L61 I' J _) _, e1]
        refine hP2 _ ?_
        rw [x_Sets_addUp_26]
        simp (disch := omega) only [x_Sets_addUp_27, x_Sets_addUp_28, x_Sets_addUp_29, x_Sets_addUp_32, x_Sets_addUp_34, x_Sets_addUp_35, x_Sets_addUp_38, x_Sets_addUp_39, x_Sets_addUp_41, x_Sets_addUp_42, x_Sets_addUp_43, x_Sets_addUp_44, x_Sets_addUp_47, x_Sets_addUp_48, x_Sets_addUp_49, x_Sets_addUp_51, x_Sets_addUp_52, x_Sets_addUp_53, x_Sets_addUp_55, x_Sets_addUp_56, x_Sets_addUp_58, x_Sets_addUp_59, x_Sets_addUp_60, x_Sets_addUp_63, x_Sets_addUp_66, x_Sets_addUp_69, x_Sets_addUp_70, x_Sets_addUp_71, x_Sets_addUp_72, x_Sets_addUp_73, x_Sets_addUp_76, mk_I, mk_J, mk_Q, mk_n, mk_sI, mk_sJ, Option.toList_some, Option.toList_none, List.cons_append, List.nil_append, true_and, and_true, ↓reduceIte, leT, leF, ltT, ltF, eqF, lt0F, le0T, le0F, eq0F, natT, nI_clamp, nI_1, if_true, if_false, not_true_eq_false, not_false_eq_true, z_00, z_10, eq_self, true_or, or_true, or_false, false_or, al_63, ia_63, and_pow0 hl5 hi, hbf, nI_add]
        exact ih
    · have hbf : (l.testBit i = false) = True := eq_true (by simpa using hb)
      refine ⟨(I', some (.int (I' 62 i)), some (.int 0)), ⟨fun t ht htl => ?_, q2⟩, fun P ih => ?_⟩
      · rw [pow2] at ht
        rcases Nat.lt_or_ge t (2 ^ i) with h | h
        · exact q1 t h htl
        · obtain ⟨r, rfl⟩ := Nat.le.dest h
          exact absurd (sub_head (by omega) htl) hb
      · rw [pow2] at ih
        rw [x_Sets_addUp_5]
        simp (disch := omega) only [x_Sets_addUp_7, x_Sets_addUp_9, x_Sets_addUp_12, x_Sets_addUp_13, x_Sets_addUp_16, x_Sets_addUp_18, x_Sets_addUp_21, x_Sets_addUp_23, x_Sets_addUp_24, x_Sets_addUp_26, x_Sets_addUp_27, x_Sets_addUp_28, x_Sets_addUp_29, x_Sets_addUp_32, x_Sets_addUp_34, x_Sets_addUp_35, x_Sets_addUp_38, x_Sets_addUp_39, x_Sets_addUp_41, x_Sets_addUp_42, x_Sets_addUp_43, x_Sets_addUp_44, x_Sets_addUp_47, x_Sets_addUp_48, x_Sets_addUp_49, x_Sets_addUp_51, x_Sets_addUp_52, x_Sets_addUp_53, x_Sets_addUp_55, x_Sets_addUp_56, x_Sets_addUp_58, x_Sets_addUp_59, x_Sets_addUp_60, x_Sets_addUp_63, x_Sets_addUp_66, x_Sets_addUp_69, x_Sets_addUp_70, x_Sets_addUp_71, x_Sets_addUp_72, x_Sets_addUp_73, x_Sets_addUp_76, mk_I, mk_J, mk_Q, mk_n, mk_sI, mk_sJ, Option.toList_some, Option.toList_none, List.cons_append, List.nil_append, true_and, and_true, ↓reduceIte, leT, leF, ltT, ltF, eqF, lt0F, le0T, le0F, eq0F, natT, nI_clamp, nI_1, if_true, if_false, not_true_eq_false, not_false_eq_true, z_00, z_10, eq_self, true_or, or_true, or_false, false_or, show (9 : Int32) = nI 9 from rfl, oc_60, rt_60_1, rt_60_2, rt_60_3, rt_60_4, rt_60_5, mx_call (q_Line_at (d := 0) L61 I' J _) _, e1, and_pow0 hl5 hi, hbf, nI_add]
        exact ih)
  refine ⟨I1, ⟨p1, p2⟩, ?_⟩
  refine mx_Cal_in (ls := [some (.ref 60), some (.ref 63), some (.int (nI l)), none, none, none, none]) (d := 1) tab_70 (by rw [mx_rcv, oc_60]; trivial) (Nat.le_of_ble_eq_true rfl) rfl ?_
  simp only [x_Sets_addUp_0, x_Sets_addUp_1, x_Sets_addUp_2, x_Sets_addUp_3]
  refine hP1 _ ?_
  rw [x_Sets_addUp_5]
  simp (disch := omega) only [x_Sets_addUp_7, x_Sets_addUp_9, x_Sets_addUp_76, mk_I, mk_J, mk_Q, mk_n, mk_sI, mk_sJ, Option.toList_some, Option.toList_none, List.cons_append, List.nil_append, true_and, and_true, ↓reduceIte, leT, leF, ltT, ltF, eqF, lt0F, le0T, le0F, eq0F, natT, nI_clamp, nI_1, if_true, if_false, not_true_eq_false, not_false_eq_true, z_00, z_10, eq_self, true_or, or_true, or_false, false_or, show (9 : Int32) = nI 9 from rfl]
theorem q_addUp64 {n l : Nat} {V : Nat → Nat} (I : mx_I) (J : mx_J) (h9 : n ≤ 9) (hl : l < 2 ^ n) (hv : ∀ j, j < n → I 62 j = nI (V j)) (h0 : I 64 0 = 0) : ∃ I', ((∀ s, s < 512 → s &&& l = s → I' 64 s = nI (sS V n s)) ∧ ∀ b j, ¬ (b = 64 ∧ j ≠ 0) → I' b j = I b j) ∧ mx_Cal mx_tab 2 70 [.ref 60, .ref 64, .int (nI l)] (mk I J) none (mk I' J) := by
  have hl5 : l < 512 := Nat.lt_of_lt_of_le hl (Nat.pow_le_pow_right (show 0 < 2 by omega) h9)
  obtain ⟨⟨I1, w1, w2⟩, ⟨p1, p2⟩, hP1⟩ := lqx (σ := mx_I × Option Value × Option Value) (cl := k_Sets_addUp) (C := mx_Cal mx_tab 1) (pc := 5) (i0 := 0) (n := 9) (fun i s => [some (.ref 60), some (.ref 64), some (.int (nI l)), some (.int (nI (2 ^ i))), some (.int (nI i)), s.2.1, s.2.2]) (fun s => mk s.1 J) (fun i s => (∀ t, t < 2 ^ i → t &&& l = t → s.1 64 t = nI (sS V n t)) ∧ ∀ b j, ¬ (b = 64 ∧ j ≠ 0) → s.1 b j = I b j) (s0 := (I, none, none)) (Nat.zero_le 9) ⟨fun t ht _ => by
      have : t = 0 := by have h1 : t < 1 := ht; omega
      subst this
      rw [sS_0]
      exact h0, fun _ _ _ => rfl⟩ (fun i s _ hi hQ => by
    obtain ⟨I', v1, v2⟩ := s
    obtain ⟨q1, q2⟩ := hQ
    have q1 : ∀ t, t < 2 ^ i → t &&& l = t → I' 64 t = nI (sS V n t) := q1
    have q2 : ∀ b j, ¬ (b = 64 ∧ j ≠ 0) → I' b j = I b j := q2
    have e1 := at61 I' hi
    have hp9 := pow9 hi
    have hp0 := Nat.two_pow_pos i
    by_cases hb : l.testBit i = true
    · have hin := tb_n hl hb
      rw [q2 62 i (by omega), hv i hin] at e1
      have hbf : (l.testBit i = false) = False := eq_false (by rw [hb]; decide)
      obtain ⟨I2, ⟨r1, r2⟩, hP2⟩ := lqx (cl := k_Sets_addUp) (C := mx_Cal mx_tab 1) (pc := 26) (i0 := 0) (n := 2 ^ i) (fun t (_ : mx_I) => [some (.ref 60), some (.ref 64), some (.int (nI l)), some (.int (nI (2 ^ i))), some (.int (nI i)), some (.int (nI (V i))), some (.int (nI t))]) (fun s => mk s J) (fun t I2 => (∀ r, r < 2 ^ i + t → r &&& l = r → I2 64 r = nI (sS V n r)) ∧ ∀ b j, ¬ (b = 64 ∧ j ≠ 0) → I2 b j = I b j) (s0 := I') (Nat.zero_le _) ⟨fun r hr => q1 r hr, q2⟩ (fun t I2 _ ht hQ2 => by
        obtain ⟨u1, u2⟩ := hQ2
        refine ⟨mx_ups I2 64 (2 ^ i + t) (I2 64 t + nI (V i)), ⟨fun r hr hrl => ?_, fun b j hbj => ?_⟩, fun P ih => ?_⟩
        · by_cases hrt : r = 2 ^ i + t
          · subst hrt
            rw [ups_same, u1 t (by omega) (sub_tail ht hrl), sS_bit hin ht, nI_add]
          · rw [ups_ne _ _ (by omega)]
            exact u1 r (by omega) hrl
        · rw [ups_ne _ _ (by omega)]
          exact u2 b j hbj
        · rw [x_Sets_addUp_26]
          simp (disch := omega) only [x_Sets_addUp_27, x_Sets_addUp_28, x_Sets_addUp_29, x_Sets_addUp_32, x_Sets_addUp_34, x_Sets_addUp_35, x_Sets_addUp_38, x_Sets_addUp_39, x_Sets_addUp_41, x_Sets_addUp_42, x_Sets_addUp_43, x_Sets_addUp_44, x_Sets_addUp_47, x_Sets_addUp_48, x_Sets_addUp_49, x_Sets_addUp_51, x_Sets_addUp_52, x_Sets_addUp_53, x_Sets_addUp_55, x_Sets_addUp_56, x_Sets_addUp_58, x_Sets_addUp_59, x_Sets_addUp_60, x_Sets_addUp_63, x_Sets_addUp_66, x_Sets_addUp_69, x_Sets_addUp_70, x_Sets_addUp_71, x_Sets_addUp_72, x_Sets_addUp_73, x_Sets_addUp_76, mk_I, mk_J, mk_Q, mk_n, mk_sI, mk_sJ, Option.toList_some, Option.toList_none, List.cons_append, List.nil_append, true_and, and_true, ↓reduceIte, leT, leF, ltT, ltF, eqF, lt0F, le0T, le0F, eq0F, natT, nI_clamp, nI_1, if_true, if_false, not_true_eq_false, not_false_eq_true, z_00, z_10, eq_self, true_or, or_true, or_false, false_or, oa_64, or_64, al_64, ia_64, and_pow0 hl5 hi, hbf, nI_add]
          exact ih)
      have r1 : ∀ r, r < 2 ^ i + 2 ^ i → r &&& l = r → I2 64 r = nI (sS V n r) := r1
      refine ⟨(I2, some (.int (nI (V i))), some (.int (nI (2 ^ i)))), ⟨fun t ht => ?_, r2⟩, fun P ih => ?_⟩
      · rw [pow2] at ht
        exact r1 t ht
      · rw [pow2] at ih
        rw [x_Sets_addUp_5]
        simp (disch := omega) only [x_Sets_addUp_7, x_Sets_addUp_9, x_Sets_addUp_12, x_Sets_addUp_13, x_Sets_addUp_16, x_Sets_addUp_18, x_Sets_addUp_21, x_Sets_addUp_23, x_Sets_addUp_24, mk_I, mk_J, mk_Q, mk_n, mk_sI, mk_sJ, Option.toList_some, Option.toList_none, List.cons_append, List.nil_append, true_and, and_true, ↓reduceIte, leT, leF, ltT, ltF, eqF, lt0F, le0T, le0F, eq0F, natT, nI_clamp, nI_1, if_true, if_false, not_true_eq_false, not_false_eq_true, z_00, z_10, eq_self, true_or, or_true, or_false, false_or, show (9 : Int32) = nI 9 from rfl, oc_60, rt_60_1, rt_60_2, rt_60_3, rt_60_4, rt_60_5, mx_call (q_Line_at (d := 0) L61 I' J _) _, e1]
        refine hP2 _ ?_
        rw [x_Sets_addUp_26]
        simp (disch := omega) only [x_Sets_addUp_27, x_Sets_addUp_28, x_Sets_addUp_29, x_Sets_addUp_32, x_Sets_addUp_34, x_Sets_addUp_35, x_Sets_addUp_38, x_Sets_addUp_39, x_Sets_addUp_41, x_Sets_addUp_42, x_Sets_addUp_43, x_Sets_addUp_44, x_Sets_addUp_47, x_Sets_addUp_48, x_Sets_addUp_49, x_Sets_addUp_51, x_Sets_addUp_52, x_Sets_addUp_53, x_Sets_addUp_55, x_Sets_addUp_56, x_Sets_addUp_58, x_Sets_addUp_59, x_Sets_addUp_60, x_Sets_addUp_63, x_Sets_addUp_66, x_Sets_addUp_69, x_Sets_addUp_70, x_Sets_addUp_71, x_Sets_addUp_72, x_Sets_addUp_73, x_Sets_addUp_76, mk_I, mk_J, mk_Q, mk_n, mk_sI, mk_sJ, Option.toList_some, Option.toList_none, List.cons_append, List.nil_append, true_and, and_true, ↓reduceIte, leT, leF, ltT, ltF, eqF, lt0F, le0T, le0F, eq0F, natT, nI_clamp, nI_1, if_true, if_false, not_true_eq_false, not_false_eq_true, z_00, z_10, eq_self, true_or, or_true, or_false, false_or, al_64, ia_64, and_pow0 hl5 hi, hbf, nI_add]
        exact ih
    · have hbf : (l.testBit i = false) = True := eq_true (by simpa using hb)
      refine ⟨(I', some (.int (I' 62 i)), some (.int 0)), ⟨fun t ht htl => ?_, q2⟩, fun P ih => ?_⟩
      · rw [pow2] at ht
        rcases Nat.lt_or_ge t (2 ^ i) with h | h
        · exact q1 t h htl
        · obtain ⟨r, rfl⟩ := Nat.le.dest h
          exact absurd (sub_head (by omega) htl) hb
      · rw [pow2] at ih
        rw [x_Sets_addUp_5]
        simp (disch := omega) only [x_Sets_addUp_7, x_Sets_addUp_9, x_Sets_addUp_12, x_Sets_addUp_13, x_Sets_addUp_16, x_Sets_addUp_18, x_Sets_addUp_21, x_Sets_addUp_23, x_Sets_addUp_24, x_Sets_addUp_26, x_Sets_addUp_27, x_Sets_addUp_28, x_Sets_addUp_29, x_Sets_addUp_32, x_Sets_addUp_34, x_Sets_addUp_35, x_Sets_addUp_38, x_Sets_addUp_39, x_Sets_addUp_41, x_Sets_addUp_42, x_Sets_addUp_43, x_Sets_addUp_44, x_Sets_addUp_47, x_Sets_addUp_48, x_Sets_addUp_49, x_Sets_addUp_51, x_Sets_addUp_52, x_Sets_addUp_53, x_Sets_addUp_55, x_Sets_addUp_56, x_Sets_addUp_58, x_Sets_addUp_59, x_Sets_addUp_60, x_Sets_addUp_63, x_Sets_addUp_66, x_Sets_addUp_69, x_Sets_addUp_70, x_Sets_addUp_71, x_Sets_addUp_72, x_Sets_addUp_73, x_Sets_addUp_76, mk_I, mk_J, mk_Q, mk_n, mk_sI, mk_sJ, Option.toList_some, Option.toList_none, List.cons_append, List.nil_append, true_and, and_true, ↓reduceIte, leT, leF, ltT, ltF, eqF, lt0F, le0T, le0F, eq0F, natT, nI_clamp, nI_1, if_true, if_false, not_true_eq_false, not_false_eq_true, z_00, z_10, eq_self, true_or, or_true, or_false, false_or, show (9 : Int32) = nI 9 from rfl, oc_60, rt_60_1, rt_60_2, rt_60_3, rt_60_4, rt_60_5, mx_call (q_Line_at (d := 0) L61 I' J _) _, e1, and_pow0 hl5 hi, hbf, nI_add]
        exact ih)
  refine ⟨I1, ⟨p1, p2⟩, ?_⟩
  refine mx_Cal_in (ls := [some (.ref 60), some (.ref 64), some (.int (nI l)), none, none, none, none]) (d := 1) tab_70 (by rw [mx_rcv, oc_60]; trivial) (Nat.le_of_ble_eq_true rfl) rfl ?_
  simp only [x_Sets_addUp_0, x_Sets_addUp_1, x_Sets_addUp_2, x_Sets_addUp_3]
  refine hP1 _ ?_
  rw [x_Sets_addUp_5]
  simp (disch := omega) only [x_Sets_addUp_7, x_Sets_addUp_9, x_Sets_addUp_76, mk_I, mk_J, mk_Q, mk_n, mk_sI, mk_sJ, Option.toList_some, Option.toList_none, List.cons_append, List.nil_append, true_and, and_true, ↓reduceIte, leT, leF, ltT, ltF, eqF, lt0F, le0T, le0F, eq0F, natT, nI_clamp, nI_1, if_true, if_false, not_true_eq_false, not_false_eq_true, z_00, z_10, eq_self, true_or, or_true, or_false, false_or, show (9 : Int32) = nI 9 from rfl]
theorem q_addUp65 {n l : Nat} {V : Nat → Nat} (I : mx_I) (J : mx_J) (h9 : n ≤ 9) (hl : l < 2 ^ n) (hv : ∀ j, j < n → I 62 j = nI (V j)) (h0 : I 65 0 = 0) : ∃ I', ((∀ s, s < 512 → s &&& l = s → I' 65 s = nI (sS V n s)) ∧ ∀ b j, ¬ (b = 65 ∧ j ≠ 0) → I' b j = I b j) ∧ mx_Cal mx_tab 2 70 [.ref 60, .ref 65, .int (nI l)] (mk I J) none (mk I' J) := by
  have hl5 : l < 512 := Nat.lt_of_lt_of_le hl (Nat.pow_le_pow_right (show 0 < 2 by omega) h9)
  obtain ⟨⟨I1, w1, w2⟩, ⟨p1, p2⟩, hP1⟩ := lqx (σ := mx_I × Option Value × Option Value) (cl := k_Sets_addUp) (C := mx_Cal mx_tab 1) (pc := 5) (i0 := 0) (n := 9) (fun i s => [some (.ref 60), some (.ref 65), some (.int (nI l)), some (.int (nI (2 ^ i))), some (.int (nI i)), s.2.1, s.2.2]) (fun s => mk s.1 J) (fun i s => (∀ t, t < 2 ^ i → t &&& l = t → s.1 65 t = nI (sS V n t)) ∧ ∀ b j, ¬ (b = 65 ∧ j ≠ 0) → s.1 b j = I b j) (s0 := (I, none, none)) (Nat.zero_le 9) ⟨fun t ht _ => by
      have : t = 0 := by have h1 : t < 1 := ht; omega
      subst this
      rw [sS_0]
      exact h0, fun _ _ _ => rfl⟩ (fun i s _ hi hQ => by
    obtain ⟨I', v1, v2⟩ := s
    obtain ⟨q1, q2⟩ := hQ
    have q1 : ∀ t, t < 2 ^ i → t &&& l = t → I' 65 t = nI (sS V n t) := q1
    have q2 : ∀ b j, ¬ (b = 65 ∧ j ≠ 0) → I' b j = I b j := q2
    have e1 := at61 I' hi
    have hp9 := pow9 hi
    have hp0 := Nat.two_pow_pos i
    by_cases hb : l.testBit i = true
    · have hin := tb_n hl hb
      rw [q2 62 i (by omega), hv i hin] at e1
      have hbf : (l.testBit i = false) = False := eq_false (by rw [hb]; decide)
      obtain ⟨I2, ⟨r1, r2⟩, hP2⟩ := lqx (cl := k_Sets_addUp) (C := mx_Cal mx_tab 1) (pc := 26) (i0 := 0) (n := 2 ^ i) (fun t (_ : mx_I) => [some (.ref 60), some (.ref 65), some (.int (nI l)), some (.int (nI (2 ^ i))), some (.int (nI i)), some (.int (nI (V i))), some (.int (nI t))]) (fun s => mk s J) (fun t I2 => (∀ r, r < 2 ^ i + t → r &&& l = r → I2 65 r = nI (sS V n r)) ∧ ∀ b j, ¬ (b = 65 ∧ j ≠ 0) → I2 b j = I b j) (s0 := I') (Nat.zero_le _) ⟨fun r hr => q1 r hr, q2⟩ (fun t I2 _ ht hQ2 => by
        obtain ⟨u1, u2⟩ := hQ2
        refine ⟨mx_ups I2 65 (2 ^ i + t) (I2 65 t + nI (V i)), ⟨fun r hr hrl => ?_, fun b j hbj => ?_⟩, fun P ih => ?_⟩
        · by_cases hrt : r = 2 ^ i + t
          · subst hrt
            rw [ups_same, u1 t (by omega) (sub_tail ht hrl), sS_bit hin ht, nI_add]
          · rw [ups_ne _ _ (by omega)]
            exact u1 r (by omega) hrl
        · rw [ups_ne _ _ (by omega)]
          exact u2 b j hbj
        · rw [x_Sets_addUp_26]
          simp (disch := omega) only [x_Sets_addUp_27, x_Sets_addUp_28, x_Sets_addUp_29, x_Sets_addUp_32, x_Sets_addUp_34, x_Sets_addUp_35, x_Sets_addUp_38, x_Sets_addUp_39, x_Sets_addUp_41, x_Sets_addUp_42, x_Sets_addUp_43, x_Sets_addUp_44, x_Sets_addUp_47, x_Sets_addUp_48, x_Sets_addUp_49, x_Sets_addUp_51, x_Sets_addUp_52, x_Sets_addUp_53, x_Sets_addUp_55, x_Sets_addUp_56, x_Sets_addUp_58, x_Sets_addUp_59, x_Sets_addUp_60, x_Sets_addUp_63, x_Sets_addUp_66, x_Sets_addUp_69, x_Sets_addUp_70, x_Sets_addUp_71, x_Sets_addUp_72, x_Sets_addUp_73, x_Sets_addUp_76, mk_I, mk_J, mk_Q, mk_n, mk_sI, mk_sJ, Option.toList_some, Option.toList_none, List.cons_append, List.nil_append, true_and, and_true, ↓reduceIte, leT, leF, ltT, ltF, eqF, lt0F, le0T, le0F, eq0F, natT, nI_clamp, nI_1, if_true, if_false, not_true_eq_false, not_false_eq_true, z_00, z_10, eq_self, true_or, or_true, or_false, false_or, oa_65, or_65, al_65, ia_65, and_pow0 hl5 hi, hbf, nI_add]
          exact ih)
      have r1 : ∀ r, r < 2 ^ i + 2 ^ i → r &&& l = r → I2 65 r = nI (sS V n r) := r1
      refine ⟨(I2, some (.int (nI (V i))), some (.int (nI (2 ^ i)))), ⟨fun t ht => ?_, r2⟩, fun P ih => ?_⟩
      · rw [pow2] at ht
        exact r1 t ht
      · rw [pow2] at ih
        rw [x_Sets_addUp_5]
        simp (disch := omega) only [x_Sets_addUp_7, x_Sets_addUp_9, x_Sets_addUp_12, x_Sets_addUp_13, x_Sets_addUp_16, x_Sets_addUp_18, x_Sets_addUp_21, x_Sets_addUp_23, x_Sets_addUp_24, mk_I, mk_J, mk_Q, mk_n, mk_sI, mk_sJ, Option.toList_some, Option.toList_none, List.cons_append, List.nil_append, true_and, and_true, ↓reduceIte, leT, leF, ltT, ltF, eqF, lt0F, le0T, le0F, eq0F, natT, nI_clamp, nI_1, if_true, if_false, not_true_eq_false, not_false_eq_true, z_00, z_10, eq_self, true_or, or_true, or_false, false_or, show (9 : Int32) = nI 9 from rfl, oc_60, rt_60_1, rt_60_2, rt_60_3, rt_60_4, rt_60_5, mx_call (q_Line_at (d := 0) L61 I' J _) _, e1]
        refine hP2 _ ?_
        rw [x_Sets_addUp_26]
        simp (disch := omega) only [x_Sets_addUp_27, x_Sets_addUp_28, x_Sets_addUp_29, x_Sets_addUp_32, x_Sets_addUp_34, x_Sets_addUp_35, x_Sets_addUp_38, x_Sets_addUp_39, x_Sets_addUp_41, x_Sets_addUp_42, x_Sets_addUp_43, x_Sets_addUp_44, x_Sets_addUp_47, x_Sets_addUp_48, x_Sets_addUp_49, x_Sets_addUp_51, x_Sets_addUp_52, x_Sets_addUp_53, x_Sets_addUp_55, x_Sets_addUp_56, x_Sets_addUp_58, x_Sets_addUp_59, x_Sets_addUp_60, x_Sets_addUp_63, x_Sets_addUp_66, x_Sets_addUp_69, x_Sets_addUp_70, x_Sets_addUp_71, x_Sets_addUp_72, x_Sets_addUp_73, x_Sets_addUp_76, mk_I, mk_J, mk_Q, mk_n, mk_sI, mk_sJ, Option.toList_some, Option.toList_none, List.cons_append, List.nil_append, true_and, and_true, ↓reduceIte, leT, leF, ltT, ltF, eqF, lt0F, le0T, le0F, eq0F, natT, nI_clamp, nI_1, if_true, if_false, not_true_eq_false, not_false_eq_true, z_00, z_10, eq_self, true_or, or_true, or_false, false_or, al_65, ia_65, and_pow0 hl5 hi, hbf, nI_add]
        exact ih
    · have hbf : (l.testBit i = false) = True := eq_true (by simpa using hb)
      refine ⟨(I', some (.int (I' 62 i)), some (.int 0)), ⟨fun t ht htl => ?_, q2⟩, fun P ih => ?_⟩
      · rw [pow2] at ht
        rcases Nat.lt_or_ge t (2 ^ i) with h | h
        · exact q1 t h htl
        · obtain ⟨r, rfl⟩ := Nat.le.dest h
          exact absurd (sub_head (by omega) htl) hb
      · rw [pow2] at ih
        rw [x_Sets_addUp_5]
        simp (disch := omega) only [x_Sets_addUp_7, x_Sets_addUp_9, x_Sets_addUp_12, x_Sets_addUp_13, x_Sets_addUp_16, x_Sets_addUp_18, x_Sets_addUp_21, x_Sets_addUp_23, x_Sets_addUp_24, x_Sets_addUp_26, x_Sets_addUp_27, x_Sets_addUp_28, x_Sets_addUp_29, x_Sets_addUp_32, x_Sets_addUp_34, x_Sets_addUp_35, x_Sets_addUp_38, x_Sets_addUp_39, x_Sets_addUp_41, x_Sets_addUp_42, x_Sets_addUp_43, x_Sets_addUp_44, x_Sets_addUp_47, x_Sets_addUp_48, x_Sets_addUp_49, x_Sets_addUp_51, x_Sets_addUp_52, x_Sets_addUp_53, x_Sets_addUp_55, x_Sets_addUp_56, x_Sets_addUp_58, x_Sets_addUp_59, x_Sets_addUp_60, x_Sets_addUp_63, x_Sets_addUp_66, x_Sets_addUp_69, x_Sets_addUp_70, x_Sets_addUp_71, x_Sets_addUp_72, x_Sets_addUp_73, x_Sets_addUp_76, mk_I, mk_J, mk_Q, mk_n, mk_sI, mk_sJ, Option.toList_some, Option.toList_none, List.cons_append, List.nil_append, true_and, and_true, ↓reduceIte, leT, leF, ltT, ltF, eqF, lt0F, le0T, le0F, eq0F, natT, nI_clamp, nI_1, if_true, if_false, not_true_eq_false, not_false_eq_true, z_00, z_10, eq_self, true_or, or_true, or_false, false_or, show (9 : Int32) = nI 9 from rfl, oc_60, rt_60_1, rt_60_2, rt_60_3, rt_60_4, rt_60_5, mx_call (q_Line_at (d := 0) L61 I' J _) _, e1, and_pow0 hl5 hi, hbf, nI_add]
        exact ih)
  refine ⟨I1, ⟨p1, p2⟩, ?_⟩
  refine mx_Cal_in (ls := [some (.ref 60), some (.ref 65), some (.int (nI l)), none, none, none, none]) (d := 1) tab_70 (by rw [mx_rcv, oc_60]; trivial) (Nat.le_of_ble_eq_true rfl) rfl ?_
  simp only [x_Sets_addUp_0, x_Sets_addUp_1, x_Sets_addUp_2, x_Sets_addUp_3]
  refine hP1 _ ?_
  rw [x_Sets_addUp_5]
  simp (disch := omega) only [x_Sets_addUp_7, x_Sets_addUp_9, x_Sets_addUp_76, mk_I, mk_J, mk_Q, mk_n, mk_sI, mk_sJ, Option.toList_some, Option.toList_none, List.cons_append, List.nil_append, true_and, and_true, ↓reduceIte, leT, leF, ltT, ltF, eqF, lt0F, le0T, le0F, eq0F, natT, nI_clamp, nI_1, if_true, if_false, not_true_eq_false, not_false_eq_true, z_00, z_10, eq_self, true_or, or_true, or_false, false_or, show (9 : Int32) = nI 9 from rfl]
theorem q_addUp66 {n l : Nat} {V : Nat → Nat} (I : mx_I) (J : mx_J) (h9 : n ≤ 9) (hl : l < 2 ^ n) (hv : ∀ j, j < n → I 62 j = nI (V j)) (h0 : I 66 0 = 0) : ∃ I', ((∀ s, s < 512 → s &&& l = s → I' 66 s = nI (sS V n s)) ∧ ∀ b j, ¬ (b = 66 ∧ j ≠ 0) → I' b j = I b j) ∧ mx_Cal mx_tab 2 70 [.ref 60, .ref 66, .int (nI l)] (mk I J) none (mk I' J) := by
  have hl5 : l < 512 := Nat.lt_of_lt_of_le hl (Nat.pow_le_pow_right (show 0 < 2 by omega) h9)
  obtain ⟨⟨I1, w1, w2⟩, ⟨p1, p2⟩, hP1⟩ := lqx (σ := mx_I × Option Value × Option Value) (cl := k_Sets_addUp) (C := mx_Cal mx_tab 1) (pc := 5) (i0 := 0) (n := 9) (fun i s => [some (.ref 60), some (.ref 66), some (.int (nI l)), some (.int (nI (2 ^ i))), some (.int (nI i)), s.2.1, s.2.2]) (fun s => mk s.1 J) (fun i s => (∀ t, t < 2 ^ i → t &&& l = t → s.1 66 t = nI (sS V n t)) ∧ ∀ b j, ¬ (b = 66 ∧ j ≠ 0) → s.1 b j = I b j) (s0 := (I, none, none)) (Nat.zero_le 9) ⟨fun t ht _ => by
      have : t = 0 := by have h1 : t < 1 := ht; omega
      subst this
      rw [sS_0]
      exact h0, fun _ _ _ => rfl⟩ (fun i s _ hi hQ => by
    obtain ⟨I', v1, v2⟩ := s
    obtain ⟨q1, q2⟩ := hQ
    have q1 : ∀ t, t < 2 ^ i → t &&& l = t → I' 66 t = nI (sS V n t) := q1
    have q2 : ∀ b j, ¬ (b = 66 ∧ j ≠ 0) → I' b j = I b j := q2
    have e1 := at61 I' hi
    have hp9 := pow9 hi
    have hp0 := Nat.two_pow_pos i
    by_cases hb : l.testBit i = true
    · have hin := tb_n hl hb
      rw [q2 62 i (by omega), hv i hin] at e1
      have hbf : (l.testBit i = false) = False := eq_false (by rw [hb]; decide)
      obtain ⟨I2, ⟨r1, r2⟩, hP2⟩ := lqx (cl := k_Sets_addUp) (C := mx_Cal mx_tab 1) (pc := 26) (i0 := 0) (n := 2 ^ i) (fun t (_ : mx_I) => [some (.ref 60), some (.ref 66), some (.int (nI l)), some (.int (nI (2 ^ i))), some (.int (nI i)), some (.int (nI (V i))), some (.int (nI t))]) (fun s => mk s J) (fun t I2 => (∀ r, r < 2 ^ i + t → r &&& l = r → I2 66 r = nI (sS V n r)) ∧ ∀ b j, ¬ (b = 66 ∧ j ≠ 0) → I2 b j = I b j) (s0 := I') (Nat.zero_le _) ⟨fun r hr => q1 r hr, q2⟩ (fun t I2 _ ht hQ2 => by
        obtain ⟨u1, u2⟩ := hQ2
        refine ⟨mx_ups I2 66 (2 ^ i + t) (I2 66 t + nI (V i)), ⟨fun r hr hrl => ?_, fun b j hbj => ?_⟩, fun P ih => ?_⟩
        · by_cases hrt : r = 2 ^ i + t
          · subst hrt
            rw [ups_same, u1 t (by omega) (sub_tail ht hrl), sS_bit hin ht, nI_add]
          · rw [ups_ne _ _ (by omega)]
            exact u1 r (by omega) hrl
        · rw [ups_ne _ _ (by omega)]
          exact u2 b j hbj
        · rw [x_Sets_addUp_26]
          simp (disch := omega) only [x_Sets_addUp_27, x_Sets_addUp_28, x_Sets_addUp_29, x_Sets_addUp_32, x_Sets_addUp_34, x_Sets_addUp_35, x_Sets_addUp_38, x_Sets_addUp_39, x_Sets_addUp_41, x_Sets_addUp_42, x_Sets_addUp_43, x_Sets_addUp_44, x_Sets_addUp_47, x_Sets_addUp_48, x_Sets_addUp_49, x_Sets_addUp_51, x_Sets_addUp_52, x_Sets_addUp_53, x_Sets_addUp_55, x_Sets_addUp_56, x_Sets_addUp_58, x_Sets_addUp_59, x_Sets_addUp_60, x_Sets_addUp_63, x_Sets_addUp_66, x_Sets_addUp_69, x_Sets_addUp_70, x_Sets_addUp_71, x_Sets_addUp_72, x_Sets_addUp_73, x_Sets_addUp_76, mk_I, mk_J, mk_Q, mk_n, mk_sI, mk_sJ, Option.toList_some, Option.toList_none, List.cons_append, List.nil_append, true_and, and_true, ↓reduceIte, leT, leF, ltT, ltF, eqF, lt0F, le0T, le0F, eq0F, natT, nI_clamp, nI_1, if_true, if_false, not_true_eq_false, not_false_eq_true, z_00, z_10, eq_self, true_or, or_true, or_false, false_or, oa_66, or_66, al_66, ia_66, and_pow0 hl5 hi, hbf, nI_add]
          exact ih)
      have r1 : ∀ r, r < 2 ^ i + 2 ^ i → r &&& l = r → I2 66 r = nI (sS V n r) := r1
      refine ⟨(I2, some (.int (nI (V i))), some (.int (nI (2 ^ i)))), ⟨fun t ht => ?_, r2⟩, fun P ih => ?_⟩
      · rw [pow2] at ht
        exact r1 t ht
      · rw [pow2] at ih
        rw [x_Sets_addUp_5]
        simp (disch := omega) only [x_Sets_addUp_7, x_Sets_addUp_9, x_Sets_addUp_12, x_Sets_addUp_13, x_Sets_addUp_16, x_Sets_addUp_18, x_Sets_addUp_21, x_Sets_addUp_23, x_Sets_addUp_24, mk_I, mk_J, mk_Q, mk_n, mk_sI, mk_sJ, Option.toList_some, Option.toList_none, List.cons_append, List.nil_append, true_and, and_true, ↓reduceIte, leT, leF, ltT, ltF, eqF, lt0F, le0T, le0F, eq0F, natT, nI_clamp, nI_1, if_true, if_false, not_true_eq_false, not_false_eq_true, z_00, z_10, eq_self, true_or, or_true, or_false, false_or, show (9 : Int32) = nI 9 from rfl, oc_60, rt_60_1, rt_60_2, rt_60_3, rt_60_4, rt_60_5, mx_call (q_Line_at (d := 0) L61 I' J _) _, e1]
        refine hP2 _ ?_
        rw [x_Sets_addUp_26]
        simp (disch := omega) only [x_Sets_addUp_27, x_Sets_addUp_28, x_Sets_addUp_29, x_Sets_addUp_32, x_Sets_addUp_34, x_Sets_addUp_35, x_Sets_addUp_38, x_Sets_addUp_39, x_Sets_addUp_41, x_Sets_addUp_42, x_Sets_addUp_43, x_Sets_addUp_44, x_Sets_addUp_47, x_Sets_addUp_48, x_Sets_addUp_49, x_Sets_addUp_51, x_Sets_addUp_52, x_Sets_addUp_53, x_Sets_addUp_55, x_Sets_addUp_56, x_Sets_addUp_58, x_Sets_addUp_59, x_Sets_addUp_60, x_Sets_addUp_63, x_Sets_addUp_66, x_Sets_addUp_69, x_Sets_addUp_70, x_Sets_addUp_71, x_Sets_addUp_72, x_Sets_addUp_73, x_Sets_addUp_76, mk_I, mk_J, mk_Q, mk_n, mk_sI, mk_sJ, Option.toList_some, Option.toList_none, List.cons_append, List.nil_append, true_and, and_true, ↓reduceIte, leT, leF, ltT, ltF, eqF, lt0F, le0T, le0F, eq0F, natT, nI_clamp, nI_1, if_true, if_false, not_true_eq_false, not_false_eq_true, z_00, z_10, eq_self, true_or, or_true, or_false, false_or, al_66, ia_66, and_pow0 hl5 hi, hbf, nI_add]
        exact ih
    · have hbf : (l.testBit i = false) = True := eq_true (by simpa using hb)
      refine ⟨(I', some (.int (I' 62 i)), some (.int 0)), ⟨fun t ht htl => ?_, q2⟩, fun P ih => ?_⟩
      · rw [pow2] at ht
        rcases Nat.lt_or_ge t (2 ^ i) with h | h
        · exact q1 t h htl
        · obtain ⟨r, rfl⟩ := Nat.le.dest h
          exact absurd (sub_head (by omega) htl) hb
      · rw [pow2] at ih
        rw [x_Sets_addUp_5]
        simp (disch := omega) only [x_Sets_addUp_7, x_Sets_addUp_9, x_Sets_addUp_12, x_Sets_addUp_13, x_Sets_addUp_16, x_Sets_addUp_18, x_Sets_addUp_21, x_Sets_addUp_23, x_Sets_addUp_24, x_Sets_addUp_26, x_Sets_addUp_27, x_Sets_addUp_28, x_Sets_addUp_29, x_Sets_addUp_32, x_Sets_addUp_34, x_Sets_addUp_35, x_Sets_addUp_38, x_Sets_addUp_39, x_Sets_addUp_41, x_Sets_addUp_42, x_Sets_addUp_43, x_Sets_addUp_44, x_Sets_addUp_47, x_Sets_addUp_48, x_Sets_addUp_49, x_Sets_addUp_51, x_Sets_addUp_52, x_Sets_addUp_53, x_Sets_addUp_55, x_Sets_addUp_56, x_Sets_addUp_58, x_Sets_addUp_59, x_Sets_addUp_60, x_Sets_addUp_63, x_Sets_addUp_66, x_Sets_addUp_69, x_Sets_addUp_70, x_Sets_addUp_71, x_Sets_addUp_72, x_Sets_addUp_73, x_Sets_addUp_76, mk_I, mk_J, mk_Q, mk_n, mk_sI, mk_sJ, Option.toList_some, Option.toList_none, List.cons_append, List.nil_append, true_and, and_true, ↓reduceIte, leT, leF, ltT, ltF, eqF, lt0F, le0T, le0F, eq0F, natT, nI_clamp, nI_1, if_true, if_false, not_true_eq_false, not_false_eq_true, z_00, z_10, eq_self, true_or, or_true, or_false, false_or, show (9 : Int32) = nI 9 from rfl, oc_60, rt_60_1, rt_60_2, rt_60_3, rt_60_4, rt_60_5, mx_call (q_Line_at (d := 0) L61 I' J _) _, e1, and_pow0 hl5 hi, hbf, nI_add]
        exact ih)
  refine ⟨I1, ⟨p1, p2⟩, ?_⟩
  refine mx_Cal_in (ls := [some (.ref 60), some (.ref 66), some (.int (nI l)), none, none, none, none]) (d := 1) tab_70 (by rw [mx_rcv, oc_60]; trivial) (Nat.le_of_ble_eq_true rfl) rfl ?_
  simp only [x_Sets_addUp_0, x_Sets_addUp_1, x_Sets_addUp_2, x_Sets_addUp_3]
  refine hP1 _ ?_
  rw [x_Sets_addUp_5]
  simp (disch := omega) only [x_Sets_addUp_7, x_Sets_addUp_9, x_Sets_addUp_76, mk_I, mk_J, mk_Q, mk_n, mk_sI, mk_sJ, Option.toList_some, Option.toList_none, List.cons_append, List.nil_append, true_and, and_true, ↓reduceIte, leT, leF, ltT, ltF, eqF, lt0F, le0T, le0F, eq0F, natT, nI_clamp, nI_1, if_true, if_false, not_true_eq_false, not_false_eq_true, z_00, z_10, eq_self, true_or, or_true, or_false, false_or, show (9 : Int32) = nI 9 from rfl]
def hN (l n : Nat) (V : Nat → Nat) (x : Int32) (t : Nat) : Nat := if t &&& l = t ∧ nI (sS V n t) = x then 1 else 0
theorem hN_01 (l n : Nat) (V : Nat → Nat) (x : Int32) (t : Nat) : (hN l n V x t = 0 ∧ ¬ (t &&& l = t ∧ nI (sS V n t) = x)) ∨ (hN l n V x t = 1 ∧ t &&& l = t ∧ nI (sS V n t) = x) := by
  unfold hN
  by_cases h : t &&& l = t ∧ nI (sS V n t) = x
  · exact Or.inr ⟨if_pos h, h⟩
  · exact Or.inl ⟨if_neg h, h⟩
theorem sN_pos {f : Nat → Nat} {k n : Nat} (hk : k < n) (hf : 0 < f k) : 0 < sN f n := by
  have h := sN_mono (f := fun i => if i = k then f i else 0) (g := f) (n := n) (fun i _ => by
    by_cases q : i = k
    · rw [if_pos q]; exact Nat.le_refl _
    · rw [if_neg q]; exact Nat.zero_le _)
  rw [sN_one f k n, if_pos hk] at h
  omega
theorem sN_left0 (g : Nat → Nat) : ∀ n, sN g (n + 1) = g 0 + sN (fun t => g (t + 1)) n
  | 0 => by simp [sN]
  | n + 1 => by
    show sN g (n + 1) + g (n + 1) = g 0 + (sN (fun t => g (t + 1)) n + g (n + 1))
    rw [sN_left0 g n]
    omega
theorem sN_rev (g : Nat → Nat) : ∀ m, sN (fun t => g (m - t)) (m + 1) = sN g (m + 1)
  | 0 => rfl
  | m + 1 => by
    rw [sN_left0]
    have e : sN (fun t => g (m + 1 - (t + 1))) (m + 1) = sN (fun t => g (m - t)) (m + 1) := sN_congr (fun t _ => by
      show g (m + 1 - (t + 1)) = g (m - t)
      rw [show m + 1 - (t + 1) = m - t from by omega])
    rw [e, sN_rev g m]
    show g (m + 1) + sN g (m + 1) = sN g (m + 1) + g (m + 1)
    omega
theorem nI_sub {t l : Nat} (ht : t < 512) (hl : l < 512) : (nI t &&& nI l = nI t) = (t &&& l = t) := by
  rw [nI_and]
  exact propext (nI_eq (by have := and_512 l ht; omega) (by omega))
theorem ndl0 {t l : Nat} (ht : t < 512) (hl : l < 512) : (nI t &&& (nI l ^^^ -1) = 0) = (t &&& l = t) := by
  rw [andn ht hl, show (0 : Int32) = nI 0 from rfl]
  have h1 := and_512 (511 - l) ht
  apply propext
  rw [nI_eq (by omega) (by omega)]
  constructor
  · intro h
    refine sub_and.mpr (fun j hj => ?_)
    have h2 : (t &&& (511 - l)).testBit j = false := by rw [h]; simp
    rw [Nat.testBit_and, tb_sub hl, hj] at h2
    have hj9 : j < 9 := tb_n (n := 9) (by omega) hj
    simp [hj9] at h2
    exact h2
  · intro h
    apply Nat.eq_of_testBit_eq
    intro j
    rw [Nat.testBit_and, tb_sub hl, Nat.zero_testBit]
    by_cases hj : t.testBit j = true
    · rw [sub_and.mp h j hj]
      simp
    · simp at hj
      rw [hj]; rfl
theorem q_tfV {m : Nat} (I : mx_I) (J : mx_J) (hm : I 7 1 = nI m) (hml : m ≤ 9) : ∃ I', (I' 61 1 = I 7 1 ∧ (∀ j, j < 9 → I' 62 j = I 8 j) ∧ ∀ a j, a ≠ 62 → ¬ (a = 61 ∧ j = 1) → I' a j = I a j) ∧ ∀ d, mx_Cal mx_tab (d + 2) 10 [.ref 61, .ref 7] (mk I J) none (mk I' J) := q_tfL (by decide +kernel) (by decide +kernel) (by decide +kernel) (by decide +kernel) (by decide +kernel) (by decide +kernel) (by decide) (by decide) I J hm hml
theorem q_countSums {n : Nat} {I : mx_I} {K M T F od : Nat → Nat} (hc : CI I n K M T F od) (hz7 : I 7 1 = 0) (h66 : I 66 0 = 0) (J : mx_J) (x : Int32) : ∃ I', (∀ p, p ≤ lfN F n → hN (lfN F n) n T x p = 1 → (∀ t, t < p → hN (lfN F n) n T x t = 0) → I' 60 0 = nI p) ∧ (∀ a j, ¬ ((a = 60 ∧ j = 0) ∨ (a = 61 ∧ j = 1) ∨ a = 62 ∨ (a = 66 ∧ j ≠ 0)) → I' a j = I a j) ∧ mx_Cal mx_tab 4 69 [.ref 60, .ref 1, .int x] (mk I J) (some (.int (nI (sN (hN (lfN F n) n T x) (lfN F n + 1))))) (mk I' J) := by
  have h9 := hc.1
  have hl := lfN_lt F n
  have hl5 := lfN_512 F h9
  obtain ⟨I1, ⟨-, a2, a3⟩, c1⟩ := q_tfV (m := 0) I J hz7 (by omega)
  obtain ⟨I2, ⟨b1, b2⟩, c2⟩ := q_addUp66 (V := T) I1 J h9 hl (fun j hj => by rw [a2 j (by omega)]; exact (hc.2.2 j hj).2.2.2.2.2.2.2.1) (by rw [a3 66 0 (by omega) (by omega)]; exact h66)
  obtain ⟨I3, ⟨d1, d2⟩, hP⟩ := lqx (cl := k_Sets_countSums) (C := mx_Cal mx_tab 3) (pc := 37) (i0 := 0) (n := lfN F n + 1) (fun i (_ : mx_I) => [some (.ref 60), some (.ref 1), some (.int x), some (.int (nI (lfN F n))), some (.int (nI (sN (hN (lfN F n) n T x) i))), some (.int (nI i))]) (fun I' => mk I' J) (fun i I' => ((∀ t, t < i → hN (lfN F n) n T x t = 0) ∨ ∃ p, p < i ∧ hN (lfN F n) n T x p = 1 ∧ (∀ t, t < p → hN (lfN F n) n T x t = 0) ∧ I' 60 0 = nI p) ∧ ∀ a j, ¬ (a = 60 ∧ j = 0) → I' a j = I2 a j) (s0 := I2) (Nat.zero_le _) ⟨Or.inl (fun t ht => absurd ht (Nat.not_lt_zero t)), fun _ _ _ => rfl⟩ (fun i I' _ hi hQ => by
    obtain ⟨q1, q2⟩ := hQ
    have hsle : sN (hN (lfN F n) n T x) i ≤ i * 1 := sN_le (fun t _ => by rcases hN_01 (lfN F n) n T x t with ⟨h, -⟩ | ⟨h, -⟩ <;> omega)
    have hs1 : sN (hN (lfN F n) n T x) (i + 1) = sN (hN (lfN F n) n T x) i + hN (lfN F n) n T x i := rfl
    rcases hN_01 (lfN F n) n T x i with ⟨hh, hno⟩ | ⟨hh, hs, hx⟩
    · rw [hh, Nat.add_zero] at hs1
      refine ⟨I', ⟨?_, q2⟩, fun P ih => ?_⟩
      · rcases q1 with q1 | ⟨p, p1, p2⟩
        · left
          intro t ht
          by_cases hti : t = i
          · rw [hti]; exact hh
          · exact q1 t (by omega)
        · exact Or.inr ⟨p, by omega, p2⟩
      · rw [hs1] at ih
        rw [x_Sets_countSums_37]
        by_cases hs : i &&& lfN F n = i
        · have hx : (nI (sS T n i) = x) = False := eq_false (fun h => hno ⟨hs, h⟩)
          have e := b1 i (by omega) hs
          rw [← q2 66 i (by omega)] at e
          simp (disch := omega) only [x_Sets_countSums_39, x_Sets_countSums_40, x_Sets_countSums_43, x_Sets_countSums_45, x_Sets_countSums_46, x_Sets_countSums_49, x_Sets_countSums_50, x_Sets_countSums_53, x_Sets_countSums_55, x_Sets_countSums_56, x_Sets_countSums_57, x_Sets_countSums_59, x_Sets_countSums_62, x_Sets_countSums_63, x_Sets_countSums_66, x_Sets_countSums_68, x_Sets_countSums_69, x_Sets_countSums_70, x_Sets_countSums_73, x_Sets_countSums_74, x_Sets_countSums_76, x_Sets_countSums_79, x_Sets_countSums_81, x_Sets_countSums_84, x_Sets_countSums_85, x_Sets_countSums_88, x_Sets_countSums_91, x_Sets_countSums_94, x_Sets_countSums_97, x_Sets_countSums_100, x_Sets_countSums_102, mk_I, mk_J, mk_Q, mk_n, mk_sI, mk_sJ, Option.toList_some, Option.toList_none, List.cons_append, List.nil_append, true_and, and_true, ↓reduceIte, leT, leF, ltT, ltF, eqF, lt0F, le0T, le0F, eq0F, natT, nI_clamp, nI_1, if_true, if_false, not_true_eq_false, not_false_eq_true, z_00, z_10, eq_self, true_or, or_true, or_false, false_or, oc_60, rt_60_1, rt_60_2, rt_60_3, rt_60_4, rt_60_5, or_66, al_66, ia_66, nI_sub, hs, e, hx]
          exact ih
        · simp (disch := omega) only [x_Sets_countSums_39, x_Sets_countSums_40, x_Sets_countSums_43, x_Sets_countSums_45, x_Sets_countSums_46, x_Sets_countSums_49, x_Sets_countSums_50, x_Sets_countSums_53, x_Sets_countSums_55, x_Sets_countSums_56, x_Sets_countSums_57, x_Sets_countSums_59, x_Sets_countSums_62, x_Sets_countSums_63, x_Sets_countSums_66, x_Sets_countSums_68, x_Sets_countSums_69, x_Sets_countSums_70, x_Sets_countSums_73, x_Sets_countSums_74, x_Sets_countSums_76, x_Sets_countSums_79, x_Sets_countSums_81, x_Sets_countSums_84, x_Sets_countSums_85, x_Sets_countSums_88, x_Sets_countSums_91, x_Sets_countSums_94, x_Sets_countSums_97, x_Sets_countSums_100, x_Sets_countSums_102, mk_I, mk_J, mk_Q, mk_n, mk_sI, mk_sJ, Option.toList_some, Option.toList_none, List.cons_append, List.nil_append, true_and, and_true, ↓reduceIte, leT, leF, ltT, ltF, eqF, lt0F, le0T, le0F, eq0F, natT, nI_clamp, nI_1, if_true, if_false, not_true_eq_false, not_false_eq_true, z_00, z_10, eq_self, true_or, or_true, or_false, false_or, oc_60, rt_60_1, rt_60_2, rt_60_3, rt_60_4, rt_60_5, or_66, al_66, ia_66, nI_sub, hs]
          exact ih
    · rw [hh] at hs1
      have e := b1 i (by omega) hs
      rw [← q2 66 i (by omega)] at e
      rcases q1 with q1 | ⟨p, p1, p2, p3, p4⟩
      · have h0 : sN (hN (lfN F n) n T x) i = 0 := sN_zero q1
        refine ⟨mx_ups I' 60 0 (nI i), ⟨Or.inr ⟨i, by omega, hh, q1, ups_same _ _ _ _⟩, fun a j h => by rw [ups_ne _ _ (by omega)]; exact q2 a j h⟩, fun P ih => ?_⟩
        rw [hs1, h0] at ih
        rw [x_Sets_countSums_37, h0]
        simp (disch := omega) only [x_Sets_countSums_39, x_Sets_countSums_40, x_Sets_countSums_43, x_Sets_countSums_45, x_Sets_countSums_46, x_Sets_countSums_49, x_Sets_countSums_50, x_Sets_countSums_53, x_Sets_countSums_55, x_Sets_countSums_56, x_Sets_countSums_57, x_Sets_countSums_59, x_Sets_countSums_62, x_Sets_countSums_63, x_Sets_countSums_66, x_Sets_countSums_68, x_Sets_countSums_69, x_Sets_countSums_70, x_Sets_countSums_73, x_Sets_countSums_74, x_Sets_countSums_76, x_Sets_countSums_79, x_Sets_countSums_81, x_Sets_countSums_84, x_Sets_countSums_85, x_Sets_countSums_88, x_Sets_countSums_91, x_Sets_countSums_94, x_Sets_countSums_97, x_Sets_countSums_100, x_Sets_countSums_102, mk_I, mk_J, mk_Q, mk_n, mk_sI, mk_sJ, Option.toList_some, Option.toList_none, List.cons_append, List.nil_append, true_and, and_true, ↓reduceIte, leT, leF, ltT, ltF, eqF, lt0F, le0T, le0F, eq0F, natT, nI_clamp, nI_1, if_true, if_false, not_true_eq_false, not_false_eq_true, z_00, z_10, eq_self, true_or, or_true, or_false, false_or, oc_60, rt_60_1, rt_60_2, rt_60_3, rt_60_4, rt_60_5, or_66, al_66, ia_66, nI_sub, hs, e, hx, nI_0]
        exact ih
      · have h0 : 0 < sN (hN (lfN F n) n T x) i := sN_pos p1 (by omega)
        refine ⟨mx_ups I' 60 0 (I' 60 0), ⟨Or.inr ⟨p, by omega, p2, p3, by rw [ups_same]; exact p4⟩, fun a j h => by rw [ups_ne _ _ (by omega)]; exact q2 a j h⟩, fun P ih => ?_⟩
        rw [hs1] at ih
        rw [x_Sets_countSums_37]
        simp (disch := omega) only [x_Sets_countSums_39, x_Sets_countSums_40, x_Sets_countSums_43, x_Sets_countSums_45, x_Sets_countSums_46, x_Sets_countSums_49, x_Sets_countSums_50, x_Sets_countSums_53, x_Sets_countSums_55, x_Sets_countSums_56, x_Sets_countSums_57, x_Sets_countSums_59, x_Sets_countSums_62, x_Sets_countSums_63, x_Sets_countSums_66, x_Sets_countSums_68, x_Sets_countSums_69, x_Sets_countSums_70, x_Sets_countSums_73, x_Sets_countSums_74, x_Sets_countSums_76, x_Sets_countSums_79, x_Sets_countSums_81, x_Sets_countSums_84, x_Sets_countSums_85, x_Sets_countSums_88, x_Sets_countSums_91, x_Sets_countSums_94, x_Sets_countSums_97, x_Sets_countSums_100, x_Sets_countSums_102, mk_I, mk_J, mk_Q, mk_n, mk_sI, mk_sJ, Option.toList_some, Option.toList_none, List.cons_append, List.nil_append, true_and, and_true, ↓reduceIte, leT, leF, ltT, ltF, eqF, lt0F, le0T, le0F, eq0F, natT, nI_clamp, nI_1, if_true, if_false, not_true_eq_false, not_false_eq_true, z_00, z_10, eq_self, true_or, or_true, or_false, false_or, oc_60, rt_60_1, rt_60_2, rt_60_3, rt_60_4, rt_60_5, or_66, al_66, ia_66, nI_sub, hs, e, hx]
        exact ih)
  refine ⟨I3, fun p hp h1 h2 => ?_, fun a j h => by rw [d2 a j (by omega), b2 a j (by omega), a3 a j (by omega) (by omega)], ?_⟩
  · rcases d1 with d1 | ⟨p', e1, e2, e3, e4⟩
    · have := d1 p (by omega)
      omega
    · have : p' = p := by
        rcases Nat.lt_trichotomy p' p with h | h | h
        · have := h2 p' h; omega
        · exact h
        · have := e3 p h; omega
      rw [← this]
      exact e4
  · refine mx_Cal_in (ls := [some (.ref 60), some (.ref 1), some (.int x), none, none, none]) (d := 3) tab_69 (by rw [mx_rcv, oc_60]; trivial) (Nat.le_of_ble_eq_true rfl) rfl ?_
    simp (disch := omega) only [x_Sets_countSums_0, x_Sets_countSums_1, x_Sets_countSums_4, x_Sets_countSums_7, x_Sets_countSums_8, x_Sets_countSums_9, x_Sets_countSums_12, x_Sets_countSums_13, x_Sets_countSums_16, x_Sets_countSums_19, x_Sets_countSums_22, x_Sets_countSums_23, x_Sets_countSums_24, x_Sets_countSums_27, x_Sets_countSums_28, x_Sets_countSums_31, x_Sets_countSums_32, x_Sets_countSums_34, x_Sets_countSums_35, mk_I, mk_J, mk_Q, mk_n, mk_sI, mk_sJ, Option.toList_some, Option.toList_none, List.cons_append, List.nil_append, true_and, and_true, ↓reduceIte, leT, leF, ltT, ltF, eqF, lt0F, le0T, le0F, eq0F, natT, nI_clamp, nI_1, if_true, if_false, not_true_eq_false, not_false_eq_true, z_00, z_10, eq_self, true_or, or_true, or_false, false_or, oc_0, oc_1, oc_2, rt_0_0, rt_0_1, rt_0_3, rt_0_4, rt_0_5, rt_0_6, rt_0_7, rt_0_8, rt_0_9, rt_1_0, rt_1_5, rt_1_6, rt_1_7, rt_1_8, rt_2_1, rt_2_2, rt_2_3, rt_2_4, rt_2_5, oc_60, rt_60_1, rt_60_2, rt_60_3, rt_60_4, rt_60_5, mx_call (q_leftSet (d := 0) hc J) _, mx_call (c1 0) _, mx_call c2 _]
    rw [← nI_0]
    refine hP _ ?_
    rw [x_Sets_countSums_37]
    simp (disch := omega) only [x_Sets_countSums_39, x_Sets_countSums_40, x_Sets_countSums_43, x_Sets_countSums_45, x_Sets_countSums_46, x_Sets_countSums_49, x_Sets_countSums_50, x_Sets_countSums_53, x_Sets_countSums_55, x_Sets_countSums_56, x_Sets_countSums_57, x_Sets_countSums_59, x_Sets_countSums_62, x_Sets_countSums_63, x_Sets_countSums_66, x_Sets_countSums_68, x_Sets_countSums_69, x_Sets_countSums_70, x_Sets_countSums_73, x_Sets_countSums_74, x_Sets_countSums_76, x_Sets_countSums_79, x_Sets_countSums_81, x_Sets_countSums_84, x_Sets_countSums_85, x_Sets_countSums_88, x_Sets_countSums_91, x_Sets_countSums_94, x_Sets_countSums_97, x_Sets_countSums_100, x_Sets_countSums_102, mk_I, mk_J, mk_Q, mk_n, mk_sI, mk_sJ, Option.toList_some, Option.toList_none, List.cons_append, List.nil_append, true_and, and_true, ↓reduceIte, leT, leF, ltT, ltF, eqF, lt0F, le0T, le0F, eq0F, natT, nI_clamp, nI_1, if_true, if_false, not_true_eq_false, not_false_eq_true, z_00, z_10, eq_self, true_or, or_true, or_false, false_or]
theorem eq1F {z : Nat} (h : z ≠ 1) (hz : z < 2 ^ 31) : (nI z = 1) = False := eqF (b := 1) h hz (by omega)
theorem op_sums {L : Nat} {xs : Nat → Int32} {I : mx_I} (hI : Inv L xs I) (x0 x1 : Int32) : OpI L xs I 121 215 [.int x0, .int x1] := by
  obtain ⟨⟨n, pl, od, hit⟩, hcl, htp, hw, ht0, ht1⟩ := hI.1
  have ho := hit.2.2.2.1
  have hz5 := hit.2.2.2.2.2
  obtain ⟨K, M, T, F, hc, hr⟩ := hit.sk
  have h9 := hc.1
  have hn := hc.2.1
  have hm := hr.2.1
  obtain ⟨z0, a, b, c, a9, b9, c9, ca, ra, cb, rb, cc, rc⟩ := hcl
  have z0 : I 1 4 = I 95 3 := z0
  have ca : I 1 1 = nI a := ca
  have cb : I 1 2 = nI b := cb
  have cc : I 1 3 = nI c := cc
  have l1 : (1 : Int32) = nI 1 := rfl
  have z24n : ∀ q j : Nat, (24 : Int32) * nI q = nI (24 * q) := fun q j => by rw [show (24 : Int32) = nI 24 from rfl, pk_mul]
  rcases hasV_cases (n := 4) (by omega) x0 with e0 | ⟨q, hq, rfl⟩
  · refine OpI.err hI 1 (fun J => ?_) (fun J => ?_)
    · refine mx_Cal_in (ls := [some (.ref 0), some (.int _), some (.int _), none, none]) (d := 299) tab_121 (by rw [mx_rcv, oc_0]; trivial) (Nat.le_of_ble_eq_true rfl) rfl ?_
      simp (disch := omega) only [x_Main_sums_0, x_Main_sums_1, x_Main_sums_4, x_Main_sums_7, x_Main_sums_8, x_Main_sums_11, x_Main_sums_12, x_Main_sums_13, x_Main_sums_16, x_Main_sums_17, x_Main_sums_18, x_Main_sums_21, mk_I, mk_J, mk_Q, mk_n, mk_sI, mk_sJ, Option.toList_some, Option.toList_none, List.cons_append, List.nil_append, true_and, and_true, ↓reduceIte, leT, leF, ltT, ltF, eqF, lt0F, le0T, le0F, eq0F, natT, nI_clamp, nI_1, if_true, if_false, not_true_eq_false, not_false_eq_true, z_00, z_10, eq_self, true_or, or_true, or_false, false_or, oc_0, oc_1, oc_2, rt_0_0, rt_0_1, rt_0_3, rt_0_4, rt_0_5, rt_0_6, rt_0_7, rt_0_8, rt_0_9, rt_1_0, rt_1_5, rt_1_6, rt_1_7, rt_1_8, rt_2_1, rt_2_2, rt_2_3, rt_2_4, rt_2_5, mx_call (q_isSheet (d := 0) _ _) _, e0, mx_call (x_err_1 (d := 0) I J) _, mx_call (x_errN (d := 0) (k := 1) I J (by omega)) _]
    · refine mx_Cal_in (ls := [some (.ref 94), some (.int _), some (.int _), none, none, none, none, none]) (d := 299) tab_215 (by rw [mx_rcv, oc_94]; trivial) (Nat.le_of_ble_eq_true rfl) rfl ?_
      by_cases h1 : x1 < 0
      · simp (disch := omega) only [x_Ref_sums_0, x_Ref_sums_1, x_Ref_sums_2, x_Ref_sums_3, x_Ref_sums_6, x_Ref_sums_9, x_Ref_sums_10, x_Ref_sums_11, x_Ref_sums_14, x_Ref_sums_17, x_Ref_sums_18, x_Ref_sums_19, x_Ref_sums_20, x_Ref_sums_23, x_Ref_sums_24, x_Ref_sums_25, x_Ref_sums_28, mk_I, mk_J, mk_Q, mk_n, mk_sI, mk_sJ, Option.toList_some, Option.toList_none, List.cons_append, List.nil_append, true_and, and_true, ↓reduceIte, leT, leF, ltT, ltF, eqF, lt0F, le0T, le0F, eq0F, natT, nI_clamp, nI_1, if_true, if_false, not_true_eq_false, not_false_eq_true, z_00, z_10, eq_self, true_or, or_true, or_false, false_or, oc_94, rt_94_0, rt_94_1, rt_94_3, rt_94_8, rt_94_9, rt_94_10, rt_94_11, rt_94_12, rt_94_15, rt_94_16, rt_94_18, rt_94_21, rt_94_22, rt_94_23, rt_94_24, or_95, oa_95, tc_0, kc_0, k0_0, tc_1, kc_1, k0_1, tc_2, kc_2, k0_2, tc_3, kc_3, k0_3, tc_4, kc_4, k0_4, tc_5, kc_5, k0_5, tc_6, kc_6, k0_6, tc_7, kc_7, k0_7, eX95, eX94, mx_call (q_Ref_in (d := 0) _ _ _ _) _, h1, mx_call (m_err_1 (d := 0) (eX I 1) J) _, mx_call (m_errN (d := 0) (k := 1) (eX I 1) J (by omega)) _]
      · by_cases h2 : 1 < x1
        · simp (disch := omega) only [x_Ref_sums_0, x_Ref_sums_1, x_Ref_sums_2, x_Ref_sums_3, x_Ref_sums_6, x_Ref_sums_9, x_Ref_sums_10, x_Ref_sums_11, x_Ref_sums_14, x_Ref_sums_17, x_Ref_sums_18, x_Ref_sums_19, x_Ref_sums_20, x_Ref_sums_23, x_Ref_sums_24, x_Ref_sums_25, x_Ref_sums_28, mk_I, mk_J, mk_Q, mk_n, mk_sI, mk_sJ, Option.toList_some, Option.toList_none, List.cons_append, List.nil_append, true_and, and_true, ↓reduceIte, leT, leF, ltT, ltF, eqF, lt0F, le0T, le0F, eq0F, natT, nI_clamp, nI_1, if_true, if_false, not_true_eq_false, not_false_eq_true, z_00, z_10, eq_self, true_or, or_true, or_false, false_or, oc_94, rt_94_0, rt_94_1, rt_94_3, rt_94_8, rt_94_9, rt_94_10, rt_94_11, rt_94_12, rt_94_15, rt_94_16, rt_94_18, rt_94_21, rt_94_22, rt_94_23, rt_94_24, or_95, oa_95, tc_0, kc_0, k0_0, tc_1, kc_1, k0_1, tc_2, kc_2, k0_2, tc_3, kc_3, k0_3, tc_4, kc_4, k0_4, tc_5, kc_5, k0_5, tc_6, kc_6, k0_6, tc_7, kc_7, k0_7, eX95, eX94, mx_call (q_Ref_in (d := 0) _ _ _ _) _, h1, h2, mx_call (m_err_1 (d := 0) (eX I 1) J) _, mx_call (m_errN (d := 0) (k := 1) (eX I 1) J (by omega)) _]
        · simp (disch := omega) only [x_Ref_sums_0, x_Ref_sums_1, x_Ref_sums_2, x_Ref_sums_3, x_Ref_sums_6, x_Ref_sums_9, x_Ref_sums_10, x_Ref_sums_11, x_Ref_sums_14, x_Ref_sums_17, x_Ref_sums_18, x_Ref_sums_19, x_Ref_sums_20, x_Ref_sums_23, x_Ref_sums_24, x_Ref_sums_25, x_Ref_sums_28, mk_I, mk_J, mk_Q, mk_n, mk_sI, mk_sJ, Option.toList_some, Option.toList_none, List.cons_append, List.nil_append, true_and, and_true, ↓reduceIte, leT, leF, ltT, ltF, eqF, lt0F, le0T, le0F, eq0F, natT, nI_clamp, nI_1, if_true, if_false, not_true_eq_false, not_false_eq_true, z_00, z_10, eq_self, true_or, or_true, or_false, false_or, oc_94, rt_94_0, rt_94_1, rt_94_3, rt_94_8, rt_94_9, rt_94_10, rt_94_11, rt_94_12, rt_94_15, rt_94_16, rt_94_18, rt_94_21, rt_94_22, rt_94_23, rt_94_24, or_95, oa_95, tc_0, kc_0, k0_0, tc_1, kc_1, k0_1, tc_2, kc_2, k0_2, tc_3, kc_3, k0_3, tc_4, kc_4, k0_4, tc_5, kc_5, k0_5, tc_6, kc_6, k0_6, tc_7, kc_7, k0_7, eX95, eX94, mx_call (q_Ref_in (d := 0) _ _ _ _) _, h1, h2, mx_call (q_lacks0 (d := 0) (eX I 1) J e0) _, mx_call (m_err_1 (d := 0) (eX I 1) J) _, mx_call (m_errN (d := 0) (k := 1) (eX I 1) J (by omega)) _]
  have e0 := hasV_k (n := 4) (by omega) hq
  by_cases h1 : x1 < 0
  · refine OpI.err hI 1 (fun J => ?_) (fun J => ?_)
    · refine mx_Cal_in (ls := [some (.ref 0), some (.int _), some (.int _), none, none]) (d := 299) tab_121 (by rw [mx_rcv, oc_0]; trivial) (Nat.le_of_ble_eq_true rfl) rfl ?_
      simp (disch := omega) only [x_Main_sums_0, x_Main_sums_1, x_Main_sums_4, x_Main_sums_7, x_Main_sums_8, x_Main_sums_11, x_Main_sums_12, x_Main_sums_13, x_Main_sums_16, x_Main_sums_17, x_Main_sums_18, x_Main_sums_21, mk_I, mk_J, mk_Q, mk_n, mk_sI, mk_sJ, Option.toList_some, Option.toList_none, List.cons_append, List.nil_append, true_and, and_true, ↓reduceIte, leT, leF, ltT, ltF, eqF, lt0F, le0T, le0F, eq0F, natT, nI_clamp, nI_1, if_true, if_false, not_true_eq_false, not_false_eq_true, z_00, z_10, eq_self, true_or, or_true, or_false, false_or, oc_0, oc_1, oc_2, rt_0_0, rt_0_1, rt_0_3, rt_0_4, rt_0_5, rt_0_6, rt_0_7, rt_0_8, rt_0_9, rt_1_0, rt_1_5, rt_1_6, rt_1_7, rt_1_8, rt_2_1, rt_2_2, rt_2_3, rt_2_4, rt_2_5, mx_call (q_isSheet (d := 0) _ _) _, e0, ite_le, h1, mx_call (x_err_1 (d := 0) I J) _, mx_call (x_errN (d := 0) (k := 1) I J (by omega)) _]
    · refine mx_Cal_in (ls := [some (.ref 94), some (.int _), some (.int _), none, none, none, none, none]) (d := 299) tab_215 (by rw [mx_rcv, oc_94]; trivial) (Nat.le_of_ble_eq_true rfl) rfl ?_
      simp (disch := omega) only [x_Ref_sums_0, x_Ref_sums_1, x_Ref_sums_2, x_Ref_sums_3, x_Ref_sums_6, x_Ref_sums_9, x_Ref_sums_10, x_Ref_sums_11, x_Ref_sums_14, x_Ref_sums_17, x_Ref_sums_18, x_Ref_sums_19, x_Ref_sums_20, x_Ref_sums_23, x_Ref_sums_24, x_Ref_sums_25, x_Ref_sums_28, mk_I, mk_J, mk_Q, mk_n, mk_sI, mk_sJ, Option.toList_some, Option.toList_none, List.cons_append, List.nil_append, true_and, and_true, ↓reduceIte, leT, leF, ltT, ltF, eqF, lt0F, le0T, le0F, eq0F, natT, nI_clamp, nI_1, if_true, if_false, not_true_eq_false, not_false_eq_true, z_00, z_10, eq_self, true_or, or_true, or_false, false_or, oc_94, rt_94_0, rt_94_1, rt_94_3, rt_94_8, rt_94_9, rt_94_10, rt_94_11, rt_94_12, rt_94_15, rt_94_16, rt_94_18, rt_94_21, rt_94_22, rt_94_23, rt_94_24, or_95, oa_95, tc_0, kc_0, k0_0, tc_1, kc_1, k0_1, tc_2, kc_2, k0_2, tc_3, kc_3, k0_3, tc_4, kc_4, k0_4, tc_5, kc_5, k0_5, tc_6, kc_6, k0_6, tc_7, kc_7, k0_7, eX95, eX94, mx_call (q_Ref_in (d := 0) _ _ _ _) _, h1, mx_call (m_err_1 (d := 0) (eX I 1) J) _, mx_call (m_errN (d := 0) (k := 1) (eX I 1) J (by omega)) _]
  by_cases h2 : nI 1 < x1
  · have h2' : (1 : Int32) < x1 := h2
    refine OpI.err hI 1 (fun J => ?_) (fun J => ?_)
    · refine mx_Cal_in (ls := [some (.ref 0), some (.int _), some (.int _), none, none]) (d := 299) tab_121 (by rw [mx_rcv, oc_0]; trivial) (Nat.le_of_ble_eq_true rfl) rfl ?_
      simp (disch := omega) only [x_Main_sums_0, x_Main_sums_1, x_Main_sums_4, x_Main_sums_7, x_Main_sums_8, x_Main_sums_11, x_Main_sums_12, x_Main_sums_13, x_Main_sums_16, x_Main_sums_17, x_Main_sums_18, x_Main_sums_21, mk_I, mk_J, mk_Q, mk_n, mk_sI, mk_sJ, Option.toList_some, Option.toList_none, List.cons_append, List.nil_append, true_and, and_true, ↓reduceIte, leT, leF, ltT, ltF, eqF, lt0F, le0T, le0F, eq0F, natT, nI_clamp, nI_1, if_true, if_false, not_true_eq_false, not_false_eq_true, z_00, z_10, eq_self, true_or, or_true, or_false, false_or, oc_0, oc_1, oc_2, rt_0_0, rt_0_1, rt_0_3, rt_0_4, rt_0_5, rt_0_6, rt_0_7, rt_0_8, rt_0_9, rt_1_0, rt_1_5, rt_1_6, rt_1_7, rt_1_8, rt_2_1, rt_2_2, rt_2_3, rt_2_4, rt_2_5, mx_call (q_isSheet (d := 0) _ _) _, e0, ite_le, h1, h2', mx_call (x_err_1 (d := 0) I J) _, mx_call (x_errN (d := 0) (k := 1) I J (by omega)) _]
    · refine mx_Cal_in (ls := [some (.ref 94), some (.int _), some (.int _), none, none, none, none, none]) (d := 299) tab_215 (by rw [mx_rcv, oc_94]; trivial) (Nat.le_of_ble_eq_true rfl) rfl ?_
      simp (disch := omega) only [x_Ref_sums_0, x_Ref_sums_1, x_Ref_sums_2, x_Ref_sums_3, x_Ref_sums_6, x_Ref_sums_9, x_Ref_sums_10, x_Ref_sums_11, x_Ref_sums_14, x_Ref_sums_17, x_Ref_sums_18, x_Ref_sums_19, x_Ref_sums_20, x_Ref_sums_23, x_Ref_sums_24, x_Ref_sums_25, x_Ref_sums_28, mk_I, mk_J, mk_Q, mk_n, mk_sI, mk_sJ, Option.toList_some, Option.toList_none, List.cons_append, List.nil_append, true_and, and_true, ↓reduceIte, leT, leF, ltT, ltF, eqF, lt0F, le0T, le0F, eq0F, natT, nI_clamp, nI_1, if_true, if_false, not_true_eq_false, not_false_eq_true, z_00, z_10, eq_self, true_or, or_true, or_false, false_or, oc_94, rt_94_0, rt_94_1, rt_94_3, rt_94_8, rt_94_9, rt_94_10, rt_94_11, rt_94_12, rt_94_15, rt_94_16, rt_94_18, rt_94_21, rt_94_22, rt_94_23, rt_94_24, or_95, oa_95, tc_0, kc_0, k0_0, tc_1, kc_1, k0_1, tc_2, kc_2, k0_2, tc_3, kc_3, k0_3, tc_4, kc_4, k0_4, tc_5, kc_5, k0_5, tc_6, kc_6, k0_6, tc_7, kc_7, k0_7, eX95, eX94, mx_call (q_Ref_in (d := 0) _ _ _ _) _, h1, h2', mx_call (m_err_1 (d := 0) (eX I 1) J) _, mx_call (m_errN (d := 0) (k := 1) (eX I 1) J (by omega)) _]
  have h2' : ¬ (1 : Int32) < x1 := h2
  obtain ⟨s1, s2, z, z24, s3, s4, s5⟩ := hI.2.2.2.2.1 q hq
  by_cases hb : I 106 q = 0
  · refine OpI.err hI 2 (fun J => ?_) (fun J => ?_)
    · refine mx_Cal_in (ls := [some (.ref 0), some (.int _), some (.int _), none, none]) (d := 299) tab_121 (by rw [mx_rcv, oc_0]; trivial) (Nat.le_of_ble_eq_true rfl) rfl ?_
      simp (disch := omega) only [x_Main_sums_0, x_Main_sums_1, x_Main_sums_4, x_Main_sums_7, x_Main_sums_8, x_Main_sums_11, x_Main_sums_12, x_Main_sums_13, x_Main_sums_16, x_Main_sums_17, x_Main_sums_18, x_Main_sums_21, x_Main_sums_22, x_Main_sums_23, x_Main_sums_24, x_Main_sums_27, x_Main_sums_27z, x_Main_sums_28, x_Main_sums_28n, x_Main_sums_29, x_Main_sums_32, x_Main_sums_35, x_Main_sums_35n, x_Main_sums_36, x_Main_sums_39, x_Main_sums_42, x_Main_sums_43, x_Main_sums_46, x_Main_sums_47, x_Main_sums_48, x_Main_sums_51, mk_I, mk_J, mk_Q, mk_n, mk_sI, mk_sJ, Option.toList_some, Option.toList_none, List.cons_append, List.nil_append, true_and, and_true, ↓reduceIte, leT, leF, ltT, ltF, eqF, lt0F, le0T, le0F, eq0F, natT, nI_clamp, nI_1, if_true, if_false, not_true_eq_false, not_false_eq_true, z_00, z_10, eq_self, true_or, or_true, or_false, false_or, oc_0, oc_1, oc_2, rt_0_0, rt_0_1, rt_0_3, rt_0_4, rt_0_5, rt_0_6, rt_0_7, rt_0_8, rt_0_9, rt_1_0, rt_1_5, rt_1_6, rt_1_7, rt_1_8, rt_2_1, rt_2_2, rt_2_3, rt_2_4, rt_2_5, mx_call (q_isSheet (d := 0) _ _) _, e0, ite_le, h1, h2', mx_call (q_sheetAt (d := 0) I J hq) _, mx_call (q_isMissing (d := 0) I J hq) _, s1, hb, mx_call (x_err_2 (d := 0) I J) _, mx_call (x_errN (d := 0) (k := 2) I J (by omega)) _]
    · refine mx_Cal_in (ls := [some (.ref 94), some (.int _), some (.int _), none, none, none, none, none]) (d := 299) tab_215 (by rw [mx_rcv, oc_94]; trivial) (Nat.le_of_ble_eq_true rfl) rfl ?_
      simp (disch := omega) only [x_Ref_sums_0, x_Ref_sums_1, x_Ref_sums_2, x_Ref_sums_3, x_Ref_sums_6, x_Ref_sums_9, x_Ref_sums_10, x_Ref_sums_11, x_Ref_sums_14, x_Ref_sums_17, x_Ref_sums_18, x_Ref_sums_19, x_Ref_sums_20, x_Ref_sums_23, x_Ref_sums_24, x_Ref_sums_25, x_Ref_sums_28, x_Ref_sums_29, x_Ref_sums_30, x_Ref_sums_33, x_Ref_sums_34, x_Ref_sums_35, x_Ref_sums_36, x_Ref_sums_39, x_Ref_sums_40, x_Ref_sums_41, x_Ref_sums_44, mk_I, mk_J, mk_Q, mk_n, mk_sI, mk_sJ, Option.toList_some, Option.toList_none, List.cons_append, List.nil_append, true_and, and_true, ↓reduceIte, leT, leF, ltT, ltF, eqF, lt0F, le0T, le0F, eq0F, natT, nI_clamp, nI_1, if_true, if_false, not_true_eq_false, not_false_eq_true, z_00, z_10, eq_self, true_or, or_true, or_false, false_or, oc_94, rt_94_0, rt_94_1, rt_94_3, rt_94_8, rt_94_9, rt_94_10, rt_94_11, rt_94_12, rt_94_15, rt_94_16, rt_94_18, rt_94_21, rt_94_22, rt_94_23, rt_94_24, or_95, oa_95, tc_0, kc_0, k0_0, tc_1, kc_1, k0_1, tc_2, kc_2, k0_2, tc_3, kc_3, k0_3, tc_4, kc_4, k0_4, tc_5, kc_5, k0_5, tc_6, kc_6, k0_6, tc_7, kc_7, k0_7, eX95, eX94, mx_call (q_Ref_in (d := 0) _ _ _ _) _, h1, h2', mx_call (q_lacks (d := 0) (eX I 2) J hq) _, eX106, hb, z_20, mx_call (m_err_2 (d := 0) (eX I 2) J) _, mx_call (m_errN (d := 0) (k := 2) (eX I 2) J (by omega)) _]
  by_cases hz : z = 1
  rotate_left
  · refine OpI.err hI 2 (fun J => ?_) (fun J => ?_)
    · refine mx_Cal_in (ls := [some (.ref 0), some (.int _), some (.int _), none, none]) (d := 299) tab_121 (by rw [mx_rcv, oc_0]; trivial) (Nat.le_of_ble_eq_true rfl) rfl ?_
      simp (disch := omega) only [x_Main_sums_0, x_Main_sums_1, x_Main_sums_4, x_Main_sums_7, x_Main_sums_8, x_Main_sums_11, x_Main_sums_12, x_Main_sums_13, x_Main_sums_16, x_Main_sums_17, x_Main_sums_18, x_Main_sums_21, x_Main_sums_22, x_Main_sums_23, x_Main_sums_24, x_Main_sums_27, x_Main_sums_27z, x_Main_sums_28, x_Main_sums_28n, x_Main_sums_29, x_Main_sums_32, x_Main_sums_35, x_Main_sums_35n, x_Main_sums_36, x_Main_sums_39, x_Main_sums_42, x_Main_sums_43, x_Main_sums_46, x_Main_sums_47, x_Main_sums_48, x_Main_sums_51, mk_I, mk_J, mk_Q, mk_n, mk_sI, mk_sJ, Option.toList_some, Option.toList_none, List.cons_append, List.nil_append, true_and, and_true, ↓reduceIte, leT, leF, ltT, ltF, eqF, lt0F, le0T, le0F, eq0F, natT, nI_clamp, nI_1, if_true, if_false, not_true_eq_false, not_false_eq_true, z_00, z_10, eq_self, true_or, or_true, or_false, false_or, oc_0, oc_1, oc_2, rt_0_0, rt_0_1, rt_0_3, rt_0_4, rt_0_5, rt_0_6, rt_0_7, rt_0_8, rt_0_9, rt_1_0, rt_1_5, rt_1_6, rt_1_7, rt_1_8, rt_2_1, rt_2_2, rt_2_3, rt_2_4, rt_2_5, mx_call (q_isSheet (d := 0) _ _) _, e0, ite_le, h1, h2', mx_call (q_sheetAt (d := 0) I J hq) _, mx_call (q_isMissing (d := 0) I J hq) _, s1, hb, oc_sh hq, oc_sl hq, rt_sh hq, s3, eq1F hz, mx_call (x_err_2 (d := 0) I J) _, mx_call (x_errN (d := 0) (k := 2) I J (by omega)) _]
    · refine mx_Cal_in (ls := [some (.ref 94), some (.int _), some (.int _), none, none, none, none, none]) (d := 299) tab_215 (by rw [mx_rcv, oc_94]; trivial) (Nat.le_of_ble_eq_true rfl) rfl ?_
      simp (disch := omega) only [x_Ref_sums_0, x_Ref_sums_1, x_Ref_sums_2, x_Ref_sums_3, x_Ref_sums_6, x_Ref_sums_9, x_Ref_sums_10, x_Ref_sums_11, x_Ref_sums_14, x_Ref_sums_17, x_Ref_sums_18, x_Ref_sums_19, x_Ref_sums_20, x_Ref_sums_23, x_Ref_sums_24, x_Ref_sums_25, x_Ref_sums_28, x_Ref_sums_29, x_Ref_sums_30, x_Ref_sums_33, x_Ref_sums_34, x_Ref_sums_35, x_Ref_sums_36, x_Ref_sums_39, x_Ref_sums_40, x_Ref_sums_41, x_Ref_sums_44, mk_I, mk_J, mk_Q, mk_n, mk_sI, mk_sJ, Option.toList_some, Option.toList_none, List.cons_append, List.nil_append, true_and, and_true, ↓reduceIte, leT, leF, ltT, ltF, eqF, lt0F, le0T, le0F, eq0F, natT, nI_clamp, nI_1, if_true, if_false, not_true_eq_false, not_false_eq_true, z_00, z_10, eq_self, true_or, or_true, or_false, false_or, oc_94, rt_94_0, rt_94_1, rt_94_3, rt_94_8, rt_94_9, rt_94_10, rt_94_11, rt_94_12, rt_94_15, rt_94_16, rt_94_18, rt_94_21, rt_94_22, rt_94_23, rt_94_24, or_95, oa_95, tc_0, kc_0, k0_0, tc_1, kc_1, k0_1, tc_2, kc_2, k0_2, tc_3, kc_3, k0_3, tc_4, kc_4, k0_4, tc_5, kc_5, k0_5, tc_6, kc_6, k0_6, tc_7, kc_7, k0_7, or_107, eX95, eX94, eX107, mx_call (q_Ref_in (d := 0) _ _ _ _) _, h1, h2', mx_call (q_lacks (d := 0) (eX I 2) J hq) _, eX106, hb, s4, eq1F hz, mx_call (m_err_2 (d := 0) (eX I 2) J) _, mx_call (m_errN (d := 0) (k := 2) (eX I 2) J (by omega)) _]
  subst hz
  have s3 : I (83 + 3 * q) 1 = 1 := s3
  have s4 : I 107 q = 1 := s4
  have e5 : at_ I (83 + 3 * q) 0 = I (84 + 3 * q) 0 := at_sh I hq (k := 0) (by omega)
  have s6 : I 108 (24 * q) = I (84 + 3 * q) 0 := (s5 0 (by omega)).symm
  generalize hx : I (84 + 3 * q) 0 = x at *
  have hl5 := lfN_512 F h9
  intro J
  obtain ⟨I1, p1, p2, hcal⟩ := q_countSums hc hz5.2.2.1 (hI.2.2.2.1.1 66 (by omega) (by omega)) J x
  have hI1 : Inv L xs I1 := hI.scr (fun a j h => p2 a j (by omega))
  have hsle : sN (hN (lfN F n) n T x) (lfN F n + 1) ≤ (lfN F n + 1) * 1 := sN_le (fun t _ => by rcases hN_01 (lfN F n) n T x t with ⟨h, -⟩ | ⟨h, -⟩ <;> omega)
  -- the reference's walk, at any cells that agree
  have walk : ∀ I0 : mx_I, RI I0 n K M T F pl → I0 108 (24 * q) = x → ∃ w : Int32, ((∀ s, s ≤ lfN F n → hN (lfN F n) n T x s = 0) ∧ w = -1 ∨ ∃ s0, s0 ≤ lfN F n ∧ hN (lfN F n) n T x s0 = 1 ∧ (∀ s, s < s0 → hN (lfN F n) n T x s = 0) ∧ w = nI s0) ∧ ∀ P, mx_R k_Ref_sums (mx_Cal mx_tab 299) 61 [some (.ref 94), some (.int (nI q)), some (.int x1), some (.int 0), some (.int (nI (lfN F n))), some (.int (nI (sN (hN (lfN F n) n T x) (lfN F n + 1)))), some (.int w), some (.int (-1))] [] (mk I0 J) P → mx_R k_Ref_sums (mx_Cal mx_tab 299) 61 [some (.ref 94), some (.int (nI q)), some (.int x1), some (.int 0), some (.int (nI (lfN F n))), some (.int 0), some (.int (-1)), some (.int (nI (lfN F n)))] [] (mk I0 J) P := by
    intro I0 hr0 hx0
    obtain ⟨w, hw, hP⟩ := lqx (cl := k_Ref_sums) (C := mx_Cal mx_tab 299) (pc := 61) (i0 := 0) (n := lfN F n + 1) (fun i (w : Int32) => [some (.ref 94), some (.int (nI q)), some (.int x1), some (.int 0), some (.int (nI (lfN F n))), some (.int (nI (sN (fun t => hN (lfN F n) n T x (lfN F n - t)) i))), some (.int w), some (.int (nI (lfN F n + 1 - i) + (-1)))]) (fun _ => mk I0 J) (fun i w => (∀ s, s ≤ lfN F n → lfN F n < s + i → hN (lfN F n) n T x s = 0) ∧ w = -1 ∨ ∃ s0, s0 ≤ lfN F n ∧ lfN F n < s0 + i ∧ hN (lfN F n) n T x s0 = 1 ∧ (∀ s, s < s0 → lfN F n < s + i → hN (lfN F n) n T x s = 0) ∧ w = nI s0) (s0 := -1) (Nat.zero_le _) (Or.inl ⟨fun s h1 h2 => absurd h2 (by omega), rfl⟩) (fun i w _ hi hQ => by
      have e1 : lfN F n + 1 - i = (lfN F n - i) + 1 := by omega
      have e2 : lfN F n + 1 - (i + 1) = lfN F n - i := by omega
      have hsle : sN (fun t => hN (lfN F n) n T x (lfN F n - t)) i ≤ i * 1 := sN_le (fun t _ => by
        show hN (lfN F n) n T x (lfN F n - t) ≤ 1
        rcases hN_01 (lfN F n) n T x (lfN F n - t) with ⟨h, -⟩ | ⟨h, -⟩ <;> omega)
      have hs1 : sN (fun t => hN (lfN F n) n T x (lfN F n - t)) (i + 1) = sN (fun t => hN (lfN F n) n T x (lfN F n - t)) i + hN (lfN F n) n T x (lfN F n - i) := rfl
      have hcall := q_rTruthAll (d := 0) hr0 J (show lfN F n - i < 512 by omega)
      rcases hN_01 (lfN F n) n T x (lfN F n - i) with ⟨hh, hno⟩ | ⟨hh, hs, hxx⟩
      · rw [hh, Nat.add_zero] at hs1
        refine ⟨w, ?_, fun P ih => ?_⟩
        · rcases hQ with ⟨q1, q2⟩ | ⟨s0, q1, q2, q3, q4, q5⟩
          · refine Or.inl ⟨fun s g1 g2 => ?_, q2⟩
            by_cases hsi : s = lfN F n - i
            · rw [hsi]; exact hh
            · exact q1 s g1 (by omega)
          · refine Or.inr ⟨s0, q1, by omega, q3, fun s g1 g2 => ?_, q5⟩
            by_cases hsi : s = lfN F n - i
            · rw [hsi]; exact hh
            · exact q4 s g1 (by omega)
        · rw [hs1, e2] at ih
          rw [e1, pk_m1, x_Ref_sums_61]
          by_cases hs : (lfN F n - i) &&& lfN F n = lfN F n - i
          · have hxf : (nI (sN (fun j => if (lfN F n - i).testBit j = true then T j else 0) n) = x) = False := eq_false (fun h => hno ⟨hs, h⟩)
            simp (disch := omega) only [x_Ref_sums_63, x_Ref_sums_66, x_Ref_sums_68, x_Ref_sums_70, x_Ref_sums_71, x_Ref_sums_72, x_Ref_sums_73, x_Ref_sums_76, x_Ref_sums_77, x_Ref_sums_79, x_Ref_sums_82, x_Ref_sums_83, x_Ref_sums_86, x_Ref_sums_88, x_Ref_sums_89, x_Ref_sums_90, x_Ref_sums_91, x_Ref_sums_94, x_Ref_sums_97, x_Ref_sums_99, x_Ref_sums_101, x_Ref_sums_104, x_Ref_sums_107, x_Ref_sums_108, x_Ref_sums_111, x_Ref_sums_113, x_Ref_sums_116, x_Ref_sums_118, x_Ref_sums_119, x_Ref_sums_122, x_Ref_sums_123, x_Ref_sums_124, x_Ref_sums_127, x_Ref_sums_130, x_Ref_sums_132, mk_I, mk_J, mk_Q, mk_n, mk_sI, mk_sJ, Option.toList_some, Option.toList_none, List.cons_append, List.nil_append, true_and, and_true, ↓reduceIte, leT, leF, ltT, ltF, eqF, lt0F, le0T, le0F, eq0F, natT, nI_clamp, nI_1, if_true, if_false, not_true_eq_false, not_false_eq_true, z_00, z_10, eq_self, true_or, or_true, or_false, false_or, oc_94, rt_94_0, rt_94_1, rt_94_3, rt_94_8, rt_94_9, rt_94_10, rt_94_11, rt_94_12, rt_94_15, rt_94_16, rt_94_18, rt_94_21, rt_94_22, rt_94_23, rt_94_24, or_95, oa_95, tc_0, kc_0, k0_0, tc_1, kc_1, k0_1, tc_2, kc_2, k0_2, tc_3, kc_3, k0_3, tc_4, kc_4, k0_4, tc_5, kc_5, k0_5, tc_6, kc_6, k0_6, tc_7, kc_7, k0_7, or_108, ndl0, hs, mx_call hcall _, z24n q 0, hx0, hxf]
            exact ih
          · simp (disch := omega) only [x_Ref_sums_63, x_Ref_sums_66, x_Ref_sums_68, x_Ref_sums_70, x_Ref_sums_71, x_Ref_sums_72, x_Ref_sums_73, x_Ref_sums_76, x_Ref_sums_77, x_Ref_sums_79, x_Ref_sums_82, x_Ref_sums_83, x_Ref_sums_86, x_Ref_sums_88, x_Ref_sums_89, x_Ref_sums_90, x_Ref_sums_91, x_Ref_sums_94, x_Ref_sums_97, x_Ref_sums_99, x_Ref_sums_101, x_Ref_sums_104, x_Ref_sums_107, x_Ref_sums_108, x_Ref_sums_111, x_Ref_sums_113, x_Ref_sums_116, x_Ref_sums_118, x_Ref_sums_119, x_Ref_sums_122, x_Ref_sums_123, x_Ref_sums_124, x_Ref_sums_127, x_Ref_sums_130, x_Ref_sums_132, mk_I, mk_J, mk_Q, mk_n, mk_sI, mk_sJ, Option.toList_some, Option.toList_none, List.cons_append, List.nil_append, true_and, and_true, ↓reduceIte, leT, leF, ltT, ltF, eqF, lt0F, le0T, le0F, eq0F, natT, nI_clamp, nI_1, if_true, if_false, not_true_eq_false, not_false_eq_true, z_00, z_10, eq_self, true_or, or_true, or_false, false_or, oc_94, rt_94_0, rt_94_1, rt_94_3, rt_94_8, rt_94_9, rt_94_10, rt_94_11, rt_94_12, rt_94_15, rt_94_16, rt_94_18, rt_94_21, rt_94_22, rt_94_23, rt_94_24, or_95, oa_95, tc_0, kc_0, k0_0, tc_1, kc_1, k0_1, tc_2, kc_2, k0_2, tc_3, kc_3, k0_3, tc_4, kc_4, k0_4, tc_5, kc_5, k0_5, tc_6, kc_6, k0_6, tc_7, kc_7, k0_7, or_108, ndl0, hs]
            exact ih
      · rw [hh] at hs1
        refine ⟨nI (lfN F n - i), Or.inr ⟨lfN F n - i, by omega, by omega, hh, fun s g1 g2 => absurd g2 (by omega), rfl⟩, fun P ih => ?_⟩
        have hxf : (nI (sN (fun j => if (lfN F n - i).testBit j = true then T j else 0) n) = x) = True := eq_true hxx
        rw [hs1, e2] at ih
        rw [e1, pk_m1, x_Ref_sums_61]
        simp (disch := omega) only [x_Ref_sums_63, x_Ref_sums_66, x_Ref_sums_68, x_Ref_sums_70, x_Ref_sums_71, x_Ref_sums_72, x_Ref_sums_73, x_Ref_sums_76, x_Ref_sums_77, x_Ref_sums_79, x_Ref_sums_82, x_Ref_sums_83, x_Ref_sums_86, x_Ref_sums_88, x_Ref_sums_89, x_Ref_sums_90, x_Ref_sums_91, x_Ref_sums_94, x_Ref_sums_97, x_Ref_sums_99, x_Ref_sums_101, x_Ref_sums_104, x_Ref_sums_107, x_Ref_sums_108, x_Ref_sums_111, x_Ref_sums_113, x_Ref_sums_116, x_Ref_sums_118, x_Ref_sums_119, x_Ref_sums_122, x_Ref_sums_123, x_Ref_sums_124, x_Ref_sums_127, x_Ref_sums_130, x_Ref_sums_132, mk_I, mk_J, mk_Q, mk_n, mk_sI, mk_sJ, Option.toList_some, Option.toList_none, List.cons_append, List.nil_append, true_and, and_true, ↓reduceIte, leT, leF, ltT, ltF, eqF, lt0F, le0T, le0F, eq0F, natT, nI_clamp, nI_1, if_true, if_false, not_true_eq_false, not_false_eq_true, z_00, z_10, eq_self, true_or, or_true, or_false, false_or, oc_94, rt_94_0, rt_94_1, rt_94_3, rt_94_8, rt_94_9, rt_94_10, rt_94_11, rt_94_12, rt_94_15, rt_94_16, rt_94_18, rt_94_21, rt_94_22, rt_94_23, rt_94_24, or_95, oa_95, tc_0, kc_0, k0_0, tc_1, kc_1, k0_1, tc_2, kc_2, k0_2, tc_3, kc_3, k0_3, tc_4, kc_4, k0_4, tc_5, kc_5, k0_5, tc_6, kc_6, k0_6, tc_7, kc_7, k0_7, or_108, ndl0, hs, mx_call hcall _, z24n q 0, hx0, hxf]
        exact ih)
    refine ⟨w, ?_, fun P h => ?_⟩
    · rcases hw with ⟨q1, q2⟩ | ⟨s0, q1, q2, q3, q4, q5⟩
      · exact Or.inl ⟨fun s g => q1 s g (by omega), q2⟩
      · exact Or.inr ⟨s0, q1, q3, fun s g => q4 s g (by omega), q5⟩
    · have h3 := hP P
      simp only [sN_rev, Nat.sub_self, Nat.sub_zero, pk_m1, show nI 0 + (-1) = (-1 : Int32) from rfl] at h3
      exact h3 h
  have hr1 : RI I1 n K M T F pl := hr.congr (fun j _ => p2 95 j (by omega))
  have hk1 : ∀ j, I1 108 j = I 108 j := fun j => p2 108 j (by omega)
  have x01 : x1 = 0 ∨ x1 = 1 := by
    obtain ⟨k, k1, rfl⟩ := rng0 (b := 1) (by omega) h1 h2
    have : k = 0 ∨ k = 1 := by omega
    rcases this with rfl | rfl
    · exact Or.inl rfl
    · exact Or.inr rfl
  have hmain : ∀ (P : mx_P), mx_R k_Main_sums (mx_Cal mx_tab 299) 73 [some (.ref 0), some (.int (nI q)), some (.int x1), some (.ref (82 + 3 * q)), some (.int (nI (sN (hN (lfN F n) n T x) (lfN F n + 1))))] [] (mk I1 J) P → mx_R k_Main_sums (mx_Cal mx_tab 299) 0 [some (.ref 0), some (.int (nI q)), some (.int x1), none, none] [] (mk I J) P := by
    intro P h
    simp (disch := omega) only [x_Main_sums_0, x_Main_sums_1, x_Main_sums_4, x_Main_sums_7, x_Main_sums_8, x_Main_sums_11, x_Main_sums_12, x_Main_sums_13, x_Main_sums_16, x_Main_sums_17, x_Main_sums_18, x_Main_sums_21, x_Main_sums_22, x_Main_sums_23, x_Main_sums_24, x_Main_sums_27, x_Main_sums_27z, x_Main_sums_28, x_Main_sums_28n, x_Main_sums_29, x_Main_sums_32, x_Main_sums_35, x_Main_sums_35n, x_Main_sums_36, x_Main_sums_39, x_Main_sums_42, x_Main_sums_43, x_Main_sums_46, x_Main_sums_47, x_Main_sums_48, x_Main_sums_51, x_Main_sums_52, x_Main_sums_53, x_Main_sums_56, x_Main_sums_57, x_Main_sums_60, x_Main_sums_60n, x_Main_sums_61, x_Main_sums_64, x_Main_sums_65, x_Main_sums_68, x_Main_sums_71, x_Main_sums_71n, mk_I, mk_J, mk_Q, mk_n, mk_sI, mk_sJ, Option.toList_some, Option.toList_none, List.cons_append, List.nil_append, true_and, and_true, ↓reduceIte, leT, leF, ltT, ltF, eqF, lt0F, le0T, le0F, eq0F, natT, nI_clamp, nI_1, if_true, if_false, not_true_eq_false, not_false_eq_true, z_00, z_10, eq_self, true_or, or_true, or_false, false_or, oc_0, oc_1, oc_2, rt_0_0, rt_0_1, rt_0_3, rt_0_4, rt_0_5, rt_0_6, rt_0_7, rt_0_8, rt_0_9, rt_1_0, rt_1_5, rt_1_6, rt_1_7, rt_1_8, rt_2_1, rt_2_2, rt_2_3, rt_2_4, rt_2_5, mx_call (q_isSheet (d := 0) _ _) _, e0, ite_le, h1, h2', mx_call (q_sheetAt (d := 0) I J hq) _, mx_call (q_isMissing (d := 0) I J hq) _, s1, hb, oc_sh hq, oc_sl hq, rt_sh hq, s3, mx_call (q_Line_at (d := 0) (L_sh hq) I J 0) _, e5, mx_call hcal _]
    exact h
  rcases x01 with rfl | rfl
  · refine ⟨nI (sN (hN (lfN F n) n T x) (lfN F n + 1)), I1, I1, J, J, ?_, ?_, hI1.2.2.2.2.2, hI1⟩
    · refine mx_Cal_in (ls := [some (.ref 0), some (.int _), some (.int _), none, none]) (d := 299) tab_121 (by rw [mx_rcv, oc_0]; trivial) (Nat.le_of_ble_eq_true rfl) rfl ?_
      refine hmain _ ?_
      simp (disch := omega) only [x_Main_sums_73, x_Main_sums_74, x_Main_sums_77, x_Main_sums_79, x_Main_sums_80, x_Main_sums_82, x_Main_sums_85, x_Main_sums_86, x_Main_sums_87, x_Main_sums_90, x_Main_sums_93, x_Main_sums_94, x_Main_sums_97, x_Main_sums_100, mk_I, mk_J, mk_Q, mk_n, mk_sI, mk_sJ, Option.toList_some, Option.toList_none, List.cons_append, List.nil_append, true_and, and_true, ↓reduceIte, leT, leF, ltT, ltF, eqF, lt0F, le0T, le0F, eq0F, natT, nI_clamp, nI_1, if_true, if_false, not_true_eq_false, not_false_eq_true, z_00, z_10, eq_self, true_or, or_true, or_false, false_or, oc_0, oc_1, oc_2, rt_0_0, rt_0_1, rt_0_3, rt_0_4, rt_0_5, rt_0_6, rt_0_7, rt_0_8, rt_0_9, rt_1_0, rt_1_5, rt_1_6, rt_1_7, rt_1_8, rt_2_1, rt_2_2, rt_2_3, rt_2_4, rt_2_5]
    · obtain ⟨w, hw, hP⟩ := walk I1 hr1 (by rw [hk1]; exact s6)
      refine mx_Cal_in (ls := [some (.ref 94), some (.int _), some (.int _), none, none, none, none, none]) (d := 299) tab_215 (by rw [mx_rcv, oc_94]; trivial) (Nat.le_of_ble_eq_true rfl) rfl ?_
      simp (disch := omega) only [x_Ref_sums_0, x_Ref_sums_1, x_Ref_sums_2, x_Ref_sums_3, x_Ref_sums_6, x_Ref_sums_9, x_Ref_sums_10, x_Ref_sums_11, x_Ref_sums_14, x_Ref_sums_17, x_Ref_sums_18, x_Ref_sums_19, x_Ref_sums_20, x_Ref_sums_23, x_Ref_sums_24, x_Ref_sums_25, x_Ref_sums_28, x_Ref_sums_29, x_Ref_sums_30, x_Ref_sums_33, x_Ref_sums_34, x_Ref_sums_35, x_Ref_sums_36, x_Ref_sums_39, x_Ref_sums_40, x_Ref_sums_41, x_Ref_sums_44, x_Ref_sums_45, x_Ref_sums_46, x_Ref_sums_49, x_Ref_sums_51, x_Ref_sums_52, x_Ref_sums_54, x_Ref_sums_55, x_Ref_sums_57, x_Ref_sums_59, mk_I, mk_J, mk_Q, mk_n, mk_sI, mk_sJ, Option.toList_some, Option.toList_none, List.cons_append, List.nil_append, true_and, and_true, ↓reduceIte, leT, leF, ltT, ltF, eqF, lt0F, le0T, le0F, eq0F, natT, nI_clamp, nI_1, if_true, if_false, not_true_eq_false, not_false_eq_true, z_00, z_10, eq_self, true_or, or_true, or_false, false_or, oc_94, rt_94_0, rt_94_1, rt_94_3, rt_94_8, rt_94_9, rt_94_10, rt_94_11, rt_94_12, rt_94_15, rt_94_16, rt_94_18, rt_94_21, rt_94_22, rt_94_23, rt_94_24, or_95, oa_95, tc_0, kc_0, k0_0, tc_1, kc_1, k0_1, tc_2, kc_2, k0_2, tc_3, kc_3, k0_3, tc_4, kc_4, k0_4, tc_5, kc_5, k0_5, tc_6, kc_6, k0_6, tc_7, kc_7, k0_7, or_107, mx_call (q_Ref_in (d := 0) _ _ _ _) _, show ¬ (1 : Int32) < 0 from by decide, show ((0 : Int32) < 0) = False from by decide, show ((1 : Int32) < 0) = False from by decide, mx_call (q_lacks (d := 0) I1 J hq) _, p2 106 q (by omega), p2 107 q (by omega), hb, s4, mx_call (q_rLeftSet (d := 0) hr1 J) _]
      refine hP _ ?_
      rw [x_Ref_sums_61]
      simp (disch := omega) only [x_Ref_sums_63, x_Ref_sums_66, x_Ref_sums_68, x_Ref_sums_70, x_Ref_sums_71, x_Ref_sums_72, x_Ref_sums_73, x_Ref_sums_76, x_Ref_sums_77, x_Ref_sums_79, x_Ref_sums_82, x_Ref_sums_83, x_Ref_sums_86, x_Ref_sums_88, x_Ref_sums_89, x_Ref_sums_90, x_Ref_sums_91, x_Ref_sums_94, x_Ref_sums_97, x_Ref_sums_99, x_Ref_sums_101, x_Ref_sums_104, x_Ref_sums_107, x_Ref_sums_108, x_Ref_sums_111, x_Ref_sums_113, x_Ref_sums_116, x_Ref_sums_118, x_Ref_sums_119, x_Ref_sums_122, x_Ref_sums_123, x_Ref_sums_124, x_Ref_sums_127, x_Ref_sums_130, x_Ref_sums_132, mk_I, mk_J, mk_Q, mk_n, mk_sI, mk_sJ, Option.toList_some, Option.toList_none, List.cons_append, List.nil_append, true_and, and_true, ↓reduceIte, leT, leF, ltT, ltF, eqF, lt0F, le0T, le0F, eq0F, natT, nI_clamp, nI_1, if_true, if_false, not_true_eq_false, not_false_eq_true, z_00, z_10, eq_self, true_or, or_true, or_false, false_or, oc_94, rt_94_0, rt_94_1, rt_94_3, rt_94_8, rt_94_9, rt_94_10, rt_94_11, rt_94_12, rt_94_15, rt_94_16, rt_94_18, rt_94_21, rt_94_22, rt_94_23, rt_94_24, or_95, oa_95, tc_0, kc_0, k0_0, tc_1, kc_1, k0_1, tc_2, kc_2, k0_2, tc_3, kc_3, k0_3, tc_4, kc_4, k0_4, tc_5, kc_5, k0_5, tc_6, kc_6, k0_6, tc_7, kc_7, k0_7, show ((-1 : Int32) < 0) = True from by decide]
  · by_cases hs0 : sN (hN (lfN F n) n T x) (lfN F n + 1) = 0
    · refine ⟨-1000000000 - nI 2, eX I1 2, eM (eX I1 2) 2, J, J, ?_, ?_, hI1.2.2.2.2.2.err 2, hI1.err 2⟩
      · refine mx_Cal_in (ls := [some (.ref 0), some (.int _), some (.int _), none, none]) (d := 299) tab_121 (by rw [mx_rcv, oc_0]; trivial) (Nat.le_of_ble_eq_true rfl) rfl ?_
        refine hmain _ ?_
        simp (disch := omega) only [x_Main_sums_73, x_Main_sums_74, x_Main_sums_77, x_Main_sums_79, x_Main_sums_80, x_Main_sums_82, x_Main_sums_85, x_Main_sums_86, x_Main_sums_87, x_Main_sums_90, x_Main_sums_93, x_Main_sums_94, x_Main_sums_97, x_Main_sums_100, mk_I, mk_J, mk_Q, mk_n, mk_sI, mk_sJ, Option.toList_some, Option.toList_none, List.cons_append, List.nil_append, true_and, and_true, ↓reduceIte, leT, leF, ltT, ltF, eqF, lt0F, le0T, le0F, eq0F, natT, nI_clamp, nI_1, if_true, if_false, not_true_eq_false, not_false_eq_true, z_00, z_10, eq_self, true_or, or_true, or_false, false_or, oc_0, oc_1, oc_2, rt_0_0, rt_0_1, rt_0_3, rt_0_4, rt_0_5, rt_0_6, rt_0_7, rt_0_8, rt_0_9, rt_1_0, rt_1_5, rt_1_6, rt_1_7, rt_1_8, rt_2_1, rt_2_2, rt_2_3, rt_2_4, rt_2_5, hs0, nI_0, mx_call (x_err_2 (d := 0) I1 J) _, mx_call (x_errN (d := 0) (k := 2) I1 J (by omega)) _]
      · obtain ⟨w, hw, hP⟩ := walk (eX I1 2) (hr1.eX 2) (by rw [eX108, hk1]; exact s6)
        have hw1 : w = -1 := by
          rcases hw with ⟨-, h⟩ | ⟨s0, g1, g2, -⟩
          · exact h
          · have := sN_pos (f := hN (lfN F n) n T x) (show s0 < lfN F n + 1 by omega) (by omega)
            omega
        subst hw1
        refine mx_Cal_in (ls := [some (.ref 94), some (.int _), some (.int _), none, none, none, none, none]) (d := 299) tab_215 (by rw [mx_rcv, oc_94]; trivial) (Nat.le_of_ble_eq_true rfl) rfl ?_
        simp (disch := omega) only [x_Ref_sums_0, x_Ref_sums_1, x_Ref_sums_2, x_Ref_sums_3, x_Ref_sums_6, x_Ref_sums_9, x_Ref_sums_10, x_Ref_sums_11, x_Ref_sums_14, x_Ref_sums_17, x_Ref_sums_18, x_Ref_sums_19, x_Ref_sums_20, x_Ref_sums_23, x_Ref_sums_24, x_Ref_sums_25, x_Ref_sums_28, x_Ref_sums_29, x_Ref_sums_30, x_Ref_sums_33, x_Ref_sums_34, x_Ref_sums_35, x_Ref_sums_36, x_Ref_sums_39, x_Ref_sums_40, x_Ref_sums_41, x_Ref_sums_44, x_Ref_sums_45, x_Ref_sums_46, x_Ref_sums_49, x_Ref_sums_51, x_Ref_sums_52, x_Ref_sums_54, x_Ref_sums_55, x_Ref_sums_57, x_Ref_sums_59, mk_I, mk_J, mk_Q, mk_n, mk_sI, mk_sJ, Option.toList_some, Option.toList_none, List.cons_append, List.nil_append, true_and, and_true, ↓reduceIte, leT, leF, ltT, ltF, eqF, lt0F, le0T, le0F, eq0F, natT, nI_clamp, nI_1, if_true, if_false, not_true_eq_false, not_false_eq_true, z_00, z_10, eq_self, true_or, or_true, or_false, false_or, oc_94, rt_94_0, rt_94_1, rt_94_3, rt_94_8, rt_94_9, rt_94_10, rt_94_11, rt_94_12, rt_94_15, rt_94_16, rt_94_18, rt_94_21, rt_94_22, rt_94_23, rt_94_24, or_95, oa_95, tc_0, kc_0, k0_0, tc_1, kc_1, k0_1, tc_2, kc_2, k0_2, tc_3, kc_3, k0_3, tc_4, kc_4, k0_4, tc_5, kc_5, k0_5, tc_6, kc_6, k0_6, tc_7, kc_7, k0_7, or_107, eX107, eX106, mx_call (q_Ref_in (d := 0) _ _ _ _) _, show ((1 : Int32) < 1) = False from by decide, show ((1 : Int32) < 0) = False from by decide, mx_call (q_lacks (d := 0) (eX I1 2) J hq) _, p2 106 q (by omega), p2 107 q (by omega), hb, s4, mx_call (q_rLeftSet (d := 0) (hr1.eX 2) J) _]
        refine hP _ ?_
        rw [x_Ref_sums_61]
        simp (disch := omega) only [x_Ref_sums_63, x_Ref_sums_66, x_Ref_sums_68, x_Ref_sums_70, x_Ref_sums_71, x_Ref_sums_72, x_Ref_sums_73, x_Ref_sums_76, x_Ref_sums_77, x_Ref_sums_79, x_Ref_sums_82, x_Ref_sums_83, x_Ref_sums_86, x_Ref_sums_88, x_Ref_sums_89, x_Ref_sums_90, x_Ref_sums_91, x_Ref_sums_94, x_Ref_sums_97, x_Ref_sums_99, x_Ref_sums_101, x_Ref_sums_104, x_Ref_sums_107, x_Ref_sums_108, x_Ref_sums_111, x_Ref_sums_113, x_Ref_sums_116, x_Ref_sums_118, x_Ref_sums_119, x_Ref_sums_122, x_Ref_sums_123, x_Ref_sums_124, x_Ref_sums_127, x_Ref_sums_130, x_Ref_sums_132, mk_I, mk_J, mk_Q, mk_n, mk_sI, mk_sJ, Option.toList_some, Option.toList_none, List.cons_append, List.nil_append, true_and, and_true, ↓reduceIte, leT, leF, ltT, ltF, eqF, lt0F, le0T, le0F, eq0F, natT, nI_clamp, nI_1, if_true, if_false, not_true_eq_false, not_false_eq_true, z_00, z_10, eq_self, true_or, or_true, or_false, false_or, oc_94, rt_94_0, rt_94_1, rt_94_3, rt_94_8, rt_94_9, rt_94_10, rt_94_11, rt_94_12, rt_94_15, rt_94_16, rt_94_18, rt_94_21, rt_94_22, rt_94_23, rt_94_24, or_95, oa_95, tc_0, kc_0, k0_0, tc_1, kc_1, k0_1, tc_2, kc_2, k0_2, tc_3, kc_3, k0_3, tc_4, kc_4, k0_4, tc_5, kc_5, k0_5, tc_6, kc_6, k0_6, tc_7, kc_7, k0_7, show ((-1 : Int32) < 0) = True from by decide, mx_call (m_err_2 (d := 0) (eX I1 2) J) _, mx_call (m_errN (d := 0) (k := 2) (eX I1 2) J (by omega)) _]
    · obtain ⟨w, hw, hP⟩ := walk I1 hr1 (by rw [hk1]; exact s6)
      rcases hw with ⟨g1, -⟩ | ⟨s0, g1, g2, g3, rfl⟩
      · exact absurd (sN_zero (fun i hi => g1 i (by omega))) hs0
      have hf := p1 s0 g1 g2 g3
      refine ⟨nI s0, I1, I1, J, J, ?_, ?_, hI1.2.2.2.2.2, hI1⟩
      · refine mx_Cal_in (ls := [some (.ref 0), some (.int _), some (.int _), none, none]) (d := 299) tab_121 (by rw [mx_rcv, oc_0]; trivial) (Nat.le_of_ble_eq_true rfl) rfl ?_
        refine hmain _ ?_
        simp (disch := omega) only [x_Main_sums_73, x_Main_sums_74, x_Main_sums_77, x_Main_sums_79, x_Main_sums_80, x_Main_sums_82, x_Main_sums_85, x_Main_sums_86, x_Main_sums_87, x_Main_sums_90, x_Main_sums_93, x_Main_sums_94, x_Main_sums_97, x_Main_sums_100, mk_I, mk_J, mk_Q, mk_n, mk_sI, mk_sJ, Option.toList_some, Option.toList_none, List.cons_append, List.nil_append, true_and, and_true, ↓reduceIte, leT, leF, ltT, ltF, eqF, lt0F, le0T, le0F, eq0F, natT, nI_clamp, nI_1, if_true, if_false, not_true_eq_false, not_false_eq_true, z_00, z_10, eq_self, true_or, or_true, or_false, false_or, oc_0, oc_1, oc_2, rt_0_0, rt_0_1, rt_0_3, rt_0_4, rt_0_5, rt_0_6, rt_0_7, rt_0_8, rt_0_9, rt_1_0, rt_1_5, rt_1_6, rt_1_7, rt_1_8, rt_2_1, rt_2_2, rt_2_3, rt_2_4, rt_2_5, oc_60, hf]
      · refine mx_Cal_in (ls := [some (.ref 94), some (.int _), some (.int _), none, none, none, none, none]) (d := 299) tab_215 (by rw [mx_rcv, oc_94]; trivial) (Nat.le_of_ble_eq_true rfl) rfl ?_
        simp (disch := omega) only [x_Ref_sums_0, x_Ref_sums_1, x_Ref_sums_2, x_Ref_sums_3, x_Ref_sums_6, x_Ref_sums_9, x_Ref_sums_10, x_Ref_sums_11, x_Ref_sums_14, x_Ref_sums_17, x_Ref_sums_18, x_Ref_sums_19, x_Ref_sums_20, x_Ref_sums_23, x_Ref_sums_24, x_Ref_sums_25, x_Ref_sums_28, x_Ref_sums_29, x_Ref_sums_30, x_Ref_sums_33, x_Ref_sums_34, x_Ref_sums_35, x_Ref_sums_36, x_Ref_sums_39, x_Ref_sums_40, x_Ref_sums_41, x_Ref_sums_44, x_Ref_sums_45, x_Ref_sums_46, x_Ref_sums_49, x_Ref_sums_51, x_Ref_sums_52, x_Ref_sums_54, x_Ref_sums_55, x_Ref_sums_57, x_Ref_sums_59, mk_I, mk_J, mk_Q, mk_n, mk_sI, mk_sJ, Option.toList_some, Option.toList_none, List.cons_append, List.nil_append, true_and, and_true, ↓reduceIte, leT, leF, ltT, ltF, eqF, lt0F, le0T, le0F, eq0F, natT, nI_clamp, nI_1, if_true, if_false, not_true_eq_false, not_false_eq_true, z_00, z_10, eq_self, true_or, or_true, or_false, false_or, oc_94, rt_94_0, rt_94_1, rt_94_3, rt_94_8, rt_94_9, rt_94_10, rt_94_11, rt_94_12, rt_94_15, rt_94_16, rt_94_18, rt_94_21, rt_94_22, rt_94_23, rt_94_24, or_95, oa_95, tc_0, kc_0, k0_0, tc_1, kc_1, k0_1, tc_2, kc_2, k0_2, tc_3, kc_3, k0_3, tc_4, kc_4, k0_4, tc_5, kc_5, k0_5, tc_6, kc_6, k0_6, tc_7, kc_7, k0_7, or_107, mx_call (q_Ref_in (d := 0) _ _ _ _) _, show ((1 : Int32) < 1) = False from by decide, show ((1 : Int32) < 0) = False from by decide, mx_call (q_lacks (d := 0) I1 J hq) _, p2 106 q (by omega), p2 107 q (by omega), hb, s4, mx_call (q_rLeftSet (d := 0) hr1 J) _]
        refine hP _ ?_
        rw [x_Ref_sums_61]
        simp (disch := omega) only [x_Ref_sums_63, x_Ref_sums_66, x_Ref_sums_68, x_Ref_sums_70, x_Ref_sums_71, x_Ref_sums_72, x_Ref_sums_73, x_Ref_sums_76, x_Ref_sums_77, x_Ref_sums_79, x_Ref_sums_82, x_Ref_sums_83, x_Ref_sums_86, x_Ref_sums_88, x_Ref_sums_89, x_Ref_sums_90, x_Ref_sums_91, x_Ref_sums_94, x_Ref_sums_97, x_Ref_sums_99, x_Ref_sums_101, x_Ref_sums_104, x_Ref_sums_107, x_Ref_sums_108, x_Ref_sums_111, x_Ref_sums_113, x_Ref_sums_116, x_Ref_sums_118, x_Ref_sums_119, x_Ref_sums_122, x_Ref_sums_123, x_Ref_sums_124, x_Ref_sums_127, x_Ref_sums_130, x_Ref_sums_132, mk_I, mk_J, mk_Q, mk_n, mk_sI, mk_sJ, Option.toList_some, Option.toList_none, List.cons_append, List.nil_append, true_and, and_true, ↓reduceIte, leT, leF, ltT, ltF, eqF, lt0F, le0T, le0F, eq0F, natT, nI_clamp, nI_1, if_true, if_false, not_true_eq_false, not_false_eq_true, z_00, z_10, eq_self, true_or, or_true, or_false, false_or, oc_94, rt_94_0, rt_94_1, rt_94_3, rt_94_8, rt_94_9, rt_94_10, rt_94_11, rt_94_12, rt_94_15, rt_94_16, rt_94_18, rt_94_21, rt_94_22, rt_94_23, rt_94_24, or_95, oa_95, tc_0, kc_0, k0_0, tc_1, kc_1, k0_1, tc_2, kc_2, k0_2, tc_3, kc_3, k0_3, tc_4, kc_4, k0_4, tc_5, kc_5, k0_5, tc_6, kc_6, k0_6, tc_7, kc_7, k0_7, show ((-1 : Int32) < 0) = True from by decide, ne_m1]
