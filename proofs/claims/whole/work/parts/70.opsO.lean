/-! the fewest to be dropped -/
theorem hld_ex (v : Int32) : ∃ k, k ≤ 999 ∧ hld v 0 999 = nI k := by
  unfold hld
  by_cases h1 : v < 0
  · rw [if_pos h1]; exact ⟨0, by omega, rfl⟩
  · by_cases h2 : (999 : Int32) < v
    · rw [if_neg h1, if_pos h2]; exact ⟨999, by omega, rfl⟩
    · rw [if_neg h1, if_neg h2]
      exact rng0 (b := 999) (by omega) h1 h2
/-- the worth of an item as a plain number -/
noncomputable def wN (g : Nat → Int32) (K T pl : Nat → Nat) (i : Nat) : Nat := Classical.choose (hld_ex (valT 0 53 g (nI (K i)) (nI (T i)) (nI (pl i)) (nI (T i))))
theorem wN_le (g : Nat → Int32) (K T pl : Nat → Nat) (i : Nat) : wN g K T pl i ≤ 999 := (Classical.choose_spec (hld_ex (valT 0 53 g (nI (K i)) (nI (T i)) (nI (pl i)) (nI (T i))))).1
theorem wN_eq (g : Nat → Int32) (K T pl : Nat → Nat) (i : Nat) : hld (valT 0 53 g (nI (K i)) (nI (T i)) (nI (pl i)) (nI (T i))) 0 999 = nI (wN g K T pl i) := (Classical.choose_spec (hld_ex (valT 0 53 g (nI (K i)) (nI (T i)) (nI (pl i)) (nI (T i))))).2
theorem sS_le {V : Nat → Nat} {n : Nat} (h9 : n ≤ 9) (hV : ∀ i, i < n → V i ≤ 1075) (s : Nat) : sS V n s < 20000 := sB_le h9 hV
theorem co_lt {l : Nat} (s : Nat) (hl : l < 512) : l &&& (511 - s) < 512 := and_512 _ hl
theorem sS_co (V : Nat → Nat) (n : Nat) {l s : Nat} (hl : l < 512) (h : s &&& l = s) : sS V n l = sS V n s + sS V n (l &&& (511 - s)) := by
  have hs : s < 512 := by rw [← h]; exact Nat.lt_of_le_of_lt Nat.and_le_right hl
  unfold sS
  rw [← sN_add]
  refine sN_congr (fun j _ => ?_)
  rw [Nat.testBit_and, tb_sub hs]
  by_cases q : s.testBit j = true
  · rw [q, sub_and.mp h j q]
    simp
  · simp at q
    rw [q]
    by_cases q2 : l.testBit j = true
    · have : j < 9 := tb_n (n := 9) hl q2
      rw [q2]
      simp [this]
    · simp at q2
      rw [q2]
      simp
theorem pcN_le (a : Nat) : pcN a ≤ 9 := by
  have h := sN_le (f := fun i => (a.testBit i).toNat) (b := 1) (n := 9) (fun i _ => by cases a.testBit i <;> decide)
  unfold pcN
  omega
theorem q_st61 {d k : Nat} (I : mx_I) (J : mx_J) (hk : k < 9) (v : Int32) : mx_Cal mx_tab (d + 1) 5 [.ref 61, .int (nI k), .int v] (mk I J) none (mk (mx_ups I 62 k v) J) := q_Line_set L61 I J (show k < ln 61 from hk) v
theorem q_sumAt63 {d s : Nat} (I : mx_I) (J : mx_J) (hs : s < 512) : mx_Cal mx_tab (d + 1) 72 [.ref 63, .int (nI s)] (mk I J) (some (.int (I 63 s))) (mk I J) := by
  refine mx_Cal_in (ls := [some (.ref 63), some (.int (nI s))]) tab_72 trivial (Nat.le_of_ble_eq_true rfl) rfl ?_
  simp (disch := omega) only [x_Sets_sumAt_0, x_Sets_sumAt_1, x_Sets_sumAt_4, x_Sets_sumAt_5, x_Sets_sumAt_6, x_Sets_sumAt_7, x_Sets_sumAt_10, x_Sets_sumAt_11, x_Sets_sumAt_12, x_Sets_sumAt_13, x_Sets_sumAt_16, x_Sets_sumAt_17, mk_I, mk_J, mk_Q, mk_n, mk_sI, mk_sJ, Option.toList_some, Option.toList_none, List.cons_append, List.nil_append, true_and, and_true, ↓reduceIte, leT, leF, ltT, ltF, eqF, lt0F, le0T, le0F, eq0F, natT, nI_clamp, nI_1, if_true, if_false, not_true_eq_false, not_false_eq_true, z_00, z_10, eq_self, true_or, or_true, or_false, false_or, or_63, al_63, ia_63]
theorem q_sumAt64 {d s : Nat} (I : mx_I) (J : mx_J) (hs : s < 512) : mx_Cal mx_tab (d + 1) 72 [.ref 64, .int (nI s)] (mk I J) (some (.int (I 64 s))) (mk I J) := by
  refine mx_Cal_in (ls := [some (.ref 64), some (.int (nI s))]) tab_72 trivial (Nat.le_of_ble_eq_true rfl) rfl ?_
  simp (disch := omega) only [x_Sets_sumAt_0, x_Sets_sumAt_1, x_Sets_sumAt_4, x_Sets_sumAt_5, x_Sets_sumAt_6, x_Sets_sumAt_7, x_Sets_sumAt_10, x_Sets_sumAt_11, x_Sets_sumAt_12, x_Sets_sumAt_13, x_Sets_sumAt_16, x_Sets_sumAt_17, mk_I, mk_J, mk_Q, mk_n, mk_sI, mk_sJ, Option.toList_some, Option.toList_none, List.cons_append, List.nil_append, true_and, and_true, ↓reduceIte, leT, leF, ltT, ltF, eqF, lt0F, le0T, le0F, eq0F, natT, nI_clamp, nI_1, if_true, if_false, not_true_eq_false, not_false_eq_true, z_00, z_10, eq_self, true_or, or_true, or_false, false_or, or_64, al_64, ia_64]
theorem q_sumAt65 {d s : Nat} (I : mx_I) (J : mx_J) (hs : s < 512) : mx_Cal mx_tab (d + 1) 72 [.ref 65, .int (nI s)] (mk I J) (some (.int (I 65 s))) (mk I J) := by
  refine mx_Cal_in (ls := [some (.ref 65), some (.int (nI s))]) tab_72 trivial (Nat.le_of_ble_eq_true rfl) rfl ?_
  simp (disch := omega) only [x_Sets_sumAt_0, x_Sets_sumAt_1, x_Sets_sumAt_4, x_Sets_sumAt_5, x_Sets_sumAt_6, x_Sets_sumAt_7, x_Sets_sumAt_10, x_Sets_sumAt_11, x_Sets_sumAt_12, x_Sets_sumAt_13, x_Sets_sumAt_16, x_Sets_sumAt_17, mk_I, mk_J, mk_Q, mk_n, mk_sI, mk_sJ, Option.toList_some, Option.toList_none, List.cons_append, List.nil_append, true_and, and_true, ↓reduceIte, leT, leF, ltT, ltF, eqF, lt0F, le0T, le0F, eq0F, natT, nI_clamp, nI_1, if_true, if_false, not_true_eq_false, not_false_eq_true, z_00, z_10, eq_self, true_or, or_true, or_false, false_or, or_65, al_65, ia_65]
/-- whether a set may be dropped -/
def dok (Lo Hi : Nat → Nat) (n l : Nat) (t : Int32) (s : Nat) : Prop := s &&& l = s ∧ fitV t (sS Lo n (l &&& (511 - s))) (sS Hi n (l &&& (511 - s))) = 1
def dbt (W : Nat → Nat) (n b s : Nat) : Prop := pcN s < pcN b ∨ (pcN s = pcN b ∧ sS W n s < sS W n b)
/-- the best of the sets below i -/
noncomputable def bst (Lo Hi W : Nat → Nat) (n l : Nat) (t : Int32) : Nat → Option Nat
  | 0 => none
  | i + 1 => @ite _ (dok Lo Hi n l t i) (Classical.propDecidable _) (match bst Lo Hi W n l t i with
      | none => some i
      | some b => @ite _ (dbt W n b i) (Classical.propDecidable _) (some i) (some b)) (bst Lo Hi W n l t i)
theorem bst_no {Lo Hi W : Nat → Nat} {n l i : Nat} {t : Int32} (h : ¬ dok Lo Hi n l t i) : bst Lo Hi W n l t (i + 1) = bst Lo Hi W n l t i := by
  rw [bst]; exact if_neg h
theorem bst_0 {Lo Hi W : Nat → Nat} {n l i : Nat} {t : Int32} (h : dok Lo Hi n l t i) (hb : bst Lo Hi W n l t i = none) : bst Lo Hi W n l t (i + 1) = some i := by
  rw [bst, if_pos h, hb]
theorem bst_y {Lo Hi W : Nat → Nat} {n l i b : Nat} {t : Int32} (h : dok Lo Hi n l t i) (hb : bst Lo Hi W n l t i = some b) (h2 : dbt W n b i) : bst Lo Hi W n l t (i + 1) = some i := by
  rw [bst, if_pos h, hb]
  exact if_pos h2
theorem bst_n {Lo Hi W : Nat → Nat} {n l i b : Nat} {t : Int32} (h : dok Lo Hi n l t i) (hb : bst Lo Hi W n l t i = some b) (h2 : ¬ dbt W n b i) : bst Lo Hi W n l t (i + 1) = some b := by
  rw [bst, if_pos h, hb]
  exact if_neg h2
theorem bst_sub {Lo Hi W : Nat → Nat} {n l : Nat} {t : Int32} : ∀ {i b : Nat}, bst Lo Hi W n l t i = some b → b < i ∧ b &&& l = b
  | 0, b, h => by rw [bst] at h; cases h
  | i + 1, b, h => by
    by_cases hk : dok Lo Hi n l t i
    · cases hb : bst Lo Hi W n l t i with
      | none =>
        rw [bst_0 hk hb] at h
        cases h
        exact ⟨by omega, hk.1⟩
      | some b' =>
        by_cases h2 : dbt W n b' i
        · rw [bst_y hk hb h2] at h
          cases h
          exact ⟨by omega, hk.1⟩
        · rw [bst_n hk hb h2] at h
          cases h
          have := bst_sub hb
          exact ⟨by omega, this.2⟩
    · rw [bst_no hk] at h
      have := bst_sub h
      exact ⟨by omega, this.2⟩
theorem q_findsBest {n l : Nat} {Lo Hi W : Nat → Nat} {t : Int32} (I : mx_I) (J : mx_J) (h9 : n ≤ 9) (hl : l < 512) (hLo : ∀ i, i < n → Lo i ≤ 1075) (hHi : ∀ i, i < n → Hi i ≤ 1075) (hW : ∀ i, i < n → W i ≤ 1075) (a1 : ∀ s, s < 512 → s &&& l = s → I 63 s = nI (sS Lo n s)) (a2 : ∀ s, s < 512 → s &&& l = s → I 64 s = nI (sS Hi n s)) (a3 : ∀ s, s < 512 → s &&& l = s → I 65 s = nI (sS W n s)) : ∃ I', (∀ b, bst Lo Hi W n l t (l + 1) = some b → I' 60 0 = nI b) ∧ (∀ a j, ¬ (a = 60 ∧ j = 0) → I' a j = I a j) ∧ mx_Cal mx_tab 2 71 [.ref 60, .int (nI l), .int t] (mk I J) (some (.int (if bst Lo Hi W n l t (l + 1) = none then 0 else 1))) (mk I' J) := by
  have bl : ∀ s, sS Lo n s < 20000 := fun s => sS_le h9 hLo s
  have bh : ∀ s, sS Hi n s < 20000 := fun s => sS_le h9 hHi s
  have bw : ∀ s, sS W n s < 20000 := fun s => sS_le h9 hW s
  have ll : l &&& l = l := Nat.and_self l
  obtain ⟨⟨I1, fw, lw, w1, w2⟩, ⟨p1, p2⟩, hP⟩ := lqx (σ := mx_I × Nat × Nat × Option Value × Option Value) (cl := k_Sets_findsBest) (C := mx_Cal mx_tab 1) (pc := 29) (i0 := 0) (n := l + 1) (fun i s => [some (.ref 60), some (.int (nI l)), some (.int t), some (.int (nI s.2.1)), some (.int (nI s.2.2.1)), some (.int (nI (sS Lo n l))), some (.int (nI (sS Hi n l))), some (.int (nI i)), s.2.2.2.1, s.2.2.2.2]) (fun s => mk s.1 J) (fun i s => ((bst Lo Hi W n l t i = none ∧ s.2.1 = 10 ∧ s.2.2.1 = 0) ∨ ∃ b, bst Lo Hi W n l t i = some b ∧ s.2.1 = pcN b ∧ s.2.2.1 = sS W n b ∧ s.1 60 0 = nI b) ∧ ∀ a j, ¬ (a = 60 ∧ j = 0) → s.1 a j = I a j) (s0 := (I, 10, 0, none, none)) (Nat.zero_le _) ⟨Or.inl ⟨rfl, rfl, rfl⟩, fun _ _ _ => rfl⟩ (fun i s _ hi hQ => by
    obtain ⟨I', fw, lw, v1, v2⟩ := s
    obtain ⟨q1, q2⟩ := hQ
    have q1 : (bst Lo Hi W n l t i = none ∧ fw = 10 ∧ lw = 0) ∨ ∃ b, bst Lo Hi W n l t i = some b ∧ fw = pcN b ∧ lw = sS W n b ∧ I' 60 0 = nI b := q1
    have q2 : ∀ a j, ¬ (a = 60 ∧ j = 0) → I' a j = I a j := q2
    have fb : fw ≤ 10 ∧ lw < 20000 := by
      rcases q1 with ⟨-, h1, h2⟩ | ⟨b, -, h1, h2, -⟩
      · omega
      · have := pcN_le b
        have := bw b
        omega
    have i5 : i < 512 := by omega
    by_cases hs : i &&& l = i
    rotate_left
    · refine ⟨(I', fw, lw, v1, v2), ⟨by rw [bst_no (fun h => hs h.1)]; exact q1, q2⟩, fun P ih => ?_⟩
      rw [x_Sets_findsBest_29]
      simp (disch := omega) only [x_Sets_findsBest_31, x_Sets_findsBest_32, x_Sets_findsBest_35, x_Sets_findsBest_37, x_Sets_findsBest_40, x_Sets_findsBest_43, x_Sets_findsBest_45, x_Sets_findsBest_46, x_Sets_findsBest_47, x_Sets_findsBest_49, x_Sets_findsBest_52, x_Sets_findsBest_53, x_Sets_findsBest_55, x_Sets_findsBest_56, x_Sets_findsBest_59, x_Sets_findsBest_61, x_Sets_findsBest_64, x_Sets_findsBest_65, x_Sets_findsBest_68, x_Sets_findsBest_69, x_Sets_findsBest_71, x_Sets_findsBest_72, x_Sets_findsBest_75, x_Sets_findsBest_77, x_Sets_findsBest_80, x_Sets_findsBest_81, x_Sets_findsBest_84, x_Sets_findsBest_87, x_Sets_findsBest_89, x_Sets_findsBest_92, x_Sets_findsBest_94, x_Sets_findsBest_95, x_Sets_findsBest_98, x_Sets_findsBest_100, x_Sets_findsBest_103, x_Sets_findsBest_105, x_Sets_findsBest_107, x_Sets_findsBest_108, x_Sets_findsBest_111, x_Sets_findsBest_113, x_Sets_findsBest_114, x_Sets_findsBest_117, x_Sets_findsBest_119, x_Sets_findsBest_121, x_Sets_findsBest_124, x_Sets_findsBest_126, x_Sets_findsBest_127, x_Sets_findsBest_129, x_Sets_findsBest_131, x_Sets_findsBest_132, x_Sets_findsBest_134, x_Sets_findsBest_137, x_Sets_findsBest_140, x_Sets_findsBest_143, x_Sets_findsBest_144, x_Sets_findsBest_146, x_Sets_findsBest_149, x_Sets_findsBest_150, x_Sets_findsBest_153, x_Sets_findsBest_154, mk_I, mk_J, mk_Q, mk_n, mk_sI, mk_sJ, Option.toList_some, Option.toList_none, List.cons_append, List.nil_append, true_and, and_true, ↓reduceIte, leT, leF, ltT, ltF, eqF, lt0F, le0T, le0F, eq0F, natT, nI_clamp, nI_1, if_true, if_false, not_true_eq_false, not_false_eq_true, z_00, z_10, eq_self, true_or, or_true, or_false, false_or, show (512 : Int32) = nI 512 from rfl, oc_60, rt_60_1, rt_60_2, rt_60_3, rt_60_4, rt_60_5, nI_sub, hs]
      exact ih
    have m1 : I' 63 i = nI (sS Lo n i) := (q2 63 i (by omega)).trans (a1 i i5 hs)
    have m2 : I' 64 i = nI (sS Hi n i) := (q2 64 i (by omega)).trans (a2 i i5 hs)
    have m3 : I' 65 i = nI (sS W n i) := (q2 65 i (by omega)).trans (a3 i i5 hs)
    have c1 := sS_co Lo n hl hs
    have c2 := sS_co Hi n hl hs
    have d1 : nI (sS Lo n l) - nI (sS Lo n i) = nI (sS Lo n (l &&& (511 - i))) := by
      rw [pk_sub (by omega), show sS Lo n l - sS Lo n i = sS Lo n (l &&& (511 - i)) from by omega]
    have d2 : nI (sS Hi n l) - nI (sS Hi n i) = nI (sS Hi n (l &&& (511 - i))) := by
      rw [pk_sub (by omega), show sS Hi n l - sS Hi n i = sS Hi n (l &&& (511 - i)) from by omega]
    rcases fitV_cases t (sS Lo n (l &&& (511 - i))) (sS Hi n (l &&& (511 - i))) with hf | ⟨hf, f1, f2⟩
    · refine ⟨(I', fw, lw, v1, v2), ⟨by rw [bst_no (fun h => by rw [h.2] at hf; exact absurd hf (by decide))]; exact q1, q2⟩, fun P ih => ?_⟩
      rw [x_Sets_findsBest_29]
      by_cases f1 : t < nI (sS Lo n (l &&& (511 - i)))
      · simp (disch := omega) only [x_Sets_findsBest_31, x_Sets_findsBest_32, x_Sets_findsBest_35, x_Sets_findsBest_37, x_Sets_findsBest_40, x_Sets_findsBest_43, x_Sets_findsBest_45, x_Sets_findsBest_46, x_Sets_findsBest_47, x_Sets_findsBest_49, x_Sets_findsBest_52, x_Sets_findsBest_53, x_Sets_findsBest_55, x_Sets_findsBest_56, x_Sets_findsBest_59, x_Sets_findsBest_61, x_Sets_findsBest_64, x_Sets_findsBest_65, x_Sets_findsBest_68, x_Sets_findsBest_69, x_Sets_findsBest_71, x_Sets_findsBest_72, x_Sets_findsBest_75, x_Sets_findsBest_77, x_Sets_findsBest_80, x_Sets_findsBest_81, x_Sets_findsBest_84, x_Sets_findsBest_87, x_Sets_findsBest_89, x_Sets_findsBest_92, x_Sets_findsBest_94, x_Sets_findsBest_95, x_Sets_findsBest_98, x_Sets_findsBest_100, x_Sets_findsBest_103, x_Sets_findsBest_105, x_Sets_findsBest_107, x_Sets_findsBest_108, x_Sets_findsBest_111, x_Sets_findsBest_113, x_Sets_findsBest_114, x_Sets_findsBest_117, x_Sets_findsBest_119, x_Sets_findsBest_121, x_Sets_findsBest_124, x_Sets_findsBest_126, x_Sets_findsBest_127, x_Sets_findsBest_129, x_Sets_findsBest_131, x_Sets_findsBest_132, x_Sets_findsBest_134, x_Sets_findsBest_137, x_Sets_findsBest_140, x_Sets_findsBest_143, x_Sets_findsBest_144, x_Sets_findsBest_146, x_Sets_findsBest_149, x_Sets_findsBest_150, x_Sets_findsBest_153, x_Sets_findsBest_154, mk_I, mk_J, mk_Q, mk_n, mk_sI, mk_sJ, Option.toList_some, Option.toList_none, List.cons_append, List.nil_append, true_and, and_true, ↓reduceIte, leT, leF, ltT, ltF, eqF, lt0F, le0T, le0F, eq0F, natT, nI_clamp, nI_1, if_true, if_false, not_true_eq_false, not_false_eq_true, z_00, z_10, eq_self, true_or, or_true, or_false, false_or, show (512 : Int32) = nI 512 from rfl, oc_60, rt_60_1, rt_60_2, rt_60_3, rt_60_4, rt_60_5, nI_sub, hs, mx_call (q_sumAt63 (d := 0) I' J i5) _, m1, d1, f1]
        exact ih
      · have f2 : nI (sS Hi n (l &&& (511 - i))) < t := by
          unfold fitV at hf
          rw [if_neg f1] at hf
          by_cases q : nI (sS Hi n (l &&& (511 - i))) < t
          · exact q
          · rw [if_neg q] at hf; exact absurd hf (by decide)
        simp (disch := omega) only [x_Sets_findsBest_31, x_Sets_findsBest_32, x_Sets_findsBest_35, x_Sets_findsBest_37, x_Sets_findsBest_40, x_Sets_findsBest_43, x_Sets_findsBest_45, x_Sets_findsBest_46, x_Sets_findsBest_47, x_Sets_findsBest_49, x_Sets_findsBest_52, x_Sets_findsBest_53, x_Sets_findsBest_55, x_Sets_findsBest_56, x_Sets_findsBest_59, x_Sets_findsBest_61, x_Sets_findsBest_64, x_Sets_findsBest_65, x_Sets_findsBest_68, x_Sets_findsBest_69, x_Sets_findsBest_71, x_Sets_findsBest_72, x_Sets_findsBest_75, x_Sets_findsBest_77, x_Sets_findsBest_80, x_Sets_findsBest_81, x_Sets_findsBest_84, x_Sets_findsBest_87, x_Sets_findsBest_89, x_Sets_findsBest_92, x_Sets_findsBest_94, x_Sets_findsBest_95, x_Sets_findsBest_98, x_Sets_findsBest_100, x_Sets_findsBest_103, x_Sets_findsBest_105, x_Sets_findsBest_107, x_Sets_findsBest_108, x_Sets_findsBest_111, x_Sets_findsBest_113, x_Sets_findsBest_114, x_Sets_findsBest_117, x_Sets_findsBest_119, x_Sets_findsBest_121, x_Sets_findsBest_124, x_Sets_findsBest_126, x_Sets_findsBest_127, x_Sets_findsBest_129, x_Sets_findsBest_131, x_Sets_findsBest_132, x_Sets_findsBest_134, x_Sets_findsBest_137, x_Sets_findsBest_140, x_Sets_findsBest_143, x_Sets_findsBest_144, x_Sets_findsBest_146, x_Sets_findsBest_149, x_Sets_findsBest_150, x_Sets_findsBest_153, x_Sets_findsBest_154, mk_I, mk_J, mk_Q, mk_n, mk_sI, mk_sJ, Option.toList_some, Option.toList_none, List.cons_append, List.nil_append, true_and, and_true, ↓reduceIte, leT, leF, ltT, ltF, eqF, lt0F, le0T, le0F, eq0F, natT, nI_clamp, nI_1, if_true, if_false, not_true_eq_false, not_false_eq_true, z_00, z_10, eq_self, true_or, or_true, or_false, false_or, show (512 : Int32) = nI 512 from rfl, oc_60, rt_60_1, rt_60_2, rt_60_3, rt_60_4, rt_60_5, nI_sub, hs, mx_call (q_sumAt63 (d := 0) I' J i5) _, m1, d1, f1, mx_call (q_sumAt64 (d := 0) I' J i5) _, m2, d2, ite_le, f2]
        exact ih
    have hok : dok Lo Hi n l t i := ⟨hs, hf⟩
    have pcl := pcN_le i
    have wb := bw i
    have upd : (bst Lo Hi W n l t (i + 1) = some i) → ((pcN i < fw) ∨ (pcN i = fw ∧ sS W n i < lw)) → ∃ s' : mx_I × Nat × Nat × Option Value × Option Value, (((bst Lo Hi W n l t (i + 1) = none ∧ s'.2.1 = 10 ∧ s'.2.2.1 = 0) ∨ ∃ b, bst Lo Hi W n l t (i + 1) = some b ∧ s'.2.1 = pcN b ∧ s'.2.2.1 = sS W n b ∧ s'.1 60 0 = nI b) ∧ ∀ a j, ¬ (a = 60 ∧ j = 0) → s'.1 a j = I a j) ∧ ∀ P, mx_R k_Sets_findsBest (mx_Cal mx_tab 1) 29 [some (.ref 60), some (.int (nI l)), some (.int t), some (.int (nI s'.2.1)), some (.int (nI s'.2.2.1)), some (.int (nI (sS Lo n l))), some (.int (nI (sS Hi n l))), some (.int (nI (i + 1))), s'.2.2.2.1, s'.2.2.2.2] [] (mk s'.1 J) P → mx_R k_Sets_findsBest (mx_Cal mx_tab 1) 29 [some (.ref 60), some (.int (nI l)), some (.int t), some (.int (nI fw)), some (.int (nI lw)), some (.int (nI (sS Lo n l))), some (.int (nI (sS Hi n l))), some (.int (nI i)), v1, v2] [] (mk I' J) P := fun hb hc => by
      refine ⟨(mx_ups I' 60 0 (nI i), pcN i, sS W n i, some (.int (nI (pcN i))), some (.int (nI (sS W n i)))), ⟨Or.inr ⟨i, hb, rfl, rfl, (show mx_ups I' 60 0 (nI i) 60 0 = nI i from ups_same _ _ _ _)⟩, fun a j h => ?_⟩, fun P ih => ?_⟩
      · show mx_ups I' 60 0 (nI i) a j = I a j
        rw [ups_ne _ _ (by omega)]
        exact q2 a j h
      · rw [x_Sets_findsBest_29]
        rcases hc with hc | ⟨hc, hc2⟩
        · simp (disch := omega) only [x_Sets_findsBest_31, x_Sets_findsBest_32, x_Sets_findsBest_35, x_Sets_findsBest_37, x_Sets_findsBest_40, x_Sets_findsBest_43, x_Sets_findsBest_45, x_Sets_findsBest_46, x_Sets_findsBest_47, x_Sets_findsBest_49, x_Sets_findsBest_52, x_Sets_findsBest_53, x_Sets_findsBest_55, x_Sets_findsBest_56, x_Sets_findsBest_59, x_Sets_findsBest_61, x_Sets_findsBest_64, x_Sets_findsBest_65, x_Sets_findsBest_68, x_Sets_findsBest_69, x_Sets_findsBest_71, x_Sets_findsBest_72, x_Sets_findsBest_75, x_Sets_findsBest_77, x_Sets_findsBest_80, x_Sets_findsBest_81, x_Sets_findsBest_84, x_Sets_findsBest_87, x_Sets_findsBest_89, x_Sets_findsBest_92, x_Sets_findsBest_94, x_Sets_findsBest_95, x_Sets_findsBest_98, x_Sets_findsBest_100, x_Sets_findsBest_103, x_Sets_findsBest_105, x_Sets_findsBest_107, x_Sets_findsBest_108, x_Sets_findsBest_111, x_Sets_findsBest_113, x_Sets_findsBest_114, x_Sets_findsBest_117, x_Sets_findsBest_119, x_Sets_findsBest_121, x_Sets_findsBest_124, x_Sets_findsBest_126, x_Sets_findsBest_127, x_Sets_findsBest_129, x_Sets_findsBest_131, x_Sets_findsBest_132, x_Sets_findsBest_134, x_Sets_findsBest_137, x_Sets_findsBest_140, x_Sets_findsBest_143, x_Sets_findsBest_144, x_Sets_findsBest_146, x_Sets_findsBest_149, x_Sets_findsBest_150, x_Sets_findsBest_153, x_Sets_findsBest_154, mk_I, mk_J, mk_Q, mk_n, mk_sI, mk_sJ, Option.toList_some, Option.toList_none, List.cons_append, List.nil_append, true_and, and_true, ↓reduceIte, leT, leF, ltT, ltF, eqF, lt0F, le0T, le0F, eq0F, natT, nI_clamp, nI_1, if_true, if_false, not_true_eq_false, not_false_eq_true, z_00, z_10, eq_self, true_or, or_true, or_false, false_or, show (512 : Int32) = nI 512 from rfl, oc_60, rt_60_1, rt_60_2, rt_60_3, rt_60_4, rt_60_5, nI_sub, hs, mx_call (q_sumAt63 (d := 0) I' J i5) _, m1, d1, f1, mx_call (q_sumAt64 (d := 0) I' J i5) _, m2, d2, ite_le, f2, mx_call (q_bitCount (d := 0) _ i5) _, mx_call (q_sumAt65 (d := 0) I' J i5) _, m3]
          exact ih
        · subst hc
          simp (disch := omega) only [x_Sets_findsBest_31, x_Sets_findsBest_32, x_Sets_findsBest_35, x_Sets_findsBest_37, x_Sets_findsBest_40, x_Sets_findsBest_43, x_Sets_findsBest_45, x_Sets_findsBest_46, x_Sets_findsBest_47, x_Sets_findsBest_49, x_Sets_findsBest_52, x_Sets_findsBest_53, x_Sets_findsBest_55, x_Sets_findsBest_56, x_Sets_findsBest_59, x_Sets_findsBest_61, x_Sets_findsBest_64, x_Sets_findsBest_65, x_Sets_findsBest_68, x_Sets_findsBest_69, x_Sets_findsBest_71, x_Sets_findsBest_72, x_Sets_findsBest_75, x_Sets_findsBest_77, x_Sets_findsBest_80, x_Sets_findsBest_81, x_Sets_findsBest_84, x_Sets_findsBest_87, x_Sets_findsBest_89, x_Sets_findsBest_92, x_Sets_findsBest_94, x_Sets_findsBest_95, x_Sets_findsBest_98, x_Sets_findsBest_100, x_Sets_findsBest_103, x_Sets_findsBest_105, x_Sets_findsBest_107, x_Sets_findsBest_108, x_Sets_findsBest_111, x_Sets_findsBest_113, x_Sets_findsBest_114, x_Sets_findsBest_117, x_Sets_findsBest_119, x_Sets_findsBest_121, x_Sets_findsBest_124, x_Sets_findsBest_126, x_Sets_findsBest_127, x_Sets_findsBest_129, x_Sets_findsBest_131, x_Sets_findsBest_132, x_Sets_findsBest_134, x_Sets_findsBest_137, x_Sets_findsBest_140, x_Sets_findsBest_143, x_Sets_findsBest_144, x_Sets_findsBest_146, x_Sets_findsBest_149, x_Sets_findsBest_150, x_Sets_findsBest_153, x_Sets_findsBest_154, mk_I, mk_J, mk_Q, mk_n, mk_sI, mk_sJ, Option.toList_some, Option.toList_none, List.cons_append, List.nil_append, true_and, and_true, ↓reduceIte, leT, leF, ltT, ltF, eqF, lt0F, le0T, le0F, eq0F, natT, nI_clamp, nI_1, if_true, if_false, not_true_eq_false, not_false_eq_true, z_00, z_10, eq_self, true_or, or_true, or_false, false_or, show (512 : Int32) = nI 512 from rfl, oc_60, rt_60_1, rt_60_2, rt_60_3, rt_60_4, rt_60_5, nI_sub, hs, mx_call (q_sumAt63 (d := 0) I' J i5) _, m1, d1, f1, mx_call (q_sumAt64 (d := 0) I' J i5) _, m2, d2, ite_le, f2, mx_call (q_bitCount (d := 0) _ i5) _, mx_call (q_sumAt65 (d := 0) I' J i5) _, m3]
          exact ih
    rcases q1 with ⟨g1, g2, g3⟩ | ⟨b, g1, g2, g3, g4⟩
    · exact upd (bst_0 hok g1) (Or.inl (by omega))
    · by_cases hb : dbt W n b i
      · refine upd (bst_y hok g1 hb) ?_
        rw [g2, g3]
        exact hb
      · refine ⟨(I', fw, lw, some (.int (nI (pcN i))), some (.int (nI (sS W n i)))), ⟨Or.inr ⟨b, bst_n hok g1 hb, g2, g3, g4⟩, q2⟩, fun P ih => ?_⟩
        have n1 : ¬ pcN i < fw := fun h => hb (Or.inl (by omega))
        rw [x_Sets_findsBest_29]
        by_cases he : pcN i = fw
        · have n2 : ¬ sS W n i < lw := fun h => hb (Or.inr ⟨by omega, by omega⟩)
          subst he
          simp (disch := omega) only [x_Sets_findsBest_31, x_Sets_findsBest_32, x_Sets_findsBest_35, x_Sets_findsBest_37, x_Sets_findsBest_40, x_Sets_findsBest_43, x_Sets_findsBest_45, x_Sets_findsBest_46, x_Sets_findsBest_47, x_Sets_findsBest_49, x_Sets_findsBest_52, x_Sets_findsBest_53, x_Sets_findsBest_55, x_Sets_findsBest_56, x_Sets_findsBest_59, x_Sets_findsBest_61, x_Sets_findsBest_64, x_Sets_findsBest_65, x_Sets_findsBest_68, x_Sets_findsBest_69, x_Sets_findsBest_71, x_Sets_findsBest_72, x_Sets_findsBest_75, x_Sets_findsBest_77, x_Sets_findsBest_80, x_Sets_findsBest_81, x_Sets_findsBest_84, x_Sets_findsBest_87, x_Sets_findsBest_89, x_Sets_findsBest_92, x_Sets_findsBest_94, x_Sets_findsBest_95, x_Sets_findsBest_98, x_Sets_findsBest_100, x_Sets_findsBest_103, x_Sets_findsBest_105, x_Sets_findsBest_107, x_Sets_findsBest_108, x_Sets_findsBest_111, x_Sets_findsBest_113, x_Sets_findsBest_114, x_Sets_findsBest_117, x_Sets_findsBest_119, x_Sets_findsBest_121, x_Sets_findsBest_124, x_Sets_findsBest_126, x_Sets_findsBest_127, x_Sets_findsBest_129, x_Sets_findsBest_131, x_Sets_findsBest_132, x_Sets_findsBest_134, x_Sets_findsBest_137, x_Sets_findsBest_140, x_Sets_findsBest_143, x_Sets_findsBest_144, x_Sets_findsBest_146, x_Sets_findsBest_149, x_Sets_findsBest_150, x_Sets_findsBest_153, x_Sets_findsBest_154, mk_I, mk_J, mk_Q, mk_n, mk_sI, mk_sJ, Option.toList_some, Option.toList_none, List.cons_append, List.nil_append, true_and, and_true, ↓reduceIte, leT, leF, ltT, ltF, eqF, lt0F, le0T, le0F, eq0F, natT, nI_clamp, nI_1, if_true, if_false, not_true_eq_false, not_false_eq_true, z_00, z_10, eq_self, true_or, or_true, or_false, false_or, show (512 : Int32) = nI 512 from rfl, oc_60, rt_60_1, rt_60_2, rt_60_3, rt_60_4, rt_60_5, nI_sub, hs, mx_call (q_sumAt63 (d := 0) I' J i5) _, m1, d1, f1, mx_call (q_sumAt64 (d := 0) I' J i5) _, m2, d2, ite_le, f2, mx_call (q_bitCount (d := 0) _ i5) _, mx_call (q_sumAt65 (d := 0) I' J i5) _, m3]
          exact ih
        · simp (disch := omega) only [x_Sets_findsBest_31, x_Sets_findsBest_32, x_Sets_findsBest_35, x_Sets_findsBest_37, x_Sets_findsBest_40, x_Sets_findsBest_43, x_Sets_findsBest_45, x_Sets_findsBest_46, x_Sets_findsBest_47, x_Sets_findsBest_49, x_Sets_findsBest_52, x_Sets_findsBest_53, x_Sets_findsBest_55, x_Sets_findsBest_56, x_Sets_findsBest_59, x_Sets_findsBest_61, x_Sets_findsBest_64, x_Sets_findsBest_65, x_Sets_findsBest_68, x_Sets_findsBest_69, x_Sets_findsBest_71, x_Sets_findsBest_72, x_Sets_findsBest_75, x_Sets_findsBest_77, x_Sets_findsBest_80, x_Sets_findsBest_81, x_Sets_findsBest_84, x_Sets_findsBest_87, x_Sets_findsBest_89, x_Sets_findsBest_92, x_Sets_findsBest_94, x_Sets_findsBest_95, x_Sets_findsBest_98, x_Sets_findsBest_100, x_Sets_findsBest_103, x_Sets_findsBest_105, x_Sets_findsBest_107, x_Sets_findsBest_108, x_Sets_findsBest_111, x_Sets_findsBest_113, x_Sets_findsBest_114, x_Sets_findsBest_117, x_Sets_findsBest_119, x_Sets_findsBest_121, x_Sets_findsBest_124, x_Sets_findsBest_126, x_Sets_findsBest_127, x_Sets_findsBest_129, x_Sets_findsBest_131, x_Sets_findsBest_132, x_Sets_findsBest_134, x_Sets_findsBest_137, x_Sets_findsBest_140, x_Sets_findsBest_143, x_Sets_findsBest_144, x_Sets_findsBest_146, x_Sets_findsBest_149, x_Sets_findsBest_150, x_Sets_findsBest_153, x_Sets_findsBest_154, mk_I, mk_J, mk_Q, mk_n, mk_sI, mk_sJ, Option.toList_some, Option.toList_none, List.cons_append, List.nil_append, true_and, and_true, ↓reduceIte, leT, leF, ltT, ltF, eqF, lt0F, le0T, le0F, eq0F, natT, nI_clamp, nI_1, if_true, if_false, not_true_eq_false, not_false_eq_true, z_00, z_10, eq_self, true_or, or_true, or_false, false_or, show (512 : Int32) = nI 512 from rfl, oc_60, rt_60_1, rt_60_2, rt_60_3, rt_60_4, rt_60_5, nI_sub, hs, mx_call (q_sumAt63 (d := 0) I' J i5) _, m1, d1, f1, mx_call (q_sumAt64 (d := 0) I' J i5) _, m2, d2, ite_le, f2, mx_call (q_bitCount (d := 0) _ i5) _, mx_call (q_sumAt65 (d := 0) I' J i5) _, m3]
          exact ih)
  have p1 : (bst Lo Hi W n l t (l + 1) = none ∧ fw = 10 ∧ lw = 0) ∨ ∃ b, bst Lo Hi W n l t (l + 1) = some b ∧ fw = pcN b ∧ lw = sS W n b ∧ I1 60 0 = nI b := p1
  refine ⟨I1, fun b hb => ?_, p2, ?_⟩
  · rcases p1 with ⟨h, -⟩ | ⟨b', h, -, -, h4⟩
    · rw [h] at hb; cases hb
    · rw [h] at hb; cases hb; exact h4
  · refine mx_Cal_in (ls := [some (.ref 60), some (.int (nI l)), some (.int t), none, none, none, none, none, none, none]) (d := 1) tab_71 (by rw [mx_rcv, oc_60]; trivial) (Nat.le_of_ble_eq_true rfl) rfl ?_
    simp (disch := omega) only [x_Sets_findsBest_0, x_Sets_findsBest_2, x_Sets_findsBest_3, x_Sets_findsBest_4, x_Sets_findsBest_6, x_Sets_findsBest_7, x_Sets_findsBest_10, x_Sets_findsBest_11, x_Sets_findsBest_14, x_Sets_findsBest_16, x_Sets_findsBest_17, x_Sets_findsBest_20, x_Sets_findsBest_21, x_Sets_findsBest_24, x_Sets_findsBest_26, x_Sets_findsBest_27, mk_I, mk_J, mk_Q, mk_n, mk_sI, mk_sJ, Option.toList_some, Option.toList_none, List.cons_append, List.nil_append, true_and, and_true, ↓reduceIte, leT, leF, ltT, ltF, eqF, lt0F, le0T, le0F, eq0F, natT, nI_clamp, nI_1, if_true, if_false, not_true_eq_false, not_false_eq_true, z_00, z_10, eq_self, true_or, or_true, or_false, false_or, oc_60, rt_60_1, rt_60_2, rt_60_3, rt_60_4, rt_60_5, mx_call (q_sumAt63 (d := 0) I J hl) _, mx_call (q_sumAt64 (d := 0) I J hl) _, a1 l hl ll, a2 l hl ll]
    refine hP _ ?_
    rw [x_Sets_findsBest_29]
    rcases p1 with ⟨h, h2, h3⟩ | ⟨b, h, h2, h3, h4⟩
    · subst h2
      rw [h]
      simp (disch := omega) only [x_Sets_findsBest_31, x_Sets_findsBest_32, x_Sets_findsBest_35, x_Sets_findsBest_37, x_Sets_findsBest_40, x_Sets_findsBest_43, x_Sets_findsBest_45, x_Sets_findsBest_46, x_Sets_findsBest_47, x_Sets_findsBest_49, x_Sets_findsBest_52, x_Sets_findsBest_53, x_Sets_findsBest_55, x_Sets_findsBest_56, x_Sets_findsBest_59, x_Sets_findsBest_61, x_Sets_findsBest_64, x_Sets_findsBest_65, x_Sets_findsBest_68, x_Sets_findsBest_69, x_Sets_findsBest_71, x_Sets_findsBest_72, x_Sets_findsBest_75, x_Sets_findsBest_77, x_Sets_findsBest_80, x_Sets_findsBest_81, x_Sets_findsBest_84, x_Sets_findsBest_87, x_Sets_findsBest_89, x_Sets_findsBest_92, x_Sets_findsBest_94, x_Sets_findsBest_95, x_Sets_findsBest_98, x_Sets_findsBest_100, x_Sets_findsBest_103, x_Sets_findsBest_105, x_Sets_findsBest_107, x_Sets_findsBest_108, x_Sets_findsBest_111, x_Sets_findsBest_113, x_Sets_findsBest_114, x_Sets_findsBest_117, x_Sets_findsBest_119, x_Sets_findsBest_121, x_Sets_findsBest_124, x_Sets_findsBest_126, x_Sets_findsBest_127, x_Sets_findsBest_129, x_Sets_findsBest_131, x_Sets_findsBest_132, x_Sets_findsBest_134, x_Sets_findsBest_137, x_Sets_findsBest_140, x_Sets_findsBest_143, x_Sets_findsBest_144, x_Sets_findsBest_146, x_Sets_findsBest_149, x_Sets_findsBest_150, x_Sets_findsBest_153, x_Sets_findsBest_154, mk_I, mk_J, mk_Q, mk_n, mk_sI, mk_sJ, Option.toList_some, Option.toList_none, List.cons_append, List.nil_append, true_and, and_true, ↓reduceIte, leT, leF, ltT, ltF, eqF, lt0F, le0T, le0F, eq0F, natT, nI_clamp, nI_1, if_true, if_false, not_true_eq_false, not_false_eq_true, z_00, z_10, eq_self, true_or, or_true, or_false, false_or, show (9 : Int32) = nI 9 from rfl]
    · have := pcN_le b
      rw [h]
      have hne : (some b = none) = False := by simp
      simp (disch := omega) only [x_Sets_findsBest_31, x_Sets_findsBest_32, x_Sets_findsBest_35, x_Sets_findsBest_37, x_Sets_findsBest_40, x_Sets_findsBest_43, x_Sets_findsBest_45, x_Sets_findsBest_46, x_Sets_findsBest_47, x_Sets_findsBest_49, x_Sets_findsBest_52, x_Sets_findsBest_53, x_Sets_findsBest_55, x_Sets_findsBest_56, x_Sets_findsBest_59, x_Sets_findsBest_61, x_Sets_findsBest_64, x_Sets_findsBest_65, x_Sets_findsBest_68, x_Sets_findsBest_69, x_Sets_findsBest_71, x_Sets_findsBest_72, x_Sets_findsBest_75, x_Sets_findsBest_77, x_Sets_findsBest_80, x_Sets_findsBest_81, x_Sets_findsBest_84, x_Sets_findsBest_87, x_Sets_findsBest_89, x_Sets_findsBest_92, x_Sets_findsBest_94, x_Sets_findsBest_95, x_Sets_findsBest_98, x_Sets_findsBest_100, x_Sets_findsBest_103, x_Sets_findsBest_105, x_Sets_findsBest_107, x_Sets_findsBest_108, x_Sets_findsBest_111, x_Sets_findsBest_113, x_Sets_findsBest_114, x_Sets_findsBest_117, x_Sets_findsBest_119, x_Sets_findsBest_121, x_Sets_findsBest_124, x_Sets_findsBest_126, x_Sets_findsBest_127, x_Sets_findsBest_129, x_Sets_findsBest_131, x_Sets_findsBest_132, x_Sets_findsBest_134, x_Sets_findsBest_137, x_Sets_findsBest_140, x_Sets_findsBest_143, x_Sets_findsBest_144, x_Sets_findsBest_146, x_Sets_findsBest_149, x_Sets_findsBest_150, x_Sets_findsBest_153, x_Sets_findsBest_154, mk_I, mk_J, mk_Q, mk_n, mk_sI, mk_sJ, Option.toList_some, Option.toList_none, List.cons_append, List.nil_append, true_and, and_true, ↓reduceIte, leT, leF, ltT, ltF, eqF, lt0F, le0T, le0F, eq0F, natT, nI_clamp, nI_1, if_true, if_false, not_true_eq_false, not_false_eq_true, z_00, z_10, eq_self, true_or, or_true, or_false, false_or, show (9 : Int32) = nI 9 from rfl, hne]
theorem q_worthOf {n : Nat} {I : mx_I} {K M T F pl od : Nat → Nat} (hc : CI I n K M T F od) (ho : OrdR n pl od) (ht : TextR I 0 17 95 53) (J : mx_J) {i : Nat} (hi : i < n) : ∃ I', (∀ a j, ¬ (a = 20 ∧ j = 1) → a ≠ 21 → I' a j = I a j) ∧ mx_Cal mx_tab 4 65 [.ref 1, .int (nI i)] (mk I J) (some (.int (nI (wN (I 95) K T pl i)))) (mk I' J) := by
  have h9 := hc.1
  obtain ⟨b1, b2, b3, b4, b5, d1, d2, d3, d4, d5⟩ := hc.2.2 i hi
  obtain ⟨I', p, hcal⟩ := q_worthBy I J ht (nI (K i)) (nI (T i)) (nI (pl i))
  rw [wN_eq] at hcal
  have e3 := at3 I (show i < 9 by omega)
  have e7 := at7 I (show i < 9 by omega)
  rw [d1] at e3
  rw [d3] at e7
  refine ⟨I', p, ?_⟩
  refine mx_Cal_in (ls := [some (.ref 1), some (.int (nI i))]) (d := 3) tab_65 (by rw [mx_rcv, oc_1]; trivial) (Nat.le_of_ble_eq_true rfl) rfl ?_
  simp (disch := omega) only [x_Show_worthOf_0, x_Show_worthOf_1, x_Show_worthOf_2, x_Show_worthOf_5, x_Show_worthOf_8, x_Show_worthOf_9, x_Show_worthOf_12, x_Show_worthOf_13, x_Show_worthOf_16, x_Show_worthOf_19, x_Show_worthOf_20, x_Show_worthOf_23, x_Show_worthOf_24, x_Show_worthOf_27, x_Show_worthOf_28, x_Show_worthOf_31, x_Show_worthOf_34, mk_I, mk_J, mk_Q, mk_n, mk_sI, mk_sJ, Option.toList_some, Option.toList_none, List.cons_append, List.nil_append, true_and, and_true, ↓reduceIte, leT, leF, ltT, ltF, eqF, lt0F, le0T, le0F, eq0F, natT, nI_clamp, nI_1, if_true, if_false, not_true_eq_false, not_false_eq_true, z_00, z_10, eq_self, true_or, or_true, or_false, false_or, oc_0, oc_1, oc_2, rt_0_0, rt_0_1, rt_0_3, rt_0_4, rt_0_5, rt_0_6, rt_0_7, rt_0_8, rt_0_9, rt_1_0, rt_1_5, rt_1_6, rt_1_7, rt_1_8, rt_2_1, rt_2_2, rt_2_3, rt_2_4, rt_2_5, mx_call (q_Line_at (d := 0) L3 _ _ _) _, mx_call (q_Line_at (d := 0) L7 _ _ _) _, e3, e7, mx_call (q_placeOf (d := 0) hc ho J hi) _, mx_call hcal _]
theorem q_findsDrops {n a b : Nat} {I : mx_I} {K M T F pl od : Nat → Nat} (hc : CI I n K M T F od) (ho : OrdR n pl od) (ht : TextR I 0 17 95 53) (ca : I 1 1 = nI a) (cb : I 1 2 = nI b) (h63 : ∀ a, 63 ≤ a → a ≤ 66 → I a 0 = 0) (J : mx_J) : ∃ I', (∀ v, bst (LN K M T) (MN K M T) (wN (I 95) K T pl) n (lfN F n) (nI a - nI b) (lfN F n + 1) = some v → I' 60 0 = nI v) ∧ (∀ a j, ¬ ((a = 60 ∧ j = 0) ∨ (a = 20 ∧ j = 1) ∨ a = 21 ∨ a = 62 ∨ (63 ≤ a ∧ a ≤ 65 ∧ j ≠ 0)) → I' a j = I a j) ∧ mx_Cal mx_tab 6 68 [.ref 60, .ref 1] (mk I J) (some (.int (if bst (LN K M T) (MN K M T) (wN (I 95) K T pl) n (lfN F n) (nI a - nI b) (lfN F n + 1) = none then 0 else 1))) (mk I' J) := by
  have h9 := hc.1
  have hn := hc.2.1
  have hl := lfN_lt F n
  have hl5 := lfN_512 F h9
  have cc : ∀ {I' : mx_I}, (∀ a j, ¬ ((a = 60 ∧ j = 0) ∨ (a = 20 ∧ j = 1) ∨ a = 21 ∨ a = 62 ∨ (63 ≤ a ∧ a ≤ 65 ∧ j ≠ 0)) → I' a j = I a j) → CI I' n K M T F od := fun h => hc.congr (fun a j q => h a j (by omega))
  obtain ⟨I1, ⟨p1, p2⟩, hP1⟩ := lqx (cl := k_Sets_findsDrops) (C := mx_Cal mx_tab 5) (pc := 13) (i0 := 0) (n := n) (fun i (_ : mx_I) => [some (.ref 60), some (.ref 1), some (.ref 2), some (.int (nI (lfN F n))), some (.int (nI i))]) (fun I' => mk I' J) (fun i I' => (∀ j, j < i → I' 62 j = nI (LN K M T j)) ∧ ∀ a j, a ≠ 62 → I' a j = I a j) (s0 := I) (Nat.zero_le n) ⟨fun j hj => absurd hj (Nat.not_lt_zero j), fun _ _ _ => rfl⟩ (fun i I' _ hi hQ => by
    obtain ⟨q1, q2⟩ := hQ
    have hc' := cc (I' := I') (fun a j h => q2 a j (by omega))
    have hn' := hc'.2.1
    refine ⟨mx_ups I' 62 i (nI (LN K M T i)), ⟨fun j hj => ?_, fun a j h => by rw [ups_ne _ _ (by omega)]; exact q2 a j h⟩, fun P ih => ?_⟩
    · by_cases hji : j = i
      · rw [hji, ups_same]
      · rw [ups_ne _ _ (by omega)]
        exact q1 j (by omega)
    · rw [x_Sets_findsDrops_13]
      simp (disch := omega) only [x_Sets_findsDrops_15, x_Sets_findsDrops_16, x_Sets_findsDrops_19, x_Sets_findsDrops_22, x_Sets_findsDrops_23, x_Sets_findsDrops_26, x_Sets_findsDrops_28, x_Sets_findsDrops_29, x_Sets_findsDrops_31, x_Sets_findsDrops_34, x_Sets_findsDrops_37, x_Sets_findsDrops_40, mk_I, mk_J, mk_Q, mk_n, mk_sI, mk_sJ, Option.toList_some, Option.toList_none, List.cons_append, List.nil_append, true_and, and_true, ↓reduceIte, leT, leF, ltT, ltF, eqF, lt0F, le0T, le0F, eq0F, natT, nI_clamp, nI_1, if_true, if_false, not_true_eq_false, not_false_eq_true, z_00, z_10, eq_self, true_or, or_true, or_false, false_or, oc_0, oc_1, oc_2, rt_0_0, rt_0_1, rt_0_3, rt_0_4, rt_0_5, rt_0_6, rt_0_7, rt_0_8, rt_0_9, rt_1_0, rt_1_5, rt_1_6, rt_1_7, rt_1_8, rt_2_1, rt_2_2, rt_2_3, rt_2_4, rt_2_5, oc_60, rt_60_1, rt_60_2, rt_60_3, rt_60_4, rt_60_5, hn', mx_call (q_Items_least (d := 0) I' J (show i < 9 by omega)) _, hc'.L hi, mx_call (q_st61 (d := 0) I' J (show i < 9 by omega) _) _]
      exact ih)
  have hc1 := cc (I' := I1) (fun a j h => p2 a j (by omega))
  obtain ⟨I2, ⟨r1, r2⟩, hcal2⟩ := q_addUp63 (V := LN K M T) I1 J h9 hl p1 (by rw [p2 63 0 (by omega)]; exact h63 63 (by omega) (by omega))
  have f2 : ∀ a j, ¬ ((a = 60 ∧ j = 0) ∨ (a = 20 ∧ j = 1) ∨ a = 21 ∨ a = 62 ∨ (63 ≤ a ∧ a ≤ 65 ∧ j ≠ 0)) → I2 a j = I a j := fun a j h => by rw [r2 a j (by omega), p2 a j (by omega)]
  obtain ⟨I3, ⟨u1, u2⟩, hP3⟩ := lqx (cl := k_Sets_findsDrops) (C := mx_Cal mx_tab 5) (pc := 55) (i0 := 0) (n := n) (fun i (_ : mx_I) => [some (.ref 60), some (.ref 1), some (.ref 2), some (.int (nI (lfN F n))), some (.int (nI i))]) (fun I' => mk I' J) (fun i I' => (∀ j, j < i → I' 62 j = nI (MN K M T j)) ∧ ∀ a j, a ≠ 62 → I' a j = I2 a j) (s0 := I2) (Nat.zero_le n) ⟨fun j hj => absurd hj (Nat.not_lt_zero j), fun _ _ _ => rfl⟩ (fun i I' _ hi hQ => by
    obtain ⟨q1, q2⟩ := hQ
    have hc' := cc (I' := I') (fun a j h => by rw [q2 a j (by omega)]; exact f2 a j h)
    have hn' := hc'.2.1
    refine ⟨mx_ups I' 62 i (nI (MN K M T i)), ⟨fun j hj => ?_, fun a j h => by rw [ups_ne _ _ (by omega)]; exact q2 a j h⟩, fun P ih => ?_⟩
    · by_cases hji : j = i
      · rw [hji, ups_same]
      · rw [ups_ne _ _ (by omega)]
        exact q1 j (by omega)
    · rw [x_Sets_findsDrops_55]
      simp (disch := omega) only [x_Sets_findsDrops_57, x_Sets_findsDrops_58, x_Sets_findsDrops_61, x_Sets_findsDrops_64, x_Sets_findsDrops_65, x_Sets_findsDrops_68, x_Sets_findsDrops_70, x_Sets_findsDrops_71, x_Sets_findsDrops_73, x_Sets_findsDrops_76, x_Sets_findsDrops_79, x_Sets_findsDrops_82, mk_I, mk_J, mk_Q, mk_n, mk_sI, mk_sJ, Option.toList_some, Option.toList_none, List.cons_append, List.nil_append, true_and, and_true, ↓reduceIte, leT, leF, ltT, ltF, eqF, lt0F, le0T, le0F, eq0F, natT, nI_clamp, nI_1, if_true, if_false, not_true_eq_false, not_false_eq_true, z_00, z_10, eq_self, true_or, or_true, or_false, false_or, oc_0, oc_1, oc_2, rt_0_0, rt_0_1, rt_0_3, rt_0_4, rt_0_5, rt_0_6, rt_0_7, rt_0_8, rt_0_9, rt_1_0, rt_1_5, rt_1_6, rt_1_7, rt_1_8, rt_2_1, rt_2_2, rt_2_3, rt_2_4, rt_2_5, oc_60, rt_60_1, rt_60_2, rt_60_3, rt_60_4, rt_60_5, hn', mx_call (q_Items_most (d := 0) I' J (show i < 9 by omega)) _, hc'.M hi, mx_call (q_st61 (d := 0) I' J (show i < 9 by omega) _) _]
      exact ih)
  obtain ⟨I4, ⟨s1, s2⟩, hcal4⟩ := q_addUp64 (V := MN K M T) I3 J h9 hl u1 (by rw [u2 64 0 (by omega), f2 64 0 (by omega)]; exact h63 64 (by omega) (by omega))
  have f4 : ∀ a j, ¬ ((a = 60 ∧ j = 0) ∨ (a = 20 ∧ j = 1) ∨ a = 21 ∨ a = 62 ∨ (63 ≤ a ∧ a ≤ 65 ∧ j ≠ 0)) → I4 a j = I a j := fun a j h => by rw [s2 a j (by omega), u2 a j (by omega), f2 a j h]
  obtain ⟨I5, ⟨v1, v2⟩, hP5⟩ := lqx (cl := k_Sets_findsDrops) (C := mx_Cal mx_tab 5) (pc := 97) (i0 := 0) (n := n) (fun i (_ : mx_I) => [some (.ref 60), some (.ref 1), some (.ref 2), some (.int (nI (lfN F n))), some (.int (nI i))]) (fun I' => mk I' J) (fun i I' => (∀ j, j < i → I' 62 j = nI (wN (I 95) K T pl j)) ∧ ∀ a j, a ≠ 62 → ¬ (a = 20 ∧ j = 1) → a ≠ 21 → I' a j = I4 a j) (s0 := I4) (Nat.zero_le n) ⟨fun j hj => absurd hj (Nat.not_lt_zero j), fun _ _ _ _ _ => rfl⟩ (fun i I' _ hi hQ => by
    obtain ⟨q1, q2⟩ := hQ
    have ff : ∀ a j, ¬ ((a = 60 ∧ j = 0) ∨ (a = 20 ∧ j = 1) ∨ a = 21 ∨ a = 62 ∨ (63 ≤ a ∧ a ≤ 65 ∧ j ≠ 0)) → I' a j = I a j := fun a j h => by rw [q2 a j (by omega) (by omega) (by omega)]; exact f4 a j h
    have hc' := cc (I' := I') ff
    have hn' := hc'.2.1
    have g : I' 95 = I 95 := funext fun j => ff 95 j (by omega)
    obtain ⟨I6, w1, hcal⟩ := q_worthOf hc' ho (ht.congr2 (fun a j g1 g2 => ff a j (by omega)) (fun j _ _ => ff 95 j (by omega))) J hi
    rw [g] at hcal
    refine ⟨mx_ups I6 62 i (nI (wN (I 95) K T pl i)), ⟨fun j hj => ?_, fun a j h1 h2 h3 => by rw [ups_ne _ _ (by omega), w1 a j h2 h3]; exact q2 a j h1 h2 h3⟩, fun P ih => ?_⟩
    · by_cases hji : j = i
      · rw [hji, ups_same]
      · rw [ups_ne _ _ (by omega), w1 62 j (by omega) (by omega)]
        exact q1 j (by omega)
    · rw [x_Sets_findsDrops_97]
      simp (disch := omega) only [x_Sets_findsDrops_99, x_Sets_findsDrops_100, x_Sets_findsDrops_103, x_Sets_findsDrops_106, x_Sets_findsDrops_107, x_Sets_findsDrops_110, x_Sets_findsDrops_112, x_Sets_findsDrops_113, x_Sets_findsDrops_115, x_Sets_findsDrops_118, x_Sets_findsDrops_121, x_Sets_findsDrops_124, mk_I, mk_J, mk_Q, mk_n, mk_sI, mk_sJ, Option.toList_some, Option.toList_none, List.cons_append, List.nil_append, true_and, and_true, ↓reduceIte, leT, leF, ltT, ltF, eqF, lt0F, le0T, le0F, eq0F, natT, nI_clamp, nI_1, if_true, if_false, not_true_eq_false, not_false_eq_true, z_00, z_10, eq_self, true_or, or_true, or_false, false_or, oc_0, oc_1, oc_2, rt_0_0, rt_0_1, rt_0_3, rt_0_4, rt_0_5, rt_0_6, rt_0_7, rt_0_8, rt_0_9, rt_1_0, rt_1_5, rt_1_6, rt_1_7, rt_1_8, rt_2_1, rt_2_2, rt_2_3, rt_2_4, rt_2_5, oc_60, rt_60_1, rt_60_2, rt_60_3, rt_60_4, rt_60_5, hn', mx_call hcal _, mx_call (q_st61 (d := 0) I6 J (show i < 9 by omega) _) _]
      exact ih)
  obtain ⟨I6, ⟨w1, w2⟩, hcal6⟩ := q_addUp65 (V := wN (I 95) K T pl) I5 J h9 hl v1 (by rw [v2 65 0 (by omega) (by omega) (by omega), f4 65 0 (by omega)]; exact h63 65 (by omega) (by omega))
  have f6 : ∀ a j, ¬ ((a = 60 ∧ j = 0) ∨ (a = 20 ∧ j = 1) ∨ a = 21 ∨ a = 62 ∨ (63 ≤ a ∧ a ≤ 65 ∧ j ≠ 0)) → I6 a j = I a j := fun a j h => by rw [w2 a j (by omega), v2 a j (by omega) (by omega) (by omega), f4 a j h]
  have lb : ∀ i, i < n → LN K M T i ≤ 1075 ∧ MN K M T i ≤ 1075 := fun i hi => by
    obtain ⟨l1, l2, l3⟩ := hc.lb hi
    exact ⟨by omega, by omega⟩
  obtain ⟨I7, y1, y2, hcal7⟩ := q_findsBest (t := nI a - nI b) I6 J h9 hl5 (fun i hi => (lb i hi).1) (fun i hi => (lb i hi).2) (fun i _ => Nat.le_trans (wN_le (I 95) K T pl i) (by omega)) (fun s h1 h2 => by
    rw [w2 63 s (by omega), v2 63 s (by omega) (by omega) (by omega), s2 63 s (by omega), u2 63 s (by omega)]
    exact r1 s h1 h2) (fun s h1 h2 => by
    rw [w2 64 s (by omega), v2 64 s (by omega) (by omega) (by omega)]
    exact s1 s h1 h2) w1
  refine ⟨I7, y1, fun a j h => by rw [y2 a j (by omega)]; exact f6 a j h, ?_⟩
  have hn1 := hc1.2.1
  have hn3 := (cc (I' := I3) (fun a j h => by rw [u2 a j (by omega)]; exact f2 a j h)).2.1
  have hn5 := (cc (I' := I5) (fun a j h => by rw [v2 a j (by omega) (by omega) (by omega)]; exact f4 a j h)).2.1
  refine mx_Cal_in (ls := [some (.ref 60), some (.ref 1), none, none, none]) (d := 5) tab_68 (by rw [mx_rcv, oc_60]; trivial) (Nat.le_of_ble_eq_true rfl) rfl ?_
  simp (disch := omega) only [x_Sets_findsDrops_0, x_Sets_findsDrops_1, x_Sets_findsDrops_4, x_Sets_findsDrops_5, x_Sets_findsDrops_6, x_Sets_findsDrops_9, x_Sets_findsDrops_10, x_Sets_findsDrops_11, mk_I, mk_J, mk_Q, mk_n, mk_sI, mk_sJ, Option.toList_some, Option.toList_none, List.cons_append, List.nil_append, true_and, and_true, ↓reduceIte, leT, leF, ltT, ltF, eqF, lt0F, le0T, le0F, eq0F, natT, nI_clamp, nI_1, if_true, if_false, not_true_eq_false, not_false_eq_true, z_00, z_10, eq_self, true_or, or_true, or_false, false_or, oc_0, oc_1, oc_2, rt_0_0, rt_0_1, rt_0_3, rt_0_4, rt_0_5, rt_0_6, rt_0_7, rt_0_8, rt_0_9, rt_1_0, rt_1_5, rt_1_6, rt_1_7, rt_1_8, rt_2_1, rt_2_2, rt_2_3, rt_2_4, rt_2_5, mx_call (q_leftSet (d := 0) hc J) _]
  rw [← nI_0]
  refine hP1 _ ?_
  rw [x_Sets_findsDrops_13]
  simp (disch := omega) only [x_Sets_findsDrops_15, x_Sets_findsDrops_16, x_Sets_findsDrops_19, x_Sets_findsDrops_43, x_Sets_findsDrops_44, x_Sets_findsDrops_45, x_Sets_findsDrops_48, x_Sets_findsDrops_49, x_Sets_findsDrops_52, x_Sets_findsDrops_53, mk_I, mk_J, mk_Q, mk_n, mk_sI, mk_sJ, Option.toList_some, Option.toList_none, List.cons_append, List.nil_append, true_and, and_true, ↓reduceIte, leT, leF, ltT, ltF, eqF, lt0F, le0T, le0F, eq0F, natT, nI_clamp, nI_1, if_true, if_false, not_true_eq_false, not_false_eq_true, z_00, z_10, eq_self, true_or, or_true, or_false, false_or, oc_0, oc_1, oc_2, rt_0_0, rt_0_1, rt_0_3, rt_0_4, rt_0_5, rt_0_6, rt_0_7, rt_0_8, rt_0_9, rt_1_0, rt_1_5, rt_1_6, rt_1_7, rt_1_8, rt_2_1, rt_2_2, rt_2_3, rt_2_4, rt_2_5, oc_60, rt_60_1, rt_60_2, rt_60_3, rt_60_4, rt_60_5, hn1, mx_call hcal2 _]
  rw [← nI_0]
  refine hP3 _ ?_
  rw [x_Sets_findsDrops_55]
  simp (disch := omega) only [x_Sets_findsDrops_57, x_Sets_findsDrops_58, x_Sets_findsDrops_61, x_Sets_findsDrops_85, x_Sets_findsDrops_86, x_Sets_findsDrops_87, x_Sets_findsDrops_90, x_Sets_findsDrops_91, x_Sets_findsDrops_94, x_Sets_findsDrops_95, mk_I, mk_J, mk_Q, mk_n, mk_sI, mk_sJ, Option.toList_some, Option.toList_none, List.cons_append, List.nil_append, true_and, and_true, ↓reduceIte, leT, leF, ltT, ltF, eqF, lt0F, le0T, le0F, eq0F, natT, nI_clamp, nI_1, if_true, if_false, not_true_eq_false, not_false_eq_true, z_00, z_10, eq_self, true_or, or_true, or_false, false_or, oc_0, oc_1, oc_2, rt_0_0, rt_0_1, rt_0_3, rt_0_4, rt_0_5, rt_0_6, rt_0_7, rt_0_8, rt_0_9, rt_1_0, rt_1_5, rt_1_6, rt_1_7, rt_1_8, rt_2_1, rt_2_2, rt_2_3, rt_2_4, rt_2_5, oc_60, rt_60_1, rt_60_2, rt_60_3, rt_60_4, rt_60_5, hn3, mx_call hcal4 _]
  rw [← nI_0]
  refine hP5 _ ?_
  rw [x_Sets_findsDrops_97]
  by_cases hb : bst (LN K M T) (MN K M T) (wN (I 95) K T pl) n (lfN F n) (nI a - nI b) (lfN F n + 1) = none
  · rw [if_pos hb] at hcal7
    simp (disch := omega) only [x_Sets_findsDrops_99, x_Sets_findsDrops_100, x_Sets_findsDrops_103, x_Sets_findsDrops_106, x_Sets_findsDrops_107, x_Sets_findsDrops_110, x_Sets_findsDrops_112, x_Sets_findsDrops_113, x_Sets_findsDrops_115, x_Sets_findsDrops_118, x_Sets_findsDrops_121, x_Sets_findsDrops_124, x_Sets_findsDrops_127, x_Sets_findsDrops_128, x_Sets_findsDrops_129, x_Sets_findsDrops_132, x_Sets_findsDrops_133, x_Sets_findsDrops_136, x_Sets_findsDrops_137, x_Sets_findsDrops_138, x_Sets_findsDrops_139, x_Sets_findsDrops_142, x_Sets_findsDrops_145, mk_I, mk_J, mk_Q, mk_n, mk_sI, mk_sJ, Option.toList_some, Option.toList_none, List.cons_append, List.nil_append, true_and, and_true, ↓reduceIte, leT, leF, ltT, ltF, eqF, lt0F, le0T, le0F, eq0F, natT, nI_clamp, nI_1, if_true, if_false, not_true_eq_false, not_false_eq_true, z_00, z_10, eq_self, true_or, or_true, or_false, false_or, oc_0, oc_1, oc_2, rt_0_0, rt_0_1, rt_0_3, rt_0_4, rt_0_5, rt_0_6, rt_0_7, rt_0_8, rt_0_9, rt_1_0, rt_1_5, rt_1_6, rt_1_7, rt_1_8, rt_2_1, rt_2_2, rt_2_3, rt_2_4, rt_2_5, oc_60, rt_60_1, rt_60_2, rt_60_3, rt_60_4, rt_60_5, hn5, mx_call hcal6 _, mx_call (q_Show_there (d := 0) I6 J) _, f6 1 1 (by omega), f6 1 2 (by omega), ca, cb, mx_call hcal7 _, if_pos hb]
    rfl
  · rw [if_neg hb] at hcal7
    simp (disch := omega) only [x_Sets_findsDrops_99, x_Sets_findsDrops_100, x_Sets_findsDrops_103, x_Sets_findsDrops_106, x_Sets_findsDrops_107, x_Sets_findsDrops_110, x_Sets_findsDrops_112, x_Sets_findsDrops_113, x_Sets_findsDrops_115, x_Sets_findsDrops_118, x_Sets_findsDrops_121, x_Sets_findsDrops_124, x_Sets_findsDrops_127, x_Sets_findsDrops_128, x_Sets_findsDrops_129, x_Sets_findsDrops_132, x_Sets_findsDrops_133, x_Sets_findsDrops_136, x_Sets_findsDrops_137, x_Sets_findsDrops_138, x_Sets_findsDrops_139, x_Sets_findsDrops_142, x_Sets_findsDrops_145, mk_I, mk_J, mk_Q, mk_n, mk_sI, mk_sJ, Option.toList_some, Option.toList_none, List.cons_append, List.nil_append, true_and, and_true, ↓reduceIte, leT, leF, ltT, ltF, eqF, lt0F, le0T, le0F, eq0F, natT, nI_clamp, nI_1, if_true, if_false, not_true_eq_false, not_false_eq_true, z_00, z_10, eq_self, true_or, or_true, or_false, false_or, oc_0, oc_1, oc_2, rt_0_0, rt_0_1, rt_0_3, rt_0_4, rt_0_5, rt_0_6, rt_0_7, rt_0_8, rt_0_9, rt_1_0, rt_1_5, rt_1_6, rt_1_7, rt_1_8, rt_2_1, rt_2_2, rt_2_3, rt_2_4, rt_2_5, oc_60, rt_60_1, rt_60_2, rt_60_3, rt_60_4, rt_60_5, hn5, mx_call hcal6 _, mx_call (q_Show_there (d := 0) I6 J) _, f6 1 1 (by omega), f6 1 2 (by omega), ca, cb, mx_call hcal7 _, if_neg hb]
