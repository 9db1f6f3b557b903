/-! row: the class -/
theorem L68 : isLn 68 = true := by decide +kernel
theorem L70 : isLn 70 = true := by decide +kernel
theorem L72 : isLn 72 = true := by decide +kernel
theorem L74 : isLn 74 = true := by decide +kernel
theorem at68 (I : mx_I) {k : Nat} (hk : k < 6) : at_ I 68 (nI k) = I 69 k := at_nI (r := 68) (hk : k < ln 68) (by decide +kernel)
theorem at70 (I : mx_I) {k : Nat} (hk : k < 6) : at_ I 70 (nI k) = I 71 k := at_nI (r := 70) (hk : k < ln 70) (by decide +kernel)
theorem at72 (I : mx_I) {k : Nat} (hk : k < 36) : at_ I 72 (nI k) = I 73 k := at_nI (r := 72) (hk : k < ln 72) (by decide +kernel)
theorem at74 (I : mx_I) {k : Nat} (hk : k < 64) : at_ I 74 (nI k) = I 75 k := at_nI (r := 74) (hk : k < ln 74) (by decide +kernel)
theorem q_st72 {d k : Nat} (I : mx_I) (J : mx_J) (hk : k < 36) (v : Int32) : mx_Cal mx_tab (d + 1) 5 [.ref 72, .int (nI k), .int v] (mk I J) none (mk (mx_ups I 73 k v) J) := q_Line_set L72 I J (show k < ln 72 from hk) v
theorem q_st74 {d k : Nat} (I : mx_I) (J : mx_J) (hk : k < 64) (v : Int32) : mx_Cal mx_tab (d + 1) 5 [.ref 74, .int (nI k), .int v] (mk I J) none (mk (mx_ups I 75 k v) J) := q_Line_set L74 I J (show k < ln 74 from hk) v
theorem q_ap70 {d k : Nat} (I : mx_I) (J : mx_J) (hk : k < 6) (hs : I 70 1 = nI k) (v : Int32) : mx_Cal mx_tab (d + 1) 6 [.ref 70, .int v] (mk I J) none (mk (mx_ups (mx_ups I 71 k v) 70 1 (nI (k + 1))) J) := q_Line_append L70 I J hs (show k < ln 70 from hk) v
theorem q_ap68 {d k : Nat} (I : mx_I) (J : mx_J) (hk : k < 6) (hs : I 68 1 = nI k) (v : Int32) : mx_Cal mx_tab (d + 1) 6 [.ref 68, .int v] (mk I J) none (mk (mx_ups (mx_ups I 69 k v) 68 1 (nI (k + 1))) J) := q_Line_append L68 I J hs (show k < ln 68 from hk) v
theorem fb_ofI' {z : Int} (h1 : -2147483648 ≤ z) (h2 : z < 2147483648) : (Int32.ofInt z).toInt = z := by
  rw [Int32.toInt_ofInt]
  have e : Int32.size = 4294967296 := rfl
  exact Int.bmod_eq_of_le (by omega) (by omega)
theorem zI_add {a b : Int} (ha : -10000 ≤ a ∧ a ≤ 10000) (hb : -10000 ≤ b ∧ b ≤ 10000) : Int32.ofInt a + Int32.ofInt b = Int32.ofInt (a + b) := by
  have e1 := fb_ofI' (z := a) (by omega) (by omega)
  have e2 := fb_ofI' (z := b) (by omega) (by omega)
  have e3 := fb_ofI' (z := a + b) (by omega) (by omega)
  apply Int32.toInt_inj.mp
  rw [addI (by omega) (by omega), e1, e2, e3]
theorem zI_le {a b : Int} (ha : -10000 ≤ a ∧ a ≤ 10000) (hb : -10000 ≤ b ∧ b ≤ 10000) : (Int32.ofInt a ≤ Int32.ofInt b) = (a ≤ b) := by
  have e1 := fb_ofI' (z := a) (by omega) (by omega)
  have e2 := fb_ofI' (z := b) (by omega) (by omega)
  rw [Int32.le_iff_toInt_le, e1, e2]
theorem hld99 (v : Int32) : -99 ≤ (hld v (-99) 99).toInt ∧ (hld v (-99) 99).toInt ≤ 99 := by
  unfold hld
  have e1 : (-99 : Int32).toInt = -99 := by decide
  have e2 : (99 : Int32).toInt = 99 := by decide
  by_cases h1 : v < -99
  · rw [if_pos h1, e1]; omega
  · rw [if_neg h1]
    by_cases h2 : 99 < v
    · rw [if_pos h2, e2]; omega
    · rw [if_neg h2]
      rw [Int32.lt_iff_toInt_lt, e1] at h1
      rw [Int32.lt_iff_toInt_lt, e2] at h2
      omega
/-- how much an item is liked at a place -/
noncomputable def gv (X : Nat → Int32) (K : Nat → Nat) (i p : Nat) : Int32 := hld (valT 1 178 X (nI i) (nI p) (nI (K i)) (nI i * nI p)) (-99) 99
noncomputable def GV (X : Nat → Int32) (K : Nat → Nat) (i p : Nat) : Int := (gv X K i p).toInt
theorem GV_le (X : Nat → Int32) (K : Nat → Nat) (i p : Nat) : -99 ≤ GV X K i p ∧ GV X K i p ≤ 99 := hld99 _
theorem gv_of (X : Nat → Int32) (K : Nat → Nat) (i p : Nat) : gv X K i p = Int32.ofInt (GV X K i p) := (Int32.ofInt_toInt _).symm
noncomputable def gm (X : Nat → Int32) (K F : Nat → Nat) (n : Nat) : Nat → Nat → Int := fun j p => GV X K (memN F n j) p
theorem gm_le (X : Nat → Int32) (K F : Nat → Nat) (n j p : Nat) : -99 ≤ gm X K F n j p ∧ gm X K F n j p ≤ 99 := GV_le _ _ _ _
theorem BV_b (X : Nat → Int32) (K F : Nat → Nat) (n : Nat) {c k : Nat} (s : Nat) (hk : k ≤ 6) : -600 ≤ BV (gm X K F n) c k s ∧ BV (gm X K F n) c k s ≤ 600 := by
  have := BV_le (c := c) (gm_le X K F n) k s
  omega
/-- first loop: who is left -/
theorem l_members {n : Nat} {I0 : mx_I} {K M T F od : Nat → Nat} (hc : CI I0 n K M T F od) (h6 : cnN F n ≤ 6) (J : mx_J) (hz : I0 70 1 = 0) : ∃ I', (I' 70 1 = nI (cnN F n) ∧ (∀ j, j < cnN F n → I' 71 j = nI (memN F n j)) ∧ ∀ a j, a ≠ 71 → ¬ (a = 70 ∧ j = 1) → I' a j = I0 a j) ∧ ∀ P, mx_R k_Rows_askLikings (mx_Cal mx_tab 4) 9 [some (.ref 67), some (.ref 1), some (.int (nI n)), none, none] [] (mk I' J) P → mx_R k_Rows_askLikings (mx_Cal mx_tab 4) 9 [some (.ref 67), some (.ref 1), some (.int (nI 0)), none, none] [] (mk I0 J) P := by
  have h9 := hc.1
  have hn := hc.2.1
  obtain ⟨I', ⟨a1, a2, a3⟩, hP⟩ := lqx (cl := k_Rows_askLikings) (C := mx_Cal mx_tab 4) (pc := 9) (i0 := 0) (n := n) (fun i (_ : mx_I) => [some (.ref 67), some (.ref 1), some (.int (nI i)), none, none]) (fun I' => mk I' J) (fun i I' => I' 70 1 = nI (cnN F i) ∧ (∀ q, q < i → F q = 0 → I' 71 (cnN F q) = nI q) ∧ ∀ a j, a ≠ 71 → ¬ (a = 70 ∧ j = 1) → I' a j = I0 a j) (s0 := I0) (Nat.zero_le n) ⟨hz, fun q hq => absurd hq (Nat.not_lt_zero q), fun _ _ _ _ => rfl⟩ (fun i I' _ hi hQ => by
    obtain ⟨a1, a2, a3⟩ := hQ
    have hc' : CI I' n K M T F od := hc.congr (fun a j h => a3 a j (by omega) (by omega))
    have hn' := hc'.2.1
    by_cases hF : F i = 0
    · have hlt := cnN_lt hi hF
      have hap := q_ap70 (d := 0) I' J (show cnN F i < 6 by omega) a1 (nI i)
      refine ⟨mx_ups (mx_ups I' 71 (cnN F i) (nI i)) 70 1 (nI (cnN F i + 1)), ⟨by rw [cnN_t hF]; exact ups_same _ _ _ _, fun q hq hFq => ?_, fun a j h1 h2 => by rw [ups_ne _ _ (by omega), ups_ne _ _ (by omega)]; exact a3 a j h1 h2⟩, fun P ih => ?_⟩
      · rw [ups_ne _ _ (by omega)]
        by_cases hqi : q = i
        · subst hqi; exact ups_same _ _ _ _
        · have := cnN_lt (F := F) (show q < i by omega) hFq
          rw [ups_ne _ _ (by omega)]
          exact a2 q (by omega) hFq
      · rw [x_Rows_askLikings_9]
        simp (disch := omega) only [x_Rows_askLikings_10, x_Rows_askLikings_11, x_Rows_askLikings_14, x_Rows_askLikings_17, x_Rows_askLikings_20, x_Rows_askLikings_21, x_Rows_askLikings_24, x_Rows_askLikings_25, x_Rows_askLikings_28, x_Rows_askLikings_31, x_Rows_askLikings_32, x_Rows_askLikings_35, x_Rows_askLikings_36, x_Rows_askLikings_39, x_Rows_askLikings_42, mk_I, mk_J, mk_Q, mk_n, mk_sI, mk_sJ, Option.toList_some, Option.toList_none, List.cons_append, List.nil_append, true_and, and_true, ↓reduceIte, leT, leF, ltT, ltF, eqF, lt0F, le0T, le0F, eq0F, natT, nI_clamp, nI_1, if_true, if_false, not_true_eq_false, not_false_eq_true, z_00, z_10, eq_self, true_or, or_true, or_false, false_or, oc_67, oc_1, oc_2, rt_67_1, rt_67_2, rt_67_3, rt_67_4, rt_1_0, rt_1_5, rt_1_6, rt_1_7, rt_1_8, hn', mx_call (q_isL (d := 0) hc' J hi) _, hF, mx_call hap _, nI_1]
        exact ih
    · refine ⟨I', ⟨by rw [cnN_f hF]; exact a1, fun q hq hFq => a2 q (by
        rcases Nat.lt_or_ge q i with g | g
        · exact g
        · exact absurd (show F i = 0 by rw [show i = q by omega]; exact hFq) hF) hFq, a3⟩, fun P ih => ?_⟩
      rw [x_Rows_askLikings_9]
      simp (disch := omega) only [x_Rows_askLikings_10, x_Rows_askLikings_11, x_Rows_askLikings_14, x_Rows_askLikings_17, x_Rows_askLikings_20, x_Rows_askLikings_21, x_Rows_askLikings_24, x_Rows_askLikings_25, x_Rows_askLikings_28, x_Rows_askLikings_31, x_Rows_askLikings_32, x_Rows_askLikings_35, x_Rows_askLikings_36, x_Rows_askLikings_39, x_Rows_askLikings_42, mk_I, mk_J, mk_Q, mk_n, mk_sI, mk_sJ, Option.toList_some, Option.toList_none, List.cons_append, List.nil_append, true_and, and_true, ↓reduceIte, leT, leF, ltT, ltF, eqF, lt0F, le0T, le0F, eq0F, natT, nI_clamp, nI_1, if_true, if_false, not_true_eq_false, not_false_eq_true, z_00, z_10, eq_self, true_or, or_true, or_false, false_or, oc_67, oc_1, oc_2, rt_67_1, rt_67_2, rt_67_3, rt_67_4, rt_1_0, rt_1_5, rt_1_6, rt_1_7, rt_1_8, hn', mx_call (q_isL (d := 0) hc' J hi) _, hF, nI_1]
      exact ih)
  refine ⟨I', ⟨a1, fun j hj => ?_, a3⟩, hP⟩
  obtain ⟨m1, m2, m3⟩ := memN_ok hj
  have := a2 _ m1 m2
  rw [m3] at this
  exact this
/-- the liking of one of them at a place -/
theorem l_liking {n i p : Nat} {I : mx_I} {X : Nat → Int32} {K M T F od : Nat → Nat} (hc : CI I n K M T F od) (ht : TextR I 1 22 95 178) (hX : I 95 = X) (J : mx_J) (hi : i < n) : ∃ I', (∀ a j, ¬ (a = 25 ∧ j = 1) → a ≠ 26 → I' a j = I a j) ∧ mx_Cal mx_tab 3 64 [.ref 1, .int (nI i), .int (nI p), .int (nI (K i))] (mk I J) (some (.int (gv X K i p))) (mk I' J) := by
  subst hX
  exact q_likingBy I J ht (nI i) (nI p) (nI (K i))
def LkQ (I0 : mx_I) (X : Nat → Int32) (K F : Nat → Nat) (n c : Nat) (i p : Nat) (I' : mx_I) : Prop := (∀ i' p', i' < c → p' < c → (i' < i ∨ (i' = i ∧ p' < p)) → I' 73 (6 * i' + p') = gv X K (memN F n i') p') ∧ ∀ a j, ¬ (a = 25 ∧ j = 1) → a ≠ 26 → a ≠ 73 → I' a j = I0 a j
theorem q_ask {n : Nat} {I : mx_I} {K M T F od : Nat → Nat} (hc : CI I n K M T F od) (ht : TextR I 1 22 95 178) (h6 : cnN F n ≤ 6) (J : mx_J) : ∃ I', (I' 70 1 = nI (cnN F n) ∧ (∀ j, j < cnN F n → I' 71 j = nI (memN F n j)) ∧ (∀ j p, j < cnN F n → p < cnN F n → I' 73 (6 * j + p) = Int32.ofInt (gm (I 95) K F n j p)) ∧ ∀ a j, ¬ (a = 25 ∧ j = 1) → a ≠ 26 → a ≠ 73 → a ≠ 71 → ¬ (a = 70 ∧ j = 1) → I' a j = I a j) ∧ mx_Cal mx_tab 5 75 [.ref 67, .ref 1] (mk I J) none (mk I' J) := by
  have h9 := hc.1
  have hcl := q_Line_clear (d := 0) L70 I J
  have hc0 : CI (mx_ups I 70 1 0) n K M T F od := hc.congr (fun a j h => ups_ne _ _ (by omega))
  obtain ⟨I1, ⟨a1, a2, a3⟩, hP1⟩ := l_members hc0 h6 J (ups_same _ _ _ _)
  have f1 : ∀ a j, a ≠ 71 → ¬ (a = 70 ∧ j = 1) → I1 a j = I a j := fun a j h1 h2 => (a3 a j h1 h2).trans (ups_ne _ _ (by omega))
  obtain ⟨⟨I2, w3, w4⟩, hQ, hP2⟩ := lqx (cl := k_Rows_askLikings) (C := mx_Cal mx_tab 4) (pc := 47) (i0 := 0) (n := cnN F n) (fun i (s : mx_I × Option Value × Option Value) => [some (.ref 67), some (.ref 1), some (.int (nI i)), s.2.1, s.2.2]) (fun s => mk s.1 J) (fun i s => LkQ I1 (I 95) K F n (cnN F n) i 0 s.1) (s0 := (I1, none, none)) (Nat.zero_le _) ⟨fun i' p' _ _ h => by omega, fun _ _ _ _ _ => rfl⟩ (fun i s _ hi hQ => by
    obtain ⟨⟨I3, w5⟩, hQ3, hP3⟩ := lqx (cl := k_Rows_askLikings) (C := mx_Cal mx_tab 4) (pc := 60) (i0 := 0) (n := cnN F n) (fun p (t : mx_I × Option Value) => [some (.ref 67), some (.ref 1), some (.int (nI i)), some (.int (nI p)), t.2]) (fun t => mk t.1 J) (fun p t => LkQ I1 (I 95) K F n (cnN F n) i p t.1) (s0 := (s.1, s.2.2)) (Nat.zero_le _) hQ (fun p t _ hp hQt => by
      obtain ⟨q1, q2⟩ := hQt
      obtain ⟨m1, m2, m3⟩ := memN_ok hi
      have g1 : ∀ a j, a ≠ 71 → ¬ (a = 70 ∧ j = 1) → ¬ (a = 25 ∧ j = 1) → a ≠ 26 → a ≠ 73 → t.1 a j = I a j := fun a j h1 h2 h3 h4 h5 => (q2 a j h3 h4 h5).trans (f1 a j h1 h2)
      have hct : CI t.1 n K M T F od := hc.congr (fun a j h => g1 a j (by omega) (by omega) (by omega) (by omega) (by omega))
      have htt : TextR t.1 1 22 95 178 := ht.congr2 (fun a j h1 h2 => g1 a j (by omega) (by omega) (by omega) (by omega) (by omega)) (fun j h1 h2 => g1 95 j (by omega) (by omega) (by omega) (by omega) (by omega))
      have hXt : t.1 95 = I 95 := funext fun j => g1 95 j (by omega) (by omega) (by omega) (by omega) (by omega)
      have c70 : t.1 70 1 = nI (cnN F n) := (q2 70 1 (by omega) (by omega) (by omega)).trans a1
      have c71 : at_ t.1 70 (nI i) = nI (memN F n i) := by
        rw [at70 _ (by omega)]
        exact (q2 71 i (by omega) (by omega) (by omega)).trans (a2 i hi)
      have ck : at_ t.1 3 (nI (memN F n i)) = nI (K (memN F n i)) := by
        rw [at3 _ (by omega)]
        exact (hct.2.2 _ m1).2.2.2.2.2.1
      obtain ⟨I4, u1, u2⟩ := l_liking (p := p) hct htt hXt J m1
      have hst := q_st72 (d := 0) I4 J (show 6 * i + p < 36 by omega) (gv (I 95) K (memN F n i) p)
      refine ⟨(mx_ups I4 73 (6 * i + p) (gv (I 95) K (memN F n i) p), some (.int (nI (memN F n i)))), ⟨fun i' p' h1 h2 h3 => ?_, fun a j h1 h2 h3 => by dsimp only; rw [ups_ne _ _ (by omega), u1 a j h1 h2]; exact q2 a j h1 h2 h3⟩, fun P ih => ?_⟩
      · dsimp only
        by_cases hh : i' = i ∧ p' = p
        · obtain ⟨rfl, rfl⟩ := hh
          exact ups_same _ _ _ _
        · rw [ups_ne _ _ (by omega), u1 _ _ (by omega) (by omega)]
          exact q1 i' p' h1 h2 (by omega)
      · have e6 : nI i * 6 + nI p = nI (6 * i + p) := by
          show nI i * nI 6 + nI p = _
          rw [pk_mul, nI_add, Nat.mul_comm]
        show mx_R k_Rows_askLikings (mx_Cal mx_tab 4) 60 [some (.ref 67), some (.ref 1), some (.int (nI i)), some (.int (nI p)), t.2] [] (mk t.1 J) P
        rw [x_Rows_askLikings_60]
        simp (disch := omega) only [x_Rows_askLikings_61, x_Rows_askLikings_62, x_Rows_askLikings_65, x_Rows_askLikings_68, x_Rows_askLikings_71, x_Rows_askLikings_72, x_Rows_askLikings_75, x_Rows_askLikings_76, x_Rows_askLikings_79, x_Rows_askLikings_81, x_Rows_askLikings_82, x_Rows_askLikings_85, x_Rows_askLikings_86, x_Rows_askLikings_88, x_Rows_askLikings_89, x_Rows_askLikings_90, x_Rows_askLikings_91, x_Rows_askLikings_92, x_Rows_askLikings_94, x_Rows_askLikings_95, x_Rows_askLikings_96, x_Rows_askLikings_99, x_Rows_askLikings_102, x_Rows_askLikings_104, x_Rows_askLikings_107, x_Rows_askLikings_110, x_Rows_askLikings_113, x_Rows_askLikings_116, mk_I, mk_J, mk_Q, mk_n, mk_sI, mk_sJ, Option.toList_some, Option.toList_none, List.cons_append, List.nil_append, true_and, and_true, ↓reduceIte, leT, leF, ltT, ltF, eqF, lt0F, le0T, le0F, eq0F, natT, nI_clamp, nI_1, if_true, if_false, not_true_eq_false, not_false_eq_true, z_00, z_10, eq_self, true_or, or_true, or_false, false_or, oc_67, oc_1, oc_2, oc_70, rt_67_1, rt_67_2, rt_67_3, rt_67_4, rt_1_0, rt_1_5, rt_1_6, rt_1_7, rt_1_8, rt_2_1, rt_2_2, rt_2_3, rt_2_4, rt_2_5, c70, mx_call (q_Line_at (d := 0) L70 _ _ _) _, c71, mx_call (q_Line_at (d := 0) L3 _ _ _) _, ck, mx_call u2 _, e6, mx_call hst _, nI_1]
        exact ih)
    refine ⟨(I3, some (.int (nI (cnN F n))), w5), ⟨fun i' p' h1 h2 h3 => hQ3.1 i' p' h1 h2 (by omega), hQ3.2⟩, fun P ih => ?_⟩
    have d70 : ∀ I4 : mx_I, LkQ I1 (I 95) K F n (cnN F n) i 0 I4 ∨ LkQ I1 (I 95) K F n (cnN F n) i (cnN F n) I4 → I4 70 1 = nI (cnN F n) := fun I4 h => by
      rcases h with h | h <;> exact (h.2 70 1 (by omega) (by omega) (by omega)).trans a1
    have c70 := d70 s.1 (Or.inl hQ)
    have c70' := d70 I3 (Or.inr hQ3)
    show mx_R k_Rows_askLikings (mx_Cal mx_tab 4) 47 [some (.ref 67), some (.ref 1), some (.int (nI i)), s.2.1, s.2.2] [] (mk s.1 J) P
    rw [x_Rows_askLikings_47]
    simp (disch := omega) only [x_Rows_askLikings_48, x_Rows_askLikings_49, x_Rows_askLikings_52, x_Rows_askLikings_55, x_Rows_askLikings_58, x_Rows_askLikings_59, mk_I, mk_J, mk_Q, mk_n, mk_sI, mk_sJ, Option.toList_some, Option.toList_none, List.cons_append, List.nil_append, true_and, and_true, ↓reduceIte, leT, leF, ltT, ltF, eqF, lt0F, le0T, le0F, eq0F, natT, nI_clamp, nI_1, if_true, if_false, not_true_eq_false, not_false_eq_true, z_00, z_10, eq_self, true_or, or_true, or_false, false_or, oc_67, oc_70, rt_67_1, rt_67_2, rt_67_3, rt_67_4, c70]
    refine hP3 P ?_
    show mx_R k_Rows_askLikings (mx_Cal mx_tab 4) 60 [some (.ref 67), some (.ref 1), some (.int (nI i)), some (.int (nI (cnN F n))), w5] [] (mk I3 J) P
    rw [x_Rows_askLikings_60]
    simp (disch := omega) only [x_Rows_askLikings_61, x_Rows_askLikings_62, x_Rows_askLikings_65, x_Rows_askLikings_68, x_Rows_askLikings_119, x_Rows_askLikings_122, mk_I, mk_J, mk_Q, mk_n, mk_sI, mk_sJ, Option.toList_some, Option.toList_none, List.cons_append, List.nil_append, true_and, and_true, ↓reduceIte, leT, leF, ltT, ltF, eqF, lt0F, le0T, le0F, eq0F, natT, nI_clamp, nI_1, if_true, if_false, not_true_eq_false, not_false_eq_true, z_00, z_10, eq_self, true_or, or_true, or_false, false_or, oc_67, oc_70, rt_67_1, rt_67_2, rt_67_3, rt_67_4, c70', nI_1]
    exact ih)
  obtain ⟨q1, q2⟩ := hQ
  have c70 : I2 70 1 = nI (cnN F n) := (q2 70 1 (by omega) (by omega) (by omega)).trans a1
  refine ⟨I2, ⟨c70, fun j hj => (q2 71 j (by omega) (by omega) (by omega)).trans (a2 j hj), fun j p hj hp => ?_, fun a j h1 h2 h3 h4 h5 => (q2 a j h1 h2 h3).trans (f1 a j h4 h5)⟩, ?_⟩
  · exact (q1 j p hj hp (Or.inl hj)).trans (gv_of _ _ _ _)
  · have hn1 : I1 2 0 = nI n := (f1 2 0 (by omega) (by omega)).trans hc.2.1
    refine mx_Cal_in (ls := [some (.ref 67), some (.ref 1), none, none, none]) tab_75 (by rw [mx_rcv, oc_67]; trivial) (Nat.le_of_ble_eq_true rfl) rfl ?_
    simp (disch := omega) only [x_Rows_askLikings_0, x_Rows_askLikings_1, x_Rows_askLikings_4, x_Rows_askLikings_7, x_Rows_askLikings_8, mk_I, mk_J, mk_Q, mk_n, mk_sI, mk_sJ, Option.toList_some, Option.toList_none, List.cons_append, List.nil_append, true_and, and_true, oc_67, rt_67_1, rt_67_2, rt_67_3, rt_67_4, mx_call hcl _]
    refine hP1 _ ?_
    rw [x_Rows_askLikings_9]
    simp (disch := omega) only [x_Rows_askLikings_10, x_Rows_askLikings_11, x_Rows_askLikings_14, x_Rows_askLikings_17, x_Rows_askLikings_45, x_Rows_askLikings_46, mk_I, mk_J, mk_Q, mk_n, mk_sI, mk_sJ, Option.toList_some, Option.toList_none, List.cons_append, List.nil_append, true_and, and_true, ↓reduceIte, leT, leF, ltT, ltF, eqF, lt0F, le0T, le0F, eq0F, natT, nI_clamp, nI_1, if_true, if_false, not_true_eq_false, not_false_eq_true, z_00, z_10, eq_self, true_or, or_true, or_false, false_or, oc_67, oc_1, oc_2, rt_67_1, rt_67_2, rt_67_3, rt_67_4, rt_1_0, rt_1_5, rt_1_6, rt_1_7, rt_1_8, hn1]
    refine hP2 _ ?_
    show mx_R k_Rows_askLikings (mx_Cal mx_tab 4) 47 [some (.ref 67), some (.ref 1), some (.int (nI (cnN F n))), w3, w4] [] (mk I2 J) _
    rw [x_Rows_askLikings_47]
    simp (disch := omega) only [x_Rows_askLikings_48, x_Rows_askLikings_49, x_Rows_askLikings_52, x_Rows_askLikings_55, x_Rows_askLikings_125, mk_I, mk_J, mk_Q, mk_n, mk_sI, mk_sJ, Option.toList_some, Option.toList_none, List.cons_append, List.nil_append, true_and, and_true, ↓reduceIte, leT, leF, ltT, ltF, eqF, lt0F, le0T, le0F, eq0F, natT, nI_clamp, nI_1, if_true, if_false, not_true_eq_false, not_false_eq_true, z_00, z_10, eq_self, true_or, or_true, or_false, false_or, oc_67, oc_70, rt_67_1, rt_67_2, rt_67_3, rt_67_4, c70]
/-- what stands after that: s's best ways stand below -/
def RwQ (g : Nat → Nat → Int) (mem : Nat → Nat) (c : Nat) (I : mx_I) : Prop := c ≤ 6 ∧ I 70 1 = nI c ∧ (∀ j, j < c → I 71 j = nI (mem j)) ∧ (∀ j p, j < c → p < c → I 73 (6 * j + p) = Int32.ofInt (g j p)) ∧ ∀ j p, -99 ≤ g j p ∧ g j p ≤ 99
theorem RwQ.congr {g : Nat → Nat → Int} {mem : Nat → Nat} {c : Nat} {I I' : mx_I} (h : RwQ g mem c I) (e : ∀ a j, a = 70 ∨ a = 71 ∨ a = 73 → I' a j = I a j) : RwQ g mem c I' := by
  obtain ⟨h1, h2, h3, h4, h5⟩ := h
  exact ⟨h1, (e 70 1 (by omega)).trans h2, fun j hj => (e 71 j (by omega)).trans (h3 j hj), fun j p hj hp => (e 73 _ (by omega)).trans (h4 j p hj hp), h5⟩
theorem sh_c : ∀ i, i < 6 → ((1 : Int32) <<< (nI i &&& 31)) = nI (2 ^ i) := by decide +kernel
theorem q_withNext {d c k s j : Nat} {g : Nat → Nat → Int} {mem : Nat → Nat} {I : mx_I} (hR : RwQ g mem c I) (J : mx_J) (hs : s < 2 ^ c) (hk : pcN s = k + 1) (hj : j < c) (hb : s.testBit j = true) (h75 : ∀ t, t < s → I 75 t = Int32.ofInt (BV g c (pcN t) t)) : mx_Cal mx_tab (d + 2) 77 [.ref 67, .int (nI s), .int (nI j)] (mk I J) (some (.int (Int32.ofInt (g j (c - (k + 1)) + BV g c k (s - 2 ^ j))))) (mk I J) := by
  obtain ⟨h6, r1, r2, r3, r4⟩ := hR
  have h64 := p64 h6
  obtain ⟨z1, z2, z3, z4⟩ := s64 s (by omega) j (by omega) hb
  have p5 := p512 j (by omega)
  have e6 : nI j * 6 + nI (c - (k + 1)) = nI (6 * j + (c - (k + 1))) := by
    show nI j * nI 6 + _ = _
    rw [pk_mul, nI_add, Nat.mul_comm]
  have e72 : at_ I 72 (nI (6 * j + (c - (k + 1)))) = Int32.ofInt (g j (c - (k + 1))) := by
    rw [at72 _ (by omega)]
    exact r3 j _ hj (by omega)
  have e74 : at_ I 74 (nI (s - 2 ^ j)) = Int32.ofInt (BV g c k (s - 2 ^ j)) := by
    rw [at74 _ (by omega), h75 _ z2, show pcN (s - 2 ^ j) = k by omega]
  have hkc : pcN s ≤ c := by
    have : ∀ c, c ≤ 6 → ∀ s, s < 2 ^ c → pcN s ≤ c := by decide +kernel
    exact this c h6 s hs
  have hb2 := BV_le (c := c) r4 k (s - 2 ^ j)
  have hb3 := r4 j (c - (k + 1))
  have es : nI s &&& (nI (2 ^ j) ^^^ -1) = nI (s - 2 ^ j) := by rw [andn (by omega) p5, z3]
  have hsub : nI c - nI (pcN s) = nI (c - (k + 1)) := by rw [pk_sub hkc, hk]
  refine mx_Cal_in (ls := [some (.ref 67), some (.int (nI s)), some (.int (nI j)), none]) tab_77 (by rw [mx_rcv, oc_67]; trivial) (Nat.le_of_ble_eq_true rfl) rfl ?_
  simp (disch := omega) only [x_Rows_withNext_0, x_Rows_withNext_1, x_Rows_withNext_4, x_Rows_withNext_7, x_Rows_withNext_8, x_Rows_withNext_11, x_Rows_withNext_12, x_Rows_withNext_13, x_Rows_withNext_14, x_Rows_withNext_17, x_Rows_withNext_18, x_Rows_withNext_20, x_Rows_withNext_21, x_Rows_withNext_22, x_Rows_withNext_23, x_Rows_withNext_26, x_Rows_withNext_27, x_Rows_withNext_30, x_Rows_withNext_31, x_Rows_withNext_32, x_Rows_withNext_33, x_Rows_withNext_34, x_Rows_withNext_35, x_Rows_withNext_36, x_Rows_withNext_37, x_Rows_withNext_40, x_Rows_withNext_41, mk_I, mk_J, mk_Q, mk_n, mk_sI, mk_sJ, Option.toList_some, Option.toList_none, List.cons_append, List.nil_append, true_and, and_true, oc_67, oc_70, rt_67_1, rt_67_2, rt_67_3, rt_67_4, r1, mx_call (q_bitCount (d := 0) _ (show s < 512 by omega)) _, hsub, e6, mx_call (q_Line_at (d := 0) L72 _ _ _) _, e72, sh_c, es, mx_call (q_Line_at (d := 0) L74 _ _ _) _, e74, zI_add]
def axI (o : Option (Nat × Int)) : Int32 := match o with
  | none => -1
  | some p => nI p.1
theorem and_pow1 {s j : Nat} (hs : s < 512) (hj : j < 9) : (nI s &&& nI (2 ^ j) = 0) = (s.testBit j = false) := and_pow0 hs hj
theorem m1_lt0 : ((-1 : Int32) < 0) = True := by decide
theorem q_bestNext {d c k s : Nat} {g : Nat → Nat → Int} {mem : Nat → Nat} {I : mx_I} (hR : RwQ g mem c I) (J : mx_J) (hs : s < 2 ^ c) (hk : pcN s = k + 1) (h75 : ∀ t, t < s → I 75 t = Int32.ofInt (BV g c (pcN t) t)) : mx_Cal mx_tab (d + 3) 76 [.ref 67, .int (nI s)] (mk I J) (some (.int (nI (BN g c k s)))) (mk I J) := by
  have hR0 := hR
  obtain ⟨h6, r1, r2, r3, r4⟩ := hR0
  have h64 := p64 h6
  have hkc : k ≤ 6 := by
    have : ∀ s, s < 64 → pcN s ≤ 6 := by decide +kernel
    have := this s (by omega)
    omega
  obtain ⟨p, p1, p2, p3, p4⟩ := BN_ok (g := g) h6 hs hk
  refine mx_Cal_in (ls := [some (.ref 67), some (.int (nI s)), none, none]) tab_76 (by rw [mx_rcv, oc_67]; trivial) (Nat.le_of_ble_eq_true rfl) rfl ?_
  simp only [x_Rows_bestNext_0, x_Rows_bestNext_1, x_Rows_bestNext_2, x_Rows_bestNext_3]
  refine lq (i0 := 0) (n := c) (fun j => [some (.ref 67), some (.int (nI s)), some (.int (axI (amx (fK g c k s) j))), some (.int (nI j))]) (fun _ => mk I J) (Nat.zero_le c) rfl rfl (fun j _ hj ih => ?_) ?_
  · have p5 := p512 j (by omega)
    have hand := and_pow1 (s := s) (j := j) (by omega) (by omega)
    rw [x_Rows_bestNext_4]
    by_cases hb : s.testBit j = true
    · have ef := fK_t (g := g) (c := c) (k := k) hb
      have hz : (nI s &&& nI (2 ^ j) = 0) = False := by rw [hand, hb]; simp
      have hw := q_withNext (d := 0) hR J hs hk hj hb h75
      cases ha : amx (fK g c k s) j with
      | none =>
        rw [amx_s0 ef ha] at ih
        simp (disch := omega) only [x_Rows_bestNext_5, x_Rows_bestNext_6, x_Rows_bestNext_9, x_Rows_bestNext_12, x_Rows_bestNext_15, x_Rows_bestNext_16, x_Rows_bestNext_17, x_Rows_bestNext_18, x_Rows_bestNext_19, x_Rows_bestNext_20, x_Rows_bestNext_23, x_Rows_bestNext_24, x_Rows_bestNext_27, x_Rows_bestNext_28, x_Rows_bestNext_29, x_Rows_bestNext_30, x_Rows_bestNext_33, x_Rows_bestNext_34, x_Rows_bestNext_35, x_Rows_bestNext_36, x_Rows_bestNext_39, x_Rows_bestNext_42, x_Rows_bestNext_43, x_Rows_bestNext_44, x_Rows_bestNext_47, mk_I, mk_J, mk_Q, mk_n, mk_sI, mk_sJ, Option.toList_some, Option.toList_none, List.cons_append, List.nil_append, true_and, and_true, ↓reduceIte, leT, leF, ltT, ltF, eqF, lt0F, le0T, le0F, eq0F, natT, nI_clamp, nI_1, if_true, if_false, not_true_eq_false, not_false_eq_true, z_00, z_10, eq_self, true_or, or_true, or_false, false_or, oc_67, oc_70, rt_67_1, rt_67_2, rt_67_3, rt_67_4, r1, sh_c, hz, axI, m1_lt0, nI_1] at ih ⊢
        exact ih
      | some q =>
        obtain ⟨q1, q2⟩ := amx_mem ha
        have hbq : s.testBit q.1 = true := Classical.byContradiction fun h => by
          rw [fK_f h] at q2
          exact absurd q2 (by simp)
        have hw2 := q_withNext (d := 0) hR J hs hk (show q.1 < c by omega) hbq h75
        rw [fK_t hbq] at q2
        have q3 := Option.some.inj q2
        rw [q3] at hw2
        rw [amx_s1 ef ha] at ih
        have b1 := BV_le (c := c) r4 k (s - 2 ^ j)
        have b2 := r4 j (c - (k + 1))
        have b3 := BV_le (c := c) r4 k (s - 2 ^ q.1)
        have b4 := r4 q.1 (c - (k + 1))
        have hle := zI_le (a := g j (c - (k + 1)) + BV g c k (s - 2 ^ j)) (b := q.2) (by omega) (by omega)
        by_cases hq : q.2 < g j (c - (k + 1)) + BV g c k (s - 2 ^ j)
        · have hle' : (g j (c - (k + 1)) + BV g c k (s - 2 ^ j) ≤ q.2) = False := eq_false (by omega)
          rw [if_pos hq] at ih
          simp (disch := omega) only [x_Rows_bestNext_5, x_Rows_bestNext_6, x_Rows_bestNext_9, x_Rows_bestNext_12, x_Rows_bestNext_15, x_Rows_bestNext_16, x_Rows_bestNext_17, x_Rows_bestNext_18, x_Rows_bestNext_19, x_Rows_bestNext_20, x_Rows_bestNext_23, x_Rows_bestNext_24, x_Rows_bestNext_27, x_Rows_bestNext_28, x_Rows_bestNext_29, x_Rows_bestNext_30, x_Rows_bestNext_33, x_Rows_bestNext_34, x_Rows_bestNext_35, x_Rows_bestNext_36, x_Rows_bestNext_39, x_Rows_bestNext_42, x_Rows_bestNext_43, x_Rows_bestNext_44, x_Rows_bestNext_47, mk_I, mk_J, mk_Q, mk_n, mk_sI, mk_sJ, Option.toList_some, Option.toList_none, List.cons_append, List.nil_append, true_and, and_true, ↓reduceIte, leT, leF, ltT, ltF, eqF, lt0F, le0T, le0F, eq0F, natT, nI_clamp, nI_1, if_true, if_false, not_true_eq_false, not_false_eq_true, z_00, z_10, eq_self, true_or, or_true, or_false, false_or, oc_67, oc_70, rt_67_1, rt_67_2, rt_67_3, rt_67_4, r1, sh_c, hz, axI, mx_call hw _, mx_call hw2 _, hle, hle', nI_1] at ih ⊢
          exact ih
        · have hle' : (g j (c - (k + 1)) + BV g c k (s - 2 ^ j) ≤ q.2) = True := eq_true (by omega)
          rw [if_neg hq] at ih
          simp (disch := omega) only [x_Rows_bestNext_5, x_Rows_bestNext_6, x_Rows_bestNext_9, x_Rows_bestNext_12, x_Rows_bestNext_15, x_Rows_bestNext_16, x_Rows_bestNext_17, x_Rows_bestNext_18, x_Rows_bestNext_19, x_Rows_bestNext_20, x_Rows_bestNext_23, x_Rows_bestNext_24, x_Rows_bestNext_27, x_Rows_bestNext_28, x_Rows_bestNext_29, x_Rows_bestNext_30, x_Rows_bestNext_33, x_Rows_bestNext_34, x_Rows_bestNext_35, x_Rows_bestNext_36, x_Rows_bestNext_39, x_Rows_bestNext_42, x_Rows_bestNext_43, x_Rows_bestNext_44, x_Rows_bestNext_47, mk_I, mk_J, mk_Q, mk_n, mk_sI, mk_sJ, Option.toList_some, Option.toList_none, List.cons_append, List.nil_append, true_and, and_true, ↓reduceIte, leT, leF, ltT, ltF, eqF, lt0F, le0T, le0F, eq0F, natT, nI_clamp, nI_1, if_true, if_false, not_true_eq_false, not_false_eq_true, z_00, z_10, eq_self, true_or, or_true, or_false, false_or, oc_67, oc_70, rt_67_1, rt_67_2, rt_67_3, rt_67_4, r1, sh_c, hz, axI, mx_call hw _, mx_call hw2 _, hle, hle', nI_1] at ih ⊢
          exact ih
    · have ef := fK_f (g := g) (c := c) (k := k) hb
      have hz : (nI s &&& nI (2 ^ j) = 0) = True := by rw [hand]; simpa using hb
      rw [amx_n ef] at ih
      simp (disch := omega) only [x_Rows_bestNext_5, x_Rows_bestNext_6, x_Rows_bestNext_9, x_Rows_bestNext_12, x_Rows_bestNext_15, x_Rows_bestNext_16, x_Rows_bestNext_17, x_Rows_bestNext_18, x_Rows_bestNext_19, x_Rows_bestNext_20, x_Rows_bestNext_23, x_Rows_bestNext_24, x_Rows_bestNext_27, x_Rows_bestNext_28, x_Rows_bestNext_29, x_Rows_bestNext_30, x_Rows_bestNext_33, x_Rows_bestNext_34, x_Rows_bestNext_35, x_Rows_bestNext_36, x_Rows_bestNext_39, x_Rows_bestNext_42, x_Rows_bestNext_43, x_Rows_bestNext_44, x_Rows_bestNext_47, mk_I, mk_J, mk_Q, mk_n, mk_sI, mk_sJ, Option.toList_some, Option.toList_none, List.cons_append, List.nil_append, true_and, and_true, ↓reduceIte, leT, leF, ltT, ltF, eqF, lt0F, le0T, le0F, eq0F, natT, nI_clamp, nI_1, if_true, if_false, not_true_eq_false, not_false_eq_true, z_00, z_10, eq_self, true_or, or_true, or_false, false_or, oc_67, oc_70, rt_67_1, rt_67_2, rt_67_3, rt_67_4, r1, sh_c, hz, nI_1]
      exact ih
  · rw [BN_some p1, x_Rows_bestNext_4, p1]
    simp (disch := omega) only [x_Rows_bestNext_5, x_Rows_bestNext_6, x_Rows_bestNext_9, x_Rows_bestNext_12, x_Rows_bestNext_50, x_Rows_bestNext_51, mk_I, mk_J, mk_Q, mk_n, mk_sI, mk_sJ, Option.toList_some, Option.toList_none, List.cons_append, List.nil_append, true_and, and_true, ↓reduceIte, leT, leF, ltT, ltF, eqF, lt0F, le0T, le0F, eq0F, natT, nI_clamp, nI_1, if_true, if_false, not_true_eq_false, not_false_eq_true, z_00, z_10, eq_self, true_or, or_true, or_false, false_or, oc_67, oc_70, rt_67_1, rt_67_2, rt_67_3, rt_67_4, r1, axI]
