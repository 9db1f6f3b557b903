/-! odds: how many ways -/
def lvN (K F : Nat → Nat) (q : Nat) : Bool := decide (F q = 0) && (decide (K q = 3) || decide (K q = 6))
theorem lvN_t {K F : Nat → Nat} {q : Nat} (h1 : F q = 0) (h2 : K q = 3 ∨ K q = 6) : lvN K F q = true := by
  unfold lvN
  rcases h2 with h2 | h2 <;> simp [h1, h2]
theorem lvN_f {K F : Nat → Nat} {q : Nat} (h : ¬ (F q = 0 ∧ (K q = 3 ∨ K q = 6))) : lvN K F q = false := by
  unfold lvN
  by_cases h1 : F q = 0
  · have h2 : ¬ (K q = 3 ∨ K q = 6) := fun z => h ⟨h1, z⟩
    by_cases h3 : K q = 3
    · exact absurd (Or.inl h3) h2
    · by_cases h4 : K q = 6
      · exact absurd (Or.inr h4) h2
      · simp [h3, h4]
  · simp [h1]
def wayS (m : Nat) (W : Nat → Nat) (i : Nat) : Nat := sN (fun y => W (i - y)) (if m < i then m + 1 else i + 1)
def wayN (K M F : Nat → Nat) : Nat → Nat → Nat
  | 0 => fun i => if i = 0 then 1 else 0
  | q + 1 => if lvN K F q = true then wayS (M q) (wayN K M F q) else wayN K M F q
def allN (K M F : Nat → Nat) : Nat → Nat
  | 0 => 1
  | q + 1 => if lvN K F q = true then allN K M F q * (M q + 1) else allN K M F q
theorem wayN_t {K M F : Nat → Nat} {q : Nat} (h : lvN K F q = true) : wayN K M F (q + 1) = wayS (M q) (wayN K M F q) := if_pos h
theorem wayN_f {K M F : Nat → Nat} {q : Nat} (h : lvN K F q = false) : wayN K M F (q + 1) = wayN K M F q := if_neg (by rw [h]; decide)
theorem allN_t {K M F : Nat → Nat} {q : Nat} (h : lvN K F q = true) : allN K M F (q + 1) = allN K M F q * (M q + 1) := if_pos h
theorem allN_f {K M F : Nat → Nat} {q : Nat} (h : lvN K F q = false) : allN K M F (q + 1) = allN K M F q := if_neg (by rw [h]; decide)
theorem wayN_le {K M F : Nat → Nat} {n : Nat} (hM : ∀ i, i < n → M i < 10) : ∀ q, q ≤ n → ∀ i, wayN K M F q i ≤ 10 ^ q
  | 0, _, i => by
    show (if i = 0 then 1 else 0) ≤ 10 ^ 0
    split <;> omega
  | q + 1, hq, i => by
    have ih := wayN_le (K := K) (F := F) hM q (by omega)
    have hm := hM q (by omega)
    have hp : 10 ^ (q + 1) = 10 ^ q * 10 := Nat.pow_succ ..
    have ihi := ih i
    by_cases h : lvN K F q = true
    · rw [wayN_t h]
      unfold wayS
      have e := sN_le (f := fun y => wayN K M F q (i - y)) (b := 10 ^ q) (n := if M q < i then M q + 1 else i + 1) (fun y _ => ih _)
      have l : (if M q < i then M q + 1 else i + 1) ≤ 10 := by split <;> omega
      have e2 := Nat.mul_le_mul_right (10 ^ q) l
      omega
    · rw [wayN_f (by simpa using h)]
      omega
theorem allN_le {K M F : Nat → Nat} {n : Nat} (hM : ∀ i, i < n → M i < 10) : ∀ q, q ≤ n → 1 ≤ allN K M F q ∧ allN K M F q ≤ 10 ^ q
  | 0, _ => ⟨Nat.le_refl 1, Nat.le_refl 1⟩
  | q + 1, hq => by
    obtain ⟨i1, i2⟩ := allN_le (K := K) (F := F) hM q (by omega)
    have hm := hM q (by omega)
    have hp : 10 ^ (q + 1) = 10 ^ q * 10 := Nat.pow_succ ..
    by_cases h : lvN K F q = true
    · rw [allN_t h, hp]
      refine ⟨?_, Nat.mul_le_mul i2 (by omega)⟩
      have := Nat.mul_le_mul i1 (show 1 ≤ M q + 1 by omega)
      omega
    · rw [allN_f (by simpa using h)]
      omega
theorem p10 {n : Nat} (h9 : n ≤ 9) : 10 ^ n ≤ 1000000000 := Nat.le_trans (Nat.pow_le_pow_right (by decide) h9) (by decide)
theorem sub_sub' (x p q : Int32) : x - p - q = x - (p + q) := by
  rw [Int32.sub_eq_add_neg, Int32.sub_eq_add_neg, Int32.sub_eq_add_neg, Int32.neg_add, Int32.add_assoc, Int32.sub_eq_add_neg]
theorem add_m1 (x : Int32) : x + (-1) = x - 1 := (Int32.sub_eq_add_neg x 1).symm
theorem lc_eq {b : Nat} (hb : b < 2 ^ 63) : (lg_cmp (lN b) 0 = 0) = (b = 0) := propext ((lg_cmp_eq _ _).trans (pk_lEQ (b := 0) hb (by omega)))
theorem lc_le {b : Nat} (hb : b < 2 ^ 63) : (lg_cmp (lN b) 1 ≤ 0) = (b ≤ 1) := propext ((lg_cmp_le _ _).trans (pk_lLE (b := 1) hb (by omega)))
theorem l_ne0 {b : Nat} (h0 : 0 < b) (hb : b < 2 ^ 63) : (lN b = 0) = False := eq_false (fun q => by
  have := (pk_lEQ (b := 0) hb (by omega)).mp q
  omega)
theorem q_clearWays {d : Nat} (I : mx_I) (J : mx_J) : ∃ J', (∀ j, j < 82 → J' 77 j = lN (if j = 0 then 1 else 0)) ∧ (∀ j, J' 76 j = J 76 j) ∧ mx_Cal mx_tab (d + 1) 81 [.ref 76] (mk I J) none (mk I J') := by
  obtain ⟨J', ⟨hQ1, hQ2⟩, hP⟩ := lqx (cl := k_Odds_clearWays) (C := mx_Cal mx_tab d) (pc := 2) (i0 := 0) (n := 82) (fun i (_ : mx_J) => [some (.ref 76), some (.int (nI i))]) (fun J' => mk I J') (fun i J' => (∀ j, j < i → J' 77 j = lN (if j = 0 then 1 else 0)) ∧ ∀ j, J' 76 j = J 76 j) (s0 := J) (Nat.zero_le _) ⟨fun j hj => absurd hj (Nat.not_lt_zero j), fun _ => rfl⟩ (fun i J' _ hi hQ => by
    obtain ⟨h1, h2⟩ := hQ
    refine ⟨mx_ups J' 77 i (lN (if i = 0 then 1 else 0)), ⟨fun j hj => ?_, fun j => by rw [ups_ne _ _ (by omega)]; exact h2 j⟩, fun P ih => ?_⟩
    · by_cases q : j = i
      · subst q; exact ups_same _ _ _ _
      · rw [ups_ne _ _ (by omega)]; exact h1 j (by omega)
    · rw [x_Odds_clearWays_2]
      by_cases q : i = 0
      · have q' : (i = 0) = True := eq_true q
        have q2 : (nI i = 0) = True := by rw [q]; exact eq_true rfl
        simp (disch := omega) only [x_Odds_clearWays_0, x_Odds_clearWays_1, x_Odds_clearWays_3, x_Odds_clearWays_4, x_Odds_clearWays_7, x_Odds_clearWays_8, x_Odds_clearWays_11, x_Odds_clearWays_12, x_Odds_clearWays_15, x_Odds_clearWays_16, x_Odds_clearWays_17, x_Odds_clearWays_20, x_Odds_clearWays_21, x_Odds_clearWays_24, x_Odds_clearWays_25, x_Odds_clearWays_26, x_Odds_clearWays_29, x_Odds_clearWays_32, mk_I, mk_J, mk_Q, mk_n, mk_sI, mk_sJ, Option.toList_some, Option.toList_none, List.cons_append, List.nil_append, true_and, and_true, ↓reduceIte, leT, leF, ltT, ltF, eqF, lt0F, le0T, le0F, eq0F, natT, nI_clamp, nI_1, if_true, if_false, not_true_eq_false, not_false_eq_true, z_00, z_10, eq_self, true_or, or_true, or_false, false_or, oc_76, rt_76_2, al_77, ia_77, oa_77, nI_clamp, q2, nI_1]
        simp only [q', if_true] at ih
        exact ih
      · have q' : (i = 0) = False := eq_false q
        have q2 : (nI i = 0) = False := eq0F (by omega) (by omega)
        simp (disch := omega) only [x_Odds_clearWays_0, x_Odds_clearWays_1, x_Odds_clearWays_3, x_Odds_clearWays_4, x_Odds_clearWays_7, x_Odds_clearWays_8, x_Odds_clearWays_11, x_Odds_clearWays_12, x_Odds_clearWays_15, x_Odds_clearWays_16, x_Odds_clearWays_17, x_Odds_clearWays_20, x_Odds_clearWays_21, x_Odds_clearWays_24, x_Odds_clearWays_25, x_Odds_clearWays_26, x_Odds_clearWays_29, x_Odds_clearWays_32, mk_I, mk_J, mk_Q, mk_n, mk_sI, mk_sJ, Option.toList_some, Option.toList_none, List.cons_append, List.nil_append, true_and, and_true, ↓reduceIte, leT, leF, ltT, ltF, eqF, lt0F, le0T, le0F, eq0F, natT, nI_clamp, nI_1, if_true, if_false, not_true_eq_false, not_false_eq_true, z_00, z_10, eq_self, true_or, or_true, or_false, false_or, oc_76, rt_76_2, al_77, ia_77, oa_77, nI_clamp, q2, nI_1]
        simp only [q', if_false] at ih
        exact ih)
  refine ⟨J', hQ1, hQ2, ?_⟩
  refine mx_Cal_in (ls := [some (.ref 76), none]) tab_81 (by rw [mx_rcv, oc_76]; trivial) (Nat.le_of_ble_eq_true rfl) rfl ?_
  simp only [x_Odds_clearWays_0, x_Odds_clearWays_1]
  refine hP _ ?_
  rw [x_Odds_clearWays_2]
  simp (disch := omega) only [x_Odds_clearWays_0, x_Odds_clearWays_1, x_Odds_clearWays_3, x_Odds_clearWays_4, x_Odds_clearWays_7, x_Odds_clearWays_8, x_Odds_clearWays_11, x_Odds_clearWays_12, x_Odds_clearWays_15, x_Odds_clearWays_16, x_Odds_clearWays_17, x_Odds_clearWays_20, x_Odds_clearWays_21, x_Odds_clearWays_24, x_Odds_clearWays_25, x_Odds_clearWays_26, x_Odds_clearWays_29, x_Odds_clearWays_32, mk_I, mk_J, mk_Q, mk_n, mk_sI, mk_sJ, Option.toList_some, Option.toList_none, List.cons_append, List.nil_append, true_and, and_true, ↓reduceIte, leT, leF, ltT, ltF, eqF, lt0F, le0T, le0F, eq0F, natT, nI_clamp, nI_1, if_true, if_false, not_true_eq_false, not_false_eq_true, z_00, z_10, eq_self, true_or, or_true, or_false, false_or, oc_76, rt_76_2, al_77, ia_77]
/-- the inner loop -/
theorem l_spread {C : mx_C} {m i : Nat} {W : Nat → Nat} (I : mx_I) (J : mx_J) (hm : m < 10) (hi : i < 82) (hJ : ∀ j, j ≤ i → J 77 j = lN (W j)) : ∃ J', (J' 77 i = lN (wayS m W i) ∧ ∀ b j, ¬ (b = 77 ∧ j = i) → J' b j = J b j) ∧ ∃ w, ∀ P, mx_R k_Odds_spread C 47 [some (.ref 76), some (.int (nI m)), some (.int (nI i)), some (.int (nI w))] [] (mk I J') P → mx_R k_Odds_spread C 14 [some (.ref 76), some (.int (nI m)), some (.int (nI i)), some (.int (nI 1))] [] (mk I J) P := by
  obtain ⟨J', ⟨hQ1, hQ2⟩, hP⟩ := lqx (cl := k_Odds_spread) (C := C) (pc := 14) (i0 := 1) (n := if m < i then m + 1 else i + 1) (fun q (_ : mx_J) => [some (.ref 76), some (.int (nI m)), some (.int (nI i)), some (.int (nI q))]) (fun J' => mk I J') (fun q J' => J' 77 i = lN (sN (fun y => W (i - y)) q) ∧ ∀ b j, ¬ (b = 77 ∧ j = i) → J' b j = J b j) (s0 := J) (by split <;> omega) ⟨by
      rw [hJ i (Nat.le_refl _)]
      show lN (W i) = lN (0 + W (i - 0))
      rw [Nat.zero_add, Nat.sub_zero], fun _ _ _ => rfl⟩ (fun q J' hq1 hq hQ => by
    obtain ⟨h1, h2⟩ := hQ
    have hqm : q ≤ m ∧ q ≤ i := by
      split at hq <;> omega
    obtain ⟨hqm, hqi⟩ := hqm
    have e1 : J' 77 (i - q) = lN (W (i - q)) := (h2 77 (i - q) (by omega)).trans (hJ _ (by omega))
    refine ⟨mx_ups J' 77 i (lN (sN (fun y => W (i - y)) (q + 1))), ⟨ups_same _ _ _ _, fun b j g => by rw [ups_ne _ _ (by omega)]; exact h2 b j g⟩, fun P ih => ?_⟩
    rw [x_Odds_spread_14]
    simp (disch := omega) only [x_Odds_spread_15, x_Odds_spread_16, x_Odds_spread_19, x_Odds_spread_20, x_Odds_spread_21, x_Odds_spread_24, x_Odds_spread_25, x_Odds_spread_28, x_Odds_spread_29, x_Odds_spread_30, x_Odds_spread_31, x_Odds_spread_32, x_Odds_spread_35, x_Odds_spread_36, x_Odds_spread_37, x_Odds_spread_38, x_Odds_spread_39, x_Odds_spread_40, x_Odds_spread_41, x_Odds_spread_44, mk_I, mk_J, mk_Q, mk_n, mk_sI, mk_sJ, Option.toList_some, Option.toList_none, List.cons_append, List.nil_append, true_and, and_true, ↓reduceIte, leT, leF, ltT, ltF, eqF, lt0F, le0T, le0F, eq0F, natT, nI_clamp, nI_1, if_true, if_false, not_true_eq_false, not_false_eq_true, z_00, z_10, eq_self, true_or, or_true, or_false, false_or, oc_76, rt_76_2, oa_77, nI_clamp, pk_sub, h1, e1, lN_add, nI_1]
    exact ih)
  refine ⟨J', ⟨hQ1, hQ2⟩, (if m < i then m + 1 else i + 1), fun P ih => hP P ?_⟩
  rw [x_Odds_spread_14]
  by_cases h : m < i
  · rw [if_pos h] at ih ⊢
    simp (disch := omega) only [x_Odds_spread_15, x_Odds_spread_16, ↓reduceIte, leT, leF, ltT, ltF, eqF, lt0F, le0T, le0F, eq0F, natT, nI_clamp, nI_1, if_true, if_false, not_true_eq_false, not_false_eq_true, z_00, z_10, eq_self, true_or, or_true, or_false, false_or]
    exact ih
  · rw [if_neg h] at ih ⊢
    by_cases h2 : m = i
    · subst h2
      simp (disch := omega) only [x_Odds_spread_15, x_Odds_spread_16, ↓reduceIte, leT, leF, ltT, ltF, eqF, lt0F, le0T, le0F, eq0F, natT, nI_clamp, nI_1, if_true, if_false, not_true_eq_false, not_false_eq_true, z_00, z_10, eq_self, true_or, or_true, or_false, false_or]
      exact ih
    · simp (disch := omega) only [x_Odds_spread_15, x_Odds_spread_16, x_Odds_spread_19, x_Odds_spread_20, x_Odds_spread_21, ↓reduceIte, leT, leF, ltT, ltF, eqF, lt0F, le0T, le0F, eq0F, natT, nI_clamp, nI_1, if_true, if_false, not_true_eq_false, not_false_eq_true, z_00, z_10, eq_self, true_or, or_true, or_false, false_or]
      exact ih
theorem q_spread {d m : Nat} {W : Nat → Nat} (I : mx_I) (J : mx_J) (hm : m < 10) (hJ : ∀ j, j < 82 → J 77 j = lN (W j)) : ∃ J', (∀ j, j < 82 → J' 77 j = lN (wayS m W j)) ∧ (∀ j, J' 76 j = J 76 j) ∧ mx_Cal mx_tab (d + 1) 82 [.ref 76, .int (nI m)] (mk I J) none (mk I J') := by
  obtain ⟨⟨J', w⟩, ⟨hQ1, hQ2, hQ3⟩, hP⟩ := lqx (cl := k_Odds_spread) (C := mx_Cal mx_tab d) (pc := 8) (i0 := 0) (n := 82) (fun k (s : mx_J × Option Value) => [some (.ref 76), some (.int (nI m)), some (.int (nI (82 - k) - 1)), s.2]) (fun s => mk I s.1) (fun k s => (∀ j, j < 82 - k → s.1 77 j = lN (W j)) ∧ (∀ j, 82 - k ≤ j → j < 82 → s.1 77 j = lN (wayS m W j)) ∧ ∀ j, s.1 76 j = J 76 j) (s0 := (J, none)) (Nat.zero_le _) ⟨fun j hj => hJ j (by omega), fun j h1 h2 => by omega, fun _ => rfl⟩ (fun k s _ hk hQ => by
    obtain ⟨h1, h2, h3⟩ := hQ
    obtain ⟨J1, ⟨a1, a2⟩, w1, hw⟩ := l_spread (C := mx_Cal mx_tab d) (m := m) (i := 81 - k) (W := W) I s.1 hm (by omega) (fun j hj => h1 j (by omega))
    have e82 : nI (82 - k) - 1 = nI (81 - k) := by rw [show 82 - k = (81 - k) + 1 by omega, nI_s1]
    refine ⟨(J1, some (.int (nI w1))), ⟨fun j hj => ?_, fun j g1 g2 => ?_, fun j => (a2 76 j (by omega)).trans (h3 j)⟩, fun P ih => ?_⟩
    · exact (a2 77 j (by omega)).trans (h1 j (by omega))
    · by_cases q : j = 81 - k
      · rw [q]; exact a1
      · exact (a2 77 j (by omega)).trans (h2 j (by omega) g2)
    · show mx_R k_Odds_spread (mx_Cal mx_tab d) 8 [some (.ref 76), some (.int (nI m)), some (.int (nI (82 - k) - 1)), s.2] [] (mk I s.1) P
      rw [e82, x_Odds_spread_8]
      simp (disch := omega) only [x_Odds_spread_9, x_Odds_spread_12, ↓reduceIte, leT, leF, ltT, ltF, eqF, lt0F, le0T, le0F, eq0F, natT, nI_clamp, nI_1, if_true, if_false, not_true_eq_false, not_false_eq_true, z_00, z_10, eq_self, true_or, or_true, or_false, false_or]
      rw [x_Odds_spread_13]
      refine hw P ?_
      rw [x_Odds_spread_47, x_Odds_spread_50, add_m1]
      rw [show 82 - (k + 1) = 81 - k by omega] at ih
      exact ih)
  refine ⟨J', fun j hj => hQ2 j (by omega) hj, hQ3, ?_⟩
  refine mx_Cal_in (ls := [some (.ref 76), some (.int (nI m)), none, none]) tab_82 (by rw [mx_rcv, oc_76]; trivial) (Nat.le_of_ble_eq_true rfl) rfl ?_
  simp only [x_Odds_spread_0, x_Odds_spread_1, x_Odds_spread_4, x_Odds_spread_5, x_Odds_spread_6, x_Odds_spread_7, mk_I, mk_J, mk_Q, mk_n, mk_sI, mk_sJ, Option.toList_some, Option.toList_none, List.cons_append, List.nil_append, true_and, and_true, oc_76, rt_76_2, al_77, ia_77]
  refine hP _ ?_
  show mx_R k_Odds_spread (mx_Cal mx_tab d) 8 [some (.ref 76), some (.int (nI m)), some (.int (nI (82 - 82) - 1)), w] [] (mk I J') _
  rw [x_Odds_spread_8]
  simp (disch := omega) only [x_Odds_spread_9, x_Odds_spread_53, show (nI (82 - 82) - 1 < 0) = True from by decide, ↓reduceIte, leT, leF, ltT, ltF, eqF, lt0F, le0T, le0F, eq0F, natT, nI_clamp, nI_1, if_true, if_false, not_true_eq_false, not_false_eq_true, z_00, z_10, eq_self, true_or, or_true, or_false, false_or]
  exact ⟨trivial, trivial⟩
theorem q_waysWithin {d : Nat} {W : Nat → Nat} {lo hi : Int32} (I : mx_I) (J : mx_J) (hJ : ∀ j, j < 82 → J 77 j = lN (W j)) : mx_Cal mx_tab (d + 1) 83 [.ref 76, .int lo, .int hi] (mk I J) (some (.long (lN (sN (fun v => if ¬ nI v < lo ∧ ¬ hi < nI v then W v else 0) 82)))) (mk I J) := by
  refine mx_Cal_in (ls := [some (.ref 76), some (.int lo), some (.int hi), none, none, none]) tab_83 (by rw [mx_rcv, oc_76]; trivial) (Nat.le_of_ble_eq_true rfl) rfl ?_
  simp only [x_Odds_waysWithin_0, x_Odds_waysWithin_1, x_Odds_waysWithin_2, x_Odds_waysWithin_3, mk_I, mk_J, mk_Q, mk_n, mk_sI, mk_sJ, Option.toList_some, Option.toList_none, List.cons_append, List.nil_append, true_and, and_true]
  refine lq (i0 := 0) (n := 82) (fun i => [some (.ref 76), some (.int lo), some (.int hi), some (.long (lN (sN (fun v => if ¬ nI v < lo ∧ ¬ hi < nI v then W v else 0) i))), none, some (.int (nI i))]) (fun _ => mk I J) (Nat.zero_le _) rfl rfl (fun i _ hi2 ih => ?_) ?_
  · have e1 := hJ i hi2
    rw [sN] at ih
    rw [x_Odds_waysWithin_5]
    by_cases h1 : nI i < lo
    · rw [if_neg (fun q => q.1 h1), Nat.add_zero] at ih
      simp (disch := omega) only [x_Odds_waysWithin_7, x_Odds_waysWithin_8, x_Odds_waysWithin_11, x_Odds_waysWithin_12, x_Odds_waysWithin_15, x_Odds_waysWithin_16, x_Odds_waysWithin_18, x_Odds_waysWithin_19, x_Odds_waysWithin_22, x_Odds_waysWithin_24, x_Odds_waysWithin_25, x_Odds_waysWithin_28, x_Odds_waysWithin_29, x_Odds_waysWithin_32, x_Odds_waysWithin_34, x_Odds_waysWithin_35, x_Odds_waysWithin_38, x_Odds_waysWithin_39, x_Odds_waysWithin_40, x_Odds_waysWithin_41, x_Odds_waysWithin_44, x_Odds_waysWithin_47, x_Odds_waysWithin_48, mk_I, mk_J, mk_Q, mk_n, mk_sI, mk_sJ, Option.toList_some, Option.toList_none, List.cons_append, List.nil_append, true_and, and_true, ↓reduceIte, leT, leF, ltT, ltF, eqF, lt0F, le0T, le0F, eq0F, natT, nI_clamp, nI_1, if_true, if_false, not_true_eq_false, not_false_eq_true, z_00, z_10, eq_self, true_or, or_true, or_false, false_or, oc_76, rt_76_2, al_77, ia_77, oa_77, h1, nI_1, Int64.add_zero]
      exact ih
    · by_cases h2 : hi < nI i
      · rw [if_neg (fun q => q.2 h2), Nat.add_zero] at ih
        simp (disch := omega) only [x_Odds_waysWithin_7, x_Odds_waysWithin_8, x_Odds_waysWithin_11, x_Odds_waysWithin_12, x_Odds_waysWithin_15, x_Odds_waysWithin_16, x_Odds_waysWithin_18, x_Odds_waysWithin_19, x_Odds_waysWithin_22, x_Odds_waysWithin_24, x_Odds_waysWithin_25, x_Odds_waysWithin_28, x_Odds_waysWithin_29, x_Odds_waysWithin_32, x_Odds_waysWithin_34, x_Odds_waysWithin_35, x_Odds_waysWithin_38, x_Odds_waysWithin_39, x_Odds_waysWithin_40, x_Odds_waysWithin_41, x_Odds_waysWithin_44, x_Odds_waysWithin_47, x_Odds_waysWithin_48, mk_I, mk_J, mk_Q, mk_n, mk_sI, mk_sJ, Option.toList_some, Option.toList_none, List.cons_append, List.nil_append, true_and, and_true, ↓reduceIte, leT, leF, ltT, ltF, eqF, lt0F, le0T, le0F, eq0F, natT, nI_clamp, nI_1, if_true, if_false, not_true_eq_false, not_false_eq_true, z_00, z_10, eq_self, true_or, or_true, or_false, false_or, oc_76, rt_76_2, al_77, ia_77, oa_77, h1, h2, nI_1, Int64.add_zero]
        exact ih
      · rw [if_pos ⟨h1, h2⟩] at ih
        simp (disch := omega) only [x_Odds_waysWithin_7, x_Odds_waysWithin_8, x_Odds_waysWithin_11, x_Odds_waysWithin_12, x_Odds_waysWithin_15, x_Odds_waysWithin_16, x_Odds_waysWithin_18, x_Odds_waysWithin_19, x_Odds_waysWithin_22, x_Odds_waysWithin_24, x_Odds_waysWithin_25, x_Odds_waysWithin_28, x_Odds_waysWithin_29, x_Odds_waysWithin_32, x_Odds_waysWithin_34, x_Odds_waysWithin_35, x_Odds_waysWithin_38, x_Odds_waysWithin_39, x_Odds_waysWithin_40, x_Odds_waysWithin_41, x_Odds_waysWithin_44, x_Odds_waysWithin_47, x_Odds_waysWithin_48, mk_I, mk_J, mk_Q, mk_n, mk_sI, mk_sJ, Option.toList_some, Option.toList_none, List.cons_append, List.nil_append, true_and, and_true, ↓reduceIte, leT, leF, ltT, ltF, eqF, lt0F, le0T, le0F, eq0F, natT, nI_clamp, nI_1, if_true, if_false, not_true_eq_false, not_false_eq_true, z_00, z_10, eq_self, true_or, or_true, or_false, false_or, oc_76, rt_76_2, al_77, ia_77, oa_77, h1, h2, nI_1, nI_clamp, e1, lN_add]
        exact ih
  · rw [x_Odds_waysWithin_5]
    simp (disch := omega) only [x_Odds_waysWithin_7, x_Odds_waysWithin_8, x_Odds_waysWithin_11, x_Odds_waysWithin_12, x_Odds_waysWithin_15, x_Odds_waysWithin_16, x_Odds_waysWithin_18, x_Odds_waysWithin_19, x_Odds_waysWithin_22, x_Odds_waysWithin_24, x_Odds_waysWithin_25, x_Odds_waysWithin_28, x_Odds_waysWithin_29, x_Odds_waysWithin_32, x_Odds_waysWithin_34, x_Odds_waysWithin_35, x_Odds_waysWithin_38, x_Odds_waysWithin_39, x_Odds_waysWithin_40, x_Odds_waysWithin_41, x_Odds_waysWithin_44, x_Odds_waysWithin_47, x_Odds_waysWithin_48, mk_I, mk_J, mk_Q, mk_n, mk_sI, mk_sJ, Option.toList_some, Option.toList_none, List.cons_append, List.nil_append, true_and, and_true, ↓reduceIte, leT, leF, ltT, ltF, eqF, lt0F, le0T, le0F, eq0F, natT, nI_clamp, nI_1, if_true, if_false, not_true_eq_false, not_false_eq_true, z_00, z_10, eq_self, true_or, or_true, or_false, false_or, oc_76, rt_76_2, al_77, ia_77]
/-! the common divisor -/
theorem gcd_st {a b : Nat} : Nat.gcd b (a % b) = Nat.gcd a b := by
  rw [Nat.gcd_comm b (a % b), ← Nat.gcd_rec, Nat.gcd_comm]
theorem mod_half {b c f : Nat} (hc : 0 < c) (hcb : c < b) (hb : b < 2 ^ (f + 1)) : b % c < 2 ^ f := by
  have hp : 2 ^ (f + 1) = 2 ^ f * 2 := Nat.pow_succ ..
  rcases Nat.lt_or_ge b (2 * c) with h | h
  · have e : b % c = b - c := by rw [Nat.mod_eq_sub_mod (by omega), Nat.mod_eq_of_lt (by omega)]
    omega
  · have := Nat.mod_lt b hc
    omega
def rdL (a b i : Nat) (w : Option Value) : mx_L := [some (.ref 76), some (.long (lN a)), none, some (.long (lN b)), none, some (.int (nI i)), w, none]
theorem rd_exit {C : mx_C} {h : mx_H} {P : mx_P} {a i : Nat} {w : Option Value} (hi : i ≤ 99) (ih : mx_R k_Odds_reduce C 42 (rdL a 0 i w) [] h P) : mx_R k_Odds_reduce C 13 (rdL a 0 i w) [] h P := by
  unfold rdL at ih ⊢
  rw [x_Odds_reduce_13]
  simp (disch := omega) only [x_Odds_reduce_15, x_Odds_reduce_17, x_Odds_reduce_20, x_Odds_reduce_21, x_Odds_reduce_22, x_Odds_reduce_23, ↓reduceIte, leT, leF, ltT, ltF, eqF, lt0F, le0T, le0F, eq0F, natT, nI_clamp, nI_1, if_true, if_false, not_true_eq_false, not_false_eq_true, z_00, z_10, eq_self, true_or, or_true, or_false, false_or, show (100 : Int32) = nI 100 from rfl, lc_eq]
  exact ih
theorem rd_step {C : mx_C} {h : mx_H} {P : mx_P} {a b i : Nat} {w : Option Value} (hi : i ≤ 99) (hb0 : 0 < b) (ha : a < 2 ^ 62) (hb : b < 2 ^ 62) (ih : mx_R k_Odds_reduce C 13 (rdL b (a % b) (i + 1) (some (.long (lN (a % b))))) [] h P) : mx_R k_Odds_reduce C 13 (rdL a b i w) [] h P := by
  have hb1 : (b = 0) = False := eq_false (by omega)
  unfold rdL at ih ⊢
  rw [x_Odds_reduce_13]
  simp (disch := omega) only [x_Odds_reduce_15, x_Odds_reduce_17, x_Odds_reduce_20, x_Odds_reduce_21, x_Odds_reduce_22, x_Odds_reduce_23, x_Odds_reduce_26, x_Odds_reduce_27, x_Odds_reduce_28, x_Odds_reduce_29, x_Odds_reduce_31, x_Odds_reduce_32, x_Odds_reduce_33, x_Odds_reduce_35, x_Odds_reduce_36, x_Odds_reduce_39, ↓reduceIte, leT, leF, ltT, ltF, eqF, lt0F, le0T, le0F, eq0F, natT, nI_clamp, nI_1, if_true, if_false, not_true_eq_false, not_false_eq_true, z_00, z_10, eq_self, true_or, or_true, or_false, false_or, show (100 : Int32) = nI 100 from rfl, lc_eq, hb1, l_ne0, pk_lRem, nI_1, true_and]
  exact ih
theorem rd_loop {C : mx_C} {h : mx_H} {P : mx_P} : ∀ (f a b i : Nat) (w : Option Value), b < 2 ^ f → a < 2 ^ 62 → b < 2 ^ 62 → i + 2 * f ≤ 99 → (∀ i' w', mx_R k_Odds_reduce C 42 (rdL (Nat.gcd a b) 0 i' w') [] h P) → mx_R k_Odds_reduce C 13 (rdL a b i w) [] h P
  | 0, a, b, i, w, hb, ha, _, hi, ih => by
    have : b = 0 := by omega
    subst this
    have e := ih i w
    rw [Nat.gcd_zero_right] at e
    exact rd_exit (by omega) e
  | f + 1, a, b, i, w, hb, ha, hb2, hi, ih => by
    by_cases h0 : b = 0
    · subst h0
      have e := ih i w
      rw [Nat.gcd_zero_right] at e
      exact rd_exit (by omega) e
    · have m1 := Nat.mod_lt a (show 0 < b by omega)
      refine rd_step (by omega) (by omega) ha hb2 ?_
      by_cases h1 : a % b = 0
      · have e := ih (i + 1) (some (.long (lN (a % b))))
        rw [← gcd_st, h1, Nat.gcd_zero_right] at e
        rw [h1]
        exact rd_exit (by omega) e
      · have m2 := Nat.mod_lt b (show 0 < a % b by omega)
        refine rd_step (by omega) (by omega) hb2 (by omega) ?_
        refine rd_loop f _ _ _ _ (mod_half (by omega) m1 hb) (by omega) (by omega) (by omega) (fun i' w' => ?_)
        have e := ih i' w'
        rw [gcd_st, gcd_st]
        exact e
theorem q_reduce {d A B : Nat} (I : mx_I) (J : mx_J) (hA : A < 2 ^ 40) (hB : B < 2 ^ 40) (hB0 : 0 < B) (h0 : J 76 0 = lN A) (h1 : J 76 1 = lN B) : ∃ J', J' 76 0 = lN (A / Nat.gcd B A) ∧ J' 76 1 = lN (B / Nat.gcd B A) ∧ mx_Cal mx_tab (d + 1) 84 [.ref 76] (mk I J) none (mk I J') := by
  have hg0 : 0 < Nat.gcd B A := Nat.gcd_pos_of_pos_left A hB0
  have hgB : Nat.gcd B A ≤ B := Nat.gcd_le_left A hB0
  have p1 : (2 : Nat) ^ 40 = 1099511627776 := by decide
  have p2 : (2 : Nat) ^ 62 = 4611686018427387904 := by decide
  have p3 : (2 : Nat) ^ 63 = 9223372036854775808 := by decide
  have start : ∀ (J' : mx_J), (∀ i' w', mx_R k_Odds_reduce (mx_Cal mx_tab d) 42 (rdL (Nat.gcd B A) 0 i' w') [] (mk I J) (fun v h => v = none ∧ h = mk I J')) → mx_Cal mx_tab (d + 1) 84 [.ref 76] (mk I J) none (mk I J') := fun J' hx => by
    refine mx_Cal_in (ls := [some (.ref 76), none, none, none, none, none, none, none]) tab_84 (by rw [mx_rcv, oc_76]; trivial) (Nat.le_of_ble_eq_true rfl) rfl ?_
    simp only [x_Odds_reduce_0, x_Odds_reduce_1, x_Odds_reduce_4, x_Odds_reduce_5, x_Odds_reduce_6, x_Odds_reduce_9, x_Odds_reduce_10, x_Odds_reduce_11, mk_I, mk_J, mk_Q, mk_n, mk_sI, mk_sJ, Option.toList_some, Option.toList_none, List.cons_append, List.nil_append, true_and, and_true, oc_76, h0, h1]
    exact rd_loop 40 B A 0 none hA (by omega) (by omega) (by omega) hx
  by_cases hg : Nat.gcd B A ≤ 1
  · have hg1 : Nat.gcd B A = 1 := by omega
    refine ⟨J, by rw [hg1, Nat.div_one]; exact h0, by rw [hg1, Nat.div_one]; exact h1, start J (fun i' w' => ?_)⟩
    have hg' : (Nat.gcd B A ≤ 1) = True := eq_true hg
    unfold rdL
    simp (disch := omega) only [x_Odds_reduce_42, x_Odds_reduce_43, x_Odds_reduce_44, x_Odds_reduce_45, x_Odds_reduce_48, x_Odds_reduce_49, x_Odds_reduce_50, x_Odds_reduce_53, x_Odds_reduce_54, x_Odds_reduce_55, x_Odds_reduce_58, x_Odds_reduce_59, x_Odds_reduce_60, x_Odds_reduce_63, x_Odds_reduce_64, x_Odds_reduce_65, x_Odds_reduce_68, lc_le, hg', if_true]
    exact ⟨trivial, trivial⟩
  · have hg' : (Nat.gcd B A ≤ 1) = False := eq_false hg
    refine ⟨mx_ups (mx_ups J 76 0 (lN (A / Nat.gcd B A))) 76 1 (lN (B / Nat.gcd B A)), by rw [ups_ne _ _ (by omega), ups_same], ups_same _ _ _ _, start _ (fun i' w' => ?_)⟩
    unfold rdL
    simp (disch := omega) only [x_Odds_reduce_42, x_Odds_reduce_43, x_Odds_reduce_44, x_Odds_reduce_45, x_Odds_reduce_48, x_Odds_reduce_49, x_Odds_reduce_50, x_Odds_reduce_53, x_Odds_reduce_54, x_Odds_reduce_55, x_Odds_reduce_58, x_Odds_reduce_59, x_Odds_reduce_60, x_Odds_reduce_63, x_Odds_reduce_64, x_Odds_reduce_65, x_Odds_reduce_68, mk_I, mk_J, mk_Q, mk_n, mk_sI, mk_sJ, Option.toList_some, Option.toList_none, List.cons_append, List.nil_append, true_and, and_true, oc_76, lc_le, hg', if_false, not_false_eq_true, l_ne0, pk_lDiv, h0, h1, ups_ne]
def dvL (A B a b : Nat) (w : Option Value) : mx_L := [some (.long (lN A)), none, some (.long (lN B)), none, some (.long (lN a)), none, some (.long (lN b)), none, w, none]
theorem dv_loop {C : mx_C} {h : mx_H} {P : mx_P} {A B : Nat} : ∀ (f a b : Nat) (w : Option Value), b ≤ f → a < 2 ^ 62 → b < 2 ^ 62 → P (some (.long (lN (Nat.gcd a b)))) h → mx_R k_Ref_divisor C 6 (dvL A B a b w) [] h P
  | f, a, b, w, hf, ha, hb, ih => by
    have p2 : (2 : Nat) ^ 62 = 4611686018427387904 := by decide
    by_cases h0 : b = 0
    · subst h0
      rw [Nat.gcd_zero_right] at ih
      unfold dvL
      rw [x_Ref_divisor_6]
      simp (disch := omega) only [x_Ref_divisor_8, x_Ref_divisor_9, x_Ref_divisor_10, x_Ref_divisor_13, x_Ref_divisor_15, x_Ref_divisor_17, x_Ref_divisor_18, x_Ref_divisor_20, x_Ref_divisor_22, x_Ref_divisor_24, x_Ref_divisor_26, x_Ref_divisor_28, x_Ref_divisor_31, x_Ref_divisor_33, ↓reduceIte, leT, leF, ltT, ltF, eqF, lt0F, le0T, le0F, eq0F, natT, nI_clamp, nI_1, if_true, if_false, not_true_eq_false, not_false_eq_true, z_00, z_10, eq_self, true_or, or_true, or_false, false_or, lc_eq]
      exact ih
    · cases f with
      | zero => omega
      | succ f =>
        have m1 := Nat.mod_lt a (show 0 < b by omega)
        have hb1 : (b = 0) = False := eq_false h0
        have e := dv_loop (C := C) (h := h) (P := P) (A := A) (B := B) f b (a % b) (some (.long (lN (a % b)))) (by omega) (by omega) (by omega) (by rw [gcd_st]; exact ih)
        unfold dvL at e ⊢
        rw [x_Ref_divisor_6]
        simp (disch := omega) only [x_Ref_divisor_8, x_Ref_divisor_9, x_Ref_divisor_10, x_Ref_divisor_13, x_Ref_divisor_15, x_Ref_divisor_17, x_Ref_divisor_18, x_Ref_divisor_20, x_Ref_divisor_22, x_Ref_divisor_24, x_Ref_divisor_26, x_Ref_divisor_28, x_Ref_divisor_31, x_Ref_divisor_33, lc_eq, hb1, if_false, not_false_eq_true, l_ne0, pk_lRem, true_and]
        exact e
theorem q_divisor {d A B : Nat} (h : mx_H) (hA : A < 2 ^ 40) (hB : B < 2 ^ 40) : mx_Cal mx_tab (d + 1) 210 [.long (lN A), .long (lN B)] h (some (.long (lN (Nat.gcd A B)))) h := by
  have p1 : (2 : Nat) ^ 40 = 1099511627776 := by decide
  have p2 : (2 : Nat) ^ 62 = 4611686018427387904 := by decide
  refine mx_Cal_in (ls := [some (.long (lN A)), none, some (.long (lN B)), none, none, none, none, none, none, none]) tab_210 trivial (Nat.le_of_ble_eq_true rfl) rfl ?_
  simp only [x_Ref_divisor_0, x_Ref_divisor_1, x_Ref_divisor_3, x_Ref_divisor_4]
  exact dv_loop B A B none (Nat.le_refl _) (by omega) (by omega) ⟨rfl, rfl⟩
