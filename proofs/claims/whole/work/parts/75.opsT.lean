/-! odds: the class -/
def und3 (x : Nat) : Prop := x = 3 ∨ x = 6
theorem und_3 {x : Nat} (hx : x < 7) : undN x 3 ↔ (x = 3 ∨ x = 6) := by
  unfold undN
  rcases f7 hx with rfl | rfl | rfl | rfl | rfl | rfl | rfl <;> simp [upN]
def tlN (K T F : Nat → Nat) (q : Nat) : Nat := if lvN K F q = true then T q else 0
def leN (K M T F : Nat → Nat) (q : Nat) : Nat := if F q = 0 ∧ lvN K F q = false then LN K M T q else 0
def meN (K M T F : Nat → Nat) (q : Nat) : Nat := if F q = 0 ∧ lvN K F q = false then MN K M T q else 0
theorem leN_le {n : Nat} {K M T F : Nat → Nat} (h : ∀ i, i < n → LN K M T i ≤ 1075) : ∀ i, i < n → leN K M T F i ≤ 1075 := fun i hi => by
  unfold leN
  have := h i hi
  split <;> omega
theorem meN_le {n : Nat} {K M T F : Nat → Nat} (h : ∀ i, i < n → MN K M T i ≤ 1075) : ∀ i, i < n → meN K M T F i ≤ 1075 := fun i hi => by
  unfold meN
  have := h i hi
  split <;> omega
theorem tlN_le {n : Nat} {K T F : Nat → Nat} (h : ∀ i, i < n → T i < 1000) : ∀ i, i < n → tlN K T F i ≤ 999 := fun i hi => by
  unfold tlN
  have := h i hi
  split <;> omega
/-- the seconds over which what is LIVE may go -/
def wiN (t : Int32) (W : Nat → Nat) (A B : Nat) : Nat := sN (fun v => if ¬ nI v < t - nI B ∧ ¬ t - nI A < nI v then W v else 0) 82
theorem q_isOf3 {d k n L : Nat} {xs : Nat → Int32} {I : mx_I} {K M T F od : Nat → Nat} (hs : StatR L xs I) (hc : CI I n K M T F od) (J : mx_J) (hk : k < n) : mx_Cal mx_tab (d + 3) 16 [.ref 2, .int (nI k), .int 3] (mk I J) (some (.int (if K k = 3 ∨ K k = 6 then 1 else 0))) (mk I J) := by
  have dec : Decidable (undN (K k) 3) := Classical.propDecidable _
  have h := q_isOf (d := d) (y := 3) hs hc J hk (by omega)
  have b1 := (hc.2.2 k hk).1
  have e : (if undN (K k) 3 then (1 : Int32) else 0) = if K k = 3 ∨ K k = 6 then 1 else 0 := by
    by_cases q : K k = 3 ∨ K k = 6
    · rw [if_pos q, if_pos ((und_3 b1).mpr q)]
    · rw [if_neg q, if_neg (fun z => q ((und_3 b1).mp z))]
  rw [e] at h
  exact h
theorem q_oddsThink {n a b L : Nat} {xs : Nat → Int32} {I : mx_I} {K M T F od : Nat → Nat} (hs : StatR L xs I) (hc : CI I n K M T F od) (ca : I 1 1 = nI a) (cb : I 1 2 = nI b) (J : mx_J) : ∃ J', J' 76 0 = lN (wiN (nI a - nI b - nI (sN (tlN K T F) n)) (wayN K M F n) (sN (leN K M T F) n) (sN (meN K M T F) n) / Nat.gcd (allN K M F n) (wiN (nI a - nI b - nI (sN (tlN K T F) n)) (wayN K M F n) (sN (leN K M T F) n) (sN (meN K M T F) n))) ∧ J' 76 1 = lN (allN K M F n / Nat.gcd (allN K M F n) (wiN (nI a - nI b - nI (sN (tlN K T F) n)) (wayN K M F n) (sN (leN K M T F) n) (sN (meN K M T F) n))) ∧ wiN (nI a - nI b - nI (sN (tlN K T F) n)) (wayN K M F n) (sN (leN K M T F) n) (sN (meN K M T F) n) < 2 ^ 40 ∧ mx_Cal mx_tab 5 80 [.ref 76, .ref 1] (mk I J) none (mk I J') := by
  have h9 := hc.1
  have hn := hc.2.1
  have hM : ∀ i, i < n → M i < 10 := fun i hi => (hc.2.2 i hi).2.1
  have p40 : (2 : Nat) ^ 40 = 1099511627776 := by decide
  have pn := p10 h9
  have hall := allN_le (K := K) (M := M) (F := F) hM n (Nat.le_refl n)
  have hwb : wiN (nI a - nI b - nI (sN (tlN K T F) n)) (wayN K M F n) (sN (leN K M T F) n) (sN (meN K M T F) n) < 2 ^ 40 := by
    unfold wiN
    have h := sN_le (f := fun v => if ¬ nI v < nI a - nI b - nI (sN (tlN K T F) n) - nI (sN (meN K M T F) n) ∧ ¬ nI a - nI b - nI (sN (tlN K T F) n) - nI (sN (leN K M T F) n) < nI v then wayN K M F n v else 0) (b := 1000000000) (n := 82) (fun v _ => by
      have := wayN_le (K := K) (F := F) hM n (Nat.le_refl n) v
      show (if _ then _ else _) ≤ _
      split <;> omega)
    omega
  obtain ⟨J0, c1, c2, c3⟩ := q_clearWays (d := 0) I (mx_ups J 76 1 1)
  obtain ⟨J1, ⟨hQ1, hQ2⟩, hP⟩ := lqx (cl := k_Odds_think) (C := mx_Cal mx_tab 4) (pc := 28) (i0 := 0) (n := n) (fun i (_ : mx_J) => [some (.ref 76), some (.ref 1), some (.ref 2), some (.int (nI a - nI b - nI (sN (tlN K T F) i))), some (.int (nI (sN (leN K M T F) i))), some (.int (nI (sN (meN K M T F) i))), some (.int (nI i))]) (fun J' => mk I J') (fun i J' => (∀ j, j < 82 → J' 77 j = lN (wayN K M F i j)) ∧ J' 76 1 = lN (allN K M F i)) (s0 := J0) (Nat.zero_le n) ⟨c1, (c2 1).trans (ups_same _ _ _ _)⟩ (fun i J' _ hi hQ => by
    obtain ⟨h1, h2⟩ := hQ
    obtain ⟨b1, b2, b3, b4, b5, d1, d2, d3, d4, d5⟩ := hc.2.2 i hi
    have e7 := at7 I (show i < 9 by omega)
    rw [d3] at e7
    have e5 := at5 I (show i < 9 by omega)
    rw [d2] at e5
    by_cases hF : F i = 0
    · by_cases hk : K i = 3 ∨ K i = 6
      · have hl := lvN_t (K := K) hF hk
        have ho := q_isOf3 (d := 0) hs hc J' hi
        rw [if_pos hk] at ho
        obtain ⟨J2, s1, s2, s3⟩ := q_spread (d := 0) (m := M i) (W := wayN K M F i) I (mx_ups J' 76 1 (lN (allN K M F (i + 1)))) b2 (fun j hj => by rw [ups_ne _ _ (by omega)]; exact h1 j hj)
        refine ⟨J2, ⟨fun j hj => by rw [s1 j hj, wayN_t hl], (s2 1).trans (ups_same _ _ _ _)⟩, fun P ih => ?_⟩
        have t1 : tlN K T F i = T i := if_pos hl
        have t2 : leN K M T F i = 0 := if_neg (fun q => by rw [hl] at q; exact absurd q.2 (by decide))
        have t3 : meN K M T F i = 0 := if_neg (fun q => by rw [hl] at q; exact absurd q.2 (by decide))
        rw [sN, sN, sN, t1, t2, t3, Nat.add_zero, Nat.add_zero, ← nI_add, ← sub_sub'] at ih
        rw [allN_t hl] at s3
        rw [x_Odds_think_28]
        simp (disch := omega) only [x_Odds_think_30, x_Odds_think_31, x_Odds_think_34, x_Odds_think_37, x_Odds_think_38, x_Odds_think_40, x_Odds_think_43, x_Odds_think_46, x_Odds_think_47, x_Odds_think_49, x_Odds_think_50, x_Odds_think_53, x_Odds_think_56, x_Odds_think_57, x_Odds_think_58, x_Odds_think_61, x_Odds_think_63, x_Odds_think_66, x_Odds_think_67, x_Odds_think_68, x_Odds_think_69, x_Odds_think_70, x_Odds_think_73, x_Odds_think_74, x_Odds_think_77, x_Odds_think_79, x_Odds_think_82, x_Odds_think_83, x_Odds_think_84, x_Odds_think_85, x_Odds_think_86, x_Odds_think_89, x_Odds_think_90, x_Odds_think_91, x_Odds_think_94, x_Odds_think_96, x_Odds_think_99, x_Odds_think_102, x_Odds_think_105, x_Odds_think_106, x_Odds_think_108, x_Odds_think_111, x_Odds_think_114, x_Odds_think_116, x_Odds_think_117, x_Odds_think_119, x_Odds_think_122, x_Odds_think_123, x_Odds_think_125, x_Odds_think_127, x_Odds_think_128, x_Odds_think_130, x_Odds_think_133, x_Odds_think_134, x_Odds_think_136, x_Odds_think_139, mk_I, mk_J, mk_Q, mk_n, mk_sI, mk_sJ, Option.toList_some, Option.toList_none, List.cons_append, List.nil_append, true_and, and_true, ↓reduceIte, leT, leF, ltT, ltF, eqF, lt0F, le0T, le0F, eq0F, natT, nI_clamp, nI_1, if_true, if_false, not_true_eq_false, not_false_eq_true, z_00, z_10, eq_self, true_or, or_true, or_false, false_or, oc_76, oc_2, rt_76_2, rt_2_1, rt_2_2, rt_2_3, rt_2_4, rt_2_5, hn, mx_call (q_isL (d := 0) hc _ hi) _, hF, mx_call ho _, mx_call (q_Line_at (d := 0) L7 _ _ _) _, e7, h2, mx_call (q_Line_at (d := 0) L5 _ _ _) _, e5, nI_1, nI_l, lN_mul, mx_call s3 _]
        exact ih
      · have hl := lvN_f (K := K) (F := F) (q := i) (fun q => hk q.2)
        have ho := q_isOf3 (d := 0) hs hc J' hi
        rw [if_neg hk] at ho
        refine ⟨J', ⟨fun j hj => by rw [h1 j hj, wayN_f hl], by rw [h2, allN_f hl]⟩, fun P ih => ?_⟩
        have t1 : tlN K T F i = 0 := if_neg (by rw [hl]; decide)
        have t2 : leN K M T F i = LN K M T i := if_pos ⟨hF, hl⟩
        have t3 : meN K M T F i = MN K M T i := if_pos ⟨hF, hl⟩
        rw [sN, sN, sN, t1, t2, t3, Nat.add_zero] at ih
        rw [x_Odds_think_28]
        simp (disch := omega) only [x_Odds_think_30, x_Odds_think_31, x_Odds_think_34, x_Odds_think_37, x_Odds_think_38, x_Odds_think_40, x_Odds_think_43, x_Odds_think_46, x_Odds_think_47, x_Odds_think_49, x_Odds_think_50, x_Odds_think_53, x_Odds_think_56, x_Odds_think_57, x_Odds_think_58, x_Odds_think_61, x_Odds_think_63, x_Odds_think_66, x_Odds_think_67, x_Odds_think_68, x_Odds_think_69, x_Odds_think_70, x_Odds_think_73, x_Odds_think_74, x_Odds_think_77, x_Odds_think_79, x_Odds_think_82, x_Odds_think_83, x_Odds_think_84, x_Odds_think_85, x_Odds_think_86, x_Odds_think_89, x_Odds_think_90, x_Odds_think_91, x_Odds_think_94, x_Odds_think_96, x_Odds_think_99, x_Odds_think_102, x_Odds_think_105, x_Odds_think_106, x_Odds_think_108, x_Odds_think_111, x_Odds_think_114, x_Odds_think_116, x_Odds_think_117, x_Odds_think_119, x_Odds_think_122, x_Odds_think_123, x_Odds_think_125, x_Odds_think_127, x_Odds_think_128, x_Odds_think_130, x_Odds_think_133, x_Odds_think_134, x_Odds_think_136, x_Odds_think_139, mk_I, mk_J, mk_Q, mk_n, mk_sI, mk_sJ, Option.toList_some, Option.toList_none, List.cons_append, List.nil_append, true_and, and_true, ↓reduceIte, leT, leF, ltT, ltF, eqF, lt0F, le0T, le0F, eq0F, natT, nI_clamp, nI_1, if_true, if_false, not_true_eq_false, not_false_eq_true, z_00, z_10, eq_self, true_or, or_true, or_false, false_or, oc_76, oc_2, rt_76_2, rt_2_1, rt_2_2, rt_2_3, rt_2_4, rt_2_5, hn, mx_call (q_isL (d := 0) hc _ hi) _, hF, mx_call ho _, mx_call (q_Items_least (d := 0) I _ (show i < 9 by omega)) _, hc.L hi, mx_call (q_Items_most (d := 0) I _ (show i < 9 by omega)) _, hc.M hi, nI_add, nI_1]
        exact ih
    · have hl := lvN_f (K := K) (F := F) (q := i) (fun q => hF q.1)
      refine ⟨J', ⟨fun j hj => by rw [h1 j hj, wayN_f hl], by rw [h2, allN_f hl]⟩, fun P ih => ?_⟩
      have t1 : tlN K T F i = 0 := if_neg (by rw [hl]; decide)
      have t2 : leN K M T F i = 0 := if_neg (fun q => hF q.1)
      have t3 : meN K M T F i = 0 := if_neg (fun q => hF q.1)
      rw [sN, sN, sN, t1, t2, t3, Nat.add_zero, Nat.add_zero, Nat.add_zero] at ih
      rw [x_Odds_think_28]
      simp (disch := omega) only [x_Odds_think_30, x_Odds_think_31, x_Odds_think_34, x_Odds_think_37, x_Odds_think_38, x_Odds_think_40, x_Odds_think_43, x_Odds_think_46, x_Odds_think_47, x_Odds_think_49, x_Odds_think_50, x_Odds_think_53, x_Odds_think_56, x_Odds_think_57, x_Odds_think_58, x_Odds_think_61, x_Odds_think_63, x_Odds_think_66, x_Odds_think_67, x_Odds_think_68, x_Odds_think_69, x_Odds_think_70, x_Odds_think_73, x_Odds_think_74, x_Odds_think_77, x_Odds_think_79, x_Odds_think_82, x_Odds_think_83, x_Odds_think_84, x_Odds_think_85, x_Odds_think_86, x_Odds_think_89, x_Odds_think_90, x_Odds_think_91, x_Odds_think_94, x_Odds_think_96, x_Odds_think_99, x_Odds_think_102, x_Odds_think_105, x_Odds_think_106, x_Odds_think_108, x_Odds_think_111, x_Odds_think_114, x_Odds_think_116, x_Odds_think_117, x_Odds_think_119, x_Odds_think_122, x_Odds_think_123, x_Odds_think_125, x_Odds_think_127, x_Odds_think_128, x_Odds_think_130, x_Odds_think_133, x_Odds_think_134, x_Odds_think_136, x_Odds_think_139, mk_I, mk_J, mk_Q, mk_n, mk_sI, mk_sJ, Option.toList_some, Option.toList_none, List.cons_append, List.nil_append, true_and, and_true, ↓reduceIte, leT, leF, ltT, ltF, eqF, lt0F, le0T, le0F, eq0F, natT, nI_clamp, nI_1, if_true, if_false, not_true_eq_false, not_false_eq_true, z_00, z_10, eq_self, true_or, or_true, or_false, false_or, oc_76, oc_2, rt_76_2, rt_2_1, rt_2_2, rt_2_3, rt_2_4, rt_2_5, hn, mx_call (q_isL (d := 0) hc _ hi) _, hF, nI_1]
      exact ih)
  have hw := q_waysWithin (d := 0) (lo := nI a - nI b - nI (sN (tlN K T F) n) - nI (sN (meN K M T F) n)) (hi := nI a - nI b - nI (sN (tlN K T F) n) - nI (sN (leN K M T F) n)) I J1 hQ1
  obtain ⟨J2, r1, r2, r3⟩ := q_reduce (d := 0) (A := wiN (nI a - nI b - nI (sN (tlN K T F) n)) (wayN K M F n) (sN (leN K M T F) n) (sN (meN K M T F) n)) (B := allN K M F n) I (mx_ups J1 76 0 (lN (wiN (nI a - nI b - nI (sN (tlN K T F) n)) (wayN K M F n) (sN (leN K M T F) n) (sN (meN K M T F) n)))) hwb (by omega) (by omega) (ups_same _ _ _ _) (by rw [ups_ne _ _ (by omega)]; exact hQ2)
  refine ⟨J2, r1, r2, hwb, ?_⟩
  unfold wiN at r3
  have hth := q_Show_there (d := 0) I J
  rw [ca, cb] at hth
  refine mx_Cal_in (ls := [some (.ref 76), some (.ref 1), none, none, none, none, none]) tab_80 (by rw [mx_rcv, oc_76]; trivial) (Nat.le_of_ble_eq_true rfl) rfl ?_
  simp (disch := omega) only [x_Odds_think_0, x_Odds_think_1, x_Odds_think_4, x_Odds_think_5, x_Odds_think_6, x_Odds_think_9, x_Odds_think_10, x_Odds_think_11, x_Odds_think_13, x_Odds_think_14, x_Odds_think_16, x_Odds_think_17, x_Odds_think_18, x_Odds_think_21, x_Odds_think_22, x_Odds_think_25, x_Odds_think_26, mk_I, mk_J, mk_Q, mk_n, mk_sI, mk_sJ, Option.toList_some, Option.toList_none, List.cons_append, List.nil_append, true_and, and_true, oc_76, oc_1, rt_76_2, rt_1_0, rt_1_5, rt_1_6, rt_1_7, rt_1_8, mx_call hth _, mx_call c3 _]
  have z : nI a - nI b - nI (sN (tlN K T F) 0) = nI a - nI b := by
    show nI a - nI b - 0 = nI a - nI b
    exact Int32.sub_zero _
  have hP' := hP (fun v' h'' => v' = none ∧ h'' = mk I J2)
  rw [z] at hP'
  refine hP' ?_
  rw [x_Odds_think_28]
  simp (disch := omega) only [x_Odds_think_30, x_Odds_think_31, x_Odds_think_34, x_Odds_think_37, x_Odds_think_38, x_Odds_think_40, x_Odds_think_43, x_Odds_think_46, x_Odds_think_47, x_Odds_think_49, x_Odds_think_50, x_Odds_think_53, x_Odds_think_56, x_Odds_think_57, x_Odds_think_58, x_Odds_think_61, x_Odds_think_63, x_Odds_think_66, x_Odds_think_67, x_Odds_think_68, x_Odds_think_69, x_Odds_think_70, x_Odds_think_73, x_Odds_think_74, x_Odds_think_77, x_Odds_think_79, x_Odds_think_82, x_Odds_think_83, x_Odds_think_84, x_Odds_think_85, x_Odds_think_86, x_Odds_think_89, x_Odds_think_90, x_Odds_think_91, x_Odds_think_94, x_Odds_think_96, x_Odds_think_99, x_Odds_think_102, x_Odds_think_105, x_Odds_think_106, x_Odds_think_108, x_Odds_think_111, x_Odds_think_114, x_Odds_think_116, x_Odds_think_117, x_Odds_think_119, x_Odds_think_122, x_Odds_think_123, x_Odds_think_125, x_Odds_think_127, x_Odds_think_128, x_Odds_think_130, x_Odds_think_133, x_Odds_think_134, x_Odds_think_136, x_Odds_think_139, x_Odds_think_142, x_Odds_think_143, x_Odds_think_144, x_Odds_think_145, x_Odds_think_147, x_Odds_think_148, x_Odds_think_149, x_Odds_think_151, x_Odds_think_152, x_Odds_think_155, x_Odds_think_158, x_Odds_think_159, x_Odds_think_162, mk_I, mk_J, mk_Q, mk_n, mk_sI, mk_sJ, Option.toList_some, Option.toList_none, List.cons_append, List.nil_append, true_and, and_true, ↓reduceIte, leT, leF, ltT, ltF, eqF, lt0F, le0T, le0F, eq0F, natT, nI_clamp, nI_1, if_true, if_false, not_true_eq_false, not_false_eq_true, z_00, z_10, eq_self, true_or, or_true, or_false, false_or, oc_76, oc_2, rt_76_2, rt_2_1, rt_2_2, rt_2_3, rt_2_4, rt_2_5, hn, mx_call hw _, mx_call r3 _]
/-! odds: the reference -/
theorem l_more {C : mx_C} {m v : Nat} {W : Nat → Nat} (I : mx_I) (J : mx_J) (hm : m < 10) (hv : v < 82) (h0 : J 104 v = 0) (hJ : ∀ j, j < 82 → J 103 j = lN (W j)) : ∃ J', (J' 104 v = lN (wayS m W v) ∧ ∀ b j, ¬ (b = 104 ∧ j = v) → J' b j = J b j) ∧ ∃ w, ∀ P, mx_R k_Ref_moreBy C 50 [some (.ref 94), some (.int (nI m)), some (.int (nI v)), some (.int (nI w))] [] (mk I J') P → mx_R k_Ref_moreBy C 17 [some (.ref 94), some (.int (nI m)), some (.int (nI v)), some (.int (nI 0))] [] (mk I J) P := by
  obtain ⟨J', ⟨hQ1, hQ2⟩, hP⟩ := lqx (cl := k_Ref_moreBy) (C := C) (pc := 17) (i0 := 0) (n := if m < v then m + 1 else v + 1) (fun q (_ : mx_J) => [some (.ref 94), some (.int (nI m)), some (.int (nI v)), some (.int (nI q))]) (fun J' => mk I J') (fun q J' => J' 104 v = lN (sN (fun y => W (v - y)) q) ∧ ∀ b j, ¬ (b = 104 ∧ j = v) → J' b j = J b j) (s0 := J) (Nat.zero_le _) ⟨h0, fun _ _ _ => rfl⟩ (fun q J' _ hq hQ => by
    obtain ⟨h1, h2⟩ := hQ
    have hqm : q ≤ m ∧ q ≤ v := by
      split at hq <;> omega
    obtain ⟨hqm, hqi⟩ := hqm
    have e1 : J' 103 (v - q) = lN (W (v - q)) := (h2 103 (v - q) (by omega)).trans (hJ _ (by omega))
    refine ⟨mx_ups J' 104 v (lN (sN (fun y => W (v - y)) (q + 1))), ⟨ups_same _ _ _ _, fun b j g => by rw [ups_ne _ _ (by omega)]; exact h2 b j g⟩, fun P ih => ?_⟩
    rw [x_Ref_moreBy_17]
    simp (disch := omega) only [x_Ref_moreBy_18, x_Ref_moreBy_19, x_Ref_moreBy_22, x_Ref_moreBy_23, x_Ref_moreBy_24, x_Ref_moreBy_27, x_Ref_moreBy_28, x_Ref_moreBy_31, x_Ref_moreBy_32, x_Ref_moreBy_33, x_Ref_moreBy_34, x_Ref_moreBy_35, x_Ref_moreBy_38, x_Ref_moreBy_39, x_Ref_moreBy_40, x_Ref_moreBy_41, x_Ref_moreBy_42, x_Ref_moreBy_43, x_Ref_moreBy_44, x_Ref_moreBy_47, mk_I, mk_J, mk_Q, mk_n, mk_sI, mk_sJ, Option.toList_some, Option.toList_none, List.cons_append, List.nil_append, true_and, and_true, ↓reduceIte, leT, leF, ltT, ltF, eqF, lt0F, le0T, le0F, eq0F, natT, nI_clamp, nI_1, if_true, if_false, not_true_eq_false, not_false_eq_true, z_00, z_10, eq_self, true_or, or_true, or_false, false_or, oc_94, rt_94_0, rt_94_1, rt_94_3, rt_94_8, rt_94_9, rt_94_10, rt_94_11, rt_94_12, rt_94_15, rt_94_16, rt_94_18, rt_94_21, rt_94_22, rt_94_23, rt_94_24, oa_103, oa_104, nI_clamp, pk_sub, h1, e1, lN_add, nI_1]
    exact ih)
  refine ⟨J', ⟨hQ1, hQ2⟩, (if m < v then m + 1 else v + 1), fun P ih => hP P ?_⟩
  rw [x_Ref_moreBy_17]
  by_cases h : m < v
  · rw [if_pos h] at ih ⊢
    simp (disch := omega) only [x_Ref_moreBy_18, x_Ref_moreBy_19, x_Ref_moreBy_22, x_Ref_moreBy_23, x_Ref_moreBy_24, ↓reduceIte, leT, leF, ltT, ltF, eqF, lt0F, le0T, le0F, eq0F, natT, nI_clamp, nI_1, if_true, if_false, not_true_eq_false, not_false_eq_true, z_00, z_10, eq_self, true_or, or_true, or_false, false_or]
    exact ih
  · rw [if_neg h] at ih ⊢
    by_cases h2 : m = v
    · subst h2
      simp (disch := omega) only [x_Ref_moreBy_18, x_Ref_moreBy_19, x_Ref_moreBy_22, x_Ref_moreBy_23, x_Ref_moreBy_24, ↓reduceIte, leT, leF, ltT, ltF, eqF, lt0F, le0T, le0F, eq0F, natT, nI_clamp, nI_1, if_true, if_false, not_true_eq_false, not_false_eq_true, z_00, z_10, eq_self, true_or, or_true, or_false, false_or]
      exact ih
    · simp (disch := omega) only [x_Ref_moreBy_18, x_Ref_moreBy_19, x_Ref_moreBy_22, x_Ref_moreBy_23, x_Ref_moreBy_24, ↓reduceIte, leT, leF, ltT, ltF, eqF, lt0F, le0T, le0F, eq0F, natT, nI_clamp, nI_1, if_true, if_false, not_true_eq_false, not_false_eq_true, z_00, z_10, eq_self, true_or, or_true, or_false, false_or]
      exact ih
theorem q_moreBy {d m : Nat} {W : Nat → Nat} (I : mx_I) (J : mx_J) (hm : m < 10) (hJ : ∀ j, j < 82 → J 103 j = lN (W j)) : ∃ J', (∀ j, j < 82 → J' 103 j = lN (wayS m W j)) ∧ mx_Cal mx_tab (d + 1) 212 [.ref 94, .int (nI m)] (mk I J) none (mk I J') := by
  have l82 : (82 : Int32) = nI 82 := rfl
  obtain ⟨⟨J1, w⟩, ⟨hQ1, hQ2⟩, hP⟩ := lqx (cl := k_Ref_moreBy) (C := mx_Cal mx_tab d) (pc := 2) (i0 := 0) (n := 82) (fun v (s : mx_J × Option Value) => [some (.ref 94), some (.int (nI m)), some (.int (nI v)), s.2]) (fun s => mk I s.1) (fun v s => (∀ j, j < v → s.1 104 j = lN (wayS m W j)) ∧ ∀ j, j < 82 → s.1 103 j = lN (W j)) (s0 := (J, none)) (Nat.zero_le _) ⟨fun j hj => absurd hj (Nat.not_lt_zero j), hJ⟩ (fun v s _ hv hQ => by
    obtain ⟨h1, h2⟩ := hQ
    obtain ⟨J2, ⟨a1, a2⟩, w1, hw⟩ := l_more (C := mx_Cal mx_tab d) (m := m) (v := v) (W := W) I (mx_ups s.1 104 v 0) hm hv (ups_same _ _ _ _) (fun j hj => by rw [ups_ne _ _ (by omega)]; exact h2 j hj)
    refine ⟨(J2, some (.int (nI w1))), ⟨fun j hj => ?_, fun j hj => ?_⟩, fun P ih => ?_⟩
    · by_cases q : j = v
      · rw [q]; exact a1
      · exact ((a2 104 j (by omega)).trans (ups_ne _ _ (by omega))).trans (h1 j (by omega))
    · exact ((a2 103 j (by omega)).trans (ups_ne _ _ (by omega))).trans (h2 j hj)
    · show mx_R k_Ref_moreBy (mx_Cal mx_tab d) 2 [some (.ref 94), some (.int (nI m)), some (.int (nI v)), s.2] [] (mk I s.1) P
      rw [x_Ref_moreBy_2]
      simp (disch := omega) only [x_Ref_moreBy_3, x_Ref_moreBy_5, x_Ref_moreBy_8, x_Ref_moreBy_9, x_Ref_moreBy_12, x_Ref_moreBy_13, x_Ref_moreBy_14, x_Ref_moreBy_15, x_Ref_moreBy_16, mk_I, mk_J, mk_Q, mk_n, mk_sI, mk_sJ, Option.toList_some, Option.toList_none, List.cons_append, List.nil_append, true_and, and_true, ↓reduceIte, leT, leF, ltT, ltF, eqF, lt0F, le0T, le0F, eq0F, natT, nI_clamp, nI_1, if_true, if_false, not_true_eq_false, not_false_eq_true, z_00, z_10, eq_self, true_or, or_true, or_false, false_or, oc_94, rt_94_0, rt_94_1, rt_94_3, rt_94_8, rt_94_9, rt_94_10, rt_94_11, rt_94_12, rt_94_15, rt_94_16, rt_94_18, rt_94_21, rt_94_22, rt_94_23, rt_94_24, oa_104, l82, nI_clamp]
      refine hw P ?_
      simp (disch := omega) only [x_Ref_moreBy_50, x_Ref_moreBy_53, nI_1]
      exact ih)
  obtain ⟨J3, hQ3, hP3⟩ := lqx (cl := k_Ref_moreBy) (C := mx_Cal mx_tab d) (pc := 58) (i0 := 0) (n := 82) (fun v (_ : mx_J) => [some (.ref 94), some (.int (nI m)), some (.int (nI v)), w]) (fun J' => mk I J') (fun v J' => (∀ j, j < v → J' 103 j = lN (wayS m W j)) ∧ ∀ j, J' 104 j = J1 104 j) (s0 := J1) (Nat.zero_le _) ⟨fun j hj => absurd hj (Nat.not_lt_zero j), fun _ => rfl⟩ (fun v J' _ hv hQ => by
    obtain ⟨h1, h2⟩ := hQ
    have e := (h2 v).trans (hQ1 v hv)
    refine ⟨mx_ups J' 103 v (lN (wayS m W v)), ⟨fun j hj => ?_, fun j => by rw [ups_ne _ _ (by omega)]; exact h2 j⟩, fun P ih => ?_⟩
    · by_cases q : j = v
      · subst q; exact ups_same _ _ _ _
      · rw [ups_ne _ _ (by omega)]; exact h1 j (by omega)
    · rw [x_Ref_moreBy_58]
      simp (disch := omega) only [x_Ref_moreBy_59, x_Ref_moreBy_61, x_Ref_moreBy_64, x_Ref_moreBy_65, x_Ref_moreBy_68, x_Ref_moreBy_69, x_Ref_moreBy_70, x_Ref_moreBy_73, x_Ref_moreBy_74, x_Ref_moreBy_75, x_Ref_moreBy_76, x_Ref_moreBy_79, x_Ref_moreBy_82, mk_I, mk_J, mk_Q, mk_n, mk_sI, mk_sJ, Option.toList_some, Option.toList_none, List.cons_append, List.nil_append, true_and, and_true, ↓reduceIte, leT, leF, ltT, ltF, eqF, lt0F, le0T, le0F, eq0F, natT, nI_clamp, nI_1, if_true, if_false, not_true_eq_false, not_false_eq_true, z_00, z_10, eq_self, true_or, or_true, or_false, false_or, oc_94, rt_94_0, rt_94_1, rt_94_3, rt_94_8, rt_94_9, rt_94_10, rt_94_11, rt_94_12, rt_94_15, rt_94_16, rt_94_18, rt_94_21, rt_94_22, rt_94_23, rt_94_24, oa_103, oa_104, l82, nI_clamp, e, nI_1]
      exact ih)
  refine ⟨J3, hQ3.1, ?_⟩
  refine mx_Cal_in (ls := [some (.ref 94), some (.int (nI m)), none, none]) tab_212 (by rw [mx_rcv, oc_94]; trivial) (Nat.le_of_ble_eq_true rfl) rfl ?_
  simp only [x_Ref_moreBy_0, x_Ref_moreBy_1]
  refine hP _ ?_
  show mx_R k_Ref_moreBy (mx_Cal mx_tab d) 2 [some (.ref 94), some (.int (nI m)), some (.int (nI 82)), w] [] (mk I J1) _
  rw [x_Ref_moreBy_2]
  simp (disch := omega) only [x_Ref_moreBy_3, x_Ref_moreBy_5, x_Ref_moreBy_56, x_Ref_moreBy_57, ↓reduceIte, leT, leF, ltT, ltF, eqF, lt0F, le0T, le0F, eq0F, natT, nI_clamp, nI_1, if_true, if_false, not_true_eq_false, not_false_eq_true, z_00, z_10, eq_self, true_or, or_true, or_false, false_or, l82]
  refine hP3 _ ?_
  rw [x_Ref_moreBy_58]
  simp (disch := omega) only [x_Ref_moreBy_59, x_Ref_moreBy_61, x_Ref_moreBy_64, x_Ref_moreBy_65, x_Ref_moreBy_68, x_Ref_moreBy_69, x_Ref_moreBy_70, x_Ref_moreBy_73, x_Ref_moreBy_74, x_Ref_moreBy_75, x_Ref_moreBy_76, x_Ref_moreBy_79, x_Ref_moreBy_82, ↓reduceIte, leT, leF, ltT, ltF, eqF, lt0F, le0T, le0F, eq0F, natT, nI_clamp, nI_1, if_true, if_false, not_true_eq_false, not_false_eq_true, z_00, z_10, eq_self, true_or, or_true, or_false, false_or, l82]
  exact ⟨trivial, trivial⟩
theorem q_isLive {d k n : Nat} {I : mx_I} {K M T F pl : Nat → Nat} (hr : RI I n K M T F pl) (J : mx_J) (hk : k < n) : mx_Cal mx_tab (d + 2) 211 [.ref 94, .int (nI k)] (mk I J) (some (.int (if K k = 3 ∨ K k = 6 then 1 else 0))) (mk I J) := by
  have b1 := (hr.2.2 k hk).1
  have hq := q_itsK (d := 0) hr J hk
  by_cases h3 : K k = 3
  · rw [if_pos (Or.inl h3)]
    have e3 : (nI (K k) = 3) = True := eq_true (by rw [h3]; rfl)
    refine mx_Cal_in (ls := [some (.ref 94), some (.int (nI k))]) tab_211 (by rw [mx_rcv, oc_94]; trivial) (Nat.le_of_ble_eq_true rfl) rfl ?_
    simp (disch := omega) only [x_Ref_isLive_0, x_Ref_isLive_1, x_Ref_isLive_2, x_Ref_isLive_3, x_Ref_isLive_6, x_Ref_isLive_7, x_Ref_isLive_10, x_Ref_isLive_11, x_Ref_isLive_12, x_Ref_isLive_13, x_Ref_isLive_16, x_Ref_isLive_18, x_Ref_isLive_21, x_Ref_isLive_22, x_Ref_isLive_25, x_Ref_isLive_26, mk_I, mk_J, mk_Q, mk_n, mk_sI, mk_sJ, Option.toList_some, Option.toList_none, List.cons_append, List.nil_append, true_and, and_true, ↓reduceIte, leT, leF, ltT, ltF, eqF, lt0F, le0T, le0F, eq0F, natT, nI_clamp, nI_1, if_true, if_false, not_true_eq_false, not_false_eq_true, z_00, z_10, eq_self, true_or, or_true, or_false, false_or, mx_call hq _, e3]
  · have e3 : (nI (K k) = 3) = False := eqF (b := 3) h3 (by omega) (by omega)
    by_cases h6 : K k = 6
    · rw [if_pos (Or.inr h6)]
      have e6 : (nI (K k) = 6) = True := eq_true (by rw [h6]; rfl)
      refine mx_Cal_in (ls := [some (.ref 94), some (.int (nI k))]) tab_211 (by rw [mx_rcv, oc_94]; trivial) (Nat.le_of_ble_eq_true rfl) rfl ?_
      simp (disch := omega) only [x_Ref_isLive_0, x_Ref_isLive_1, x_Ref_isLive_2, x_Ref_isLive_3, x_Ref_isLive_6, x_Ref_isLive_7, x_Ref_isLive_10, x_Ref_isLive_11, x_Ref_isLive_12, x_Ref_isLive_13, x_Ref_isLive_16, x_Ref_isLive_18, x_Ref_isLive_21, x_Ref_isLive_22, x_Ref_isLive_25, x_Ref_isLive_26, mk_I, mk_J, mk_Q, mk_n, mk_sI, mk_sJ, Option.toList_some, Option.toList_none, List.cons_append, List.nil_append, true_and, and_true, ↓reduceIte, leT, leF, ltT, ltF, eqF, lt0F, le0T, le0F, eq0F, natT, nI_clamp, nI_1, if_true, if_false, not_true_eq_false, not_false_eq_true, z_00, z_10, eq_self, true_or, or_true, or_false, false_or, mx_call hq _, e3, e6]
    · rw [if_neg (or_nn h3 h6)]
      have e6 : (nI (K k) = 6) = False := eqF (b := 6) h6 (by omega) (by omega)
      refine mx_Cal_in (ls := [some (.ref 94), some (.int (nI k))]) tab_211 (by rw [mx_rcv, oc_94]; trivial) (Nat.le_of_ble_eq_true rfl) rfl ?_
      simp (disch := omega) only [x_Ref_isLive_0, x_Ref_isLive_1, x_Ref_isLive_2, x_Ref_isLive_3, x_Ref_isLive_6, x_Ref_isLive_7, x_Ref_isLive_10, x_Ref_isLive_11, x_Ref_isLive_12, x_Ref_isLive_13, x_Ref_isLive_16, x_Ref_isLive_18, x_Ref_isLive_21, x_Ref_isLive_22, x_Ref_isLive_25, x_Ref_isLive_26, mk_I, mk_J, mk_Q, mk_n, mk_sI, mk_sJ, Option.toList_some, Option.toList_none, List.cons_append, List.nil_append, true_and, and_true, ↓reduceIte, leT, leF, ltT, ltF, eqF, lt0F, le0T, le0F, eq0F, natT, nI_clamp, nI_1, if_true, if_false, not_true_eq_false, not_false_eq_true, z_00, z_10, eq_self, true_or, or_true, or_false, false_or, mx_call hq _, e3, e6]
def otF (K F : Nat → Nat) (i : Nat) : Nat → Nat := fun q => if F q = 0 ∧ ¬ (q < i ∧ lvN K F q = true) then 0 else 1
theorem otF_0 (K F : Nat → Nat) (i q : Nat) : (otF K F i q = 0) ↔ (F q = 0 ∧ ¬ (q < i ∧ lvN K F q = true)) := by
  unfold otF
  by_cases h : F q = 0 ∧ ¬ (q < i ∧ lvN K F q = true)
  · rw [if_pos h]; exact ⟨fun _ => h, fun _ => rfl⟩
  · rw [if_neg h]; exact ⟨fun z => absurd z (by decide), fun z => absurd z h⟩
theorem ot_start (K F : Nat → Nat) (n : Nat) : lfN (otF K F 0) n = lfN F n := lfN_congr (fun i _ => by
  rw [otF_0]
  exact ⟨fun q => q.1, fun q => ⟨q, fun z => absurd z.1 (Nat.not_lt_zero i)⟩⟩)
theorem ot_step {n i : Nat} {K F : Nat → Nat} (h9 : n ≤ 9) (hi : i < n) (hl : lvN K F i = true) : lfN (otF K F i) n &&& (511 - 2 ^ i) = lfN (otF K F (i + 1)) n := by
  have h1 := lfN_512 (otF K F i) h9
  have h2 := lfN_512 (otF K F (i + 1)) h9
  refine eq512 (and_512 _ h1) h2 (fun j hj => ?_)
  rw [Nat.testBit_and, tb_sub (p512 _ (by omega)), lfN_bit, lfN_bit, Nat.testBit_two_pow]
  have a1 := otF_0 K F i j
  have a2 := otF_0 K F (i + 1) j
  by_cases hjn : j < n
  · by_cases q1 : i = j
    · subst q1
      have b2 : ¬ otF K F (i + 1) i = 0 := fun q => (a2.mp q).2 ⟨by omega, hl⟩
      simp [b2]
    · by_cases q2 : otF K F i j = 0
      · have b2 : otF K F (i + 1) j = 0 := a2.mpr ⟨(a1.mp q2).1, fun z => (a1.mp q2).2 ⟨by omega, z.2⟩⟩
        simp [hjn, hj, q1, q2, b2]
      · have b2 : ¬ otF K F (i + 1) j = 0 := fun q => q2 (a1.mpr ⟨(a2.mp q).1, fun z => (a2.mp q).2 ⟨by omega, z.2⟩⟩)
        simp [hjn, hj, q2, b2]
  · simp [hjn]
theorem ot_skip {n i : Nat} {K F : Nat → Nat} (hl : lvN K F i = false) : lfN (otF K F i) n = lfN (otF K F (i + 1)) n := lfN_congr (fun j hj => by
  rw [otF_0, otF_0]
  refine ⟨fun q => ⟨q.1, fun z => ?_⟩, fun q => ⟨q.1, fun z => q.2 ⟨by omega, z.2⟩⟩⟩
  by_cases h : j = i
  · subst h
    rw [hl] at z
    exact absurd z.2 (by decide)
  · exact q.2 ⟨by omega, z.2⟩)
theorem ot_sum {n : Nat} {K F : Nat → Nat} (g : Nat → Nat) : sN (fun i => if (lfN (otF K F n) n).testBit i = true then g i else 0) n = sN (fun i => if F i = 0 ∧ lvN K F i = false then g i else 0) n := sN_congr (fun i hi => by
  have a1 := otF_0 K F n i
  rw [lfN_bit]
  by_cases h : F i = 0 ∧ lvN K F i = false
  · have b : otF K F n i = 0 := a1.mpr ⟨h.1, fun z => by rw [h.2] at z; exact absurd z.2 (by decide)⟩
    rw [if_pos h, if_pos (by simp [hi, b])]
  · have b : ¬ otF K F n i = 0 := fun q => by
      have z := a1.mp q
      refine h ⟨z.1, ?_⟩
      cases hl : lvN K F i with
      | false => rfl
      | true => exact absurd ⟨hi, hl⟩ z.2
    rw [if_neg h, if_neg (by simp [b])])
theorem fit_wi {a b S A B v : Nat} (ha : a ≤ 9999) (hb : b ≤ 9999) (hS : S + A < 20000) (hS2 : S + B < 20000) (hv : v < 82) (hS3 : S ≤ 9999) : (fitV (nI a - nI b - nI S - nI v) A B = 1) ↔ (¬ nI v < nI a - nI b - nI S - nI B ∧ ¬ nI a - nI b - nI S - nI A < nI v) := by
  have e1 := (bg0 (a := a) (b := b) (M := S + v) (by omega) (by omega) (by omega)).2.1
  have e2 := (bg0 (a := a) (b := b) (M := S + B) (by omega) (by omega) (by omega)).2.1
  have e3 := (bg0 (a := a) (b := b) (M := S + A) (by omega) (by omega) (by omega)).2.1
  rw [← nI_add, ← sub_sub'] at e1 e2 e3
  have eA : (nI A).toInt = (A : Int) := nI_toInt (by omega)
  have eB : (nI B).toInt = (B : Int) := nI_toInt (by omega)
  have ev : (nI v).toInt = (v : Int) := nI_toInt (by omega)
  unfold fitV
  by_cases h1 : nI a - nI b - nI S - nI v < nI A
  · rw [if_pos h1]
    rw [Int32.lt_iff_toInt_lt] at h1
    refine ⟨fun z => absurd z (by decide), fun z => absurd (?_) z.2⟩
    rw [Int32.lt_iff_toInt_lt]
    omega
  · rw [if_neg h1]
    rw [Int32.lt_iff_toInt_lt] at h1
    by_cases h2 : nI B < nI a - nI b - nI S - nI v
    · rw [if_pos h2]
      rw [Int32.lt_iff_toInt_lt] at h2
      refine ⟨fun z => absurd z (by decide), fun z => absurd (?_) z.1⟩
      rw [Int32.lt_iff_toInt_lt]
      omega
    · rw [if_neg h2]
      rw [Int32.lt_iff_toInt_lt] at h2
      refine ⟨fun _ => ⟨?_, ?_⟩, fun _ => rfl⟩ <;> rw [Int32.lt_iff_toInt_lt] <;> omega
theorem fit01 (t : Int32) (A B : Nat) : fitV t A B = 0 ∨ fitV t A B = 1 := by
  rcases fitV_cases t A B with h | h
  · exact Or.inl h
  · exact Or.inr h.1
theorem q_rOdds {n a b : Nat} {x : Int32} {I : mx_I} {K M T F pl : Nat → Nat} (hr : RI I n K M T F pl) (a9 : a ≤ 9999) (b9 : b ≤ 9999) (ra : I 95 1 = nI a) (rb : I 95 0 = nI b) (hLM : ∀ i, i < n → LN K M T i ≤ 1075 ∧ MN K M T i ≤ 1075) (J : mx_J) : ∃ J' t w1 w2, ∀ P, mx_R k_Ref_odds (mx_Cal mx_tab 299) 194 [some (.ref 94), some (.int x), some (.long (lN (allN K M F n))), none, some (.int t), some (.int w1), some (.long (lN (wiN (nI a - nI b - nI (sN (tlN K T F) n)) (wayN K M F n) (sN (leN K M T F) n) (sN (meN K M T F) n)))), none, some (.int w2), none] [] (mk I J') P → mx_R k_Ref_odds (mx_Cal mx_tab 299) 16 [some (.ref 94), some (.int x), none, none, none, none, none, none, none, none] [] (mk I J) P := by
  have h9 := hr.1
  have hn := hr.2.1
  have l82 : (82 : Int32) = nI 82 := rfl
  have hT : ∀ i, i < n → T i < 1000 := fun i hi => (hr.2.2 i hi).2.2.1
  have s1 := sN_le (tlN_le (K := K) (F := F) hT)
  have s2 := sN_le (leN_le (F := F) (fun i hi => (hLM i hi).1))
  have s3 := sN_le (meN_le (F := F) (fun i hi => (hLM i hi).2))
  have m1 : n * 999 ≤ 9 * 999 := Nat.mul_le_mul_right 999 h9
  have m2 : n * 1075 ≤ 9 * 1075 := Nat.mul_le_mul_right 1075 h9
  obtain ⟨J0, hQ0, hP0⟩ := lqx (cl := k_Ref_odds) (C := mx_Cal mx_tab 299) (pc := 18) (i0 := 0) (n := 82) (fun v (_ : mx_J) => [some (.ref 94), some (.int x), some (.int (nI v)), none, none, none, none, none, none, none]) (fun J' => mk I J') (fun v J' => ∀ j, j < v → J' 103 j = lN (wayN K M F 0 j)) (s0 := J) (Nat.zero_le _) (fun j hj => absurd hj (Nat.not_lt_zero j)) (fun v J' _ hv hQ => by
    refine ⟨mx_ups J' 103 v (lN (if v = 0 then 1 else 0)), fun j hj => ?_, fun P ih => ?_⟩
    · by_cases q : j = v
      · subst q; exact ups_same _ _ _ _
      · rw [ups_ne _ _ (by omega)]; exact hQ j (by omega)
    · rw [x_Ref_odds_18]
      by_cases q : v = 0
      · have q' : (v = 0) = True := eq_true q
        have q2 : (nI v = 0) = True := by rw [q]; exact eq_true rfl
        simp (disch := omega) only [x_Ref_odds_19, x_Ref_odds_21, x_Ref_odds_24, x_Ref_odds_25, x_Ref_odds_28, x_Ref_odds_29, x_Ref_odds_30, x_Ref_odds_33, x_Ref_odds_34, x_Ref_odds_37, x_Ref_odds_38, x_Ref_odds_39, x_Ref_odds_42, mk_I, mk_J, mk_Q, mk_n, mk_sI, mk_sJ, Option.toList_some, Option.toList_none, List.cons_append, List.nil_append, true_and, and_true, ↓reduceIte, leT, leF, ltT, ltF, eqF, lt0F, le0T, le0F, eq0F, natT, nI_clamp, nI_1, if_true, if_false, not_true_eq_false, not_false_eq_true, z_00, z_10, eq_self, true_or, or_true, or_false, false_or, oc_94, rt_94_0, rt_94_1, rt_94_3, rt_94_8, rt_94_9, rt_94_10, rt_94_11, rt_94_12, rt_94_15, rt_94_16, rt_94_18, rt_94_21, rt_94_22, rt_94_23, rt_94_24, oa_103, l82, nI_clamp, q2, nI_1]
        simp only [q', if_true] at ih
        exact ih
      · have q' : (v = 0) = False := eq_false q
        have q2 : (nI v = 0) = False := eq0F (by omega) (by omega)
        simp (disch := omega) only [x_Ref_odds_19, x_Ref_odds_21, x_Ref_odds_24, x_Ref_odds_25, x_Ref_odds_28, x_Ref_odds_29, x_Ref_odds_30, x_Ref_odds_33, x_Ref_odds_34, x_Ref_odds_37, x_Ref_odds_38, x_Ref_odds_39, x_Ref_odds_42, mk_I, mk_J, mk_Q, mk_n, mk_sI, mk_sJ, Option.toList_some, Option.toList_none, List.cons_append, List.nil_append, true_and, and_true, ↓reduceIte, leT, leF, ltT, ltF, eqF, lt0F, le0T, le0F, eq0F, natT, nI_clamp, nI_1, if_true, if_false, not_true_eq_false, not_false_eq_true, z_00, z_10, eq_self, true_or, or_true, or_false, false_or, oc_94, rt_94_0, rt_94_1, rt_94_3, rt_94_8, rt_94_9, rt_94_10, rt_94_11, rt_94_12, rt_94_15, rt_94_16, rt_94_18, rt_94_21, rt_94_22, rt_94_23, rt_94_24, oa_103, l82, nI_clamp, q2, nI_1]
        simp only [q', if_false] at ih
        exact ih)
  obtain ⟨J1, hQ1, hP1⟩ := lqx (cl := k_Ref_odds) (C := mx_Cal mx_tab 299) (pc := 62) (i0 := 0) (n := n) (fun i (_ : mx_J) => [some (.ref 94), some (.int x), some (.long (lN (allN K M F i))), none, some (.int (nI a - nI b - nI (sN (tlN K T F) i))), some (.int (nI (lfN (otF K F i) n))), some (.int (nI i)), none, none, none]) (fun J' => mk I J') (fun i J' => ∀ j, j < 82 → J' 103 j = lN (wayN K M F i j)) (s0 := J0) (Nat.zero_le n) hQ0 (fun i J' _ hi hQ => by
    obtain ⟨b1, b2, b3, b4, b5, d1, d2, d3, d4, d5⟩ := hr.2.2 i hi
    have o1 := lfN_512 (otF K F i) h9
    by_cases hlv : F i = 0 ∧ (K i = 3 ∨ K i = 6)
    · obtain ⟨hF, hk⟩ := hlv
      have p5 := p512 i (by omega)
      have hl := lvN_t (K := K) hF hk
      have ho := q_isLive (d := 0) hr J' hi
      rw [if_pos hk] at ho
      obtain ⟨J2, t1, t2⟩ := q_moreBy (d := 0) (m := M i) (W := wayN K M F i) I J' b2 hQ
      refine ⟨J2, fun j hj => by rw [t1 j hj, wayN_t hl], fun P ih => ?_⟩
      have u1 : tlN K T F i = T i := if_pos hl
      rw [sN, u1, ← nI_add, ← sub_sub', allN_t hl, ← ot_step h9 hi hl] at ih
      rw [x_Ref_odds_62]
      simp (disch := omega) only [x_Ref_odds_64, x_Ref_odds_65, x_Ref_odds_68, x_Ref_odds_70, x_Ref_odds_71, x_Ref_odds_74, x_Ref_odds_75, x_Ref_odds_77, x_Ref_odds_80, x_Ref_odds_83, x_Ref_odds_84, x_Ref_odds_86, x_Ref_odds_89, x_Ref_odds_92, x_Ref_odds_93, x_Ref_odds_94, x_Ref_odds_96, x_Ref_odds_97, x_Ref_odds_100, x_Ref_odds_103, x_Ref_odds_104, x_Ref_odds_105, x_Ref_odds_107, x_Ref_odds_108, x_Ref_odds_111, x_Ref_odds_112, x_Ref_odds_113, x_Ref_odds_114, x_Ref_odds_115, x_Ref_odds_116, x_Ref_odds_118, x_Ref_odds_119, x_Ref_odds_121, x_Ref_odds_122, x_Ref_odds_125, x_Ref_odds_126, x_Ref_odds_128, x_Ref_odds_130, x_Ref_odds_131, x_Ref_odds_133, x_Ref_odds_134, x_Ref_odds_135, x_Ref_odds_136, x_Ref_odds_137, x_Ref_odds_139, x_Ref_odds_142, mk_I, mk_J, mk_Q, mk_n, mk_sI, mk_sJ, Option.toList_some, Option.toList_none, List.cons_append, List.nil_append, true_and, and_true, ↓reduceIte, leT, leF, ltT, ltF, eqF, lt0F, le0T, le0F, eq0F, natT, nI_clamp, nI_1, if_true, if_false, not_true_eq_false, not_false_eq_true, z_00, z_10, eq_self, true_or, or_true, or_false, false_or, oc_94, rt_94_0, rt_94_1, rt_94_3, rt_94_8, rt_94_9, rt_94_10, rt_94_11, rt_94_12, rt_94_15, rt_94_16, rt_94_18, rt_94_21, rt_94_22, rt_94_23, rt_94_24, or_95, oa_95, tc_0, kc_0, k0_0, tc_1, kc_1, k0_1, tc_2, kc_2, k0_2, tc_3, kc_3, k0_3, tc_4, kc_4, k0_4, tc_5, kc_5, k0_5, tc_6, kc_6, k0_6, tc_7, kc_7, k0_7, hn, mx_call (q_rIsL (d := 0) hr _ hi) _, hF, mx_call ho _, mx_call (q_itsM (d := 0) hr _ hi) _, mx_call t2 _, mx_call (q_itsT (d := 0) hr _ hi) _, nI_1, nI_l, lN_mul, sh1, andn, p512]
      exact ih
    · have hl := lvN_f (K := K) (F := F) (q := i) hlv
      refine ⟨J', fun j hj => by rw [hQ j hj, wayN_f hl], fun P ih => ?_⟩
      have u1 : tlN K T F i = 0 := if_neg (by rw [hl]; decide)
      rw [sN, u1, Nat.add_zero, allN_f hl, ← ot_skip hl] at ih
      by_cases hF : F i = 0
      · have ho := q_isLive (d := 0) hr J' hi
        rw [if_neg (fun z => hlv ⟨hF, z⟩)] at ho
        rw [x_Ref_odds_62]
        simp (disch := omega) only [x_Ref_odds_64, x_Ref_odds_65, x_Ref_odds_68, x_Ref_odds_70, x_Ref_odds_71, x_Ref_odds_74, x_Ref_odds_75, x_Ref_odds_77, x_Ref_odds_80, x_Ref_odds_83, x_Ref_odds_84, x_Ref_odds_86, x_Ref_odds_89, x_Ref_odds_92, x_Ref_odds_93, x_Ref_odds_94, x_Ref_odds_96, x_Ref_odds_97, x_Ref_odds_100, x_Ref_odds_103, x_Ref_odds_104, x_Ref_odds_105, x_Ref_odds_107, x_Ref_odds_108, x_Ref_odds_111, x_Ref_odds_112, x_Ref_odds_113, x_Ref_odds_114, x_Ref_odds_115, x_Ref_odds_116, x_Ref_odds_118, x_Ref_odds_119, x_Ref_odds_121, x_Ref_odds_122, x_Ref_odds_125, x_Ref_odds_126, x_Ref_odds_128, x_Ref_odds_130, x_Ref_odds_131, x_Ref_odds_133, x_Ref_odds_134, x_Ref_odds_135, x_Ref_odds_136, x_Ref_odds_137, x_Ref_odds_139, x_Ref_odds_142, mk_I, mk_J, mk_Q, mk_n, mk_sI, mk_sJ, Option.toList_some, Option.toList_none, List.cons_append, List.nil_append, true_and, and_true, ↓reduceIte, leT, leF, ltT, ltF, eqF, lt0F, le0T, le0F, eq0F, natT, nI_clamp, nI_1, if_true, if_false, not_true_eq_false, not_false_eq_true, z_00, z_10, eq_self, true_or, or_true, or_false, false_or, oc_94, rt_94_0, rt_94_1, rt_94_3, rt_94_8, rt_94_9, rt_94_10, rt_94_11, rt_94_12, rt_94_15, rt_94_16, rt_94_18, rt_94_21, rt_94_22, rt_94_23, rt_94_24, or_95, oa_95, tc_0, kc_0, k0_0, tc_1, kc_1, k0_1, tc_2, kc_2, k0_2, tc_3, kc_3, k0_3, tc_4, kc_4, k0_4, tc_5, kc_5, k0_5, tc_6, kc_6, k0_6, tc_7, kc_7, k0_7, hn, mx_call (q_rIsL (d := 0) hr _ hi) _, hF, mx_call ho _, nI_1]
        exact ih
      · rw [x_Ref_odds_62]
        simp (disch := omega) only [x_Ref_odds_64, x_Ref_odds_65, x_Ref_odds_68, x_Ref_odds_70, x_Ref_odds_71, x_Ref_odds_74, x_Ref_odds_75, x_Ref_odds_77, x_Ref_odds_80, x_Ref_odds_83, x_Ref_odds_84, x_Ref_odds_86, x_Ref_odds_89, x_Ref_odds_92, x_Ref_odds_93, x_Ref_odds_94, x_Ref_odds_96, x_Ref_odds_97, x_Ref_odds_100, x_Ref_odds_103, x_Ref_odds_104, x_Ref_odds_105, x_Ref_odds_107, x_Ref_odds_108, x_Ref_odds_111, x_Ref_odds_112, x_Ref_odds_113, x_Ref_odds_114, x_Ref_odds_115, x_Ref_odds_116, x_Ref_odds_118, x_Ref_odds_119, x_Ref_odds_121, x_Ref_odds_122, x_Ref_odds_125, x_Ref_odds_126, x_Ref_odds_128, x_Ref_odds_130, x_Ref_odds_131, x_Ref_odds_133, x_Ref_odds_134, x_Ref_odds_135, x_Ref_odds_136, x_Ref_odds_137, x_Ref_odds_139, x_Ref_odds_142, mk_I, mk_J, mk_Q, mk_n, mk_sI, mk_sJ, Option.toList_some, Option.toList_none, List.cons_append, List.nil_append, true_and, and_true, ↓reduceIte, leT, leF, ltT, ltF, eqF, lt0F, le0T, le0F, eq0F, natT, nI_clamp, nI_1, if_true, if_false, not_true_eq_false, not_false_eq_true, z_00, z_10, eq_self, true_or, or_true, or_false, false_or, oc_94, rt_94_0, rt_94_1, rt_94_3, rt_94_8, rt_94_9, rt_94_10, rt_94_11, rt_94_12, rt_94_15, rt_94_16, rt_94_18, rt_94_21, rt_94_22, rt_94_23, rt_94_24, or_95, oa_95, tc_0, kc_0, k0_0, tc_1, kc_1, k0_1, tc_2, kc_2, k0_2, tc_3, kc_3, k0_3, tc_4, kc_4, k0_4, tc_5, kc_5, k0_5, tc_6, kc_6, k0_6, tc_7, kc_7, k0_7, hn, mx_call (q_rIsL (d := 0) hr _ hi) _, hF, nI_1]
        exact ih)
  have o1 := lfN_512 (otF K F n) h9
  refine ⟨J1, nI a - nI b - nI (sN (tlN K T F) n), nI (lfN (otF K F n) n), nI 82, fun P ih => ?_⟩
  rw [x_Ref_odds_16, x_Ref_odds_17]
  refine hP0 P ?_
  rw [x_Ref_odds_18]
  simp (disch := omega) only [x_Ref_odds_19, x_Ref_odds_21, x_Ref_odds_45, x_Ref_odds_46, x_Ref_odds_47, x_Ref_odds_48, x_Ref_odds_51, x_Ref_odds_53, x_Ref_odds_54, x_Ref_odds_57, x_Ref_odds_59, x_Ref_odds_60, mk_I, mk_J, mk_Q, mk_n, mk_sI, mk_sJ, Option.toList_some, Option.toList_none, List.cons_append, List.nil_append, true_and, and_true, ↓reduceIte, leT, leF, ltT, ltF, eqF, lt0F, le0T, le0F, eq0F, natT, nI_clamp, nI_1, if_true, if_false, not_true_eq_false, not_false_eq_true, z_00, z_10, eq_self, true_or, or_true, or_false, false_or, oc_94, rt_94_0, rt_94_1, rt_94_3, rt_94_8, rt_94_9, rt_94_10, rt_94_11, rt_94_12, rt_94_15, rt_94_16, rt_94_18, rt_94_21, rt_94_22, rt_94_23, rt_94_24, or_95, oa_95, tc_0, kc_0, k0_0, tc_1, kc_1, k0_1, tc_2, kc_2, k0_2, tc_3, kc_3, k0_3, tc_4, kc_4, k0_4, tc_5, kc_5, k0_5, tc_6, kc_6, k0_6, tc_7, kc_7, k0_7, l82, mx_call (q_there (d := 0) _) _, ra, rb, mx_call (q_rLeftSet (d := 0) hr _) _]
  have z : nI a - nI b - nI (sN (tlN K T F) 0) = nI a - nI b := by
    show nI a - nI b - 0 = nI a - nI b
    exact Int32.sub_zero _
  have hP' := hP1 P
  rw [z, ot_start] at hP'
  refine hP' ?_
  rw [x_Ref_odds_62]
  simp (disch := omega) only [x_Ref_odds_64, x_Ref_odds_65, x_Ref_odds_68, x_Ref_odds_70, x_Ref_odds_71, x_Ref_odds_145, x_Ref_odds_146, x_Ref_odds_148, x_Ref_odds_149, mk_I, mk_J, mk_Q, mk_n, mk_sI, mk_sJ, Option.toList_some, Option.toList_none, List.cons_append, List.nil_append, true_and, and_true, ↓reduceIte, leT, leF, ltT, ltF, eqF, lt0F, le0T, le0F, eq0F, natT, nI_clamp, nI_1, if_true, if_false, not_true_eq_false, not_false_eq_true, z_00, z_10, eq_self, true_or, or_true, or_false, false_or, oc_94, rt_94_0, rt_94_1, rt_94_3, rt_94_8, rt_94_9, rt_94_10, rt_94_11, rt_94_12, rt_94_15, rt_94_16, rt_94_18, rt_94_21, rt_94_22, rt_94_23, rt_94_24, or_95, oa_95, tc_0, kc_0, k0_0, tc_1, kc_1, k0_1, tc_2, kc_2, k0_2, tc_3, kc_3, k0_3, tc_4, kc_4, k0_4, tc_5, kc_5, k0_5, tc_6, kc_6, k0_6, tc_7, kc_7, k0_7, hn]
  refine lq (i0 := 0) (n := 82) (fun v => [some (.ref 94), some (.int x), some (.long (lN (allN K M F n))), none, some (.int (nI a - nI b - nI (sN (tlN K T F) n))), some (.int (nI (lfN (otF K F n) n))), some (.long (lN (sN (fun v => if ¬ nI v < nI a - nI b - nI (sN (tlN K T F) n) - nI (sN (meN K M T F) n) ∧ ¬ nI a - nI b - nI (sN (tlN K T F) n) - nI (sN (leN K M T F) n) < nI v then wayN K M F n v else 0) v))), none, some (.int (nI v)), none]) (fun _ => mk I J1) (Nat.zero_le _) rfl rfl (fun v _ hv ih2 => ?_) ?_
  · have hf := q_rFits (d := 0) hr J1 o1 (nI a - nI b - nI (sN (tlN K T F) n) - nI v)
    rw [ot_sum, ot_sum] at hf
    have e1 := hQ1 v hv
    have fw := fit_wi (a := a) (b := b) (S := sN (tlN K T F) n) (A := sN (leN K M T F) n) (B := sN (meN K M T F) n) (v := v) a9 b9 (by omega) (by omega) hv (by omega)
    have hf2 : mx_Cal mx_tab 4 176 [.ref 94, .int (nI (lfN (otF K F n) n)), .int (nI a - nI b - nI (sN (tlN K T F) n) - nI v)] (mk I J1) (some (.int (fitV (nI a - nI b - nI (sN (tlN K T F) n) - nI v) (sN (leN K M T F) n) (sN (meN K M T F) n)))) (mk I J1) := hf
    rw [sN] at ih2
    rw [x_Ref_odds_151]
    rcases fit01 (nI a - nI b - nI (sN (tlN K T F) n) - nI v) (sN (leN K M T F) n) (sN (meN K M T F) n) with g | g
    · rw [if_neg (fun q => by rw [fw.mpr q] at g; exact absurd g (by decide)), Nat.add_zero] at ih2
      rw [g] at hf2
      simp (disch := omega) only [x_Ref_odds_153, x_Ref_odds_155, x_Ref_odds_158, x_Ref_odds_160, x_Ref_odds_161, x_Ref_odds_163, x_Ref_odds_165, x_Ref_odds_167, x_Ref_odds_168, x_Ref_odds_171, x_Ref_odds_174, x_Ref_odds_175, x_Ref_odds_178, x_Ref_odds_180, x_Ref_odds_181, x_Ref_odds_184, x_Ref_odds_185, x_Ref_odds_186, x_Ref_odds_188, x_Ref_odds_191, mk_I, mk_J, mk_Q, mk_n, mk_sI, mk_sJ, Option.toList_some, Option.toList_none, List.cons_append, List.nil_append, true_and, and_true, ↓reduceIte, leT, leF, ltT, ltF, eqF, lt0F, le0T, le0F, eq0F, natT, nI_clamp, nI_1, if_true, if_false, not_true_eq_false, not_false_eq_true, z_00, z_10, eq_self, true_or, or_true, or_false, false_or, oc_94, rt_94_0, rt_94_1, rt_94_3, rt_94_8, rt_94_9, rt_94_10, rt_94_11, rt_94_12, rt_94_15, rt_94_16, rt_94_18, rt_94_21, rt_94_22, rt_94_23, rt_94_24, or_95, oa_95, tc_0, kc_0, k0_0, tc_1, kc_1, k0_1, tc_2, kc_2, k0_2, tc_3, kc_3, k0_3, tc_4, kc_4, k0_4, tc_5, kc_5, k0_5, tc_6, kc_6, k0_6, tc_7, kc_7, k0_7, l82, mx_call hf2 _, nI_1, Int64.add_zero]
      exact ih2
    · rw [if_pos (fw.mp g)] at ih2
      rw [g] at hf2
      simp (disch := omega) only [x_Ref_odds_153, x_Ref_odds_155, x_Ref_odds_158, x_Ref_odds_160, x_Ref_odds_161, x_Ref_odds_163, x_Ref_odds_165, x_Ref_odds_167, x_Ref_odds_168, x_Ref_odds_171, x_Ref_odds_174, x_Ref_odds_175, x_Ref_odds_178, x_Ref_odds_180, x_Ref_odds_181, x_Ref_odds_184, x_Ref_odds_185, x_Ref_odds_186, x_Ref_odds_188, x_Ref_odds_191, mk_I, mk_J, mk_Q, mk_n, mk_sI, mk_sJ, Option.toList_some, Option.toList_none, List.cons_append, List.nil_append, true_and, and_true, ↓reduceIte, leT, leF, ltT, ltF, eqF, lt0F, le0T, le0F, eq0F, natT, nI_clamp, nI_1, if_true, if_false, not_true_eq_false, not_false_eq_true, z_00, z_10, eq_self, true_or, or_true, or_false, false_or, oc_94, rt_94_0, rt_94_1, rt_94_3, rt_94_8, rt_94_9, rt_94_10, rt_94_11, rt_94_12, rt_94_15, rt_94_16, rt_94_18, rt_94_21, rt_94_22, rt_94_23, rt_94_24, or_95, oa_95, tc_0, kc_0, k0_0, tc_1, kc_1, k0_1, tc_2, kc_2, k0_2, tc_3, kc_3, k0_3, tc_4, kc_4, k0_4, tc_5, kc_5, k0_5, tc_6, kc_6, k0_6, tc_7, kc_7, k0_7, oa_103, l82, mx_call hf2 _, nI_1, nI_clamp, e1, lN_add]
      exact ih2
  · rw [x_Ref_odds_151]
    simp (disch := omega) only [x_Ref_odds_153, x_Ref_odds_155, x_Ref_odds_158, x_Ref_odds_160, x_Ref_odds_161, x_Ref_odds_163, x_Ref_odds_165, x_Ref_odds_167, x_Ref_odds_168, x_Ref_odds_171, x_Ref_odds_174, x_Ref_odds_175, x_Ref_odds_178, x_Ref_odds_180, x_Ref_odds_181, x_Ref_odds_184, x_Ref_odds_185, x_Ref_odds_186, x_Ref_odds_188, x_Ref_odds_191, mk_I, mk_J, mk_Q, mk_n, mk_sI, mk_sJ, Option.toList_some, Option.toList_none, List.cons_append, List.nil_append, true_and, and_true, ↓reduceIte, leT, leF, ltT, ltF, eqF, lt0F, le0T, le0F, eq0F, natT, nI_clamp, nI_1, if_true, if_false, not_true_eq_false, not_false_eq_true, z_00, z_10, eq_self, true_or, or_true, or_false, false_or, oc_94, rt_94_0, rt_94_1, rt_94_3, rt_94_8, rt_94_9, rt_94_10, rt_94_11, rt_94_12, rt_94_15, rt_94_16, rt_94_18, rt_94_21, rt_94_22, rt_94_23, rt_94_24, or_95, oa_95, tc_0, kc_0, k0_0, tc_1, kc_1, k0_1, tc_2, kc_2, k0_2, tc_3, kc_3, k0_3, tc_4, kc_4, k0_4, tc_5, kc_5, k0_5, tc_6, kc_6, k0_6, tc_7, kc_7, k0_7, l82]
    exact ih
theorem op_odds {L : Nat} {xs : Nat → Int32} {I : mx_I} (hI : Inv L xs I) (x0 : Int32) : OpJ L xs I 120 213 [.int x0] := by
  obtain ⟨⟨n, pl, od, hit⟩, hcl, htp, hw, ht0, ht1⟩ := hI.1
  have ho := hit.2.2.2.1
  have hz5 := hit.2.2.2.2.2
  obtain ⟨K, M, T, F, hc, hr⟩ := hit.sk
  have h9 := hc.1
  have hn := hc.2.1
  have hm := hr.2.1
  obtain ⟨z0, a, b, c, a9, b9, c9, ca, ra, cb, rb, cc, rc⟩ := hcl
  have z0 : I 1 4 = I 95 3 := z0
  have ca : I 1 1 = nI a := ca
  have cb : I 1 2 = nI b := cb
  have cc : I 1 3 = nI c := cc
  intro J
  have cerr : ∀ (h : x0 < 0 ∨ 1 < x0), ∃ (v : Int64) (I1 I2 : mx_I) (J1 J2 : mx_J), mx_Cal mx_tab 300 120 [.ref 0, .int x0] (mk I J) (some (.long v)) (mk I1 J1) ∧ mx_Cal mx_tab 300 213 [.ref 94, .int x0] (mk I1 J1) (some (.long v)) (mk I2 J2) ∧ StatR L xs I1 ∧ Inv L xs I2 := fun h => by
    refine ⟨(-1000000000 - nI 1 : Int32).toInt64, eX I 1, eM (eX I 1) 1, J, J, ?_, ?_, hI.2.2.2.2.2.err 1, hI.err 1⟩
    · refine mx_Cal_in (ls := [some (.ref 0), some (.int x0)]) (d := 299) tab_120 (by rw [mx_rcv, oc_0]; trivial) (Nat.le_of_ble_eq_true rfl) rfl ?_
      by_cases h1 : x0 < 0
      · simp (disch := omega) only [x_Main_odds_0, x_Main_odds_1, x_Main_odds_4, x_Main_odds_5, x_Main_odds_6, x_Main_odds_9, x_Main_odds_10, x_Main_odds_11, x_Main_odds_14, x_Main_odds_15, mk_I, mk_J, mk_Q, mk_n, mk_sI, mk_sJ, Option.toList_some, Option.toList_none, List.cons_append, List.nil_append, true_and, and_true, ↓reduceIte, leT, leF, ltT, ltF, eqF, lt0F, le0T, le0F, eq0F, natT, nI_clamp, nI_1, if_true, if_false, not_true_eq_false, not_false_eq_true, z_00, z_10, eq_self, true_or, or_true, or_false, false_or, oc_0, oc_1, oc_2, rt_0_0, rt_0_1, rt_0_3, rt_0_4, rt_0_5, rt_0_6, rt_0_7, rt_0_8, rt_0_9, rt_1_0, rt_1_5, rt_1_6, rt_1_7, rt_1_8, rt_2_1, rt_2_2, rt_2_3, rt_2_4, rt_2_5, ite_le, h1, mx_call (x_err_1 (d := 0) I J) _, mx_call (x_errN (d := 0) (k := 1) I J (by omega)) _]
      · have h2 : (1 : Int32) < x0 := h.resolve_left h1
        simp (disch := omega) only [x_Main_odds_0, x_Main_odds_1, x_Main_odds_4, x_Main_odds_5, x_Main_odds_6, x_Main_odds_9, x_Main_odds_10, x_Main_odds_11, x_Main_odds_14, x_Main_odds_15, mk_I, mk_J, mk_Q, mk_n, mk_sI, mk_sJ, Option.toList_some, Option.toList_none, List.cons_append, List.nil_append, true_and, and_true, ↓reduceIte, leT, leF, ltT, ltF, eqF, lt0F, le0T, le0F, eq0F, natT, nI_clamp, nI_1, if_true, if_false, not_true_eq_false, not_false_eq_true, z_00, z_10, eq_self, true_or, or_true, or_false, false_or, oc_0, oc_1, oc_2, rt_0_0, rt_0_1, rt_0_3, rt_0_4, rt_0_5, rt_0_6, rt_0_7, rt_0_8, rt_0_9, rt_1_0, rt_1_5, rt_1_6, rt_1_7, rt_1_8, rt_2_1, rt_2_2, rt_2_3, rt_2_4, rt_2_5, ite_le, h1, h2, mx_call (x_err_1 (d := 0) I J) _, mx_call (x_errN (d := 0) (k := 1) I J (by omega)) _]
    · refine mx_Cal_in (ls := [some (.ref 94), some (.int x0), none, none, none, none, none, none, none, none]) (d := 299) tab_213 (by rw [mx_rcv, oc_94]; trivial) (Nat.le_of_ble_eq_true rfl) rfl ?_
      by_cases h1 : x0 < 0
      · simp (disch := omega) only [x_Ref_odds_0, x_Ref_odds_1, x_Ref_odds_2, x_Ref_odds_3, x_Ref_odds_6, x_Ref_odds_9, x_Ref_odds_10, x_Ref_odds_11, x_Ref_odds_14, x_Ref_odds_15, mk_I, mk_J, mk_Q, mk_n, mk_sI, mk_sJ, Option.toList_some, Option.toList_none, List.cons_append, List.nil_append, true_and, and_true, ↓reduceIte, leT, leF, ltT, ltF, eqF, lt0F, le0T, le0F, eq0F, natT, nI_clamp, nI_1, if_true, if_false, not_true_eq_false, not_false_eq_true, z_00, z_10, eq_self, true_or, or_true, or_false, false_or, oc_94, rt_94_0, rt_94_1, rt_94_3, rt_94_8, rt_94_9, rt_94_10, rt_94_11, rt_94_12, rt_94_15, rt_94_16, rt_94_18, rt_94_21, rt_94_22, rt_94_23, rt_94_24, or_95, oa_95, tc_0, kc_0, k0_0, tc_1, kc_1, k0_1, tc_2, kc_2, k0_2, tc_3, kc_3, k0_3, tc_4, kc_4, k0_4, tc_5, kc_5, k0_5, tc_6, kc_6, k0_6, tc_7, kc_7, k0_7, mx_call (q_Ref_in (d := 0) _ _ _ _) _, h1, mx_call (m_err_1 (d := 0) (eX I 1) J) _, mx_call (m_errN (d := 0) (k := 1) (eX I 1) J (by omega)) _]
      · have h2 : (1 : Int32) < x0 := h.resolve_left h1
        simp (disch := omega) only [x_Ref_odds_0, x_Ref_odds_1, x_Ref_odds_2, x_Ref_odds_3, x_Ref_odds_6, x_Ref_odds_9, x_Ref_odds_10, x_Ref_odds_11, x_Ref_odds_14, x_Ref_odds_15, mk_I, mk_J, mk_Q, mk_n, mk_sI, mk_sJ, Option.toList_some, Option.toList_none, List.cons_append, List.nil_append, true_and, and_true, ↓reduceIte, leT, leF, ltT, ltF, eqF, lt0F, le0T, le0F, eq0F, natT, nI_clamp, nI_1, if_true, if_false, not_true_eq_false, not_false_eq_true, z_00, z_10, eq_self, true_or, or_true, or_false, false_or, oc_94, rt_94_0, rt_94_1, rt_94_3, rt_94_8, rt_94_9, rt_94_10, rt_94_11, rt_94_12, rt_94_15, rt_94_16, rt_94_18, rt_94_21, rt_94_22, rt_94_23, rt_94_24, or_95, oa_95, tc_0, kc_0, k0_0, tc_1, kc_1, k0_1, tc_2, kc_2, k0_2, tc_3, kc_3, k0_3, tc_4, kc_4, k0_4, tc_5, kc_5, k0_5, tc_6, kc_6, k0_6, tc_7, kc_7, k0_7, mx_call (q_Ref_in (d := 0) _ _ _ _) _, h1, h2, mx_call (m_err_1 (d := 0) (eX I 1) J) _, mx_call (m_errN (d := 0) (k := 1) (eX I 1) J (by omega)) _]
  by_cases h1 : x0 < 0
  · exact cerr (Or.inl h1)
  by_cases h2 : 1 < x0
  · exact cerr (Or.inr h2)
  clear cerr
  have hLM : ∀ i, i < n → LN K M T i ≤ 1075 ∧ MN K M T i ≤ 1075 := fun i hi => by
    obtain ⟨l1, l2, l3⟩ := hc.lb hi
    exact ⟨by omega, by omega⟩
  have p40 : (2 : Nat) ^ 40 = 1099511627776 := by decide
  have p63 : (2 : Nat) ^ 63 = 9223372036854775808 := by decide
  have pn := p10 h9
  have hM : ∀ i, i < n → M i < 10 := fun i hi => (hc.2.2 i hi).2.1
  have hall := allN_le (K := K) (M := M) (F := F) hM n (Nat.le_refl n)
  obtain ⟨J1, t1, t2, t3, t4⟩ := q_oddsThink hI.2.2.2.2.2 hc ca cb J
  obtain ⟨J2, w0, w1, w2, hP⟩ := q_rOdds (x := x0) hr a9 b9 ra rb hLM J1
  have hg0 : 0 < Nat.gcd (wiN (nI a - nI b - nI (sN (tlN K T F) n)) (wayN K M F n) (sN (leN K M T F) n) (sN (meN K M T F) n)) (allN K M F n) := Nat.gcd_pos_of_pos_right _ (by omega)
  have hgB : Nat.gcd (wiN (nI a - nI b - nI (sN (tlN K T F) n)) (wayN K M F n) (sN (leN K M T F) n) (sN (meN K M T F) n)) (allN K M F n) ≤ allN K M F n := Nat.gcd_le_right _ (by omega)
  have hdv := q_divisor (d := 0) (A := wiN (nI a - nI b - nI (sN (tlN K T F) n)) (wayN K M F n) (sN (leN K M T F) n) (sN (meN K M T F) n)) (B := allN K M F n) (mk I J2) t3 (by omega)
  rw [Nat.gcd_comm] at t1 t2
  obtain ⟨k, k1, rfl⟩ := rng0 (b := 1) (by omega) h1 h2
  have k2 : k = 0 ∨ k = 1 := by omega
  rcases k2 with rfl | rfl
  · refine ⟨lN (wiN (nI a - nI b - nI (sN (tlN K T F) n)) (wayN K M F n) (sN (leN K M T F) n) (sN (meN K M T F) n) / Nat.gcd (wiN (nI a - nI b - nI (sN (tlN K T F) n)) (wayN K M F n) (sN (leN K M T F) n) (sN (meN K M T F) n)) (allN K M F n)), I, I, J1, J2, ?_, ?_, hI.2.2.2.2.2, hI⟩
    · refine mx_Cal_in (ls := [some (.ref 0), some (.int (nI 0))]) (d := 299) tab_120 (by rw [mx_rcv, oc_0]; trivial) (Nat.le_of_ble_eq_true rfl) rfl ?_
      simp (disch := omega) only [x_Main_odds_0, x_Main_odds_1, x_Main_odds_4, x_Main_odds_5, x_Main_odds_6, x_Main_odds_9, x_Main_odds_10, x_Main_odds_11, x_Main_odds_14, x_Main_odds_15, x_Main_odds_16, x_Main_odds_17, x_Main_odds_20, x_Main_odds_21, x_Main_odds_24, x_Main_odds_27, x_Main_odds_28, x_Main_odds_31, x_Main_odds_32, x_Main_odds_35, x_Main_odds_38, x_Main_odds_41, x_Main_odds_42, x_Main_odds_45, x_Main_odds_48, mk_I, mk_J, mk_Q, mk_n, mk_sI, mk_sJ, Option.toList_some, Option.toList_none, List.cons_append, List.nil_append, true_and, and_true, ↓reduceIte, leT, leF, ltT, ltF, eqF, lt0F, le0T, le0F, eq0F, natT, nI_clamp, nI_1, if_true, if_false, not_true_eq_false, not_false_eq_true, z_00, z_10, eq_self, true_or, or_true, or_false, false_or, oc_0, oc_1, oc_2, rt_0_0, rt_0_1, rt_0_3, rt_0_4, rt_0_5, rt_0_6, rt_0_7, rt_0_8, rt_0_9, rt_1_0, rt_1_5, rt_1_6, rt_1_7, rt_1_8, rt_2_1, rt_2_2, rt_2_3, rt_2_4, rt_2_5, oc_76, ite_le, h1, h2, mx_call t4 _, show (nI 0 = 0) = True from eq_true rfl, t1]
    · refine mx_Cal_in (ls := [some (.ref 94), some (.int (nI 0)), none, none, none, none, none, none, none, none]) (d := 299) tab_213 (by rw [mx_rcv, oc_94]; trivial) (Nat.le_of_ble_eq_true rfl) rfl ?_
      simp (disch := omega) only [x_Ref_odds_0, x_Ref_odds_1, x_Ref_odds_2, x_Ref_odds_3, x_Ref_odds_6, x_Ref_odds_9, x_Ref_odds_10, x_Ref_odds_11, x_Ref_odds_14, x_Ref_odds_15, mk_I, mk_J, mk_Q, mk_n, mk_sI, mk_sJ, Option.toList_some, Option.toList_none, List.cons_append, List.nil_append, true_and, and_true, ↓reduceIte, leT, leF, ltT, ltF, eqF, lt0F, le0T, le0F, eq0F, natT, nI_clamp, nI_1, if_true, if_false, not_true_eq_false, not_false_eq_true, z_00, z_10, eq_self, true_or, or_true, or_false, false_or, oc_94, rt_94_0, rt_94_1, rt_94_3, rt_94_8, rt_94_9, rt_94_10, rt_94_11, rt_94_12, rt_94_15, rt_94_16, rt_94_18, rt_94_21, rt_94_22, rt_94_23, rt_94_24, or_95, oa_95, tc_0, kc_0, k0_0, tc_1, kc_1, k0_1, tc_2, kc_2, k0_2, tc_3, kc_3, k0_3, tc_4, kc_4, k0_4, tc_5, kc_5, k0_5, tc_6, kc_6, k0_6, tc_7, kc_7, k0_7, mx_call (q_Ref_in (d := 0) _ _ _ _) _, h1, h2]
      refine hP _ ?_
      simp (disch := omega) only [x_Ref_odds_194, x_Ref_odds_196, x_Ref_odds_197, x_Ref_odds_200, x_Ref_odds_202, x_Ref_odds_203, x_Ref_odds_206, x_Ref_odds_208, x_Ref_odds_210, x_Ref_odds_211, x_Ref_odds_214, x_Ref_odds_215, x_Ref_odds_217, x_Ref_odds_218, mk_I, mk_J, mk_Q, mk_n, mk_sI, mk_sJ, Option.toList_some, Option.toList_none, List.cons_append, List.nil_append, true_and, and_true, ↓reduceIte, leT, leF, ltT, ltF, eqF, lt0F, le0T, le0F, eq0F, natT, nI_clamp, nI_1, if_true, if_false, not_true_eq_false, not_false_eq_true, z_00, z_10, eq_self, true_or, or_true, or_false, false_or, oc_94, rt_94_0, rt_94_1, rt_94_3, rt_94_8, rt_94_9, rt_94_10, rt_94_11, rt_94_12, rt_94_15, rt_94_16, rt_94_18, rt_94_21, rt_94_22, rt_94_23, rt_94_24, or_95, oa_95, tc_0, kc_0, k0_0, tc_1, kc_1, k0_1, tc_2, kc_2, k0_2, tc_3, kc_3, k0_3, tc_4, kc_4, k0_4, tc_5, kc_5, k0_5, tc_6, kc_6, k0_6, tc_7, kc_7, k0_7, mx_call hdv _, nI_0, l_ne0, pk_lDiv]
  · refine ⟨lN (allN K M F n / Nat.gcd (wiN (nI a - nI b - nI (sN (tlN K T F) n)) (wayN K M F n) (sN (leN K M T F) n) (sN (meN K M T F) n)) (allN K M F n)), I, I, J1, J2, ?_, ?_, hI.2.2.2.2.2, hI⟩
    · refine mx_Cal_in (ls := [some (.ref 0), some (.int (nI 1))]) (d := 299) tab_120 (by rw [mx_rcv, oc_0]; trivial) (Nat.le_of_ble_eq_true rfl) rfl ?_
      simp (disch := omega) only [x_Main_odds_0, x_Main_odds_1, x_Main_odds_4, x_Main_odds_5, x_Main_odds_6, x_Main_odds_9, x_Main_odds_10, x_Main_odds_11, x_Main_odds_14, x_Main_odds_15, x_Main_odds_16, x_Main_odds_17, x_Main_odds_20, x_Main_odds_21, x_Main_odds_24, x_Main_odds_27, x_Main_odds_28, x_Main_odds_31, x_Main_odds_32, x_Main_odds_35, x_Main_odds_38, x_Main_odds_41, x_Main_odds_42, x_Main_odds_45, x_Main_odds_48, mk_I, mk_J, mk_Q, mk_n, mk_sI, mk_sJ, Option.toList_some, Option.toList_none, List.cons_append, List.nil_append, true_and, and_true, ↓reduceIte, leT, leF, ltT, ltF, eqF, lt0F, le0T, le0F, eq0F, natT, nI_clamp, nI_1, if_true, if_false, not_true_eq_false, not_false_eq_true, z_00, z_10, eq_self, true_or, or_true, or_false, false_or, oc_0, oc_1, oc_2, rt_0_0, rt_0_1, rt_0_3, rt_0_4, rt_0_5, rt_0_6, rt_0_7, rt_0_8, rt_0_9, rt_1_0, rt_1_5, rt_1_6, rt_1_7, rt_1_8, rt_2_1, rt_2_2, rt_2_3, rt_2_4, rt_2_5, oc_76, ite_le, h1, h2, mx_call t4 _, t2]
    · refine mx_Cal_in (ls := [some (.ref 94), some (.int (nI 1)), none, none, none, none, none, none, none, none]) (d := 299) tab_213 (by rw [mx_rcv, oc_94]; trivial) (Nat.le_of_ble_eq_true rfl) rfl ?_
      simp (disch := omega) only [x_Ref_odds_0, x_Ref_odds_1, x_Ref_odds_2, x_Ref_odds_3, x_Ref_odds_6, x_Ref_odds_9, x_Ref_odds_10, x_Ref_odds_11, x_Ref_odds_14, x_Ref_odds_15, mk_I, mk_J, mk_Q, mk_n, mk_sI, mk_sJ, Option.toList_some, Option.toList_none, List.cons_append, List.nil_append, true_and, and_true, ↓reduceIte, leT, leF, ltT, ltF, eqF, lt0F, le0T, le0F, eq0F, natT, nI_clamp, nI_1, if_true, if_false, not_true_eq_false, not_false_eq_true, z_00, z_10, eq_self, true_or, or_true, or_false, false_or, oc_94, rt_94_0, rt_94_1, rt_94_3, rt_94_8, rt_94_9, rt_94_10, rt_94_11, rt_94_12, rt_94_15, rt_94_16, rt_94_18, rt_94_21, rt_94_22, rt_94_23, rt_94_24, or_95, oa_95, tc_0, kc_0, k0_0, tc_1, kc_1, k0_1, tc_2, kc_2, k0_2, tc_3, kc_3, k0_3, tc_4, kc_4, k0_4, tc_5, kc_5, k0_5, tc_6, kc_6, k0_6, tc_7, kc_7, k0_7, mx_call (q_Ref_in (d := 0) _ _ _ _) _, h1, h2]
      refine hP _ ?_
      simp (disch := omega) only [x_Ref_odds_194, x_Ref_odds_196, x_Ref_odds_197, x_Ref_odds_200, x_Ref_odds_202, x_Ref_odds_203, x_Ref_odds_206, x_Ref_odds_208, x_Ref_odds_210, x_Ref_odds_211, x_Ref_odds_214, x_Ref_odds_215, x_Ref_odds_217, x_Ref_odds_218, mk_I, mk_J, mk_Q, mk_n, mk_sI, mk_sJ, Option.toList_some, Option.toList_none, List.cons_append, List.nil_append, true_and, and_true, ↓reduceIte, leT, leF, ltT, ltF, eqF, lt0F, le0T, le0F, eq0F, natT, nI_clamp, nI_1, if_true, if_false, not_true_eq_false, not_false_eq_true, z_00, z_10, eq_self, true_or, or_true, or_false, false_or, oc_94, rt_94_0, rt_94_1, rt_94_3, rt_94_8, rt_94_9, rt_94_10, rt_94_11, rt_94_12, rt_94_15, rt_94_16, rt_94_18, rt_94_21, rt_94_22, rt_94_23, rt_94_24, or_95, oa_95, tc_0, kc_0, k0_0, tc_1, kc_1, k0_1, tc_2, kc_2, k0_2, tc_3, kc_3, k0_3, tc_4, kc_4, k0_4, tc_5, kc_5, k0_5, tc_6, kc_6, k0_6, tc_7, kc_7, k0_7, mx_call hdv _, l_ne0, pk_lDiv]
