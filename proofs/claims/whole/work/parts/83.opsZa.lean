/-! text: the call -/
theorem q_isWhole {d k : Nat} {wq : Bool} {P : List Nat} {C : List Int} {o dg : Nat} {I : mx_I} (J : mx_J) (hq : RdS I (wq, P, C, o, dg)) (hk : RdI k (wq, P, C, o, dg)) (hk60 : k ≤ 60) : ∃ I', CdR I' (pr_settle 1 P C o).2.1 ∧ FrR I I' ∧ (pr_whole (wq, P, C, o, dg) → mx_Cal mx_tab (d + 3) 48 [.ref 55] (mk I J) (some (.int 1)) (mk I' J)) ∧ (¬ pr_whole (wq, P, C, o, dg) → mx_Cal mx_tab (d + 3) 48 [.ref 55] (mk I J) (some (.int 0)) (mk I' J)) := by
  obtain ⟨a1, a2, a3, a4, a5⟩ := hq
  obtain ⟨k1, k2, k3, k4⟩ := hk
  have a1 : I 55 2 = (if wq = true then 1 else 0) := a1
  have k1 : P.length + C.length ≤ k := k1
  obtain ⟨I1, b1, b2, b3, b4, b5⟩ := q_settle (d := d) (r := 1) (by omega) (by omega) J a2 a3 a4 k3 k2 (by omega)
  obtain ⟨m1, m2, m3, m4⟩ := settle_ok (r := 1) (by omega) P C o k2 k3
  have b5' : mx_Cal mx_tab (d + 2) 49 [.ref 55, .int 1] (mk I J) none (mk I1 J) := b5
  have c1 : I1 55 2 = (if wq = true then 1 else 0) := (b4 55 2 (by omega) (by omega)).trans a1
  have c2 : I1 58 1 = nI (pr_settle 1 P C o).1.length := b1.1
  refine ⟨I1, b2, fun a j h => b4 a j (by omega) (by omega), fun h => ?_, fun h => ?_⟩
  · obtain ⟨h1, h2⟩ := h
    have h1 : wq = false := h1
    have h2 : (pr_settle 1 P C o).1 = [] := h2
    subst h1
    have c1 : I1 55 2 = 0 := c1
    rw [h2] at c2
    have c2 : I1 58 1 = 0 := c2
    refine mx_Cal_in (ls := [some (.ref 55)]) tab_48 (by rw [mx_rcv, oc_55]; trivial) (Nat.le_of_ble_eq_true rfl) rfl ?_
    simp (disch := omega) only [x_Reader_isWhole_0, x_Reader_isWhole_1, x_Reader_isWhole_2, x_Reader_isWhole_5, x_Reader_isWhole_6, x_Reader_isWhole_9, x_Reader_isWhole_12, x_Reader_isWhole_13, x_Reader_isWhole_16, x_Reader_isWhole_19, x_Reader_isWhole_22, x_Reader_isWhole_23, x_Reader_isWhole_26, x_Reader_isWhole_27, mk_I, mk_J, mk_Q, mk_n, mk_sI, mk_sJ, Option.toList_some, Option.toList_none, List.cons_append, List.nil_append, true_and, and_true, ↓reduceIte, leT, leF, ltT, ltF, eqF, lt0F, le0T, le0F, eq0F, natT, nI_clamp, nI_1, if_true, if_false, not_true_eq_false, not_false_eq_true, z_00, z_10, eq_self, true_or, or_true, or_false, false_or, oc_55, oc_58, rt_55_0, rt_55_1, mx_call b5' (Nat.le_refl _), c1, c2, tkT]
  · refine mx_Cal_in (ls := [some (.ref 55)]) tab_48 (by rw [mx_rcv, oc_55]; trivial) (Nat.le_of_ble_eq_true rfl) rfl ?_
    cases wq with
    | true =>
      have c1 : I1 55 2 = 1 := c1
      simp (disch := omega) only [x_Reader_isWhole_0, x_Reader_isWhole_1, x_Reader_isWhole_2, x_Reader_isWhole_5, x_Reader_isWhole_6, x_Reader_isWhole_9, x_Reader_isWhole_12, x_Reader_isWhole_13, x_Reader_isWhole_16, x_Reader_isWhole_19, x_Reader_isWhole_22, x_Reader_isWhole_23, x_Reader_isWhole_26, x_Reader_isWhole_27, mk_I, mk_J, mk_Q, mk_n, mk_sI, mk_sJ, Option.toList_some, Option.toList_none, List.cons_append, List.nil_append, true_and, and_true, ↓reduceIte, leT, leF, ltT, ltF, eqF, lt0F, le0T, le0F, eq0F, natT, nI_clamp, nI_1, if_true, if_false, not_true_eq_false, not_false_eq_true, z_00, z_10, eq_self, true_or, or_true, or_false, false_or, oc_55, oc_58, rt_55_0, rt_55_1, mx_call b5' (Nat.le_refl _), c1, tkF]
    | false =>
      have c1 : I1 55 2 = 0 := c1
      have hn : (pr_settle 1 P C o).1.length ≠ 0 := fun q => h ⟨rfl, List.eq_nil_of_length_eq_zero q⟩
      have nz : (nI (pr_settle 1 P C o).1.length = 0) = False := eq0F (by omega) (by omega)
      simp (disch := omega) only [x_Reader_isWhole_0, x_Reader_isWhole_1, x_Reader_isWhole_2, x_Reader_isWhole_5, x_Reader_isWhole_6, x_Reader_isWhole_9, x_Reader_isWhole_12, x_Reader_isWhole_13, x_Reader_isWhole_16, x_Reader_isWhole_19, x_Reader_isWhole_22, x_Reader_isWhole_23, x_Reader_isWhole_26, x_Reader_isWhole_27, mk_I, mk_J, mk_Q, mk_n, mk_sI, mk_sJ, Option.toList_some, Option.toList_none, List.cons_append, List.nil_append, true_and, and_true, ↓reduceIte, leT, leF, ltT, ltF, eqF, lt0F, le0T, le0F, eq0F, natT, nI_clamp, nI_1, if_true, if_false, not_true_eq_false, not_false_eq_true, z_00, z_10, eq_self, true_or, or_true, or_false, false_or, oc_55, oc_58, rt_55_0, rt_55_1, mx_call b5' (Nat.le_refl _), c1, c2, nz, tkF]
theorem at13 (I : mx_I) {k : Nat} (hk : k < 60) : at_ I 13 (nI k) = I 14 k := at_nI (r := 13) (hk : k < ln 13) (by decide +kernel)
def q00 : pr_S := (true, [], [], 0, 0)
theorem l_fault {n u Ls j : Nat} {xs : Nat → Int32} {B : Nat → Nat} {I : mx_I} {q : pr_S} (hs : StatR Ls xs I) (J : mx_J) (hu : u < 2) (hB : ∀ j, B j < 256) (hn : n ≤ 60) (h13 : I 13 1 = nI n) (h14 : ∀ j, j < n → I 14 j = nI (B j)) (hj : j ≤ n) (hr : pr_run u B j 0 q00 = some q) (I0 : mx_I) (hq0 : RdS I0 q00) (f0 : FrR I I0) : ∃ I', (RdS I' q ∧ RdI j q ∧ FrR I I') ∧ ∀ Q : mx_P, mx_R k_Reader_faultOf (mx_Cal mx_tab 5) 31 [some (.ref 55), some (.ref 13), some (.int (nI u)), some (.int (nI j))] [] (mk I' J) Q → mx_R k_Reader_faultOf (mx_Cal mx_tab 5) 31 [some (.ref 55), some (.ref 13), some (.int (nI u)), some (.int (nI 0))] [] (mk I0 J) Q := by
  obtain ⟨I', ⟨q1, e1, a1, a2, a3⟩, hP⟩ := lqx (cl := k_Reader_faultOf) (C := mx_Cal mx_tab 5) (pc := 31) (i0 := 0) (n := j) (fun i (_ : mx_I) => [some (.ref 55), some (.ref 13), some (.int (nI u)), some (.int (nI i))]) (fun I' => mk I' J) (fun i I' => ∃ q1, pr_run u B i 0 q00 = some q1 ∧ RdS I' q1 ∧ RdI i q1 ∧ FrR I I') (s0 := I0) (Nat.zero_le j) ⟨q00, rfl, hq0, ⟨Nat.le_refl 0, fun s hs => (by cases hs), rfl, Nat.zero_le 4⟩, f0⟩ (fun i I1 _ hi hQ => by
    obtain ⟨q1, e1, a1, a2, a3⟩ := hQ
    have hs1 : StatR Ls xs I1 := hs.upd (fun a j h => a3 a j (by omega))
    have hcal := q_takes (d := 0) (u := u) (c := B i) hs1 J hu (hB i) a1 a2 (by omega)
    have e2 := pr_run_add (k2 := j - i) e1
    rw [show i + (j - i) = j by omega, hr, show j - i = (j - i - 1) + 1 by omega, Nat.zero_add] at e2
    simp only [pr_run] at e2
    cases ht : pr_takes u (B i) q1 with
    | none =>
      rw [ht] at e2
      cases e2
    | some q2 =>
      obtain ⟨I2, r1, r2, r3, r4⟩ := hcal.1 q2 ht
      have e3 := pr_run_add (k2 := 1) e1
      rw [Nat.zero_add, pr_run_one ht] at e3
      refine ⟨I2, ⟨q2, e3, r1, r2, a3.trans r3⟩, fun Q ih => ?_⟩
      have s1 : I1 13 1 = nI n := (a3 13 1 (by omega)).trans h13
      have s2 : at_ I1 13 (nI i) = nI (B i) := by
        rw [at13 _ (by omega), a3 14 i (by omega)]
        exact h14 i (by omega)
      rw [x_Reader_faultOf_31]
      simp (disch := omega) only [x_Reader_faultOf_32, x_Reader_faultOf_33, x_Reader_faultOf_36, x_Reader_faultOf_39, x_Reader_faultOf_40, x_Reader_faultOf_41, x_Reader_faultOf_42, x_Reader_faultOf_45, x_Reader_faultOf_46, x_Reader_faultOf_49, x_Reader_faultOf_52, x_Reader_faultOf_53, x_Reader_faultOf_54, x_Reader_faultOf_57, mk_I, mk_J, mk_Q, mk_n, mk_sI, mk_sJ, Option.toList_some, Option.toList_none, List.cons_append, List.nil_append, true_and, and_true, ↓reduceIte, leT, leF, ltT, ltF, eqF, lt0F, le0T, le0F, eq0F, natT, nI_clamp, nI_1, if_true, if_false, not_true_eq_false, not_false_eq_true, z_00, z_10, eq_self, true_or, or_true, or_false, false_or, oc_13, s1, mx_call (q_Line_at (d := 0) L13 _ _ _) _, s2, mx_call r4 _, z_10, nI_1]
      exact ih)
  rw [hr] at e1
  cases e1
  exact ⟨I', ⟨a1, a2, a3⟩, hP⟩
theorem st_fault {u : Nat} {I : mx_I} (J : mx_J) : ∃ I0, RdS I0 q00 ∧ FrR I I0 ∧ ∀ Q : mx_P, mx_R k_Reader_faultOf (mx_Cal mx_tab 5) 31 [some (.ref 55), some (.ref 13), some (.int (nI u)), some (.int (nI 0))] [] (mk I0 J) Q → mx_R k_Reader_faultOf (mx_Cal mx_tab 5) 0 [some (.ref 55), some (.ref 13), some (.int (nI u)), none] [] (mk I J) Q := by
  have c1 := q_Line_clear (d := 0) L56 I J
  have c2 := q_Line_clear (d := 0) L58 (mx_ups I 56 1 0) J
  refine ⟨mx_ups (mx_ups (mx_ups (mx_ups (mx_ups I 56 1 0) 58 1 0) 55 2 1) 55 3 0) 55 4 0, ⟨?_, ⟨?_, fun j hj => absurd hj (Nat.not_lt_zero j)⟩, ⟨?_, fun j hj => absurd hj (Nat.not_lt_zero j)⟩, ?_, ups_same _ _ _ _⟩, fun a j h => by simp (disch := omega) only [ups_ne], fun Q hQ => ?_⟩
  · simp (disch := omega) only [ups_ne, ups_same]; rfl
  · simp (disch := omega) only [ups_ne, ups_same]; rfl
  · simp (disch := omega) only [ups_ne, ups_same]; rfl
  · simp (disch := omega) only [ups_ne, ups_same]; rfl
  · simp (disch := omega) only [x_Reader_faultOf_0, x_Reader_faultOf_1, x_Reader_faultOf_4, x_Reader_faultOf_7, x_Reader_faultOf_8, x_Reader_faultOf_11, x_Reader_faultOf_14, x_Reader_faultOf_15, x_Reader_faultOf_16, x_Reader_faultOf_19, x_Reader_faultOf_20, x_Reader_faultOf_21, x_Reader_faultOf_24, x_Reader_faultOf_25, x_Reader_faultOf_26, x_Reader_faultOf_29, x_Reader_faultOf_30, mk_I, mk_J, mk_Q, mk_n, mk_sI, mk_sJ, Option.toList_some, Option.toList_none, List.cons_append, List.nil_append, true_and, and_true, oc_55, rt_55_0, rt_55_1, mx_call c1 _, mx_call c2 _, decide_true, Bool.true_or, Bool.or_true, Bool.and_true]
    exact hQ
theorem q_faultNo {n u Ls j : Nat} {xs : Nat → Int32} {B : Nat → Nat} {I : mx_I} {q : pr_S} (hs : StatR Ls xs I) (J : mx_J) (hu : u < 2) (hB : ∀ j, B j < 256) (hn : n ≤ 60) (h13 : I 13 1 = nI n) (h14 : ∀ j, j < n → I 14 j = nI (B j)) (hj : j ≤ n) (hr : pr_run u B j 0 q00 = some q) (hno : (j < n ∧ pr_takes u (B j) q = none) ∨ (j = n ∧ ¬ pr_whole q)) : ∃ I', FrR I I' ∧ mx_Cal mx_tab 6 42 [.ref 55, .ref 13, .int (nI u)] (mk I J) (some (.int (nI j))) (mk I' J) := by
  obtain ⟨I0, i1, i2, i3⟩ := st_fault (u := u) (I := I) J
  obtain ⟨I1, ⟨a1, a2, a3⟩, hP⟩ := l_fault hs J hu hB hn h13 h14 hj hr I0 i1 i2
  have s1 : I1 13 1 = nI n := (a3 13 1 (by omega)).trans h13
  rcases hno with ⟨hjn, ht⟩ | ⟨rfl, hw⟩
  · have hs1 : StatR Ls xs I1 := hs.upd (fun a j h => a3 a j (by omega))
    obtain ⟨I2, r1, r2⟩ := (q_takes (d := 0) (u := u) (c := B j) hs1 J hu (hB j) a1 a2 (by omega)).2 ht
    have s2 : at_ I1 13 (nI j) = nI (B j) := by
      rw [at13 _ (by omega), a3 14 j (by omega)]
      exact h14 j hjn
    refine ⟨I2, a3.trans r1, ?_⟩
    show mx_Cal mx_tab (5 + 1) 42 [.ref 55, .ref 13, .int (nI u)] (mk I J) (some (.int (nI j))) (mk I2 J)
    refine mx_Cal_in (ls := [some (.ref 55), some (.ref 13), some (.int (nI u)), none]) tab_42 (by rw [mx_rcv, oc_55]; trivial) (Nat.le_of_ble_eq_true rfl) rfl ?_
    refine i3 _ (hP _ ?_)
    rw [x_Reader_faultOf_31]
    simp (disch := omega) only [x_Reader_faultOf_32, x_Reader_faultOf_33, x_Reader_faultOf_36, x_Reader_faultOf_39, x_Reader_faultOf_40, x_Reader_faultOf_41, x_Reader_faultOf_42, x_Reader_faultOf_45, x_Reader_faultOf_46, x_Reader_faultOf_49, x_Reader_faultOf_52, x_Reader_faultOf_53, x_Reader_faultOf_54, x_Reader_faultOf_57, mk_I, mk_J, mk_Q, mk_n, mk_sI, mk_sJ, Option.toList_some, Option.toList_none, List.cons_append, List.nil_append, true_and, and_true, ↓reduceIte, leT, leF, ltT, ltF, eqF, lt0F, le0T, le0F, eq0F, natT, nI_clamp, nI_1, if_true, if_false, not_true_eq_false, not_false_eq_true, z_00, z_10, eq_self, true_or, or_true, or_false, false_or, oc_13, s1, mx_call (q_Line_at (d := 0) L13 _ _ _) _, s2, mx_call r2 _, z_00]
  · obtain ⟨wq, P, C, o, dg⟩ := q
    obtain ⟨I2, r1, r2, r3, r4⟩ := q_isWhole (d := 0) J a1 a2 hn
    have r4 := r4 hw
    have s2 : I2 13 1 = nI j := (r2 13 1 (by omega)).trans s1
    refine ⟨I2, a3.trans r2, ?_⟩
    show mx_Cal mx_tab (5 + 1) 42 [.ref 55, .ref 13, .int (nI u)] (mk I J) (some (.int (nI j))) (mk I2 J)
    refine mx_Cal_in (ls := [some (.ref 55), some (.ref 13), some (.int (nI u)), none]) tab_42 (by rw [mx_rcv, oc_55]; trivial) (Nat.le_of_ble_eq_true rfl) rfl ?_
    refine i3 _ (hP _ ?_)
    rw [x_Reader_faultOf_31]
    simp (disch := omega) only [x_Reader_faultOf_32, x_Reader_faultOf_33, x_Reader_faultOf_36, x_Reader_faultOf_60, x_Reader_faultOf_61, x_Reader_faultOf_64, x_Reader_faultOf_67, x_Reader_faultOf_68, x_Reader_faultOf_71, x_Reader_faultOf_72, x_Reader_faultOf_75, mk_I, mk_J, mk_Q, mk_n, mk_sI, mk_sJ, Option.toList_some, Option.toList_none, List.cons_append, List.nil_append, true_and, and_true, ↓reduceIte, leT, leF, ltT, ltF, eqF, lt0F, le0T, le0F, eq0F, natT, nI_clamp, nI_1, if_true, if_false, not_true_eq_false, not_false_eq_true, z_00, z_10, eq_self, true_or, or_true, or_false, false_or, oc_13, s1, mx_call r4 _, z_00, s2]
theorem q_faultYes {n u Ls : Nat} {xs : Nat → Int32} {B : Nat → Nat} {I : mx_I} {wq : Bool} {P : List Nat} {C : List Int} {o dg : Nat} (hs : StatR Ls xs I) (J : mx_J) (hu : u < 2) (hB : ∀ j, B j < 256) (hn : n ≤ 60) (h13 : I 13 1 = nI n) (h14 : ∀ j, j < n → I 14 j = nI (B j)) (hr : pr_run u B n 0 q00 = some (wq, P, C, o, dg)) (hw : pr_whole (wq, P, C, o, dg)) : ∃ I', CdR I' (pr_settle 1 P C o).2.1 ∧ FrR I I' ∧ mx_Cal mx_tab 6 42 [.ref 55, .ref 13, .int (nI u)] (mk I J) (some (.int (-1))) (mk I' J) := by
  obtain ⟨I0, i1, i2, i3⟩ := st_fault (u := u) (I := I) J
  obtain ⟨I1, ⟨a1, a2, a3⟩, hP⟩ := l_fault hs J hu hB hn h13 h14 (Nat.le_refl n) hr I0 i1 i2
  have s1 : I1 13 1 = nI n := (a3 13 1 (by omega)).trans h13
  obtain ⟨I2, r1, r2, r3, r4⟩ := q_isWhole (d := 0) J a1 a2 hn
  have r3 := r3 hw
  refine ⟨I2, r1, a3.trans r2, ?_⟩
  show mx_Cal mx_tab (5 + 1) 42 [.ref 55, .ref 13, .int (nI u)] (mk I J) (some (.int (-1))) (mk I2 J)
  refine mx_Cal_in (ls := [some (.ref 55), some (.ref 13), some (.int (nI u)), none]) tab_42 (by rw [mx_rcv, oc_55]; trivial) (Nat.le_of_ble_eq_true rfl) rfl ?_
  refine i3 _ (hP _ ?_)
  rw [x_Reader_faultOf_31]
  simp (disch := omega) only [x_Reader_faultOf_32, x_Reader_faultOf_33, x_Reader_faultOf_36, x_Reader_faultOf_60, x_Reader_faultOf_61, x_Reader_faultOf_64, x_Reader_faultOf_67, x_Reader_faultOf_68, x_Reader_faultOf_71, x_Reader_faultOf_72, x_Reader_faultOf_75, mk_I, mk_J, mk_Q, mk_n, mk_sI, mk_sJ, Option.toList_some, Option.toList_none, List.cons_append, List.nil_append, true_and, and_true, ↓reduceIte, leT, leF, ltT, ltF, eqF, lt0F, le0T, le0F, eq0F, natT, nI_clamp, nI_1, if_true, if_false, not_true_eq_false, not_false_eq_true, z_00, z_10, eq_self, true_or, or_true, or_false, false_or, oc_13, s1, mx_call r3 _, z_10]
/-! what the steps are worth -/
theorem up_ne {u : Nat} {S : List (Nat × Nat)} (h : pr_up u S) : 1 ≤ S.length := by
  cases S with
  | nil =>
    have := h 0
    simp [pr_ev] at this
  | cons s S => exact Nat.succ_le_succ (Nat.zero_le _)
theorem nm_C {u v : Nat} (hu : u < 2) (h : (pr_name u v).isSome = true) : isNameC u (nI v) ∧ ∀ x, pr_name u v = some x → nameC u (nI v) = -1 - nI x := by
  have hu2 : u = 0 ∨ u = 1 := by omega
  have hv : v = 107 ∨ v = 112 ∨ (u = 0 ∧ v = 108) ∨ (u = 1 ∧ v = 105) := by
    unfold pr_name at h
    rcases hu2 with rfl | rfl
    · rw [if_pos rfl] at h
      by_cases a : v = 107
      · exact Or.inl a
      by_cases b : v = 108
      · exact Or.inr (Or.inr (Or.inl ⟨rfl, b⟩))
      by_cases c : v = 112
      · exact Or.inr (Or.inl c)
      simp [a, b, c] at h
    · rw [if_neg (by decide)] at h
      by_cases a : v = 105
      · exact Or.inr (Or.inr (Or.inr ⟨rfl, a⟩))
      by_cases b : v = 112
      · exact Or.inr (Or.inl b)
      by_cases c : v = 107
      · exact Or.inl c
      simp [a, b, c] at h
  rcases hv with rfl | rfl | ⟨rfl, rfl⟩ | ⟨rfl, rfl⟩
  · refine ⟨Or.inl rfl, fun x hx => ?_⟩
    rcases hu2 with rfl | rfl
    · cases hx; decide
    · cases hx; decide
  · refine ⟨Or.inr (Or.inl rfl), fun x hx => ?_⟩
    rcases hu2 with rfl | rfl
    · cases hx; decide
    · cases hx; decide
  · exact ⟨Or.inr (Or.inr (Or.inl ⟨rfl, rfl⟩)), fun x hx => by cases hx; decide⟩
  · exact ⟨Or.inr (Or.inr (Or.inr ⟨by decide, rfl⟩)), fun x hx => by cases hx; decide⟩
theorem sg_C {v : Nat} (h1 : 1 ≤ pr_rank v) (h5 : pr_rank v ≤ 5) : isSignC (nI v) := by
  have hv : v = 124 ∨ v = 38 ∨ v = 60 ∨ v = 61 ∨ v = 62 ∨ v = 43 ∨ v = 45 ∨ v = 42 ∨ v = 47 ∨ v = 37 := by
    unfold pr_rank at h1 h5
    repeat' split at h1
    all_goals first | omega | skip
    all_goals (repeat' split at h5)
    all_goals omega
  unfold isSignC
  rcases hv with rfl | rfl | rfl | rfl | rfl | rfl | rfl | rfl | rfl | rfl <;> decide
/-- one step is sound -/
theorem ev1_ok {u d d' : Nat} {s : Nat × Nat} (hu : u < 2) (h : pr_ev1 u s d = some d') : s.1 < 4 ∧ s.2 ≤ 9999 ∧ (d' : Int) = (d : Int) + (if nI s.1 = 0 ∨ nI s.1 = 1 then 1 else if nI s.1 = 2 then 0 else -1) ∧ ((nI s.1 = 0 ∧ ∃ z, z ≤ 9999 ∧ nI s.2 = nI z) ∨ (nI s.1 = 1 ∧ isNameC u (nI s.2)) ∨ (nI s.1 = 2 ∧ nI s.2 = 0 ∧ 1 ≤ (d : Int)) ∨ (nI s.1 = 3 ∧ isSignC (nI s.2) ∧ 2 ≤ (d : Int))) ∧ Int32.ofInt (pr_enc1 u s) = encC u (nI s.1) (nI s.2) := by
  obtain ⟨a, v⟩ := s
  unfold pr_ev1 at h
  unfold pr_enc1
  dsimp only at h ⊢
  by_cases h0 : a = 0
  · subst h0
    rw [if_pos rfl] at h
    by_cases hv : v ≤ 9999
    · rw [if_pos hv] at h
      have h := Option.some.inj h
      refine ⟨by omega, hv, ?_, Or.inl ⟨rfl, v, hv, rfl⟩, ?_⟩
      · rw [if_pos (show nI 0 = 0 ∨ nI 0 = 1 from Or.inl rfl)]
        omega
      · rw [if_pos rfl]
        rfl
    · rw [if_neg hv] at h
      cases h
  rw [if_neg h0] at h
  rw [if_neg h0]
  by_cases h1 : a = 1
  · subst h1
    rw [if_pos rfl] at h
    by_cases hv : (pr_name u v).isSome = true
    · rw [if_pos hv] at h
      have h := Option.some.inj h
      obtain ⟨n1, n2⟩ := nm_C hu hv
      obtain ⟨x, hx⟩ := Option.isSome_iff_exists.mp hv
      have hv9 : v ≤ 9999 := by
        rcases n1 with q | q | ⟨-, q⟩ | ⟨-, q⟩
        all_goals
          unfold pr_name at hx
          repeat' split at hx
          all_goals first | omega | cases hx
      refine ⟨by omega, hv9, ?_, Or.inr (Or.inl ⟨rfl, n1⟩), ?_⟩
      · rw [if_pos (show nI 1 = 0 ∨ nI 1 = 1 from Or.inr rfl)]
        omega
      · rw [if_pos rfl, hx]
        show Int32.ofInt (-1 - (x : Int)) = nameC u (nI v)
        rw [n2 x hx, ← ofI_m1]
    · rw [if_neg hv] at h
      cases h
  rw [if_neg h1] at h
  rw [if_neg h1]
  by_cases h2 : a = 2
  · subst h2
    rw [if_pos rfl] at h
    by_cases hv : v = 0 ∧ 1 ≤ d
    · rw [if_pos hv] at h
      have h := Option.some.inj h
      obtain ⟨rfl, hd⟩ := hv
      refine ⟨by omega, by omega, ?_, Or.inr (Or.inr (Or.inl ⟨rfl, rfl, by omega⟩)), ?_⟩
      · rw [if_neg (by decide), if_pos (by decide)]
        omega
      · rfl
    · rw [if_neg hv] at h
      cases h
  rw [if_neg h2] at h
  rw [if_neg h2]
  by_cases h3 : a = 3 ∧ 1 ≤ pr_rank v ∧ pr_rank v ≤ 5 ∧ 2 ≤ d
  · rw [if_pos h3] at h
    have h := Option.some.inj h
    obtain ⟨rfl, r1, r5, hd⟩ := h3
    have hs := sg_C r1 r5
    have hv9 : v ≤ 9999 := by
      unfold pr_rank at r1
      repeat' split at r1
      all_goals omega
    refine ⟨by omega, hv9, ?_, Or.inr (Or.inr (Or.inr ⟨rfl, hs, by omega⟩)), ?_⟩
    · rw [if_neg (by decide), if_neg (by decide)]
      omega
    · rw [← neg_nI]
      rfl
  · rw [if_neg h3] at h
    cases h
theorem ev_wf {u : Nat} (hu : u < 2) {f : Nat → Int32} {S : List (Nat × Nat)} (hf : ∀ k, k < S.length → f (2 * k) = nI (S.getD k (0, 0)).1 ∧ f (2 * k + 1) = nI (S.getD k (0, 0)).2) : ∀ (T pre : List (Nat × Nat)) (d e : Nat), S = pre ++ T → depC f pre.length = (d : Int) → pr_ev u d T = some e → depC f S.length = (e : Int) ∧ ∀ k, pre.length ≤ k → k < S.length → ((f (2 * k) = 0 ∧ ∃ z, z ≤ 9999 ∧ f (2 * k + 1) = nI z) ∨ (f (2 * k) = 1 ∧ isNameC u (f (2 * k + 1))) ∨ (f (2 * k) = 2 ∧ f (2 * k + 1) = 0 ∧ 1 ≤ depC f k) ∨ (f (2 * k) = 3 ∧ isSignC (f (2 * k + 1)) ∧ 2 ≤ depC f k)) ∧ Int32.ofInt (pr_enc1 u (S.getD k (0, 0))) = encC u (f (2 * k)) (f (2 * k + 1))
  | [], pre, d, e, hS, hd, he => by
    rw [List.append_nil] at hS
    subst hS
    have he : some d = some e := he
    cases he
    exact ⟨hd, fun k h1 h2 => by omega⟩
  | s :: T, pre, d, e, hS, hd, he => by
    have he : (pr_ev1 u s d).bind (fun d' => pr_ev u d' T) = some e := he
    cases h1 : pr_ev1 u s d with
    | none =>
      rw [h1] at he
      cases he
    | some d' =>
      rw [h1] at he
      have he : pr_ev u d' T = some e := he
      obtain ⟨b1, b2, b3, b4, b5⟩ := ev1_ok hu h1
      have hlen : pre.length < S.length := by
        rw [hS, List.length_append]
        show pre.length < pre.length + (T.length + 1)
        omega
      have hs : S.getD pre.length (0, 0) = s := by
        rw [hS, show pre ++ s :: T = (pre ++ [s]) ++ T by rw [List.append_assoc]; rfl, gpL (by rw [ln_snoc]; omega), gpR]
      obtain ⟨f1, f2⟩ := hf pre.length hlen
      rw [hs] at f1 f2
      have hd' : depC f (pre ++ [s]).length = (d' : Int) := by
        rw [ln_snoc]
        show depC f pre.length + (if f (2 * pre.length) = 0 ∨ f (2 * pre.length) = 1 then 1 else if f (2 * pre.length) = 2 then 0 else -1) = _
        rw [hd, f1, b3]
      obtain ⟨g1, g2⟩ := ev_wf hu hf T (pre ++ [s]) d' e (by rw [hS, List.append_assoc]; rfl) hd' he
      refine ⟨g1, fun k k1 k2 => ?_⟩
      by_cases q : k = pre.length
      · subst q
        rw [f1, f2, hd, hs]
        exact ⟨b4, b5⟩
      · exact g2 k (by rw [ln_snoc]; omega) k2
theorem enc_len (u : Nat) (S : List (Nat × Nat)) : (pr_enc u S).length = S.length := by
  unfold pr_enc
  exact List.length_map ..
theorem enc_get (u : Nat) {S : List (Nat × Nat)} {k : Nat} (h : k < S.length) : (pr_enc u S).getD k 0 = pr_enc1 u (S.getD k (0, 0)) := by
  unfold pr_enc
  rw [List.getD_eq_getElem?_getD, List.getD_eq_getElem?_getD, List.getElem?_map, List.getElem?_eq_getElem h]
  rfl
/-! the reference's call -/
def txI (I : mx_I) (u : Nat) : mx_I := mx_ups (mx_ups (mx_ups (mx_ups I 94 7 (nI u)) 94 4 0) 94 5 0) 94 6 0
theorem txI_ne (I : mx_I) (u : Nat) {a j : Nat} (h : a ≠ 94 ∨ j < 4 ∨ 7 < j) : txI I u a j = I a j := by
  unfold txI
  simp (disch := omega) only [ups_ne]
theorem txI_ok {n u : Nat} {B : Nat → Nat} {I : mx_I} (h1 : I 95 4 = nI n) (h2 : ∀ j, j < n → I 95 (303 + j) = nI (B j)) : TPR n u B (txI I u) ∧ PS (txI I u) 0 0 [] := by
  refine ⟨⟨by rw [txI_ne _ _ (by omega)]; exact h1, fun j hj => by rw [txI_ne _ _ (by omega)]; exact h2 j hj, ?_⟩, ⟨?_, ?_, ?_, fun k hk => absurd hk (Nat.not_lt_zero k)⟩⟩ <;> unfold txI <;> simp (disch := omega) only [ups_ne, ups_same, nI_0, List.length_nil]
theorem q_rTextNo {n u j : Nat} {B : Nat → Nat} {b : Bool} {S' : List (Nat × Nat)} {I : mx_I} (J : mx_J) (hu : u < 2) (hB : ∀ j, B j < 256) (hn : n ≤ 60) (h1 : I 95 4 = nI n) (h2 : ∀ j, j < n → I 95 (303 + j) = nI (B j)) (hW : pr_W n B (pr_O n u B 5) 0 [] = (b, j, S')) (hb : b = false ∨ j ≠ n) : ∃ I', (∀ a j, a ≠ 98 → ¬ (a = 94 ∧ 4 ≤ j ∧ j ≤ 7) → ¬ (a = 95 ∧ j = 4) → I' a j = I a j) ∧ I' 95 4 = 0 ∧ mx_Cal mx_tab 300 164 [.ref 94, .int (nI u)] (mk I J) (some (.int (-10 - nI j))) (mk I' J) := by
  obtain ⟨t1, t2⟩ := txI_ok (u := u) h1 h2
  obtain ⟨g1, g2⟩ := pg_text hn hB hu 0 [] (txI I u) J (Nat.zero_le n) (Nat.le_refl 0) t1 t2
  have hu2 : u = 0 ∨ u = 1 := by omega
  have hin : ((nI u < 0) = False) ∧ (((1 : Int32) < nI u) = False) := by
    rcases hu2 with rfl | rfl <;> exact ⟨by decide, by decide⟩
  cases b with
  | false =>
    obtain ⟨I2, f2, p2, c2⟩ := g2 j S' hW
    unfold txI at c2
    refine ⟨mx_ups I2 95 4 0, fun a i q1 q2 q3 => by rw [ups_ne _ _ (by omega), f2 a i (by omega) q1, txI_ne _ _ (by omega)], ups_same _ _ _ _, ?_⟩
    refine mx_Cal_in (ls := [some (.ref 94), some (.int (nI u)), none, none, none]) (d := 299) tab_164 (by rw [mx_rcv, oc_94]; trivial) (Nat.le_of_ble_eq_true rfl) rfl ?_
    simp (disch := omega) only [x_Ref_text_0, x_Ref_text_1, x_Ref_text_2, x_Ref_text_3, x_Ref_text_6, x_Ref_text_9, x_Ref_text_10, x_Ref_text_11, x_Ref_text_14, x_Ref_text_15, x_Ref_text_16, x_Ref_text_17, x_Ref_text_20, x_Ref_text_21, x_Ref_text_22, x_Ref_text_25, x_Ref_text_26, x_Ref_text_27, x_Ref_text_30, x_Ref_text_31, x_Ref_text_32, x_Ref_text_35, x_Ref_text_36, x_Ref_text_39, x_Ref_text_42, x_Ref_text_43, x_Ref_text_46, x_Ref_text_47, x_Ref_text_50, x_Ref_text_51, x_Ref_text_52, x_Ref_text_55, x_Ref_text_56, x_Ref_text_59, x_Ref_text_60, x_Ref_text_61, x_Ref_text_62, x_Ref_text_65, x_Ref_text_66, x_Ref_text_67, x_Ref_text_68, x_Ref_text_69, x_Ref_text_72, x_Ref_text_74, x_Ref_text_75, x_Ref_text_78, x_Ref_text_79, mk_I, mk_J, mk_Q, mk_n, mk_sI, mk_sJ, Option.toList_some, Option.toList_none, List.cons_append, List.nil_append, true_and, and_true, ↓reduceIte, leT, leF, ltT, ltF, eqF, lt0F, le0T, le0F, eq0F, natT, nI_clamp, nI_1, if_true, if_false, not_true_eq_false, not_false_eq_true, z_00, z_10, eq_self, true_or, or_true, or_false, false_or, oc_94, rt_94_0, rt_94_1, rt_94_3, rt_94_8, rt_94_9, rt_94_10, rt_94_11, rt_94_12, rt_94_15, rt_94_16, rt_94_18, rt_94_21, rt_94_22, rt_94_23, rt_94_24, or_95, oa_95, tc_0, kc_0, k0_0, tc_1, kc_1, k0_1, tc_2, kc_2, k0_2, tc_3, kc_3, k0_3, tc_4, kc_4, k0_4, tc_5, kc_5, k0_5, tc_6, kc_6, k0_6, tc_7, kc_7, k0_7, mx_call (q_Ref_in (d := 0) _ _ _ _) _, hin.1, hin.2, mx_call c2 _, z_00, ups_ne, p2]
  | true =>
    have hjn : j ≠ n := hb.resolve_left (by decide)
    obtain ⟨I2, f2, p2, j1, j2, j3, c2⟩ := g1 j S' hW
    unfold txI at c2
    have e4 : I2 95 4 = nI n := (f2 95 4 (by omega) (by omega)).trans t1.1
    have ne : (nI j = nI n) = False := eqF hjn (by omega) (by omega)
    have p4 := p2.1
    refine ⟨mx_ups I2 95 4 0, fun a i q1 q2 q3 => by rw [ups_ne _ _ (by omega), f2 a i (by omega) q1, txI_ne _ _ (by omega)], ups_same _ _ _ _, ?_⟩
    refine mx_Cal_in (ls := [some (.ref 94), some (.int (nI u)), none, none, none]) (d := 299) tab_164 (by rw [mx_rcv, oc_94]; trivial) (Nat.le_of_ble_eq_true rfl) rfl ?_
    simp (disch := omega) only [x_Ref_text_0, x_Ref_text_1, x_Ref_text_2, x_Ref_text_3, x_Ref_text_6, x_Ref_text_9, x_Ref_text_10, x_Ref_text_11, x_Ref_text_14, x_Ref_text_15, x_Ref_text_16, x_Ref_text_17, x_Ref_text_20, x_Ref_text_21, x_Ref_text_22, x_Ref_text_25, x_Ref_text_26, x_Ref_text_27, x_Ref_text_30, x_Ref_text_31, x_Ref_text_32, x_Ref_text_35, x_Ref_text_36, x_Ref_text_39, x_Ref_text_42, x_Ref_text_43, x_Ref_text_46, x_Ref_text_47, x_Ref_text_50, x_Ref_text_51, x_Ref_text_52, x_Ref_text_55, x_Ref_text_56, x_Ref_text_59, x_Ref_text_60, x_Ref_text_61, x_Ref_text_62, x_Ref_text_65, x_Ref_text_66, x_Ref_text_67, x_Ref_text_68, x_Ref_text_69, x_Ref_text_72, x_Ref_text_74, x_Ref_text_75, x_Ref_text_78, x_Ref_text_79, mk_I, mk_J, mk_Q, mk_n, mk_sI, mk_sJ, Option.toList_some, Option.toList_none, List.cons_append, List.nil_append, true_and, and_true, ↓reduceIte, leT, leF, ltT, ltF, eqF, lt0F, le0T, le0F, eq0F, natT, nI_clamp, nI_1, if_true, if_false, not_true_eq_false, not_false_eq_true, z_00, z_10, eq_self, true_or, or_true, or_false, false_or, oc_94, rt_94_0, rt_94_1, rt_94_3, rt_94_8, rt_94_9, rt_94_10, rt_94_11, rt_94_12, rt_94_15, rt_94_16, rt_94_18, rt_94_21, rt_94_22, rt_94_23, rt_94_24, or_95, oa_95, tc_0, kc_0, k0_0, tc_1, kc_1, k0_1, tc_2, kc_2, k0_2, tc_3, kc_3, k0_3, tc_4, kc_4, k0_4, tc_5, kc_5, k0_5, tc_6, kc_6, k0_6, tc_7, kc_7, k0_7, mx_call (q_Ref_in (d := 0) _ _ _ _) _, hin.1, hin.2, mx_call c2 _, z_10, z_00, p4, e4, ne, ups_ne]
theorem q_rTextYes {n u b : Nat} {B : Nat → Nat} {S' : List (Nat × Nat)} {I : mx_I} (J : mx_J) (hu : u < 2) (hbu : b = 53 + 125 * u) (hB : ∀ j, B j < 256) (hn : n ≤ 60) (h1 : I 95 4 = nI n) (h2 : ∀ j, j < n → I 95 (303 + j) = nI (B j)) (hW : pr_W n B (pr_O n u B 5) 0 [] = (true, n, S')) : ∃ I', (∀ a j, a ≠ 98 → ¬ (a = 94 ∧ 4 ≤ j ∧ j ≤ 7) → ¬ (a = 95 ∧ (j = 4 ∨ (b ≤ j ∧ j < b + 125))) → I' a j = I a j) ∧ I' 95 4 = 0 ∧ I' 95 b = nI S'.length ∧ (∀ k, k < S'.length → I' 95 (b + 1 + 2 * k) = nI (S'.getD k (0, 0)).1 ∧ I' 95 (b + 1 + (2 * k + 1)) = nI (S'.getD k (0, 0)).2) ∧ mx_Cal mx_tab 300 164 [.ref 94, .int (nI u)] (mk I J) (some (.int 1)) (mk I' J) := by
  obtain ⟨t1, t2⟩ := txI_ok (u := u) h1 h2
  obtain ⟨g1, g2⟩ := pg_text hn hB hu 0 [] (txI I u) J (Nat.zero_le n) (Nat.le_refl 0) t1 t2
  have hu2 : u = 0 ∨ u = 1 := by omega
  have hin : ((nI u < 0) = False) ∧ (((1 : Int32) < nI u) = False) := by
    rcases hu2 with rfl | rfl <;> exact ⟨by decide, by decide⟩
  obtain ⟨I2, f2, p2, j1, j2, j3, c2⟩ := g1 n S' hW
  have hl : S'.length ≤ 60 := by
    have : S'.length + 0 ≤ 0 + n := j3
    omega
  unfold txI at c2
  have e4 : I2 95 4 = nI n := (f2 95 4 (by omega) (by omega)).trans t1.1
  obtain ⟨p4, p5, p6, p7⟩ := p2
  have eb : (53 : Int32) + 125 * nI u = nI b := by
    subst hbu
    show nI 53 + nI 125 * nI u = _
    rw [pk_mul, nI_add]
  have e2 : (2 : Int32) * nI S'.length = nI (2 * S'.length) := pk_mul (a := 2) ..
  obtain ⟨I3, ⟨a1, a2⟩, hP⟩ := lqx (cl := k_Ref_text) (C := mx_Cal mx_tab 299) (pc := 101) (i0 := 0) (n := 2 * S'.length) (fun k (_ : mx_I) => [some (.ref 94), some (.int (nI u)), some (.int 1), some (.int (nI b)), some (.int (nI k))]) (fun I' => mk I' J) (fun k I' => (∀ i, i < k → I' 95 (b + 1 + i) = I2 98 i) ∧ ∀ a i, ¬ (a = 95 ∧ (b + 1 ≤ i ∧ i < b + 125)) → I' a i = (mx_ups (mx_ups I2 95 4 0) 95 b (nI S'.length)) a i) (s0 := mx_ups (mx_ups I2 95 4 0) 95 b (nI S'.length)) (Nat.zero_le _) ⟨fun i hi => absurd hi (Nat.not_lt_zero i), fun _ _ _ => rfl⟩ (fun k I' _ hk hQ => by
    obtain ⟨a1, a2⟩ := hQ
    have s6 : I' 94 6 = nI S'.length := by
      rw [a2 94 6 (by omega), ups_ne _ _ (by omega), ups_ne _ _ (by omega)]
      exact p6
    have s98 : I' 98 k = I2 98 k := by
      rw [a2 98 k (by omega), ups_ne _ _ (by omega), ups_ne _ _ (by omega)]
    refine ⟨mx_ups I' 95 (b + 1 + k) (I2 98 k), ⟨fun i hi => ?_, fun a i h => by rw [ups_ne _ _ (by omega)]; exact a2 a i h⟩, fun Q ih => ?_⟩
    · by_cases q : i = k
      · subst q; exact ups_same _ _ _ _
      · rw [ups_ne _ _ (by omega)]; exact a1 i (by omega)
    · rw [x_Ref_text_101]
      simp (disch := omega) only [x_Ref_text_103, x_Ref_text_104, x_Ref_text_105, x_Ref_text_108, x_Ref_text_109, x_Ref_text_112, x_Ref_text_113, x_Ref_text_116, x_Ref_text_117, x_Ref_text_118, x_Ref_text_119, x_Ref_text_121, x_Ref_text_122, x_Ref_text_123, x_Ref_text_126, x_Ref_text_128, x_Ref_text_129, x_Ref_text_130, x_Ref_text_133, mk_I, mk_J, mk_Q, mk_n, mk_sI, mk_sJ, Option.toList_some, Option.toList_none, List.cons_append, List.nil_append, true_and, and_true, ↓reduceIte, leT, leF, ltT, ltF, eqF, lt0F, le0T, le0F, eq0F, natT, nI_clamp, nI_1, if_true, if_false, not_true_eq_false, not_false_eq_true, z_00, z_10, eq_self, true_or, or_true, or_false, false_or, oc_94, rt_94_0, rt_94_1, rt_94_3, rt_94_8, rt_94_9, rt_94_10, rt_94_11, rt_94_12, rt_94_15, rt_94_16, rt_94_18, rt_94_21, rt_94_22, rt_94_23, rt_94_24, or_95, oa_95, tc_0, kc_0, k0_0, tc_1, kc_1, k0_1, tc_2, kc_2, k0_2, tc_3, kc_3, k0_3, tc_4, kc_4, k0_4, tc_5, kc_5, k0_5, tc_6, kc_6, k0_6, tc_7, kc_7, k0_7, or_98, oa_98, s6, e2, nI_1, nI_add, nI_clamp, s98]
      exact ih)
  have s6 : I3 94 6 = nI S'.length := by
    rw [a2 94 6 (by omega), ups_ne _ _ (by omega), ups_ne _ _ (by omega)]
    exact p6
  refine ⟨I3, fun a i q1 q2 q3 => ?_, ?_, ?_, fun k hk => ?_, ?_⟩
  · rw [a2 a i (by omega), ups_ne _ _ (by omega), ups_ne _ _ (by omega), f2 a i (by omega) q1, txI_ne _ _ (by omega)]
  · rw [a2 95 4 (by omega), ups_ne _ _ (by omega), ups_same]
  · rw [a2 95 b (by omega), ups_same]
  · obtain ⟨z1, z2⟩ := p7 k hk
    rw [a1 (2 * k) (by omega), a1 (2 * k + 1) (by omega)]
    exact ⟨z1, z2⟩
  · refine mx_Cal_in (ls := [some (.ref 94), some (.int (nI u)), none, none, none]) (d := 299) tab_164 (by rw [mx_rcv, oc_94]; trivial) (Nat.le_of_ble_eq_true rfl) rfl ?_
    simp (disch := omega) only [x_Ref_text_0, x_Ref_text_1, x_Ref_text_2, x_Ref_text_3, x_Ref_text_6, x_Ref_text_9, x_Ref_text_10, x_Ref_text_11, x_Ref_text_14, x_Ref_text_15, x_Ref_text_16, x_Ref_text_17, x_Ref_text_20, x_Ref_text_21, x_Ref_text_22, x_Ref_text_25, x_Ref_text_26, x_Ref_text_27, x_Ref_text_30, x_Ref_text_31, x_Ref_text_32, x_Ref_text_35, x_Ref_text_36, x_Ref_text_39, x_Ref_text_42, x_Ref_text_43, x_Ref_text_46, x_Ref_text_47, x_Ref_text_50, x_Ref_text_51, x_Ref_text_52, x_Ref_text_55, x_Ref_text_56, x_Ref_text_59, x_Ref_text_60, x_Ref_text_61, x_Ref_text_62, x_Ref_text_65, x_Ref_text_66, x_Ref_text_67, x_Ref_text_68, x_Ref_text_69, x_Ref_text_72, x_Ref_text_74, x_Ref_text_75, x_Ref_text_78, x_Ref_text_79, x_Ref_text_80, x_Ref_text_82, x_Ref_text_84, x_Ref_text_85, x_Ref_text_86, x_Ref_text_87, x_Ref_text_88, x_Ref_text_89, x_Ref_text_92, x_Ref_text_93, x_Ref_text_94, x_Ref_text_97, x_Ref_text_98, x_Ref_text_99, mk_I, mk_J, mk_Q, mk_n, mk_sI, mk_sJ, Option.toList_some, Option.toList_none, List.cons_append, List.nil_append, true_and, and_true, ↓reduceIte, leT, leF, ltT, ltF, eqF, lt0F, le0T, le0F, eq0F, natT, nI_clamp, nI_1, if_true, if_false, not_true_eq_false, not_false_eq_true, z_00, z_10, eq_self, true_or, or_true, or_false, false_or, oc_94, rt_94_0, rt_94_1, rt_94_3, rt_94_8, rt_94_9, rt_94_10, rt_94_11, rt_94_12, rt_94_15, rt_94_16, rt_94_18, rt_94_21, rt_94_22, rt_94_23, rt_94_24, or_95, oa_95, tc_0, kc_0, k0_0, tc_1, kc_1, k0_1, tc_2, kc_2, k0_2, tc_3, kc_3, k0_3, tc_4, kc_4, k0_4, tc_5, kc_5, k0_5, tc_6, kc_6, k0_6, tc_7, kc_7, k0_7, mx_call (q_Ref_in (d := 0) _ _ _ _) _, hin.1, hin.2, mx_call c2 _, z_10, p4, e4, ups_ne, eb, p6, nI_clamp]
    refine hP _ ?_
    rw [x_Ref_text_101]
    simp (disch := omega) only [x_Ref_text_103, x_Ref_text_104, x_Ref_text_105, x_Ref_text_108, x_Ref_text_109, x_Ref_text_136, x_Ref_text_137, mk_I, mk_J, mk_Q, mk_n, mk_sI, mk_sJ, Option.toList_some, Option.toList_none, List.cons_append, List.nil_append, true_and, and_true, ↓reduceIte, leT, leF, ltT, ltF, eqF, lt0F, le0T, le0F, eq0F, natT, nI_clamp, nI_1, if_true, if_false, not_true_eq_false, not_false_eq_true, z_00, z_10, eq_self, true_or, or_true, or_false, false_or, oc_94, rt_94_0, rt_94_1, rt_94_3, rt_94_8, rt_94_9, rt_94_10, rt_94_11, rt_94_12, rt_94_15, rt_94_16, rt_94_18, rt_94_21, rt_94_22, rt_94_23, rt_94_24, or_95, oa_95, tc_0, kc_0, k0_0, tc_1, kc_1, k0_1, tc_2, kc_2, k0_2, tc_3, kc_3, k0_3, tc_4, kc_4, k0_4, tc_5, kc_5, k0_5, tc_6, kc_6, k0_6, tc_7, kc_7, k0_7, s6, e2]
theorem q_learn17 {d m : Nat} (I : mx_I) (J : mx_J) (hm : I 56 1 = nI m) (hml : m ≤ 60) : ∃ I', I' 17 0 = 1 ∧ I' 18 1 = I 56 1 ∧ (∀ j, j < 60 → I' 19 j = I 57 j) ∧ (∀ a j, a ≠ 19 → ¬ (a = 18 ∧ j = 1) → ¬ (a = 17 ∧ j = 0) → I' a j = I a j) ∧ mx_Cal mx_tab (d + 3) 36 [.ref 17, .ref 56] (mk I J) none (mk I' J) := by
  obtain ⟨I1, ⟨a1, a2, a3⟩, hcal⟩ := q_tfL (r := 18) (q := 56) (rc := 19) (qc := 57) (n := 60) (by decide +kernel) (by decide +kernel) (by decide +kernel) (by decide +kernel) (by decide +kernel) (by decide +kernel) (by decide) (by decide) I J hm hml
  refine ⟨mx_ups I1 17 0 1, ups_same _ _ _ _, by rw [ups_ne _ _ (by omega)]; exact a1, fun j hj => by rw [ups_ne _ _ (by omega)]; exact a2 j hj, fun a j h1 h2 h3 => by rw [ups_ne _ _ (by omega)]; exact a3 a j h1 h2, ?_⟩
  have hc := hcal 0
  refine mx_Cal_in (ls := [some (.ref 17), some (.ref 56)]) tab_36 (by rw [mx_rcv, oc_17]; trivial) (Nat.le_of_ble_eq_true rfl) rfl ?_
  simp (disch := omega) only [x_Text_learn_0, x_Text_learn_1, x_Text_learn_4, x_Text_learn_5, x_Text_learn_8, x_Text_learn_9, x_Text_learn_10, x_Text_learn_13, mk_I, mk_J, mk_Q, mk_n, mk_sI, mk_sJ, Option.toList_some, Option.toList_none, List.cons_append, List.nil_append, true_and, and_true, oc_17, rt_17_1, rt_17_2, mx_call hc _, decide_true, Bool.true_or, Bool.or_true, Bool.and_true]
theorem q_textOf17 {d : Nat} (I : mx_I) (J : mx_J) : mx_Cal mx_tab (d + 1) 62 [.ref 1, .int (nI 0)] (mk I J) (some (.ref 17)) (mk I J) := by
  refine mx_Cal_in (ls := [some (.ref 1), some (.int (nI 0))]) tab_62 (by rw [mx_rcv, oc_1]; trivial) (Nat.le_of_ble_eq_true rfl) rfl ?_
  simp (disch := omega) only [x_Show_textOf_0, x_Show_textOf_1, x_Show_textOf_4, x_Show_textOf_5, x_Show_textOf_8, x_Show_textOf_11, x_Show_textOf_12, x_Show_textOf_15, x_Show_textOf_15n, mk_I, mk_J, mk_Q, mk_n, mk_sI, mk_sJ, Option.toList_some, Option.toList_none, List.cons_append, List.nil_append, true_and, and_true, ↓reduceIte, leT, leF, ltT, ltF, eqF, lt0F, le0T, le0F, eq0F, natT, nI_clamp, nI_1, if_true, if_false, not_true_eq_false, not_false_eq_true, z_00, z_10, eq_self, true_or, or_true, or_false, false_or, oc_1, rt_1_0, rt_1_5, rt_1_6, rt_1_7, rt_1_8, show (nI 0 = 0) = True from eq_true rfl]
theorem q_learn22 {d m : Nat} (I : mx_I) (J : mx_J) (hm : I 56 1 = nI m) (hml : m ≤ 60) : ∃ I', I' 22 0 = 1 ∧ I' 23 1 = I 56 1 ∧ (∀ j, j < 60 → I' 24 j = I 57 j) ∧ (∀ a j, a ≠ 24 → ¬ (a = 23 ∧ j = 1) → ¬ (a = 22 ∧ j = 0) → I' a j = I a j) ∧ mx_Cal mx_tab (d + 3) 36 [.ref 22, .ref 56] (mk I J) none (mk I' J) := by
  obtain ⟨I1, ⟨a1, a2, a3⟩, hcal⟩ := q_tfL (r := 23) (q := 56) (rc := 24) (qc := 57) (n := 60) (by decide +kernel) (by decide +kernel) (by decide +kernel) (by decide +kernel) (by decide +kernel) (by decide +kernel) (by decide) (by decide) I J hm hml
  refine ⟨mx_ups I1 22 0 1, ups_same _ _ _ _, by rw [ups_ne _ _ (by omega)]; exact a1, fun j hj => by rw [ups_ne _ _ (by omega)]; exact a2 j hj, fun a j h1 h2 h3 => by rw [ups_ne _ _ (by omega)]; exact a3 a j h1 h2, ?_⟩
  have hc := hcal 0
  refine mx_Cal_in (ls := [some (.ref 22), some (.ref 56)]) tab_36 (by rw [mx_rcv, oc_22]; trivial) (Nat.le_of_ble_eq_true rfl) rfl ?_
  simp (disch := omega) only [x_Text_learn_0, x_Text_learn_1, x_Text_learn_4, x_Text_learn_5, x_Text_learn_8, x_Text_learn_9, x_Text_learn_10, x_Text_learn_13, mk_I, mk_J, mk_Q, mk_n, mk_sI, mk_sJ, Option.toList_some, Option.toList_none, List.cons_append, List.nil_append, true_and, and_true, oc_22, rt_22_1, rt_22_2, mx_call hc _, decide_true, Bool.true_or, Bool.or_true, Bool.and_true]
theorem q_textOf22 {d : Nat} (I : mx_I) (J : mx_J) : mx_Cal mx_tab (d + 1) 62 [.ref 1, .int (nI 1)] (mk I J) (some (.ref 22)) (mk I J) := by
  refine mx_Cal_in (ls := [some (.ref 1), some (.int (nI 1))]) tab_62 (by rw [mx_rcv, oc_1]; trivial) (Nat.le_of_ble_eq_true rfl) rfl ?_
  simp (disch := omega) only [x_Show_textOf_0, x_Show_textOf_1, x_Show_textOf_4, x_Show_textOf_5, x_Show_textOf_8, x_Show_textOf_11, x_Show_textOf_12, x_Show_textOf_15, x_Show_textOf_15n, mk_I, mk_J, mk_Q, mk_n, mk_sI, mk_sJ, Option.toList_some, Option.toList_none, List.cons_append, List.nil_append, true_and, and_true, ↓reduceIte, leT, leF, ltT, ltF, eqF, lt0F, le0T, le0F, eq0F, natT, nI_clamp, nI_1, if_true, if_false, not_true_eq_false, not_false_eq_true, z_00, z_10, eq_self, true_or, or_true, or_false, false_or, oc_1, rt_1_0, rt_1_5, rt_1_6, rt_1_7, rt_1_8, show (nI 1 = 0) = False from by decide]
theorem op_text {L : Nat} {xs : Nat → Int32} {I : mx_I} (hI : Inv L xs I) (x0 : Int32) : OpI L xs I 103 164 [.int x0] := by
  rcases use_cases x0 with e0 | hx
  · refine OpI.err hI 1 (fun J => ?_) (fun J => ?_)
    · refine mx_Cal_in (ls := [some (.ref 0), some (.int _), none]) (d := 299) tab_103 (by rw [mx_rcv, oc_0]; trivial) (Nat.le_of_ble_eq_true rfl) rfl ?_
      simp (disch := omega) only [x_Main_text_0, x_Main_text_1, x_Main_text_4, x_Main_text_7, x_Main_text_8, x_Main_text_9, x_Main_text_12, mk_I, mk_J, mk_Q, mk_n, mk_sI, mk_sJ, Option.toList_some, Option.toList_none, List.cons_append, List.nil_append, true_and, and_true, ↓reduceIte, leT, leF, ltT, ltF, eqF, lt0F, le0T, le0F, eq0F, natT, nI_clamp, nI_1, if_true, if_false, not_true_eq_false, not_false_eq_true, z_00, z_10, eq_self, true_or, or_true, or_false, false_or, oc_0, oc_1, oc_2, rt_0_0, rt_0_1, rt_0_3, rt_0_4, rt_0_5, rt_0_6, rt_0_7, rt_0_8, rt_0_9, rt_1_0, rt_1_5, rt_1_6, rt_1_7, rt_1_8, rt_2_1, rt_2_2, rt_2_3, rt_2_4, rt_2_5, mx_call (q_isUse (d := 0) _ _) _, e0, mx_call (x_err_1 (d := 0) I J) _, mx_call (x_errN (d := 0) (k := 1) I J (by omega)) _]
    · refine mx_Cal_in (ls := [some (.ref 94), some (.int _), none, none, none]) (d := 299) tab_164 (by rw [mx_rcv, oc_94]; trivial) (Nat.le_of_ble_eq_true rfl) rfl ?_
      simp (disch := omega) only [x_Ref_text_0, x_Ref_text_1, x_Ref_text_2, x_Ref_text_3, x_Ref_text_6, x_Ref_text_9, x_Ref_text_10, x_Ref_text_11, x_Ref_text_14, mk_I, mk_J, mk_Q, mk_n, mk_sI, mk_sJ, Option.toList_some, Option.toList_none, List.cons_append, List.nil_append, true_and, and_true, ↓reduceIte, leT, leF, ltT, ltF, eqF, lt0F, le0T, le0F, eq0F, natT, nI_clamp, nI_1, if_true, if_false, not_true_eq_false, not_false_eq_true, z_00, z_10, eq_self, true_or, or_true, or_false, false_or, oc_94, rt_94_0, rt_94_1, rt_94_3, rt_94_8, rt_94_9, rt_94_10, rt_94_11, rt_94_12, rt_94_15, rt_94_16, rt_94_18, rt_94_21, rt_94_22, rt_94_23, rt_94_24, or_95, oa_95, tc_0, kc_0, k0_0, tc_1, kc_1, k0_1, tc_2, kc_2, k0_2, tc_3, kc_3, k0_3, tc_4, kc_4, k0_4, tc_5, kc_5, k0_5, tc_6, kc_6, k0_6, tc_7, kc_7, k0_7, eX95, eX94, mx_call (q_rIn (d := 0) _ _ _ _) _, e0, mx_call (m_err_1 (d := 0) (eX I 1) J) _, mx_call (m_errN (d := 0) (k := 1) (eX I 1) J (by omega)) _]
  obtain ⟨u, hu, rfl⟩ : ∃ u : Nat, u < 2 ∧ x0 = nI u := by
    rcases hx with rfl | rfl
    · exact ⟨0, by omega, rfl⟩
    · exact ⟨1, by omega, rfl⟩
  have hu2 : u = 0 ∨ u = 1 := by omega
  have huse : inV (nI u) 0 1 = 1 := by rcases hu2 with rfl | rfl <;> decide
  obtain ⟨hit, hcl, htp, hw, ht0, ht1⟩ := hI.1
  obtain ⟨n, n60, t1, t2, t3⟩ := htp
  have t1 : I 13 1 = nI n := t1
  have t3 : ∀ j, j < n → ∃ z, z < 256 ∧ I 14 j = nI z ∧ I 95 (303 + j) = nI z := t3
  obtain ⟨B, hB, hB1, hB2⟩ : ∃ B : Nat → Nat, (∀ j, B j < 256) ∧ (∀ j, j < n → I 14 j = nI (B j)) ∧ ∀ j, j < n → I 95 (303 + j) = nI (B j) := by
    refine ⟨fun j => if h : j < n then Classical.choose (t3 j h) else 0, fun j => ?_, fun j hj => ?_, fun j hj => ?_⟩
    · by_cases h : j < n
      · simp only [h, dite_true]
        exact (Classical.choose_spec (t3 j h)).1
      · simp only [h, dite_false]
        omega
    · simp only [hj, dite_true]
      exact (Classical.choose_spec (t3 j hj)).2.1
    · simp only [hj, dite_true]
      exact (Classical.choose_spec (t3 j hj)).2.2
  have hst := hI.2.2.2.2.2
  obtain ⟨y1, y2⟩ := pr_text n u B
  intro J
  have tp0 : ∀ I2 : mx_I, I2 13 1 = 0 → I2 95 4 = 0 → TapeR I2 0 95 := fun I2 h1 h2 => ⟨0, by omega, h1, h2, fun j hj => absurd hj (Nat.not_lt_zero j)⟩
  have hclr : ∀ I1 : mx_I, mx_Cal mx_tab 1 9 [.ref 13] (mk I1 J) none (mk (mx_ups I1 13 1 0) J) := fun I1 => q_Line_clear (d := 0) L13 I1 J
  cases hW : pr_W n B (pr_O n u B 5) 0 [] with
  | mk b js =>
    obtain ⟨j, S'⟩ := js
    by_cases hno : b = false ∨ j ≠ n
    · obtain ⟨hj, q', hr, hq⟩ := y2 b j S' hW hno
      obtain ⟨I1, f1, c1⟩ := q_faultNo hst J hu hB n60 t1 hB1 hj hr hq
      obtain ⟨I2, r1, r2, r3⟩ := q_rTextNo (I := mx_ups I1 13 1 0) J hu hB n60 (by rw [ups_ne _ _ (by omega), f1 95 4 (by omega)]; exact t2) (fun i hi => by rw [ups_ne _ _ (by omega), f1 95 _ (by omega)]; exact hB2 i hi) hW hno
      refine ⟨-10 - nI j, mx_ups I1 13 1 0, I2, J, J, ?_, r3, hst.upd (fun a i h => by rw [ups_ne _ _ (by omega)]; exact f1 a i (by omega)), ?_⟩
      · refine mx_Cal_in (ls := [some (.ref 0), some (.int (nI u)), none]) (d := 299) tab_103 (by rw [mx_rcv, oc_0]; trivial) (Nat.le_of_ble_eq_true rfl) rfl ?_
        have l0 : (nI j < 0) = False := lt0F (by omega)
        simp (disch := omega) only [x_Main_text_0, x_Main_text_1, x_Main_text_4, x_Main_text_7, x_Main_text_8, x_Main_text_9, x_Main_text_12, x_Main_text_13, x_Main_text_14, x_Main_text_17, x_Main_text_18, x_Main_text_21, x_Main_text_24, x_Main_text_25, x_Main_text_28, x_Main_text_29, x_Main_text_30, x_Main_text_33, x_Main_text_36, x_Main_text_39, x_Main_text_40, x_Main_text_43, x_Main_text_45, x_Main_text_46, x_Main_text_47, mk_I, mk_J, mk_Q, mk_n, mk_sI, mk_sJ, Option.toList_some, Option.toList_none, List.cons_append, List.nil_append, true_and, and_true, ↓reduceIte, leT, leF, ltT, ltF, eqF, lt0F, le0T, le0F, eq0F, natT, nI_clamp, nI_1, if_true, if_false, not_true_eq_false, not_false_eq_true, z_00, z_10, eq_self, true_or, or_true, or_false, false_or, oc_0, oc_1, oc_2, rt_0_0, rt_0_1, rt_0_3, rt_0_4, rt_0_5, rt_0_6, rt_0_7, rt_0_8, rt_0_9, rt_1_0, rt_1_5, rt_1_6, rt_1_7, rt_1_8, rt_2_1, rt_2_2, rt_2_3, rt_2_4, rt_2_5, mx_call (q_isUse (d := 0) _ _) _, huse, z_10, mx_call c1 _, mx_call (hclr I1) _, l0]
      · refine hI.tap (fun a i h => ?_) (tp0 I2 ?_ r2)
        · rw [r1 a i (by omega) (by omega) (by omega), ups_ne _ _ (by omega), f1 a i (by omega)]
        · rw [r1 13 1 (by omega) (by omega) (by omega), ups_same]
    · have hb : b = true := by
        cases b with
        | true => rfl
        | false => exact absurd (Or.inl rfl) hno
      have hjn : j = n := Classical.byContradiction fun q => hno (Or.inr q)
      subst hb hjn
      obtain ⟨z1, z2, q', z3, z4, z5⟩ := y1 S' hW
      obtain ⟨wq, P, C, o, dg⟩ := q'
      have z5 : pr_settle 1 P C o = ([], pr_enc u S', 0) := z5
      obtain ⟨I1, d1, f1, c1⟩ := q_faultYes hst J hu hB n60 t1 hB1 z3 z4
      rw [z5] at d1
      obtain ⟨d1, d2⟩ := d1
      have d1 : I1 56 1 = nI (pr_enc u S').length := d1
      have d2 : ∀ k, k < (pr_enc u S').length → I1 57 k = Int32.ofInt ((pr_enc u S').getD k 0) := d2
      rw [enc_len] at d1 d2
      have hne := up_ne z2
      have hfr1 : ∀ a i, ¬ (55 ≤ a ∧ a ≤ 59) → ¬ (a = 13 ∧ i = 1) → mx_ups I1 13 1 0 a i = I a i := fun a i h1 h2 => by rw [ups_ne _ _ (by omega)]; exact f1 a i h1
      have m1 : (mx_ups I1 13 1 0) 56 1 = nI S'.length := by rw [ups_ne _ _ (by omega)]; exact d1
      rcases hu2 with rfl | rfl
      · obtain ⟨I2, l1, l2, l3, l4, l5⟩ := q_learn17 (d := 0) (mx_ups I1 13 1 0) J m1 (by omega)
        have g : ∀ a i, ¬ (55 ≤ a ∧ a ≤ 59) → ¬ (a = 13 ∧ i = 1) → a ≠ 19 → ¬ (a = 18 ∧ i = 1) → ¬ (a = 17 ∧ i = 0) → I2 a i = I a i := fun a i h1 h2 h3 h4 h5 => (l4 a i h3 h4 h5).trans (hfr1 a i h1 h2)
        obtain ⟨I3, r1, r2, r3, r4, r5⟩ := q_rTextYes (b := 53) (I := I2) J hu rfl hB n60 ((g 95 4 (by omega) (by omega) (by omega) (by omega) (by omega)).trans t2) (fun i hi => (g 95 _ (by omega) (by omega) (by omega) (by omega) (by omega)).trans (hB2 i hi)) hW
        have hfin : ∀ a i, a ≠ 98 → ¬ (a = 94 ∧ 4 ≤ i ∧ i ≤ 7) → ¬ (a = 95 ∧ (i = 4 ∨ (53 ≤ i ∧ i < 53 + 125))) → ¬ (55 ≤ a ∧ a ≤ 59) → ¬ (a = 13 ∧ i = 1) → a ≠ 19 → ¬ (a = 18 ∧ i = 1) → ¬ (a = 17 ∧ i = 0) → I3 a i = I a i := fun a i h1 h2 h3 h4 h5 h6 h7 h8 => (r1 a i h1 h2 h3).trans (g a i h4 h5 h6 h7 h8)
        have kp : ∀ a i, a = 19 ∨ (a = 18 ∧ i = 1) ∨ (a = 17 ∧ i = 0) ∨ (a = 13 ∧ i = 1) → I3 a i = I2 a i := fun a i h => r1 a i (by omega) (by omega) (by omega)
        obtain ⟨w1, w2⟩ := ev_wf hu (f := fun k => I3 95 (53 + 1 + k)) r4 S' [] 0 (0 + 1) rfl rfl (z2 0)
        refine ⟨1, I2, I3, J, J, ?_, r5, hst.upd (fun a i h => g a i (by omega) (by omega) (by omega) (by omega) (by omega)), ?_⟩
        · refine mx_Cal_in (ls := [some (.ref 0), some (.int (nI 0)), none]) (d := 299) tab_103 (by rw [mx_rcv, oc_0]; trivial) (Nat.le_of_ble_eq_true rfl) rfl ?_
          simp (disch := omega) only [x_Main_text_0, x_Main_text_1, x_Main_text_4, x_Main_text_7, x_Main_text_8, x_Main_text_9, x_Main_text_12, x_Main_text_13, x_Main_text_14, x_Main_text_17, x_Main_text_18, x_Main_text_21, x_Main_text_24, x_Main_text_25, x_Main_text_28, x_Main_text_29, x_Main_text_30, x_Main_text_33, x_Main_text_36, x_Main_text_39, x_Main_text_40, x_Main_text_43, x_Main_text_45, x_Main_text_46, x_Main_text_47, x_Main_text_48, x_Main_text_49, x_Main_text_52, x_Main_text_53, x_Main_text_56, x_Main_text_57, x_Main_text_60, x_Main_text_63, x_Main_text_66, x_Main_text_67, mk_I, mk_J, mk_Q, mk_n, mk_sI, mk_sJ, Option.toList_some, Option.toList_none, List.cons_append, List.nil_append, true_and, and_true, ↓reduceIte, leT, leF, ltT, ltF, eqF, lt0F, le0T, le0F, eq0F, natT, nI_clamp, nI_1, if_true, if_false, not_true_eq_false, not_false_eq_true, z_00, z_10, eq_self, true_or, or_true, or_false, false_or, oc_0, oc_1, oc_2, rt_0_0, rt_0_1, rt_0_3, rt_0_4, rt_0_5, rt_0_6, rt_0_7, rt_0_8, rt_0_9, rt_1_0, rt_1_5, rt_1_6, rt_1_7, rt_1_8, rt_2_1, rt_2_2, rt_2_3, rt_2_4, rt_2_5, oc_55, rt_55_0, rt_55_1, mx_call (q_isUse (d := 0) _ _) _, huse, z_10, mx_call c1 _, mx_call (hclr I1) _, m1_lt0, mx_call (q_textOf17 (d := 0) _ _) _, mx_call l5 _]
        · have tx : TextR I3 0 17 95 53 := by
            refine ⟨⟨S'.length, by omega, ?_⟩, Or.inr ⟨?_, S'.length, hne, by omega, r3, ?_, ⟨w1, fun k hk => (w2 k (Nat.zero_le k) hk).1⟩, fun k hk => ?_⟩⟩
            · show I3 18 1 = _
              rw [kp 18 1 (by omega), l2]
              exact m1
            · rw [kp 17 0 (by omega)]
              exact l1
            · show I3 18 1 = _
              rw [kp 18 1 (by omega), l2]
              exact m1
            · show I3 19 k = _
              rw [kp 19 k (by omega), l3 k (by omega), ups_ne _ _ (by omega), d2 k hk, enc_get _ hk]
              exact (w2 k (Nat.zero_le k) hk).2
          have txo : TextR I3 1 22 95 178 := ht1.congr2 (fun a i h1 h2 => hfin a i (by omega) (by omega) (by omega) (by omega) (by omega) (by omega) (by omega) (by omega)) (fun i h1 h2 => hfin 95 i (by omega) (by omega) (by omega) (by omega) (by omega) (by omega) (by omega) (by omega))
          refine hI.txt (fun a i h => hfin a i (by omega) (by omega) (by omega) (by omega) (by omega) (by omega) (by omega) (by omega)) (tp0 I3 ?_ r2) (hw.congr (fun a i h1 h2 => hfin a i (by omega) (by omega) (by omega) (by omega) (by omega) (by omega) (by omega) (by omega)) (fun i h => hfin 95 i (by omega) (by omega) (by omega) (by omega) (by omega) (by omega) (by omega) (by omega))) tx txo
          rw [kp 13 1 (by omega), l4 13 1 (by omega) (by omega) (by omega), ups_same]
      · obtain ⟨I2, l1, l2, l3, l4, l5⟩ := q_learn22 (d := 0) (mx_ups I1 13 1 0) J m1 (by omega)
        have g : ∀ a i, ¬ (55 ≤ a ∧ a ≤ 59) → ¬ (a = 13 ∧ i = 1) → a ≠ 24 → ¬ (a = 23 ∧ i = 1) → ¬ (a = 22 ∧ i = 0) → I2 a i = I a i := fun a i h1 h2 h3 h4 h5 => (l4 a i h3 h4 h5).trans (hfr1 a i h1 h2)
        obtain ⟨I3, r1, r2, r3, r4, r5⟩ := q_rTextYes (b := 178) (I := I2) J hu rfl hB n60 ((g 95 4 (by omega) (by omega) (by omega) (by omega) (by omega)).trans t2) (fun i hi => (g 95 _ (by omega) (by omega) (by omega) (by omega) (by omega)).trans (hB2 i hi)) hW
        have hfin : ∀ a i, a ≠ 98 → ¬ (a = 94 ∧ 4 ≤ i ∧ i ≤ 7) → ¬ (a = 95 ∧ (i = 4 ∨ (178 ≤ i ∧ i < 178 + 125))) → ¬ (55 ≤ a ∧ a ≤ 59) → ¬ (a = 13 ∧ i = 1) → a ≠ 24 → ¬ (a = 23 ∧ i = 1) → ¬ (a = 22 ∧ i = 0) → I3 a i = I a i := fun a i h1 h2 h3 h4 h5 h6 h7 h8 => (r1 a i h1 h2 h3).trans (g a i h4 h5 h6 h7 h8)
        have kp : ∀ a i, a = 24 ∨ (a = 23 ∧ i = 1) ∨ (a = 22 ∧ i = 0) ∨ (a = 13 ∧ i = 1) → I3 a i = I2 a i := fun a i h => r1 a i (by omega) (by omega) (by omega)
        obtain ⟨w1, w2⟩ := ev_wf hu (f := fun k => I3 95 (178 + 1 + k)) r4 S' [] 0 (0 + 1) rfl rfl (z2 0)
        refine ⟨1, I2, I3, J, J, ?_, r5, hst.upd (fun a i h => g a i (by omega) (by omega) (by omega) (by omega) (by omega)), ?_⟩
        · refine mx_Cal_in (ls := [some (.ref 0), some (.int (nI 1)), none]) (d := 299) tab_103 (by rw [mx_rcv, oc_0]; trivial) (Nat.le_of_ble_eq_true rfl) rfl ?_
          simp (disch := omega) only [x_Main_text_0, x_Main_text_1, x_Main_text_4, x_Main_text_7, x_Main_text_8, x_Main_text_9, x_Main_text_12, x_Main_text_13, x_Main_text_14, x_Main_text_17, x_Main_text_18, x_Main_text_21, x_Main_text_24, x_Main_text_25, x_Main_text_28, x_Main_text_29, x_Main_text_30, x_Main_text_33, x_Main_text_36, x_Main_text_39, x_Main_text_40, x_Main_text_43, x_Main_text_45, x_Main_text_46, x_Main_text_47, x_Main_text_48, x_Main_text_49, x_Main_text_52, x_Main_text_53, x_Main_text_56, x_Main_text_57, x_Main_text_60, x_Main_text_63, x_Main_text_66, x_Main_text_67, mk_I, mk_J, mk_Q, mk_n, mk_sI, mk_sJ, Option.toList_some, Option.toList_none, List.cons_append, List.nil_append, true_and, and_true, ↓reduceIte, leT, leF, ltT, ltF, eqF, lt0F, le0T, le0F, eq0F, natT, nI_clamp, nI_1, if_true, if_false, not_true_eq_false, not_false_eq_true, z_00, z_10, eq_self, true_or, or_true, or_false, false_or, oc_0, oc_1, oc_2, rt_0_0, rt_0_1, rt_0_3, rt_0_4, rt_0_5, rt_0_6, rt_0_7, rt_0_8, rt_0_9, rt_1_0, rt_1_5, rt_1_6, rt_1_7, rt_1_8, rt_2_1, rt_2_2, rt_2_3, rt_2_4, rt_2_5, oc_55, rt_55_0, rt_55_1, mx_call (q_isUse (d := 0) _ _) _, huse, z_10, mx_call c1 _, mx_call (hclr I1) _, m1_lt0, mx_call (q_textOf22 (d := 0) _ _) _, mx_call l5 _]
        · have tx : TextR I3 1 22 95 178 := by
            refine ⟨⟨S'.length, by omega, ?_⟩, Or.inr ⟨?_, S'.length, hne, by omega, r3, ?_, ⟨w1, fun k hk => (w2 k (Nat.zero_le k) hk).1⟩, fun k hk => ?_⟩⟩
            · show I3 23 1 = _
              rw [kp 23 1 (by omega), l2]
              exact m1
            · rw [kp 22 0 (by omega)]
              exact l1
            · show I3 23 1 = _
              rw [kp 23 1 (by omega), l2]
              exact m1
            · show I3 24 k = _
              rw [kp 24 k (by omega), l3 k (by omega), ups_ne _ _ (by omega), d2 k hk, enc_get _ hk]
              exact (w2 k (Nat.zero_le k) hk).2
          have txo : TextR I3 0 17 95 53 := ht0.congr2 (fun a i h1 h2 => hfin a i (by omega) (by omega) (by omega) (by omega) (by omega) (by omega) (by omega) (by omega)) (fun i h1 h2 => hfin 95 i (by omega) (by omega) (by omega) (by omega) (by omega) (by omega) (by omega) (by omega))
          refine hI.txt (fun a i h => hfin a i (by omega) (by omega) (by omega) (by omega) (by omega) (by omega) (by omega) (by omega)) (tp0 I3 ?_ r2) (hw.congr (fun a i h1 h2 => hfin a i (by omega) (by omega) (by omega) (by omega) (by omega) (by omega) (by omega) (by omega)) (fun i h => hfin 95 i (by omega) (by omega) (by omega) (by omega) (by omega) (by omega) (by omega) (by omega))) txo tx
          rw [kp 13 1 (by omega), l4 13 1 (by omega) (by omega) (by omega), ups_same]
