/-! reading a text: the class's way (a stack of signs) beside the reference's (descent), over bytes B 0 .. B (n - 1) -/
def pr_rank (c : Nat) : Nat := if c = 124 then 1 else if c = 38 then 2 else if c = 60 ∨ c = 61 ∨ c = 62 then 3 else if c = 43 ∨ c = 45 then 4 else if c = 42 ∨ c = 47 ∨ c = 37 then 5 else if c = 33 then 6 else 0
def pr_name (u c : Nat) : Option Nat := if u = 0 then (if c = 107 then some 0 else if c = 108 then some 1 else if c = 112 then some 2 else none) else (if c = 105 then some 0 else if c = 112 then some 1 else if c = 107 then some 2 else none)
abbrev pr_S : Type := Bool × List Nat × List Int × Nat × Nat
abbrev pr_T : Type := List Nat × List Int × Nat
def pr_settle (r : Nat) : List Nat → List Int → Nat → pr_T
  | [], C, o => ([], C, o)
  | s :: P, C, o => if r ≤ pr_rank s then pr_settle r P (C ++ [-(s : Int)]) (if s = 33 then o - 1 else o) else (s :: P, C, o)
def pr_top (P : List Nat) : Nat := match P with
  | [] => 0
  | s :: _ => pr_rank s
def pr_digit (c : Nat) : Bool := decide (48 ≤ c) && decide (c ≤ 57)
def pr_bump (C : List Int) (g : Nat) : List Int := C.dropLast ++ [C.getLastD 0 * 10 + (g : Int)]
/-- one byte; none: it is refused -/
def pr_takes (u c : Nat) (q : pr_S) : Option pr_S :=
  if pr_digit c = true then
    (if q.2.2.2.2 = 4 ∨ (q.2.2.2.2 = 0 ∧ q.1 = false) then none
     else some (false, q.2.1, (if q.2.2.2.2 = 0 then q.2.2.1 ++ [((c - 48 : Nat) : Int)] else pr_bump q.2.2.1 (c - 48)), q.2.2.2.1, q.2.2.2.2 + 1))
  else if q.1 = true then
    (if c = 33 ∨ c = 40 then (if q.2.2.2.1 = 5 then none else some (true, c :: q.2.1, q.2.2.1, q.2.2.2.1 + 1, 0))
     else match pr_name u c with
       | some x => some (false, q.2.1, q.2.2.1 ++ [-1 - (x : Int)], q.2.2.2.1, 0)
       | none => none)
  else if c = 41 then
    (match pr_settle 1 q.2.1 q.2.2.1 q.2.2.2.1 with
     | ([], _, _) => none
     | (_ :: P, C, o) => some (false, P, C, o - 1, 0))
  else if pr_rank c = 0 ∨ c = 33 then none
  else if pr_rank c = 3 then
    (let t := pr_settle 4 q.2.1 q.2.2.1 q.2.2.2.1
     if pr_top t.1 = 3 then none else (let v := pr_settle 3 t.1 t.2.1 t.2.2; some (true, c :: v.1, v.2.1, v.2.2, 0)))
  else (let v := pr_settle (pr_rank c) q.2.1 q.2.2.1 q.2.2.2.1; some (true, c :: v.1, v.2.1, v.2.2, 0))
def pr_run (u : Nat) (B : Nat → Nat) : Nat → Nat → pr_S → Option pr_S
  | 0, _, q => some q
  | k + 1, i, q => match pr_takes u (B i) q with
    | some q' => pr_run u B k (i + 1) q'
    | none => none
theorem pr_run_add {u : Nat} {B : Nat → Nat} : ∀ {k k2 i : Nat} {q q' : pr_S}, pr_run u B k i q = some q' → pr_run u B (k + k2) i q = pr_run u B k2 (i + k) q'
  | 0, k2, i, q, q', h => by
    cases h
    rw [Nat.zero_add, Nat.add_zero]
  | k + 1, k2, i, q, q', h => by
    rw [show k + 1 + k2 = (k + k2) + 1 by omega]
    simp only [pr_run] at h ⊢
    split at h
    · next q1 hq =>
      rw [pr_run_add (k2 := k2) h, show i + 1 + k = i + (k + 1) by omega]
    · cases h
theorem pr_run_one {u : Nat} {B : Nat → Nat} {i : Nat} {q q' : pr_S} (h : pr_takes u (B i) q = some q') : pr_run u B 1 i q = some q' := by
  simp only [pr_run, h]
/-- whether all is read -/
def pr_whole (q : pr_S) : Prop := q.1 = false ∧ (pr_settle 1 q.2.1 q.2.2.1 q.2.2.2.1).1 = []
/-! the reference's way -/
abbrev pr_R : Type := Bool × Nat × List (Nat × Nat)
def pr_lp (n : Nat) (B : Nat → Nat) (ok : Nat → Bool) (sub : Nat → List (Nat × Nat) → pr_R) : Nat → Nat → List (Nat × Nat) → pr_R
  | 0, i, S => (true, i, S)
  | f + 1, i, S => if i < n ∧ ok (B i) = true then
      (match sub (i + 1) S with
       | (true, j, S') => pr_lp n B ok sub f j (S' ++ [(3, B i)])
       | (false, j, S') => (false, j, S'))
    else (true, i, S)
def pr_bin (n : Nat) (B : Nat → Nat) (ok : Nat → Bool) (sub : Nat → List (Nat × Nat) → pr_R) (i : Nat) (S : List (Nat × Nat)) : pr_R := match sub i S with
  | (true, j, S') => pr_lp n B ok sub (n + 1 - j) j S'
  | (false, j, S') => (false, j, S')
def pr_cmp (n : Nat) (B : Nat → Nat) (sub : Nat → List (Nat × Nat) → pr_R) (i : Nat) (S : List (Nat × Nat)) : pr_R := match sub i S with
  | (true, j, S') => if j < n ∧ pr_rank (B j) = 3 then
      (match sub (j + 1) S' with
       | (true, j2, S2) => (true, j2, S2 ++ [(3, B j)])
       | (false, j2, S2) => (false, j2, S2))
    else (true, j, S')
  | (false, j, S') => (false, j, S')
def pr_W (n : Nat) (B : Nat → Nat) (one : Nat → List (Nat × Nat) → pr_R) : Nat → List (Nat × Nat) → pr_R :=
  pr_bin n B (fun c => decide (pr_rank c = 1)) (pr_bin n B (fun c => decide (pr_rank c = 2)) (pr_cmp n B (pr_bin n B (fun c => decide (pr_rank c = 4)) (pr_bin n B (fun c => decide (pr_rank c = 5)) one))))
/-- how many digits stand from i on, at most f -/
def pr_digs (n : Nat) (B : Nat → Nat) : Nat → Nat → Nat
  | 0, _ => 0
  | f + 1, i => if i < n ∧ pr_digit (B i) = true then pr_digs n B f (i + 1) + 1 else 0
def pr_val (B : Nat → Nat) (i : Nat) : Nat → Nat
  | 0 => 0
  | k + 1 => 10 * pr_val B i k + (B (i + k) - 48)
def pr_O (n u : Nat) (B : Nat → Nat) : Nat → Nat → List (Nat × Nat) → pr_R
  | 0, i, S => if i < n ∧ (pr_name u (B i)).isSome = true then (true, i + 1, S ++ [(1, B i)])
    else if i < n ∧ pr_digit (B i) = true then (true, i + pr_digs n B 4 i, S ++ [(0, pr_val B i (pr_digs n B 4 i))])
    else (false, i, S)
  | m + 1, i, S => if i < n ∧ (pr_name u (B i)).isSome = true then (true, i + 1, S ++ [(1, B i)])
    else if i < n ∧ pr_digit (B i) = true then (true, i + pr_digs n B 4 i, S ++ [(0, pr_val B i (pr_digs n B 4 i))])
    else if i < n ∧ B i = 33 then
      (match pr_O n u B m (i + 1) S with
       | (true, j, S') => (true, j, S' ++ [(2, 0)])
       | (false, j, S') => (false, j, S'))
    else if i < n ∧ B i = 40 then
      (match pr_W n B (pr_O n u B m) (i + 1) S with
       | (true, j, S') => if j < n ∧ B j = 41 then (true, j + 1, S') else (false, j, S')
       | (false, j, S') => (false, j, S'))
    else (false, i, S)
def pr_enc1 (u : Nat) (s : Nat × Nat) : Int := if s.1 = 0 then (s.2 : Int) else if s.1 = 1 then (match pr_name u s.2 with
  | some x => -1 - (x : Int)
  | none => 0) else if s.1 = 2 then -33 else -(s.2 : Int)
def pr_enc (u : Nat) (S : List (Nat × Nat)) : List Int := S.map (pr_enc1 u)
theorem pr_enc_snoc (u : Nat) (S : List (Nat × Nat)) (s : Nat × Nat) : pr_enc u (S ++ [s]) = pr_enc u S ++ [pr_enc1 u s] := by simp [pr_enc]
/-! settling -/
theorem pr_settle_stop {r : Nat} {P : List Nat} {C : List Int} {o : Nat} (h : pr_top P < r) : pr_settle r P C o = (P, C, o) := by
  cases P with
  | nil => rfl
  | cons s P =>
    unfold pr_settle
    rw [if_neg (by simp only [pr_top] at h; omega)]
theorem pr_settle_settle {r r2 : Nat} (h : r ≤ r2) : ∀ (P : List Nat) (C : List Int) (o : Nat), pr_settle r (pr_settle r2 P C o).1 (pr_settle r2 P C o).2.1 (pr_settle r2 P C o).2.2 = pr_settle r P C o
  | [], _, _ => rfl
  | s :: P, C, o => by
    by_cases h2 : r2 ≤ pr_rank s
    · rw [show pr_settle r2 (s :: P) C o = pr_settle r2 P (C ++ [-(s : Int)]) (if s = 33 then o - 1 else o) by rw [pr_settle, if_pos h2]]
      rw [pr_settle_settle h]
      conv => rhs; rw [pr_settle, if_pos (by omega)]
    · rw [show pr_settle r2 (s :: P) C o = (s :: P, C, o) by rw [pr_settle, if_neg h2]]
theorem pr_settle_to {r r2 : Nat} {P P' : List Nat} {C C' : List Int} {o o' : Nat} (h : r ≤ r2) (he : pr_settle r2 P C o = (P', C', o')) : pr_settle r P C o = pr_settle r P' C' o' := by
  rw [← pr_settle_settle h P C o, he]
theorem pr_settle_push {r c : Nat} {P : List Nat} {C : List Int} {o : Nat} (hc : r ≤ pr_rank c) (h33 : c ≠ 33) (hP : pr_top P < r) : pr_settle r (c :: P) C o = (P, C ++ [-(c : Int)], o) := by
  rw [pr_settle, if_pos hc, if_neg h33, pr_settle_stop hP]
theorem pr_settle_nots {r : Nat} (hr : r ≤ 6) {P : List Nat} (hP : pr_top P < r) : ∀ (k : Nat) (C : List Int) (o : Nat), k ≤ o → pr_settle r (List.replicate k 33 ++ P) C o = (P, C ++ List.replicate k (-33), o - k)
  | 0, C, o, _ => by simp [pr_settle_stop hP]
  | k + 1, C, o, h => by
    rw [List.replicate_succ, List.cons_append, pr_settle, if_pos (by show r ≤ 6; exact hr), if_pos rfl, pr_settle_nots hr hP k _ _ (by omega)]
    rw [List.replicate_succ, List.append_assoc, show o - 1 - k = o - (k + 1) by omega]
    rfl
/-! what the steps leave on the pile -/
def pr_ev1 (u : Nat) (s : Nat × Nat) (d : Nat) : Option Nat := if s.1 = 0 then (if s.2 ≤ 9999 then some (d + 1) else none) else if s.1 = 1 then (if (pr_name u s.2).isSome = true then some (d + 1) else none) else if s.1 = 2 then (if s.2 = 0 ∧ 1 ≤ d then some d else none) else if s.1 = 3 ∧ 1 ≤ pr_rank s.2 ∧ pr_rank s.2 ≤ 5 ∧ 2 ≤ d then some (d - 1) else none
def pr_ev (u : Nat) : Nat → List (Nat × Nat) → Option Nat
  | d, [] => some d
  | d, s :: T => (pr_ev1 u s d).bind (fun d' => pr_ev u d' T)
theorem pr_ev_app (u : Nat) : ∀ (T T2 : List (Nat × Nat)) (d : Nat), pr_ev u d (T ++ T2) = (pr_ev u d T).bind (fun d' => pr_ev u d' T2)
  | [], _, _ => rfl
  | s :: T, T2, d => by
    simp only [List.cons_append, pr_ev]
    cases h : pr_ev1 u s d with
    | none => rfl
    | some d' => simp only [Option.bind_some]; exact pr_ev_app u T T2 d'
/-- T adds one value to the pile -/
def pr_up (u : Nat) (T : List (Nat × Nat)) : Prop := ∀ d, pr_ev u d T = some (d + 1)
theorem pr_up_bin {u c : Nat} {T T2 : List (Nat × Nat)} (h1 : pr_up u T) (h2 : pr_up u T2) (hc : 1 ≤ pr_rank c) (hc5 : pr_rank c ≤ 5) : pr_up u (T ++ T2 ++ [(3, c)]) := by
  intro d
  rw [pr_ev_app, pr_ev_app, h1 d]
  simp only [Option.bind_some]
  rw [h2 (d + 1)]
  simp only [Option.bind_some, pr_ev, pr_ev1]
  rw [if_neg (by decide), if_neg (by decide), if_neg (by decide), if_pos ⟨trivial, hc, hc5, by omega⟩]
  simp
def pr_next (u n : Nat) (B : Nat → Nat) (r j : Nat) (q : pr_S) : Prop := j = n ∨ (1 ≤ pr_rank (B j) ∧ pr_rank (B j) < r) ∨ B j = 41 ∨ pr_takes u (B j) q = none
/-- the class at q' where the reference has read to j with the steps S' -/
def pr_yes (u n : Nat) (B : Nat → Nat) (r rn i : Nat) (S : List (Nat × Nat)) (P : List Nat) (q : pr_S) (j : Nat) (S' : List (Nat × Nat)) : Prop :=
  i < j ∧ j ≤ n ∧ S'.length + i ≤ S.length + j ∧ (∃ T, S' = S ++ T ∧ pr_up u T) ∧ ∃ q', pr_run u B (j - i) i q = some q' ∧ q'.1 = false ∧ pr_settle r q'.2.1 q'.2.2.1 q'.2.2.2.1 = (P, pr_enc u S', q.2.2.2.1) ∧ pr_next u n B rn j q'
def pr_no (u n : Nat) (B : Nat → Nat) (i : Nat) (q : pr_S) (j : Nat) : Prop := i ≤ j ∧ j ≤ n ∧ ∃ q', pr_run u B (j - i) i q = some q' ∧ ((j < n ∧ pr_takes u (B j) q' = none) ∨ (j = n ∧ ¬ pr_whole q'))
def pr_Good (u n : Nat) (B : Nat → Nat) (r m : Nat) (f : Nat → List (Nat × Nat) → pr_R) : Prop :=
  ∀ (i : Nat) (S : List (Nat × Nat)) (P : List Nat) (q : pr_S), i ≤ n → q.1 = true → q.2.1 = P → q.2.2.1 = pr_enc u S → q.2.2.2.1 + m = 5 → q.2.2.2.2 = 0 → pr_top P < r →
  (∀ j S', f i S = (true, j, S') → pr_yes u n B r r i S P q j S') ∧ ∀ j S', f i S = (false, j, S') → pr_no u n B i q j
theorem pr_rank_digit {c : Nat} (h : 1 ≤ pr_rank c) : pr_digit c = false := by
  unfold pr_rank at h
  unfold pr_digit
  by_cases h1 : 48 ≤ c ∧ c ≤ 57
  · rw [if_neg (by omega), if_neg (by omega), if_neg (by omega), if_neg (by omega), if_neg (by omega), if_neg (by omega)] at h
    omega
  · simp; omega
theorem pr_rank41 : pr_rank 41 = 0 := rfl
theorem pr_rank33 : pr_rank 33 = 6 := rfl
theorem pr_takes_op {u c : Nat} {q : pr_S} (hq : q.1 = false) (h1 : 1 ≤ pr_rank c) (h5 : pr_rank c ≤ 5) (h3 : pr_rank c ≠ 3) : pr_takes u c q = some (true, c :: (pr_settle (pr_rank c) q.2.1 q.2.2.1 q.2.2.2.1).1, (pr_settle (pr_rank c) q.2.1 q.2.2.1 q.2.2.2.1).2.1, (pr_settle (pr_rank c) q.2.1 q.2.2.1 q.2.2.2.1).2.2, 0) := by
  have hd := pr_rank_digit h1
  unfold pr_takes
  rw [hd, if_neg (by decide), hq, if_neg (by decide), if_neg (by intro h; rw [h] at h1; exact absurd h1 (by decide)), if_neg (by rintro (h | h) <;> first | omega | (rw [h] at h5; exact absurd h5 (by decide))), if_neg h3]
theorem pr_takes_cmp {u c : Nat} {q : pr_S} (hq : q.1 = false) (h3 : pr_rank c = 3) : pr_takes u c q = if pr_top (pr_settle 4 q.2.1 q.2.2.1 q.2.2.2.1).1 = 3 then none else some (true, c :: (pr_settle 3 q.2.1 q.2.2.1 q.2.2.2.1).1, (pr_settle 3 q.2.1 q.2.2.1 q.2.2.2.1).2.1, (pr_settle 3 q.2.1 q.2.2.1 q.2.2.2.1).2.2, 0) := by
  have hd := pr_rank_digit (c := c) (by omega)
  unfold pr_takes
  rw [hd, if_neg (by decide), hq, if_neg (by decide), if_neg (by intro h; rw [h] at h3; exact absurd h3 (by decide)), if_neg (by rintro (h | h) <;> first | omega | (rw [h] at h3; exact absurd h3 (by decide))), if_pos h3]
  simp only [pr_settle_settle (show 3 ≤ 4 by decide)]
theorem pr_lp_good {u n : Nat} {B : Nat → Nat} {r m : Nat} {sub : Nat → List (Nat × Nat) → pr_R} (h1 : 1 ≤ r) (h5 : r ≤ 5) (h3 : r ≠ 3) (hs : pr_Good u n B (r + 1) m sub) {i0 : Nat} {S0 : List (Nat × Nat)} {P : List Nat} {q0 : pr_S} (hm : q0.2.2.2.1 + m = 5) (hP : pr_top P < r) :
    ∀ (f i : Nat) (S : List (Nat × Nat)), n < i + f → pr_yes u n B r (r + 1) i0 S0 P q0 i S →
      (∀ j S', pr_lp n B (fun c => decide (pr_rank c = r)) sub f i S = (true, j, S') → pr_yes u n B r r i0 S0 P q0 j S') ∧ ∀ j S', pr_lp n B (fun c => decide (pr_rank c = r)) sub f i S = (false, j, S') → pr_no u n B i0 q0 j
  | 0, i, S, hf, hy => by
    have := hy.2.1
    omega
  | f + 1, i, S, hf, hy => by
    obtain ⟨y1, y2, y3, ⟨T, y4, y5⟩, q', y6, y7, z2, y9⟩ := hy
    simp only [pr_lp]
    by_cases hc : i < n ∧ decide (pr_rank (B i) = r) = true
    · rw [if_pos hc]
      have hr : pr_rank (B i) = r := by simpa using hc.2
      have ht := pr_takes_op (u := u) (c := B i) y7 (by omega) (by omega) (by rw [hr]; exact h3)
      rw [hr, z2] at ht
      have hrun : pr_run u B (i + 1 - i0) i0 q0 = some (true, B i :: P, pr_enc u S, q0.2.2.2.1, 0) := by
        rw [show i + 1 - i0 = (i - i0) + 1 by omega, pr_run_add y6, show i0 + (i - i0) = i by omega]
        exact pr_run_one ht
      have g := hs (i + 1) S (B i :: P) (true, B i :: P, pr_enc u S, q0.2.2.2.1, 0) (by omega) rfl rfl rfl hm rfl (by show pr_rank (B i) < r + 1; omega)
      cases hsub : sub (i + 1) S with
      | mk b js =>
        obtain ⟨j, S2⟩ := js
        cases b with
        | true =>
          simp only
          obtain ⟨a1, a2, a3, ⟨T2, a4, a5⟩, q2, a6, a7, a8, a9⟩ := g.1 j S2 hsub
          have hrun2 : pr_run u B (j - i0) i0 q0 = some q2 := by
            rw [show j - i0 = (i + 1 - i0) + (j - (i + 1)) by omega, pr_run_add hrun, show i0 + (i + 1 - i0) = i + 1 by omega]
            exact a6
          have hb33 : B i ≠ 33 := by intro h; rw [h] at hr; rw [← hr] at h5; exact absurd h5 (by decide)
          have hset : pr_settle r q2.2.1 q2.2.2.1 q2.2.2.2.1 = (P, pr_enc u (S2 ++ [(3, B i)]), q0.2.2.2.1) := by
            rw [pr_settle_to (by omega) a8, pr_settle_push (by omega) hb33 hP, pr_enc_snoc]
            rfl
          refine pr_lp_good h1 h5 h3 hs hm hP f j (S2 ++ [(3, B i)]) (by omega) ⟨by omega, a2, by simp only [List.length_append, List.length_cons, List.length_nil]; omega, ⟨T ++ T2 ++ [(3, B i)], by rw [a4, y4]; simp, pr_up_bin y5 a5 (by omega) (by omega)⟩, q2, hrun2, a7, hset, a9⟩
        | false =>
          simp only
          obtain ⟨a1, a2, q2, a3, a4⟩ := g.2 j S2 hsub
          refine ⟨fun _ _ h => (by cases h), fun j' S' h => ?_⟩
          cases h
          refine ⟨by omega, a2, q2, ?_, a4⟩
          rw [show j - i0 = (i + 1 - i0) + (j - (i + 1)) by omega, pr_run_add hrun, show i0 + (i + 1 - i0) = i + 1 by omega]
          exact a3
    · rw [if_neg hc]
      refine ⟨fun j S' h => ?_, fun _ _ h => by cases h⟩
      cases h
      refine ⟨y1, y2, y3, ⟨T, y4, y5⟩, q', y6, y7, z2, ?_⟩
      by_cases hin : i = n
      · exact Or.inl hin
      · rcases y9 with h | h | h | h
        · exact Or.inl h
        · refine Or.inr (Or.inl ⟨h.1, ?_⟩)
          have : pr_rank (B i) ≠ r := fun e => hc ⟨by omega, by simpa using e⟩
          omega
        · exact Or.inr (Or.inr (Or.inl h))
        · exact Or.inr (Or.inr (Or.inr h))
theorem pr_bin_good {u n : Nat} {B : Nat → Nat} {r m : Nat} {sub : Nat → List (Nat × Nat) → pr_R} (h1 : 1 ≤ r) (h5 : r ≤ 5) (h3 : r ≠ 3) (hs : pr_Good u n B (r + 1) m sub) : pr_Good u n B r m (pr_bin n B (fun c => decide (pr_rank c = r)) sub) := by
  intro i S P q hi hq hP0 hC ho hd hP
  have g := hs i S P q hi hq hP0 hC ho hd (by omega)
  unfold pr_bin
  cases hsub : sub i S with
  | mk b js =>
    obtain ⟨j, S2⟩ := js
    cases b with
    | true =>
      simp only
      obtain ⟨a1, a2, a3, a4, q2, a6, a7, a8, a9⟩ := g.1 j S2 hsub
      refine pr_lp_good h1 h5 h3 hs ho hP (n + 1 - j) j S2 (by omega) ⟨a1, a2, a3, a4, q2, a6, a7, ?_, a9⟩
      rw [pr_settle_to (by omega) a8, pr_settle_stop hP]
    | false =>
      simp only
      refine ⟨fun _ _ h => (by cases h), fun j' S' h => ?_⟩
      cases h
      exact g.2 j S2 hsub
theorem pr_cmp_good {u n : Nat} {B : Nat → Nat} {m : Nat} {sub : Nat → List (Nat × Nat) → pr_R} (hs : pr_Good u n B 4 m sub) : pr_Good u n B 3 m (pr_cmp n B sub) := by
  intro i S P q hi hq hP0 hC ho hd hP
  have g := hs i S P q hi hq hP0 hC ho hd (by omega)
  unfold pr_cmp
  cases hsub : sub i S with
  | mk b js =>
    obtain ⟨j, S2⟩ := js
    cases b with
    | true =>
      simp only
      obtain ⟨a1, a2, a3, ⟨T, a4, a5⟩, q2, a6, a7, a8, a9⟩ := g.1 j S2 hsub
      have a8' : pr_settle 3 q2.2.1 q2.2.2.1 q2.2.2.2.1 = (P, pr_enc u S2, q.2.2.2.1) := by
        rw [pr_settle_to (show 3 ≤ 4 by decide) a8, pr_settle_stop hP]
      by_cases hc : j < n ∧ pr_rank (B j) = 3
      · rw [if_pos hc]
        have ht := pr_takes_cmp (u := u) a7 hc.2
        rw [a8, a8', if_neg (by show ¬ pr_top P = 3; omega)] at ht
        have hrun : pr_run u B (j + 1 - i) i q = some (true, B j :: P, pr_enc u S2, q.2.2.2.1, 0) := by
          rw [show j + 1 - i = (j - i) + 1 by omega, pr_run_add a6, show i + (j - i) = j by omega]
          exact pr_run_one ht
        have g2 := hs (j + 1) S2 (B j :: P) (true, B j :: P, pr_enc u S2, q.2.2.2.1, 0) (by omega) rfl rfl rfl ho rfl (by show pr_rank (B j) < 4; omega)
        cases hsub2 : sub (j + 1) S2 with
        | mk b2 js2 =>
          obtain ⟨j2, S3⟩ := js2
          cases b2 with
          | true =>
            simp only
            refine ⟨fun j' S' h => ?_, fun _ _ h => (by cases h)⟩
            cases h
            obtain ⟨c1, c2, c3, ⟨T2, c4, c5⟩, q3, c6, c7, c8, c9⟩ := g2.1 j2 S3 hsub2
            have hb33 : B j ≠ 33 := by intro h; rw [h] at hc; exact absurd hc.2 (by decide)
            refine ⟨by omega, c2, by simp only [List.length_append, List.length_cons, List.length_nil]; omega, ⟨T ++ T2 ++ [(3, B j)], by rw [c4, a4]; simp, pr_up_bin a5 c5 (by omega) (by omega)⟩, q3, ?_, c7, ?_, ?_⟩
            · rw [show j2 - i = (j + 1 - i) + (j2 - (j + 1)) by omega, pr_run_add hrun, show i + (j + 1 - i) = j + 1 by omega]
              exact c6
            · rw [pr_settle_to (show 3 ≤ 4 by decide) c8, pr_settle_push (by omega) hb33 hP, pr_enc_snoc]
              rfl
            · rcases c9 with h | h | h | h
              · exact Or.inl h
              · by_cases h3 : pr_rank (B j2) = 3
                · refine Or.inr (Or.inr (Or.inr ?_))
                  rw [pr_takes_cmp c7 h3, c8]
                  exact if_pos hc.2
                · exact Or.inr (Or.inl ⟨h.1, by omega⟩)
              · exact Or.inr (Or.inr (Or.inl h))
              · exact Or.inr (Or.inr (Or.inr h))
          | false =>
            simp only
            refine ⟨fun _ _ h => (by cases h), fun j' S' h => ?_⟩
            cases h
            obtain ⟨c1, c2, q3, c3, c4⟩ := g2.2 j2 S3 hsub2
            refine ⟨by omega, c2, q3, ?_, c4⟩
            rw [show j2 - i = (j + 1 - i) + (j2 - (j + 1)) by omega, pr_run_add hrun, show i + (j + 1 - i) = j + 1 by omega]
            exact c3
      · rw [if_neg hc]
        refine ⟨fun j' S' h => ?_, fun _ _ h => (by cases h)⟩
        cases h
        refine ⟨a1, a2, a3, ⟨T, a4, a5⟩, q2, a6, a7, a8', ?_⟩
        by_cases hin : j = n
        · exact Or.inl hin
        · rcases a9 with h | h | h | h
          · exact Or.inl h
          · refine Or.inr (Or.inl ⟨h.1, ?_⟩)
            have : pr_rank (B j) ≠ 3 := fun e => hc ⟨by omega, e⟩
            omega
          · exact Or.inr (Or.inr (Or.inl h))
          · exact Or.inr (Or.inr (Or.inr h))
    | false =>
      simp only
      refine ⟨fun _ _ h => (by cases h), fun j' S' h => ?_⟩
      cases h
      exact g.2 j S2 hsub
theorem pr_W_good {u n : Nat} {B : Nat → Nat} {m : Nat} {one : Nat → List (Nat × Nat) → pr_R} (hs : pr_Good u n B 6 m one) : pr_Good u n B 1 m (pr_W n B one) :=
  pr_bin_good (by decide) (by decide) (by decide) (pr_bin_good (by decide) (by decide) (by decide) (pr_cmp_good (pr_bin_good (by decide) (by decide) (by decide) (pr_bin_good (by decide) (by decide) (by decide) hs))))
/-- a single one: nots may wait before it -/
def pr_OneG (u n : Nat) (B : Nat → Nat) (m : Nat) (f : Nat → List (Nat × Nat) → pr_R) : Prop :=
  ∀ (i : Nat) (S : List (Nat × Nat)) (P : List Nat) (q : pr_S), i ≤ n → q.1 = true → q.2.1 = P → q.2.2.1 = pr_enc u S → q.2.2.2.1 + m = 5 → q.2.2.2.2 = 0 →
  (∀ j S', f i S = (true, j, S') → i < j ∧ j ≤ n ∧ S'.length + i ≤ S.length + j ∧ (∃ T, S' = S ++ T ∧ pr_up u T) ∧ ∃ q' k, pr_run u B (j - i) i q = some q' ∧ q'.1 = false ∧ q'.2.1 = List.replicate k 33 ++ P ∧ q'.2.2.1 ++ List.replicate k (-33) = pr_enc u S' ∧ q'.2.2.2.1 = q.2.2.2.1 + k ∧ pr_next u n B 6 j q') ∧
  ∀ j S', f i S = (false, j, S') → pr_no u n B i q j
theorem pr_One_good {u n : Nat} {B : Nat → Nat} {m : Nat} {f : Nat → List (Nat × Nat) → pr_R} (h : pr_OneG u n B m f) : pr_Good u n B 6 m f := by
  intro i S P q hi hq hP0 hC ho hd hP
  obtain ⟨g1, g2⟩ := h i S P q hi hq hP0 hC ho hd
  refine ⟨fun j S' e => ?_, g2⟩
  obtain ⟨a1, a2, a3, a4, q', k, a5, a6, a7, a8, a9, a10⟩ := g1 j S' e
  refine ⟨a1, a2, a3, a4, q', a5, a6, ?_, a10⟩
  rw [a7, pr_settle_nots (by decide) hP k _ _ (by omega), a8, a9, Nat.add_sub_cancel]
theorem pr_next_plain {u n : Nat} {B : Nat → Nat} {j : Nat} {q : pr_S} (hq : q.1 = false) (hd : pr_digit (B j) = true → q.2.2.2.2 = 4 ∨ q.2.2.2.2 = 0) : pr_next u n B 6 j q := by
  by_cases h0 : 1 ≤ pr_rank (B j) ∧ pr_rank (B j) < 6
  · exact Or.inr (Or.inl h0)
  · by_cases h41 : B j = 41
    · exact Or.inr (Or.inr (Or.inl h41))
    · refine Or.inr (Or.inr (Or.inr ?_))
      unfold pr_takes
      by_cases hdg : pr_digit (B j) = true
      · rw [if_pos hdg, if_pos (by rcases hd hdg with h | h; exact Or.inl h; exact Or.inr ⟨h, hq⟩)]
      · rw [if_neg hdg, hq, if_neg (by decide), if_neg h41, if_pos]
        by_cases hr0 : pr_rank (B j) = 0
        · exact Or.inl hr0
        · refine Or.inr ?_
          have h6 : 6 ≤ pr_rank (B j) := by omega
          unfold pr_rank at h6
          by_cases e : B j = 33
          · exact e
          · exfalso
            split at h6
            · omega
            · split at h6
              · omega
              · split at h6
                · omega
                · split at h6
                  · omega
                  · split at h6
                    · omega
                    · omega
theorem pr_digs_le (n : Nat) (B : Nat → Nat) : ∀ (f i : Nat), pr_digs n B f i ≤ f
  | 0, _ => Nat.le_refl _
  | f + 1, i => by
    unfold pr_digs
    split
    · have := pr_digs_le n B f (i + 1)
      omega
    · omega
theorem pr_digs_all (n : Nat) (B : Nat → Nat) : ∀ (f i t : Nat), t < pr_digs n B f i → i + t < n ∧ pr_digit (B (i + t)) = true
  | 0, i, t, h => by simp [pr_digs] at h
  | f + 1, i, t, h => by
    unfold pr_digs at h
    split at h
    · next hc =>
      cases t with
      | zero => exact hc
      | succ t =>
        have := pr_digs_all n B f (i + 1) t (by omega)
        rw [show i + (t + 1) = i + 1 + t by omega]
        exact this
    · omega
theorem pr_digs_end (n : Nat) (B : Nat → Nat) : ∀ (f i : Nat), pr_digs n B f i < f → ¬ (i + pr_digs n B f i < n ∧ pr_digit (B (i + pr_digs n B f i)) = true)
  | 0, i, h => by omega
  | f + 1, i, h => by
    unfold pr_digs at h ⊢
    split at h
    · next hc =>
      rw [if_pos hc]
      have := pr_digs_end n B f (i + 1) (by omega)
      rw [show i + (pr_digs n B f (i + 1) + 1) = i + 1 + pr_digs n B f (i + 1) by omega]
      exact this
    · next hc =>
      rw [if_neg hc]
      exact hc
theorem pr_val_lt (B : Nat → Nat) (i : Nat) : ∀ k, (∀ t, t < k → pr_digit (B (i + t)) = true) → pr_val B i k < 10 ^ k
  | 0, _ => by simp [pr_val]
  | k + 1, h => by
    have h1 := pr_val_lt B i k (fun t ht => h t (by omega))
    have h2 := h k (by omega)
    simp only [pr_digit, Bool.and_eq_true, decide_eq_true_eq] at h2
    unfold pr_val
    rw [Nat.pow_succ]
    omega
theorem pr_run_digs {u : Nat} {B : Nat → Nat} {i : Nat} {q : pr_S} (hq : q.1 = true) (hd : q.2.2.2.2 = 0) : ∀ k, k + 1 ≤ 4 → (∀ t, t < k + 1 → pr_digit (B (i + t)) = true) → pr_run u B (k + 1) i q = some (false, q.2.1, q.2.2.1 ++ [(pr_val B i (k + 1) : Int)], q.2.2.2.1, k + 1)
  | 0, _, h => by
    refine pr_run_one ?_
    unfold pr_takes
    have h0 := h 0 (by omega)
    rw [Nat.add_zero] at h0
    rw [if_pos h0, if_neg (by rw [hd, hq]; simp), if_pos hd, hd]
    simp [pr_val]
  | k + 1, hk, h => by
    rw [pr_run_add (k2 := 1) (pr_run_digs hq hd k (by omega) (fun t ht => h t (by omega)))]
    refine pr_run_one ?_
    unfold pr_takes
    have h0 := h (k + 1) (by omega)
    rw [if_pos h0]
    simp only
    rw [if_neg (by omega), if_neg (by omega)]
    unfold pr_bump
    rw [List.dropLast_concat, List.getLastD_concat]
    conv => rhs; rw [pr_val]
    rw [Nat.mul_comm]
    push_cast
    rfl
theorem pr_name_nodigit {u c : Nat} (h : (pr_name u c).isSome = true) : pr_digit c = false ∧ c ≠ 33 ∧ c ≠ 40 := by
  have : c = 105 ∨ c = 107 ∨ c = 108 ∨ c = 112 := by
    unfold pr_name at h
    by_cases a : c = 105
    · exact Or.inl a
    by_cases b : c = 107
    · exact Or.inr (Or.inl b)
    by_cases d : c = 108
    · exact Or.inr (Or.inr (Or.inl d))
    by_cases e : c = 112
    · exact Or.inr (Or.inr (Or.inr e))
    simp [a, b, d, e] at h
  rcases this with rfl | rfl | rfl | rfl <;> exact ⟨rfl, by decide, by decide⟩
theorem pr_one_name {u n : Nat} {B : Nat → Nat} {i : Nat} {S : List (Nat × Nat)} {P : List Nat} {q : pr_S} (hq : q.1 = true) (hP : q.2.1 = P) (hC : q.2.2.1 = pr_enc u S) (hc : i < n ∧ (pr_name u (B i)).isSome = true) :
    i < i + 1 ∧ i + 1 ≤ n ∧ (S ++ [(1, B i)]).length + i ≤ S.length + (i + 1) ∧ (∃ T, S ++ [(1, B i)] = S ++ T ∧ pr_up u T) ∧ ∃ q' k, pr_run u B (i + 1 - i) i q = some q' ∧ q'.1 = false ∧ q'.2.1 = List.replicate k 33 ++ P ∧ q'.2.2.1 ++ List.replicate k (-33) = pr_enc u (S ++ [(1, B i)]) ∧ q'.2.2.2.1 = q.2.2.2.1 + k ∧ pr_next u n B 6 (i + 1) q' := by
  obtain ⟨n1, n2, n3⟩ := pr_name_nodigit hc.2
  refine ⟨by omega, by omega, by simp; omega, ⟨_, rfl, fun d => ?_⟩, ?_⟩
  · simp [pr_ev, pr_ev1, hc.2]
  · obtain ⟨x, hx⟩ := Option.isSome_iff_exists.mp hc.2
    refine ⟨(false, q.2.1, q.2.2.1 ++ [-1 - (x : Int)], q.2.2.2.1, 0), 0, ?_, rfl, by simpa using hP, ?_, rfl, pr_next_plain rfl (fun _ => Or.inr rfl)⟩
    · rw [Nat.add_sub_cancel_left]
      refine pr_run_one ?_
      unfold pr_takes
      rw [n1, if_neg (by decide), if_pos hq, if_neg (by omega), hx]
    · simp [pr_enc_snoc, pr_enc1, hx, hC]
theorem pr_one_num {u n : Nat} {B : Nat → Nat} {i : Nat} {S : List (Nat × Nat)} {P : List Nat} {q : pr_S} (hq : q.1 = true) (hP : q.2.1 = P) (hC : q.2.2.1 = pr_enc u S) (hd : q.2.2.2.2 = 0) (hc : i < n ∧ pr_digit (B i) = true) :
    i < i + pr_digs n B 4 i ∧ i + pr_digs n B 4 i ≤ n ∧ (S ++ [(0, pr_val B i (pr_digs n B 4 i))]).length + i ≤ S.length + (i + pr_digs n B 4 i) ∧ (∃ T, S ++ [(0, pr_val B i (pr_digs n B 4 i))] = S ++ T ∧ pr_up u T) ∧ ∃ q' k, pr_run u B (i + pr_digs n B 4 i - i) i q = some q' ∧ q'.1 = false ∧ q'.2.1 = List.replicate k 33 ++ P ∧ q'.2.2.1 ++ List.replicate k (-33) = pr_enc u (S ++ [(0, pr_val B i (pr_digs n B 4 i))]) ∧ q'.2.2.2.1 = q.2.2.2.1 + k ∧ pr_next u n B 6 (i + pr_digs n B 4 i) q' := by
  have hpos : 1 ≤ pr_digs n B 4 i := by
    show 1 ≤ (if i < n ∧ pr_digit (B i) = true then pr_digs n B 3 (i + 1) + 1 else 0)
    rw [if_pos hc]; omega
  have hle := pr_digs_le n B 4 i
  have hall := pr_digs_all n B 4 i
  have hend := pr_digs_end n B 4 i
  generalize pr_digs n B 4 i = k at hpos hle hall hend
  obtain ⟨k, rfl⟩ : ∃ k', k = k' + 1 := ⟨k - 1, by omega⟩
  have hv := pr_val_lt B i (k + 1) (fun t ht => (hall t ht).2)
  have hv4 : pr_val B i (k + 1) ≤ 9999 := by
    have : 10 ^ (k + 1) ≤ 10 ^ 4 := Nat.pow_le_pow_right (by decide) hle
    omega
  have hlast := (hall k (by omega)).1
  refine ⟨by omega, by omega, by simp; omega, ⟨_, rfl, fun d => ?_⟩, ?_⟩
  · simp [pr_ev, pr_ev1, hv4]
  · refine ⟨(false, q.2.1, q.2.2.1 ++ [(pr_val B i (k + 1) : Int)], q.2.2.2.1, k + 1), 0, by rw [Nat.add_sub_cancel_left]; exact pr_run_digs hq hd k hle (fun t ht => (hall t ht).2), rfl, by simpa using hP, ?_, rfl, ?_⟩
    · simp [pr_enc_snoc, pr_enc1, hC]
    · by_cases hin : i + (k + 1) < n
      · refine pr_next_plain rfl (fun h => ?_)
        by_cases h4 : k + 1 = 4
        · exact Or.inl h4
        · exact absurd ⟨hin, h⟩ (hend (by omega))
      · exact Or.inl (by omega)
theorem pr_no_here {u n : Nat} {B : Nat → Nat} {i : Nat} {q : pr_S} (hi : i ≤ n) (hq : q.1 = true) (h : i < n → pr_takes u (B i) q = none) : pr_no u n B i q i := by
  refine ⟨Nat.le_refl _, hi, q, by rw [Nat.sub_self]; rfl, ?_⟩
  by_cases hin : i < n
  · exact Or.inl ⟨hin, h hin⟩
  · refine Or.inr ⟨by omega, fun w => ?_⟩
    rw [w.1] at hq
    cases hq
theorem pr_refuse {u c : Nat} {q : pr_S} (hq : q.1 = true) (h1 : pr_digit c = false) (h2 : pr_name u c = none) (h3 : (c = 33 ∨ c = 40) → q.2.2.2.1 = 5) : pr_takes u c q = none := by
  unfold pr_takes
  rw [h1, if_neg (by decide), if_pos hq]
  by_cases h : c = 33 ∨ c = 40
  · rw [if_pos h, if_pos (h3 h)]
  · rw [if_neg h, h2]
theorem pr_open {u c : Nat} {q : pr_S} (hq : q.1 = true) (h : c = 33 ∨ c = 40) (ho : q.2.2.2.1 ≠ 5) : pr_takes u c q = some (true, c :: q.2.1, q.2.2.1, q.2.2.2.1 + 1, 0) := by
  unfold pr_takes
  have h1 : pr_digit c = false := by rcases h with rfl | rfl <;> rfl
  rw [h1, if_neg (by decide), if_pos hq, if_pos h, if_neg ho]
theorem pr_O_one (n u : Nat) (B : Nat → Nat) : ∀ m, pr_OneG u n B m (pr_O n u B m)
  | 0 => by
    intro i S P q hi hq hP hC ho hd
    unfold pr_O
    by_cases h1 : i < n ∧ (pr_name u (B i)).isSome = true
    · rw [if_pos h1]
      exact ⟨fun j S' e => by cases e; exact pr_one_name hq hP hC h1, fun j S' e => by cases e⟩
    rw [if_neg h1]
    by_cases h2 : i < n ∧ pr_digit (B i) = true
    · rw [if_pos h2]
      exact ⟨fun j S' e => by cases e; exact pr_one_num hq hP hC hd h2, fun j S' e => by cases e⟩
    rw [if_neg h2]
    refine ⟨fun j S' e => (by cases e), fun j S' e => ?_⟩
    cases e
    refine pr_no_here hi hq (fun hin => pr_refuse hq ?_ ?_ (fun _ => by omega))
    · cases hb : pr_digit (B i) with
      | false => rfl
      | true => exact absurd ⟨hin, hb⟩ h2
    · cases hb : pr_name u (B i) with
      | none => rfl
      | some x => exact absurd ⟨hin, by rw [hb]; rfl⟩ h1
  | m + 1 => by
    intro i S P q hi hq hP hC ho hd
    unfold pr_O
    by_cases h1 : i < n ∧ (pr_name u (B i)).isSome = true
    · rw [if_pos h1]
      exact ⟨fun j S' e => by cases e; exact pr_one_name hq hP hC h1, fun j S' e => by cases e⟩
    rw [if_neg h1]
    by_cases h2 : i < n ∧ pr_digit (B i) = true
    · rw [if_pos h2]
      exact ⟨fun j S' e => by cases e; exact pr_one_num hq hP hC hd h2, fun j S' e => by cases e⟩
    rw [if_neg h2]
    by_cases h3 : i < n ∧ B i = 33
    · rw [if_pos h3]
      have ht := pr_open (u := u) hq (Or.inl h3.2) (by omega)
      have hrun := pr_run_one (B := B) (i := i) ht
      obtain ⟨g1, g2⟩ := pr_O_one n u B m (i + 1) S (B i :: P) (true, B i :: q.2.1, q.2.2.1, q.2.2.2.1 + 1, 0) (by omega) rfl (by rw [hP]) hC (by show q.2.2.2.1 + 1 + m = 5; omega) rfl
      cases hsub : pr_O n u B m (i + 1) S with
      | mk b js =>
        obtain ⟨j, S2⟩ := js
        cases b with
        | true =>
          simp only
          refine ⟨fun j' S' h => ?_, fun _ _ h => (by cases h)⟩
          cases h
          obtain ⟨a1, a2, a3, ⟨T, a4, a5⟩, q', k, a6, a7, a8, a9, a10, a11⟩ := g1 j S2 hsub
          refine ⟨by omega, a2, by simp only [List.length_append, List.length_cons, List.length_nil]; omega, ⟨T ++ [(2, 0)], by rw [a4]; simp, fun d => ?_⟩, q', k + 1, ?_, a7, ?_, ?_, ?_, a11⟩
          · rw [pr_ev_app, a5 d]
            simp [pr_ev, pr_ev1]
          · rw [show j - i = 1 + (j - (i + 1)) by omega, pr_run_add hrun]
            exact a6
          · rw [a8, h3.2, List.replicate_succ', List.append_assoc]
            rfl
          · rw [List.replicate_succ', ← List.append_assoc, a9, pr_enc_snoc]
            rfl
          · rw [a10]
            show q.2.2.2.1 + 1 + k = _
            omega
        | false =>
          simp only
          refine ⟨fun _ _ h => (by cases h), fun j' S' h => ?_⟩
          cases h
          obtain ⟨a1, a2, q2, a3, a4⟩ := g2 j S2 hsub
          refine ⟨by omega, a2, q2, ?_, a4⟩
          rw [show j - i = 1 + (j - (i + 1)) by omega, pr_run_add hrun]
          exact a3
    rw [if_neg h3]
    by_cases h4 : i < n ∧ B i = 40
    · rw [if_pos h4]
      have ht := pr_open (u := u) hq (Or.inr h4.2) (by omega)
      have hrun := pr_run_one (B := B) (i := i) ht
      obtain ⟨g1, g2⟩ := pr_W_good (pr_One_good (pr_O_one n u B m)) (i + 1) S (B i :: P) (true, B i :: q.2.1, q.2.2.1, q.2.2.2.1 + 1, 0) (by omega) rfl (by rw [hP]) hC (by show q.2.2.2.1 + 1 + m = 5; omega) rfl (by rw [h4.2]; show pr_rank 40 < 1; decide)
      cases hsub : pr_W n B (pr_O n u B m) (i + 1) S with
      | mk b js =>
        obtain ⟨j, S2⟩ := js
        cases b with
        | true =>
          simp only
          obtain ⟨a1, a2, a3, a4, q', a6, a7, a8, a9⟩ := g1 j S2 hsub
          have hrun2 : pr_run u B (j - i) i q = some q' := by
            rw [show j - i = 1 + (j - (i + 1)) by omega, pr_run_add hrun]
            exact a6
          by_cases hc : j < n ∧ B j = 41
          · rw [if_pos hc]
            refine ⟨fun j' S' h => ?_, fun _ _ h => (by cases h)⟩
            cases h
            refine ⟨by omega, by omega, by omega, a4, (false, P, pr_enc u S2, q.2.2.2.1, 0), 0, ?_, rfl, rfl, by simp, rfl, pr_next_plain rfl (fun _ => Or.inr rfl)⟩
            rw [show j + 1 - i = (j - i) + 1 by omega, pr_run_add hrun2, show i + (j - i) = j by omega]
            refine pr_run_one ?_
            unfold pr_takes
            rw [hc.2, show pr_digit 41 = false from rfl, if_neg (by decide), a7, if_neg (by decide), if_pos rfl, a8]
            rfl
          · rw [if_neg hc]
            refine ⟨fun _ _ h => (by cases h), fun j' S' h => ?_⟩
            cases h
            refine ⟨by omega, a2, q', hrun2, ?_⟩
            by_cases hin : j = n
            · refine Or.inr ⟨hin, fun w => ?_⟩
              have := w.2
              rw [a8] at this
              cases this
            · rcases a9 with h | h | h | h
              · exact absurd h hin
              · omega
              · exact absurd ⟨by omega, h⟩ hc
              · exact Or.inl ⟨by omega, h⟩
        | false =>
          simp only
          refine ⟨fun _ _ h => (by cases h), fun j' S' h => ?_⟩
          cases h
          obtain ⟨a1, a2, q2, a3, a4⟩ := g2 j S2 hsub
          refine ⟨by omega, a2, q2, ?_, a4⟩
          rw [show j - i = 1 + (j - (i + 1)) by omega, pr_run_add hrun]
          exact a3
    rw [if_neg h4]
    refine ⟨fun j S' e => (by cases e), fun j S' e => ?_⟩
    cases e
    refine pr_no_here hi hq (fun hin => pr_refuse hq ?_ ?_ (fun h => ?_))
    · cases hb : pr_digit (B i) with
      | false => rfl
      | true => exact absurd ⟨hin, hb⟩ h2
    · cases hb : pr_name u (B i) with
      | none => rfl
      | some x => exact absurd ⟨hin, by rw [hb]; rfl⟩ h1
    · rcases h with h | h
      · exact absurd ⟨hin, h⟩ h3
      · exact absurd ⟨hin, h⟩ h4
/-- a whole text: the reference's answer is the class's -/
theorem pr_text (n u : Nat) (B : Nat → Nat) : (∀ S', pr_W n B (pr_O n u B 5) 0 [] = (true, n, S') → S'.length ≤ n ∧ pr_up u S' ∧ ∃ q', pr_run u B n 0 (true, [], [], 0, 0) = some q' ∧ pr_whole q' ∧ pr_settle 1 q'.2.1 q'.2.2.1 q'.2.2.2.1 = ([], pr_enc u S', 0)) ∧
    ∀ b j S', pr_W n B (pr_O n u B 5) 0 [] = (b, j, S') → (b = false ∨ j ≠ n) → j ≤ n ∧ ∃ q', pr_run u B j 0 (true, [], [], 0, 0) = some q' ∧ ((j < n ∧ pr_takes u (B j) q' = none) ∨ (j = n ∧ ¬ pr_whole q')) := by
  obtain ⟨g1, g2⟩ := pr_W_good (pr_One_good (pr_O_one n u B 5)) 0 [] [] (true, [], [], 0, 0) (Nat.zero_le _) rfl rfl rfl rfl rfl (by decide)
  refine ⟨fun S' h => ?_, fun b j S' h hb => ?_⟩
  · obtain ⟨a1, a2, a3, ⟨T, a4, a5⟩, q', a6, a7, a8, a9⟩ := g1 n S' h
    rw [List.nil_append] at a4
    subst a4
    exact ⟨by simpa using a3, a5, q', a6, ⟨a7, by rw [a8]⟩, a8⟩
  · cases b with
    | true =>
      obtain ⟨a1, a2, a3, a4, q', a6, a7, a8, a9⟩ := g1 j S' h
      have hj : j ≠ n := by
        rcases hb with hb | hb
        · cases hb
        · exact hb
      refine ⟨a2, q', a6, Or.inl ⟨by omega, ?_⟩⟩
      rcases a9 with e | e | e | e
      · exact absurd e hj
      · omega
      · unfold pr_takes
        rw [e, show pr_digit 41 = false from rfl, if_neg (by decide), a7, if_neg (by decide), if_pos rfl, a8]
      · exact e
    | false =>
      obtain ⟨a1, a2, q', a3, a4⟩ := g2 j S' h
      exact ⟨a2, q', a3, a4⟩
