def mx_layL : List (Nat × Nat) := [(10, 10), (7, 9), (0, 6), (1, 2), (100, 9), (1, 2), (100, 9), (1, 2), (100, 9), (1, 2), (100, 9), (1, 2), (100, 9), (1, 2), (100, 60), (1, 2), (100, 24), (8, 3), (1, 2), (100, 60), (1, 2), (100, 60), (8, 3), (1, 2), (100, 60), (1, 2), (100, 60), (7, 9), (0, 6), (1, 2), (100, 9), (1, 2), (100, 9), (1, 2), (100, 9), (1, 2), (100, 9), (1, 2), (100, 9), (1, 2), (100, 60), (1, 2), (100, 24), (8, 3), (1, 2), (100, 60), (1, 2), (100, 60), (8, 3), (1, 2), (100, 60), (1, 2), (100, 60), (1, 2), (100, 7), (3, 5), (1, 2), (100, 60), (1, 2), (100, 60), (5, 6), (1, 2), (100, 9), (100, 512), (100, 512), (100, 512), (100, 512), (4, 5), (1, 2), (100, 6), (1, 2), (100, 6), (1, 2), (100, 36), (1, 2), (100, 64), (2, 3), (101, 82), (9, 5), (1, 2), (100, 30), (102, 4), (6, 2), (1, 2), (100, 24), (6, 2), (1, 2), (100, 24), (6, 2), (1, 2), (100, 24), (6, 2), (1, 2), (100, 24), (11, 25), (100, 387), (100, 387), (100, 7), (100, 124), (100, 128), (100, 64), (100, 6), (100, 6), (101, 82), (101, 82), (100, 30), (100, 4), (100, 4), (100, 96), (100, 24)]
theorem mx_layL_sz : ∀ q ∈ mx_layL, q.2 ≤ 4096 := by decide +kernel
theorem mx_layL_ok : ∀ q ∈ mx_layL, q.1 < 103 := by decide +kernel
/-! THE SMALL MACHINE: a heap of numbered cells of a fixed layout, instructions as functions, calls as relations. mx_R is the least relation closed under the steps. -/
abbrev mx_I : Type := Nat → Nat → Int32
abbrev mx_J : Type := Nat → Nat → Int64
abbrev mx_Q : Type := Nat → Nat → Option Nat
abbrev mx_H : Type := mx_I × mx_J × mx_Q × Nat
abbrev mx_L : Type := List (Option Value)
abbrev mx_S : Type := List Value
abbrev mx_O : Type := Option (Nat × mx_L × mx_S × mx_I × mx_J × mx_Q)
abbrev mx_F : Type := mx_L → mx_S → mx_H → mx_O
/-- an instruction: a function; a call (next, method, how many); an allocation (next, tag); a return (kind) -/
abbrev mx_N : Type := mx_F ⊕ ((Nat × Nat × Nat) ⊕ ((Nat × Nat) ⊕ Nat))
abbrev mx_C : Type := Nat → List Value → mx_H → Option Value → mx_H → Prop
abbrev mx_K : Type := Nat → mx_L → mx_S → mx_H → Prop
abbrev mx_P : Type := Option Value → mx_H → Prop
/-- the layout: tag (below 50: an object of that class; 100 int[], 101 long[], 102 sheets; 103, 104 static int[], char[]) and size -/
def mx_lay (a : Nat) : Nat × Nat := mx_layL.getD a (if a = 1000 then (103, 7) else if a = 1001 then (104, 3) else if a = 1002 then (104, 3) else if a = 1003 then (103, 28) else if a = 1004 then (103, 0) else (999, 0))
def mx_alen (h : mx_H) (a : Nat) : Nat := if a = 1004 then (h.1 1005 0).toNatClampNeg else (mx_lay a).2
def mx_okc (c a : Nat) (h : mx_H) : Bool := decide (a < h.2.2.2) && decide ((mx_lay a).1 = c)
def mx_inb (i : Int32) (n : Nat) : Bool := decide (0 ≤ i) && decide (i.toNatClampNeg < n)
def mx_oka (t a : Nat) (h : mx_H) (i : Int32) : Bool := decide (a < h.2.2.2) && decide ((mx_lay a).1 = t) && mx_inb i (mx_lay a).2
/-- an int array that may be read: one of the heap, or a static one -/
def mx_okr (t a : Nat) (h : mx_H) (i : Int32) : Bool := (decide (a < h.2.2.2) && decide ((mx_lay a).1 = 100) || decide ((mx_lay a).1 = t)) && mx_inb i (mx_alen h a)
def mx_ups {α : Type} (f : Nat → Nat → α) (a k : Nat) (x : α) : Nat → Nat → α := fun b j => if b = a then (if j = k then x else f b j) else f b j
def mx_row {α : Type} (f : Nat → Nat → α) (a : Nat) (g : Nat → α) : Nat → Nat → α := fun b => if b = a then g else f b
def mx_fresh (h : mx_H) : mx_H := (mx_row h.1 h.2.2.2 (fun _ => 0), mx_row h.2.1 h.2.2.2 (fun _ => 0), mx_row h.2.2.1 h.2.2.2 (fun _ => none), h.2.2.2 + 1)
def mx_sem (i : mx_N) (C : mx_C) (K : mx_K) (P : mx_P) (ls : mx_L) (st : mx_S) (h : mx_H) : Prop := match i with
  | .inl f => match f ls st h with
    | some r => K r.1 r.2.1 r.2.2.1 (r.2.2.2.1, r.2.2.2.2.1, r.2.2.2.2.2, h.2.2.2)
    | none => False
  | .inr (.inl q) => q.2.2 ≤ st.length ∧ ((st.drop q.2.2).length ≤ 4 ∨ ((st.drop q.2.2).map fun v => v.category).sum ≤ 8) ∧ ∃ v h1, C q.2.1 (st.take q.2.2).reverse h v h1 ∧ K q.1 ls (v.toList ++ st.drop q.2.2) h1
  | .inr (.inr (.inl q)) => if q.2 < 50 then (mx_lay h.2.2.2).1 = q.2 ∧ K q.1 ls (.ref h.2.2.2 :: st) (mx_fresh h) else match st with
    | .int x :: st' => ((mx_lay h.2.2.2).1 = q.2 ∧ 0 ≤ x ∧ (mx_lay h.2.2.2).2 = x.toNatClampNeg) ∧ K q.1 ls (.ref h.2.2.2 :: st') (mx_fresh h)
    | _ => False
  | .inr (.inr (.inr k)) => match k, st with
    | 0, [] => P none h
    | 1, [.int x] => P (some (.int x)) h
    | 2, [.int x] => (x = 0 ∨ x = 1) ∧ P (some (.int x)) h
    | 3, [.long x] => P (some (.long x)) h
    | 4, [.ref x] => P (some (.ref x)) h
    | 4, [.null] => P (some .null) h
    | _, _ => False
def mx_stp (cl : List (Nat × mx_N)) (C : mx_C) (K : mx_K) (P : mx_P) (pc : Nat) (ls : mx_L) (st : mx_S) (h : mx_H) : Prop := match cl.lookup pc with
  | some i => mx_sem i C K P ls st h
  | none => False
def mx_R (cl : List (Nat × mx_N)) (C : mx_C) (pc : Nat) (ls : mx_L) (st : mx_S) (h : mx_H) (P : mx_P) : Prop := ∀ X : mx_K, (∀ pc ls st h, mx_stp cl C X P pc ls st h → X pc ls st h) → X pc ls st h
theorem mx_sem_mono {i : mx_N} {C C' : mx_C} {K K' : mx_K} {P P' : mx_P} (hC : ∀ g a h v h', C g a h v h' → C' g a h v h') (hK : ∀ pc ls st h, K pc ls st h → K' pc ls st h) (hP : ∀ v h, P v h → P' v h) {ls : mx_L} {st : mx_S} {h : mx_H} (H : mx_sem i C K P ls st h) : mx_sem i C' K' P' ls st h := by
  rcases i with f | q | q | k
  · simp only [mx_sem] at H ⊢
    split at H
    · exact hK _ _ _ _ H
    · exact H
  · obtain ⟨h1, h2, v, h', h3, h4⟩ := H
    exact ⟨h1, h2, v, h', hC _ _ _ _ _ h3, hK _ _ _ _ h4⟩
  · simp only [mx_sem] at H ⊢
    by_cases hq : q.2 < 50
    · rw [if_pos hq] at H ⊢
      exact ⟨H.1, hK _ _ _ _ H.2⟩
    · rw [if_neg hq] at H ⊢
      split at H
      · exact ⟨H.1, hK _ _ _ _ H.2⟩
      · exact H.elim
  · simp only [mx_sem] at H ⊢
    split at H <;> first | exact hP _ _ H | exact ⟨H.1, hP _ _ H.2⟩ | exact H.elim
theorem mx_stp_mono {cl : List (Nat × mx_N)} {C C' : mx_C} {K K' : mx_K} {P P' : mx_P} (hC : ∀ g a h v h', C g a h v h' → C' g a h v h') (hK : ∀ pc ls st h, K pc ls st h → K' pc ls st h) (hP : ∀ v h, P v h → P' v h) {pc : Nat} {ls : mx_L} {st : mx_S} {h : mx_H} (H : mx_stp cl C K P pc ls st h) : mx_stp cl C' K' P' pc ls st h := by
  unfold mx_stp at H ⊢
  split
  next i hi => rw [hi] at H; exact mx_sem_mono hC hK hP H
  next hi => rw [hi] at H; exact H
theorem mx_R_in {cl : List (Nat × mx_N)} {C : mx_C} {pc : Nat} {ls : mx_L} {st : mx_S} {h : mx_H} {P : mx_P} (H : mx_stp cl C (fun pc ls st h => mx_R cl C pc ls st h P) P pc ls st h) : mx_R cl C pc ls st h P := fun X hX =>
  hX _ _ _ _ (mx_stp_mono (fun _ _ _ _ _ h => h) (fun _ _ _ _ r => r X hX) (fun _ _ h => h) H)
theorem mx_R_eq (cl : List (Nat × mx_N)) (C : mx_C) (pc : Nat) (ls : mx_L) (st : mx_S) (h : mx_H) (P : mx_P) : mx_R cl C pc ls st h P = mx_stp cl C (fun pc ls st h => mx_R cl C pc ls st h P) P pc ls st h :=
  propext ⟨fun H => H (fun pc ls st h => mx_stp cl C (fun pc ls st h => mx_R cl C pc ls st h P) P pc ls st h) (fun _ _ _ _ r => mx_stp_mono (fun _ _ _ _ _ h => h) (fun _ _ _ _ q => mx_R_in q) (fun _ _ h => h) r), mx_R_in⟩
theorem mx_R_mono {cl : List (Nat × mx_N)} {C C' : mx_C} {P P' : mx_P} (hC : ∀ g a h v h', C g a h v h' → C' g a h v h') (hP : ∀ v h, P v h → P' v h) {pc : Nat} {ls : mx_L} {st : mx_S} {h : mx_H} (H : mx_R cl C pc ls st h P) : mx_R cl C' pc ls st h P' :=
  H (fun pc ls st h => mx_R cl C' pc ls st h P') (fun _ _ _ _ r => mx_R_in (mx_stp_mono hC (fun _ _ _ _ q => q) hP r))
def mx_Cdet (C : mx_C) : Prop := ∀ g a h v h' v2 h2, C g a h v h' → C g a h v2 h2 → v = v2 ∧ h' = h2
theorem mx_sem_det {i : mx_N} {C : mx_C} {K1 K2 : mx_K} {P1 P2 : mx_P} (hC : mx_Cdet C) {ls : mx_L} {st : mx_S} {h : mx_H} (H1 : mx_sem i C K1 P1 ls st h) (H2 : mx_sem i C K2 P2 ls st h) :
    (∃ pc ls st h, K1 pc ls st h ∧ K2 pc ls st h) ∨ ∃ v h, P1 v h ∧ P2 v h := by
  rcases i with f | q | q | k
  · simp only [mx_sem] at H1 H2
    split at H1
    · next r hr =>
      rw [hr] at H2
      exact Or.inl ⟨_, _, _, _, H1, H2⟩
    · exact H1.elim
  · obtain ⟨a1, a2, v, h', a3, a4⟩ := H1
    obtain ⟨b1, b2, w, h'', b3, b4⟩ := H2
    obtain ⟨rfl, rfl⟩ := hC _ _ _ _ _ _ _ a3 b3
    exact Or.inl ⟨_, _, _, _, a4, b4⟩
  · simp only [mx_sem] at H1 H2
    split at H1
    · next hq =>
      rw [if_pos hq] at H2
      exact Or.inl ⟨_, _, _, _, H1.2, H2.2⟩
    · next hq =>
      rw [if_neg hq] at H2
      split at H1
      · exact Or.inl ⟨_, _, _, _, H1.2, H2.2⟩
      · exact H1.elim
  · simp only [mx_sem] at H1 H2
    split at H1 <;> first | exact Or.inr ⟨_, _, H1, H2⟩ | exact Or.inr ⟨_, _, H1.2, H2.2⟩ | exact H1.elim
theorem mx_R_det {cl : List (Nat × mx_N)} {C : mx_C} {P1 P2 : mx_P} (hC : mx_Cdet C) {pc : Nat} {ls : mx_L} {st : mx_S} {h : mx_H} (H1 : mx_R cl C pc ls st h P1) (H2 : mx_R cl C pc ls st h P2) : ∃ v h, P1 v h ∧ P2 v h := by
  refine H1 (fun pc ls st h => mx_R cl C pc ls st h P2 → ∃ v h, P1 v h ∧ P2 v h) (fun pc ls st h r q => ?_) H2
  rw [mx_R_eq] at q
  unfold mx_stp at r q
  split at r
  · next i hi =>
    rw [hi] at q
    rcases mx_sem_det hC r q with ⟨_, _, _, _, k1, k2⟩ | k
    · exact k1 k2
    · exact k
  · exact r.elim
/-- the heap only grows -/
def mx_Cup (C : mx_C) : Prop := ∀ g a h v h', C g a h v h' → h.2.2.2 ≤ h'.2.2.2
theorem mx_sem_up {i : mx_N} {C : mx_C} {K : mx_K} {P : mx_P} (hC : mx_Cup C) {ls : mx_L} {st : mx_S} {h : mx_H} (H : mx_sem i C K P ls st h) :
    (∃ pc ls st h', h.2.2.2 ≤ h'.2.2.2 ∧ K pc ls st h') ∨ ∃ v h', h.2.2.2 ≤ h'.2.2.2 ∧ P v h' := by
  rcases i with f | q | q | k
  · simp only [mx_sem] at H
    split at H
    · next r hr => exact Or.inl ⟨r.1, r.2.1, r.2.2.1, (r.2.2.2.1, r.2.2.2.2.1, r.2.2.2.2.2, h.2.2.2), Nat.le_refl h.2.2.2, H⟩
    · exact H.elim
  · obtain ⟨a1, a2, v, h', a3, a4⟩ := H
    exact Or.inl ⟨_, _, _, _, hC _ _ _ _ _ a3, a4⟩
  · simp only [mx_sem] at H
    split at H
    · exact Or.inl ⟨_, _, _, _, Nat.le_succ h.2.2.2, H.2⟩
    · split at H
      · exact Or.inl ⟨_, _, _, _, Nat.le_succ h.2.2.2, H.2⟩
      · exact H.elim
  · simp only [mx_sem] at H
    split at H <;> first | exact Or.inr ⟨_, _, Nat.le_refl _, H⟩ | exact Or.inr ⟨_, _, Nat.le_refl _, H.2⟩ | exact H.elim
theorem mx_R_up {cl : List (Nat × mx_N)} {C : mx_C} {P : mx_P} (hC : mx_Cup C) {pc : Nat} {ls : mx_L} {st : mx_S} {h : mx_H} (H : mx_R cl C pc ls st h P) : ∃ v h', P v h' ∧ h.2.2.2 ≤ h'.2.2.2 := by
  refine H (fun _ _ _ h => ∃ v h', P v h' ∧ h.2.2.2 ≤ h'.2.2.2) (fun pc ls st h r => ?_)
  unfold mx_stp at r
  split at r
  · rcases mx_sem_up hC r with ⟨_, _, _, h', k1, v, h2, k2, k3⟩ | ⟨v, h', k1, k2⟩
    · exact ⟨v, h2, k2, Nat.le_trans k1 k3⟩
    · exact ⟨v, h', k2, k1⟩
  · exact r.elim
/-- a method: name, code, locals, return type, the class of its receiver (none: static), its instructions -/
abbrev mx_M : Type := MethodName × ByteArray × Nat × Option FieldType × Option Nat × List (Nat × mx_N)
def mx_args : List Value → mx_L
  | [] => []
  | v :: vs => if v.category = 2 then some v :: none :: mx_args vs else some v :: mx_args vs
def mx_ent (nL : Nat) (vs : List Value) : mx_L := mx_args vs ++ List.replicate (nL - (mx_args vs).length) none
def mx_rcv (o : Option Nat) (a : List Value) (h : mx_H) : Prop := match o with
  | none => True
  | some c => match a with
    | .ref r :: _ => mx_okc c r h = true
    | _ => False
def mx_Cal (tab : Nat → mx_M) : Nat → mx_C
  | 0 => fun _ _ _ _ _ => False
  | d + 1 => fun f a h v h' => mx_rcv (tab f).2.2.2.2.1 a h ∧ (mx_args a).length ≤ (tab f).2.2.1 ∧ mx_R (tab f).2.2.2.2.2 (mx_Cal tab d) 0 (mx_ent (tab f).2.2.1 a) [] h (fun v' h'' => v' = v ∧ h'' = h')
theorem mx_Cal_succ (tab : Nat → mx_M) : ∀ (d g : Nat) (a : List Value) (h : mx_H) (v : Option Value) (h' : mx_H), mx_Cal tab d g a h v h' → mx_Cal tab (d + 1) g a h v h'
  | 0, _, _, _, _, _, H => H.elim
  | d + 1, g, a, h, v, h', H => ⟨H.1, H.2.1, mx_R_mono (mx_Cal_succ tab d) (fun _ _ q => q) H.2.2⟩
theorem mx_Cal_mono {tab : Nat → mx_M} {d d' : Nat} (hd : d ≤ d') {g : Nat} {a : List Value} {h : mx_H} {v : Option Value} {h' : mx_H} (H : mx_Cal tab d g a h v h') : mx_Cal tab d' g a h v h' := by
  induction hd with
  | refl => exact H
  | step _ ih => exact mx_Cal_succ tab _ _ _ _ _ _ ih
theorem mx_Cal_det (tab : Nat → mx_M) : ∀ d, mx_Cdet (mx_Cal tab d)
  | 0 => fun _ _ _ _ _ _ _ H _ => H.elim
  | d + 1 => fun g a h v h' v2 h2 H1 H2 => by
    obtain ⟨w, k, ⟨e1, e2⟩, e3, e4⟩ := mx_R_det (mx_Cal_det tab d) H1.2.2 H2.2.2
    exact ⟨e1.symm.trans e3, e2.symm.trans e4⟩
theorem mx_Cal_up (tab : Nat → mx_M) : ∀ d, mx_Cup (mx_Cal tab d)
  | 0 => fun _ _ _ _ _ H => H.elim
  | d + 1 => fun g a h v h' H => by
    obtain ⟨w, k, ⟨e1, e2⟩, e3⟩ := mx_R_up (mx_Cal_up tab d) H.2.2
    rw [← e2]; exact e3
/-- a call whose answer is known -/
theorem mx_call {tab : Nat → mx_M} {d d' g : Nat} {a : List Value} {h : mx_H} {v0 : Option Value} {h0 : mx_H} (H : mx_Cal tab d g a h v0 h0) (hd : d ≤ d') (K : Option Value → mx_H → Prop) : (∃ v h1, mx_Cal tab d' g a h v h1 ∧ K v h1) = K v0 h0 :=
  propext ⟨fun ⟨v, h1, k1, k2⟩ => by
    obtain ⟨rfl, rfl⟩ := mx_Cal_det tab d' _ _ _ _ _ _ _ (mx_Cal_mono hd H) k1
    exact k2, fun k => ⟨v0, h0, mx_Cal_mono hd H, k⟩⟩
