/-! one step of the small machine, as an equation -/
def mx_sI (h : mx_H) (i : mx_I) : mx_H := (i, h.2.1, h.2.2.1, h.2.2.2)
def mx_sJ (h : mx_H) (j : mx_J) : mx_H := (h.1, j, h.2.2.1, h.2.2.2)
def mx_sQ (h : mx_H) (q : mx_Q) : mx_H := (h.1, h.2.1, q, h.2.2.2)
def mx_isarr (a : Nat) (h : mx_H) : Bool := (decide (a < h.2.2.2) && decide (100 ≤ (mx_lay a).1) && decide ((mx_lay a).1 ≤ 102)) || decide ((mx_lay a).1 = 103) || decide ((mx_lay a).1 = 104)
def mx_okcp (a b : Nat) (i j z : Int32) (h : mx_H) : Bool := decide (mx_layL.length ≤ h.2.2.2) && decide (a < h.2.2.2) && decide ((mx_lay a).1 = 100) && (decide (b < h.2.2.2) && decide ((mx_lay b).1 = 100)) && (decide (0 ≤ i) && decide (0 ≤ j) && decide (0 ≤ z) && decide (i.toNatClampNeg + z.toNatClampNeg ≤ (mx_lay a).2) && decide (j.toNatClampNeg + z.toNatClampNeg ≤ (mx_lay b).2))
def mx_swP (K : Nat → Prop) : List (Int32 × Nat) → Nat → Int32 → Prop
  | [], d, _ => K d
  | (a, t) :: r, d, x => if x = a then K t else mx_swP K r d x
theorem mx_swP_eq (K : Nat → Prop) : ∀ (l : List (Int32 × Nat)) (d : Nat) (x : Int32), K (mx_sw l d x) = mx_swP K l d x
  | [], _, _ => rfl
  | (a, t) :: r, d, x => by
    unfold mx_sw mx_swP
    by_cases h : x = a
    · rw [if_pos h, if_pos h]
    · rw [if_neg h, if_neg h]; exact mx_swP_eq K r d x
section MXX
variable {cl : List (Nat × mx_N)} {C : mx_C} {pc n : Nat} {ls ls' : mx_L} {st st' : mx_S} {h : mx_H} {P : mx_P} {f : mx_F} {I : mx_I} {J : mx_J} {Q : mx_Q}
theorem mx_xf (hc : cl.lookup pc = some (.inl f)) (hf : f ls st h = some (n, ls', st', I, J, Q)) : mx_R cl C pc ls st h P = mx_R cl C n ls' st' (I, J, Q, h.2.2.2) P := by
  rw [mx_R_eq]
  unfold mx_stp
  rw [hc]
  simp only [mx_sem, hf]
theorem mx_xg {b : Bool} (hc : cl.lookup pc = some (.inl f)) (hf : f ls st h = if b = true then some (n, ls', st', I, J, Q) else none) : mx_R cl C pc ls st h P = (b = true ∧ mx_R cl C n ls' st' (I, J, Q, h.2.2.2) P) := by
  rw [mx_R_eq]
  unfold mx_stp
  rw [hc]
  simp only [mx_sem, hf]
  by_cases hb : b = true
  · rw [if_pos hb]
    exact propext ⟨fun q => ⟨hb, q⟩, fun q => q.2⟩
  · rw [if_neg hb]
    exact propext ⟨fun q => q.elim, fun q => hb q.1⟩
theorem mx_xd {c : Prop} [Decidable c] (hc : cl.lookup pc = some (.inl f)) (hf : f ls st h = if c then none else some (n, ls', st', I, J, Q)) : mx_R cl C pc ls st h P = (¬ c ∧ mx_R cl C n ls' st' (I, J, Q, h.2.2.2) P) := by
  rw [mx_R_eq]
  unfold mx_stp
  rw [hc]
  simp only [mx_sem, hf]
  by_cases hb : c
  · rw [if_pos hb]
    exact propext ⟨fun q => q.elim, fun q => q.1 hb⟩
  · rw [if_neg hb]
    exact propext ⟨fun q => ⟨hb, q⟩, fun q => q.2⟩
theorem mx_xb {c : Prop} [Decidable c] {t : Nat} (hc : cl.lookup pc = some (.inl f)) (hf : f ls st h = some (if decide c = true then t else n, ls', st', I, J, Q)) : mx_R cl C pc ls st h P = if c then mx_R cl C t ls' st' (I, J, Q, h.2.2.2) P else mx_R cl C n ls' st' (I, J, Q, h.2.2.2) P := by
  rw [mx_R_eq]
  unfold mx_stp
  rw [hc]
  simp only [mx_sem, hf]
  by_cases hb : c
  · rw [if_pos (decide_eq_true hb), if_pos hb]
  · rw [if_neg (by simpa using hb), if_neg hb]
theorem mx_xs {d : Nat} {l : List (Int32 × Nat)} {x : Int32} (hc : cl.lookup pc = some (.inl (mf_sw d l))) : mx_R cl C pc ls (.int x :: st) h P = mx_swP (fun t => mx_R cl C t ls st h P) l d x := by
  rw [← mx_swP_eq, mx_R_eq]
  unfold mx_stp
  rw [hc]
  rfl
theorem mx_xc {g k : Nat} {a r : List Value} (hc : cl.lookup pc = some (.inr (.inl (n, g, k)))) (h1 : k ≤ st.length) (h2 : (st.drop k).length ≤ 4 ∨ ((st.drop k).map fun v => v.category).sum ≤ 8) (ha : (st.take k).reverse = a) (hr : st.drop k = r) : mx_R cl C pc ls st h P = ∃ v h1, C g a h v h1 ∧ mx_R cl C n ls (v.toList ++ r) h1 P := by
  subst ha
  subst hr
  rw [mx_R_eq]
  unfold mx_stp
  rw [hc]
  exact propext ⟨fun q => q.2.2, fun q => ⟨h1, h2, q⟩⟩
theorem mx_xn {c : Nat} (hc : cl.lookup pc = some (.inr (.inr (.inl (n, c))))) (h50 : c < 50) : mx_R cl C pc ls st h P = ((mx_lay h.2.2.2).1 = c ∧ mx_R cl C n ls (.ref h.2.2.2 :: st) (mx_fresh h) P) := by
  rw [mx_R_eq]
  unfold mx_stp
  rw [hc]
  simp only [mx_sem]
  rw [if_pos h50]
theorem mx_xm {c : Nat} {x : Int32} (hc : cl.lookup pc = some (.inr (.inr (.inl (n, c))))) (h50 : ¬ c < 50) : mx_R cl C pc ls (.int x :: st) h P = (((mx_lay h.2.2.2).1 = c ∧ 0 ≤ x ∧ (mx_lay h.2.2.2).2 = x.toNatClampNeg) ∧ mx_R cl C n ls (.ref h.2.2.2 :: st) (mx_fresh h) P) := by
  rw [mx_R_eq]
  unfold mx_stp
  rw [hc]
  simp only [mx_sem]
  rw [if_neg h50]
theorem mx_xr0 (hc : cl.lookup pc = some (.inr (.inr (.inr 0)))) : mx_R cl C pc ls [] h P = P none h := by
  rw [mx_R_eq]; unfold mx_stp; rw [hc]; rfl
theorem mx_xr1 {x : Int32} (hc : cl.lookup pc = some (.inr (.inr (.inr 1)))) : mx_R cl C pc ls [.int x] h P = P (some (.int x)) h := by
  rw [mx_R_eq]; unfold mx_stp; rw [hc]; rfl
theorem mx_xr2 {x : Int32} (hc : cl.lookup pc = some (.inr (.inr (.inr 2)))) : mx_R cl C pc ls [.int x] h P = ((x = 0 ∨ x = 1) ∧ P (some (.int x)) h) := by
  rw [mx_R_eq]; unfold mx_stp; rw [hc]; rfl
theorem mx_xr3 {x : Int64} (hc : cl.lookup pc = some (.inr (.inr (.inr 3)))) : mx_R cl C pc ls [.long x] h P = P (some (.long x)) h := by
  rw [mx_R_eq]; unfold mx_stp; rw [hc]; rfl
theorem mx_xr4 {x : Nat} (hc : cl.lookup pc = some (.inr (.inr (.inr 4)))) : mx_R cl C pc ls [.ref x] h P = P (some (.ref x)) h := by
  rw [mx_R_eq]; unfold mx_stp; rw [hc]; rfl
theorem mx_xr5 (hc : cl.lookup pc = some (.inr (.inr (.inr 4)))) : mx_R cl C pc ls [.null] h P = P (some .null) h := by
  rw [mx_R_eq]; unfold mx_stp; rw [hc]; rfl
end MXX
