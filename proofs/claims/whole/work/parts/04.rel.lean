def mx_ftL : List (List Nat) := [[0, 2, 2, 2, 2, 2], [2, 0], [1, 1, 2], [2, 2, 0, 0, 0], [0, 2, 2, 2, 2], [0, 2, 2, 2, 2, 2], [0, 2], [2, 0, 0, 0, 0, 2, 2, 2, 2], [0, 2, 2], [2, 0, 0, 0, 0], [2, 2, 0, 2, 2, 2, 2, 2, 2, 2], [2, 2, 0, 2, 0, 0, 0, 0, 2, 2, 2, 2, 2, 0, 0, 2, 2, 0, 2, 0, 0, 2, 2, 2, 2]]
/-! the heap of the small machine beside the machine's own -/
abbrev mx_G : Type := Nat × (Nat → Nat) × va_G × (ClassId × ClassId × ClassId) × (Nat → Nat → Int32)
def mx_ad (G : mx_G) (k : Nat) : Nat := if k < 1000 then G.1 + k else G.2.1 (k - 1000)
def mx_cv (G : mx_G) : Value → Value
  | .ref k => .ref (mx_ad G k)
  | v => v
def mx_A (G : mx_G) : Nat → Prop := fun q => G.1 ≤ q
def mx_fty (c k : Nat) : Nat := (mx_ftL.getD c []).getD k 2
def mx_fv (G : mx_G) (h : mx_H) (a c k : Nat) : Value := if mx_fty c k = 0 then .int (h.1 a k) else if mx_fty c k = 1 then .long (h.2.1 a k) else va_rf ((h.2.2.1 a k).map (mx_ad G))
def mx_en (G : mx_G) (h : mx_H) (a : Nat) : va_E :=
  if (mx_lay a).1 = 100 then .inl (G.2.2.2.1.1, (mx_lay a).2, .inl (h.1 a))
  else if (mx_lay a).1 = 101 then .inl (G.2.2.2.1.2.1, (mx_lay a).2, .inr (.inl (h.2.1 a)))
  else if (mx_lay a).1 = 102 then .inl (G.2.2.2.1.2.2, (mx_lay a).2, .inr (.inr (.inr (.inr (fun j => (h.2.2.1 a j).map (mx_ad G))))))
  else .inr ((mx_lay a).1, (List.range (mx_lay a).2).map (mx_fv G h a (mx_lay a).1))
def mx_ws (G : mx_G) (h : mx_H) : va_W := (List.range h.2.2.2).map (fun a => (G.1 + a, mx_en G h a))
def mx_Rel (G : mx_G) (h : mx_H) (H : Heap) : Prop := va_P G.2.2.1 mx_cl (mx_ws G h) H ∧ (h.2.2.2 < mx_layL.length → H.size = G.1 + h.2.2.2) ∧ h.2.2.2 ≤ 900 ∧ ∀ j i, 1000 ≤ j → h.1 j i = G.2.2.2.2 (j - 1000) i
def mx_sl (n : Nat) : Nat := ((List.range n).map (fun k => (mx_lay k).2)).sum
theorem mx_sl_succ (n : Nat) : mx_sl (n + 1) = mx_sl n + (mx_lay n).2 := by
  simp [mx_sl, List.range_succ]
theorem mx_sl_le {a b : Nat} (h : a ≤ b) : mx_sl a ≤ mx_sl b := by
  induction h with
  | refl => exact Nat.le_refl _
  | step _ ih => rw [mx_sl_succ]; omega
theorem mx_ws_at {G : mx_G} {h : mx_H} {a : Nat} (ha : a < h.2.2.2) : (mx_ws G h)[a]? = some (G.1 + a, mx_en G h a) := by
  simp [mx_ws, ha]
theorem mx_ws_set {G : mx_G} {h h' : mx_H} {a : Nat} (hn : h'.2.2.2 = h.2.2.2) (hb : ∀ b, b ≠ a → mx_en G h' b = mx_en G h b) : (mx_ws G h).set a (G.1 + a, mx_en G h' a) = mx_ws G h' := by
  apply List.ext_getElem?
  intro i
  by_cases hi : i < h.2.2.2
  · rw [mx_ws_at (h := h') (by omega)]
    by_cases hia : i = a
    · subst hia
      rw [List.getElem?_set_self (by simp [mx_ws]; omega)]
    · rw [List.getElem?_set_ne (Ne.symm hia), mx_ws_at hi, hb i hia]
  · rw [List.getElem?_eq_none (by simp [mx_ws]; omega), List.getElem?_eq_none (by simp [mx_ws]; omega)]
theorem mx_ws_len (G : mx_G) (h : mx_H) : (mx_ws G h).length = h.2.2.2 := by simp [mx_ws]
theorem mx_ws_D (G : mx_G) (h : mx_H) : va_D (mx_A G) (mx_ws G h) := by
  have key : ∀ (k : Nat) (q : Nat × va_E), (mx_ws G h)[k]? = some q → q.1 = G.1 + k := by
    intro k q hk
    have hl := (List.getElem?_eq_some_iff.mp hk).1
    rw [mx_ws_len] at hl
    rw [mx_ws_at hl] at hk
    cases hk
    rfl
  refine ⟨fun i j p q hi hj e => ?_, fun k q hk => ?_⟩
  · rw [key i p hi, key j q hj] at e
    omega
  · show G.1 ≤ q.1
    rw [key k q hk]
    omega
theorem mx_ws_push {G : mx_G} {h : mx_H} {e : va_E} (hb : ∀ b, b < h.2.2.2 → mx_en G (mx_fresh h) b = mx_en G h b) (he : mx_en G (mx_fresh h) h.2.2.2 = e) : mx_ws G h ++ [(G.1 + h.2.2.2, e)] = mx_ws G (mx_fresh h) := by
  unfold mx_ws
  show _ = (List.range (h.2.2.2 + 1)).map _
  rw [List.range_succ, List.map_append, List.map_cons, List.map_nil, he]
  congr 1
  exact List.map_congr_left fun b hb' => by rw [hb b (List.mem_range.mp hb')]
/-- the locals -/
def mx_LR (G : mx_G) (nL : Nat) (ls : mx_L) (lsc : Array Slot) : Prop := ls.length = nL ∧ lsc.size = nL ∧ lv_wf lsc ∧ ∀ k v, mx_get ls k = some v → lsc[k]? = some (.val (mx_cv G v))
theorem mx_get_lt : ∀ {ls : mx_L} {k : Nat} {v : Value}, mx_get ls k = some v → k < ls.length
  | [], _, _, h => by cases h
  | _ :: _, 0, _, _ => Nat.zero_lt_succ _
  | _ :: l, k + 1, _, h => Nat.succ_lt_succ (mx_get_lt (ls := l) h)
theorem mx_put_len : ∀ (ls : mx_L) (k : Nat) (v : Option Value), (mx_put ls k v).length = ls.length
  | [], _, _ => rfl
  | _ :: _, 0, _ => rfl
  | a :: l, k + 1, v => by simp [mx_put, mx_put_len l k v]
theorem mx_get_put : ∀ (ls : mx_L) (k j : Nat) (v : Option Value), mx_get (mx_put ls k v) j = if j = k ∧ k < ls.length then v else mx_get ls j
  | [], k, j, v => by simp [mx_put, mx_get]
  | a :: l, 0, 0, v => by simp [mx_put, mx_get]
  | a :: l, 0, j + 1, v => by simp [mx_put, mx_get]
  | a :: l, k + 1, 0, v => by simp [mx_put, mx_get]
  | a :: l, k + 1, j + 1, v => by simp [mx_put, mx_get, mx_get_put l k j v]
theorem mx_clr_len (ls : mx_L) : ∀ i, (mx_clr ls i).length = ls.length
  | 0 => rfl
  | k + 1 => by
    simp only [mx_clr]
    split
    · split
      · exact mx_put_len _ _ _
      · rfl
    · rfl
/-- what is left after clearing: the same, and no long just ahead -/
theorem mx_get_clr {ls : mx_L} {i j : Nat} {v : Value} (h : mx_get (mx_clr ls i) j = some v) : mx_get ls j = some v ∧ ¬ (j + 1 = i ∧ v.category = 2) := by
  cases i with
  | zero => exact ⟨h, by omega⟩
  | succ k =>
    simp only [mx_clr] at h
    cases hw : mx_get ls k with
    | some w =>
      rw [hw] at h
      simp only at h
      by_cases hc : w.category = 2
      · rw [if_pos hc, mx_get_put] at h
        split at h
        · cases h
        · next hn => exact ⟨h, fun q => hn ⟨by omega, mx_get_lt hw⟩⟩
      · rw [if_neg hc] at h
        refine ⟨h, fun q => ?_⟩
        have : j = k := by omega
        subst this
        rw [hw] at h
        cases h
        exact hc q.2
    | none =>
      rw [hw] at h
      refine ⟨h, fun q => ?_⟩
      have : j = k := by omega
      subst this
      rw [hw] at h
      cases h
theorem mx_cv_cat (G : mx_G) (v : Value) : (mx_cv G v).category = v.category := by cases v <;> rfl
def mx_kv (G : mx_G) (ls : mx_L) : List (Nat × Value) := (List.range ls.length).filterMap (fun k => (mx_get ls k).map (fun v => (k, mx_cv G v)))
theorem mx_kv_mem {G : mx_G} {ls : mx_L} {k : Nat} {v : Value} (h : mx_get ls k = some v) : (k, mx_cv G v) ∈ mx_kv G ls :=
  List.mem_filterMap.mpr ⟨k, List.mem_range.mpr (mx_get_lt h), by rw [h]; rfl⟩
theorem mx_LR.has {G : mx_G} {nL : Nat} {ls : mx_L} {lsc : Array Slot} (h : mx_LR G nL ls lsc) : lv_has lsc nL (mx_kv G ls) := by
  refine ⟨h.2.1, h.2.2.1, fun q hq => ?_⟩
  obtain ⟨k, -, hk⟩ := List.mem_filterMap.mp hq
  cases hg : mx_get ls k with
  | none => rw [hg] at hk; cases hk
  | some v =>
    rw [hg] at hk
    cases hk
    exact h.2.2.2 k v hg
theorem mx_LR.st1 {G : mx_G} {nL i : Nat} {ls : mx_L} {lsc ls' : Array Slot} {v : Value} (h : mx_LR G nL ls lsc) (hh : lv_has ls' nL ((i, mx_cv G v) :: (mx_kv G ls).filter (fun q => !(q.1 == i) && !(q.1 + 1 == i && q.2.category == 2)))) : mx_LR G nL (mx_put (mx_clr ls i) i (some v)) ls' := by
  refine ⟨by rw [mx_put_len, mx_clr_len]; exact h.1, hh.1, hh.2.1, fun k w hk => ?_⟩
  rw [mx_get_put] at hk
  split at hk
  · next hc =>
    cases hk
    exact hh.2.2 (k, _) (by rw [hc.1]; exact List.mem_cons_self)
  · next hc =>
    obtain ⟨h1, h2⟩ := mx_get_clr hk
    have hl := mx_get_lt hk
    rw [mx_clr_len] at hl
    refine hh.2.2 (k, _) (List.mem_cons_of_mem _ (List.mem_filter.mpr ⟨mx_kv_mem h1, ?_⟩))
    have h3 : ¬ k = i := fun q => hc ⟨q, by rw [mx_clr_len]; omega⟩
    have h4 : ¬ (k + 1 = i ∧ (mx_cv G w).category = 2) := by rw [mx_cv_cat]; exact h2
    simp only [Bool.and_eq_true, Bool.not_eq_true', beq_eq_false_iff_ne, ne_eq, Bool.and_eq_false_iff]
    refine ⟨h3, ?_⟩
    by_cases q : k + 1 = i
    · exact Or.inr (fun z => h4 ⟨q, z⟩)
    · exact Or.inl q
theorem mx_LR.st2 {G : mx_G} {nL i : Nat} {ls : mx_L} {lsc ls' : Array Slot} {v : Value} (h : mx_LR G nL ls lsc) (hh : lv_has ls' nL ((i, mx_cv G v) :: (mx_kv G ls).filter (fun q => !(q.1 == i) && (!(q.1 == i + 1) && !(q.1 + 1 == i && q.2.category == 2))))) : mx_LR G nL (mx_put (mx_put (mx_clr ls i) i (some v)) (i + 1) none) ls' := by
  refine ⟨by rw [mx_put_len, mx_put_len, mx_clr_len]; exact h.1, hh.1, hh.2.1, fun k w hk => ?_⟩
  rw [mx_get_put] at hk
  split at hk
  · cases hk
  · next hc1 =>
    have hl1 := mx_get_lt hk
    rw [mx_put_len] at hl1
    rw [mx_get_put] at hk
    split at hk
    · next hc =>
      cases hk
      exact hh.2.2 (k, _) (by rw [hc.1]; exact List.mem_cons_self)
    · next hc =>
      obtain ⟨h1, h2⟩ := mx_get_clr hk
      have hl := mx_get_lt hk
      rw [mx_clr_len] at hl
      refine hh.2.2 (k, _) (List.mem_cons_of_mem _ (List.mem_filter.mpr ⟨mx_kv_mem h1, ?_⟩))
      have h3 : ¬ k = i := fun q => hc ⟨q, by rw [mx_clr_len]; omega⟩
      have h4 : ¬ (k + 1 = i ∧ (mx_cv G w).category = 2) := by rw [mx_cv_cat]; exact h2
      have h5 : ¬ k = i + 1 := fun q => hc1 ⟨q, by rw [mx_put_len]; omega⟩
      simp only [Bool.and_eq_true, Bool.not_eq_true', beq_eq_false_iff_ne, ne_eq, Bool.and_eq_false_iff]
      refine ⟨h3, h5, ?_⟩
      by_cases q : k + 1 = i
      · exact Or.inr (fun z => h4 ⟨q, z⟩)
      · exact Or.inl q
theorem mx_args_lv (G : mx_G) : ∀ (vs : List Value) (i k : Nat) (v : Value), mx_get (mx_args vs) k = some v → (i + k, mx_cv G v) ∈ lv_args i (vs.map (mx_cv G))
  | [], _, _, _, h => by cases h
  | w :: vs, i, k, v, h => by
    simp only [mx_args] at h
    simp only [List.map_cons, lv_args, mx_cv_cat]
    split at h
    · next hc =>
      rw [if_pos hc]
      match k, h with
      | 0, h => cases h; exact List.mem_cons_self
      | 1, h => cases h
      | k + 2, h =>
        have := mx_args_lv G vs (i + 2) k v h
        rw [show i + (k + 2) = i + 2 + k by omega]
        exact List.mem_cons_of_mem _ this
    · next hc =>
      rw [if_neg hc]
      match k, h with
      | 0, h => cases h; exact List.mem_cons_self
      | k + 1, h =>
        have := mx_args_lv G vs (i + 1) k v h
        rw [show i + (k + 1) = i + 1 + k by omega]
        exact List.mem_cons_of_mem _ this
theorem mx_get_app : ∀ {l r : mx_L} {k : Nat} {v : Value}, mx_get (l ++ r) k = some v → mx_get l k = some v ∨ ∃ j, mx_get r j = some v
  | [], r, k, v, h => Or.inr ⟨k, h⟩
  | a :: l, r, 0, v, h => Or.inl h
  | a :: l, r, k + 1, v, h => mx_get_app (l := l) h
theorem mx_get_rep : ∀ {n k : Nat} {v : Value}, ¬ mx_get (List.replicate n (none : Option Value)) k = some v
  | 0, _, _, h => by cases h
  | n + 1, 0, _, h => by cases h
  | n + 1, k + 1, v, h => mx_get_rep (n := n) h
theorem mx_sl_args (G : mx_G) : ∀ vs : List Value, (lg_sl (vs.map (mx_cv G))).length = (mx_args vs).length
  | [] => rfl
  | w :: vs => by
    have ih := mx_sl_args G vs
    simp only [lg_sl, List.map_cons, List.flatMap_cons, mx_args, mx_cv_cat, List.length_append] at ih ⊢
    split <;> simp [ih] <;> omega
theorem mx_LR.entry {G : mx_G} {vs : List Value} {nL : Nat} (h : (mx_args vs).length ≤ nL) : mx_LR G nL (mx_ent nL vs) ((lg_sl (vs.map (mx_cv G)) ++ List.replicate (nL - (lg_sl (vs.map (mx_cv G))).length) Slot.unset).toArray) := by
  have hh := lv_entry (vs.map (mx_cv G)) (n := nL) (by rw [mx_sl_args]; exact h)
  refine ⟨by simp [mx_ent]; omega, hh.1, hh.2.1, fun k v hk => ?_⟩
  rcases mx_get_app hk with h1 | ⟨j, h1⟩
  · have := mx_args_lv G vs 0 k v h1
    rw [Nat.zero_add] at this
    exact hh.2.2 _ this
  · exact (mx_get_rep h1).elim
