/-! allocation, calls, returns -/
section MXB
variable {tab : Nat → mx_M} {own : String} {cc : ByteArray} {nL : Nat} {rt : Option FieldType} {nm : String} {pc n : Nat}
theorem mx_lay_lt {a : Nat} (h : (mx_lay a).1 < 103) : a < mx_layL.length := by
  rcases Nat.lt_or_ge a mx_layL.length with q | q
  · exact q
  · unfold mx_lay at h
    rw [List.getD_eq_getElem?_getD, List.getElem?_eq_none q] at h
    simp only [Option.getD_none] at h
    repeat' split at h
    all_goals simp only at h
    all_goals omega
/-- what a new cell makes of the heap -/
theorem mx_Rel.push {G : mx_G} {h : mx_H} {H H1 : Heap} {e : va_E} (h2 : mx_Rel G h H) (hl : h.2.2.2 < mx_layL.length) (he : mx_en G (mx_fresh h) h.2.2.2 = e) (hat : va_at G.2.2.1 mx_cl (G.1 + h.2.2.2, e) H1) (z : H1.size = H.size + 1) (o : ∀ q, q < H.size → H1[q]? = H[q]?) : mx_Rel G (mx_fresh h) H1 := by
  have hs := h2.2.1 hl
  have hb : ∀ b, b < h.2.2.2 → mx_en G (mx_fresh h) b = mx_en G h b := fun b hb => mx_en_congr (mx_row_ne _ (by omega) _) (mx_row_ne _ (by omega) _) (mx_row_ne _ (by omega) _)
  refine ⟨?_, fun _ => by rw [z, hs]; rfl, ?_, fun j i hj => ?_⟩
  · rw [← mx_ws_push hb he]
    refine (h2.1.kept fun k q hk => o q.1 ((h2.1 k q hk).lt)).app fun k q hk => ?_
    have hz : k < 1 := (List.getElem?_eq_some_iff.mp hk).1
    rw [show k = 0 by omega] at hk
    cases hk
    exact hat
  · show h.2.2.2 + 1 ≤ 900
    have : mx_layL.length ≤ 900 := by decide +kernel
    omega
  · show mx_row h.1 h.2.2.2 _ j i = _
    rw [mx_row_ne _ (by have := h2.2.2.1; omega)]
    exact h2.2.2.2 j i hj
theorem mx_S_push {G : mx_G} {H0 H H1 : Heap} {locs : List Loc} (hS : va_S (mx_A G) H0 H locs) (z : H1.size = H.size + 1) (o : ∀ q, q < H.size → H1[q]? = H[q]?) : va_S (mx_A G) H0 H1 locs :=
  ⟨Nat.le_trans hS.1 (by omega), fun q h1 h2 => (o q (Nat.lt_of_lt_of_le h1 hS.1)).trans (hS.2.1 q h1 h2), hS.2.2⟩
theorem sm_new {c N ix : Nat} {C : String} {T : u_T} {ty : Nat → FieldType} (hC : mx_Cls c C T N ty) (hdf : ∀ k, k < N → defaultValue (ty k) = (if mx_fty c k = 0 then .int 0 else if mx_fty c k = 1 then .long 0 else .null)) (hcl : Cond.classLink own ix C ∈ mx_TT) (hins : Cond.instantiable C N ∈ mx_TT) (hini : Cond.initialized C ∈ mx_TT) (hdg : decode cc pc = .ok (.new ix, 3)) (hn : pc + 3 = n) : mx_Sim tab own cc nL rt nm pc (.inr (.inr (.inl (n, c)))) := by
  intro p l e R s m args below meth c0 Q G n0 N1 d CC hX hCk hf hl hc hs K P hK hP ls st h hsem
  simp only [mx_sem] at hsem
  rw [if_pos hC.2.1] at hsem
  obtain ⟨hlay, hk⟩ := hsem
  subst hn
  obtain ⟨K1, hup⟩ := hK _ _ _ _ hk
  intro H locs lsc h1 h2 h3 h4
  have hll : h.2.2.2 < mx_layL.length := mx_lay_lt (by have := hC.2.1; omega)
  have hsz := h2.2.1 hll
  have hN := hC.2.2.2.1 _ hlay
  have hKn := hX.2.1.2.1.1 c _ hC.1
  have hup : h.2.2.2 + 1 ≤ N1 := hup
  have hsl := mx_sl_le hup
  have hsl0 := mx_sl_le h1
  rw [mx_sl_succ, hN] at hsl
  refine W.newcK hX.1.1 hX.1.2.1 hX.1.2.2.2.1 (hX.1.2.2.2.2 _ hcl) (hX.1.2.2.2.2 _ hins) (hX.1.2.2.2.2 _ hini) rfl hdg (by omega) (by omega) hKn.2.1 hsz fun H1 kC hkC e1 z1 o1 => ?_
  have K2 := K1 H1 locs lsc (Nat.le_succ_of_le h1) (mx_Rel.push h2 hll (mx_en_obj hlay hC.2.1) ?_ (by rw [z1, hsz]) (fun q hq => o1 q (by omega))) h3 (mx_S_push h4 (by rw [z1, hsz]) (fun q hq => o1 q (by omega)))
  · have e2 : (mx_fresh h).2.2.2 - n0 = h.2.2.2 - n0 + 1 := by show h.2.2.2 + 1 - n0 = _; omega
    have e3 : mx_sl (mx_fresh h).2.2.2 - mx_sl n0 = mx_sl h.2.2.2 - mx_sl n0 + N := by show mx_sl (h.2.2.2 + 1) - _ = _; rw [mx_sl_succ, hN]; omega
    rw [e2, e3] at K2
    have e4 : mx_cv G (.ref h.2.2.2) = .ref (G.1 + h.2.2.2) := by
      simp only [mx_cv, mx_ad]
      rw [if_pos (by have := h2.2.2.1; omega)]
    rw [List.map_cons, e4] at K2
    exact K2
  · refine ⟨_, hC.1, (u_born ty hX.1.2.2.2.2 hC.2.2.1 hKn hkC e1 hC.2.2.2.2.1).to fun k hk => ?_⟩
    rw [hdf k hk]
    simp only [vp_V, hN, List.getD_eq_getElem?_getD, List.getElem?_map, List.getElem?_range hk, Option.map_some, Option.getD_some, mx_fv]
    split
    · simp [mx_fresh, mx_row]
    · split
      · simp [mx_fresh, mx_row]
      · simp [mx_fresh, mx_row, va_rf]
theorem sm_newi (hw : Cond.arrayClass .int ∈ mx_TT) (hdg : decode cc pc = .ok (.newarray .int, 2)) (hn : pc + 2 = n) : mx_Sim tab own cc nL rt nm pc (.inr (.inr (.inl (n, 100)))) := by
  intro p l e R s m args below meth c0 Q G n0 N1 d CC hX hCk hf hl hc hs K P hK hP ls st h hsem
  simp only [mx_sem] at hsem
  rw [if_neg (by omega)] at hsem
  split at hsem
  · next x st' =>
    obtain ⟨⟨hlay, hx0, hx1⟩, hk⟩ := hsem
    subst hn
    obtain ⟨K1, hup⟩ := hK _ _ _ _ hk
    intro H locs lsc h1 h2 h3 h4
    have hll : h.2.2.2 < mx_layL.length := mx_lay_lt (by omega)
    have hsz := h2.2.1 hll
    have hup : h.2.2.2 + 1 ≤ N1 := hup
    have hsl := mx_sl_le hup
    have hsl0 := mx_sl_le h1
    rw [mx_sl_succ, hx1] at hsl
    have hbig : x.toNatClampNeg ≤ 4096 := by
      have := mx_layL_sz _ (List.getElem_mem hll)
      unfold mx_lay at hx1
      rw [List.getD_eq_getElem?_getD, List.getElem?_eq_getElem hll] at hx1
      simp only [Option.getD_some] at hx1
      omega
    refine va_newaK (atype := .int) hX.1.1 hX.1.2.1 (hX.1.2.2.2.2 _ hw) rfl hdg rfl (Int32.not_lt.mpr hx0) rfl (by show _ * 4 ≤ _; omega) (by omega) (by omega) hsz fun H1 cA e1 z1 o1 hAr hNm => ?_
    have hcA : cA = G.2.2.2.1.1 := Option.some.inj (hNm.symm.trans (hX.2.1.2.1.2 0 _ rfl).2)
    subst hcA
    have K2 := K1 H1 locs lsc (Nat.le_succ_of_le h1) (mx_Rel.push h2 hll (mx_en_i hlay) ?_ (by rw [z1, hsz]) (fun q hq => o1 q (by omega))) h3 (mx_S_push h4 (by rw [z1, hsz]) (fun q hq => o1 q (by omega)))
    · have e2 : (mx_fresh h).2.2.2 - n0 = h.2.2.2 - n0 + 1 := by show h.2.2.2 + 1 - n0 = _; omega
      have e3 : mx_sl (mx_fresh h).2.2.2 - mx_sl n0 = mx_sl h.2.2.2 - mx_sl n0 + x.toNatClampNeg := by show mx_sl (h.2.2.2 + 1) - _ = _; rw [mx_sl_succ, hx1]; omega
      rw [e2, e3] at K2
      have e4 : mx_cv G (.ref h.2.2.2) = .ref (G.1 + h.2.2.2) := by
        simp only [mx_cv, mx_ad]
        rw [if_pos (by have := h2.2.2.1; omega)]
      rw [List.map_cons, e4] at K2
      exact K2
    · show H1[_]? = some (vp_cell _ _)
      rw [vp_cell_i, e1, hx1]
      simp [mx_fresh, mx_row, defaultValue, newarray.typeOf]
  · exact hsem.elim
theorem sm_newl (hw : Cond.arrayClass .long ∈ mx_TT) (hdg : decode cc pc = .ok (.newarray .long, 2)) (hn : pc + 2 = n) : mx_Sim tab own cc nL rt nm pc (.inr (.inr (.inl (n, 101)))) := by
  intro p l e R s m args below meth c0 Q G n0 N1 d CC hX hCk hf hl hc hs K P hK hP ls st h hsem
  simp only [mx_sem] at hsem
  rw [if_neg (by omega)] at hsem
  split at hsem
  · next x st' =>
    obtain ⟨⟨hlay, hx0, hx1⟩, hk⟩ := hsem
    subst hn
    obtain ⟨K1, hup⟩ := hK _ _ _ _ hk
    intro H locs lsc h1 h2 h3 h4
    have hll : h.2.2.2 < mx_layL.length := mx_lay_lt (by omega)
    have hsz := h2.2.1 hll
    have hup : h.2.2.2 + 1 ≤ N1 := hup
    have hsl := mx_sl_le hup
    have hsl0 := mx_sl_le h1
    rw [mx_sl_succ, hx1] at hsl
    have hbig : x.toNatClampNeg ≤ 4096 := by
      have := mx_layL_sz _ (List.getElem_mem hll)
      unfold mx_lay at hx1
      rw [List.getD_eq_getElem?_getD, List.getElem?_eq_getElem hll] at hx1
      simp only [Option.getD_some] at hx1
      omega
    refine va_newaK (atype := .long) hX.1.1 hX.1.2.1 (hX.1.2.2.2.2 _ hw) rfl hdg rfl (Int32.not_lt.mpr hx0) rfl (by show _ * 8 ≤ _; omega) (by omega) (by omega) hsz fun H1 cA e1 z1 o1 hAr hNm => ?_
    have hcA : cA = G.2.2.2.1.2.1 := Option.some.inj (hNm.symm.trans (hX.2.1.2.1.2 1 _ rfl).2)
    subst hcA
    have K2 := K1 H1 locs lsc (Nat.le_succ_of_le h1) (mx_Rel.push h2 hll (mx_en_l hlay) ?_ (by rw [z1, hsz]) (fun q hq => o1 q (by omega))) h3 (mx_S_push h4 (by rw [z1, hsz]) (fun q hq => o1 q (by omega)))
    · have e2 : (mx_fresh h).2.2.2 - n0 = h.2.2.2 - n0 + 1 := by show h.2.2.2 + 1 - n0 = _; omega
      have e3 : mx_sl (mx_fresh h).2.2.2 - mx_sl n0 = mx_sl h.2.2.2 - mx_sl n0 + x.toNatClampNeg := by show mx_sl (h.2.2.2 + 1) - _ = _; rw [mx_sl_succ, hx1]; omega
      rw [e2, e3] at K2
      have e4 : mx_cv G (.ref h.2.2.2) = .ref (G.1 + h.2.2.2) := by
        simp only [mx_cv, mx_ad]
        rw [if_pos (by have := h2.2.2.1; omega)]
      rw [List.map_cons, e4] at K2
      exact K2
    · show H1[_]? = some (vp_cell _ _)
      rw [vp_cell_l, e1, hx1]
      simp [mx_fresh, mx_row, defaultValue, newarray.typeOf]
  · exact hsem.elim
theorem sm_newq {ix : Nat} (hw : Cond.classLink own ix RX6 ∈ mx_TT) (hdg : decode cc pc = .ok (.anewarray ix, 3)) (hn : pc + 3 = n) : mx_Sim tab own cc nL rt nm pc (.inr (.inr (.inl (n, 102)))) := by
  intro p l e R s m args below meth c0 Q G n0 N1 d CC hX hCk hf hl hc hs K P hK hP ls st h hsem
  simp only [mx_sem] at hsem
  rw [if_neg (by omega)] at hsem
  split at hsem
  · next x st' =>
    obtain ⟨⟨hlay, hx0, hx1⟩, hk⟩ := hsem
    subst hn
    obtain ⟨K1, hup⟩ := hK _ _ _ _ hk
    intro H locs lsc h1 h2 h3 h4
    have hll : h.2.2.2 < mx_layL.length := mx_lay_lt (by omega)
    have hsz := h2.2.1 hll
    have hup : h.2.2.2 + 1 ≤ N1 := hup
    have hsl := mx_sl_le hup
    have hsl0 := mx_sl_le h1
    rw [mx_sl_succ, hx1] at hsl
    have hbig : x.toNatClampNeg ≤ 4096 := by
      have := mx_layL_sz _ (List.getElem_mem hll)
      unfold mx_lay at hx1
      rw [List.getD_eq_getElem?_getD, List.getElem?_eq_getElem hll] at hx1
      simp only [Option.getD_some] at hx1
      omega
    refine W.anew hX.1.1 hX.1.2.1 hX.1.2.2.2.1 (hX.1.2.2.2.2 _ hw) (va_AO.use hX.2.1.2.2.2.1) rfl hdg rfl (Int32.not_lt.mpr hx0) (by omega) (by omega) (by omega) fun cA kA comp f1 f2 f3 f4 => ?_
    obtain ⟨kA', comp', y1, y2, y3, y4⟩ := (hX.2.1.2.1.2 2 _ rfl).2
    have hcA : cA = G.2.2.2.1.2.2 := Option.some.inj (f1.symm.trans y4)
    subst hcA
    generalize hH1 : H.push ({ cls := G.2.2.2.1.2.2, slots := Array.replicate x.toNatClampNeg .null, vm := .none } : Cell) = H1
    have z1 : H1.size = H.size + 1 := by rw [← hH1, Array.size_push]
    have e1 : H1[H.size]? = some (arrV G.2.2.2.1.2.2 x.toNatClampNeg (fun _ => .null)) := by rw [← hH1, Array.getElem?_push_size, ← arrV_new]
    have o1 : ∀ q : Nat, q < H.size → H1[q]? = H[q]? := fun q hq => by rw [← hH1, Array.getElem?_push, if_neg (Nat.ne_of_lt hq)]
    have K2 := K1 H1 locs lsc (Nat.le_succ_of_le h1) (mx_Rel.push h2 hll (mx_en_q hlay) ?_ z1 o1) h3 (mx_S_push h4 z1 o1)
    · have e2 : (mx_fresh h).2.2.2 - n0 = h.2.2.2 - n0 + 1 := by show h.2.2.2 + 1 - n0 = _; omega
      have e3 : mx_sl (mx_fresh h).2.2.2 - mx_sl n0 = mx_sl h.2.2.2 - mx_sl n0 + x.toNatClampNeg := by show mx_sl (h.2.2.2 + 1) - _ = _; rw [mx_sl_succ, hx1]; omega
      rw [e2, e3] at K2
      have e4 : mx_cv G (.ref h.2.2.2) = .ref H.size := by
        simp only [mx_cv, mx_ad]
        rw [if_pos (by have := h2.2.2.1; omega), hsz]
      rw [List.map_cons, e4] at K2
      exact K2
    · show H1[_]? = some (vp_cell _ _)
      rw [vp_cell_q, ← hsz, e1, hx1]
      simp [mx_fresh, mx_row, va_rf]
  · exact hsem.elim
end MXB
