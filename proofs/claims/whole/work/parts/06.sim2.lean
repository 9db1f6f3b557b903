section MXA
variable {p : Program} {l : Launch} {e : Env} {R : Room} {s : State} {m : MethodId} {args : Array Value} {below : List Frame} {meth : Method} {c : Code} {Q : State → Prop} {G : mx_G} {n0 : Nat}
theorem mx_ups_ne {α : Type} (f : Nat → Nat → α) {a b : Nat} (h : b ≠ a) (k : Nat) (x : α) : mx_ups f a k x b = f b := by
  funext j; simp [mx_ups, h]
theorem mx_row_ne {α : Type} (f : Nat → Nat → α) {a b : Nat} (h : b ≠ a) (g : Nat → α) : mx_row f a g b = f b := by
  simp [mx_row, h]
theorem mx_en_congr {h h' : mx_H} {b : Nat} (h1 : h'.1 b = h.1 b) (h2 : h'.2.1 b = h.2.1 b) (h3 : h'.2.2.1 b = h.2.2.1 b) : mx_en G h' b = mx_en G h b := by
  unfold mx_en
  rw [h1, h2, h3]
  have hf : mx_fv G h' b (mx_lay b).1 = mx_fv G h b (mx_lay b).1 := by
    funext k
    simp only [mx_fv, h1, h2, h3]
  rw [hf]
theorem mx_en_obj {h : mx_H} {a c : Nat} (hc : (mx_lay a).1 = c) (h50 : c < 50) : mx_en G h a = .inr (c, (List.range (mx_lay a).2).map (mx_fv G h a c)) := by
  unfold mx_en
  rw [if_neg (by omega), if_neg (by omega), if_neg (by omega), hc]
theorem mx_okc_of {c a : Nat} {h : mx_H} (hg : mx_okc c a h = true) : a < h.2.2.2 ∧ (mx_lay a).1 = c := by
  simpa [mx_okc] using hg
theorem mx_inb_of {i : Int32} {n : Nat} (h : mx_inb i n = true) : vp_in i n := by
  simp only [mx_inb, Bool.and_eq_true, decide_eq_true_eq] at h
  intro q
  rcases q with q | q
  · exact absurd h.1 (Int32.not_le.mpr q)
  · omega
theorem mx_oka_of {t a : Nat} {h : mx_H} {i : Int32} (hg : mx_oka t a h i = true) : a < h.2.2.2 ∧ (mx_lay a).1 = t ∧ vp_in i (mx_lay a).2 := by
  simp only [mx_oka, Bool.and_eq_true, decide_eq_true_eq] at hg
  exact ⟨hg.1.1, hg.1.2, mx_inb_of hg.2⟩
theorem mx_ad_lo {a : Nat} {h : mx_H} {H : Heap} (hR : mx_Rel G h H) (ha : a < h.2.2.2) : mx_ad G a = G.1 + a := by
  unfold mx_ad
  rw [if_pos]
  have := hR.2.2.1
  omega
theorem mx_cv_rf {o : Option Nat} : mx_cv G (mx_rf o) = va_rf (o.map (mx_ad G)) := by cases o <;> rfl
/-- a heap with one row changed -/
theorem mx_Rel.upd {h h' : mx_H} {H H1 : Heap} {a : Nat} (hR : mx_Rel G h H) (ha : a < h.2.2.2) (hn : h'.2.2.2 = h.2.2.2) (h1 : ∀ b, b ≠ a → h'.1 b = h.1 b) (h2 : ∀ b, b ≠ a → h'.2.1 b = h.2.1 b) (h3 : ∀ b, b ≠ a → h'.2.2.1 b = h.2.2.1 b)
    (hP : va_P G.2.2.1 mx_cl ((mx_ws G h).set a (G.1 + a, mx_en G h' a)) H1) (hz : H1.size = H.size) : mx_Rel G h' H1 := by
  rw [mx_ws_set hn (fun b hb => mx_en_congr (h1 b hb) (h2 b hb) (h3 b hb))] at hP
  refine ⟨hP, by rw [hz, hn]; exact hR.2.1, by rw [hn]; exact hR.2.2.1, fun j i hj => ?_⟩
  rw [h1 j (by have := hR.2.2.1; omega)]
  exact hR.2.2.2 j i hj
theorem mx_fv_set {h h' : mx_H} {a c k N : Nat} {v : Value} (hk : mx_fv G h' a c k = v) (ho : ∀ j, j ≠ k → mx_fv G h' a c j = mx_fv G h a c j) : ((List.range N).map (mx_fv G h a c)).set k v = (List.range N).map (mx_fv G h' a c) := by
  apply List.ext_getElem?
  intro i
  by_cases hi : i < N
  · by_cases hik : i = k
    · subst hik
      rw [List.getElem?_set_self (by simp; exact hi)]
      simp [hi, hk]
    · rw [List.getElem?_set_ne (Ne.symm hik)]
      simp [hi, ho i hik]
  · rw [List.getElem?_eq_none (by simp; omega), List.getElem?_eq_none (by simp; omega)]
end MXA
section MXF
variable {tab : Nat → mx_M} {own : String} {cc : ByteArray} {nL : Nat} {rt : Option FieldType} {nm : String} {pc n : Nat}
/-- what is known of a class of the layout -/
def mx_Cls (c : Nat) (C : String) (T : u_T) (N : Nat) (ty : Nat → FieldType) : Prop := mx_cl[c]? = some (C, T, N) ∧ c < 50 ∧ (∀ w ∈ u_ws C T N, w ∈ mx_TT) ∧ (∀ a, (mx_lay a).1 = c → (mx_lay a).2 = N) ∧ (∀ k, k < N → parseFieldDescriptor (T k).2.2.1 = some (ty k)) ∧ (∀ a, a < N → ∀ b, b < N → a ≠ b → (T a).2.1 ≠ (T b).2.1)
theorem sm_getI {c k N ix : Nat} {C : String} {T : u_T} {ty : Nat → FieldType} (hC : mx_Cls c C T N ty) (hk : k < N) (hft : mx_fty c k = 0) (hw : Cond.fieldLink own ix (T k).1 (T k).2.1 (T k).2.2.1 ∈ mx_TT) (hdg : decode cc pc = .ok (.getfield ix, 3)) (hn : pc + 3 = n) : mx_Sim tab own cc nL rt nm pc (.inl (mf_getI n c k)) := by
  refine mx_Sim.fn fun p l e R s m args below meth c0 Q G n0 hX hf1 hl1 ls st h r hr K => ?_
  unfold mf_getI at hr
  split at hr
  · next a r0 =>
    split at hr
    · next hg =>
      cases hr; subst hn
      intro H locs lsc h1 h2 h3 h4
      obtain ⟨g1, g2⟩ := mx_okc_of hg
      have hN := hC.2.2.2.1 a g2
      have he := mx_ws_at (G := G) g1
      rw [mx_en_obj g2 hC.2.1, hN, ← mx_ad_lo h2 g1] at he
      refine va_get hX.1.1 hX.1.2.1 hX.1.2.2.2.2 hC.2.2.1 hX.1.2.2.2.1 hX.2.1.2.1 h2.1 a he hC.1 k hk (hX.1.2.2.2.2 _ hw) (fun _ q => q) (v := .int (h.1 a k)) ?_ hdg (K H locs lsc h1 h2 h3 h4)
      simp [hk, mx_fv, hft]
    · cases hr
  · cases hr
theorem sm_getJ {c k N ix : Nat} {C : String} {T : u_T} {ty : Nat → FieldType} (hC : mx_Cls c C T N ty) (hk : k < N) (hft : mx_fty c k = 1) (hw : Cond.fieldLink own ix (T k).1 (T k).2.1 (T k).2.2.1 ∈ mx_TT) (hdg : decode cc pc = .ok (.getfield ix, 3)) (hn : pc + 3 = n) : mx_Sim tab own cc nL rt nm pc (.inl (mf_getJ n c k)) := by
  refine mx_Sim.fn fun p l e R s m args below meth c0 Q G n0 hX hf1 hl1 ls st h r hr K => ?_
  unfold mf_getJ at hr
  split at hr
  · next a r0 =>
    split at hr
    · next hg =>
      cases hr; subst hn
      intro H locs lsc h1 h2 h3 h4
      obtain ⟨g1, g2⟩ := mx_okc_of hg
      have hN := hC.2.2.2.1 a g2
      have he := mx_ws_at (G := G) g1
      rw [mx_en_obj g2 hC.2.1, hN, ← mx_ad_lo h2 g1] at he
      refine va_get hX.1.1 hX.1.2.1 hX.1.2.2.2.2 hC.2.2.1 hX.1.2.2.2.1 hX.2.1.2.1 h2.1 a he hC.1 k hk (hX.1.2.2.2.2 _ hw) (fun _ q => q) (v := .long (h.2.1 a k)) ?_ hdg (K H locs lsc h1 h2 h3 h4)
      simp [hk, mx_fv, hft]
    · cases hr
  · cases hr
theorem sm_getQ {c k N ix : Nat} {C : String} {T : u_T} {ty : Nat → FieldType} (hC : mx_Cls c C T N ty) (hk : k < N) (hft : mx_fty c k = 2) (hw : Cond.fieldLink own ix (T k).1 (T k).2.1 (T k).2.2.1 ∈ mx_TT) (hdg : decode cc pc = .ok (.getfield ix, 3)) (hn : pc + 3 = n) : mx_Sim tab own cc nL rt nm pc (.inl (mf_getQ n c k)) := by
  refine mx_Sim.fn fun p l e R s m args below meth c0 Q G n0 hX hf1 hl1 ls st h r hr K => ?_
  unfold mf_getQ at hr
  split at hr
  · next a r0 =>
    split at hr
    · next hg =>
      cases hr; subst hn
      intro H locs lsc h1 h2 h3 h4
      obtain ⟨g1, g2⟩ := mx_okc_of hg
      have hN := hC.2.2.2.1 a g2
      have he := mx_ws_at (G := G) g1
      rw [mx_en_obj g2 hC.2.1, hN, ← mx_ad_lo h2 g1] at he
      have K1 := K H locs lsc h1 h2 h3 h4
      dsimp only at K1
      rw [List.map_cons, mx_cv_rf] at K1
      refine va_get hX.1.1 hX.1.2.1 hX.1.2.2.2.2 hC.2.2.1 hX.1.2.2.2.1 hX.2.1.2.1 h2.1 a he hC.1 k hk (hX.1.2.2.2.2 _ hw) (fun _ q => q) ?_ hdg K1
      simp [hk, mx_fv, hft]
    · cases hr
  · cases hr
/-- a field's store -/
theorem mx_store {p : Program} {l : Launch} {e : Env} {R : Room} {s : State} {m : MethodId} {args : Array Value} {below : List Frame} {meth : Method} {c0 : Code} {Q : State → Prop} {G : mx_G} {H : Heap} {locs : List Loc} {lsc : Array Slot} {rest : List Value} {cells slots : Nat} {h h' : mx_H}
    {c k N ix a : Nat} {C : String} {T : u_T} {ty : Nat → FieldType} (hC : mx_Cls c C T N ty) (hk : k < N) (hX : mx_Cx p s m args meth c0 G own cc nL nm) (h2 : mx_Rel G h H) (h4 : va_S (mx_A G) s.heap H locs) (g1 : a < h.2.2.2) (g2 : (mx_lay a).1 = c)
    (t : FieldType) {v : Value} (hd : parseFieldDescriptor (T k).2.2.1 = some t) (hna : narrow t v = v) (hfi : fits t v = true) (hfin : (T k).2.2.2 = false)
    (hn : h'.2.2.2 = h.2.2.2) (e1 : ∀ b, b ≠ a → h'.1 b = h.1 b) (e2 : ∀ b, b ≠ a → h'.2.1 b = h.2.1 b) (e3 : ∀ b, b ≠ a → h'.2.2.1 b = h.2.2.1 b) (hv : mx_fv G h' a c k = v) (ho : ∀ j, j ≠ k → mx_fv G h' a c j = mx_fv G h a c j)
    (hw : Cond.fieldLink own ix (T k).1 (T k).2.1 (T k).2.2.1 ∈ mx_TT) (hdg : decode cc pc = .ok (.putfield ix, 3))
    (kk : ∀ (H1 : Heap) (locs1 : List Loc), mx_Rel G h' H1 → va_S (mx_A G) s.heap H1 locs1 → W p l e R s m args below meth c0 H1 locs1 cells slots Q (F0 m (pc + 3) lsc rest)) :
    W p l e R s m args below meth c0 H locs cells slots Q (F0 m pc lsc (v :: .ref (mx_ad G a) :: rest)) := by
  have hN := hC.2.2.2.1 a g2
  have he := mx_ws_at (G := G) g1
  rw [mx_en_obj g2 hC.2.1, hN, ← mx_ad_lo h2 g1] at he
  have hap := va_apart (own := own) hX.1.2.2.2.2 hC.2.2.1 ty hC.2.2.2.2.1 hC.2.2.2.2.2 hX.2.1.2.1 hC.1
  obtain ⟨r, r1, cell, q1, q2, q3, q4⟩ := h2.1 a _ he
  cases r1.symm.trans hC.1
  obtain ⟨hS, hfc, kC, hkC, hkind⟩ := hX.2.1.2.1.1 c _ hC.1
  obtain ⟨cf, kf, fi, f, hi, hsl⟩ := hS k hk
  have hlay := hX.1.2.2.2.2 _ (hC.2.2.1 _ (u_in_lay hk))
  unfold u_lay at hlay
  rw [if_neg (by rw [hfin]; decide)] at hlay
  have hst := (u_facts hfc hkC (u_lays hX.1.2.2.2.2 hC.2.2.1 hk) hi).1
  have h6 := u_store hfc hkC hkind hlay hi hd hna hfi
  refine W.putK hX.1.1 hX.1.2.1 (f := f) ⟨hX.1.2.2.2.1, hX.1.2.2.2.2 _ hw, ⟨_, _, _, hi⟩, hst⟩ (by rw [q2]; exact h6) q1 q3 (by rw [hsl]; exact k2_hasslot (q4 k hk)) rfl rfl hdg fun H' e4 e5 e6 => ?_
  rw [hsl] at e4 ⊢
  refine kk H' _ (mx_Rel.upd h2 g1 hn e1 e2 e3 ?_ e5) (h4.put e5 e6 ((mx_ws_D G h).2 a _ he))
  have hP1 := h2.1.set (mx_ws_D G h) he (e := .inr (c, ((List.range N).map (mx_fv G h a c)).set k v)) ⟨_, hC.1, t_OB.to (V := updV (vp_V ((List.range N).map (mx_fv G h a c))) k v) ⟨_, e4, q2, q3, t_set q4 hap hk v⟩ (fun j _ => vp_updV_set (by simp; exact hk) v j)⟩ e6
  rw [mx_en_obj g2 hC.2.1, hN, ← mx_ad_lo h2 g1, ← mx_fv_set hv ho]
  exact hP1
theorem sm_putI {c k N ix : Nat} {C : String} {T : u_T} {ty : Nat → FieldType} (hC : mx_Cls c C T N ty) (hk : k < N) (hft : mx_fty c k = 0) (hfin : (T k).2.2.2 = false) (hty : ty k = .int) (hw : Cond.fieldLink own ix (T k).1 (T k).2.1 (T k).2.2.1 ∈ mx_TT) (hdg : decode cc pc = .ok (.putfield ix, 3)) (hn : pc + 3 = n) : mx_Sim tab own cc nL rt nm pc (.inl (mf_putI n c k)) := by
  refine mx_Sim.fn fun p l e R s m args below meth c0 Q G n0 hX hf1 hl1 ls st h r hr K => ?_
  unfold mf_putI at hr
  split at hr
  · next x a r0 =>
    split at hr
    · next hg =>
      cases hr; subst hn
      intro H locs lsc h1 h2 h3 h4
      obtain ⟨g1, g2⟩ := mx_okc_of hg
      exact mx_store (G := G) hC hk hX h2 h4 g1 g2 (ty k) (hC.2.2.2.2.1 k hk) (by rw [hty]; rfl) (by rw [hty]; rfl) hfin (h' := (mx_ups h.1 a k x, h.2.1, h.2.2.1, h.2.2.2)) rfl (fun b hb => mx_ups_ne _ hb _ _) (fun b hb => rfl) (fun b hb => rfl) (by simp [mx_fv, hft, mx_ups, mx_cv]) (fun j hj => by simp [mx_fv, mx_ups, hj]) hw hdg (fun H1 locs1 q1 q2 => K H1 locs1 lsc h1 q1 h3 q2)
    · cases hr
  · cases hr
theorem sm_putZ {c k N ix : Nat} {C : String} {T : u_T} {ty : Nat → FieldType} (hC : mx_Cls c C T N ty) (hk : k < N) (hft : mx_fty c k = 0) (hfin : (T k).2.2.2 = false) (hty : ty k = .boolean) (hw : Cond.fieldLink own ix (T k).1 (T k).2.1 (T k).2.2.1 ∈ mx_TT) (hdg : decode cc pc = .ok (.putfield ix, 3)) (hn : pc + 3 = n) : mx_Sim tab own cc nL rt nm pc (.inl (mf_putZ n c k)) := by
  refine mx_Sim.fn fun p l e R s m args below meth c0 Q G n0 hX hf1 hl1 ls st h r hr K => ?_
  unfold mf_putZ at hr
  split at hr
  · next x a r0 =>
    split at hr
    · next hg =>
      cases hr; subst hn
      intro H locs lsc h1 h2 h3 h4
      obtain ⟨g1, g2⟩ := mx_okc_of (Bool.and_eq_true_iff.mp hg).1
      have hx01 : x = 0 ∨ x = 1 := by simpa using (Bool.and_eq_true_iff.mp hg).2
      exact mx_store (G := G) hC hk hX h2 h4 g1 g2 (ty k) (hC.2.2.2.2.1 k hk) (by rw [hty]; rcases hx01 with rfl | rfl <;> rfl) (by rw [hty]; rcases hx01 with rfl | rfl <;> rfl) hfin (h' := (mx_ups h.1 a k x, h.2.1, h.2.2.1, h.2.2.2)) rfl (fun b hb => mx_ups_ne _ hb _ _) (fun b hb => rfl) (fun b hb => rfl) (by simp [mx_fv, hft, mx_ups, mx_cv]) (fun j hj => by simp [mx_fv, mx_ups, hj]) hw hdg (fun H1 locs1 q1 q2 => K H1 locs1 lsc h1 q1 h3 q2)
    · cases hr
  · cases hr
theorem sm_putJ {c k N ix : Nat} {C : String} {T : u_T} {ty : Nat → FieldType} (hC : mx_Cls c C T N ty) (hk : k < N) (hft : mx_fty c k = 1) (hfin : (T k).2.2.2 = false) (hty : ty k = .long) (hw : Cond.fieldLink own ix (T k).1 (T k).2.1 (T k).2.2.1 ∈ mx_TT) (hdg : decode cc pc = .ok (.putfield ix, 3)) (hn : pc + 3 = n) : mx_Sim tab own cc nL rt nm pc (.inl (mf_putJ n c k)) := by
  refine mx_Sim.fn fun p l e R s m args below meth c0 Q G n0 hX hf1 hl1 ls st h r hr K => ?_
  unfold mf_putJ at hr
  split at hr
  · next x a r0 =>
    split at hr
    · next hg =>
      cases hr; subst hn
      intro H locs lsc h1 h2 h3 h4
      obtain ⟨g1, g2⟩ := mx_okc_of hg
      exact mx_store (G := G) hC hk hX h2 h4 g1 g2 (ty k) (hC.2.2.2.2.1 k hk) (by rw [hty]; rfl) (by rw [hty]; rfl) hfin (h' := (h.1, mx_ups h.2.1 a k x, h.2.2.1, h.2.2.2)) rfl (fun b hb => rfl) (fun b hb => mx_ups_ne _ hb _ _) (fun b hb => rfl) (by simp [mx_fv, hft, mx_ups, mx_cv]) (fun j hj => by simp [mx_fv, mx_ups, hj]) hw hdg (fun H1 locs1 q1 q2 => K H1 locs1 lsc h1 q1 h3 q2)
    · cases hr
  · cases hr
/-- a final field's store, in a constructor -/
theorem sm_putQ {c k N ix : Nat} {C : String} {T : u_T} {ty : Nat → FieldType} (hC : mx_Cls c C T N ty) (hk : k < N) (hft : mx_fty c k = 2) (hfin : (T k).2.2.2 = true) (hin : nm = "<init>") (hown : (T k).1 = own) (hna : ∀ x, narrow (ty k) (.ref x) = .ref x) (hfi : ∀ x, fits (ty k) (.ref x) = true) (hw : Cond.fieldLink own ix (T k).1 (T k).2.1 (T k).2.2.1 ∈ mx_TT) (hdg : decode cc pc = .ok (.putfield ix, 3)) (hn : pc + 3 = n) : mx_Sim tab own cc nL rt nm pc (.inl (mf_putQ n c k)) := by
  refine mx_Sim.fn fun p l e R s m args below meth c0 Q G n0 hX hf1 hl1 ls st h r hr K => ?_
  unfold mf_putQ at hr
  split at hr
  · next x a r0 =>
    split at hr
    · next hg =>
      cases hr; subst hn
      intro H locs lsc h1 h2 h3 h4
      obtain ⟨g1, g2⟩ := mx_okc_of hg
      have hN := hC.2.2.2.1 a g2
      have he := mx_ws_at (G := G) g1
      rw [mx_en_obj g2 hC.2.1, hN, ← mx_ad_lo h2 g1] at he
      have hap := va_apart (own := own) hX.1.2.2.2.2 hC.2.2.1 ty hC.2.2.2.2.1 hC.2.2.2.2.2 hX.2.1.2.1 hC.1
      obtain ⟨r, r1, cell, q1, q2, q3, q4⟩ := h2.1 a _ he
      cases r1.symm.trans hC.1
      obtain ⟨hS, hfc, kC, hkC, hkind⟩ := hX.2.1.2.1.1 c _ hC.1
      obtain ⟨cf, kf, fi, f, hi, hsl⟩ := hS k hk
      have hlay := hX.1.2.2.2.2 _ (hC.2.2.1 _ (u_in_lay hk))
      unfold u_lay at hlay
      rw [if_pos hfin] at hlay
      have hst := (u_facts hfc hkC (u_lays hX.1.2.2.2.2 hC.2.2.1 hk) hi).1
      have hcf : m.cls = cf := by
        obtain ⟨_, _, c', _, _, _, -, -, hf', -, -, -, hown2, -⟩ := Cond.laysFinal_spec hlay
        have e1 : c' = cf := by have := hi.symm.trans hf'; simp at this; exact this.1.symm
        rw [hown] at hown2
        rw [← e1]; exact Option.some.inj (hX.1.2.2.2.1.symm.trans hown2)
      have h6 := u_fits hfc hkC hkind (Or.inr hlay) hi (hC.2.2.2.2.1 k hk) (hna (mx_ad G x)) (hfi (mx_ad G x))
      refine W.putFinK hX.1.1 hX.1.2.1 hX.1.2.2.2.1 (hX.1.2.2.2.2 _ hw) hi hst hcf (hX.2.2.trans hin) (by rw [q2]; exact h6) q1 q3 (by rw [hsl]; exact k2_hasslot (q4 k hk)) rfl rfl hdg fun H' e4 e5 e6 => ?_
      rw [hsl] at e4 ⊢
      refine K H' _ lsc h1 (mx_Rel.upd (h' := (h.1, h.2.1, mx_ups h.2.2.1 a k (some x), h.2.2.2)) h2 g1 rfl (fun _ _ => rfl) (fun _ _ => rfl) (fun b hb => mx_ups_ne _ hb _ _) ?_ e5) h3 (h4.put e5 e6 ((mx_ws_D G h).2 a _ he))
      have hP1 := h2.1.set (mx_ws_D G h) he (e := .inr (c, ((List.range N).map (mx_fv G h a c)).set k (.ref (mx_ad G x)))) ⟨_, hC.1, t_OB.to (V := updV (vp_V ((List.range N).map (mx_fv G h a c))) k (.ref (mx_ad G x))) ⟨_, e4, q2, q3, t_set q4 hap hk _⟩ (fun j _ => vp_updV_set (by simp; exact hk) _ j)⟩ e6
      rw [mx_en_obj g2 hC.2.1, hN, ← mx_ad_lo h2 g1, ← mx_fv_set (h := h) (k := k) (v := .ref (mx_ad G x)) (by simp [mx_fv, hft, mx_ups, va_rf]) (fun j hj => by simp [mx_fv, mx_ups, hj])]
      exact hP1
    · cases hr
  · cases hr
theorem mx_en_i {G : mx_G} {h : mx_H} {a : Nat} (hc : (mx_lay a).1 = 100) : mx_en G h a = .inl (G.2.2.2.1.1, (mx_lay a).2, .inl (h.1 a)) := by
  unfold mx_en; rw [if_pos hc]
theorem mx_en_l {G : mx_G} {h : mx_H} {a : Nat} (hc : (mx_lay a).1 = 101) : mx_en G h a = .inl (G.2.2.2.1.2.1, (mx_lay a).2, .inr (.inl (h.2.1 a))) := by
  unfold mx_en; rw [if_neg (by omega), if_pos hc]
theorem mx_en_q {G : mx_G} {h : mx_H} {a : Nat} (hc : (mx_lay a).1 = 102) : mx_en G h a = .inl (G.2.2.2.1.2.2, (mx_lay a).2, .inr (.inr (.inr (.inr (fun j => (h.2.2.1 a j).map (mx_ad G)))))) := by
  unfold mx_en; rw [if_neg (by omega), if_neg (by omega), if_pos hc]
/-- the static arrays of the layout -/
theorem mx_lay_st {a t : Nat} (ht : t = 103 ∨ t = 104) (h : (mx_lay a).1 = t) : ∃ j, j < 5 ∧ a = 1000 + j ∧ (t = 103 → j ≠ 1 ∧ j ≠ 2) ∧ (t = 104 → j = 1 ∨ j = 2) := by
  unfold mx_lay at h
  rw [List.getD_eq_getElem?_getD] at h
  by_cases hl : a < mx_layL.length
  · have := mx_layL_ok _ (List.getElem_mem hl)
    rw [List.getElem?_eq_getElem hl] at h
    simp only [Option.getD_some] at h
    rcases ht with rfl | rfl <;> omega
  · rw [List.getElem?_eq_none (by omega)] at h
    simp only [Option.getD_none] at h
    repeat' split at h
    all_goals simp only at h
    · exact ⟨0, by omega, by omega, by omega, by omega⟩
    · exact ⟨1, by omega, by omega, by omega, by omega⟩
    · exact ⟨2, by omega, by omega, by omega, by omega⟩
    · exact ⟨3, by omega, by omega, by omega, by omega⟩
    · exact ⟨4, by omega, by omega, by omega, by omega⟩
    · rcases ht with rfl | rfl <;> omega
theorem mx_ad_st {G : mx_G} (j : Nat) : mx_ad G (1000 + j) = G.2.1 j := by
  unfold mx_ad
  rw [if_neg (by omega), Nat.add_sub_cancel_left]
theorem mx_len_st {G : mx_G} {h : mx_H} {H : Heap} (h2 : mx_Rel G h H) (j : Nat) : mx_alen h (1000 + j) = mx_sln G j := by
  unfold mx_alen mx_sln
  by_cases hj : j = 4
  · subst hj
    rw [if_pos rfl, if_pos rfl, h2.2.2.2 1005 0 (by omega)]
  · rw [if_neg (by omega), if_neg hj]
theorem mx_len_lo {h : mx_H} {a : Nat} (ha : a < 1000) : mx_alen h a = (mx_lay a).2 := by
  unfold mx_alen
  rw [if_neg (by omega)]
theorem sm_iald (hdg : decode cc pc = .ok (.iaload, 1)) (hn : pc + 1 = n) : mx_Sim tab own cc nL rt nm pc (.inl (mf_iald n)) := by
  refine mx_Sim.fn fun p l e R s m args below meth c0 Q G n0 hX hf1 hl1 ls st h r hr K => ?_
  unfold mf_iald at hr
  split at hr
  · next i a r0 =>
    split at hr
    · next hg =>
      cases hr; subst hn
      intro H locs lsc h1 h2 h3 h4
      simp only [mx_okr, Bool.and_eq_true, Bool.or_eq_true, decide_eq_true_eq] at hg
      obtain ⟨g1, g2⟩ := hg
      rcases g1 with g1 | g1
      · have he := mx_ws_at (G := G) g1.1
        rw [mx_en_i g1.2, ← mx_ad_lo h2 g1.1] at he
        rw [mx_len_lo (by have := h2.2.2.1; omega)] at g2
        exact va_iald hX.1.1 hX.1.2.1 hX.2.1.2.1 h2.1 a 0 he rfl (mx_inb_of g2) hdg (K H locs lsc h1 h2 h3 h4)
      · obtain ⟨j, hj, rfl, hj3, -⟩ := mx_lay_st (Or.inl rfl) g1
        have hT := hX.2.1.2.2.2.2.2 j hj
        rw [mx_len_st h2] at g2
        have hs : mx_sty j = .int := by unfold mx_sty; rw [if_neg]; have := hj3 rfl; omega
        rw [hs] at hT
        show W p l e R s m args below meth c0 H locs _ _ Q (F0 m pc lsc (.int i :: .ref (mx_ad G (1000 + j)) :: _))
        rw [mx_ad_st]
        refine va_ti hX.1.1 hX.1.2.1 hT h4 (mx_inb_of g2) ?_ hdg (K H locs lsc h1 h2 h3 h4)
        show Value.int _ = .int _
        rw [h2.2.2.2 (1000 + j) _ (by omega), Nat.add_sub_cancel_left]
    · cases hr
  · cases hr
theorem sm_cald (hdg : decode cc pc = .ok (.caload, 1)) (hn : pc + 1 = n) : mx_Sim tab own cc nL rt nm pc (.inl (mf_cald n)) := by
  refine mx_Sim.fn fun p l e R s m args below meth c0 Q G n0 hX hf1 hl1 ls st h r hr K => ?_
  unfold mf_cald at hr
  split at hr
  · next i a r0 =>
    split at hr
    · next hg =>
      cases hr; subst hn
      intro H locs lsc h1 h2 h3 h4
      simp only [Bool.and_eq_true, decide_eq_true_eq] at hg
      obtain ⟨g1, g2⟩ := hg
      obtain ⟨j, hj, rfl, -, hj4⟩ := mx_lay_st (Or.inr rfl) g1
      have hT := hX.2.1.2.2.2.2.2 j hj
      have hj4 := hj4 rfl
      have hs : mx_sty j = .char := by unfold mx_sty; rw [if_pos hj4]
      have hl : mx_sln G j = (mx_lay (1000 + j)).2 := by unfold mx_sln; rw [if_neg (by omega)]
      rw [hs, hl] at hT
      show W p l e R s m args below meth c0 H locs _ _ Q (F0 m pc lsc (.int i :: .ref (mx_ad G (1000 + j)) :: _))
      rw [mx_ad_st]
      refine va_tc hX.1.1 hX.1.2.1 hT h4 (mx_inb_of g2) ?_ hdg (K H locs lsc h1 h2 h3 h4)
      show Value.int _ = .int _
      rw [h2.2.2.2 (1000 + j) _ (by omega), Nat.add_sub_cancel_left]
    · cases hr
  · cases hr
theorem sm_lald (hdg : decode cc pc = .ok (.laload, 1)) (hn : pc + 1 = n) : mx_Sim tab own cc nL rt nm pc (.inl (mf_lald n)) := by
  refine mx_Sim.fn fun p l e R s m args below meth c0 Q G n0 hX hf1 hl1 ls st h r hr K => ?_
  unfold mf_lald at hr
  split at hr
  · next i a r0 =>
    split at hr
    · next hg =>
      cases hr; subst hn
      intro H locs lsc h1 h2 h3 h4
      obtain ⟨g1, g2, g3⟩ := mx_oka_of hg
      have he := mx_ws_at (G := G) g1
      rw [mx_en_l g2, ← mx_ad_lo h2 g1] at he
      exact va_lald hX.1.1 hX.1.2.1 hX.2.1.2.1 h2.1 a 1 he rfl g3 hdg (K H locs lsc h1 h2 h3 h4)
    · cases hr
  · cases hr
theorem sm_aald (hdg : decode cc pc = .ok (.aaload, 1)) (hn : pc + 1 = n) : mx_Sim tab own cc nL rt nm pc (.inl (mf_aald n)) := by
  refine mx_Sim.fn fun p l e R s m args below meth c0 Q G n0 hX hf1 hl1 ls st h r hr K => ?_
  unfold mf_aald at hr
  split at hr
  · next i a r0 =>
    split at hr
    · next hg =>
      cases hr; subst hn
      intro H locs lsc h1 h2 h3 h4
      obtain ⟨g1, g2, g3⟩ := mx_oka_of hg
      have he := mx_ws_at (G := G) g1
      rw [mx_en_q g2, ← mx_ad_lo h2 g1] at he
      have K1 := K H locs lsc h1 h2 h3 h4
      dsimp only at K1
      rw [List.map_cons, mx_cv_rf] at K1
      exact va_aldq hX.1.1 hX.1.2.1 hX.2.1.2.1 h2.1 a 2 he rfl g3 hdg K1
    · cases hr
  · cases hr
theorem sm_iast (hdg : decode cc pc = .ok (.iastore, 1)) (hn : pc + 1 = n) : mx_Sim tab own cc nL rt nm pc (.inl (mf_iast n)) := by
  refine mx_Sim.fn fun p l e R s m args below meth c0 Q G n0 hX hf1 hl1 ls st h r hr K => ?_
  unfold mf_iast at hr
  split at hr
  · next x i a r0 =>
    split at hr
    · next hg =>
      cases hr; subst hn
      intro H locs lsc h1 h2 h3 h4
      obtain ⟨g1, g2, g3⟩ := mx_oka_of hg
      have he := mx_ws_at (G := G) g1
      rw [mx_en_i g2, ← mx_ad_lo h2 g1] at he
      refine W.iast hX.1.1 hX.1.2.1 (h2.1 a _ he) ((hX.2.1.2.1.2 0 _ rfl).1 _ (fun j => .int (h.1 a j))) (fun q => by cases q) (by show ¬ (i < 0 ∨ (arrV _ _ _).slots.size ≤ _); rw [arrV_size]; exact g3) rfl rfl hdg fun H1 e4 e5 e6 => ?_
      refine K H1 _ lsc h1 (mx_Rel.upd (h' := (mx_ups h.1 a i.toNatClampNeg x, h.2.1, h.2.2.1, h.2.2.2)) h2 g1 rfl (fun b hb => mx_ups_ne _ hb _ _) (fun _ _ => rfl) (fun _ _ => rfl) ?_ e5) h3 (h4.put e5 e6 ((mx_ws_D G h).2 a _ he))
      rw [mx_en_i g2, ← mx_ad_lo h2 g1]
      refine h2.1.set (mx_ws_D G h) he ?_ e6
      show H1[_]? = some (vp_cell _ _)
      rw [e4]
      rw [vp_cell_i, vp_cell_i, arrV_store]
      congr 2
      funext q
      by_cases hq : q = i.toNatClampNeg <;> simp [updV, mx_ups, hq]
    · cases hr
  · cases hr
theorem sm_last (hdg : decode cc pc = .ok (.lastore, 1)) (hn : pc + 1 = n) : mx_Sim tab own cc nL rt nm pc (.inl (mf_last n)) := by
  refine mx_Sim.fn fun p l e R s m args below meth c0 Q G n0 hX hf1 hl1 ls st h r hr K => ?_
  unfold mf_last at hr
  split at hr
  · next x i a r0 =>
    split at hr
    · next hg =>
      cases hr; subst hn
      intro H locs lsc h1 h2 h3 h4
      obtain ⟨g1, g2, g3⟩ := mx_oka_of hg
      have he := mx_ws_at (G := G) g1
      rw [mx_en_l g2, ← mx_ad_lo h2 g1] at he
      refine W.last hX.1.1 hX.1.2.1 (h2.1 a _ he) ((hX.2.1.2.1.2 1 _ rfl).1 _ (fun j => .long (h.2.1 a j))) (fun q => by cases q) (by show ¬ (i < 0 ∨ (arrV _ _ _).slots.size ≤ _); rw [arrV_size]; exact g3) rfl rfl hdg fun H1 e4 e5 e6 => ?_
      refine K H1 _ lsc h1 (mx_Rel.upd (h' := (h.1, mx_ups h.2.1 a i.toNatClampNeg x, h.2.2.1, h.2.2.2)) h2 g1 rfl (fun _ _ => rfl) (fun b hb => mx_ups_ne _ hb _ _) (fun _ _ => rfl) ?_ e5) h3 (h4.put e5 e6 ((mx_ws_D G h).2 a _ he))
      rw [mx_en_l g2, ← mx_ad_lo h2 g1]
      refine h2.1.set (mx_ws_D G h) he ?_ e6
      show H1[_]? = some (vp_cell _ _)
      rw [e4]
      rw [vp_cell_l, vp_cell_l, arrV_store]
      congr 2
      funext q
      by_cases hq : q = i.toNatClampNeg <;> simp [updV, mx_ups, hq]
    · cases hr
  · cases hr
theorem sm_aast {T : u_T} {N : Nat} {ty : Nat → FieldType} (hC : mx_Cls 6 RX6 T N ty) (hdg : decode cc pc = .ok (.aastore, 1)) (hn : pc + 1 = n) : mx_Sim tab own cc nL rt nm pc (.inl (mf_aast n 6)) := by
  refine mx_Sim.fn fun p l e R s m args below meth c0 Q G n0 hX hf1 hl1 ls st h r hr K => ?_
  unfold mf_aast at hr
  split at hr
  · next x i a r0 =>
    split at hr
    · next hg =>
      cases hr; subst hn
      intro H locs lsc h1 h2 h3 h4
      obtain ⟨g1, g2, g3⟩ := mx_oka_of (Bool.and_eq_true_iff.mp hg).1
      obtain ⟨x1, x2⟩ := mx_okc_of (Bool.and_eq_true_iff.mp hg).2
      have he := mx_ws_at (G := G) g1
      rw [mx_en_q g2, ← mx_ad_lo h2 g1] at he
      have hx := mx_ws_at (G := G) x1
      rw [mx_en_obj x2 (by omega), ← mx_ad_lo h2 x1] at hx
      obtain ⟨r', hr', cellV, k1, k2, k3, -⟩ := h2.1 x _ hx
      have hcls := (hX.2.1.2.1.1 6 _ hC.1).2
      obtain ⟨kA, comp, y1, y2, y3, -⟩ := (hX.2.1.2.1.2 2 _ rfl).2
      have hcomp : comp = G.2.2.1.1 6 := Option.some.inj (y3.symm.trans hcls.1)
      subst hcomp
      obtain ⟨kC, hkC, -⟩ := hcls.2
      refine W.aast hX.1.1 hX.1.2.1 (h2.1 a _ he) (fun q h => by cases h) (fun h => by cases h) y1 y2 rfl hkC ⟨fun q => g3 (Or.inl q), by show _ < (arrV _ _ _).slots.size; rw [arrV_size]; exact Nat.not_le.mp fun q => g3 (Or.inr q)⟩ k1 (fun q h => by rw [k3] at h; cases h) (by rw [k2]; exact hkC) (by rw [k2]; exact va_assign hcls) rfl rfl hdg fun H1 e4 e5 e6 => ?_
      refine K H1 _ lsc h1 (mx_Rel.upd (h' := (h.1, h.2.1, mx_ups h.2.2.1 a i.toNatClampNeg (some x), h.2.2.2)) h2 g1 rfl (fun _ _ => rfl) (fun _ _ => rfl) (fun b hb => mx_ups_ne _ hb _ _) ?_ e5) h3 (h4.put e5 e6 ((mx_ws_D G h).2 a _ he))
      rw [mx_en_q g2, ← mx_ad_lo h2 g1]
      refine h2.1.set (mx_ws_D G h) he ?_ e6
      show H1[_]? = some (vp_cell _ _)
      rw [e4]
      rw [vp_cell_q, vp_cell_q, arrV_store]
      congr 2
      funext q
      by_cases hq : q = i.toNatClampNeg <;> simp [updV, mx_ups, hq, va_rf]
    · cases hr
  · cases hr
theorem sm_alen (hdg : decode cc pc = .ok (.arraylength, 1)) (hn : pc + 1 = n) : mx_Sim tab own cc nL rt nm pc (.inl (mf_alen n)) := by
  refine mx_Sim.fn fun p l e R s m args below meth c0 Q G n0 hX hf1 hl1 ls st h r hr K => ?_
  unfold mf_alen at hr
  split at hr
  · next a r0 =>
    split at hr
    · next hg =>
      cases hr; subst hn
      intro H locs lsc h1 h2 h3 h4
      simp only [Bool.and_eq_true, Bool.or_eq_true, decide_eq_true_eq] at hg
      have K1 := K H locs lsc h1 h2 h3 h4
      dsimp only at K1
      rw [List.map_cons] at K1
      have hst : ∀ t, (t = 103 ∨ t = 104) → (mx_lay a).1 = t → W p l e R s m args below meth c0 H locs (h.2.2.2 - n0) (mx_sl h.2.2.2 - mx_sl n0) Q (F0 m pc lsc (List.map (mx_cv G) (.ref a :: r0))) := by
        intro t ht hl
        obtain ⟨j, hj, rfl, -, -⟩ := mx_lay_st ht hl
        have hT := hX.2.1.2.2.2.2.2 j hj
        show W p l e R s m args below meth c0 H locs _ _ Q (F0 m pc lsc (.ref (mx_ad G (1000 + j)) :: _))
        rw [mx_ad_st]
        rw [mx_len_st h2] at K1
        exact va_tlen hX.1.1 hX.1.2.1 hT h4 rfl hdg K1
      rcases hg with (hg | hg) | hg
      · have ha : @LT.lt Nat _ a h.2.2.2 := hg.1.1
        rw [mx_len_lo (by have := h2.2.2.1; omega)] at K1
        have he := mx_ws_at (G := G) ha
        rw [← mx_ad_lo h2 ha] at he
        rcases (show (mx_lay a).1 = 100 ∨ (mx_lay a).1 = 101 ∨ (mx_lay a).1 = 102 by omega) with q | q | q
        · rw [mx_en_i q] at he
          exact va_alen hX.1.1 hX.1.2.1 hX.2.1.2.1 h2.1 a 0 he rfl rfl hdg K1
        · rw [mx_en_l q] at he
          exact va_alen hX.1.1 hX.1.2.1 hX.2.1.2.1 h2.1 a 1 he rfl rfl hdg K1
        · rw [mx_en_q q] at he
          exact va_alen hX.1.1 hX.1.2.1 hX.2.1.2.1 h2.1 a 2 he rfl rfl hdg K1
      · exact hst 103 (Or.inl rfl) hg
      · exact hst 104 (Or.inr rfl) hg
    · cases hr
  · cases hr
end MXF
