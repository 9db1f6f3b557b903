section MXG
variable {tab : Nat → mx_M} {own : String} {cc : ByteArray} {nL : Nat} {rt : Option FieldType} {nm : String} {pc n : Nat}
theorem sm_copy {ix : Nat} (w1 : Cond.methodLink own ix arraycopyName ∈ mx_TT) (w2 : Cond.native arraycopyName ∈ mx_TT) (w3 : Cond.static arraycopyName ∈ mx_TT) (w4 : Cond.initialized "java/lang/System" ∈ mx_TT) (hdg : decode cc pc = .ok (.invokestatic ix, 3)) (hn : pc + 3 = n) : mx_Sim tab own cc nL rt nm pc (.inl (fun ls st h => if st.length ≤ 9 then mf_copy n ls st h else none)) := by
  refine mx_Sim.fn fun p l e R s m args below meth c Q G n0 hX hf1 hl1 ls st h r hr K => ?_
  split at hr
  · next hlen =>
    unfold mf_copy at hr
    split at hr
    · next z j b i a r0 =>
      split at hr
      · next hg =>
        cases hr; subst hn
        intro H locs lsc h1 h2 h3 h4
        simp only [Bool.and_eq_true, decide_eq_true_eq] at hg
        obtain ⟨⟨⟨⟨gt, ga1⟩, ga2⟩, gb1, gb2⟩, ⟨⟨⟨gi, gj⟩, gz⟩, gs⟩, gd⟩ := hg
        have hea := mx_ws_at (G := G) ga1
        rw [mx_en_i ga2, ← mx_ad_lo h2 ga1] at hea
        have heb := mx_ws_at (G := G) gb1
        rw [mx_en_i gb2, ← mx_ad_lo h2 gb1] at heb
        have hnw : nativeFrameWords "java/lang/System" "arraycopy" 5 ≤ 20 := by decide +kernel
        have hroom := mx_room (G := G) (r := r0) (by simp at hlen; omega)
        refine va_copyi hX.1.1 hX.1.2.1 h3.2.1.symm hX.1.2.2.2.1 (hX.1.2.2.2.2 _ w1) (hX.1.2.2.2.2 _ w2) (hX.1.2.2.2.2 _ w3) (hX.1.2.2.2.2 _ w4) hX.2.1.2.1 h2.1 (mx_ws_D G h) h4 a b 0 0 hea heb rfl rfl rfl (Int32.not_lt.mpr gi) (Int32.not_lt.mpr gj) (Int32.not_lt.mpr gz) gs gd (fun _ _ => rfl) hf1 (by omega) hdg fun H1 locs1 q1 q2 q3 => ?_
        have hb9 : @LE.le Nat _ (b + 1) h.2.2.2 := gb1
        refine K H1 locs1 lsc h1 ⟨?_, fun q => absurd q (by show ¬ h.2.2.2 < _; omega), h2.2.2.1, fun j' i' hj' => ?_⟩ h3 q3
        · have hen := mx_ws_set (G := G) (h := h) (h' := (mx_row h.1 b (va_cpy (h.1 a) (h.1 b) i.toNatClampNeg j.toNatClampNeg z.toNatClampNeg), h.2.1, h.2.2.1, h.2.2.2)) (a := b) rfl (fun b' hb' => mx_en_congr (mx_row_ne _ hb' _) rfl rfl)
          dsimp only
          rw [← hen, mx_en_i gb2, ← mx_ad_lo h2 gb1]
          have hrow : mx_row h.1 b (va_cpy (h.1 a) (h.1 b) i.toNatClampNeg j.toNatClampNeg z.toNatClampNeg) b = va_cpy (h.1 a) (h.1 b) i.toNatClampNeg j.toNatClampNeg z.toNatClampNeg := by simp [mx_row]
          dsimp only
          rw [hrow]
          exact q1
        · show mx_row h.1 b _ j' i' = _
          rw [mx_row_ne _ (by have := h2.2.2.1; intro q; omega)]
          exact h2.2.2.2 j' i' hj'
      · cases hr
    · cases hr
  · cases hr
theorem mx_lookup_mem {α : Type} : ∀ {cl : List (Nat × α)} {pc : Nat} {i : α}, cl.lookup pc = some i → (pc, i) ∈ cl
  | [], _, _, h => by simp at h
  | (k, a) :: r, pc, i, h => by
    rw [List.lookup_cons] at h
    split at h
    · next hk =>
      cases h
      have : pc = k := by simpa using hk
      subst this
      exact List.mem_cons_self
    · exact List.mem_cons_of_mem _ (mx_lookup_mem h)
/-- a method of the table whose every instruction is stepped rightly -/
def mx_MOK (tab : Nat → mx_M) (g : Nat) : Prop := plainName (tab g).1.cls = true ∧ ∀ q ∈ (tab g).2.2.2.2.2, mx_Sim tab (tab g).1.cls (tab g).2.1 (tab g).2.2.1 (tab g).2.2.2.1 (tab g).1.name q.1 q.2
theorem mx_run {p : Program} {l : Launch} {e : Env} {R : Room} {s : State} {m : MethodId} {args : Array Value} {below : List Frame} {meth : Method} {c : Code} {Q : State → Prop} {G : mx_G} {n0 N1 d : Nat} {C : mx_C} {cl : List (Nat × mx_N)}
    (hX : mx_Cx p s m args meth c G own cc nL nm) (hC : mx_Cok tab l G d C) (hCu : mx_Cup C) (hf : d + 1 ≤ R.frames) (hl : 40 * (d + 1) ≤ R.locals) (hc : N1 - n0 ≤ R.cells) (hs : mx_sl N1 - mx_sl n0 ≤ R.slots) (hcl : ∀ q ∈ cl, mx_Sim tab own cc nL rt nm q.1 q.2)
    {P : mx_P} (hP : ∀ v h, P v h → mx_E p l e R s m args below meth c Q G n0 cc rt v h ∧ h.2.2.2 ≤ N1) {pc : Nat} {ls : mx_L} {st : mx_S} {h : mx_H} (H : mx_R cl C pc ls st h P) : mx_W p l e R s m args below meth c Q G n0 pc ls st h := by
  refine (H (fun pc ls st h => mx_W p l e R s m args below meth c Q G n0 pc ls st h ∧ h.2.2.2 ≤ N1) (fun pc ls st h hst => ?_)).1
  unfold mx_stp at hst
  split at hst
  · next i hi =>
    refine ⟨hcl _ (mx_lookup_mem hi) p l e R s m args below meth c Q G n0 N1 d C hX hC hf hl hc hs _ P (fun _ _ _ _ q => q) (fun v h q => (hP v h q).1) ls st h hst, ?_⟩
    rcases mx_sem_up hCu hst with ⟨_, _, _, h', k1, k2⟩ | ⟨v, h', k1, k2⟩
    · exact Nat.le_trans k1 k2.2
    · exact Nat.le_trans k1 (hP v h' k2).2
  · exact hst.elim
theorem mx_sound {l : Launch} {G : mx_G} (hall : ∀ g, (tab g).2.2.2.2.2 = [] ∨ mx_MOK tab g) : ∀ d, mx_Cok tab l G d (mx_Cal tab d)
  | 0 => fun _ _ _ _ _ H => H.elim
  | d + 1 => fun g a h v h' H => by
    have hup := mx_Cal_up tab (d + 1) g a h v h' H
    obtain ⟨hrcv, hlen, hR⟩ := H
    refine ⟨hrcv, hup, ?_⟩
    rcases hall g with hg | ⟨hpl, hcl⟩
    · rw [hg] at hR
      exact (hR (fun _ _ _ _ => False) (fun _ _ _ _ q => by simpa [mx_stp] using q)).elim
    unfold mx_Met
    refine Met.ofW (cc := (tab g).2.1) (maxL := (tab g).2.2.1) (ret := (tab g).2.2.2.1) hpl rfl ?_
    intro p e s m args below meth c s₁ B hml hv
    obtain ⟨rfl, hRel, hEnv⟩ := hv
    have hts := atoms_spec (ws := .code (tab g).1 (tab g).2.1 (tab g).2.2.1 (tab g).2.2.2.1 :: mx_TT) B.pre
    have hlocks := B.notSynchronized
    have hX : mx_Cx p s m (a.map (mx_cv G)).toArray meth c G (tab g).1.cls (tab g).2.1 (tab g).2.2.1 (tab g).1.name := ⟨⟨B.exec, B.bytes, hml, findClass_of_methodNamed B.named, fun w hw => hts w (List.mem_cons_of_mem _ hw)⟩, hEnv, (name_of_methodNamed B.named B.method).1⟩
    have hr := B.returns
    have hx := B.exec
    have hb := B.bytes
    have K := mx_run (l := l) (R := { frames := d + 1, cells := h'.2.2.2 - h.2.2.2, slots := mx_sl h'.2.2.2 - mx_sl h.2.2.2, locals := 40 * (d + 1) }) (e := e) (below := below) (N1 := h'.2.2.2) (n0 := h.2.2.2) (Q := MQ below (fun _ st o t => o = .returned (v.map (mx_cv G)) ∧ mx_Rel G h' t.heap ∧ va_F (mx_A G) st t) (a.map (mx_cv G)).toArray s (h'.2.2.2 - h.2.2.2) (mx_sl h'.2.2.2 - mx_sl h.2.2.2) (mx_A G)) hX (mx_sound hall d) (mx_Cal_up tab d) (Nat.le_refl _) (Nat.le_refl _) (Nat.le_refl _) (Nat.le_refl _) hcl (P := fun v' h'' => v' = v ∧ h'' = h') ?_ hR
    · have K2 := K s.heap [] _ (Nat.le_refl _) hRel (by rw [hml]; exact mx_LR.entry hlen) va_S.rf
      rw [Nat.sub_self, Nat.sub_self] at K2
      rw [lg_entry_eq]
      exact K2
    · rintro v' h'' ⟨rfl, rfl⟩
      refine ⟨fun H locs lsc pc a1 a2 a4 hret => ?_, Nat.le_refl _⟩
      rcases hret with ⟨rfl, hrt, hdg⟩ | ⟨x, ty, rfl, hrt, hnr, hdg⟩ | ⟨x, rfl, hrt, hdg⟩ | ⟨hv', ⟨Cn, hrt⟩, hdg⟩
      · exact W.vret hx hb (hr.trans hrt) (fun t ht _ => ⟨rfl, by rw [ht]; exact a2, a4.F ht⟩) a4.2.2 hdg
      · exact W.zret hx hb (hr.trans hrt) hnr (fun t ht _ => ⟨rfl, by rw [ht]; exact a2, a4.F ht⟩) a4.2.2 hdg
      · exact W.lret hx hb (hr.trans hrt) (fun t ht _ => ⟨rfl, by rw [ht]; exact a2, a4.F ht⟩) a4.2.2 hdg
      · rcases hv' with rfl | ⟨r0, rfl⟩
        · exact W.aret hx hb (hr.trans hrt) (Or.inl ⟨_, rfl⟩) (Or.inl rfl) (fun t ht _ => ⟨rfl, by rw [ht]; exact a2, a4.F ht⟩) a4.2.2 hdg
        · exact W.aret hx hb (hr.trans hrt) (Or.inl ⟨_, rfl⟩) (Or.inr ⟨_, rfl⟩) (fun t ht _ => ⟨rfl, by rw [ht]; exact a2, a4.F ht⟩) a4.2.2 hdg
end MXG
