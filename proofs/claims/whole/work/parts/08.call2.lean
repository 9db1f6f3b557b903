section MXD
variable {tab : Nat → mx_M} {own : String} {cc : ByteArray} {nL : Nat} {rt : Option FieldType} {nm : String} {pc n : Nat}
/-- behind a call -/
theorem mx_after {p : Program} {l : Launch} {e : Env} {R : Room} {s : State} {m : MethodId} {args : Array Value} {below : List Frame} {meth : Method} {c : Code} {Q : State → Prop} {G : mx_G} {n0 : Nat} {H : Heap} {locs : List Loc} {lsc : Array Slot} {st0 r : List Value} {h h1 : mx_H} {ls : mx_L} {v : Option Value}
    (hr : va_Run p l e R s m args below meth c H locs (h.2.2.2 - n0) (mx_sl h.2.2.2 - mx_sl n0) (h1.2.2.2 - h.2.2.2) (mx_sl h1.2.2.2 - mx_sl h.2.2.2) (F0 m pc lsc st0) (r.map (mx_cv G)) (fun st o t => o = .returned (v.map (mx_cv G)) ∧ mx_Rel G h1 t.heap ∧ va_F (mx_A G) st t) (mx_A G))
    (hn0 : n0 ≤ h.2.2.2) (hup : h.2.2.2 ≤ h1.2.2.2) (h3 : mx_LR G c.maxLocals ls lsc) (hS : va_S (mx_A G) s.heap H locs) (K : mx_W p l e R s m args below meth c Q G n0 (pc + 3) ls (v.toList ++ r) h1) :
    W p l e R s m args below meth c H locs (h.2.2.2 - n0) (mx_sl h.2.2.2 - mx_sl n0) Q (F0 m pc lsc st0) := by
  intro T hT X
  obtain ⟨w, st₀, t, T', L, e0, X', hL, e1, e2, ⟨e3, e4, hz, hk⟩, st⟩ := hr T hT X
  cases e3
  rw [e0] at hz hk
  have hs1 := mx_sl_le hn0
  have hs2 := mx_sl_le hup
  have K2 := K T'.heap (locs ++ L) lsc (Nat.le_trans hn0 hup) (by rw [e1]; exact e4) h3 ⟨Nat.le_trans hS.1 (by rw [e1]; exact hz), fun q q1 q2 => by rw [e1, hk q (Nat.lt_of_lt_of_le q1 hS.1) q2]; exact hS.2.1 q q1 q2, fun q hq => by
      rcases List.mem_append.mp hq with q1 | q1
      · exact hS.2.2 q q1
      · exact hL q q1⟩
  rw [show h1.2.2.2 - n0 = h.2.2.2 - n0 + (h1.2.2.2 - h.2.2.2) by omega, show mx_sl h1.2.2.2 - mx_sl n0 = mx_sl h.2.2.2 - mx_sl n0 + (mx_sl h1.2.2.2 - mx_sl h.2.2.2) by omega] at K2
  rw [List.map_append] at K2
  obtain ⟨t2, a1, b1⟩ := K2 T' rfl X'
  refine ⟨t2, st t2 ?_, b1⟩
  rw [show (v.map (mx_cv G)).toList = v.toList.map (mx_cv G) by cases v <;> rfl]
  exact a1
/-- what a callee is given -/
theorem mx_given {s U : State} {H : Heap} {locs : List Loc} {G : mx_G} {h : mx_H} (hE : mx_Env G s) (h2 : mx_Rel G h H) (hS : va_S (mx_A G) s.heap H locs) (hU : U.heap = H) (hW : s.WarmedH U.vm) : mx_Rel G h U.heap ∧ mx_Env G U :=
  ⟨by rw [hU]; exact h2, hE.warm hW (by rw [hU]; exact Nat.le_trans hE.1 hS.1) (fun q q1 q2 => by rw [hU]; exact hS.2.1 q q1 q2)⟩
theorem mx_blind {G : mx_G} {h : mx_H} {a : List Value} : FrameBlind (va_Pc a (fun U => mx_Rel G h U.heap ∧ mx_Env G U)) := fun _ _ _ _ q => ⟨q.1, q.2.1, q.2.2.call⟩
theorem mx_stack {st : mx_S} {k : Nat} {G : mx_G} {v : Value} {As : List Value} (h : (st.take k).reverse = v :: As) : st.map (mx_cv G) = (As.map (mx_cv G)).reverse ++ mx_cv G v :: (st.drop k).map (mx_cv G) := by
  conv => lhs; rw [← List.take_append_drop k st]
  rw [show st.take k = As.reverse ++ [v] by rw [← List.reverse_inj, h]; simp]
  simp
theorem mx_room {G : mx_G} {r : List Value} (h : r.length ≤ 4) : ((r.map (mx_cv G)).map fun v => v.category).sum ≤ 8 := by
  have key : ∀ r : List Value, (r.map fun v => v.category).sum ≤ 2 * r.length := by
    intro r
    induction r with
    | nil => simp
    | cons a r ih =>
      have : a.category ≤ 2 := by cases a <;> simp [Value.category]
      simp only [List.map_cons, List.sum_cons, List.length_cons]
      omega
  have := key (r.map (mx_cv G))
  simp only [List.length_map] at this
  omega
theorem mx_room2 {G : mx_G} {r : List Value} (h : r.length ≤ 4 ∨ (r.map fun v => v.category).sum ≤ 8) : ((r.map (mx_cv G)).map fun v => v.category).sum ≤ 8 := by
  rcases h with h | h
  · exact mx_room h
  · have e : (r.map (mx_cv G)).map (fun v => v.category) = r.map fun v => v.category := by
      rw [List.map_map]
      exact List.map_congr_left fun v _ => mx_cv_cat G v
    rw [e]
    exact h
theorem sm_invV {g k c N ix mL : Nat} {y : MethodName} {b : ByteArray} {ret : Option FieldType} {cl : List (Nat × mx_N)} {C : String} {T : u_T} {ty : Nat → FieldType} (hC : mx_Cls c C T N ty) (htab : tab g = (y, b, mL, ret, some c, cl)) (hcl : y.cls = C) (hmL : mL ≤ 20)
    (hd : y.cls ≠ "java/lang/invoke/MethodHandle" ∧ y.cls ≠ "java/lang/invoke/VarHandle" ∧ (parseMethodDescriptor y.desc).map (fun d => d.parameters.length) = some k)
    (w1 : Cond.methodLink own ix y ∈ mx_TT) (w2 : Cond.instanceMethod y ∈ mx_TT) (w3 : Cond.selects C y y ∈ mx_TT) (w4 : Cond.initialized C ∈ mx_TT) (w5 : Cond.code y b mL ret ∈ mx_TT)
    (hdg : decode cc pc = .ok (.invokevirtual ix, 3)) (hn : pc + 3 = n) : mx_Sim tab own cc nL rt nm pc (.inr (.inl (n, g, k + 1))) := by
  intro p l e R s m args below meth c0 Q G n0 N1 d CC hX hCk hf hl hc hs K P hK hP ls st h hsem
  obtain ⟨hlen, hrest, v, h1, hcall, hk⟩ := hsem
  subst hn
  obtain ⟨K1, hup1⟩ := hK _ _ _ _ hk
  obtain ⟨hrcv, hup, hM⟩ := hCk _ _ _ _ _ hcall
  unfold mx_Met at hM
  rw [htab] at hM hrcv
  dsimp only at hM hrcv K1 hlen hrest
  intro H locs lsc a1 a2 a3 a4
  generalize hav : (st.take (k + 1)).reverse = av at hM hrcv
  have hal : av.length = k + 1 := by rw [← hav]; simp; omega
  unfold mx_rcv at hrcv
  split at hrcv
  · next hq => cases hq
  · next c' hq =>
    cases hq
    split at hrcv
    · next r0 As =>
      obtain ⟨g1, g2⟩ := mx_okc_of hrcv
      have he := mx_ws_at (G := G) g1
      rw [mx_en_obj g2 hC.2.1, ← mx_ad_lo a2 g1] at he
      have hs1 := mx_sl_le a1
      have hs2 := mx_sl_le hup
      have hs3 := mx_sl_le hup1
      refine mx_after (va_runV (As := As.map (mx_cv G)) (rest := (st.drop (k + 1)).map (mx_cv G)) ⟨hX.1.1, hX.1.2.1, hX.1.2.2.1, hX.1.2.2.2.1, hX.1.2.2.2.2⟩ hM (cwV k hX.1.2.2.2.2 (mx_goodIn (ws := wsV own ix C y (.code y b mL ret :: mx_TT)) (fun w hw => ?_)) rfl rfl rfl ⟨hcl, hd⟩ ⟨hf, by show 8 + (mL + 11) + 40 * d ≤ R.locals; omega⟩) ⟨mx_blind, va_recv hX.2.1.2.1 a2.1 hC.1 he, fun U hU hW => ⟨rfl, mx_given hX.2.1 a2 a4 hU hW⟩⟩ rfl (by simp at hal ⊢; omega) (a3.2.1.trans hX.1.2.2.1) (mx_stack hav) (lv_room (mx_room2 hrest)) hdg ⟨by omega, by omega⟩) a1 hup a3 a4 K1
      simp only [wsV, List.cons_append, List.nil_append, List.mem_cons] at hw
      rcases hw with rfl | rfl | rfl | rfl | rfl | hw
      · exact w1
      · exact w2
      · exact w3
      · exact w4
      · exact w5
      · exact hw
    · exact hrcv.elim
theorem sm_invS {g k ix mL : Nat} {y : MethodName} {b : ByteArray} {ret : Option FieldType} {o : Option Nat} {cl : List (Nat × mx_N)} (htab : tab g = (y, b, mL, ret, o, cl)) (hmL : mL ≤ 20)
    (hd : y.cls ≠ "java/lang/invoke/MethodHandle" ∧ y.cls ≠ "java/lang/invoke/VarHandle" ∧ (parseMethodDescriptor y.desc).map (fun d => d.parameters.length) = some k)
    (w1 : Cond.methodLink own ix y ∈ mx_TT) (w2 : Cond.static y ∈ mx_TT) (w4 : Cond.initialized y.cls ∈ mx_TT) (w5 : Cond.code y b mL ret ∈ mx_TT)
    (hdg : decode cc pc = .ok (.invokestatic ix, 3)) (hn : pc + 3 = n) : mx_Sim tab own cc nL rt nm pc (.inr (.inl (n, g, k))) := by
  intro p l e R s m args below meth c0 Q G n0 N1 d CC hX hCk hf hl hc hs K P hK hP ls st h hsem
  obtain ⟨hlen, hrest, v, h1, hcall, hk⟩ := hsem
  subst hn
  obtain ⟨K1, hup1⟩ := hK _ _ _ _ hk
  obtain ⟨hrcv, hup, hM⟩ := hCk _ _ _ _ _ hcall
  unfold mx_Met at hM
  rw [htab] at hM
  dsimp only at hM K1 hlen hrest
  intro H locs lsc a1 a2 a3 a4
  have hs1 := mx_sl_le a1
  have hs2 := mx_sl_le hup
  have hs3 := mx_sl_le hup1
  refine mx_after (va_runS (As := (st.take k).reverse.map (mx_cv G)) (rest := (st.drop k).map (mx_cv G)) ⟨hX.1.1, hX.1.2.1, hX.1.2.2.1, hX.1.2.2.2.1, hX.1.2.2.2.2⟩ hM (va_cwS k hX.1.2.2.2.2 (mx_goodIn (ws := va_wsS own ix y (.code y b mL ret :: mx_TT)) (fun w hw => ?_)) rfl rfl rfl hd ⟨hf, by show 8 + (mL + 11) + 40 * d ≤ R.locals; omega⟩) ⟨mx_blind, fun U hU hW => ⟨rfl, mx_given hX.2.1 a2 a4 hU hW⟩⟩ rfl (by simp; omega) (a3.2.1.trans hX.1.2.2.1) ?_ (lv_room (mx_room2 hrest)) hdg ⟨by omega, by omega⟩) a1 hup a3 a4 K1
  · simp only [va_wsS, List.cons_append, List.nil_append, List.mem_cons] at hw
    rcases hw with rfl | rfl | rfl | rfl | hw
    · exact w1
    · exact w2
    · exact w4
    · exact w5
    · exact hw
  · show st.map (mx_cv G) = _
    rw [List.map_reverse, List.reverse_reverse, ← List.map_append, List.take_append_drop]
theorem sm_invSN {g k ix mL : Nat} {y : MethodName} {b : ByteArray} {ret : Option FieldType} {o : Option Nat} {cl : List (Nat × mx_N)} (htab : tab g = (y, b, mL, ret, o, cl)) (hmL : mL ≤ 20)
    (hd : y.cls ≠ "java/lang/invoke/MethodHandle" ∧ y.cls ≠ "java/lang/invoke/VarHandle" ∧ (parseMethodDescriptor y.desc).map (fun d => d.parameters.length) = some k)
    (w1 : (own, ix, y) ∈ mx_nest) (w2 : Cond.static y ∈ mx_TT) (w4 : Cond.initialized y.cls ∈ mx_TT) (w5 : Cond.code y b mL ret ∈ mx_TT)
    (hdg : decode cc pc = .ok (.invokestatic ix, 3)) (hn : pc + 3 = n) : mx_Sim tab own cc nL rt nm pc (.inr (.inl (n, g, k))) := by
  intro p l e R s m args below meth c0 Q G n0 N1 d CC hX hCk hf hl hc hs K P hK hP ls st h hsem
  obtain ⟨hlen, hrest, v, h1, hcall, hk⟩ := hsem
  subst hn
  obtain ⟨K1, hup1⟩ := hK _ _ _ _ hk
  obtain ⟨hrcv, hup, hM⟩ := hCk _ _ _ _ _ hcall
  unfold mx_Met at hM
  rw [htab] at hM
  dsimp only at hM K1 hlen hrest
  intro H locs lsc a1 a2 a3 a4
  have hs1 := mx_sl_le a1
  have hs2 := mx_sl_le hup
  have hs3 := mx_sl_le hup1
  refine mx_after (va_runSN (As := (st.take k).reverse.map (mx_cv G)) (rest := (st.drop k).map (mx_cv G)) ⟨hX.1.1, hX.1.2.1, hX.1.2.2.1, hX.1.2.2.2.1, hX.1.2.2.2.2⟩ hM ⟨va_cnB k hX.1.2.2.2.2 (mx_goodIn (ws := .code y b mL ret :: mx_TT) (fun w hw => ?_)) rfl rfl rfl (hX.2.1.2.2.1 _ w1) (hX.1.2.2.2.2 _ w4) hd ⟨hf, by show 8 + (mL + 11) + 40 * d ≤ R.locals; omega⟩, hX.1.2.2.2.2 _ w2, trivial⟩ ⟨mx_blind, fun U hU hW => ⟨rfl, mx_given hX.2.1 a2 a4 hU hW⟩⟩ rfl (by simp; omega) (a3.2.1.trans hX.1.2.2.1) ?_ (lv_room (mx_room2 hrest)) hdg ⟨by omega, by omega⟩) a1 hup a3 a4 K1
  · rcases List.mem_cons.mp hw with rfl | hw
    · exact w5
    · exact hw
  · show st.map (mx_cv G) = _
    rw [List.map_reverse, List.reverse_reverse, ← List.map_append, List.take_append_drop]
theorem sm_invI {g k ix mL : Nat} {y : MethodName} {b : ByteArray} {o : Option Nat} {cl : List (Nat × mx_N)} (htab : tab g = (y, b, mL, none, o, cl)) (hmL : mL ≤ 20) (hy1 : y.name = "<init>")
    (hd : y.cls ≠ "java/lang/invoke/MethodHandle" ∧ y.cls ≠ "java/lang/invoke/VarHandle" ∧ (parseMethodDescriptor y.desc).map (fun d => d.parameters.length) = some k)
    (w1 : Cond.methodLink own ix y ∈ mx_TT) (w2 : Cond.instanceMethod y ∈ mx_TT) (w4 : Cond.initialized y.cls ∈ mx_TT) (w5 : Cond.code y b mL none ∈ mx_TT)
    (hro : ∃ c, o = some c)
    (hdg : decode cc pc = .ok (.invokespecial ix, 3)) (hn : pc + 3 = n) : mx_Sim tab own cc nL rt nm pc (.inr (.inl (n, g, k + 1))) := by
  intro p l e R s m args below meth c0 Q G n0 N1 d CC hX hCk hf hl hc hs K P hK hP ls st h hsem
  obtain ⟨hlen, hrest, v, h1, hcall, hk⟩ := hsem
  subst hn
  obtain ⟨c', rfl⟩ := hro
  obtain ⟨K1, hup1⟩ := hK _ _ _ _ hk
  obtain ⟨hrcv, hup, hM⟩ := hCk _ _ _ _ _ hcall
  unfold mx_Met at hM
  rw [htab] at hM hrcv
  dsimp only at hM K1 hlen hrest hrcv
  intro H locs lsc a1 a2 a3 a4
  generalize hav : (st.take (k + 1)).reverse = av at hM hrcv
  have hal : av.length = k + 1 := by rw [← hav]; simp; omega
  unfold mx_rcv at hrcv
  split at hrcv
  · next hq => cases hq
  · split at hrcv
    · next r0 As =>
      have hs1 := mx_sl_le a1
      have hs2 := mx_sl_le hup
      have hs3 := mx_sl_le hup1
      refine mx_after (va_runI (b := mx_ad G r0) (As := As.map (mx_cv G)) (rest := (st.drop (k + 1)).map (mx_cv G)) ⟨hX.1.1, hX.1.2.1, hX.1.2.2.1, hX.1.2.2.2.1, hX.1.2.2.2.2⟩ hM (cwI k hX.1.2.2.2.2 (mx_goodIn (ws := .code y b mL none :: mx_TT) (fun w hw => ?_)) rfl rfl rfl (hX.1.2.2.2.2 _ w4) (hX.1.2.2.2.2 _ w1) (hX.1.2.2.2.2 _ w2) hy1 hd ⟨hf, by show 8 + (mL + 11) + 40 * d ≤ R.locals; omega⟩) ⟨mx_blind, fun U hU hW => ⟨rfl, mx_given hX.2.1 a2 a4 hU hW⟩⟩ rfl (by simp at hal ⊢; omega) (a3.2.1.trans hX.1.2.2.1) (mx_stack hav) (lv_room (mx_room2 hrest)) hdg ⟨by omega, by omega⟩) a1 hup a3 a4 K1
      rcases List.mem_cons.mp hw with rfl | hw
      · exact w5
      · exact hw
    · exact hrcv.elim
theorem sm_invN {g k ix mL : Nat} {y : MethodName} {b : ByteArray} {o : Option Nat} {cl : List (Nat × mx_N)} (htab : tab g = (y, b, mL, none, o, cl)) (hmL : mL ≤ 20) (hy1 : y.name = "<init>")
    (hd : y.cls ≠ "java/lang/invoke/MethodHandle" ∧ y.cls ≠ "java/lang/invoke/VarHandle" ∧ (parseMethodDescriptor y.desc).map (fun d => d.parameters.length) = some k)
    (w1 : (own, ix, y) ∈ mx_nest) (w2 : Cond.instanceMethod y ∈ mx_TT) (w4 : Cond.initialized y.cls ∈ mx_TT) (w5 : Cond.code y b mL none ∈ mx_TT)
    (hro : ∃ c, o = some c)
    (hdg : decode cc pc = .ok (.invokespecial ix, 3)) (hn : pc + 3 = n) : mx_Sim tab own cc nL rt nm pc (.inr (.inl (n, g, k + 1))) := by
  intro p l e R s m args below meth c0 Q G n0 N1 d CC hX hCk hf hl hc hs K P hK hP ls st h hsem
  obtain ⟨hlen, hrest, v, h1, hcall, hk⟩ := hsem
  subst hn
  obtain ⟨c', rfl⟩ := hro
  obtain ⟨K1, hup1⟩ := hK _ _ _ _ hk
  obtain ⟨hrcv, hup, hM⟩ := hCk _ _ _ _ _ hcall
  unfold mx_Met at hM
  rw [htab] at hM hrcv
  dsimp only at hM K1 hlen hrest hrcv
  intro H locs lsc a1 a2 a3 a4
  generalize hav : (st.take (k + 1)).reverse = av at hM hrcv
  have hal : av.length = k + 1 := by rw [← hav]; simp; omega
  unfold mx_rcv at hrcv
  split at hrcv
  · next hq => cases hq
  · split at hrcv
    · next r0 As =>
      have hs1 := mx_sl_le a1
      have hs2 := mx_sl_le hup
      have hs3 := mx_sl_le hup1
      refine mx_after (va_runIN (b := mx_ad G r0) (As := As.map (mx_cv G)) (rest := (st.drop (k + 1)).map (mx_cv G)) ⟨hX.1.1, hX.1.2.1, hX.1.2.2.1, hX.1.2.2.2.1, hX.1.2.2.2.2⟩ hM ⟨va_cnB k hX.1.2.2.2.2 (mx_goodIn (ws := .code y b mL none :: mx_TT) (fun w hw => ?_)) rfl rfl rfl (hX.2.1.2.2.1 _ w1) (hX.1.2.2.2.2 _ w4) hd ⟨hf, by show 8 + (mL + 11) + 40 * d ≤ R.locals; omega⟩, hy1, hX.1.2.2.2.2 _ w2⟩ ⟨mx_blind, fun U hU hW => ⟨rfl, mx_given hX.2.1 a2 a4 hU hW⟩⟩ rfl (by simp at hal ⊢; omega) (a3.2.1.trans hX.1.2.2.1) (mx_stack hav) (lv_room (mx_room2 hrest)) hdg ⟨by omega, by omega⟩) a1 hup a3 a4 K1
      rcases List.mem_cons.mp hw with rfl | hw
      · exact w5
      · exact hw
    · exact hrcv.elim
theorem sm_init {ix : Nat} (w1 : Cond.methodLink own ix Lib.objectInit ∈ mx_TT) (w2 : Cond.instanceMethod Lib.objectInit ∈ mx_TT) (w3 : Cond.code Lib.objectInit ⟨#[0xb1]⟩ 1 none ∈ mx_TT) (hdg : decode cc pc = .ok (.invokespecial ix, 3)) (hn : pc + 3 = n) : mx_Sim tab own cc nL rt nm pc (.inl (fun ls st h => if st.length ≤ 5 then mf_init n ls st h else none)) := by
  refine mx_Sim.fn fun p l e R s m args below meth c Q G n0 hX hf1 hl1 ls st h r hr K => ?_
  split at hr
  · next hlen =>
    unfold mf_init at hr
    split at hr
    · cases hr
      subst hn
      intro H locs lsc h1 h2 h3 h4
      have := mx_room (G := G) (r := _) (Nat.le_of_succ_le_succ hlen)
      exact W.objInit hX.1.1 hX.1.2.1 hX.1.2.2.2.1 (hX.1.2.2.2.2 _ w1) (hX.1.2.2.2.2 _ w2) (hX.1.2.2.2.2 _ w3) rfl h3.2.1 rfl hdg hf1 (by show 2 * 0 + _ + 12 ≤ _; omega) (K H locs lsc h1 h2 h3 h4)
    · cases hr
  · cases hr
theorem sm_max {ix : Nat} (w1 : Cond.methodLink own ix Lib.Math.max.name ∈ mx_TT) (w2 : Cond.static Lib.Math.max.name ∈ mx_TT) (w3 : Cond.initialized "java/lang/Math" ∈ mx_TT) (w4 : Cond.code Lib.Math.max.name Lib.Math.max.code 2 (some .int) ∈ mx_TT) (hdg : decode cc pc = .ok (.invokestatic ix, 3)) (hn : pc + 3 = n) : mx_Sim tab own cc nL rt nm pc (.inl (fun ls st h => if st.length ≤ 6 then mf_ibin n (fun x y => if x < y then y else x) ls st h else none)) := by
  intro p l e R s m args below meth c0 Q G n0 N1 d CC hX hCk hf hl hc hs K P hK hP ls st h hsem
  simp only [mx_sem] at hsem
  split at hsem
  · next r hr =>
    split at hr
    · next hlen =>
      unfold mf_ibin at hr
      split at hr
      · next y x r0 =>
        cases hr
        subst hn
        obtain ⟨K1, hup⟩ := hK _ _ _ _ hsem
        intro H locs lsc h1 h2 h3 h4
        have hroom := mx_room (G := G) (r := r0) (by simp at hlen; omega)
        have hup : h.2.2.2 ≤ N1 := hup
        have hs1 := mx_sl_le h1
        have hs3 := mx_sl_le hup
        exact va_mmax hX.1.1 hX.1.2.1 h3.2.1.symm hX.1.2.2.2.1 (hX.1.2.2.2.2 _ w1) (hX.1.2.2.2.2 _ w2) (hX.1.2.2.2.2 _ w3) (hX.1.2.2.2.2 _ w4) (by omega) (by omega) (by omega) (by omega) hdg (K1 H locs lsc h1 h2 h3 h4)
      · cases hr
    · cases hr
  · exact hsem.elim
theorem sm_min {ix : Nat} (w1 : Cond.methodLink own ix Lib.Math.min.name ∈ mx_TT) (w2 : Cond.static Lib.Math.min.name ∈ mx_TT) (w3 : Cond.initialized "java/lang/Math" ∈ mx_TT) (w4 : Cond.code Lib.Math.min.name Lib.Math.min.code 2 (some .int) ∈ mx_TT) (hdg : decode cc pc = .ok (.invokestatic ix, 3)) (hn : pc + 3 = n) : mx_Sim tab own cc nL rt nm pc (.inl (fun ls st h => if st.length ≤ 6 then mf_ibin n (fun x y => if y < x then y else x) ls st h else none)) := by
  intro p l e R s m args below meth c0 Q G n0 N1 d CC hX hCk hf hl hc hs K P hK hP ls st h hsem
  simp only [mx_sem] at hsem
  split at hsem
  · next r hr =>
    split at hr
    · next hlen =>
      unfold mf_ibin at hr
      split at hr
      · next y x r0 =>
        cases hr
        subst hn
        obtain ⟨K1, hup⟩ := hK _ _ _ _ hsem
        intro H locs lsc h1 h2 h3 h4
        have hroom := mx_room (G := G) (r := r0) (by simp at hlen; omega)
        have hup : h.2.2.2 ≤ N1 := hup
        have hs1 := mx_sl_le h1
        have hs3 := mx_sl_le hup
        exact va_mmin hX.1.1 hX.1.2.1 h3.2.1.symm hX.1.2.2.2.1 (hX.1.2.2.2.2 _ w1) (hX.1.2.2.2.2 _ w2) (hX.1.2.2.2.2 _ w3) (hX.1.2.2.2.2 _ w4) (by omega) (by omega) (by omega) (by omega) hdg (K1 H locs lsc h1 h2 h3 h4)
      · cases hr
    · cases hr
  · exact hsem.elim
theorem sm_retv (hrt : rt = none) (hdg : decode cc pc = .ok (.return_, 1)) : mx_Sim tab own cc nL rt nm pc (.inr (.inr (.inr 0))) := by
  intro p l e R s m args below meth c0 Q G n0 N1 d CC hX hCk hf hl hc hs K P hK hP ls st h hsem
  simp only [mx_sem] at hsem
  split at hsem <;> first | contradiction | skip
  all_goals first | exact hsem.elim | skip
  intro H locs lsc a1 a2 a3 a4
  exact hP _ _ hsem H locs lsc pc a1 a2 a4 (Or.inl ⟨rfl, hrt, hdg⟩)
theorem sm_reti (hrt : rt = some .int) (hdg : decode cc pc = .ok (.ireturn, 1)) : mx_Sim tab own cc nL rt nm pc (.inr (.inr (.inr 1))) := by
  intro p l e R s m args below meth c0 Q G n0 N1 d CC hX hCk hf hl hc hs K P hK hP ls st h hsem
  simp only [mx_sem] at hsem
  split at hsem <;> first | contradiction | skip
  all_goals first | exact hsem.elim | skip
  intro H locs lsc a1 a2 a3 a4
  exact hP _ _ hsem H locs lsc pc a1 a2 a4 (Or.inr (Or.inl ⟨_, _, rfl, hrt, rfl, hdg⟩))
theorem sm_retz (hrt : rt = some .boolean) (hdg : decode cc pc = .ok (.ireturn, 1)) : mx_Sim tab own cc nL rt nm pc (.inr (.inr (.inr 2))) := by
  intro p l e R s m args below meth c0 Q G n0 N1 d CC hX hCk hf hl hc hs K P hK hP ls st h hsem
  simp only [mx_sem] at hsem
  split at hsem <;> first | contradiction | skip
  all_goals first | exact hsem.elim | skip
  intro H locs lsc a1 a2 a3 a4
  exact hP _ _ hsem.2 H locs lsc pc a1 a2 a4 (Or.inr (Or.inl ⟨_, _, rfl, hrt, by rcases hsem.1 with rfl | rfl <;> rfl, hdg⟩))
theorem sm_retl (hrt : rt = some .long) (hdg : decode cc pc = .ok (.lreturn, 1)) : mx_Sim tab own cc nL rt nm pc (.inr (.inr (.inr 3))) := by
  intro p l e R s m args below meth c0 Q G n0 N1 d CC hX hCk hf hl hc hs K P hK hP ls st h hsem
  simp only [mx_sem] at hsem
  split at hsem <;> first | contradiction | skip
  all_goals first | exact hsem.elim | skip
  intro H locs lsc a1 a2 a3 a4
  exact hP _ _ hsem H locs lsc pc a1 a2 a4 (Or.inr (Or.inr (Or.inl ⟨_, rfl, hrt, hdg⟩)))
theorem sm_reta {C : String} (hrt : rt = some (.object C)) (hdg : decode cc pc = .ok (.areturn, 1)) : mx_Sim tab own cc nL rt nm pc (.inr (.inr (.inr 4))) := by
  intro p l e R s m args below meth c0 Q G n0 N1 d CC hX hCk hf hl hc hs K P hK hP ls st h hsem
  simp only [mx_sem] at hsem
  split at hsem <;> first | contradiction | skip
  all_goals first | exact hsem.elim | skip
  · intro H locs lsc a1 a2 a3 a4
    exact hP _ _ hsem H locs lsc pc a1 a2 a4 (Or.inr (Or.inr (Or.inr ⟨Or.inr ⟨_, rfl⟩, ⟨_, hrt⟩, hdg⟩)))
  · intro H locs lsc a1 a2 a3 a4
    exact hP _ _ hsem H locs lsc pc a1 a2 a4 (Or.inr (Or.inr (Or.inr ⟨Or.inl rfl, ⟨_, hrt⟩, hdg⟩)))
theorem mx_sw_out : ∀ {prs : List (Int32 × Nat)} {d : Nat} {x : Int32}, (∀ q ∈ prs, q.1.toInt ≠ x.toInt) → mx_sw prs d x = d
  | [], _, _, _ => rfl
  | (a, t) :: r, d, x, h => by
    have h1 := h (a, t) List.mem_cons_self
    unfold mx_sw
    rw [if_neg (fun q => h1 (by rw [q]))]
    exact mx_sw_out (fun q hq => h q (List.mem_cons_of_mem _ hq))
theorem mx_sw_in : ∀ {prs : List (Int32 × Nat)} {offs : List Int} {lo p0 : Int} {k j d : Nat} {x : Int32} {o : Int}, prs.map (fun q => (q.1.toInt, (q.2 : Int) - p0)) = (offs.zipIdx k).map (fun q => (lo + (q.2 : Int), q.1)) → offs[j]? = some o → x.toInt = lo + ((k + j : Nat) : Int) → ((mx_sw prs d x : Nat) : Int) = p0 + o
  | prs, [], _, _, _, _, _, _, _, _, h, _ => by simp at h
  | [], o0 :: offs, _, _, _, _, _, _, _, hp, _, _ => by simp at hp
  | (a, t) :: r, o0 :: offs, lo, p0, k, j, d, x, o, hp, hj, hx => by
    simp only [List.map_cons, List.zipIdx_cons, List.cons.injEq, Prod.mk.injEq] at hp
    obtain ⟨⟨e1, e2⟩, e3⟩ := hp
    unfold mx_sw
    cases j with
    | zero =>
      simp only [List.getElem?_cons_zero, Option.some.injEq] at hj
      rw [if_pos (Int32.toInt_inj.mp (by rw [e1, hx]; simp)), ← hj]
      omega
    | succ j =>
      rw [List.getElem?_cons_succ] at hj
      rw [if_neg (fun q => by rw [q, e1] at hx; omega)]
      exact mx_sw_in (lo := lo) (k := k + 1) (j := j) e3 hj (by rw [hx]; omega)
theorem sm_tsw {d lo hi : Int} {offs : Array Int} {len dt : Nat} {prs : List (Int32 × Nat)} (hd : (pc : Int) + d = (dt : Int)) (hp : prs.map (fun q => (q.1.toInt, (q.2 : Int) - (pc : Int))) = (offs.toList.zipIdx 0).map (fun q => (lo + (q.2 : Int), q.1))) (hh : lo + (offs.size : Int) = hi + 1) (hdg : decode cc pc = .ok (.tableswitch d lo hi offs, len)) : mx_Sim tab own cc nL rt nm pc (.inl (mf_sw dt prs)) := by
  refine mx_Sim.fn fun p l e R s m args below meth c Q G n0 hX hf1 hl1 ls st h r hr K => ?_
  unfold mf_sw at hr
  split at hr
  · next x r0 =>
    cases hr
    intro H locs lsc h1 h2 h3 h4
    have K1 := K H locs lsc h1 h2 h3 h4
    dsimp only at K1
    by_cases hin : lo ≤ x.toInt ∧ x.toInt ≤ hi
    · have hlt : (x.toInt - lo).toNat < offs.size := by omega
      have ho : offs[(x.toInt - lo).toNat]? = some offs[(x.toInt - lo).toNat] := Array.getElem?_eq_getElem hlt
      refine lv_tableIn hX.1.1 hX.1.2.1 hdg (by omega) (by omega) ho ?_ K1
      refine (mx_sw_in (lo := lo) (k := 0) (j := (x.toInt - lo).toNat) hp (by rw [Array.getElem?_toList]; exact ho) (by omega)).symm
    · rw [mx_sw_out] at K1
      · exact lv_tableOut hX.1.1 hX.1.2.1 hdg (by omega) hd K1
      · intro q hq e0
        have hm : (q.1.toInt, (q.2 : Int) - (pc : Int)) ∈ (offs.toList.zipIdx 0).map (fun q => (lo + (q.2 : Int), q.1)) := by
          rw [← hp]; exact List.mem_map.mpr ⟨q, hq, rfl⟩
        obtain ⟨z, hz, ez⟩ := List.mem_map.mp hm
        have := List.mem_zipIdx hz
        simp only [Prod.mk.injEq] at ez
        have h5 : z.2 < offs.size := by simpa using this.2.1
        omega
  · cases hr
theorem mx_sw_lk : ∀ {prs : List (Int32 × Nat)} {ps : List (Int × Int)} {p0 df : Int} {d : Nat} {x : Int32}, p0 + df = (d : Int) → prs.map (fun q => (q.1.toInt, (q.2 : Int) - p0)) = ps → p0 + Op.lookupswitch.offset ps df x.toInt = ((mx_sw prs d x : Nat) : Int)
  | [], ps, p0, df, d, x, hd, hp => by
    subst hp
    simpa [Op.lookupswitch.offset_nil, mx_sw] using hd
  | (a, t) :: r, ps, p0, df, d, x, hd, hp => by
    subst hp
    rw [List.map_cons, Op.lookupswitch.offset_cons]
    unfold mx_sw
    by_cases hx : x = a
    · subst hx
      rw [if_pos rfl, if_pos rfl]
      simp only
      omega
    · rw [if_neg hx, if_neg (fun q => hx (Int32.toInt_inj.mp q.symm))]
      exact mx_sw_lk hd rfl
theorem sm_lsw {d : Int} {ps : Array (Int × Int)} {len dt : Nat} {prs : List (Int32 × Nat)} (hd : (pc : Int) + d = (dt : Int)) (hp : prs.map (fun q => (q.1.toInt, (q.2 : Int) - (pc : Int))) = ps.toList) (hs : (ps.toList.zip (ps.toList.drop 1)).all (fun (a, next) => a.1 < next.1) = true) (hdg : decode cc pc = .ok (.lookupswitch d ps, len)) : mx_Sim tab own cc nL rt nm pc (.inl (mf_sw dt prs)) := by
  refine mx_Sim.fn fun p l e R s m args below meth c Q G n0 hX hf1 hl1 ls st h r hr K => ?_
  unfold mf_sw at hr
  split at hr
  · next x r0 =>
    cases hr
    intro H locs lsc h1 h2 h3 h4
    exact lv_lookup hX.1.1 hX.1.2.1 hdg hs rfl (mx_sw_lk hd hp) (K H locs lsc h1 h2 h3 h4)
  · cases hr
end MXD
