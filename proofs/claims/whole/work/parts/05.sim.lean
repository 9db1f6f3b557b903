def mx_nest : List (String × Nat × MethodName) := [("OffOnTheSecond$Show", 11, yX0_init), ("OffOnTheSecond$Show", 45, yX8_init), ("OffOnTheSecond$Show", 123, yX10_within), ("OffOnTheSecond", 9, yX7_init), ("OffOnTheSecond", 34, yX3_init), ("OffOnTheSecond", 41, yX5_init), ("OffOnTheSecond", 48, yX4_init), ("OffOnTheSecond", 55, yX2_init), ("OffOnTheSecond", 62, yX9_init), ("OffOnTheSecond", 73, yX6_init)]
def mx_stat : List (String × String × String × Nat) := [("OffOnTheSecond$Items", "KIND_ABOVE", "[I", 0), ("OffOnTheSecond$Reader", "WORTH_NAMES", "[C", 1), ("OffOnTheSecond$Reader", "LIKED_NAMES", "[C", 2), ("OffOnTheSecond$Voices", "BODIES", "[I", 3)]
/-! what a step of the small machine is in the real one -/
def mx_TT : List Cond := lw_tbl.filter goodWord
theorem mx_in_TT {w : Cond} (i : Nat) (h : lw_tbl[i]? = some w) (hg : goodWord w = true) : w ∈ mx_TT := List.mem_filter.mpr ⟨List.mem_of_getElem? h, hg⟩
theorem mx_good {w : Cond} (h : w ∈ mx_TT) : (w.onTables && w.keeps) = true ∨ ∃ ty, w = .arrayClass ty := good_of_word (List.mem_filter.mp h).2
theorem mx_goodIn {ws : List Cond} (h : ∀ w ∈ ws, w ∈ mx_TT) : GoodIn mx_TT ws := fun w hw => ⟨h w hw, mx_good (h w hw)⟩
abbrev mx_sty (j : Nat) : FieldType := if j = 1 ∨ j = 2 then .char else .int
abbrev mx_sln (G : mx_G) (j : Nat) : Nat := if j = 4 then (G.2.2.2.2 5 0).toNatClampNeg else (mx_lay (1000 + j)).2
/-- what is known of the tables and the static arrays where a method begins -/
def mx_Env (G : mx_G) (s : State) : Prop :=
  G.1 ≤ s.heap.size ∧ va_K G.2.2.1 mx_cl [(G.2.2.2.1.1, .int), (G.2.2.2.1.2.1, .long), (G.2.2.2.1.2.2, .object RX6)] s ∧
  (∀ q ∈ mx_nest, va_Nw (.methodLinkNest q.1 q.2.1 q.2.2 RX10) s) ∧ va_AO RX6 s ∧
  (∀ q ∈ mx_stat, va_Z q.1 q.2.1 q.2.2.1 (.ref (G.2.1 q.2.2.2)) (mx_A G) s s.heap) ∧
  ∀ j, j < 5 → va_T (mx_sty j) (G.2.1 j) (mx_sln G j) (fun i => .int (G.2.2.2.2 j i)) (mx_A G) s s.heap
theorem mx_Env.move {G : mx_G} {s U : State} (h : mx_Env G s) (hvm : s.vm.Alike U.vm) (hn : ∀ q ∈ mx_nest, va_Nw (.methodLinkNest q.1 q.2.1 q.2.2 RX10) U) (hz : G.1 ≤ U.heap.size) (hH : ∀ q : Nat, q < s.heap.size → ¬ mx_A G q → U.heap[q]? = s.heap[q]?) : mx_Env G U :=
  ⟨hz, va_K.moved hvm h.2.1, hn, va_AO.moved hvm h.2.2.2.1, fun q hq => (va_Z.moved hvm (h.2.2.2.2.1 q hq)).kept hH, fun j hj => (va_T.moved hvm (h.2.2.2.2.2 j hj)).kept hH⟩
theorem mx_Env.warm {G : mx_G} {s U : State} (h : mx_Env G s) (hW : s.WarmedH U.vm) (hz : G.1 ≤ U.heap.size) (hH : ∀ q : Nat, q < s.heap.size → ¬ mx_A G q → U.heap[q]? = s.heap[q]?) : mx_Env G U :=
  h.move hW.alike (fun q hq => va_Nw.warmM hW (h.2.2.1 q hq)) hz hH
theorem mx_Env.call {G : mx_G} {U : State} {g : JFrame} {mk : MethodId} {a : Array Value} (h : mx_Env G U) : mx_Env G (U.calling g mk a) :=
  h.move (U := U.calling g mk a) (Vm.Alike.refl U.vm) (fun q hq => va_Nw.same rfl (rfl : U.vm = (U.calling g mk a).vm) (h.2.2.1 q hq)) h.1 (fun _ _ _ => rfl)
/-- a call's contract -/
def mx_Met (tab : Nat → mx_M) (l : Launch) (G : mx_G) (d g : Nat) (a : List Value) (h : mx_H) (v : Option Value) (h' : mx_H) : Prop :=
  Met l (tab g).1 (.code (tab g).1 (tab g).2.1 (tab g).2.2.1 (tab g).2.2.2.1 :: mx_TT) ({ frames := d, cells := h'.2.2.2 - h.2.2.2, slots := mx_sl h'.2.2.2 - mx_sl h.2.2.2, locals := 40 * d })
    (va_Pc (a.map (mx_cv G)) (fun U => mx_Rel G h U.heap ∧ mx_Env G U))
    (fun _ st o t => o = .returned (v.map (mx_cv G)) ∧ mx_Rel G h' t.heap ∧ va_F (mx_A G) st t)
    (h'.2.2.2 - h.2.2.2) (mx_sl h'.2.2.2 - mx_sl h.2.2.2) (mx_A G)
def mx_Cok (tab : Nat → mx_M) (l : Launch) (G : mx_G) (d : Nat) (C : mx_C) : Prop := ∀ g a h v h', C g a h v h' → mx_rcv (tab g).2.2.2.2.1 a h ∧ h.2.2.2 ≤ h'.2.2.2 ∧ mx_Met tab l G d g a h v h'
/-- how a method ends -/
def mx_ret (cc : ByteArray) (rt : Option FieldType) (pc : Nat) (v : Option Value) : Prop :=
  (v = none ∧ rt = none ∧ decode cc pc = .ok (.return_, 1)) ∨
  (∃ x ty, v = some (.int x) ∧ rt = some ty ∧ narrow ty (.int x) = .int x ∧ decode cc pc = .ok (.ireturn, 1)) ∨
  (∃ x, v = some (.long x) ∧ rt = some .long ∧ decode cc pc = .ok (.lreturn, 1)) ∨
  ((v = some .null ∨ ∃ a, v = some (.ref a)) ∧ (∃ C, rt = some (.object C)) ∧ decode cc pc = .ok (.areturn, 1))
section MXS
variable {p : Program} {l : Launch} {e : Env} {R : Room} {s : State} {m : MethodId} {args : Array Value} {below : List Frame} {meth : Method} {c : Code} {Q : State → Prop} {G : mx_G} {n0 N1 : Nat}
def mx_W (p : Program) (l : Launch) (e : Env) (R : Room) (s : State) (m : MethodId) (args : Array Value) (below : List Frame) (meth : Method) (c : Code) (Q : State → Prop) (G : mx_G) (n0 : Nat) : mx_K := fun pc ls st h =>
  ∀ (H : Heap) (locs : List Loc) (lsc : Array Slot), n0 ≤ h.2.2.2 → mx_Rel G h H → mx_LR G c.maxLocals ls lsc → va_S (mx_A G) s.heap H locs → W p l e R s m args below meth c H locs (h.2.2.2 - n0) (mx_sl h.2.2.2 - mx_sl n0) Q (F0 m pc lsc (st.map (mx_cv G)))
def mx_E (p : Program) (l : Launch) (e : Env) (R : Room) (s : State) (m : MethodId) (args : Array Value) (below : List Frame) (meth : Method) (c : Code) (Q : State → Prop) (G : mx_G) (n0 : Nat) (cc : ByteArray) (rt : Option FieldType) : mx_P := fun v h =>
  ∀ (H : Heap) (locs : List Loc) (lsc : Array Slot) (pc : Nat), n0 ≤ h.2.2.2 → mx_Rel G h H → va_S (mx_A G) s.heap H locs → mx_ret cc rt pc v → W p l e R s m args below meth c H locs (h.2.2.2 - n0) (mx_sl h.2.2.2 - mx_sl n0) Q (F0 m pc lsc (v.toList.map (mx_cv G)))
/-- a method's frame: own class, code, locals, name -/
def mx_Cx (p : Program) (s : State) (m : MethodId) (args : Array Value) (meth : Method) (c : Code) (G : mx_G) (own : String) (cc : ByteArray) (nL : Nat) (nm : String) : Prop :=
  (p.tables.exec = Jvm.exec ∧ c.code = cc ∧ c.maxLocals = nL ∧ s.vm.findClass own = some m.cls ∧ ∀ w ∈ mx_TT, w.before args s = true) ∧ mx_Env G s ∧ meth.name = nm
end MXS
def mx_Sim (tab : Nat → mx_M) (own : String) (cc : ByteArray) (nL : Nat) (rt : Option FieldType) (nm : String) (pc : Nat) (i : mx_N) : Prop :=
  ∀ (p : Program) (l : Launch) (e : Env) (R : Room) (s : State) (m : MethodId) (args : Array Value) (below : List Frame) (meth : Method) (c : Code) (Q : State → Prop) (G : mx_G) (n0 N1 d : Nat) (C : mx_C),
  mx_Cx p s m args meth c G own cc nL nm → mx_Cok tab l G d C → d + 1 ≤ R.frames → 40 * (d + 1) ≤ R.locals → N1 - n0 ≤ R.cells → mx_sl N1 - mx_sl n0 ≤ R.slots →
  ∀ (K : mx_K) (P : mx_P), (∀ pc ls st h, K pc ls st h → mx_W p l e R s m args below meth c Q G n0 pc ls st h ∧ h.2.2.2 ≤ N1) → (∀ v h, P v h → mx_E p l e R s m args below meth c Q G n0 cc rt v h) →
  ∀ ls st h, mx_sem i C K P ls st h → mx_W p l e R s m args below meth c Q G n0 pc ls st h
section MXT
variable {tab : Nat → mx_M} {own : String} {cc : ByteArray} {nL : Nat} {rt : Option FieldType} {nm : String} {pc n : Nat}
/-- instructions that are functions -/
theorem mx_Sim.fn {f : mx_F} (H : ∀ (p : Program) (l : Launch) (e : Env) (R : Room) (s : State) (m : MethodId) (args : Array Value) (below : List Frame) (meth : Method) (c : Code) (Q : State → Prop) (G : mx_G) (n0 : Nat), mx_Cx p s m args meth c G own cc nL nm → 1 ≤ R.frames → 40 ≤ R.locals →
    ∀ ls st h r, f ls st h = some r → mx_W p l e R s m args below meth c Q G n0 r.1 r.2.1 r.2.2.1 (r.2.2.2.1, r.2.2.2.2.1, r.2.2.2.2.2, h.2.2.2) → mx_W p l e R s m args below meth c Q G n0 pc ls st h) : mx_Sim tab own cc nL rt nm pc (.inl f) := by
  intro p l e R s m args below meth c Q G n0 N1 d C hX hC hf hl hc hs K P hK hP ls st h hsem
  simp only [mx_sem] at hsem
  split at hsem
  · next r hr => exact H p l e R s m args below meth c Q G n0 hX (by omega) (by omega) ls st h r hr (hK _ _ _ _ hsem).1
  · exact hsem.elim


theorem sm_iconst {z : Int} {v : Int32} (hv : Int32.ofInt z = v) (hdg : decode cc pc = .ok (.iconst z, 1)) (hn : pc + 1 = n) : mx_Sim tab own cc nL rt nm pc (.inl (mf_push n (.int v))) := by
  refine mx_Sim.fn fun p l e R s m args below meth c Q G n0 hX hf1 hl1 ls st h r hr K => ?_
  cases hr
  subst hn
  intro H locs lsc h1 h2 h3 h4
  exact lv_iconst hX.1.1 hX.1.2.1 hdg hv (K H locs lsc h1 h2 h3 h4)
theorem sm_bipush {z : Int} {v : Int32} (hv : (Int8.ofInt z).toInt32 = v) (hdg : decode cc pc = .ok (.bipush z, 2)) (hn : pc + 2 = n) : mx_Sim tab own cc nL rt nm pc (.inl (mf_push n (.int v))) := by
  refine mx_Sim.fn fun p l e R s m args below meth c Q G n0 hX hf1 hl1 ls st h r hr K => ?_
  cases hr
  subst hn
  intro H locs lsc h1 h2 h3 h4
  exact lv_bipush hX.1.1 hX.1.2.1 hdg hv (K H locs lsc h1 h2 h3 h4)
theorem sm_sipush {z : Int} {v : Int32} (hv : (Int16.ofInt z).toInt32 = v) (hdg : decode cc pc = .ok (.sipush z, 3)) (hn : pc + 3 = n) : mx_Sim tab own cc nL rt nm pc (.inl (mf_push n (.int v))) := by
  refine mx_Sim.fn fun p l e R s m args below meth c Q G n0 hX hf1 hl1 ls st h r hr K => ?_
  cases hr
  subst hn
  intro H locs lsc h1 h2 h3 h4
  exact lv_sipush hX.1.1 hX.1.2.1 hdg hv (K H locs lsc h1 h2 h3 h4)
theorem sm_lconst {z : Fin 2} {v : Int64} (hv : Int64.ofNat (z : Nat) = v) (hdg : decode cc pc = .ok (.lconst z, 1)) (hn : pc + 1 = n) : mx_Sim tab own cc nL rt nm pc (.inl (mf_push n (.long v))) := by
  refine mx_Sim.fn fun p l e R s m args below meth c Q G n0 hX hf1 hl1 ls st h r hr K => ?_
  cases hr
  subst hn
  intro H locs lsc h1 h2 h3 h4
  exact lv_lconst hX.1.1 hX.1.2.1 hdg hv (K H locs lsc h1 h2 h3 h4)
theorem sm_null  (hdg : decode cc pc = .ok (.aconst_null, 1)) (hn : pc + 1 = n) : mx_Sim tab own cc nL rt nm pc (.inl (mf_push n (.null))) := by
  refine mx_Sim.fn fun p l e R s m args below meth c Q G n0 hX hf1 hl1 ls st h r hr K => ?_
  cases hr
  subst hn
  intro H locs lsc h1 h2 h3 h4
  exact lv_null hX.1.1 hX.1.2.1 hdg (K H locs lsc h1 h2 h3 h4)
theorem sm_ldc {ix : Nat} {v : Int32} (hw : Cond.constant own ix v ∈ mx_TT) (hdg : decode cc pc = .ok (.ldc ix, 2)) (hn : pc + 2 = n) : mx_Sim tab own cc nL rt nm pc (.inl (mf_push n (.int v))) := by
  refine mx_Sim.fn fun p l e R s m args below meth c Q G n0 hX hf1 hl1 ls st h r hr K => ?_
  cases hr
  subst hn
  intro H locs lsc h1 h2 h3 h4
  exact lv_ldc hX.1.1 hX.1.2.1 hX.1.2.2.2.1 (hX.1.2.2.2.2 _ hw) hdg (K H locs lsc h1 h2 h3 h4)
theorem sm_ldcw {ix : Nat} {v : Int32} (hw : Cond.constant own ix v ∈ mx_TT) (hdg : decode cc pc = .ok (.ldc_w ix, 3)) (hn : pc + 3 = n) : mx_Sim tab own cc nL rt nm pc (.inl (mf_push n (.int v))) := by
  refine mx_Sim.fn fun p l e R s m args below meth c Q G n0 hX hf1 hl1 ls st h r hr K => ?_
  cases hr
  subst hn
  intro H locs lsc h1 h2 h3 h4
  exact lv_ldcw hX.1.1 hX.1.2.1 hX.1.2.2.2.1 (hX.1.2.2.2.2 _ hw) hdg (K H locs lsc h1 h2 h3 h4)
theorem sm_ldc2 {ix : Nat} {v : Int64} (hw : Cond.constantLong own ix v ∈ mx_TT) (hdg : decode cc pc = .ok (.ldc2_w ix, 3)) (hn : pc + 3 = n) : mx_Sim tab own cc nL rt nm pc (.inl (mf_push n (.long v))) := by
  refine mx_Sim.fn fun p l e R s m args below meth c Q G n0 hX hf1 hl1 ls st h r hr K => ?_
  cases hr
  subst hn
  intro H locs lsc h1 h2 h3 h4
  exact lv_ldc2 hX.1.1 hX.1.2.1 hX.1.2.2.2.1 (hX.1.2.2.2.2 _ hw) hdg (K H locs lsc h1 h2 h3 h4)
theorem sm_gets {ix j : Nat} {C nm2 d : String} (hw : Cond.fieldLink own ix C nm2 d ∈ mx_TT) (hq : (C, nm2, d, j) ∈ mx_stat) (hdg : decode cc pc = .ok (.getstatic ix, 3)) (hn : pc + 3 = n) : mx_Sim tab own cc nL rt nm pc (.inl (mf_push n (.ref (1000 + j)))) := by
  refine mx_Sim.fn fun p l e R s m args below meth c Q G n0 hX hf1 hl1 ls st h r hr K => ?_
  cases hr
  subst hn
  intro H locs lsc h1 h2 h3 h4
  have e : mx_cv G (.ref (1000 + j)) = .ref (G.2.1 j) := by
    simp only [mx_cv, mx_ad]
    rw [if_neg (by omega), Nat.add_sub_cancel_left]
  have K1 := K H locs lsc h1 h2 h3 h4
  dsimp only at K1
  rw [List.map_cons, e] at K1
  exact va_gets hX.1.1 hX.1.2.1 (hX.2.1.2.2.2.2.1 _ hq) h4 hX.1.2.2.2.1 (hX.1.2.2.2.2 _ hw) (fun _ h => h) hdg K1
theorem sm_iload_n {k : Fin 4} {i : Nat} (hi : (k : Nat) = i) (hdg : decode cc pc = .ok (.iload_n k, 1)) (hn : pc + 1 = n) : mx_Sim tab own cc nL rt nm pc (.inl (mf_iload n i)) := by
  refine mx_Sim.fn fun p l e R s m args below meth c Q G n0 hX hf1 hl1 ls st h r hr K => ?_
  unfold mf_iload at hr
  split at hr
  · next x hx =>
    cases hr
    subst hn
    intro H locs lsc h1 h2 h3 h4
    exact lv_iload_n hX.1.1 hX.1.2.1 hdg hi (h3.2.2.2 _ _ hx) (K H locs lsc h1 h2 h3 h4)
  · cases hr
theorem sm_iload {i : Nat} (hdg : decode cc pc = .ok (.iload i, 2)) (hn : pc + 2 = n) : mx_Sim tab own cc nL rt nm pc (.inl (mf_iload n i)) := by
  refine mx_Sim.fn fun p l e R s m args below meth c Q G n0 hX hf1 hl1 ls st h r hr K => ?_
  unfold mf_iload at hr
  split at hr
  · next x hx =>
    cases hr
    subst hn
    intro H locs lsc h1 h2 h3 h4
    exact lv_iload hX.1.1 hX.1.2.1 hdg (h3.2.2.2 _ _ hx) (K H locs lsc h1 h2 h3 h4)
  · cases hr
theorem sm_lload_n {k : Fin 4} {i : Nat} (hi : (k : Nat) = i) (hdg : decode cc pc = .ok (.lload_n k, 1)) (hn : pc + 1 = n) : mx_Sim tab own cc nL rt nm pc (.inl (mf_lload n i)) := by
  refine mx_Sim.fn fun p l e R s m args below meth c Q G n0 hX hf1 hl1 ls st h r hr K => ?_
  unfold mf_lload at hr
  split at hr
  · next x hx =>
    cases hr
    subst hn
    intro H locs lsc h1 h2 h3 h4
    exact lv_lload_n hX.1.1 hX.1.2.1 hdg hi (h3.2.2.2 _ _ hx) (K H locs lsc h1 h2 h3 h4)
  · cases hr
theorem sm_lload {i : Nat} (hdg : decode cc pc = .ok (.lload i, 2)) (hn : pc + 2 = n) : mx_Sim tab own cc nL rt nm pc (.inl (mf_lload n i)) := by
  refine mx_Sim.fn fun p l e R s m args below meth c Q G n0 hX hf1 hl1 ls st h r hr K => ?_
  unfold mf_lload at hr
  split at hr
  · next x hx =>
    cases hr
    subst hn
    intro H locs lsc h1 h2 h3 h4
    exact lv_lload hX.1.1 hX.1.2.1 hdg (h3.2.2.2 _ _ hx) (K H locs lsc h1 h2 h3 h4)
  · cases hr
theorem sm_aload_n {k : Fin 4} {i : Nat} (hi : (k : Nat) = i) (hdg : decode cc pc = .ok (.aload_n k, 1)) (hn : pc + 1 = n) : mx_Sim tab own cc nL rt nm pc (.inl (mf_aload n i)) := by
  refine mx_Sim.fn fun p l e R s m args below meth c Q G n0 hX hf1 hl1 ls st h r hr K => ?_
  unfold mf_aload at hr
  split at hr
  · next x hx =>
    cases hr
    subst hn
    intro H locs lsc h1 h2 h3 h4
    exact lv_aload_n hX.1.1 hX.1.2.1 hdg hi (h3.2.2.2 _ _ hx) (K H locs lsc h1 h2 h3 h4)
  · next hx =>
    cases hr
    subst hn
    intro H locs lsc h1 h2 h3 h4
    exact lv_aload_nN hX.1.1 hX.1.2.1 hdg hi (h3.2.2.2 _ _ hx) (K H locs lsc h1 h2 h3 h4)
  · cases hr
theorem sm_aload {i : Nat} (hdg : decode cc pc = .ok (.aload i, 2)) (hn : pc + 2 = n) : mx_Sim tab own cc nL rt nm pc (.inl (mf_aload n i)) := by
  refine mx_Sim.fn fun p l e R s m args below meth c Q G n0 hX hf1 hl1 ls st h r hr K => ?_
  unfold mf_aload at hr
  split at hr
  · next x hx =>
    cases hr
    subst hn
    intro H locs lsc h1 h2 h3 h4
    exact lv_aload hX.1.1 hX.1.2.1 hdg (h3.2.2.2 _ _ hx) (K H locs lsc h1 h2 h3 h4)
  · next hx =>
    cases hr
    subst hn
    intro H locs lsc h1 h2 h3 h4
    exact lv_aloadN hX.1.1 hX.1.2.1 hdg (h3.2.2.2 _ _ hx) (K H locs lsc h1 h2 h3 h4)
  · cases hr
theorem sm_istore_n {k : Fin 4} {i : Nat} (hi : (k : Nat) = i) (hk : i < nL) (hdg : decode cc pc = .ok (.istore_n k, 1)) (hn : pc + 1 = n) : mx_Sim tab own cc nL rt nm pc (.inl (mf_istore n i)) := by
  refine mx_Sim.fn fun p l e R s m args below meth c Q G n0 hX hf1 hl1 ls st h r hr K => ?_
  unfold mf_istore at hr
  split at hr
  · cases hr
    subst hn
    intro H locs lsc h1 h2 h3 h4
    exact lv_istore_n hX.1.1 hX.1.2.1 hdg hi h3.has (by rw [hX.1.2.2.1]; exact hk) rfl (fun ls' hh => K H locs ls' h1 h2 (h3.st1 (v := .int _) hh) h4)
  · cases hr
theorem sm_istore {i : Nat} (hk : i < nL) (hdg : decode cc pc = .ok (.istore i, 2)) (hn : pc + 2 = n) : mx_Sim tab own cc nL rt nm pc (.inl (mf_istore n i)) := by
  refine mx_Sim.fn fun p l e R s m args below meth c Q G n0 hX hf1 hl1 ls st h r hr K => ?_
  unfold mf_istore at hr
  split at hr
  · cases hr
    subst hn
    intro H locs lsc h1 h2 h3 h4
    exact lv_istore hX.1.1 hX.1.2.1 hdg  h3.has (by rw [hX.1.2.2.1]; exact hk) rfl (fun ls' hh => K H locs ls' h1 h2 (h3.st1 (v := .int _) hh) h4)
  · cases hr
theorem sm_lstore_n {k : Fin 4} {i : Nat} (hi : (k : Nat) = i) (hk : i + 1 < nL) (hdg : decode cc pc = .ok (.lstore_n k, 1)) (hn : pc + 1 = n) : mx_Sim tab own cc nL rt nm pc (.inl (mf_lstore n i)) := by
  refine mx_Sim.fn fun p l e R s m args below meth c Q G n0 hX hf1 hl1 ls st h r hr K => ?_
  unfold mf_lstore at hr
  split at hr
  · cases hr
    subst hn
    intro H locs lsc h1 h2 h3 h4
    exact lv_lstore_n hX.1.1 hX.1.2.1 hdg hi h3.has (by rw [hX.1.2.2.1]; exact hk) rfl (fun ls' hh => K H locs ls' h1 h2 (h3.st2 (v := .long _) hh) h4)
  · cases hr
theorem sm_lstore {i : Nat} (hk : i + 1 < nL) (hdg : decode cc pc = .ok (.lstore i, 2)) (hn : pc + 2 = n) : mx_Sim tab own cc nL rt nm pc (.inl (mf_lstore n i)) := by
  refine mx_Sim.fn fun p l e R s m args below meth c Q G n0 hX hf1 hl1 ls st h r hr K => ?_
  unfold mf_lstore at hr
  split at hr
  · cases hr
    subst hn
    intro H locs lsc h1 h2 h3 h4
    exact lv_lstore hX.1.1 hX.1.2.1 hdg  h3.has (by rw [hX.1.2.2.1]; exact hk) rfl (fun ls' hh => K H locs ls' h1 h2 (h3.st2 (v := .long _) hh) h4)
  · cases hr
theorem sm_astore_n {k : Fin 4} {i : Nat} (hi : (k : Nat) = i) (hk : i < nL) (hdg : decode cc pc = .ok (.astore_n k, 1)) (hn : pc + 1 = n) : mx_Sim tab own cc nL rt nm pc (.inl (mf_astore n i)) := by
  refine mx_Sim.fn fun p l e R s m args below meth c Q G n0 hX hf1 hl1 ls st h r hr K => ?_
  unfold mf_astore at hr
  split at hr
  · cases hr
    subst hn
    intro H locs lsc h1 h2 h3 h4
    exact lv_astore_n hX.1.1 hX.1.2.1 hdg hi h3.has (by rw [hX.1.2.2.1]; exact hk) rfl (fun ls' hh => K H locs ls' h1 h2 (h3.st1 (v := .ref _) hh) h4)
  · cases hr
    subst hn
    intro H locs lsc h1 h2 h3 h4
    exact lv_astore_nN hX.1.1 hX.1.2.1 hdg hi h3.has (by rw [hX.1.2.2.1]; exact hk) rfl (fun ls' hh => K H locs ls' h1 h2 (h3.st1 (v := .null) hh) h4)
  · cases hr
theorem sm_astore {i : Nat} (hk : i < nL) (hdg : decode cc pc = .ok (.astore i, 2)) (hn : pc + 2 = n) : mx_Sim tab own cc nL rt nm pc (.inl (mf_astore n i)) := by
  refine mx_Sim.fn fun p l e R s m args below meth c Q G n0 hX hf1 hl1 ls st h r hr K => ?_
  unfold mf_astore at hr
  split at hr
  · cases hr
    subst hn
    intro H locs lsc h1 h2 h3 h4
    exact lv_astore hX.1.1 hX.1.2.1 hdg  h3.has (by rw [hX.1.2.2.1]; exact hk) rfl (fun ls' hh => K H locs ls' h1 h2 (h3.st1 (v := .ref _) hh) h4)
  · cases hr
    subst hn
    intro H locs lsc h1 h2 h3 h4
    exact lv_astoreN hX.1.1 hX.1.2.1 hdg  h3.has (by rw [hX.1.2.2.1]; exact hk) rfl (fun ls' hh => K H locs ls' h1 h2 (h3.st1 (v := .null) hh) h4)
  · cases hr
theorem sm_iinc {i : Nat} {z : Int} {w : Int32} (hz : Int32.ofInt z = w) (hk : i < nL) (hdg : decode cc pc = .ok (.iinc i z, 3)) (hn : pc + 3 = n) : mx_Sim tab own cc nL rt nm pc (.inl (mf_iinc n i w)) := by
  refine mx_Sim.fn fun p l e R s m args below meth c Q G n0 hX hf1 hl1 ls st h r hr K => ?_
  unfold mf_iinc at hr
  split at hr
  · next x hx =>
    cases hr
    subst hn
    subst hz
    intro H locs lsc h1 h2 h3 h4
    obtain ⟨k, hk2⟩ := List.getElem?_of_mem (mx_kv_mem (G := G) hx)
    exact lv_iinc (x := x) hX.1.1 hX.1.2.1 hdg h3.has hk2 rfl (by rw [hX.1.2.2.1]; exact hk) rfl (fun ls' hh => K H locs ls' h1 h2 (h3.st1 (v := .int _) hh) h4)
  · cases hr
theorem sm_iadd  (hdg : decode cc pc = .ok (.iadd, 1)) (hn : pc + 1 = n) : mx_Sim tab own cc nL rt nm pc (.inl (mf_ibin n (fun x y => x + y))) := by
  refine mx_Sim.fn fun p l e R s m args below meth c Q G n0 hX hf1 hl1 ls st h r hr K => ?_
  unfold mf_ibin at hr
  split at hr
  · cases hr
    subst hn
    intro H locs lsc h1 h2 h3 h4
    exact lv_iadd hX.1.1 hX.1.2.1 hdg (K H locs lsc h1 h2 h3 h4)
  · cases hr
theorem sm_isub  (hdg : decode cc pc = .ok (.isub, 1)) (hn : pc + 1 = n) : mx_Sim tab own cc nL rt nm pc (.inl (mf_ibin n (fun x y => x - y))) := by
  refine mx_Sim.fn fun p l e R s m args below meth c Q G n0 hX hf1 hl1 ls st h r hr K => ?_
  unfold mf_ibin at hr
  split at hr
  · cases hr
    subst hn
    intro H locs lsc h1 h2 h3 h4
    exact lv_isub hX.1.1 hX.1.2.1 hdg (K H locs lsc h1 h2 h3 h4)
  · cases hr
theorem sm_imul  (hdg : decode cc pc = .ok (.imul, 1)) (hn : pc + 1 = n) : mx_Sim tab own cc nL rt nm pc (.inl (mf_ibin n (fun x y => x * y))) := by
  refine mx_Sim.fn fun p l e R s m args below meth c Q G n0 hX hf1 hl1 ls st h r hr K => ?_
  unfold mf_ibin at hr
  split at hr
  · cases hr
    subst hn
    intro H locs lsc h1 h2 h3 h4
    exact lv_imul hX.1.1 hX.1.2.1 hdg (K H locs lsc h1 h2 h3 h4)
  · cases hr
theorem sm_iand  (hdg : decode cc pc = .ok (.iand, 1)) (hn : pc + 1 = n) : mx_Sim tab own cc nL rt nm pc (.inl (mf_ibin n (fun x y => x &&& y))) := by
  refine mx_Sim.fn fun p l e R s m args below meth c Q G n0 hX hf1 hl1 ls st h r hr K => ?_
  unfold mf_ibin at hr
  split at hr
  · cases hr
    subst hn
    intro H locs lsc h1 h2 h3 h4
    exact lv_iand hX.1.1 hX.1.2.1 hdg (K H locs lsc h1 h2 h3 h4)
  · cases hr
theorem sm_ior  (hdg : decode cc pc = .ok (.ior, 1)) (hn : pc + 1 = n) : mx_Sim tab own cc nL rt nm pc (.inl (mf_ibin n (fun x y => x ||| y))) := by
  refine mx_Sim.fn fun p l e R s m args below meth c Q G n0 hX hf1 hl1 ls st h r hr K => ?_
  unfold mf_ibin at hr
  split at hr
  · cases hr
    subst hn
    intro H locs lsc h1 h2 h3 h4
    exact lv_ior hX.1.1 hX.1.2.1 hdg (K H locs lsc h1 h2 h3 h4)
  · cases hr
theorem sm_ixor  (hdg : decode cc pc = .ok (.ixor, 1)) (hn : pc + 1 = n) : mx_Sim tab own cc nL rt nm pc (.inl (mf_ibin n (fun x y => x ^^^ y))) := by
  refine mx_Sim.fn fun p l e R s m args below meth c Q G n0 hX hf1 hl1 ls st h r hr K => ?_
  unfold mf_ibin at hr
  split at hr
  · cases hr
    subst hn
    intro H locs lsc h1 h2 h3 h4
    exact lv_ixor hX.1.1 hX.1.2.1 hdg (K H locs lsc h1 h2 h3 h4)
  · cases hr
theorem sm_ishl  (hdg : decode cc pc = .ok (.ishl, 1)) (hn : pc + 1 = n) : mx_Sim tab own cc nL rt nm pc (.inl (mf_ibin n (fun x y => x <<< (y &&& 31)))) := by
  refine mx_Sim.fn fun p l e R s m args below meth c Q G n0 hX hf1 hl1 ls st h r hr K => ?_
  unfold mf_ibin at hr
  split at hr
  · cases hr
    subst hn
    intro H locs lsc h1 h2 h3 h4
    exact lv_ishl hX.1.1 hX.1.2.1 hdg (K H locs lsc h1 h2 h3 h4)
  · cases hr
theorem sm_ishr  (hdg : decode cc pc = .ok (.ishr, 1)) (hn : pc + 1 = n) : mx_Sim tab own cc nL rt nm pc (.inl (mf_ibin n (fun x y => x >>> (y &&& 31)))) := by
  refine mx_Sim.fn fun p l e R s m args below meth c Q G n0 hX hf1 hl1 ls st h r hr K => ?_
  unfold mf_ibin at hr
  split at hr
  · cases hr
    subst hn
    intro H locs lsc h1 h2 h3 h4
    exact lv_ishr hX.1.1 hX.1.2.1 hdg (K H locs lsc h1 h2 h3 h4)
  · cases hr
theorem sm_iushr  (hdg : decode cc pc = .ok (.iushr, 1)) (hn : pc + 1 = n) : mx_Sim tab own cc nL rt nm pc (.inl (mf_ibin n (fun x y => (x.toUInt32 >>> (y.toUInt32 &&& Int32.toUInt32 31)).toInt32))) := by
  refine mx_Sim.fn fun p l e R s m args below meth c Q G n0 hX hf1 hl1 ls st h r hr K => ?_
  unfold mf_ibin at hr
  split at hr
  · cases hr
    subst hn
    intro H locs lsc h1 h2 h3 h4
    exact lv_iushr hX.1.1 hX.1.2.1 hdg rfl (K H locs lsc h1 h2 h3 h4)
  · cases hr
theorem sm_ladd  (hdg : decode cc pc = .ok (.ladd, 1)) (hn : pc + 1 = n) : mx_Sim tab own cc nL rt nm pc (.inl (mf_lbin n (fun x y => x + y))) := by
  refine mx_Sim.fn fun p l e R s m args below meth c Q G n0 hX hf1 hl1 ls st h r hr K => ?_
  unfold mf_lbin at hr
  split at hr
  · cases hr
    subst hn
    intro H locs lsc h1 h2 h3 h4
    exact lv_ladd hX.1.1 hX.1.2.1 hdg (K H locs lsc h1 h2 h3 h4)
  · cases hr
theorem sm_lsub  (hdg : decode cc pc = .ok (.lsub, 1)) (hn : pc + 1 = n) : mx_Sim tab own cc nL rt nm pc (.inl (mf_lbin n (fun x y => x - y))) := by
  refine mx_Sim.fn fun p l e R s m args below meth c Q G n0 hX hf1 hl1 ls st h r hr K => ?_
  unfold mf_lbin at hr
  split at hr
  · cases hr
    subst hn
    intro H locs lsc h1 h2 h3 h4
    exact lv_lsub hX.1.1 hX.1.2.1 hdg (K H locs lsc h1 h2 h3 h4)
  · cases hr
theorem sm_lmul  (hdg : decode cc pc = .ok (.lmul, 1)) (hn : pc + 1 = n) : mx_Sim tab own cc nL rt nm pc (.inl (mf_lbin n (fun x y => x * y))) := by
  refine mx_Sim.fn fun p l e R s m args below meth c Q G n0 hX hf1 hl1 ls st h r hr K => ?_
  unfold mf_lbin at hr
  split at hr
  · cases hr
    subst hn
    intro H locs lsc h1 h2 h3 h4
    exact lv_lmul hX.1.1 hX.1.2.1 hdg (K H locs lsc h1 h2 h3 h4)
  · cases hr
theorem sm_land  (hdg : decode cc pc = .ok (.land, 1)) (hn : pc + 1 = n) : mx_Sim tab own cc nL rt nm pc (.inl (mf_lbin n (fun x y => x &&& y))) := by
  refine mx_Sim.fn fun p l e R s m args below meth c Q G n0 hX hf1 hl1 ls st h r hr K => ?_
  unfold mf_lbin at hr
  split at hr
  · cases hr
    subst hn
    intro H locs lsc h1 h2 h3 h4
    exact lv_land hX.1.1 hX.1.2.1 hdg (K H locs lsc h1 h2 h3 h4)
  · cases hr
theorem sm_lor  (hdg : decode cc pc = .ok (.lor, 1)) (hn : pc + 1 = n) : mx_Sim tab own cc nL rt nm pc (.inl (mf_lbin n (fun x y => x ||| y))) := by
  refine mx_Sim.fn fun p l e R s m args below meth c Q G n0 hX hf1 hl1 ls st h r hr K => ?_
  unfold mf_lbin at hr
  split at hr
  · cases hr
    subst hn
    intro H locs lsc h1 h2 h3 h4
    exact lv_lor hX.1.1 hX.1.2.1 hdg (K H locs lsc h1 h2 h3 h4)
  · cases hr
theorem sm_lxor  (hdg : decode cc pc = .ok (.lxor, 1)) (hn : pc + 1 = n) : mx_Sim tab own cc nL rt nm pc (.inl (mf_lbin n (fun x y => x ^^^ y))) := by
  refine mx_Sim.fn fun p l e R s m args below meth c Q G n0 hX hf1 hl1 ls st h r hr K => ?_
  unfold mf_lbin at hr
  split at hr
  · cases hr
    subst hn
    intro H locs lsc h1 h2 h3 h4
    exact lv_lxor hX.1.1 hX.1.2.1 hdg (K H locs lsc h1 h2 h3 h4)
  · cases hr
theorem sm_lushr  (hdg : decode cc pc = .ok (.lushr, 1)) (hn : pc + 1 = n) : mx_Sim tab own cc nL rt nm pc (.inl (mf_lsh n (fun x y => (x.toUInt64 >>> (y.toInt64.toUInt64 &&& Int64.toUInt64 63)).toInt64))) := by
  refine mx_Sim.fn fun p l e R s m args below meth c Q G n0 hX hf1 hl1 ls st h r hr K => ?_
  unfold mf_lsh at hr
  split at hr
  · cases hr
    subst hn
    intro H locs lsc h1 h2 h3 h4
    exact lv_lushr hX.1.1 hX.1.2.1 hdg rfl (K H locs lsc h1 h2 h3 h4)
  · cases hr
theorem sm_lshl  (hdg : decode cc pc = .ok (.lshl, 1)) (hn : pc + 1 = n) : mx_Sim tab own cc nL rt nm pc (.inl (mf_lsh n (fun x y => x <<< (y.toInt64 &&& 63)))) := by
  refine mx_Sim.fn fun p l e R s m args below meth c Q G n0 hX hf1 hl1 ls st h r hr K => ?_
  unfold mf_lsh at hr
  split at hr
  · cases hr
    subst hn
    intro H locs lsc h1 h2 h3 h4
    exact lv_lshl hX.1.1 hX.1.2.1 hdg rfl (K H locs lsc h1 h2 h3 h4)
  · cases hr
theorem sm_lshr  (hdg : decode cc pc = .ok (.lshr, 1)) (hn : pc + 1 = n) : mx_Sim tab own cc nL rt nm pc (.inl (mf_lsh n (fun x y => x >>> (y.toInt64 &&& 63)))) := by
  refine mx_Sim.fn fun p l e R s m args below meth c Q G n0 hX hf1 hl1 ls st h r hr K => ?_
  unfold mf_lsh at hr
  split at hr
  · cases hr
    subst hn
    intro H locs lsc h1 h2 h3 h4
    exact lv_lshr hX.1.1 hX.1.2.1 hdg rfl (K H locs lsc h1 h2 h3 h4)
  · cases hr
theorem sm_ineg  (hdg : decode cc pc = .ok (.ineg, 1)) (hn : pc + 1 = n) : mx_Sim tab own cc nL rt nm pc (.inl (mf_iun n (fun x => -x))) := by
  refine mx_Sim.fn fun p l e R s m args below meth c Q G n0 hX hf1 hl1 ls st h r hr K => ?_
  unfold mf_iun at hr
  split at hr
  · cases hr
    subst hn
    intro H locs lsc h1 h2 h3 h4
    exact lv_ineg hX.1.1 hX.1.2.1 hdg (K H locs lsc h1 h2 h3 h4)
  · cases hr
theorem sm_i2b  (hdg : decode cc pc = .ok (.i2b, 1)) (hn : pc + 1 = n) : mx_Sim tab own cc nL rt nm pc (.inl (mf_iun n (fun x => x.toInt8.toInt32))) := by
  refine mx_Sim.fn fun p l e R s m args below meth c Q G n0 hX hf1 hl1 ls st h r hr K => ?_
  unfold mf_iun at hr
  split at hr
  · cases hr
    subst hn
    intro H locs lsc h1 h2 h3 h4
    exact lv_i2b hX.1.1 hX.1.2.1 hdg rfl (K H locs lsc h1 h2 h3 h4)
  · cases hr
theorem sm_i2s  (hdg : decode cc pc = .ok (.i2s, 1)) (hn : pc + 1 = n) : mx_Sim tab own cc nL rt nm pc (.inl (mf_iun n (fun x => x.toInt16.toInt32))) := by
  refine mx_Sim.fn fun p l e R s m args below meth c Q G n0 hX hf1 hl1 ls st h r hr K => ?_
  unfold mf_iun at hr
  split at hr
  · cases hr
    subst hn
    intro H locs lsc h1 h2 h3 h4
    exact lv_i2s hX.1.1 hX.1.2.1 hdg rfl (K H locs lsc h1 h2 h3 h4)
  · cases hr
theorem sm_i2l  (hdg : decode cc pc = .ok (.i2l, 1)) (hn : pc + 1 = n) : mx_Sim tab own cc nL rt nm pc (.inl (mf_i2l n)) := by
  refine mx_Sim.fn fun p l e R s m args below meth c Q G n0 hX hf1 hl1 ls st h r hr K => ?_
  unfold mf_i2l at hr
  split at hr
  · cases hr
    subst hn
    intro H locs lsc h1 h2 h3 h4
    exact lv_i2l hX.1.1 hX.1.2.1 hdg rfl (K H locs lsc h1 h2 h3 h4)
  · cases hr
theorem sm_l2i  (hdg : decode cc pc = .ok (.l2i, 1)) (hn : pc + 1 = n) : mx_Sim tab own cc nL rt nm pc (.inl (mf_l2i n)) := by
  refine mx_Sim.fn fun p l e R s m args below meth c Q G n0 hX hf1 hl1 ls st h r hr K => ?_
  unfold mf_l2i at hr
  split at hr
  · cases hr
    subst hn
    intro H locs lsc h1 h2 h3 h4
    exact lv_l2i hX.1.1 hX.1.2.1 hdg rfl (K H locs lsc h1 h2 h3 h4)
  · cases hr
theorem sm_lcmp  (hdg : decode cc pc = .ok (.lcmp, 1)) (hn : pc + 1 = n) : mx_Sim tab own cc nL rt nm pc (.inl (mf_lcmp n)) := by
  refine mx_Sim.fn fun p l e R s m args below meth c Q G n0 hX hf1 hl1 ls st h r hr K => ?_
  unfold mf_lcmp at hr
  split at hr
  · cases hr
    subst hn
    intro H locs lsc h1 h2 h3 h4
    exact W.lcmp hX.1.1 hX.1.2.1 hdg (K H locs lsc h1 h2 h3 h4)
  · cases hr
theorem sm_idiv  (hdg : decode cc pc = .ok (.idiv, 1)) (hn : pc + 1 = n) : mx_Sim tab own cc nL rt nm pc (.inl (mf_idiv n)) := by
  refine mx_Sim.fn fun p l e R s m args below meth c Q G n0 hX hf1 hl1 ls st h r hr K => ?_
  unfold mf_idiv at hr
  split at hr
  · split at hr
    · cases hr
    · next hg => cases hr; subst hn; intro H locs lsc h1 h2 h3 h4; exact lv_idiv hX.1.1 hX.1.2.1 hdg hg (K H locs lsc h1 h2 h3 h4)
  · cases hr
theorem sm_irem  (hdg : decode cc pc = .ok (.irem, 1)) (hn : pc + 1 = n) : mx_Sim tab own cc nL rt nm pc (.inl (mf_irem n)) := by
  refine mx_Sim.fn fun p l e R s m args below meth c Q G n0 hX hf1 hl1 ls st h r hr K => ?_
  unfold mf_irem at hr
  split at hr
  · split at hr
    · cases hr
    · next hg => cases hr; subst hn; intro H locs lsc h1 h2 h3 h4; exact lv_irem hX.1.1 hX.1.2.1 hdg hg (K H locs lsc h1 h2 h3 h4)
  · cases hr
theorem sm_ldiv  (hdg : decode cc pc = .ok (.ldiv, 1)) (hn : pc + 1 = n) : mx_Sim tab own cc nL rt nm pc (.inl (mf_ldiv n)) := by
  refine mx_Sim.fn fun p l e R s m args below meth c Q G n0 hX hf1 hl1 ls st h r hr K => ?_
  unfold mf_ldiv at hr
  split at hr
  · split at hr
    · cases hr
    · next hg => cases hr; subst hn; intro H locs lsc h1 h2 h3 h4; exact lv_ldiv hX.1.1 hX.1.2.1 hdg hg (K H locs lsc h1 h2 h3 h4)
  · cases hr
theorem sm_lrem  (hdg : decode cc pc = .ok (.lrem, 1)) (hn : pc + 1 = n) : mx_Sim tab own cc nL rt nm pc (.inl (mf_lrem n)) := by
  refine mx_Sim.fn fun p l e R s m args below meth c Q G n0 hX hf1 hl1 ls st h r hr K => ?_
  unfold mf_lrem at hr
  split at hr
  · split at hr
    · cases hr
    · next hg => cases hr; subst hn; intro H locs lsc h1 h2 h3 h4; exact lv_lrem hX.1.1 hX.1.2.1 hdg hg (K H locs lsc h1 h2 h3 h4)
  · cases hr
theorem sm_dup  (hdg : decode cc pc = .ok (.dup, 1)) (hn : pc + 1 = n) : mx_Sim tab own cc nL rt nm pc (.inl (mf_dup n)) := by
  refine mx_Sim.fn fun p l e R s m args below meth c Q G n0 hX hf1 hl1 ls st h r hr K => ?_
  unfold mf_dup at hr
  split at hr
  · split at hr
    · next hg => cases hr; subst hn; intro H locs lsc h1 h2 h3 h4; exact lv_dup hX.1.1 hX.1.2.1 hdg (by rw [mx_cv_cat]; exact hg) (K H locs lsc h1 h2 h3 h4)
    · cases hr
  · cases hr
theorem sm_dup2  (hdg : decode cc pc = .ok (.dup2, 1)) (hn : pc + 1 = n) : mx_Sim tab own cc nL rt nm pc (.inl (mf_dup2 n)) := by
  refine mx_Sim.fn fun p l e R s m args below meth c Q G n0 hX hf1 hl1 ls st h r hr K => ?_
  unfold mf_dup2 at hr
  split at hr
  · split at hr
    · next hg => cases hr; subst hn; intro H locs lsc h1 h2 h3 h4; exact lv_dup2_11 hX.1.1 hX.1.2.1 hdg (by rw [mx_cv_cat]; exact hg.1) (by rw [mx_cv_cat]; exact hg.2) (K H locs lsc h1 h2 h3 h4)
    · cases hr
  · cases hr
theorem sm_pop  (hdg : decode cc pc = .ok (.pop, 1)) (hn : pc + 1 = n) : mx_Sim tab own cc nL rt nm pc (.inl (mf_pop n)) := by
  refine mx_Sim.fn fun p l e R s m args below meth c Q G n0 hX hf1 hl1 ls st h r hr K => ?_
  unfold mf_pop at hr
  split at hr
  · split at hr
    · next hg => cases hr; subst hn; intro H locs lsc h1 h2 h3 h4; exact lv_pop hX.1.1 hX.1.2.1 hdg (by rw [mx_cv_cat]; exact hg) (K H locs lsc h1 h2 h3 h4)
    · cases hr
  · cases hr
theorem sm_ifeq {o : Int} {t : Nat} (ht : (pc : Int) + o = (t : Int)) (hdg : decode cc pc = .ok (.ifCond .eq o, 3)) (hn : pc + 3 = n) : mx_Sim tab own cc nL rt nm pc (.inl (mf_if n t (fun x => decide (x = 0)))) := by
  refine mx_Sim.fn fun p l e R s m args below meth c Q G n0 hX hf1 hl1 ls st h r hr K => ?_
  unfold mf_if at hr
  split at hr
  · next x r0 =>
    cases hr
    subst hn
    intro H locs lsc h1 h2 h3 h4
    refine lv_if_eq hX.1.1 hX.1.2.1 hdg ht (fun q => ?_) (fun q => ?_)
    · have K1 := K H locs lsc h1 h2 h3 h4
      dsimp only at K1
      rw [if_pos (decide_eq_true (q))] at K1
      exact K1
    · have K1 := K H locs lsc h1 h2 h3 h4
      dsimp only at K1
      rw [if_neg (by rw [decide_eq_true_eq]; exact q)] at K1
      exact K1
  · cases hr
theorem sm_ifne {o : Int} {t : Nat} (ht : (pc : Int) + o = (t : Int)) (hdg : decode cc pc = .ok (.ifCond .ne o, 3)) (hn : pc + 3 = n) : mx_Sim tab own cc nL rt nm pc (.inl (mf_if n t (fun x => decide (¬ x = 0)))) := by
  refine mx_Sim.fn fun p l e R s m args below meth c Q G n0 hX hf1 hl1 ls st h r hr K => ?_
  unfold mf_if at hr
  split at hr
  · next x r0 =>
    cases hr
    subst hn
    intro H locs lsc h1 h2 h3 h4
    refine lv_if_ne hX.1.1 hX.1.2.1 hdg ht (fun q => ?_) (fun q => ?_)
    · have K1 := K H locs lsc h1 h2 h3 h4
      dsimp only at K1
      rw [if_pos (decide_eq_true (q))] at K1
      exact K1
    · have K1 := K H locs lsc h1 h2 h3 h4
      dsimp only at K1
      rw [if_neg (by rw [decide_eq_true_eq]; exact not_not_intro q)] at K1
      exact K1
  · cases hr
theorem sm_iflt {o : Int} {t : Nat} (ht : (pc : Int) + o = (t : Int)) (hdg : decode cc pc = .ok (.ifCond .lt o, 3)) (hn : pc + 3 = n) : mx_Sim tab own cc nL rt nm pc (.inl (mf_if n t (fun x => decide (x < 0)))) := by
  refine mx_Sim.fn fun p l e R s m args below meth c Q G n0 hX hf1 hl1 ls st h r hr K => ?_
  unfold mf_if at hr
  split at hr
  · next x r0 =>
    cases hr
    subst hn
    intro H locs lsc h1 h2 h3 h4
    refine lv_if_lt hX.1.1 hX.1.2.1 hdg ht (fun q => ?_) (fun q => ?_)
    · have K1 := K H locs lsc h1 h2 h3 h4
      dsimp only at K1
      rw [if_pos (decide_eq_true (q))] at K1
      exact K1
    · have K1 := K H locs lsc h1 h2 h3 h4
      dsimp only at K1
      rw [if_neg (by rw [decide_eq_true_eq]; exact q)] at K1
      exact K1
  · cases hr
theorem sm_ifge {o : Int} {t : Nat} (ht : (pc : Int) + o = (t : Int)) (hdg : decode cc pc = .ok (.ifCond .ge o, 3)) (hn : pc + 3 = n) : mx_Sim tab own cc nL rt nm pc (.inl (mf_if n t (fun x => decide (0 ≤ x)))) := by
  refine mx_Sim.fn fun p l e R s m args below meth c Q G n0 hX hf1 hl1 ls st h r hr K => ?_
  unfold mf_if at hr
  split at hr
  · next x r0 =>
    cases hr
    subst hn
    intro H locs lsc h1 h2 h3 h4
    refine lv_if_ge hX.1.1 hX.1.2.1 hdg ht (fun q => ?_) (fun q => ?_)
    · have K1 := K H locs lsc h1 h2 h3 h4
      dsimp only at K1
      rw [if_pos (decide_eq_true (q))] at K1
      exact K1
    · have K1 := K H locs lsc h1 h2 h3 h4
      dsimp only at K1
      rw [if_neg (by rw [decide_eq_true_eq]; exact q)] at K1
      exact K1
  · cases hr
theorem sm_ifgt {o : Int} {t : Nat} (ht : (pc : Int) + o = (t : Int)) (hdg : decode cc pc = .ok (.ifCond .gt o, 3)) (hn : pc + 3 = n) : mx_Sim tab own cc nL rt nm pc (.inl (mf_if n t (fun x => decide (0 < x)))) := by
  refine mx_Sim.fn fun p l e R s m args below meth c Q G n0 hX hf1 hl1 ls st h r hr K => ?_
  unfold mf_if at hr
  split at hr
  · next x r0 =>
    cases hr
    subst hn
    intro H locs lsc h1 h2 h3 h4
    refine lv_if_gt hX.1.1 hX.1.2.1 hdg ht (fun q => ?_) (fun q => ?_)
    · have K1 := K H locs lsc h1 h2 h3 h4
      dsimp only at K1
      rw [if_pos (decide_eq_true (q))] at K1
      exact K1
    · have K1 := K H locs lsc h1 h2 h3 h4
      dsimp only at K1
      rw [if_neg (by rw [decide_eq_true_eq]; exact q)] at K1
      exact K1
  · cases hr
theorem sm_ifle {o : Int} {t : Nat} (ht : (pc : Int) + o = (t : Int)) (hdg : decode cc pc = .ok (.ifCond .le o, 3)) (hn : pc + 3 = n) : mx_Sim tab own cc nL rt nm pc (.inl (mf_if n t (fun x => decide (x ≤ 0)))) := by
  refine mx_Sim.fn fun p l e R s m args below meth c Q G n0 hX hf1 hl1 ls st h r hr K => ?_
  unfold mf_if at hr
  split at hr
  · next x r0 =>
    cases hr
    subst hn
    intro H locs lsc h1 h2 h3 h4
    refine lv_if_le hX.1.1 hX.1.2.1 hdg ht (fun q => ?_) (fun q => ?_)
    · have K1 := K H locs lsc h1 h2 h3 h4
      dsimp only at K1
      rw [if_pos (decide_eq_true (q))] at K1
      exact K1
    · have K1 := K H locs lsc h1 h2 h3 h4
      dsimp only at K1
      rw [if_neg (by rw [decide_eq_true_eq]; exact q)] at K1
      exact K1
  · cases hr
theorem sm_icmpeq {o : Int} {t : Nat} (ht : (pc : Int) + o = (t : Int)) (hdg : decode cc pc = .ok (.if_icmp .eq o, 3)) (hn : pc + 3 = n) : mx_Sim tab own cc nL rt nm pc (.inl (mf_icmp n t (fun x y => decide (x = y)))) := by
  refine mx_Sim.fn fun p l e R s m args below meth c Q G n0 hX hf1 hl1 ls st h r hr K => ?_
  unfold mf_icmp at hr
  split at hr
  · next y x r0 =>
    cases hr
    subst hn
    intro H locs lsc h1 h2 h3 h4
    refine lv_icmp_eq hX.1.1 hX.1.2.1 hdg ht (fun q => ?_) (fun q => ?_)
    · have K1 := K H locs lsc h1 h2 h3 h4
      dsimp only at K1
      rw [if_pos (decide_eq_true (q))] at K1
      exact K1
    · have K1 := K H locs lsc h1 h2 h3 h4
      dsimp only at K1
      rw [if_neg (by rw [decide_eq_true_eq]; exact q)] at K1
      exact K1
  · cases hr
theorem sm_icmpne {o : Int} {t : Nat} (ht : (pc : Int) + o = (t : Int)) (hdg : decode cc pc = .ok (.if_icmp .ne o, 3)) (hn : pc + 3 = n) : mx_Sim tab own cc nL rt nm pc (.inl (mf_icmp n t (fun x y => decide (¬ x = y)))) := by
  refine mx_Sim.fn fun p l e R s m args below meth c Q G n0 hX hf1 hl1 ls st h r hr K => ?_
  unfold mf_icmp at hr
  split at hr
  · next y x r0 =>
    cases hr
    subst hn
    intro H locs lsc h1 h2 h3 h4
    refine lv_icmp_ne hX.1.1 hX.1.2.1 hdg ht (fun q => ?_) (fun q => ?_)
    · have K1 := K H locs lsc h1 h2 h3 h4
      dsimp only at K1
      rw [if_pos (decide_eq_true (q))] at K1
      exact K1
    · have K1 := K H locs lsc h1 h2 h3 h4
      dsimp only at K1
      rw [if_neg (by rw [decide_eq_true_eq]; exact not_not_intro q)] at K1
      exact K1
  · cases hr
theorem sm_icmplt {o : Int} {t : Nat} (ht : (pc : Int) + o = (t : Int)) (hdg : decode cc pc = .ok (.if_icmp .lt o, 3)) (hn : pc + 3 = n) : mx_Sim tab own cc nL rt nm pc (.inl (mf_icmp n t (fun x y => decide (x < y)))) := by
  refine mx_Sim.fn fun p l e R s m args below meth c Q G n0 hX hf1 hl1 ls st h r hr K => ?_
  unfold mf_icmp at hr
  split at hr
  · next y x r0 =>
    cases hr
    subst hn
    intro H locs lsc h1 h2 h3 h4
    refine lv_icmp_lt hX.1.1 hX.1.2.1 hdg ht (fun q => ?_) (fun q => ?_)
    · have K1 := K H locs lsc h1 h2 h3 h4
      dsimp only at K1
      rw [if_pos (decide_eq_true (q))] at K1
      exact K1
    · have K1 := K H locs lsc h1 h2 h3 h4
      dsimp only at K1
      rw [if_neg (by rw [decide_eq_true_eq]; exact q)] at K1
      exact K1
  · cases hr
theorem sm_icmpge {o : Int} {t : Nat} (ht : (pc : Int) + o = (t : Int)) (hdg : decode cc pc = .ok (.if_icmp .ge o, 3)) (hn : pc + 3 = n) : mx_Sim tab own cc nL rt nm pc (.inl (mf_icmp n t (fun x y => decide (y ≤ x)))) := by
  refine mx_Sim.fn fun p l e R s m args below meth c Q G n0 hX hf1 hl1 ls st h r hr K => ?_
  unfold mf_icmp at hr
  split at hr
  · next y x r0 =>
    cases hr
    subst hn
    intro H locs lsc h1 h2 h3 h4
    refine lv_icmp_ge hX.1.1 hX.1.2.1 hdg ht (fun q => ?_) (fun q => ?_)
    · have K1 := K H locs lsc h1 h2 h3 h4
      dsimp only at K1
      rw [if_pos (decide_eq_true (q))] at K1
      exact K1
    · have K1 := K H locs lsc h1 h2 h3 h4
      dsimp only at K1
      rw [if_neg (by rw [decide_eq_true_eq]; exact q)] at K1
      exact K1
  · cases hr
theorem sm_icmpgt {o : Int} {t : Nat} (ht : (pc : Int) + o = (t : Int)) (hdg : decode cc pc = .ok (.if_icmp .gt o, 3)) (hn : pc + 3 = n) : mx_Sim tab own cc nL rt nm pc (.inl (mf_icmp n t (fun x y => decide (y < x)))) := by
  refine mx_Sim.fn fun p l e R s m args below meth c Q G n0 hX hf1 hl1 ls st h r hr K => ?_
  unfold mf_icmp at hr
  split at hr
  · next y x r0 =>
    cases hr
    subst hn
    intro H locs lsc h1 h2 h3 h4
    refine lv_icmp_gt hX.1.1 hX.1.2.1 hdg ht (fun q => ?_) (fun q => ?_)
    · have K1 := K H locs lsc h1 h2 h3 h4
      dsimp only at K1
      rw [if_pos (decide_eq_true (q))] at K1
      exact K1
    · have K1 := K H locs lsc h1 h2 h3 h4
      dsimp only at K1
      rw [if_neg (by rw [decide_eq_true_eq]; exact q)] at K1
      exact K1
  · cases hr
theorem sm_icmple {o : Int} {t : Nat} (ht : (pc : Int) + o = (t : Int)) (hdg : decode cc pc = .ok (.if_icmp .le o, 3)) (hn : pc + 3 = n) : mx_Sim tab own cc nL rt nm pc (.inl (mf_icmp n t (fun x y => decide (x ≤ y)))) := by
  refine mx_Sim.fn fun p l e R s m args below meth c Q G n0 hX hf1 hl1 ls st h r hr K => ?_
  unfold mf_icmp at hr
  split at hr
  · next y x r0 =>
    cases hr
    subst hn
    intro H locs lsc h1 h2 h3 h4
    refine lv_icmp_le hX.1.1 hX.1.2.1 hdg ht (fun q => ?_) (fun q => ?_)
    · have K1 := K H locs lsc h1 h2 h3 h4
      dsimp only at K1
      rw [if_pos (decide_eq_true (q))] at K1
      exact K1
    · have K1 := K H locs lsc h1 h2 h3 h4
      dsimp only at K1
      rw [if_neg (by rw [decide_eq_true_eq]; exact q)] at K1
      exact K1
  · cases hr
theorem sm_goto {o : Int} {t : Nat} (ht : (pc : Int) + o = (t : Int)) (hdg : decode cc pc = .ok (.goto o, 3)) : mx_Sim tab own cc nL rt nm pc (.inl (mf_goto t)) := by
  refine mx_Sim.fn fun p l e R s m args below meth c Q G n0 hX hf1 hl1 ls st h r hr K => ?_
  cases hr
  intro H locs lsc h1 h2 h3 h4
  exact lv_goto hX.1.1 hX.1.2.1 hdg ht (K H locs lsc h1 h2 h3 h4)
theorem sm_ifnull {o : Int} {t : Nat} (ht : (pc : Int) + o = (t : Int)) (hdg : decode cc pc = .ok (.ifnull o, 3)) (hn : pc + 3 = n) : mx_Sim tab own cc nL rt nm pc (.inl (mf_null n t)) := by
  refine mx_Sim.fn fun p l e R s m args below meth c Q G n0 hX hf1 hl1 ls st h r hr K => ?_
  unfold mf_null at hr
  split at hr
  · cases hr
    subst hn
    intro H locs lsc h1 h2 h3 h4
    exact lv_ifnull hX.1.1 hX.1.2.1 hdg (K H locs lsc h1 h2 h3 h4)
  · cases hr
    intro H locs lsc h1 h2 h3 h4
    exact lv_ifnullN hX.1.1 hX.1.2.1 hdg ht (K H locs lsc h1 h2 h3 h4)
  · cases hr
end MXT
