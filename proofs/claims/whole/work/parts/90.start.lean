/-! THE CLAIM OUT OF ONE WALK OF THE LAW'S BODY. Your part is whole_start (and what it stands on); all else here is the same for every law, but numbers. -/
def R_law : String := "OffOnTheSecondLaw"
def lw_P (b : Addr) (xs : List Int32) (args : Array Value) (s : State) : Prop := args = #[.ref b] ∧ s.IntsAt b xs ∧ xs.length ≤ 3072 ∧ (Jvm.Cond.and given_1 narrow_1).before args s = true
def lw_Q (_ : Array Value) (s : State) (o : Outcome) (t : State) : Prop := o = .returned (some (.int 1)) ∧ Framed s o t [] 600000 7302250
def lw_Z (below : List Frame) (a : Array Value) (s : State) : State → Prop := fun t => ∃ o, t.status = .running ∧ Ended t below o ∧ lw_Q a s o t
/-- the law's own end, with 1 on the stack, nothing written that was there before, its room as the claim has it -/
theorem lw_ret {p : Program} {l : Launch} {e : Env} {s : State} {m : MethodId} {below : List Frame} {meth : Method} {c : Code} {b : Nat} (hx : p.tables.exec = Jvm.exec) (hb : c.code = code) (hr : meth.sig.returnType = ret) (hlocks : meth.locks = false) {pc : Nat} {H : Heap} {ls : Array Slot} (hdg : decode code pc = .ok (.ireturn, 1)) : W p l e room_1 s m #[Value.ref b] below meth c H [] 600000 7302250 (lw_Z below #[Value.ref b] s) (F0 m pc ls [.int 1]) := by
  intro T hT X
  obtain ⟨fs, hret, hrun, hended, hW, hframe⟩ := X.leave (v := some (.int 1)) (hlocks := hlocks) (fun h => by rw [hr] at h; cases h)
  have hmeth' : T.vm.method? m = some meth := X.method'
  refine ⟨T.setFrames fs, ?_, .returned (some (.int 1)), hrun, hended, rfl, ⟨_, rfl⟩, hW, hframe⟩
  jvm_step X.here [X.here.top, hx, hb, hdg, hmeth', hr, ret, narrow_b1]
  (try refine ⟨rfl, ?_⟩); (try refine ⟨rfl, ?_⟩)
  first | (intro acts; rw [hret _ acts rfl rfl rfl]) | rw [hret _ _ rfl rfl rfl]
  exact Steps.refl _
/-- what holds at the law's entry: the machine, the code, the tables' words (any of lw_tbl by 'hts w (by decide +kernel)'), the script of L ints xs at the cell b, what the Statement gives of the start (any of its parts by flat_of_before) -/
def lw_At (p : Program) (s : State) (m : MethodId) (meth : Method) (c : Code) (b L : Nat) (xs : Nat → Int32) : Prop :=
  p.tables.exec = Jvm.exec ∧ c.code = code ∧ meth.sig.returnType = ret ∧ c.maxLocals = 4 ∧ s.vm.findClass R_law = some m.cls ∧ (∀ w ∈ lw_tbl, w.before #[Value.ref b] s = true) ∧ va_X b L xs s s.heap ∧ b < s.heap.size ∧ meth.locks = false ∧ (Jvm.Cond.and given_1 narrow_1).before #[Value.ref b] s = true
set_option maxRecDepth 20000 in
theorem mx_st_0 {s : State} {b : Addr} {L : Nat} {xs : Nat → Int32} (hgv : (Jvm.Cond.and given_1 narrow_1).before #[Value.ref b] s = true) (hts : ∀ w ∈ lw_tbl, w.before #[Value.ref b] s = true) : ∃ t : Nat, va_Z "OffOnTheSecond$Items" "KIND_ABOVE" "[I" (.ref t) (fun q : Nat => s.heap.size ≤ q) s s.heap ∧ va_T .int t 7 (fun i => .int (mx_sv L xs 0 i)) (fun q : Nat => s.heap.size ≤ q) s s.heap := by
  have hs := flat_of_before _ hgv
  have hl := va_eqt (t := .length (.static "OffOnTheSecond$Items" "KIND_ABOVE" "[I")) (z := 7) (hs _ (by decide +kernel))
  obtain ⟨t, h1, h2⟩ := va_Tof (f := fun i => .int (mx_sv L xs 0 i)) (N := 7) (A := fun q : Nat => s.heap.size ≤ q) (tm := (.static "OffOnTheSecond$Items" "KIND_ABOVE" "[I")) (ty := .int) (by decide) (hs _ (by decide +kernel)) hl (fun i hi => by
    rcases (show i = 0 ∨ i = 1 ∨ i = 2 ∨ i = 3 ∨ i = 4 ∨ i = 5 ∨ i = 6 by omega) with rfl | rfl | rfl | rfl | rfl | rfl | rfl
    · exact va_eqt (t := .elem (.static "OffOnTheSecond$Items" "KIND_ABOVE" "[I") (.int 0)) (z := (-1)) (hs _ (by decide +kernel))
    · exact va_eqt (t := .elem (.static "OffOnTheSecond$Items" "KIND_ABOVE" "[I") (.int 1)) (z := 0) (hs _ (by decide +kernel))
    · exact va_eqt (t := .elem (.static "OffOnTheSecond$Items" "KIND_ABOVE" "[I") (.int 2)) (z := 0) (hs _ (by decide +kernel))
    · exact va_eqt (t := .elem (.static "OffOnTheSecond$Items" "KIND_ABOVE" "[I") (.int 3)) (z := 0) (hs _ (by decide +kernel))
    · exact va_eqt (t := .elem (.static "OffOnTheSecond$Items" "KIND_ABOVE" "[I") (.int 4)) (z := 1) (hs _ (by decide +kernel))
    · exact va_eqt (t := .elem (.static "OffOnTheSecond$Items" "KIND_ABOVE" "[I") (.int 5)) (z := 2) (hs _ (by decide +kernel))
    · exact va_eqt (t := .elem (.static "OffOnTheSecond$Items" "KIND_ABOVE" "[I") (.int 6)) (z := 3) (hs _ (by decide +kernel))) (fun q h1 h2 => absurd h1 (Nat.not_lt.mpr h2))
  exact ⟨t, va_Zref (hts (.laysStatic "OffOnTheSecond$Items" "KIND_ABOVE" "[I") (List.mem_of_getElem? (i := 475) rfl)) (hts (.initialized "OffOnTheSecond$Items") (List.mem_of_getElem? (i := 72) rfl)) h1 (fun q h1 h2 => absurd h1 (Nat.not_lt.mpr h2)), h2⟩
set_option maxRecDepth 20000 in
theorem mx_st_1 {s : State} {b : Addr} {L : Nat} {xs : Nat → Int32} (hgv : (Jvm.Cond.and given_1 narrow_1).before #[Value.ref b] s = true) (hts : ∀ w ∈ lw_tbl, w.before #[Value.ref b] s = true) : ∃ t : Nat, va_Z "OffOnTheSecond$Reader" "WORTH_NAMES" "[C" (.ref t) (fun q : Nat => s.heap.size ≤ q) s s.heap ∧ va_T .char t 3 (fun i => .int (mx_sv L xs 1 i)) (fun q : Nat => s.heap.size ≤ q) s s.heap := by
  have hs := flat_of_before _ hgv
  have hl := va_eqt (t := .length (.static "OffOnTheSecond$Reader" "WORTH_NAMES" "[C")) (z := 3) (hs _ (by decide +kernel))
  obtain ⟨t, h1, h2⟩ := va_Tof (f := fun i => .int (mx_sv L xs 1 i)) (N := 3) (A := fun q : Nat => s.heap.size ≤ q) (tm := (.static "OffOnTheSecond$Reader" "WORTH_NAMES" "[C")) (ty := .char) (by decide) (hs _ (by decide +kernel)) hl (fun i hi => by
    rcases (show i = 0 ∨ i = 1 ∨ i = 2 by omega) with rfl | rfl | rfl
    · exact va_eqt (t := .elem (.static "OffOnTheSecond$Reader" "WORTH_NAMES" "[C") (.int 0)) (z := 107) (hs _ (by decide +kernel))
    · exact va_eqt (t := .elem (.static "OffOnTheSecond$Reader" "WORTH_NAMES" "[C") (.int 1)) (z := 108) (hs _ (by decide +kernel))
    · exact va_eqt (t := .elem (.static "OffOnTheSecond$Reader" "WORTH_NAMES" "[C") (.int 2)) (z := 112) (hs _ (by decide +kernel))) (fun q h1 h2 => absurd h1 (Nat.not_lt.mpr h2))
  exact ⟨t, va_Zref (hts (.laysStatic "OffOnTheSecond$Reader" "WORTH_NAMES" "[C") (List.mem_of_getElem? (i := 552) rfl)) (hts (.initialized "OffOnTheSecond$Reader") (List.mem_of_getElem? (i := 76) rfl)) h1 (fun q h1 h2 => absurd h1 (Nat.not_lt.mpr h2)), h2⟩
set_option maxRecDepth 20000 in
theorem mx_st_2 {s : State} {b : Addr} {L : Nat} {xs : Nat → Int32} (hgv : (Jvm.Cond.and given_1 narrow_1).before #[Value.ref b] s = true) (hts : ∀ w ∈ lw_tbl, w.before #[Value.ref b] s = true) : ∃ t : Nat, va_Z "OffOnTheSecond$Reader" "LIKED_NAMES" "[C" (.ref t) (fun q : Nat => s.heap.size ≤ q) s s.heap ∧ va_T .char t 3 (fun i => .int (mx_sv L xs 2 i)) (fun q : Nat => s.heap.size ≤ q) s s.heap := by
  have hs := flat_of_before _ hgv
  have hl := va_eqt (t := .length (.static "OffOnTheSecond$Reader" "LIKED_NAMES" "[C")) (z := 3) (hs _ (by decide +kernel))
  obtain ⟨t, h1, h2⟩ := va_Tof (f := fun i => .int (mx_sv L xs 2 i)) (N := 3) (A := fun q : Nat => s.heap.size ≤ q) (tm := (.static "OffOnTheSecond$Reader" "LIKED_NAMES" "[C")) (ty := .char) (by decide) (hs _ (by decide +kernel)) hl (fun i hi => by
    rcases (show i = 0 ∨ i = 1 ∨ i = 2 by omega) with rfl | rfl | rfl
    · exact va_eqt (t := .elem (.static "OffOnTheSecond$Reader" "LIKED_NAMES" "[C") (.int 0)) (z := 105) (hs _ (by decide +kernel))
    · exact va_eqt (t := .elem (.static "OffOnTheSecond$Reader" "LIKED_NAMES" "[C") (.int 1)) (z := 112) (hs _ (by decide +kernel))
    · exact va_eqt (t := .elem (.static "OffOnTheSecond$Reader" "LIKED_NAMES" "[C") (.int 2)) (z := 107) (hs _ (by decide +kernel))) (fun q h1 h2 => absurd h1 (Nat.not_lt.mpr h2))
  exact ⟨t, va_Zref (hts (.laysStatic "OffOnTheSecond$Reader" "LIKED_NAMES" "[C") (List.mem_of_getElem? (i := 554) rfl)) (hts (.initialized "OffOnTheSecond$Reader") (List.mem_of_getElem? (i := 76) rfl)) h1 (fun q h1 h2 => absurd h1 (Nat.not_lt.mpr h2)), h2⟩
set_option maxRecDepth 20000 in
theorem mx_st_3 {s : State} {b : Addr} {L : Nat} {xs : Nat → Int32} (hgv : (Jvm.Cond.and given_1 narrow_1).before #[Value.ref b] s = true) (hts : ∀ w ∈ lw_tbl, w.before #[Value.ref b] s = true) : ∃ t : Nat, va_Z "OffOnTheSecond$Voices" "BODIES" "[I" (.ref t) (fun q : Nat => s.heap.size ≤ q) s s.heap ∧ va_T .int t 28 (fun i => .int (mx_sv L xs 3 i)) (fun q : Nat => s.heap.size ≤ q) s s.heap := by
  have hs := flat_of_before _ hgv
  have hl := va_eqt (t := .length (.static "OffOnTheSecond$Voices" "BODIES" "[I")) (z := 28) (hs _ (by decide +kernel))
  obtain ⟨t, h1, h2⟩ := va_Tof (f := fun i => .int (mx_sv L xs 3 i)) (N := 28) (A := fun q : Nat => s.heap.size ≤ q) (tm := (.static "OffOnTheSecond$Voices" "BODIES" "[I")) (ty := .int) (by decide) (hs _ (by decide +kernel)) hl (fun i hi => by
    rcases (show i = 0 ∨ i = 1 ∨ i = 2 ∨ i = 3 ∨ i = 4 ∨ i = 5 ∨ i = 6 ∨ i = 7 ∨ i = 8 ∨ i = 9 ∨ i = 10 ∨ i = 11 ∨ i = 12 ∨ i = 13 ∨ i = 14 ∨ i = 15 ∨ i = 16 ∨ i = 17 ∨ i = 18 ∨ i = 19 ∨ i = 20 ∨ i = 21 ∨ i = 22 ∨ i = 23 ∨ i = 24 ∨ i = 25 ∨ i = 26 ∨ i = 27 by omega) with rfl | rfl | rfl | rfl | rfl | rfl | rfl | rfl | rfl | rfl | rfl | rfl | rfl | rfl | rfl | rfl | rfl | rfl | rfl | rfl | rfl | rfl | rfl | rfl | rfl | rfl | rfl | rfl
    · exact va_eqt (t := .elem (.static "OffOnTheSecond$Voices" "BODIES" "[I") (.int 0)) (z := 10) (hs _ (by decide +kernel))
    · exact va_eqt (t := .elem (.static "OffOnTheSecond$Voices" "BODIES" "[I") (.int 1)) (z := 11) (hs _ (by decide +kernel))
    · exact va_eqt (t := .elem (.static "OffOnTheSecond$Voices" "BODIES" "[I") (.int 2)) (z := 12) (hs _ (by decide +kernel))
    · exact va_eqt (t := .elem (.static "OffOnTheSecond$Voices" "BODIES" "[I") (.int 3)) (z := 13) (hs _ (by decide +kernel))
    · exact va_eqt (t := .elem (.static "OffOnTheSecond$Voices" "BODIES" "[I") (.int 4)) (z := 20) (hs _ (by decide +kernel))
    · exact va_eqt (t := .elem (.static "OffOnTheSecond$Voices" "BODIES" "[I") (.int 5)) (z := 0) (hs _ (by decide +kernel))
    · exact va_eqt (t := .elem (.static "OffOnTheSecond$Voices" "BODIES" "[I") (.int 6)) (z := 0) (hs _ (by decide +kernel))
    · exact va_eqt (t := .elem (.static "OffOnTheSecond$Voices" "BODIES" "[I") (.int 7)) (z := 21) (hs _ (by decide +kernel))
    · exact va_eqt (t := .elem (.static "OffOnTheSecond$Voices" "BODIES" "[I") (.int 8)) (z := 0) (hs _ (by decide +kernel))
    · exact va_eqt (t := .elem (.static "OffOnTheSecond$Voices" "BODIES" "[I") (.int 9)) (z := 30) (hs _ (by decide +kernel))
    · exact va_eqt (t := .elem (.static "OffOnTheSecond$Voices" "BODIES" "[I") (.int 10)) (z := 0) (hs _ (by decide +kernel))
    · exact va_eqt (t := .elem (.static "OffOnTheSecond$Voices" "BODIES" "[I") (.int 11)) (z := 0) (hs _ (by decide +kernel))
    · exact va_eqt (t := .elem (.static "OffOnTheSecond$Voices" "BODIES" "[I") (.int 12)) (z := 0) (hs _ (by decide +kernel))
    · exact va_eqt (t := .elem (.static "OffOnTheSecond$Voices" "BODIES" "[I") (.int 13)) (z := 0) (hs _ (by decide +kernel))
    · exact va_eqt (t := .elem (.static "OffOnTheSecond$Voices" "BODIES" "[I") (.int 14)) (z := 40) (hs _ (by decide +kernel))
    · exact va_eqt (t := .elem (.static "OffOnTheSecond$Voices" "BODIES" "[I") (.int 15)) (z := 0) (hs _ (by decide +kernel))
    · exact va_eqt (t := .elem (.static "OffOnTheSecond$Voices" "BODIES" "[I") (.int 16)) (z := 50) (hs _ (by decide +kernel))
    · exact va_eqt (t := .elem (.static "OffOnTheSecond$Voices" "BODIES" "[I") (.int 17)) (z := 0) (hs _ (by decide +kernel))
    · exact va_eqt (t := .elem (.static "OffOnTheSecond$Voices" "BODIES" "[I") (.int 18)) (z := 51) (hs _ (by decide +kernel))
    · exact va_eqt (t := .elem (.static "OffOnTheSecond$Voices" "BODIES" "[I") (.int 19)) (z := 0) (hs _ (by decide +kernel))
    · exact va_eqt (t := .elem (.static "OffOnTheSecond$Voices" "BODIES" "[I") (.int 20)) (z := 0) (hs _ (by decide +kernel))
    · exact va_eqt (t := .elem (.static "OffOnTheSecond$Voices" "BODIES" "[I") (.int 21)) (z := 60) (hs _ (by decide +kernel))
    · exact va_eqt (t := .elem (.static "OffOnTheSecond$Voices" "BODIES" "[I") (.int 22)) (z := 0) (hs _ (by decide +kernel))
    · exact va_eqt (t := .elem (.static "OffOnTheSecond$Voices" "BODIES" "[I") (.int 23)) (z := 0) (hs _ (by decide +kernel))
    · exact va_eqt (t := .elem (.static "OffOnTheSecond$Voices" "BODIES" "[I") (.int 24)) (z := 70) (hs _ (by decide +kernel))
    · exact va_eqt (t := .elem (.static "OffOnTheSecond$Voices" "BODIES" "[I") (.int 25)) (z := 71) (hs _ (by decide +kernel))
    · exact va_eqt (t := .elem (.static "OffOnTheSecond$Voices" "BODIES" "[I") (.int 26)) (z := 0) (hs _ (by decide +kernel))
    · exact va_eqt (t := .elem (.static "OffOnTheSecond$Voices" "BODIES" "[I") (.int 27)) (z := 0) (hs _ (by decide +kernel))) (fun q h1 h2 => absurd h1 (Nat.not_lt.mpr h2))
  exact ⟨t, va_Zref (hts (.laysStatic "OffOnTheSecond$Voices" "BODIES" "[I") (List.mem_of_getElem? (i := 900) rfl)) (hts (.initialized "OffOnTheSecond$Voices") (List.mem_of_getElem? (i := 80) rfl)) h1 (fun q h1 h2 => absurd h1 (Nat.not_lt.mpr h2)), h2⟩
theorem mx_h0_hi (L : Nat) (xs : Nat → Int32) (j i : Nat) (h : 1000 ≤ j) : (mx_h0 L xs).1 j i = mx_sv L xs (j - 1000) i := by
  show (if 1000 ≤ j then _ else _) = _
  rw [if_pos h]
set_option maxHeartbeats 4000000 in
set_option maxRecDepth 100000 in
/-- from the entry, over the run of the law in the small machine -/
theorem mx_start {p : Program} {e : Env} {s : State} {m : MethodId} {below : List Frame} {meth : Method} {c : Code} (l : Launch) {b L : Nat} {xs : Nat → Int32} (hL : L ≤ 3072) (hlaw : mx_R k_Law_law (mx_Cal mx_tab 500) 0 [some (.ref 1004), none, none, none] [] (mx_h0 L xs) (fun v h => v = some (.int 1) ∧ h.2.2.2 ≤ 110)) (C0 : lw_At p s m meth c b L xs) : W p l e room_1 s m #[Value.ref b] below meth c s.heap [] 0 0 (lw_Z below #[Value.ref b] s) (entryFrame m ([Value.ref b] : List Value).toArray 4) := by
  obtain ⟨hx, hb, hr, hml, hown, hts, hX, hbl, hlocks, hgv⟩ := id C0
  obtain ⟨c0, i0, hKn0⟩ := u_known (C := RX0) (T := TX0) (N := 6) (n := 6) hts (fun w hw => (List.mem_filter.mp (in_0 w hw)).1) (hts (.instantiable RX0 6) (List.mem_of_getElem? (i := 100) rfl))
  obtain ⟨c1, i1, hKn1⟩ := u_known (C := RX1) (T := TX1) (N := 2) (n := 2) hts (fun w hw => (List.mem_filter.mp (in_1 w hw)).1) (hts (.instantiable RX1 2) (List.mem_of_getElem? (i := 106) rfl))
  obtain ⟨c2, i2, hKn2⟩ := u_known (C := RX2) (T := TX2) (N := 3) (n := 3) hts (fun w hw => (List.mem_filter.mp (in_2 w hw)).1) (hts (.instantiable RX2 3) (List.mem_of_getElem? (i := 306) rfl))
  obtain ⟨c3, i3, hKn3⟩ := u_known (C := RX3) (T := TX3) (N := 5) (n := 5) hts (fun w hw => (List.mem_filter.mp (in_3 w hw)).1) (hts (.instantiable RX3 5) (List.mem_of_getElem? (i := 227) rfl))
  obtain ⟨c4, i4, hKn4⟩ := u_known (C := RX4) (T := TX4) (N := 5) (n := 5) hts (fun w hw => (List.mem_filter.mp (in_4 w hw)).1) (hts (.instantiable RX4 5) (List.mem_of_getElem? (i := 280) rfl))
  obtain ⟨c5, i5, hKn5⟩ := u_known (C := RX5) (T := TX5) (N := 6) (n := 6) hts (fun w hw => (List.mem_filter.mp (in_5 w hw)).1) (hts (.instantiable RX5 6) (List.mem_of_getElem? (i := 252) rfl))
  obtain ⟨c6, i6, hKn6⟩ := u_known (C := RX6) (T := TX6) (N := 2) (n := 2) hts (fun w hw => (List.mem_filter.mp (in_6 w hw)).1) (hts (.instantiable RX6 2) (List.mem_of_getElem? (i := 352) rfl))
  obtain ⟨c7, i7, hKn7⟩ := u_known (C := RX7) (T := TX7) (N := 9) (n := 9) hts (fun w hw => (List.mem_filter.mp (in_7 w hw)).1) (hts (.instantiable RX7 9) (List.mem_of_getElem? (i := 94) rfl))
  obtain ⟨c8, i8, hKn8⟩ := u_known (C := RX8) (T := TX8) (N := 3) (n := 3) hts (fun w hw => (List.mem_filter.mp (in_8 w hw)).1) (hts (.instantiable RX8 3) (List.mem_of_getElem? (i := 168) rfl))
  obtain ⟨c9, i9, hKn9⟩ := u_known (C := RX9) (T := TX9) (N := 5) (n := 5) hts (fun w hw => (List.mem_filter.mp (in_9 w hw)).1) (hts (.instantiable RX9 5) (List.mem_of_getElem? (i := 325) rfl))
  obtain ⟨c10, i10, hKn10⟩ := u_known (C := RX10) (T := TX10) (N := 10) (n := 10) hts (fun w hw => (List.mem_filter.mp (in_10 w hw)).1) (hts (.instantiable RX10 10) (List.mem_of_getElem? (i := 86) rfl))
  obtain ⟨c11, i11, hKn11⟩ := u_known (C := RX11) (T := TX11) (N := 25) (n := 25) hts (fun w hw => (List.mem_filter.mp (in_11 w hw)).1) (hts (.instantiable RX11 25) (List.mem_of_getElem? (i := 1001) rfl))
  obtain ⟨dC, dI, hKc⟩ : ∃ (dC : Nat → ClassId) (dI : Nat → Nat → Nat), ∀ (k : Nat) (q : vw_C), mx_cl[k]? = some q → u_Kn s q.1 q.2.1 q.2.2 (dC k) (dI k) := by
    refine ⟨fun k => if k = 0 then c0 else if k = 1 then c1 else if k = 2 then c2 else if k = 3 then c3 else if k = 4 then c4 else if k = 5 then c5 else if k = 6 then c6 else if k = 7 then c7 else if k = 8 then c8 else if k = 9 then c9 else if k = 10 then c10 else c11, fun k => if k = 0 then i0 else if k = 1 then i1 else if k = 2 then i2 else if k = 3 then i3 else if k = 4 then i4 else if k = 5 then i5 else if k = 6 then i6 else if k = 7 then i7 else if k = 8 then i8 else if k = 9 then i9 else if k = 10 then i10 else i11, ?_⟩
    intro k q hq
    match k, hq with
    | 0, hq => cases hq; exact hKn0
    | 1, hq => cases hq; exact hKn1
    | 2, hq => cases hq; exact hKn2
    | 3, hq => cases hq; exact hKn3
    | 4, hq => cases hq; exact hKn4
    | 5, hq => cases hq; exact hKn5
    | 6, hq => cases hq; exact hKn6
    | 7, hq => cases hq; exact hKn7
    | 8, hq => cases hq; exact hKn8
    | 9, hq => cases hq; exact hKn9
    | 10, hq => cases hq; exact hKn10
    | 11, hq => cases hq; exact hKn11
    | k + 12, hq => simp [mx_cl] at hq
  obtain ⟨cI, kI, pI, fI, aI, bI⟩ := Cond.arrayClass_spec (hts (.arrayClass .int) (List.mem_of_getElem? (i := 127) rfl))
  obtain ⟨cL, kL, pL, fL, aL, bL⟩ := Cond.arrayClass_spec (hts (.arrayClass .long) (List.mem_of_getElem? (i := 323) rfl))
  have hAO : va_AO RX6 s := va_AO.of (hts (.arrayOver (.object RX6)) (List.mem_of_getElem? (i := 351) rfl))
  obtain ⟨pS, cS, kS, fC, -, aS, bS, fS⟩ := Cond.arrayOver_spec hAO
  have hK : va_K (dC, dI) mx_cl [(cI, .int), (cL, .long), (cS, .object RX6)] s := ⟨hKc, fun k q hk => by
    match k, hk with
    | 0, hk => cases hk; exact ⟨fun n z => ⟨fun k h => (by cases h), kI, aI, pI, bI⟩, fI⟩
    | 1, hk => cases hk; exact ⟨fun n z => ⟨fun k h => (by cases h), kL, aL, pL, bL⟩, fL⟩
    | 2, hk => cases hk; exact ⟨fun n z => ⟨fun k h => (by cases h), kS, aS, pS, bS⟩, kS, pS, aS, bS, fC, fS⟩
    | k + 3, hk => simp at hk⟩
  obtain ⟨t0, hZ0, hT0⟩ := mx_st_0 (L := L) (xs := xs) hgv hts
  obtain ⟨t1, hZ1, hT1⟩ := mx_st_1 (L := L) (xs := xs) hgv hts
  obtain ⟨t2, hZ2, hT2⟩ := mx_st_2 (L := L) (xs := xs) hgv hts
  obtain ⟨t3, hZ3, hT3⟩ := mx_st_3 (L := L) (xs := xs) hgv hts
  obtain ⟨scr, z1, z2, z3, z4, z5⟩ := hX
  have hT4 : va_T .int b L (fun i => .int (mx_sv L xs 4 i)) (fun q : Nat => s.heap.size ≤ q) s s.heap := ⟨scr, z1, z2, z3, by omega, by rw [z4], fun j hj => z5 j hj, Nat.not_le.mpr hbl⟩
  obtain ⟨G, hG⟩ : ∃ G : mx_G, G = (s.heap.size, (fun j => if j = 0 then t0 else if j = 1 then t1 else if j = 2 then t2 else if j = 3 then t3 else b), (dC, dI), (cI, cL, cS), mx_sv L xs) := ⟨_, rfl⟩
  have hE : mx_Env G s := by
    subst hG
    refine ⟨Nat.le_refl _, hK, fun q hq => ?_, hAO, fun q hq => ?_, fun j hj => ?_⟩
    · simp only [mx_nest, List.mem_cons, List.not_mem_nil, or_false] at hq
      rcases hq with rfl | rfl | rfl | rfl | rfl | rfl | rfl | rfl | rfl | rfl
      · exact va_Nw.of rfl (hts _ (List.mem_of_getElem? (i := 101) rfl))
      · exact va_Nw.of rfl (hts _ (List.mem_of_getElem? (i := 169) rfl))
      · exact va_Nw.of rfl (hts _ (List.mem_of_getElem? (i := 620) rfl))
      · exact va_Nw.of rfl (hts _ (List.mem_of_getElem? (i := 95) rfl))
      · exact va_Nw.of rfl (hts _ (List.mem_of_getElem? (i := 228) rfl))
      · exact va_Nw.of rfl (hts _ (List.mem_of_getElem? (i := 253) rfl))
      · exact va_Nw.of rfl (hts _ (List.mem_of_getElem? (i := 281) rfl))
      · exact va_Nw.of rfl (hts _ (List.mem_of_getElem? (i := 307) rfl))
      · exact va_Nw.of rfl (hts _ (List.mem_of_getElem? (i := 326) rfl))
      · exact va_Nw.of rfl (hts _ (List.mem_of_getElem? (i := 353) rfl))
    · simp only [mx_stat, List.mem_cons, List.not_mem_nil, or_false] at hq
      rcases hq with rfl | rfl | rfl | rfl
      · exact hZ0
      · exact hZ1
      · exact hZ2
      · exact hZ3
    · rcases (show j = 0 ∨ j = 1 ∨ j = 2 ∨ j = 3 ∨ j = 4 by omega) with rfl | rfl | rfl | rfl | rfl
      · exact hT0
      · exact hT1
      · exact hT2
      · exact hT3
      · have e1 : mx_sln (s.heap.size, (fun j => if j = 0 then t0 else if j = 1 then t1 else if j = 2 then t2 else if j = 3 then t3 else b), (dC, dI), (cI, cL, cS), mx_sv L xs) 4 = L := by
          show (nI L).toNatClampNeg = L
          exact nI_clamp (by omega)
        rw [e1]
        exact hT4
  have hRel : mx_Rel G (mx_h0 L xs) s.heap := by
    subst hG
    refine ⟨fun k q h => ?_, fun _ => rfl, Nat.zero_le _, fun j i hj => mx_h0_hi L xs j i hj⟩
    have : (mx_ws (s.heap.size, (fun j => if j = 0 then t0 else if j = 1 then t1 else if j = 2 then t2 else if j = 3 then t3 else b), (dC, dI), (cI, cL, cS), mx_sv L xs) (mx_h0 L xs)) = [] := rfl
    rw [this] at h
    simp at h
  have had : mx_cv G (.ref 1004) = .ref b := by
    subst hG
    rfl
  have hCx : mx_Cx p s m #[Value.ref b] meth c G "OffOnTheSecondLaw" code 4 meth.name := ⟨⟨hx, hb, hml, hown, fun w hw => hts w (List.mem_filter.mp hw).1⟩, hE, rfl⟩
  have hA : ∀ q, mx_A G q → s.heap.size ≤ q := by
    subst hG
    exact fun q h => h
  have key : ∀ nm, (∀ q ∈ k_Law_law, mx_Sim mx_tab "OffOnTheSecondLaw" code 4 ret nm q.1 q.2) → nm = meth.name → W p l e room_1 s m #[Value.ref b] below meth c s.heap [] 0 0 (lw_Z below #[Value.ref b] s) (entryFrame m ([Value.ref b] : List Value).toArray 4) := by
    intro nm hsim hnm
    subst hnm
    have K := mx_run (l := l) (e := e) (R := room_1) (below := below) (Q := lw_Z below #[Value.ref b] s) (n0 := 0) (N1 := 110) (d := 500) (rt := ret) hCx (mx_sound mx_all 500) (mx_Cal_up mx_tab 500) (by decide) (by decide) (by decide) (by show mx_sl 110 - mx_sl 0 ≤ 7302250; decide +kernel) hsim (P := fun v h => v = some (.int 1) ∧ h.2.2.2 ≤ 110) ?_ hlaw
    · have hl := lv_entry ([.ref b]) (n := 4) (Nat.le_of_ble_eq_true rfl)
      rw [lg_entry_eq]
      refine K s.heap [] _ (Nat.le_refl _) hRel ?_ va_S.rf
      rw [hml]
      have := mx_LR.entry (G := G) (vs := [.ref 1004]) (nL := 4) (by decide)
      rw [List.map_cons, List.map_nil, had] at this
      exact this
    · rintro v h' ⟨rfl, hn⟩
      refine ⟨fun H locs lsc pc a1 a2 a4 hret => ?_, hn⟩
      rcases hret with ⟨e1, -⟩ | ⟨x, ty, e1, e2, e3, hdg⟩ | ⟨x, e1, -⟩ | ⟨e1, -⟩
      · cases e1
      · cases e1
        refine va_forget (fun q hq => hA _ (a4.2.2 q hq)) ?_
        have hs := mx_sl_le hn
        have hs2 : mx_sl 110 ≤ 7302250 := by decide +kernel
        refine W.widen (k := 600000) (n := 7302250) (by omega) (by omega) ?_
        exact lw_ret hx hb hr hlocks hdg
      · cases e1
      · rcases e1 with e1 | ⟨_, e1⟩ <;> cases e1
  exact key _ (s_Law_law meth.name) rfl
