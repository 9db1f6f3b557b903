/-! what Inv asks of which cells -/
theorem TextR.congr {I I' : mx_I} {u t mS b : Nat} (h1 : ∀ a j, t ≤ a → a ≤ t + 2 → I' a j = I a j) (h2 : ∀ j, I' mS j = I mS j) (h : TextR I u t mS b) : TextR I' u t mS b := by
  unfold TextR at h ⊢
  simp (disch := omega) only [h1, h2]
  exact h
theorem ItemR.congr {I I' : mx_I} {o mS i p : Nat} (h1 : ∀ a j, 1 + o ≤ a → a ≤ 26 + o → I' a j = I a j) (h2 : ∀ j, I' mS j = I mS j) (h : ItemR I o mS i p) : ItemR I' o mS i p := by
  unfold ItemR at h ⊢
  simp (disch := omega) only [h1, h2]
  exact h
theorem Snap.congr {I I' : mx_I} {o mS : Nat} (h1 : ∀ a j, 1 + o ≤ a → a ≤ 26 + o → I' a j = I a j) (h2 : ∀ j, I' mS j = I mS j) (h : Snap I o mS) : Snap I' o mS := by
  obtain ⟨⟨n, pl, od, a1, a2, a3, a4, a5, a6⟩, a7, a8, a9, a10, a11⟩ := h
  refine ⟨⟨n, pl, od, a1, ?_, ?_, a4, fun i hi => (a5 i hi).congr h1 h2, ?_⟩, ?_, ?_, ?_, a10.congr (fun a j q1 q2 => h1 a j (by omega) (by omega)) h2, a11.congr (fun a j q1 q2 => h1 a j (by omega) (by omega)) h2⟩
  · rw [h1 _ _ (by omega) (by omega)]; exact a2
  · rw [h2]; exact a3
  · simp (disch := omega) only [h1]; exact a6
  · unfold ClockR at a7 ⊢; simp (disch := omega) only [h1, h2]; exact a7
  · unfold TapeR at a8 ⊢; simp (disch := omega) only [h1, h2]; exact a8
  · unfold WaitR at a9 ⊢; simp (disch := omega) only [h1, h2]; exact a9
theorem SheetR.congr {I I' : mx_I} {q : Nat} (hq : q < 4) (h1 : ∀ a j, 82 ≤ a → a ≤ 93 → I' a j = I a j) (h2 : ∀ a j, 106 ≤ a → a ≤ 108 → I' a j = I a j) (h : SheetR I q) : SheetR I' q := by
  unfold SheetR at h ⊢
  simp (disch := omega) only [h1, h2]
  exact h
theorem TraceR.congr {I I' : mx_I} (h1 : ∀ a j, a = 79 ∨ a = 80 ∨ a = 105 → I' a j = I a j) (h2 : I' 94 17 = I 94 17) (h3 : ∀ a, 63 ≤ a → a ≤ 66 → I' a 0 = I a 0) (h : TraceR I) : TraceR I' := by
  obtain ⟨hs, h⟩ := h
  refine ⟨fun a q1 q2 => by rw [h3 a q1 q2]; exact hs a q1 q2, ?_⟩
  simp (disch := omega) only [h1, h2]
  exact h
/-- a change of none of the cells that Inv asks of, but errors -/
theorem Inv.congr {L : Nat} {xs : Nat → Int32} {I I' : mx_I} (h1 : ∀ a j, 1 ≤ a → a ≤ 52 → I' a j = I a j) (h2 : ∀ a j, 79 ≤ a → a ≤ 93 → I' a j = I a j) (h3 : ∀ a j, (a = 95 ∨ a = 96 ∨ 105 ≤ a) → a ≠ 109 → I' a j = I a j) (h4 : I' 0 2 = I 0 2) (h5 : I' 94 2 = I 94 2) (h6 : I' 94 17 = I 94 17) (h7 : ErrR I') (h8 : ∀ a, 63 ≤ a → a ≤ 66 → I' a 0 = I a 0) (h : Inv L xs I) : Inv L xs I' := by
  obtain ⟨b1, b2, b3, b4, b5, b6⟩ := h
  refine ⟨b1.congr (fun a j q1 q2 => h1 a j (by omega) (by omega)) (fun j => h3 95 j (by omega) (by omega)), ⟨by rw [h4, h5]; exact b2.1, fun q => (b2.2 (by rw [← h4]; exact q)).congr (fun a j q1 q2 => h1 a j (by omega) (by omega)) (fun j => h3 96 j (by omega) (by omega))⟩, h7, b4.congr (fun a j q => ?_) h6 h8, fun q hq => (b5 q hq).congr hq (fun a j q1 q2 => h2 a j (by omega) (by omega)) (fun a j q1 q2 => h3 a j (by omega) (by omega)), fun a i ha => by rw [h3 a i (by omega) (by omega)]; exact b6 a i ha⟩
  rcases q with rfl | rfl | rfl
  · exact h2 _ j (by omega) (by omega)
  · exact h2 _ j (by omega) (by omega)
  · exact h3 _ j (by omega) (by omega)
def eX (I : mx_I) (k : Nat) : mx_I := mx_ups I 54 k (I 54 k + 1)
def eM (I : mx_I) (k : Nat) : mx_I := mx_ups I 97 k (I 97 k + 1)
theorem eX_a (I : mx_I) (k : Nat) {a : Nat} (h : a ≠ 54) (j : Nat) : eX I k a j = I a j := ups_a _ _ _ _ h
theorem eM_a (I : mx_I) (k : Nat) {a : Nat} (h : a ≠ 97) (j : Nat) : eM I k a j = I a j := ups_a _ _ _ _ h
theorem Inv.err {L : Nat} {xs : Nat → Int32} {I : mx_I} (k : Nat) (h : Inv L xs I) : Inv L xs (eM (eX I k) k) := by
  have e : ∀ a j, a ≠ 54 → a ≠ 97 → eM (eX I k) k a j = I a j := fun a j h1 h2 => by rw [eM_a _ _ h2, eX_a _ _ h1]
  have h7 : ErrR (eM (eX I k) k) := by
    intro z hz
    have h0 := h.2.2.1 z hz
    rw [eM_a _ _ (by omega)]
    unfold eM
    by_cases hk : z = k
    · subst hk
      rw [ups_same, eX_a (a := 97) _ _ (by decide), ← h0]
      exact ups_same _ _ _ _
    · rw [ups_k _ _ hk, eX_a (a := 97) _ _ (by decide), ← h0]
      exact ups_k _ _ hk
  exact h.congr (fun a j q1 q2 => e a j (by omega) (by omega)) (fun a j q1 q2 => e a j (by omega) (by omega)) (fun a j q1 q2 => e a j (by omega) (by omega)) (e _ _ (by omega) (by omega)) (e _ _ (by omega) (by omega)) (e _ _ (by omega) (by omega)) h7 (fun a q1 q2 => e a 0 (by omega) (by omega))
theorem StatR.err {L : Nat} {xs : Nat → Int32} {I : mx_I} (k : Nat) (h : StatR L xs I) : StatR L xs (eX I k) := fun a i ha => by rw [eX_a _ _ (by omega)]; exact h a i ha
theorem L53 : isLn 53 = true := by decide +kernel
theorem q_Main_error {d k : Nat} (I : mx_I) (J : mx_J) (hk : k < 7) : mx_Cal mx_tab (d + 2) 135 [.ref 0, .int (nI k)] (mk I J) (some (.int (-1000000000 - nI k))) (mk (eX I k) J) := by
  refine mx_Cal_in (ls := [some (.ref 0), some (.int (nI k))]) tab_135 (by rw [mx_rcv, oc_0]; trivial) (Nat.le_of_ble_eq_true rfl) rfl ?_
  have e : at_ I 53 (nI k) = I 54 k := at_nI (r := 53) (hk : k < ln 53) (by decide +kernel)
  simp only [x_Main_error_0, x_Main_error_1, x_Main_error_4, x_Main_error_5, x_Main_error_6, x_Main_error_9, x_Main_error_10, x_Main_error_13, x_Main_error_14, x_Main_error_15, x_Main_error_18, x_Main_error_21, x_Main_error_22, x_Main_error_23, mk_I, mk_J, mk_Q, mk_n, mk_sI, mk_sJ, Option.toList_some, Option.toList_none, List.cons_append, List.nil_append, true_and, and_true, oc_0, rt_0_0, rt_0_1, rt_0_3, rt_0_4, rt_0_5, rt_0_6, rt_0_7, rt_0_8, rt_0_9, mx_call (q_Line_at L53 _ _ _) (Nat.le_add_left 1 d), mx_call (q_Line_set L53 _ _ (show k < ln 53 from hk) _) (Nat.le_add_left 1 d), e]
  rfl
theorem x_err_1 {d : Nat} (I : mx_I) (J : mx_J) : mx_Cal mx_tab (d + 2) 135 [.ref 0, .int 1] (mk I J) (some (.int (-1000000000 - nI 1))) (mk (eX I 1) J) := q_Main_error (k := 1) I J (by decide)
theorem x_err_2 {d : Nat} (I : mx_I) (J : mx_J) : mx_Cal mx_tab (d + 2) 135 [.ref 0, .int 2] (mk I J) (some (.int (-1000000000 - nI 2))) (mk (eX I 2) J) := q_Main_error (k := 2) I J (by decide)
theorem x_err_3 {d : Nat} (I : mx_I) (J : mx_J) : mx_Cal mx_tab (d + 2) 135 [.ref 0, .int 3] (mk I J) (some (.int (-1000000000 - nI 3))) (mk (eX I 3) J) := q_Main_error (k := 3) I J (by decide)
theorem x_err_4 {d : Nat} (I : mx_I) (J : mx_J) : mx_Cal mx_tab (d + 2) 135 [.ref 0, .int 4] (mk I J) (some (.int (-1000000000 - nI 4))) (mk (eX I 4) J) := q_Main_error (k := 4) I J (by decide)
theorem x_err_5 {d : Nat} (I : mx_I) (J : mx_J) : mx_Cal mx_tab (d + 2) 135 [.ref 0, .int 5] (mk I J) (some (.int (-1000000000 - nI 5))) (mk (eX I 5) J) := q_Main_error (k := 5) I J (by decide)
theorem x_err_6 {d : Nat} (I : mx_I) (J : mx_J) : mx_Cal mx_tab (d + 2) 135 [.ref 0, .int 6] (mk I J) (some (.int (-1000000000 - nI 6))) (mk (eX I 6) J) := q_Main_error (k := 6) I J (by decide)
theorem ItemsR.congr {I I' : mx_I} {o mS n : Nat} {pl od : Nat → Nat} (h1 : ∀ a j, 2 + o ≤ a → a ≤ 12 + o → I' a j = I a j) (h2 : ∀ j, j = 6 ∨ 8 ≤ j ∧ j < 53 → I' mS j = I mS j) (h : ItemsR I o mS n pl od) : ItemsR I' o mS n pl od := by
  obtain ⟨a1, a2, a3, a4, a5, a6⟩ := h
  refine ⟨a1, ?_, ?_, a4, fun i hi => ?_, ?_⟩
  · rw [h1 _ _ (by omega) (by omega)]; exact a2
  · rw [h2 _ (by omega)]; exact a3
  · have := a5 i hi
    unfold ItemR at this ⊢
    simp (disch := omega) only [h1, h2]
    exact this
  · simp (disch := omega) only [h1]; exact a6
theorem ClockR.congr {I I' : mx_I} {o mS : Nat} (h1 : ∀ j, I' (1 + o) j = I (1 + o) j) (h2 : ∀ j, j < 4 → I' mS j = I mS j) (h : ClockR I o mS) : ClockR I' o mS := by
  unfold ClockR at h ⊢
  simp (disch := omega) only [h1, h2]
  exact h
theorem TapeR.congr {I I' : mx_I} {o mS : Nat} (h1 : ∀ a j, 13 + o ≤ a → a ≤ 14 + o → I' a j = I a j) (h2 : ∀ j, j = 4 ∨ 303 ≤ j ∧ j < 363 → I' mS j = I mS j) (h : TapeR I o mS) : TapeR I' o mS := by
  obtain ⟨t, b1, b2, b3, b4⟩ := h
  refine ⟨t, b1, by rw [h1 _ _ (by omega) (by omega)]; exact b2, by rw [h2 _ (by omega)]; exact b3, fun j hj => ?_⟩
  rw [h1 _ _ (by omega) (by omega), h2 _ (by omega)]
  exact b4 j hj
theorem WaitR.congr {I I' : mx_I} {o mS : Nat} (h1 : ∀ a j, 15 + o ≤ a → a ≤ 16 + o → I' a j = I a j) (h2 : ∀ j, j = 5 ∨ 363 ≤ j ∧ j < 387 → I' mS j = I mS j) (h : WaitR I o mS) : WaitR I' o mS := by
  obtain ⟨t, b1, b2, b3, b4⟩ := h
  refine ⟨t, b1, by rw [h1 _ _ (by omega) (by omega)]; exact b2, by rw [h2 _ (by omega)]; exact b3, fun j hj => ?_⟩
  rw [h1 _ _ (by omega) (by omega), h2 _ (by omega)]
  exact b4 j hj
theorem depC_congr {f g : Nat → Int32} : ∀ {c : Nat}, (∀ j, j < 2 * c → f j = g j) → depC f c = depC g c
  | 0, _ => rfl
  | c + 1, h => by
    unfold depC
    rw [depC_congr (fun j hj => h j (by omega)), h (2 * c) (by omega)]
theorem WfC.congr {u : Nat} {f g : Nat → Int32} {c : Nat} (h : ∀ j, j < 2 * c → f j = g j) (hw : WfC u f c) : WfC u g c := by
  obtain ⟨h1, h2⟩ := hw
  refine ⟨by rw [← depC_congr h]; exact h1, fun k hk => ?_⟩
  rw [← h (2 * k) (by omega), ← h (2 * k + 1) (by omega), ← depC_congr (c := k) (fun j hj => h j (by omega))]
  exact h2 k hk
theorem TextR.congr2 {I I' : mx_I} {u t mS b : Nat} (h1 : ∀ a j, t ≤ a → a ≤ t + 2 → I' a j = I a j) (h2 : ∀ j, b ≤ j → j < b + 125 → I' mS j = I mS j) (h : TextR I u t mS b) : TextR I' u t mS b := by
  obtain ⟨⟨c0, d1, d2⟩, h⟩ := h
  refine ⟨⟨c0, d1, by rw [h1 _ _ (by omega) (by omega)]; exact d2⟩, ?_⟩
  rw [h1 t 0 (by omega) (by omega), h2 b (by omega) (by omega)]
  rcases h with h | ⟨h, c, e1, e2, e3, e4, e5, e6⟩
  · exact Or.inl h
  · refine Or.inr ⟨h, c, e1, e2, e3, by rw [h1 _ _ (by omega) (by omega)]; exact e4, e5.congr (fun j hj => (h2 _ (by omega) (by omega)).symm), fun k hk => ?_⟩
    rw [h1 _ _ (by omega) (by omega), h2 _ (by omega) (by omega), h2 _ (by omega) (by omega)]
    exact e6 k hk
/-- a change of the present state alone -/
theorem Inv.snap {L : Nat} {xs : Nat → Int32} {I I' : mx_I} (h : Inv L xs I) (h1 : ∀ a j, (a = 0 ∨ 27 ≤ a ∧ a ≤ 54 ∨ 63 ≤ a ∧ a ≤ 66 ∨ 79 ≤ a ∧ a ≤ 94 ∨ a = 96 ∨ a = 97 ∨ 105 ≤ a) → I' a j = I a j) (hs : Snap I' 0 95) : Inv L xs I' := by
  obtain ⟨b1, b2, b3, b4, b5, b6⟩ := h
  refine ⟨hs, ⟨by rw [h1 0 2 (by omega), h1 94 2 (by omega)]; exact b2.1, fun q => (b2.2 (by rw [← h1 0 2 (by omega)]; exact q)).congr (fun a j q1 q2 => h1 a j (by omega)) (fun j => h1 96 j (by omega))⟩, fun k hk => by rw [h1 54 k (by omega), h1 97 k (by omega)]; exact b3 k hk, b4.congr (fun a j q => h1 a j (by omega)) (h1 _ _ (by omega)) (fun a q1 q2 => h1 a 0 (by omega)), fun q hq => (b5 q hq).congr hq (fun a j q1 q2 => h1 a j (by omega)) (fun a j q1 q2 => h1 a j (by omega)), fun a i ha => by rw [h1 a i (by omega)]; exact b6 a i ha⟩
