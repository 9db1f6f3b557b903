/-! image, restore -/
theorem q_tfL {r q rc qc n m : Nat} (hr : isLn r = true) (hq : isLn q = true) (e1 : lc r = rc) (e2 : lc q = qc) (e3 : ln r = n) (e4 : ln q = n) (hne : rc ≠ qc) (hn2 : r ≠ rc) (I : mx_I) (J : mx_J) (hm : I q 1 = nI m) (hml : m ≤ n) : ∃ I', (I' r 1 = I q 1 ∧ (∀ j, j < n → I' rc j = I qc j) ∧ ∀ a j, a ≠ rc → ¬ (a = r ∧ j = 1) → I' a j = I a j) ∧ ∀ d, mx_Cal mx_tab (d + 2) 10 [.ref r, .ref q] (mk I J) none (mk I' J) := by
  refine ⟨cpL I r q, ⟨?_, fun j hj => ?_, fun a j h1 h2 => ?_⟩, fun d => q_Line_takeFrom hr hq (by rw [e1, e2]; exact hne.symm) (by rw [e3, e4]) I J hm (by rw [e4]; exact hml)⟩
  · unfold cpL
    exact ups_same _ _ _ _
  · unfold cpL
    rw [ups_a _ _ _ _ (fun h => hn2 h.symm), e1, row_same, e3, if_pos hj, e2]
  · unfold cpL
    rw [ups_ne _ _ (by omega), e1, row_ne _ _ _ h1]
theorem q_tf3_0_26 {m : Nat} (I : mx_I) (J : mx_J) (hm : I 3 1 = nI m) (hml : m ≤ 9) : ∃ I', (I' 29 1 = I 3 1 ∧ (∀ j, j < 9 → I' 30 j = I 4 j) ∧ ∀ a j, a ≠ 30 → ¬ (a = 29 ∧ j = 1) → I' a j = I a j) ∧ ∀ d, mx_Cal mx_tab (d + 2) 10 [.ref 29, .ref 3] (mk I J) none (mk I' J) := q_tfL (by decide +kernel) (by decide +kernel) (by decide +kernel) (by decide +kernel) (by decide +kernel) (by decide +kernel) (by decide) (by decide) I J hm hml
theorem q_tf5_0_26 {m : Nat} (I : mx_I) (J : mx_J) (hm : I 5 1 = nI m) (hml : m ≤ 9) : ∃ I', (I' 31 1 = I 5 1 ∧ (∀ j, j < 9 → I' 32 j = I 6 j) ∧ ∀ a j, a ≠ 32 → ¬ (a = 31 ∧ j = 1) → I' a j = I a j) ∧ ∀ d, mx_Cal mx_tab (d + 2) 10 [.ref 31, .ref 5] (mk I J) none (mk I' J) := q_tfL (by decide +kernel) (by decide +kernel) (by decide +kernel) (by decide +kernel) (by decide +kernel) (by decide +kernel) (by decide) (by decide) I J hm hml
theorem q_tf7_0_26 {m : Nat} (I : mx_I) (J : mx_J) (hm : I 7 1 = nI m) (hml : m ≤ 9) : ∃ I', (I' 33 1 = I 7 1 ∧ (∀ j, j < 9 → I' 34 j = I 8 j) ∧ ∀ a j, a ≠ 34 → ¬ (a = 33 ∧ j = 1) → I' a j = I a j) ∧ ∀ d, mx_Cal mx_tab (d + 2) 10 [.ref 33, .ref 7] (mk I J) none (mk I' J) := q_tfL (by decide +kernel) (by decide +kernel) (by decide +kernel) (by decide +kernel) (by decide +kernel) (by decide +kernel) (by decide) (by decide) I J hm hml
theorem q_tf9_0_26 {m : Nat} (I : mx_I) (J : mx_J) (hm : I 9 1 = nI m) (hml : m ≤ 9) : ∃ I', (I' 35 1 = I 9 1 ∧ (∀ j, j < 9 → I' 36 j = I 10 j) ∧ ∀ a j, a ≠ 36 → ¬ (a = 35 ∧ j = 1) → I' a j = I a j) ∧ ∀ d, mx_Cal mx_tab (d + 2) 10 [.ref 35, .ref 9] (mk I J) none (mk I' J) := q_tfL (by decide +kernel) (by decide +kernel) (by decide +kernel) (by decide +kernel) (by decide +kernel) (by decide +kernel) (by decide) (by decide) I J hm hml
theorem q_tf11_0_26 {m : Nat} (I : mx_I) (J : mx_J) (hm : I 11 1 = nI m) (hml : m ≤ 9) : ∃ I', (I' 37 1 = I 11 1 ∧ (∀ j, j < 9 → I' 38 j = I 12 j) ∧ ∀ a j, a ≠ 38 → ¬ (a = 37 ∧ j = 1) → I' a j = I a j) ∧ ∀ d, mx_Cal mx_tab (d + 2) 10 [.ref 37, .ref 11] (mk I J) none (mk I' J) := q_tfL (by decide +kernel) (by decide +kernel) (by decide +kernel) (by decide +kernel) (by decide +kernel) (by decide +kernel) (by decide) (by decide) I J hm hml
theorem q_tf13_0_26 {m : Nat} (I : mx_I) (J : mx_J) (hm : I 13 1 = nI m) (hml : m ≤ 60) : ∃ I', (I' 39 1 = I 13 1 ∧ (∀ j, j < 60 → I' 40 j = I 14 j) ∧ ∀ a j, a ≠ 40 → ¬ (a = 39 ∧ j = 1) → I' a j = I a j) ∧ ∀ d, mx_Cal mx_tab (d + 2) 10 [.ref 39, .ref 13] (mk I J) none (mk I' J) := q_tfL (by decide +kernel) (by decide +kernel) (by decide +kernel) (by decide +kernel) (by decide +kernel) (by decide +kernel) (by decide) (by decide) I J hm hml
theorem q_tf15_0_26 {m : Nat} (I : mx_I) (J : mx_J) (hm : I 15 1 = nI m) (hml : m ≤ 24) : ∃ I', (I' 41 1 = I 15 1 ∧ (∀ j, j < 24 → I' 42 j = I 16 j) ∧ ∀ a j, a ≠ 42 → ¬ (a = 41 ∧ j = 1) → I' a j = I a j) ∧ ∀ d, mx_Cal mx_tab (d + 2) 10 [.ref 41, .ref 15] (mk I J) none (mk I' J) := q_tfL (by decide +kernel) (by decide +kernel) (by decide +kernel) (by decide +kernel) (by decide +kernel) (by decide +kernel) (by decide) (by decide) I J hm hml
theorem q_tf18_0_26 {m : Nat} (I : mx_I) (J : mx_J) (hm : I 18 1 = nI m) (hml : m ≤ 60) : ∃ I', (I' 44 1 = I 18 1 ∧ (∀ j, j < 60 → I' 45 j = I 19 j) ∧ ∀ a j, a ≠ 45 → ¬ (a = 44 ∧ j = 1) → I' a j = I a j) ∧ ∀ d, mx_Cal mx_tab (d + 2) 10 [.ref 44, .ref 18] (mk I J) none (mk I' J) := q_tfL (by decide +kernel) (by decide +kernel) (by decide +kernel) (by decide +kernel) (by decide +kernel) (by decide +kernel) (by decide) (by decide) I J hm hml
theorem q_tf23_0_26 {m : Nat} (I : mx_I) (J : mx_J) (hm : I 23 1 = nI m) (hml : m ≤ 60) : ∃ I', (I' 49 1 = I 23 1 ∧ (∀ j, j < 60 → I' 50 j = I 24 j) ∧ ∀ a j, a ≠ 50 → ¬ (a = 49 ∧ j = 1) → I' a j = I a j) ∧ ∀ d, mx_Cal mx_tab (d + 2) 10 [.ref 49, .ref 23] (mk I J) none (mk I' J) := q_tfL (by decide +kernel) (by decide +kernel) (by decide +kernel) (by decide +kernel) (by decide +kernel) (by decide +kernel) (by decide) (by decide) I J hm hml
theorem q_tfItems_0_26 (I : mx_I) (J : mx_J) (h3 : I 3 1 = 0) (h5 : I 5 1 = 0) (h7 : I 7 1 = 0) (h9 : I 9 1 = 0) (h11 : I 11 1 = 0) : ∃ I', (I' 28 0 = I 2 0 ∧ I' 29 1 = I 3 1 ∧ I' 31 1 = I 5 1 ∧ I' 33 1 = I 7 1 ∧ I' 35 1 = I 9 1 ∧ I' 37 1 = I 11 1 ∧ (∀ j, j < 9 → I' 30 j = I 4 j) ∧ (∀ j, j < 9 → I' 32 j = I 6 j) ∧ (∀ j, j < 9 → I' 34 j = I 8 j) ∧ (∀ j, j < 9 → I' 36 j = I 10 j) ∧ (∀ j, j < 9 → I' 38 j = I 12 j) ∧ ∀ a j, ¬ (28 ≤ a ∧ a ≤ 38) → I' a j = I a j) ∧ ∀ d, mx_Cal mx_tab (d + 3) 34 [.ref 28, .ref 2] (mk I J) none (mk I' J) := by
  obtain ⟨I1, ⟨a1, b1, f1⟩, c1⟩ := q_tf3_0_26 (m := 0) (mx_ups I 28 0 (I 2 0)) J (by simp (disch := omega) only [ups_ne]; exact h3) (by omega)
  obtain ⟨I2, ⟨a2, b2, f2⟩, c2⟩ := q_tf5_0_26 (m := 0) I1 J (by simp (disch := omega) only [f1, ups_ne]; exact h5) (by omega)
  obtain ⟨I3, ⟨a3, b3, f3⟩, c3⟩ := q_tf7_0_26 (m := 0) I2 J (by simp (disch := omega) only [f2, f1, ups_ne]; exact h7) (by omega)
  obtain ⟨I4, ⟨a4, b4, f4⟩, c4⟩ := q_tf9_0_26 (m := 0) I3 J (by simp (disch := omega) only [f3, f2, f1, ups_ne]; exact h9) (by omega)
  obtain ⟨I5, ⟨a5, b5, f5⟩, c5⟩ := q_tf11_0_26 (m := 0) I4 J (by simp (disch := omega) only [f4, f3, f2, f1, ups_ne]; exact h11) (by omega)
  refine ⟨I5, ⟨?_, ?_, ?_, ?_, ?_, ?_, fun j hj => ?_, fun j hj => ?_, fun j hj => ?_, fun j hj => ?_, fun j hj => ?_, fun a j h => ?_⟩, fun d => ?_⟩
  · simp (disch := omega) only [f5, f4, f3, f2, f1, a5, a4, a3, a2, a1, ups_same, ups_ne]
  · simp (disch := omega) only [f5, f4, f3, f2, f1, a5, a4, a3, a2, a1, ups_same, ups_ne]
  · simp (disch := omega) only [f5, f4, f3, f2, f1, a5, a4, a3, a2, a1, ups_same, ups_ne]
  · simp (disch := omega) only [f5, f4, f3, f2, f1, a5, a4, a3, a2, a1, ups_same, ups_ne]
  · simp (disch := omega) only [f5, f4, f3, f2, f1, a5, a4, a3, a2, a1, ups_same, ups_ne]
  · simp (disch := omega) only [f5, f4, f3, f2, f1, a5, a4, a3, a2, a1, ups_same, ups_ne]
  · simp (disch := omega) only [f5, f4, f3, f2, f1, a5, a4, a3, a2, a1, ups_same, ups_ne, b1 j hj, b2 j hj, b3 j hj, b4 j hj, b5 j hj]
  · simp (disch := omega) only [f5, f4, f3, f2, f1, a5, a4, a3, a2, a1, ups_same, ups_ne, b1 j hj, b2 j hj, b3 j hj, b4 j hj, b5 j hj]
  · simp (disch := omega) only [f5, f4, f3, f2, f1, a5, a4, a3, a2, a1, ups_same, ups_ne, b1 j hj, b2 j hj, b3 j hj, b4 j hj, b5 j hj]
  · simp (disch := omega) only [f5, f4, f3, f2, f1, a5, a4, a3, a2, a1, ups_same, ups_ne, b1 j hj, b2 j hj, b3 j hj, b4 j hj, b5 j hj]
  · simp (disch := omega) only [f5, f4, f3, f2, f1, a5, a4, a3, a2, a1, ups_same, ups_ne, b1 j hj, b2 j hj, b3 j hj, b4 j hj, b5 j hj]
  · simp (disch := omega) only [f5, f4, f3, f2, f1, a5, a4, a3, a2, a1, ups_same, ups_ne]
  · refine mx_Cal_in (ls := [some (.ref 28), some (.ref 2)]) tab_34 (by rw [mx_rcv, oc_28]; trivial) (Nat.le_of_ble_eq_true rfl) rfl ?_
    simp only [x_Items_takeFrom_0, x_Items_takeFrom_1, x_Items_takeFrom_2, x_Items_takeFrom_5, x_Items_takeFrom_8, x_Items_takeFrom_9, x_Items_takeFrom_12, x_Items_takeFrom_13, x_Items_takeFrom_16, x_Items_takeFrom_19, x_Items_takeFrom_20, x_Items_takeFrom_23, x_Items_takeFrom_24, x_Items_takeFrom_27, x_Items_takeFrom_30, x_Items_takeFrom_31, x_Items_takeFrom_34, x_Items_takeFrom_35, x_Items_takeFrom_38, x_Items_takeFrom_41, x_Items_takeFrom_42, x_Items_takeFrom_45, x_Items_takeFrom_46, x_Items_takeFrom_49, x_Items_takeFrom_52, x_Items_takeFrom_53, x_Items_takeFrom_56, x_Items_takeFrom_57, x_Items_takeFrom_60, x_Items_takeFrom_63, mk_I, mk_J, mk_Q, mk_n, mk_sI, mk_sJ, Option.toList_some, Option.toList_none, List.cons_append, List.nil_append, true_and, and_true, oc_28, oc_2, rt_28_1, rt_28_2, rt_28_3, rt_28_4, rt_28_5, rt_2_1, rt_2_2, rt_2_3, rt_2_4, rt_2_5, mx_call (c1 d) (Nat.le_refl (d + 2)), mx_call (c2 d) (Nat.le_refl (d + 2)), mx_call (c3 d) (Nat.le_refl (d + 2)), mx_call (c4 d) (Nat.le_refl (d + 2)), mx_call (c5 d) (Nat.le_refl (d + 2))]
theorem q_tfT17_0_26 {m : Nat} (I : mx_I) (J : mx_J) (h0 : I 17 0 = 0 ∨ I 17 0 = 1) (hm : I 18 1 = nI m) (hml : m ≤ 60) : ∃ I', (I' 43 0 = I 17 0 ∧ I' 44 1 = I 18 1 ∧ (∀ j, j < 60 → I' 45 j = I 19 j) ∧ ∀ a j, ¬ (43 ≤ a ∧ a ≤ 45) → I' a j = I a j) ∧ ∀ d, mx_Cal mx_tab (d + 3) 40 [.ref 43, .ref 17] (mk I J) none (mk I' J) := by
  obtain ⟨I1, ⟨a1, b1, f1⟩, c1⟩ := q_tf18_0_26 (m := m) (mx_ups I 43 0 (I 17 0)) J (by simp (disch := omega) only [ups_ne]; exact hm) hml
  refine ⟨I1, ⟨?_, ?_, fun j hj => ?_, fun a j h => ?_⟩, fun d => ?_⟩
  · simp (disch := omega) only [f1, ups_same]
  · simp (disch := omega) only [a1, ups_ne]
  · simp (disch := omega) only [b1 j hj, ups_ne]
  · simp (disch := omega) only [f1, ups_ne]
  · refine mx_Cal_in (ls := [some (.ref 43), some (.ref 17)]) tab_40 (by rw [mx_rcv, oc_43]; trivial) (Nat.le_of_ble_eq_true rfl) rfl ?_
    rcases h0 with h0 | h0
    · rw [h0] at c1
      simp (disch := omega) only [x_Text_takeFrom_0, x_Text_takeFrom_1, x_Text_takeFrom_2, x_Text_takeFrom_5, x_Text_takeFrom_8, x_Text_takeFrom_9, x_Text_takeFrom_12, x_Text_takeFrom_13, x_Text_takeFrom_16, x_Text_takeFrom_19, mk_I, mk_J, mk_Q, mk_n, mk_sI, mk_sJ, Option.toList_some, Option.toList_none, List.cons_append, List.nil_append, true_and, and_true, ↓reduceIte, leT, leF, ltT, ltF, eqF, lt0F, le0T, le0F, eq0F, natT, nI_clamp, nI_1, if_true, if_false, not_true_eq_false, not_false_eq_true, z_00, z_10, eq_self, true_or, or_true, or_false, false_or, oc_0, oc_1, oc_2, rt_0_0, rt_0_1, rt_0_3, rt_0_4, rt_0_5, rt_0_6, rt_0_7, rt_0_8, rt_0_9, rt_1_0, rt_1_5, rt_1_6, rt_1_7, rt_1_8, rt_2_1, rt_2_2, rt_2_3, rt_2_4, rt_2_5, oc_43, oc_17, rt_43_1, rt_43_2, rt_17_1, rt_17_2, h0, decide_true, Bool.or_true, Bool.true_or, Bool.and_true, mx_call (c1 d) (Nat.le_refl (d + 2))]
    · rw [h0] at c1
      simp (disch := omega) only [x_Text_takeFrom_0, x_Text_takeFrom_1, x_Text_takeFrom_2, x_Text_takeFrom_5, x_Text_takeFrom_8, x_Text_takeFrom_9, x_Text_takeFrom_12, x_Text_takeFrom_13, x_Text_takeFrom_16, x_Text_takeFrom_19, mk_I, mk_J, mk_Q, mk_n, mk_sI, mk_sJ, Option.toList_some, Option.toList_none, List.cons_append, List.nil_append, true_and, and_true, ↓reduceIte, leT, leF, ltT, ltF, eqF, lt0F, le0T, le0F, eq0F, natT, nI_clamp, nI_1, if_true, if_false, not_true_eq_false, not_false_eq_true, z_00, z_10, eq_self, true_or, or_true, or_false, false_or, oc_0, oc_1, oc_2, rt_0_0, rt_0_1, rt_0_3, rt_0_4, rt_0_5, rt_0_6, rt_0_7, rt_0_8, rt_0_9, rt_1_0, rt_1_5, rt_1_6, rt_1_7, rt_1_8, rt_2_1, rt_2_2, rt_2_3, rt_2_4, rt_2_5, oc_43, oc_17, rt_43_1, rt_43_2, rt_17_1, rt_17_2, h0, decide_true, Bool.or_true, Bool.true_or, Bool.and_true, mx_call (c1 d) (Nat.le_refl (d + 2))]
theorem q_tfT22_0_26 {m : Nat} (I : mx_I) (J : mx_J) (h0 : I 22 0 = 0 ∨ I 22 0 = 1) (hm : I 23 1 = nI m) (hml : m ≤ 60) : ∃ I', (I' 48 0 = I 22 0 ∧ I' 49 1 = I 23 1 ∧ (∀ j, j < 60 → I' 50 j = I 24 j) ∧ ∀ a j, ¬ (48 ≤ a ∧ a ≤ 50) → I' a j = I a j) ∧ ∀ d, mx_Cal mx_tab (d + 3) 40 [.ref 48, .ref 22] (mk I J) none (mk I' J) := by
  obtain ⟨I1, ⟨a1, b1, f1⟩, c1⟩ := q_tf23_0_26 (m := m) (mx_ups I 48 0 (I 22 0)) J (by simp (disch := omega) only [ups_ne]; exact hm) hml
  refine ⟨I1, ⟨?_, ?_, fun j hj => ?_, fun a j h => ?_⟩, fun d => ?_⟩
  · simp (disch := omega) only [f1, ups_same]
  · simp (disch := omega) only [a1, ups_ne]
  · simp (disch := omega) only [b1 j hj, ups_ne]
  · simp (disch := omega) only [f1, ups_ne]
  · refine mx_Cal_in (ls := [some (.ref 48), some (.ref 22)]) tab_40 (by rw [mx_rcv, oc_48]; trivial) (Nat.le_of_ble_eq_true rfl) rfl ?_
    rcases h0 with h0 | h0
    · rw [h0] at c1
      simp (disch := omega) only [x_Text_takeFrom_0, x_Text_takeFrom_1, x_Text_takeFrom_2, x_Text_takeFrom_5, x_Text_takeFrom_8, x_Text_takeFrom_9, x_Text_takeFrom_12, x_Text_takeFrom_13, x_Text_takeFrom_16, x_Text_takeFrom_19, mk_I, mk_J, mk_Q, mk_n, mk_sI, mk_sJ, Option.toList_some, Option.toList_none, List.cons_append, List.nil_append, true_and, and_true, ↓reduceIte, leT, leF, ltT, ltF, eqF, lt0F, le0T, le0F, eq0F, natT, nI_clamp, nI_1, if_true, if_false, not_true_eq_false, not_false_eq_true, z_00, z_10, eq_self, true_or, or_true, or_false, false_or, oc_0, oc_1, oc_2, rt_0_0, rt_0_1, rt_0_3, rt_0_4, rt_0_5, rt_0_6, rt_0_7, rt_0_8, rt_0_9, rt_1_0, rt_1_5, rt_1_6, rt_1_7, rt_1_8, rt_2_1, rt_2_2, rt_2_3, rt_2_4, rt_2_5, oc_48, oc_22, rt_48_1, rt_48_2, rt_22_1, rt_22_2, h0, decide_true, Bool.or_true, Bool.true_or, Bool.and_true, mx_call (c1 d) (Nat.le_refl (d + 2))]
    · rw [h0] at c1
      simp (disch := omega) only [x_Text_takeFrom_0, x_Text_takeFrom_1, x_Text_takeFrom_2, x_Text_takeFrom_5, x_Text_takeFrom_8, x_Text_takeFrom_9, x_Text_takeFrom_12, x_Text_takeFrom_13, x_Text_takeFrom_16, x_Text_takeFrom_19, mk_I, mk_J, mk_Q, mk_n, mk_sI, mk_sJ, Option.toList_some, Option.toList_none, List.cons_append, List.nil_append, true_and, and_true, ↓reduceIte, leT, leF, ltT, ltF, eqF, lt0F, le0T, le0F, eq0F, natT, nI_clamp, nI_1, if_true, if_false, not_true_eq_false, not_false_eq_true, z_00, z_10, eq_self, true_or, or_true, or_false, false_or, oc_0, oc_1, oc_2, rt_0_0, rt_0_1, rt_0_3, rt_0_4, rt_0_5, rt_0_6, rt_0_7, rt_0_8, rt_0_9, rt_1_0, rt_1_5, rt_1_6, rt_1_7, rt_1_8, rt_2_1, rt_2_2, rt_2_3, rt_2_4, rt_2_5, oc_48, oc_22, rt_48_1, rt_48_2, rt_22_1, rt_22_2, h0, decide_true, Bool.or_true, Bool.true_or, Bool.and_true, mx_call (c1 d) (Nat.le_refl (d + 2))]
def Cp (I I' : mx_I) (o o' : Nat) : Prop := (∀ j, 1 ≤ j → j ≤ 4 → I' (1 + o') j = I (1 + o) j) ∧ I' (2 + o') 0 = I (2 + o) 0 ∧ I' (3 + o') 1 = I (3 + o) 1 ∧ I' (5 + o') 1 = I (5 + o) 1 ∧ I' (7 + o') 1 = I (7 + o) 1 ∧ I' (9 + o') 1 = I (9 + o) 1 ∧ I' (11 + o') 1 = I (11 + o) 1 ∧ I' (13 + o') 1 = I (13 + o) 1 ∧ I' (15 + o') 1 = I (15 + o) 1 ∧ I' (18 + o') 1 = I (18 + o) 1 ∧ I' (23 + o') 1 = I (23 + o) 1 ∧ (∀ j, j < 9 → I' (4 + o') j = I (4 + o) j) ∧ (∀ j, j < 9 → I' (6 + o') j = I (6 + o) j) ∧ (∀ j, j < 9 → I' (8 + o') j = I (8 + o) j) ∧ (∀ j, j < 9 → I' (10 + o') j = I (10 + o) j) ∧ (∀ j, j < 9 → I' (12 + o') j = I (12 + o) j) ∧ (∀ j, j < 60 → I' (14 + o') j = I (14 + o) j) ∧ (∀ j, j < 60 → I' (19 + o') j = I (19 + o) j) ∧ (∀ j, j < 60 → I' (24 + o') j = I (24 + o) j) ∧ (∀ j, j < 24 → I' (16 + o') j = I (16 + o) j) ∧ I' (17 + o') 0 = I (17 + o) 0 ∧ I' (22 + o') 0 = I (22 + o) 0
theorem q_tfShow_0_26 {t w c0 c1 : Nat} (I : mx_I) (J : mx_J) (h3 : I 3 1 = 0) (h5 : I 5 1 = 0) (h7 : I 7 1 = 0) (h9 : I 9 1 = 0) (h11 : I 11 1 = 0) (ht : I 13 1 = nI t) (t60 : t ≤ 60) (hw : I 15 1 = nI w) (w24 : w ≤ 24) (hs0 : I 17 0 = 0 ∨ I 17 0 = 1) (hc0 : I 18 1 = nI c0) (c060 : c0 ≤ 60) (hs1 : I 22 0 = 0 ∨ I 22 0 = 1) (hc1 : I 23 1 = nI c1) (c160 : c1 ≤ 60) : ∃ I', (Cp I I' 0 26 ∧ ∀ a j, ¬ (27 ≤ a ∧ a ≤ 52) → I' a j = I a j) ∧ ∀ d, mx_Cal mx_tab (d + 4) 66 [.ref 27, .ref 1] (mk I J) none (mk I' J) := by
  obtain ⟨I1, ⟨p0, p3, p5, p7, p9, p11, p4, p6, p8, p10, p12, f1⟩, e1⟩ := q_tfItems_0_26 I J h3 h5 h7 h9 h11
  obtain ⟨I2, ⟨s2, b2, f2⟩, e2⟩ := q_tf13_0_26 (m := t) (mx_ups (mx_ups (mx_ups (mx_ups I1 27 1 (I1 1 1)) 27 2 (I1 1 2)) 27 3 (I1 1 3)) 27 4 (I1 1 4)) J (by simp (disch := omega) only [f1, ups_ne]; exact ht) t60
  obtain ⟨I3, ⟨s3, b3, f3⟩, e3⟩ := q_tf15_0_26 (m := w) I2 J (by simp (disch := omega) only [f2, f1, ups_ne]; exact hw) w24
  obtain ⟨I4, ⟨v4, s4, b4, f4⟩, e4⟩ := q_tfT17_0_26 (m := c0) I3 J (by simp (disch := omega) only [f3, f2, f1, ups_ne]; exact hs0) (by simp (disch := omega) only [f3, f2, f1, ups_ne]; exact hc0) c060
  obtain ⟨I5, ⟨v5, s5, b5, f5⟩, e5⟩ := q_tfT22_0_26 (m := c1) I4 J (by simp (disch := omega) only [f4, f3, f2, f1, ups_ne]; exact hs1) (by simp (disch := omega) only [f4, f3, f2, f1, ups_ne]; exact hc1) c160
  refine ⟨I5, ⟨⟨fun j g1 g2 => ?_, ?_, ?_, ?_, ?_, ?_, ?_, ?_, ?_, ?_, ?_, fun j hj => ?_, fun j hj => ?_, fun j hj => ?_, fun j hj => ?_, fun j hj => ?_, fun j hj => ?_, fun j hj => ?_, fun j hj => ?_, fun j hj => ?_, ?_, ?_⟩, fun a j h => ?_⟩, fun d => ?_⟩
  · have z : j = 1 ∨ j = 2 ∨ j = 3 ∨ j = 4 := by omega
    rcases z with rfl | rfl | rfl | rfl
    · show I5 27 1 = I 1 1
      simp (disch := omega) only [f5, f4, f3, f2, f1, ups_ne, ups_same]
    · show I5 27 2 = I 1 2
      simp (disch := omega) only [f5, f4, f3, f2, f1, ups_ne, ups_same]
    · show I5 27 3 = I 1 3
      simp (disch := omega) only [f5, f4, f3, f2, f1, ups_ne, ups_same]
    · show I5 27 4 = I 1 4
      simp (disch := omega) only [f5, f4, f3, f2, f1, ups_ne, ups_same]
  · show I5 28 0 = I 2 0
    simp (disch := omega) only [f5, f4, f3, f2, f1, ups_ne, ups_same, p0]
  · show I5 29 1 = I 3 1
    simp (disch := omega) only [f5, f4, f3, f2, f1, ups_ne, ups_same, p3]
  · show I5 31 1 = I 5 1
    simp (disch := omega) only [f5, f4, f3, f2, f1, ups_ne, ups_same, p5]
  · show I5 33 1 = I 7 1
    simp (disch := omega) only [f5, f4, f3, f2, f1, ups_ne, ups_same, p7]
  · show I5 35 1 = I 9 1
    simp (disch := omega) only [f5, f4, f3, f2, f1, ups_ne, ups_same, p9]
  · show I5 37 1 = I 11 1
    simp (disch := omega) only [f5, f4, f3, f2, f1, ups_ne, ups_same, p11]
  · show I5 39 1 = I 13 1
    simp (disch := omega) only [f5, f4, f3, f2, f1, ups_ne, ups_same, s2]
  · show I5 41 1 = I 15 1
    simp (disch := omega) only [f5, f4, f3, f2, f1, ups_ne, ups_same, s3]
  · show I5 44 1 = I 18 1
    simp (disch := omega) only [f5, f4, f3, f2, f1, ups_ne, ups_same, s4]
  · show I5 49 1 = I 23 1
    simp (disch := omega) only [f5, f4, f3, f2, f1, ups_ne, ups_same, s5]
  · show I5 30 j = I 4 j
    simp (disch := omega) only [f5, f4, f3, f2, f1, ups_ne, ups_same, p4 j hj]
  · show I5 32 j = I 6 j
    simp (disch := omega) only [f5, f4, f3, f2, f1, ups_ne, ups_same, p6 j hj]
  · show I5 34 j = I 8 j
    simp (disch := omega) only [f5, f4, f3, f2, f1, ups_ne, ups_same, p8 j hj]
  · show I5 36 j = I 10 j
    simp (disch := omega) only [f5, f4, f3, f2, f1, ups_ne, ups_same, p10 j hj]
  · show I5 38 j = I 12 j
    simp (disch := omega) only [f5, f4, f3, f2, f1, ups_ne, ups_same, p12 j hj]
  · show I5 40 j = I 14 j
    simp (disch := omega) only [f5, f4, f3, f2, f1, ups_ne, ups_same, b2 j hj]
  · show I5 45 j = I 19 j
    simp (disch := omega) only [f5, f4, f3, f2, f1, ups_ne, ups_same, b4 j hj]
  · show I5 50 j = I 24 j
    simp (disch := omega) only [f5, f4, f3, f2, f1, ups_ne, ups_same, b5 j hj]
  · show I5 42 j = I 16 j
    simp (disch := omega) only [f5, f4, f3, f2, f1, ups_ne, ups_same, b3 j hj]
  · show I5 43 0 = I 17 0
    simp (disch := omega) only [f5, f4, f3, f2, f1, ups_ne, ups_same, v4]
  · show I5 48 0 = I 22 0
    simp (disch := omega) only [f5, f4, f3, f2, f1, ups_ne, ups_same, v5]
  · simp (disch := omega) only [f5, f4, f3, f2, f1, ups_ne, ups_same]
  · refine mx_Cal_in (ls := [some (.ref 27), some (.ref 1)]) tab_66 (by rw [mx_rcv, oc_27]; trivial) (Nat.le_of_ble_eq_true rfl) rfl ?_
    simp (disch := omega) only [x_Show_takeFrom_0, x_Show_takeFrom_1, x_Show_takeFrom_4, x_Show_takeFrom_5, x_Show_takeFrom_8, x_Show_takeFrom_11, x_Show_takeFrom_12, x_Show_takeFrom_13, x_Show_takeFrom_16, x_Show_takeFrom_19, x_Show_takeFrom_20, x_Show_takeFrom_21, x_Show_takeFrom_24, x_Show_takeFrom_27, x_Show_takeFrom_28, x_Show_takeFrom_29, x_Show_takeFrom_32, x_Show_takeFrom_35, x_Show_takeFrom_36, x_Show_takeFrom_37, x_Show_takeFrom_40, x_Show_takeFrom_43, x_Show_takeFrom_44, x_Show_takeFrom_47, x_Show_takeFrom_48, x_Show_takeFrom_51, x_Show_takeFrom_54, x_Show_takeFrom_55, x_Show_takeFrom_58, x_Show_takeFrom_59, x_Show_takeFrom_62, x_Show_takeFrom_65, x_Show_takeFrom_66, x_Show_takeFrom_69, x_Show_takeFrom_70, x_Show_takeFrom_73, x_Show_takeFrom_76, x_Show_takeFrom_77, x_Show_takeFrom_80, x_Show_takeFrom_81, x_Show_takeFrom_84, x_Show_takeFrom_87, mk_I, mk_J, mk_Q, mk_n, mk_sI, mk_sJ, Option.toList_some, Option.toList_none, List.cons_append, List.nil_append, true_and, and_true, oc_27, oc_1, rt_27_0, rt_27_5, rt_27_6, rt_27_7, rt_27_8, rt_1_0, rt_1_5, rt_1_6, rt_1_7, rt_1_8, ups_ne, mx_call (e1 d) _, mx_call (e2 (d + 1)) _, mx_call (e3 (d + 1)) _, mx_call (e4 d) _, mx_call (e5 d) _]
theorem q_tf3_26_0 {m : Nat} (I : mx_I) (J : mx_J) (hm : I 29 1 = nI m) (hml : m ≤ 9) : ∃ I', (I' 3 1 = I 29 1 ∧ (∀ j, j < 9 → I' 4 j = I 30 j) ∧ ∀ a j, a ≠ 4 → ¬ (a = 3 ∧ j = 1) → I' a j = I a j) ∧ ∀ d, mx_Cal mx_tab (d + 2) 10 [.ref 3, .ref 29] (mk I J) none (mk I' J) := q_tfL (by decide +kernel) (by decide +kernel) (by decide +kernel) (by decide +kernel) (by decide +kernel) (by decide +kernel) (by decide) (by decide) I J hm hml
theorem q_tf5_26_0 {m : Nat} (I : mx_I) (J : mx_J) (hm : I 31 1 = nI m) (hml : m ≤ 9) : ∃ I', (I' 5 1 = I 31 1 ∧ (∀ j, j < 9 → I' 6 j = I 32 j) ∧ ∀ a j, a ≠ 6 → ¬ (a = 5 ∧ j = 1) → I' a j = I a j) ∧ ∀ d, mx_Cal mx_tab (d + 2) 10 [.ref 5, .ref 31] (mk I J) none (mk I' J) := q_tfL (by decide +kernel) (by decide +kernel) (by decide +kernel) (by decide +kernel) (by decide +kernel) (by decide +kernel) (by decide) (by decide) I J hm hml
theorem q_tf7_26_0 {m : Nat} (I : mx_I) (J : mx_J) (hm : I 33 1 = nI m) (hml : m ≤ 9) : ∃ I', (I' 7 1 = I 33 1 ∧ (∀ j, j < 9 → I' 8 j = I 34 j) ∧ ∀ a j, a ≠ 8 → ¬ (a = 7 ∧ j = 1) → I' a j = I a j) ∧ ∀ d, mx_Cal mx_tab (d + 2) 10 [.ref 7, .ref 33] (mk I J) none (mk I' J) := q_tfL (by decide +kernel) (by decide +kernel) (by decide +kernel) (by decide +kernel) (by decide +kernel) (by decide +kernel) (by decide) (by decide) I J hm hml
theorem q_tf9_26_0 {m : Nat} (I : mx_I) (J : mx_J) (hm : I 35 1 = nI m) (hml : m ≤ 9) : ∃ I', (I' 9 1 = I 35 1 ∧ (∀ j, j < 9 → I' 10 j = I 36 j) ∧ ∀ a j, a ≠ 10 → ¬ (a = 9 ∧ j = 1) → I' a j = I a j) ∧ ∀ d, mx_Cal mx_tab (d + 2) 10 [.ref 9, .ref 35] (mk I J) none (mk I' J) := q_tfL (by decide +kernel) (by decide +kernel) (by decide +kernel) (by decide +kernel) (by decide +kernel) (by decide +kernel) (by decide) (by decide) I J hm hml
theorem q_tf11_26_0 {m : Nat} (I : mx_I) (J : mx_J) (hm : I 37 1 = nI m) (hml : m ≤ 9) : ∃ I', (I' 11 1 = I 37 1 ∧ (∀ j, j < 9 → I' 12 j = I 38 j) ∧ ∀ a j, a ≠ 12 → ¬ (a = 11 ∧ j = 1) → I' a j = I a j) ∧ ∀ d, mx_Cal mx_tab (d + 2) 10 [.ref 11, .ref 37] (mk I J) none (mk I' J) := q_tfL (by decide +kernel) (by decide +kernel) (by decide +kernel) (by decide +kernel) (by decide +kernel) (by decide +kernel) (by decide) (by decide) I J hm hml
theorem q_tf13_26_0 {m : Nat} (I : mx_I) (J : mx_J) (hm : I 39 1 = nI m) (hml : m ≤ 60) : ∃ I', (I' 13 1 = I 39 1 ∧ (∀ j, j < 60 → I' 14 j = I 40 j) ∧ ∀ a j, a ≠ 14 → ¬ (a = 13 ∧ j = 1) → I' a j = I a j) ∧ ∀ d, mx_Cal mx_tab (d + 2) 10 [.ref 13, .ref 39] (mk I J) none (mk I' J) := q_tfL (by decide +kernel) (by decide +kernel) (by decide +kernel) (by decide +kernel) (by decide +kernel) (by decide +kernel) (by decide) (by decide) I J hm hml
theorem q_tf15_26_0 {m : Nat} (I : mx_I) (J : mx_J) (hm : I 41 1 = nI m) (hml : m ≤ 24) : ∃ I', (I' 15 1 = I 41 1 ∧ (∀ j, j < 24 → I' 16 j = I 42 j) ∧ ∀ a j, a ≠ 16 → ¬ (a = 15 ∧ j = 1) → I' a j = I a j) ∧ ∀ d, mx_Cal mx_tab (d + 2) 10 [.ref 15, .ref 41] (mk I J) none (mk I' J) := q_tfL (by decide +kernel) (by decide +kernel) (by decide +kernel) (by decide +kernel) (by decide +kernel) (by decide +kernel) (by decide) (by decide) I J hm hml
theorem q_tf18_26_0 {m : Nat} (I : mx_I) (J : mx_J) (hm : I 44 1 = nI m) (hml : m ≤ 60) : ∃ I', (I' 18 1 = I 44 1 ∧ (∀ j, j < 60 → I' 19 j = I 45 j) ∧ ∀ a j, a ≠ 19 → ¬ (a = 18 ∧ j = 1) → I' a j = I a j) ∧ ∀ d, mx_Cal mx_tab (d + 2) 10 [.ref 18, .ref 44] (mk I J) none (mk I' J) := q_tfL (by decide +kernel) (by decide +kernel) (by decide +kernel) (by decide +kernel) (by decide +kernel) (by decide +kernel) (by decide) (by decide) I J hm hml
theorem q_tf23_26_0 {m : Nat} (I : mx_I) (J : mx_J) (hm : I 49 1 = nI m) (hml : m ≤ 60) : ∃ I', (I' 23 1 = I 49 1 ∧ (∀ j, j < 60 → I' 24 j = I 50 j) ∧ ∀ a j, a ≠ 24 → ¬ (a = 23 ∧ j = 1) → I' a j = I a j) ∧ ∀ d, mx_Cal mx_tab (d + 2) 10 [.ref 23, .ref 49] (mk I J) none (mk I' J) := q_tfL (by decide +kernel) (by decide +kernel) (by decide +kernel) (by decide +kernel) (by decide +kernel) (by decide +kernel) (by decide) (by decide) I J hm hml
theorem q_tfItems_26_0 (I : mx_I) (J : mx_J) (h3 : I 29 1 = 0) (h5 : I 31 1 = 0) (h7 : I 33 1 = 0) (h9 : I 35 1 = 0) (h11 : I 37 1 = 0) : ∃ I', (I' 2 0 = I 28 0 ∧ I' 3 1 = I 29 1 ∧ I' 5 1 = I 31 1 ∧ I' 7 1 = I 33 1 ∧ I' 9 1 = I 35 1 ∧ I' 11 1 = I 37 1 ∧ (∀ j, j < 9 → I' 4 j = I 30 j) ∧ (∀ j, j < 9 → I' 6 j = I 32 j) ∧ (∀ j, j < 9 → I' 8 j = I 34 j) ∧ (∀ j, j < 9 → I' 10 j = I 36 j) ∧ (∀ j, j < 9 → I' 12 j = I 38 j) ∧ ∀ a j, ¬ (2 ≤ a ∧ a ≤ 12) → I' a j = I a j) ∧ ∀ d, mx_Cal mx_tab (d + 3) 34 [.ref 2, .ref 28] (mk I J) none (mk I' J) := by
  obtain ⟨I1, ⟨a1, b1, f1⟩, c1⟩ := q_tf3_26_0 (m := 0) (mx_ups I 2 0 (I 28 0)) J (by simp (disch := omega) only [ups_ne]; exact h3) (by omega)
  obtain ⟨I2, ⟨a2, b2, f2⟩, c2⟩ := q_tf5_26_0 (m := 0) I1 J (by simp (disch := omega) only [f1, ups_ne]; exact h5) (by omega)
  obtain ⟨I3, ⟨a3, b3, f3⟩, c3⟩ := q_tf7_26_0 (m := 0) I2 J (by simp (disch := omega) only [f2, f1, ups_ne]; exact h7) (by omega)
  obtain ⟨I4, ⟨a4, b4, f4⟩, c4⟩ := q_tf9_26_0 (m := 0) I3 J (by simp (disch := omega) only [f3, f2, f1, ups_ne]; exact h9) (by omega)
  obtain ⟨I5, ⟨a5, b5, f5⟩, c5⟩ := q_tf11_26_0 (m := 0) I4 J (by simp (disch := omega) only [f4, f3, f2, f1, ups_ne]; exact h11) (by omega)
  refine ⟨I5, ⟨?_, ?_, ?_, ?_, ?_, ?_, fun j hj => ?_, fun j hj => ?_, fun j hj => ?_, fun j hj => ?_, fun j hj => ?_, fun a j h => ?_⟩, fun d => ?_⟩
  · simp (disch := omega) only [f5, f4, f3, f2, f1, a5, a4, a3, a2, a1, ups_same, ups_ne]
  · simp (disch := omega) only [f5, f4, f3, f2, f1, a5, a4, a3, a2, a1, ups_same, ups_ne]
  · simp (disch := omega) only [f5, f4, f3, f2, f1, a5, a4, a3, a2, a1, ups_same, ups_ne]
  · simp (disch := omega) only [f5, f4, f3, f2, f1, a5, a4, a3, a2, a1, ups_same, ups_ne]
  · simp (disch := omega) only [f5, f4, f3, f2, f1, a5, a4, a3, a2, a1, ups_same, ups_ne]
  · simp (disch := omega) only [f5, f4, f3, f2, f1, a5, a4, a3, a2, a1, ups_same, ups_ne]
  · simp (disch := omega) only [f5, f4, f3, f2, f1, a5, a4, a3, a2, a1, ups_same, ups_ne, b1 j hj, b2 j hj, b3 j hj, b4 j hj, b5 j hj]
  · simp (disch := omega) only [f5, f4, f3, f2, f1, a5, a4, a3, a2, a1, ups_same, ups_ne, b1 j hj, b2 j hj, b3 j hj, b4 j hj, b5 j hj]
  · simp (disch := omega) only [f5, f4, f3, f2, f1, a5, a4, a3, a2, a1, ups_same, ups_ne, b1 j hj, b2 j hj, b3 j hj, b4 j hj, b5 j hj]
  · simp (disch := omega) only [f5, f4, f3, f2, f1, a5, a4, a3, a2, a1, ups_same, ups_ne, b1 j hj, b2 j hj, b3 j hj, b4 j hj, b5 j hj]
  · simp (disch := omega) only [f5, f4, f3, f2, f1, a5, a4, a3, a2, a1, ups_same, ups_ne, b1 j hj, b2 j hj, b3 j hj, b4 j hj, b5 j hj]
  · simp (disch := omega) only [f5, f4, f3, f2, f1, a5, a4, a3, a2, a1, ups_same, ups_ne]
  · refine mx_Cal_in (ls := [some (.ref 2), some (.ref 28)]) tab_34 (by rw [mx_rcv, oc_2]; trivial) (Nat.le_of_ble_eq_true rfl) rfl ?_
    simp only [x_Items_takeFrom_0, x_Items_takeFrom_1, x_Items_takeFrom_2, x_Items_takeFrom_5, x_Items_takeFrom_8, x_Items_takeFrom_9, x_Items_takeFrom_12, x_Items_takeFrom_13, x_Items_takeFrom_16, x_Items_takeFrom_19, x_Items_takeFrom_20, x_Items_takeFrom_23, x_Items_takeFrom_24, x_Items_takeFrom_27, x_Items_takeFrom_30, x_Items_takeFrom_31, x_Items_takeFrom_34, x_Items_takeFrom_35, x_Items_takeFrom_38, x_Items_takeFrom_41, x_Items_takeFrom_42, x_Items_takeFrom_45, x_Items_takeFrom_46, x_Items_takeFrom_49, x_Items_takeFrom_52, x_Items_takeFrom_53, x_Items_takeFrom_56, x_Items_takeFrom_57, x_Items_takeFrom_60, x_Items_takeFrom_63, mk_I, mk_J, mk_Q, mk_n, mk_sI, mk_sJ, Option.toList_some, Option.toList_none, List.cons_append, List.nil_append, true_and, and_true, oc_2, oc_28, rt_2_1, rt_2_2, rt_2_3, rt_2_4, rt_2_5, rt_28_1, rt_28_2, rt_28_3, rt_28_4, rt_28_5, mx_call (c1 d) (Nat.le_refl (d + 2)), mx_call (c2 d) (Nat.le_refl (d + 2)), mx_call (c3 d) (Nat.le_refl (d + 2)), mx_call (c4 d) (Nat.le_refl (d + 2)), mx_call (c5 d) (Nat.le_refl (d + 2))]
theorem q_tfT17_26_0 {m : Nat} (I : mx_I) (J : mx_J) (h0 : I 43 0 = 0 ∨ I 43 0 = 1) (hm : I 44 1 = nI m) (hml : m ≤ 60) : ∃ I', (I' 17 0 = I 43 0 ∧ I' 18 1 = I 44 1 ∧ (∀ j, j < 60 → I' 19 j = I 45 j) ∧ ∀ a j, ¬ (17 ≤ a ∧ a ≤ 19) → I' a j = I a j) ∧ ∀ d, mx_Cal mx_tab (d + 3) 40 [.ref 17, .ref 43] (mk I J) none (mk I' J) := by
  obtain ⟨I1, ⟨a1, b1, f1⟩, c1⟩ := q_tf18_26_0 (m := m) (mx_ups I 17 0 (I 43 0)) J (by simp (disch := omega) only [ups_ne]; exact hm) hml
  refine ⟨I1, ⟨?_, ?_, fun j hj => ?_, fun a j h => ?_⟩, fun d => ?_⟩
  · simp (disch := omega) only [f1, ups_same]
  · simp (disch := omega) only [a1, ups_ne]
  · simp (disch := omega) only [b1 j hj, ups_ne]
  · simp (disch := omega) only [f1, ups_ne]
  · refine mx_Cal_in (ls := [some (.ref 17), some (.ref 43)]) tab_40 (by rw [mx_rcv, oc_17]; trivial) (Nat.le_of_ble_eq_true rfl) rfl ?_
    rcases h0 with h0 | h0
    · rw [h0] at c1
      simp (disch := omega) only [x_Text_takeFrom_0, x_Text_takeFrom_1, x_Text_takeFrom_2, x_Text_takeFrom_5, x_Text_takeFrom_8, x_Text_takeFrom_9, x_Text_takeFrom_12, x_Text_takeFrom_13, x_Text_takeFrom_16, x_Text_takeFrom_19, mk_I, mk_J, mk_Q, mk_n, mk_sI, mk_sJ, Option.toList_some, Option.toList_none, List.cons_append, List.nil_append, true_and, and_true, ↓reduceIte, leT, leF, ltT, ltF, eqF, lt0F, le0T, le0F, eq0F, natT, nI_clamp, nI_1, if_true, if_false, not_true_eq_false, not_false_eq_true, z_00, z_10, eq_self, true_or, or_true, or_false, false_or, oc_0, oc_1, oc_2, rt_0_0, rt_0_1, rt_0_3, rt_0_4, rt_0_5, rt_0_6, rt_0_7, rt_0_8, rt_0_9, rt_1_0, rt_1_5, rt_1_6, rt_1_7, rt_1_8, rt_2_1, rt_2_2, rt_2_3, rt_2_4, rt_2_5, oc_17, oc_43, rt_17_1, rt_17_2, rt_43_1, rt_43_2, h0, decide_true, Bool.or_true, Bool.true_or, Bool.and_true, mx_call (c1 d) (Nat.le_refl (d + 2))]
    · rw [h0] at c1
      simp (disch := omega) only [x_Text_takeFrom_0, x_Text_takeFrom_1, x_Text_takeFrom_2, x_Text_takeFrom_5, x_Text_takeFrom_8, x_Text_takeFrom_9, x_Text_takeFrom_12, x_Text_takeFrom_13, x_Text_takeFrom_16, x_Text_takeFrom_19, mk_I, mk_J, mk_Q, mk_n, mk_sI, mk_sJ, Option.toList_some, Option.toList_none, List.cons_append, List.nil_append, true_and, and_true, ↓reduceIte, leT, leF, ltT, ltF, eqF, lt0F, le0T, le0F, eq0F, natT, nI_clamp, nI_1, if_true, if_false, not_true_eq_false, not_false_eq_true, z_00, z_10, eq_self, true_or, or_true, or_false, false_or, oc_0, oc_1, oc_2, rt_0_0, rt_0_1, rt_0_3, rt_0_4, rt_0_5, rt_0_6, rt_0_7, rt_0_8, rt_0_9, rt_1_0, rt_1_5, rt_1_6, rt_1_7, rt_1_8, rt_2_1, rt_2_2, rt_2_3, rt_2_4, rt_2_5, oc_17, oc_43, rt_17_1, rt_17_2, rt_43_1, rt_43_2, h0, decide_true, Bool.or_true, Bool.true_or, Bool.and_true, mx_call (c1 d) (Nat.le_refl (d + 2))]
theorem q_tfT22_26_0 {m : Nat} (I : mx_I) (J : mx_J) (h0 : I 48 0 = 0 ∨ I 48 0 = 1) (hm : I 49 1 = nI m) (hml : m ≤ 60) : ∃ I', (I' 22 0 = I 48 0 ∧ I' 23 1 = I 49 1 ∧ (∀ j, j < 60 → I' 24 j = I 50 j) ∧ ∀ a j, ¬ (22 ≤ a ∧ a ≤ 24) → I' a j = I a j) ∧ ∀ d, mx_Cal mx_tab (d + 3) 40 [.ref 22, .ref 48] (mk I J) none (mk I' J) := by
  obtain ⟨I1, ⟨a1, b1, f1⟩, c1⟩ := q_tf23_26_0 (m := m) (mx_ups I 22 0 (I 48 0)) J (by simp (disch := omega) only [ups_ne]; exact hm) hml
  refine ⟨I1, ⟨?_, ?_, fun j hj => ?_, fun a j h => ?_⟩, fun d => ?_⟩
  · simp (disch := omega) only [f1, ups_same]
  · simp (disch := omega) only [a1, ups_ne]
  · simp (disch := omega) only [b1 j hj, ups_ne]
  · simp (disch := omega) only [f1, ups_ne]
  · refine mx_Cal_in (ls := [some (.ref 22), some (.ref 48)]) tab_40 (by rw [mx_rcv, oc_22]; trivial) (Nat.le_of_ble_eq_true rfl) rfl ?_
    rcases h0 with h0 | h0
    · rw [h0] at c1
      simp (disch := omega) only [x_Text_takeFrom_0, x_Text_takeFrom_1, x_Text_takeFrom_2, x_Text_takeFrom_5, x_Text_takeFrom_8, x_Text_takeFrom_9, x_Text_takeFrom_12, x_Text_takeFrom_13, x_Text_takeFrom_16, x_Text_takeFrom_19, mk_I, mk_J, mk_Q, mk_n, mk_sI, mk_sJ, Option.toList_some, Option.toList_none, List.cons_append, List.nil_append, true_and, and_true, ↓reduceIte, leT, leF, ltT, ltF, eqF, lt0F, le0T, le0F, eq0F, natT, nI_clamp, nI_1, if_true, if_false, not_true_eq_false, not_false_eq_true, z_00, z_10, eq_self, true_or, or_true, or_false, false_or, oc_0, oc_1, oc_2, rt_0_0, rt_0_1, rt_0_3, rt_0_4, rt_0_5, rt_0_6, rt_0_7, rt_0_8, rt_0_9, rt_1_0, rt_1_5, rt_1_6, rt_1_7, rt_1_8, rt_2_1, rt_2_2, rt_2_3, rt_2_4, rt_2_5, oc_22, oc_48, rt_22_1, rt_22_2, rt_48_1, rt_48_2, h0, decide_true, Bool.or_true, Bool.true_or, Bool.and_true, mx_call (c1 d) (Nat.le_refl (d + 2))]
    · rw [h0] at c1
      simp (disch := omega) only [x_Text_takeFrom_0, x_Text_takeFrom_1, x_Text_takeFrom_2, x_Text_takeFrom_5, x_Text_takeFrom_8, x_Text_takeFrom_9, x_Text_takeFrom_12, x_Text_takeFrom_13, x_Text_takeFrom_16, x_Text_takeFrom_19, mk_I, mk_J, mk_Q, mk_n, mk_sI, mk_sJ, Option.toList_some, Option.toList_none, List.cons_append, List.nil_append, true_and, and_true, ↓reduceIte, leT, leF, ltT, ltF, eqF, lt0F, le0T, le0F, eq0F, natT, nI_clamp, nI_1, if_true, if_false, not_true_eq_false, not_false_eq_true, z_00, z_10, eq_self, true_or, or_true, or_false, false_or, oc_0, oc_1, oc_2, rt_0_0, rt_0_1, rt_0_3, rt_0_4, rt_0_5, rt_0_6, rt_0_7, rt_0_8, rt_0_9, rt_1_0, rt_1_5, rt_1_6, rt_1_7, rt_1_8, rt_2_1, rt_2_2, rt_2_3, rt_2_4, rt_2_5, oc_22, oc_48, rt_22_1, rt_22_2, rt_48_1, rt_48_2, h0, decide_true, Bool.or_true, Bool.true_or, Bool.and_true, mx_call (c1 d) (Nat.le_refl (d + 2))]
theorem q_tfShow_26_0 {t w c0 c1 : Nat} (I : mx_I) (J : mx_J) (h3 : I 29 1 = 0) (h5 : I 31 1 = 0) (h7 : I 33 1 = 0) (h9 : I 35 1 = 0) (h11 : I 37 1 = 0) (ht : I 39 1 = nI t) (t60 : t ≤ 60) (hw : I 41 1 = nI w) (w24 : w ≤ 24) (hs0 : I 43 0 = 0 ∨ I 43 0 = 1) (hc0 : I 44 1 = nI c0) (c060 : c0 ≤ 60) (hs1 : I 48 0 = 0 ∨ I 48 0 = 1) (hc1 : I 49 1 = nI c1) (c160 : c1 ≤ 60) : ∃ I', (Cp I I' 26 0 ∧ ∀ a j, ¬ (1 ≤ a ∧ a ≤ 26) → I' a j = I a j) ∧ ∀ d, mx_Cal mx_tab (d + 4) 66 [.ref 1, .ref 27] (mk I J) none (mk I' J) := by
  obtain ⟨I1, ⟨p0, p3, p5, p7, p9, p11, p4, p6, p8, p10, p12, f1⟩, e1⟩ := q_tfItems_26_0 I J h3 h5 h7 h9 h11
  obtain ⟨I2, ⟨s2, b2, f2⟩, e2⟩ := q_tf13_26_0 (m := t) (mx_ups (mx_ups (mx_ups (mx_ups I1 1 1 (I1 27 1)) 1 2 (I1 27 2)) 1 3 (I1 27 3)) 1 4 (I1 27 4)) J (by simp (disch := omega) only [f1, ups_ne]; exact ht) t60
  obtain ⟨I3, ⟨s3, b3, f3⟩, e3⟩ := q_tf15_26_0 (m := w) I2 J (by simp (disch := omega) only [f2, f1, ups_ne]; exact hw) w24
  obtain ⟨I4, ⟨v4, s4, b4, f4⟩, e4⟩ := q_tfT17_26_0 (m := c0) I3 J (by simp (disch := omega) only [f3, f2, f1, ups_ne]; exact hs0) (by simp (disch := omega) only [f3, f2, f1, ups_ne]; exact hc0) c060
  obtain ⟨I5, ⟨v5, s5, b5, f5⟩, e5⟩ := q_tfT22_26_0 (m := c1) I4 J (by simp (disch := omega) only [f4, f3, f2, f1, ups_ne]; exact hs1) (by simp (disch := omega) only [f4, f3, f2, f1, ups_ne]; exact hc1) c160
  refine ⟨I5, ⟨⟨fun j g1 g2 => ?_, ?_, ?_, ?_, ?_, ?_, ?_, ?_, ?_, ?_, ?_, fun j hj => ?_, fun j hj => ?_, fun j hj => ?_, fun j hj => ?_, fun j hj => ?_, fun j hj => ?_, fun j hj => ?_, fun j hj => ?_, fun j hj => ?_, ?_, ?_⟩, fun a j h => ?_⟩, fun d => ?_⟩
  · have z : j = 1 ∨ j = 2 ∨ j = 3 ∨ j = 4 := by omega
    rcases z with rfl | rfl | rfl | rfl
    · show I5 1 1 = I 27 1
      simp (disch := omega) only [f5, f4, f3, f2, f1, ups_ne, ups_same]
    · show I5 1 2 = I 27 2
      simp (disch := omega) only [f5, f4, f3, f2, f1, ups_ne, ups_same]
    · show I5 1 3 = I 27 3
      simp (disch := omega) only [f5, f4, f3, f2, f1, ups_ne, ups_same]
    · show I5 1 4 = I 27 4
      simp (disch := omega) only [f5, f4, f3, f2, f1, ups_ne, ups_same]
  · show I5 2 0 = I 28 0
    simp (disch := omega) only [f5, f4, f3, f2, f1, ups_ne, ups_same, p0]
  · show I5 3 1 = I 29 1
    simp (disch := omega) only [f5, f4, f3, f2, f1, ups_ne, ups_same, p3]
  · show I5 5 1 = I 31 1
    simp (disch := omega) only [f5, f4, f3, f2, f1, ups_ne, ups_same, p5]
  · show I5 7 1 = I 33 1
    simp (disch := omega) only [f5, f4, f3, f2, f1, ups_ne, ups_same, p7]
  · show I5 9 1 = I 35 1
    simp (disch := omega) only [f5, f4, f3, f2, f1, ups_ne, ups_same, p9]
  · show I5 11 1 = I 37 1
    simp (disch := omega) only [f5, f4, f3, f2, f1, ups_ne, ups_same, p11]
  · show I5 13 1 = I 39 1
    simp (disch := omega) only [f5, f4, f3, f2, f1, ups_ne, ups_same, s2]
  · show I5 15 1 = I 41 1
    simp (disch := omega) only [f5, f4, f3, f2, f1, ups_ne, ups_same, s3]
  · show I5 18 1 = I 44 1
    simp (disch := omega) only [f5, f4, f3, f2, f1, ups_ne, ups_same, s4]
  · show I5 23 1 = I 49 1
    simp (disch := omega) only [f5, f4, f3, f2, f1, ups_ne, ups_same, s5]
  · show I5 4 j = I 30 j
    simp (disch := omega) only [f5, f4, f3, f2, f1, ups_ne, ups_same, p4 j hj]
  · show I5 6 j = I 32 j
    simp (disch := omega) only [f5, f4, f3, f2, f1, ups_ne, ups_same, p6 j hj]
  · show I5 8 j = I 34 j
    simp (disch := omega) only [f5, f4, f3, f2, f1, ups_ne, ups_same, p8 j hj]
  · show I5 10 j = I 36 j
    simp (disch := omega) only [f5, f4, f3, f2, f1, ups_ne, ups_same, p10 j hj]
  · show I5 12 j = I 38 j
    simp (disch := omega) only [f5, f4, f3, f2, f1, ups_ne, ups_same, p12 j hj]
  · show I5 14 j = I 40 j
    simp (disch := omega) only [f5, f4, f3, f2, f1, ups_ne, ups_same, b2 j hj]
  · show I5 19 j = I 45 j
    simp (disch := omega) only [f5, f4, f3, f2, f1, ups_ne, ups_same, b4 j hj]
  · show I5 24 j = I 50 j
    simp (disch := omega) only [f5, f4, f3, f2, f1, ups_ne, ups_same, b5 j hj]
  · show I5 16 j = I 42 j
    simp (disch := omega) only [f5, f4, f3, f2, f1, ups_ne, ups_same, b3 j hj]
  · show I5 17 0 = I 43 0
    simp (disch := omega) only [f5, f4, f3, f2, f1, ups_ne, ups_same, v4]
  · show I5 22 0 = I 48 0
    simp (disch := omega) only [f5, f4, f3, f2, f1, ups_ne, ups_same, v5]
  · simp (disch := omega) only [f5, f4, f3, f2, f1, ups_ne, ups_same]
  · refine mx_Cal_in (ls := [some (.ref 1), some (.ref 27)]) tab_66 (by rw [mx_rcv, oc_1]; trivial) (Nat.le_of_ble_eq_true rfl) rfl ?_
    simp (disch := omega) only [x_Show_takeFrom_0, x_Show_takeFrom_1, x_Show_takeFrom_4, x_Show_takeFrom_5, x_Show_takeFrom_8, x_Show_takeFrom_11, x_Show_takeFrom_12, x_Show_takeFrom_13, x_Show_takeFrom_16, x_Show_takeFrom_19, x_Show_takeFrom_20, x_Show_takeFrom_21, x_Show_takeFrom_24, x_Show_takeFrom_27, x_Show_takeFrom_28, x_Show_takeFrom_29, x_Show_takeFrom_32, x_Show_takeFrom_35, x_Show_takeFrom_36, x_Show_takeFrom_37, x_Show_takeFrom_40, x_Show_takeFrom_43, x_Show_takeFrom_44, x_Show_takeFrom_47, x_Show_takeFrom_48, x_Show_takeFrom_51, x_Show_takeFrom_54, x_Show_takeFrom_55, x_Show_takeFrom_58, x_Show_takeFrom_59, x_Show_takeFrom_62, x_Show_takeFrom_65, x_Show_takeFrom_66, x_Show_takeFrom_69, x_Show_takeFrom_70, x_Show_takeFrom_73, x_Show_takeFrom_76, x_Show_takeFrom_77, x_Show_takeFrom_80, x_Show_takeFrom_81, x_Show_takeFrom_84, x_Show_takeFrom_87, mk_I, mk_J, mk_Q, mk_n, mk_sI, mk_sJ, Option.toList_some, Option.toList_none, List.cons_append, List.nil_append, true_and, and_true, oc_1, oc_27, rt_1_0, rt_1_5, rt_1_6, rt_1_7, rt_1_8, rt_27_0, rt_27_5, rt_27_6, rt_27_7, rt_27_8, ups_ne, mx_call (e1 d) _, mx_call (e2 (d + 1)) _, mx_call (e3 (d + 1)) _, mx_call (e4 d) _, mx_call (e5 d) _]
theorem Cp.fr {I I' I'' : mx_I} {o o' : Nat} (h : Cp I I' o o') (e : ∀ a j, 1 + o' ≤ a → a ≤ 24 + o' → I'' a j = I' a j) : Cp I I'' o o' := by
  unfold Cp at h ⊢
  simp (disch := omega) only [e]
  exact h
theorem TextR.copy {I I' : mx_I} {u t t' mS mS' b : Nat} (h : TextR I u t mS b) (a0 : I' t' 0 = I t 0) (a1 : I' (t' + 1) 1 = I (t + 1) 1) (a2 : ∀ j, j < 60 → I' (t' + 2) j = I (t + 2) j) (e2 : ∀ j, b ≤ j → j < b + 125 → I' mS' j = I mS j) : TextR I' u t' mS' b := by
  obtain ⟨⟨c0, d1, d2⟩, h⟩ := h
  refine ⟨⟨c0, d1, by rw [a1]; exact d2⟩, ?_⟩
  rw [a0, e2 b (by omega) (by omega)]
  rcases h with h | ⟨h, c, e1, e3, e4, e5, e6, e7⟩
  · exact Or.inl h
  · refine Or.inr ⟨h, c, e1, e3, e4, by rw [a1]; exact e5, e6.congr (fun j hj => (e2 _ (by omega) (by omega)).symm), fun k hk => ?_⟩
    rw [a2 _ (by omega), e2 _ (by omega) (by omega), e2 _ (by omega) (by omega)]
    exact e7 k hk
theorem Snap.copy_0_26 {I I' : mx_I} (h : Snap I 0 95) (e1 : Cp I I' 0 26) (e2 : ∀ j, j < 387 → I' 96 j = I 95 j) : Snap I' 26 96 := by
  obtain ⟨⟨n, pl, od, h9, i1, i2, ho, hi, z3, z5, z7, z9, z11⟩, ⟨k1, a, b, c, a9, b9, c9, k2, k3, k4, k5, k6, k7⟩, ⟨t, t60, t1, t2, t3⟩, ⟨w, w24, w1, w2, w3⟩, ht0, ht1⟩ := h
  obtain ⟨n1, n2, n3, n5, n7, n9, n11, n13, n15, n18, n23, n4, n6, n8, n10, n12, n14, n19, n24, n16, n17, n22⟩ := e1
  refine ⟨⟨n, pl, od, h9, ?_, ?_, ho, fun i hin => ?_, ?_, ?_, ?_, ?_, ?_⟩, ⟨?_, a, b, c, a9, b9, c9, ?_, ?_, ?_, ?_, ?_, ?_⟩, ⟨t, t60, ?_, ?_, fun j hj => ?_⟩, ⟨w, w24, ?_, ?_, fun j hj => ?_⟩, ht0.copy ?_ ?_ (fun j hj => ?_) (fun j q1 q2 => e2 j (by omega)), ht1.copy ?_ ?_ (fun j hj => ?_) (fun j q1 q2 => e2 j (by omega))⟩
  · exact n2.trans i1
  · exact (e2 6 (by omega)).trans i2
  · obtain ⟨k, m, tt, f, b1, b2, b3, b4, d1, d2, d3, d4, d5, d6, d7, d8, d9, d10⟩ := hi i hin
    have hp := (ho.1 i hin).1
    refine ⟨k, m, tt, f, b1, b2, b3, b4, ?_, (e2 _ (by omega)).trans d2, ?_, (e2 _ (by omega)).trans d4, ?_, (e2 _ (by omega)).trans d6, ?_, (e2 _ (by omega)).trans d8, ?_, (e2 _ (by omega)).trans d10⟩
    · exact (n4 i (by omega)).trans d1
    · exact (n6 i (by omega)).trans d3
    · exact (n8 i (by omega)).trans d5
    · exact (n10 i (by omega)).trans d7
    · exact (n12 (pl i) (by omega)).trans d9
  · exact n3.trans z3
  · exact n5.trans z5
  · exact n7.trans z7
  · exact n9.trans z9
  · exact n11.trans z11
  · exact (n1 4 (by omega) (by omega)).trans (k1.trans (e2 3 (by omega)).symm)
  · exact (n1 1 (by omega) (by omega)).trans k2
  · exact (e2 1 (by omega)).trans k3
  · exact (n1 2 (by omega) (by omega)).trans k4
  · exact (e2 0 (by omega)).trans k5
  · exact (n1 3 (by omega) (by omega)).trans k6
  · exact (e2 2 (by omega)).trans k7
  · exact n13.trans t1
  · exact (e2 4 (by omega)).trans t2
  · obtain ⟨z, y1, y2, y3⟩ := t3 j hj
    exact ⟨z, y1, (n14 j (by omega)).trans y2, (e2 _ (by omega)).trans y3⟩
  · exact n15.trans w1
  · exact (e2 5 (by omega)).trans w2
  · exact (n16 j (by omega)).trans ((w3 j hj).trans (e2 _ (by omega)).symm)
  · exact n17
  · exact n18
  · exact (n19 j (by omega))
  · exact n22
  · exact n23
  · exact (n24 j (by omega))
theorem q_copyAll_0_26 (I : mx_I) (J : mx_J) : ∃ I', ((∀ j, j < 387 → I' 96 j = I 95 j) ∧ ∀ a j, a ≠ 96 → I' a j = I a j) ∧ mx_Cal mx_tab 298 147 [.ref 95, .ref 96] (mk I J) none (mk I' J) := by
  have c387 : (387 : Int32) = nI 387 := rfl
  obtain ⟨I1, ⟨p1, p2⟩, hP1⟩ := lqx (cl := k_Ref_copyAll) (C := mx_Cal mx_tab 297) (pc := 2) (i0 := 0) (n := 387) (fun j (_ : mx_I) => [some (.ref 95), some (.ref 96), some (.int (nI j))]) (fun I' => mk I' J) (fun i I' => (∀ j, j < i → I' 96 j = I 95 j) ∧ ∀ a j, a ≠ 96 → I' a j = I a j) (s0 := I) (Nat.zero_le 387) ⟨fun i hi => absurd hi (by omega), fun _ _ _ => rfl⟩ (fun j I' _ hj hQ => by
    obtain ⟨q1, q2⟩ := hQ
    refine ⟨mx_ups I' 96 j (I' 95 j), ⟨fun i hi => ?_, fun a i h => ?_⟩, fun P ih => ?_⟩
    · by_cases hij : i = j
      · rw [hij, ups_same, q2 _ _ (by omega)]
      · rw [ups_ne _ _ (by omega)]
        exact q1 i (by omega)
    · rw [ups_ne _ _ (by omega)]
      exact q2 a i h
    · rw [x_Ref_copyAll_2]
      simp (disch := omega) only [x_Ref_copyAll_3, x_Ref_copyAll_6, x_Ref_copyAll_9, x_Ref_copyAll_10, x_Ref_copyAll_11, x_Ref_copyAll_12, x_Ref_copyAll_13, x_Ref_copyAll_14, x_Ref_copyAll_15, x_Ref_copyAll_18, x_Ref_copyAll_21, mk_I, mk_J, mk_Q, mk_n, mk_sI, mk_sJ, Option.toList_some, Option.toList_none, List.cons_append, List.nil_append, true_and, and_true, ↓reduceIte, leT, leF, ltT, ltF, eqF, lt0F, le0T, le0F, eq0F, natT, nI_clamp, nI_1, if_true, if_false, not_true_eq_false, not_false_eq_true, z_00, z_10, eq_self, true_or, or_true, or_false, false_or, oa_96, or_95, c387]
      exact ih)
  refine ⟨I1, ⟨p1, p2⟩, ?_⟩
  refine mx_Cal_in (ls := [some (.ref 95), some (.ref 96), none]) (d := 297) tab_147 trivial (Nat.le_of_ble_eq_true rfl) rfl ?_
  simp only [x_Ref_copyAll_0, x_Ref_copyAll_1]
  refine hP1 _ ?_
  rw [x_Ref_copyAll_2]
  simp (disch := omega) only [x_Ref_copyAll_3, x_Ref_copyAll_6, x_Ref_copyAll_9, x_Ref_copyAll_10, x_Ref_copyAll_11, x_Ref_copyAll_12, x_Ref_copyAll_13, x_Ref_copyAll_14, x_Ref_copyAll_15, x_Ref_copyAll_18, x_Ref_copyAll_21, mk_I, mk_J, mk_Q, mk_n, mk_sI, mk_sJ, Option.toList_some, Option.toList_none, List.cons_append, List.nil_append, true_and, and_true, ↓reduceIte, leT, leF, ltT, ltF, eqF, lt0F, le0T, le0F, eq0F, natT, nI_clamp, nI_1, if_true, if_false, not_true_eq_false, not_false_eq_true, z_00, z_10, eq_self, true_or, or_true, or_false, false_or, c387]

theorem Snap.copy_26_0 {I I' : mx_I} (h : Snap I 26 96) (e1 : Cp I I' 26 0) (e2 : ∀ j, j < 387 → I' 95 j = I 96 j) : Snap I' 0 95 := by
  obtain ⟨⟨n, pl, od, h9, i1, i2, ho, hi, z3, z5, z7, z9, z11⟩, ⟨k1, a, b, c, a9, b9, c9, k2, k3, k4, k5, k6, k7⟩, ⟨t, t60, t1, t2, t3⟩, ⟨w, w24, w1, w2, w3⟩, ht0, ht1⟩ := h
  obtain ⟨n1, n2, n3, n5, n7, n9, n11, n13, n15, n18, n23, n4, n6, n8, n10, n12, n14, n19, n24, n16, n17, n22⟩ := e1
  refine ⟨⟨n, pl, od, h9, ?_, ?_, ho, fun i hin => ?_, ?_, ?_, ?_, ?_, ?_⟩, ⟨?_, a, b, c, a9, b9, c9, ?_, ?_, ?_, ?_, ?_, ?_⟩, ⟨t, t60, ?_, ?_, fun j hj => ?_⟩, ⟨w, w24, ?_, ?_, fun j hj => ?_⟩, ht0.copy ?_ ?_ (fun j hj => ?_) (fun j q1 q2 => e2 j (by omega)), ht1.copy ?_ ?_ (fun j hj => ?_) (fun j q1 q2 => e2 j (by omega))⟩
  · exact n2.trans i1
  · exact (e2 6 (by omega)).trans i2
  · obtain ⟨k, m, tt, f, b1, b2, b3, b4, d1, d2, d3, d4, d5, d6, d7, d8, d9, d10⟩ := hi i hin
    have hp := (ho.1 i hin).1
    refine ⟨k, m, tt, f, b1, b2, b3, b4, ?_, (e2 _ (by omega)).trans d2, ?_, (e2 _ (by omega)).trans d4, ?_, (e2 _ (by omega)).trans d6, ?_, (e2 _ (by omega)).trans d8, ?_, (e2 _ (by omega)).trans d10⟩
    · exact (n4 i (by omega)).trans d1
    · exact (n6 i (by omega)).trans d3
    · exact (n8 i (by omega)).trans d5
    · exact (n10 i (by omega)).trans d7
    · exact (n12 (pl i) (by omega)).trans d9
  · exact n3.trans z3
  · exact n5.trans z5
  · exact n7.trans z7
  · exact n9.trans z9
  · exact n11.trans z11
  · exact (n1 4 (by omega) (by omega)).trans (k1.trans (e2 3 (by omega)).symm)
  · exact (n1 1 (by omega) (by omega)).trans k2
  · exact (e2 1 (by omega)).trans k3
  · exact (n1 2 (by omega) (by omega)).trans k4
  · exact (e2 0 (by omega)).trans k5
  · exact (n1 3 (by omega) (by omega)).trans k6
  · exact (e2 2 (by omega)).trans k7
  · exact n13.trans t1
  · exact (e2 4 (by omega)).trans t2
  · obtain ⟨z, y1, y2, y3⟩ := t3 j hj
    exact ⟨z, y1, (n14 j (by omega)).trans y2, (e2 _ (by omega)).trans y3⟩
  · exact n15.trans w1
  · exact (e2 5 (by omega)).trans w2
  · exact (n16 j (by omega)).trans ((w3 j hj).trans (e2 _ (by omega)).symm)
  · exact n17
  · exact n18
  · exact (n19 j (by omega))
  · exact n22
  · exact n23
  · exact (n24 j (by omega))
theorem q_copyAll_26_0 (I : mx_I) (J : mx_J) : ∃ I', ((∀ j, j < 387 → I' 95 j = I 96 j) ∧ ∀ a j, a ≠ 95 → I' a j = I a j) ∧ mx_Cal mx_tab 298 147 [.ref 96, .ref 95] (mk I J) none (mk I' J) := by
  have c387 : (387 : Int32) = nI 387 := rfl
  obtain ⟨I1, ⟨p1, p2⟩, hP1⟩ := lqx (cl := k_Ref_copyAll) (C := mx_Cal mx_tab 297) (pc := 2) (i0 := 0) (n := 387) (fun j (_ : mx_I) => [some (.ref 96), some (.ref 95), some (.int (nI j))]) (fun I' => mk I' J) (fun i I' => (∀ j, j < i → I' 95 j = I 96 j) ∧ ∀ a j, a ≠ 95 → I' a j = I a j) (s0 := I) (Nat.zero_le 387) ⟨fun i hi => absurd hi (by omega), fun _ _ _ => rfl⟩ (fun j I' _ hj hQ => by
    obtain ⟨q1, q2⟩ := hQ
    refine ⟨mx_ups I' 95 j (I' 96 j), ⟨fun i hi => ?_, fun a i h => ?_⟩, fun P ih => ?_⟩
    · by_cases hij : i = j
      · rw [hij, ups_same, q2 _ _ (by omega)]
      · rw [ups_ne _ _ (by omega)]
        exact q1 i (by omega)
    · rw [ups_ne _ _ (by omega)]
      exact q2 a i h
    · rw [x_Ref_copyAll_2]
      simp (disch := omega) only [x_Ref_copyAll_3, x_Ref_copyAll_6, x_Ref_copyAll_9, x_Ref_copyAll_10, x_Ref_copyAll_11, x_Ref_copyAll_12, x_Ref_copyAll_13, x_Ref_copyAll_14, x_Ref_copyAll_15, x_Ref_copyAll_18, x_Ref_copyAll_21, mk_I, mk_J, mk_Q, mk_n, mk_sI, mk_sJ, Option.toList_some, Option.toList_none, List.cons_append, List.nil_append, true_and, and_true, ↓reduceIte, leT, leF, ltT, ltF, eqF, lt0F, le0T, le0F, eq0F, natT, nI_clamp, nI_1, if_true, if_false, not_true_eq_false, not_false_eq_true, z_00, z_10, eq_self, true_or, or_true, or_false, false_or, oa_95, or_96, c387]
      exact ih)
  refine ⟨I1, ⟨p1, p2⟩, ?_⟩
  refine mx_Cal_in (ls := [some (.ref 96), some (.ref 95), none]) (d := 297) tab_147 trivial (Nat.le_of_ble_eq_true rfl) rfl ?_
  simp only [x_Ref_copyAll_0, x_Ref_copyAll_1]
  refine hP1 _ ?_
  rw [x_Ref_copyAll_2]
  simp (disch := omega) only [x_Ref_copyAll_3, x_Ref_copyAll_6, x_Ref_copyAll_9, x_Ref_copyAll_10, x_Ref_copyAll_11, x_Ref_copyAll_12, x_Ref_copyAll_13, x_Ref_copyAll_14, x_Ref_copyAll_15, x_Ref_copyAll_18, x_Ref_copyAll_21, mk_I, mk_J, mk_Q, mk_n, mk_sI, mk_sJ, Option.toList_some, Option.toList_none, List.cons_append, List.nil_append, true_and, and_true, ↓reduceIte, leT, leF, ltT, ltF, eqF, lt0F, le0T, le0F, eq0F, natT, nI_clamp, nI_1, if_true, if_false, not_true_eq_false, not_false_eq_true, z_00, z_10, eq_self, true_or, or_true, or_false, false_or, c387]

theorem Inv.img {L : Nat} {xs : Nat → Int32} {I I' : mx_I} (h : Inv L xs I) (e : ∀ a j, ¬ ((27 ≤ a ∧ a ≤ 52) ∨ a = 96 ∨ (a = 0 ∧ j = 2) ∨ (a = 94 ∧ j = 2)) → I' a j = I a j) (h2 : I' 0 2 = I' 94 2) (hs : Snap I' 26 96) : Inv L xs I' := by
  obtain ⟨b1, b2, b3, b4, b5, b6⟩ := h
  exact ⟨b1.congr (fun a j q1 q2 => e a j (by omega)) (fun j => e 95 j (by omega)), ⟨h2, fun _ => hs⟩, fun k hk => by rw [e 54 k (by omega), e 97 k (by omega)]; exact b3 k hk, b4.congr (fun a j q => e a j (by omega)) (e _ _ (by omega)) (fun a q1 q2 => e a 0 (by omega)), fun q hq => (b5 q hq).congr hq (fun a j q1 q2 => e a j (by omega)) (fun a j q1 q2 => e a j (by omega)), fun a i ha => by rw [e a i (by omega)]; exact b6 a i ha⟩
theorem TextR.sk {I : mx_I} {u t mS b : Nat} (h : TextR I u t mS b) : (∃ c, c ≤ 60 ∧ I (t + 1) 1 = nI c) ∧ (I t 0 = 0 ∨ I t 0 = 1) := by
  obtain ⟨h1, h2⟩ := h
  refine ⟨h1, ?_⟩
  rcases h2 with ⟨h, -⟩ | ⟨h, -⟩
  · exact Or.inl h
  · exact Or.inr h
theorem op_image {L : Nat} {xs : Nat → Int32} {I : mx_I} (hI : Inv L xs I) : OpI L xs I 129 233 [] := by
  have hS := hI.1
  obtain ⟨⟨n, pl, od, h9, i1, i2, ho, hi, z3, z5, z7, z9, z11⟩, hcl, ⟨t, t60, t1, t2, t3⟩, ⟨w, w24, w1, w2, w3⟩, ht0, ht1⟩ := hI.1
  obtain ⟨⟨c0, c060, hc0⟩, hs0⟩ := ht0.sk
  obtain ⟨⟨c1, c160, hc1⟩, hs1⟩ := ht1.sk
  have hi02 := hI.2.1.1
  intro J
  obtain ⟨I1, ⟨p1, p2⟩, hcal⟩ := q_tfShow_0_26 I J z3 z5 z7 z9 z11 t1 t60 w1 w24 hs0 hc0 c060 hs1 hc1 c160
  obtain ⟨I2, ⟨r1, r2⟩, hcal2⟩ := q_copyAll_0_26 (mx_ups I1 0 2 (I1 0 2 + 1)) J
  refine ⟨I 0 2 + 1, mx_ups I1 0 2 (I1 0 2 + 1), mx_ups I2 94 2 (I2 94 2 + 1), J, J, ?_, ?_, hI.2.2.2.2.2.upd (fun a j h => by rw [ups_ne _ _ (by omega), p2 a j (by omega)]), hI.img (fun a j h => by rw [ups_ne _ _ (by omega), r2 a j (by omega), ups_ne _ _ (by omega), p2 a j (by omega)]) ?_ (hS.copy_0_26 (p1.fr (fun a j g1 g2 => by rw [ups_ne _ _ (by omega), r2 _ _ (by omega), ups_ne _ _ (by omega)])) (fun j hj => ?_))⟩
  · refine mx_Cal_in (ls := [some (.ref 0)]) (d := 299) tab_129 (by rw [mx_rcv, oc_0]; trivial) (Nat.le_of_ble_eq_true rfl) rfl ?_
    simp (disch := omega) only [x_Main_image_0, x_Main_image_1, x_Main_image_4, x_Main_image_5, x_Main_image_8, x_Main_image_11, x_Main_image_12, x_Main_image_13, x_Main_image_16, x_Main_image_17, x_Main_image_18, x_Main_image_21, x_Main_image_22, x_Main_image_25, mk_I, mk_J, mk_Q, mk_n, mk_sI, mk_sJ, Option.toList_some, Option.toList_none, List.cons_append, List.nil_append, true_and, and_true, ↓reduceIte, leT, leF, ltT, ltF, eqF, lt0F, le0T, le0F, eq0F, natT, nI_clamp, nI_1, if_true, if_false, not_true_eq_false, not_false_eq_true, z_00, z_10, eq_self, true_or, or_true, or_false, false_or, oc_0, oc_1, oc_2, rt_0_0, rt_0_1, rt_0_3, rt_0_4, rt_0_5, rt_0_6, rt_0_7, rt_0_8, rt_0_9, rt_1_0, rt_1_5, rt_1_6, rt_1_7, rt_1_8, rt_2_1, rt_2_2, rt_2_3, rt_2_4, rt_2_5, rt_0_0, rt_0_1, rt_0_3, rt_0_4, rt_0_5, rt_0_6, rt_0_7, rt_0_8, rt_0_9, mx_call (hcal 0) _, ups_same, p2 0 2 (by omega)]
  · refine mx_Cal_in (ls := [some (.ref 94)]) (d := 299) tab_233 (by rw [mx_rcv, oc_94]; trivial) (Nat.le_of_ble_eq_true rfl) rfl ?_
    simp (disch := omega) only [x_Ref_image_0, x_Ref_image_1, x_Ref_image_4, x_Ref_image_5, x_Ref_image_8, x_Ref_image_11, x_Ref_image_12, x_Ref_image_13, x_Ref_image_16, x_Ref_image_17, x_Ref_image_18, x_Ref_image_21, x_Ref_image_22, x_Ref_image_25, mk_I, mk_J, mk_Q, mk_n, mk_sI, mk_sJ, Option.toList_some, Option.toList_none, List.cons_append, List.nil_append, true_and, and_true, ↓reduceIte, leT, leF, ltT, ltF, eqF, lt0F, le0T, le0F, eq0F, natT, nI_clamp, nI_1, if_true, if_false, not_true_eq_false, not_false_eq_true, z_00, z_10, eq_self, true_or, or_true, or_false, false_or, oc_94, rt_94_0, rt_94_1, rt_94_3, rt_94_8, rt_94_9, rt_94_10, rt_94_11, rt_94_12, rt_94_15, rt_94_16, rt_94_18, rt_94_21, rt_94_22, rt_94_23, rt_94_24, or_95, oa_95, tc_0, kc_0, k0_0, tc_1, kc_1, k0_1, tc_2, kc_2, k0_2, tc_3, kc_3, k0_3, tc_4, kc_4, k0_4, tc_5, kc_5, k0_5, tc_6, kc_6, k0_6, tc_7, kc_7, k0_7, mx_call hcal2 _, ups_same, ups_ne, r2 94 2 (by omega), p2 94 2 (by omega), hi02]
  · simp (disch := omega) only [ups_ne, ups_same, r2, p2, hi02]
  · rw [ups_ne _ _ (by omega), r1 j hj, ups_ne _ _ (by omega), p2 95 j (by omega)]
theorem op_restore {L : Nat} {xs : Nat → Int32} {I : mx_I} (hI : Inv L xs I) : OpI L xs I 130 234 [] := by
  have hi02 := hI.2.1.1
  by_cases h0 : I 94 2 = 0
  · refine OpI.err hI 2 (fun J => ?_) (fun J => ?_)
    · refine mx_Cal_in (ls := [some (.ref 0)]) (d := 299) tab_130 (by rw [mx_rcv, oc_0]; trivial) (Nat.le_of_ble_eq_true rfl) rfl ?_
      simp (disch := omega) only [x_Main_restore_0, x_Main_restore_1, x_Main_restore_4, x_Main_restore_7, x_Main_restore_8, x_Main_restore_9, x_Main_restore_12, x_Main_restore_13, x_Main_restore_14, x_Main_restore_17, x_Main_restore_18, x_Main_restore_21, x_Main_restore_24, x_Main_restore_25, x_Main_restore_28, x_Main_restore_31, mk_I, mk_J, mk_Q, mk_n, mk_sI, mk_sJ, Option.toList_some, Option.toList_none, List.cons_append, List.nil_append, true_and, and_true, ↓reduceIte, leT, leF, ltT, ltF, eqF, lt0F, le0T, le0F, eq0F, natT, nI_clamp, nI_1, if_true, if_false, not_true_eq_false, not_false_eq_true, z_00, z_10, eq_self, true_or, or_true, or_false, false_or, oc_0, oc_1, oc_2, rt_0_0, rt_0_1, rt_0_3, rt_0_4, rt_0_5, rt_0_6, rt_0_7, rt_0_8, rt_0_9, rt_1_0, rt_1_5, rt_1_6, rt_1_7, rt_1_8, rt_2_1, rt_2_2, rt_2_3, rt_2_4, rt_2_5, hi02, h0, mx_call (x_err_2 (d := 0) I J) _, mx_call (x_errN (d := 0) (k := 2) I J (by omega)) _]
    · refine mx_Cal_in (ls := [some (.ref 94)]) (d := 299) tab_234 (by rw [mx_rcv, oc_94]; trivial) (Nat.le_of_ble_eq_true rfl) rfl ?_
      simp (disch := omega) only [x_Ref_restore_0, x_Ref_restore_1, x_Ref_restore_4, x_Ref_restore_7, x_Ref_restore_8, x_Ref_restore_9, x_Ref_restore_12, x_Ref_restore_13, x_Ref_restore_14, x_Ref_restore_17, x_Ref_restore_18, x_Ref_restore_21, x_Ref_restore_24, x_Ref_restore_25, x_Ref_restore_28, x_Ref_restore_29, x_Ref_restore_30, mk_I, mk_J, mk_Q, mk_n, mk_sI, mk_sJ, Option.toList_some, Option.toList_none, List.cons_append, List.nil_append, true_and, and_true, ↓reduceIte, leT, leF, ltT, ltF, eqF, lt0F, le0T, le0F, eq0F, natT, nI_clamp, nI_1, if_true, if_false, not_true_eq_false, not_false_eq_true, z_00, z_10, eq_self, true_or, or_true, or_false, false_or, oc_94, rt_94_0, rt_94_1, rt_94_3, rt_94_8, rt_94_9, rt_94_10, rt_94_11, rt_94_12, rt_94_15, rt_94_16, rt_94_18, rt_94_21, rt_94_22, rt_94_23, rt_94_24, or_95, oa_95, tc_0, kc_0, k0_0, tc_1, kc_1, k0_1, tc_2, kc_2, k0_2, tc_3, kc_3, k0_3, tc_4, kc_4, k0_4, tc_5, kc_5, k0_5, tc_6, kc_6, k0_6, tc_7, kc_7, k0_7, eX95, eX94, h0, mx_call (m_err_2 (d := 0) (eX I 2) J) _, mx_call (m_errN (d := 0) (k := 2) (eX I 2) J (by omega)) _]
  have hS := hI.2.1.2 (by rw [hi02]; exact h0)
  obtain ⟨⟨n, pl, od, h9, i1, i2, ho, hi, z3, z5, z7, z9, z11⟩, ⟨k1, a, b, c, a9, b9, c9, k2, k3, k4, k5, k6, k7⟩, ⟨t, t60, t1, t2, t3⟩, ⟨w, w24, w1, w2, w3⟩, ht0, ht1⟩ := hS
  obtain ⟨⟨c0, c060, hc0⟩, hs0⟩ := ht0.sk
  obtain ⟨⟨c1, c160, hc1⟩, hs1⟩ := ht1.sk
  intro J
  obtain ⟨I1, ⟨p1, p2⟩, hcal⟩ := q_tfShow_26_0 I J z3 z5 z7 z9 z11 t1 t60 w1 w24 hs0 hc0 c060 hs1 hc1 c160
  obtain ⟨I2, ⟨r1, r2⟩, hcal2⟩ := q_copyAll_26_0 I1 J
  have hS := hI.2.1.2 (by rw [hi02]; exact h0)
  have v1 : I1 1 2 = nI b := (p1.1 2 (by omega) (by omega)).trans k4
  have v2 : I2 95 0 = nI b := (r1 0 (by omega)).trans ((p2 96 0 (by omega)).trans k5)
  refine ⟨nI b, I1, I2, J, J, ?_, ?_, hI.2.2.2.2.2.upd (fun a j h => p2 a j (by omega)), hI.mk2 (fun a j h => by rw [r2 a j (by omega), p2 a j (by omega)]) (hS.copy_26_0 (p1.fr (fun a j g1 g2 => by rw [r2 _ _ (by omega)])) (fun j hj => ?_))⟩
  · refine mx_Cal_in (ls := [some (.ref 0)]) (d := 299) tab_130 (by rw [mx_rcv, oc_0]; trivial) (Nat.le_of_ble_eq_true rfl) rfl ?_
    simp (disch := omega) only [x_Main_restore_0, x_Main_restore_1, x_Main_restore_4, x_Main_restore_7, x_Main_restore_8, x_Main_restore_9, x_Main_restore_12, x_Main_restore_13, x_Main_restore_14, x_Main_restore_17, x_Main_restore_18, x_Main_restore_21, x_Main_restore_24, x_Main_restore_25, x_Main_restore_28, x_Main_restore_31, mk_I, mk_J, mk_Q, mk_n, mk_sI, mk_sJ, Option.toList_some, Option.toList_none, List.cons_append, List.nil_append, true_and, and_true, ↓reduceIte, leT, leF, ltT, ltF, eqF, lt0F, le0T, le0F, eq0F, natT, nI_clamp, nI_1, if_true, if_false, not_true_eq_false, not_false_eq_true, z_00, z_10, eq_self, true_or, or_true, or_false, false_or, oc_0, oc_1, oc_2, rt_0_0, rt_0_1, rt_0_3, rt_0_4, rt_0_5, rt_0_6, rt_0_7, rt_0_8, rt_0_9, rt_1_0, rt_1_5, rt_1_6, rt_1_7, rt_1_8, rt_2_1, rt_2_2, rt_2_3, rt_2_4, rt_2_5, hi02, h0, mx_call (hcal 0) _, v1]
  · refine mx_Cal_in (ls := [some (.ref 94)]) (d := 299) tab_234 (by rw [mx_rcv, oc_94]; trivial) (Nat.le_of_ble_eq_true rfl) rfl ?_
    simp (disch := omega) only [x_Ref_restore_0, x_Ref_restore_1, x_Ref_restore_4, x_Ref_restore_7, x_Ref_restore_8, x_Ref_restore_9, x_Ref_restore_12, x_Ref_restore_13, x_Ref_restore_14, x_Ref_restore_17, x_Ref_restore_18, x_Ref_restore_21, x_Ref_restore_24, x_Ref_restore_25, x_Ref_restore_28, x_Ref_restore_29, x_Ref_restore_30, mk_I, mk_J, mk_Q, mk_n, mk_sI, mk_sJ, Option.toList_some, Option.toList_none, List.cons_append, List.nil_append, true_and, and_true, ↓reduceIte, leT, leF, ltT, ltF, eqF, lt0F, le0T, le0F, eq0F, natT, nI_clamp, nI_1, if_true, if_false, not_true_eq_false, not_false_eq_true, z_00, z_10, eq_self, true_or, or_true, or_false, false_or, oc_94, rt_94_0, rt_94_1, rt_94_3, rt_94_8, rt_94_9, rt_94_10, rt_94_11, rt_94_12, rt_94_15, rt_94_16, rt_94_18, rt_94_21, rt_94_22, rt_94_23, rt_94_24, or_95, oa_95, tc_0, kc_0, k0_0, tc_1, kc_1, k0_1, tc_2, kc_2, k0_2, tc_3, kc_3, k0_3, tc_4, kc_4, k0_4, tc_5, kc_5, k0_5, tc_6, kc_6, k0_6, tc_7, kc_7, k0_7, p2 94 2 (by omega), h0, mx_call hcal2 _, v2]
  · rw [r1 j hj, p2 96 j (by omega)]
