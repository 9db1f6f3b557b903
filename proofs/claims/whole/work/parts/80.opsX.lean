/-! text: the reference's descent -/
def PS (I : mx_I) (i o : Nat) (S : List (Nat × Nat)) : Prop := I 94 4 = nI i ∧ I 94 5 = nI o ∧ I 94 6 = nI S.length ∧ ∀ k, k < S.length → I 98 (2 * k) = nI (S.getD k (0, 0)).1 ∧ I 98 (2 * k + 1) = nI (S.getD k (0, 0)).2
def Fr (I I' : mx_I) : Prop := ∀ a j, ¬ (a = 94 ∧ (j = 4 ∨ j = 5 ∨ j = 6)) → a ≠ 98 → I' a j = I a j
def TPR (n u : Nat) (B : Nat → Nat) (I : mx_I) : Prop := I 95 4 = nI n ∧ (∀ j, j < n → I 95 (303 + j) = nI (B j)) ∧ I 94 7 = nI u
theorem Fr.refl (I : mx_I) : Fr I I := fun _ _ _ _ => rfl
theorem Fr.trans {I I1 I2 : mx_I} (h1 : Fr I I1) (h2 : Fr I1 I2) : Fr I I2 := fun a j q1 q2 => (h2 a j q1 q2).trans (h1 a j q1 q2)
theorem Fr.up {I : mx_I} {j : Nat} (v : Int32) (h : j = 4 ∨ j = 5 ∨ j = 6) : Fr I (mx_ups I 94 j v) := fun a k q1 q2 => ups_ne _ _ (by omega)
theorem TPR.fr {n u : Nat} {B : Nat → Nat} {I I' : mx_I} (h : TPR n u B I) (f : Fr I I') : TPR n u B I' := ⟨(f 95 4 (by omega) (by omega)).trans h.1, fun j hj => (f 95 _ (by omega) (by omega)).trans (h.2.1 j hj), (f 94 7 (by omega) (by omega)).trans h.2.2⟩
theorem PS.at_ {I : mx_I} {i o : Nat} {S : List (Nat × Nat)} (h : PS I i o S) (j : Nat) : PS (mx_ups I 94 4 (nI j)) j o S := by
  obtain ⟨h1, h2, h3, h4⟩ := h
  refine ⟨ups_same _ _ _ _, by rw [ups_ne _ _ (by omega)]; exact h2, by rw [ups_ne _ _ (by omega)]; exact h3, fun k hk => ?_⟩
  rw [ups_ne _ _ (by omega), ups_ne _ _ (by omega)]
  exact h4 k hk
theorem PS.op_ {I : mx_I} {i o : Nat} {S : List (Nat × Nat)} (h : PS I i o S) (j : Nat) : PS (mx_ups I 94 5 (nI j)) i j S := by
  obtain ⟨h1, h2, h3, h4⟩ := h
  refine ⟨by rw [ups_ne _ _ (by omega)]; exact h1, ups_same _ _ _ _, by rw [ups_ne _ _ (by omega)]; exact h3, fun k hk => ?_⟩
  rw [ups_ne _ _ (by omega), ups_ne _ _ (by omega)]
  exact h4 k hk
theorem gpL {L1 L2 : List (Nat × Nat)} {j : Nat} (h : j < L1.length) : (L1 ++ L2).getD j (0, 0) = L1.getD j (0, 0) := by
  rw [List.getD_eq_getElem?_getD, List.getD_eq_getElem?_getD, List.getElem?_append_left h]
theorem gpR {L1 : List (Nat × Nat)} {b : Nat × Nat} : (L1 ++ [b]).getD L1.length (0, 0) = b := by
  rw [List.getD_eq_getElem?_getD, List.getElem?_append_right (Nat.le_refl _), Nat.sub_self]
  rfl
theorem ln_snoc (L1 : List (Nat × Nat)) (b : Nat × Nat) : (L1 ++ [b]).length = L1.length + 1 := by rw [List.length_append]; rfl
theorem q_step1 {d i o : Nat} {S : List (Nat × Nat)} {I : mx_I} (hp : PS I i o S) (J : mx_J) (hl : S.length < 62) (x v : Nat) : ∃ I', PS I' i o (S ++ [(x, v)]) ∧ Fr I I' ∧ mx_Cal mx_tab (d + 1) 155 [.ref 94, .int (nI x), .int (nI v)] (mk I J) none (mk I' J) := by
  obtain ⟨h1, h2, h3, h4⟩ := hp
  refine ⟨mx_ups (mx_ups (mx_ups I 98 (2 * S.length) (nI x)) 98 (2 * S.length + 1) (nI v)) 94 6 (nI (S.length + 1)), ⟨?_, ?_, ?_, fun k hk => ?_⟩, fun a j q1 q2 => ?_, ?_⟩
  · simp (disch := omega) only [ups_ne]; exact h1
  · simp (disch := omega) only [ups_ne]; exact h2
  · rw [ln_snoc]; exact ups_same _ _ _ _
  · rw [ln_snoc] at hk
    by_cases q : k = S.length
    · subst q
      rw [gpR]
      refine ⟨?_, ?_⟩
      · rw [ups_ne _ _ (by omega), ups_ne _ _ (by omega), ups_same]
      · rw [ups_ne _ _ (by omega), ups_same]
    · rw [gpL (by omega)]
      simp (disch := omega) only [ups_ne]
      exact h4 k (by omega)
  · simp (disch := omega) only [ups_ne]
  · have e2 : (2 : Int32) * nI S.length = nI (2 * S.length) := pk_mul (a := 2) ..
    refine mx_Cal_in (ls := [some (.ref 94), some (.int (nI x)), some (.int (nI v))]) tab_155 (by rw [mx_rcv, oc_94]; trivial) (Nat.le_of_ble_eq_true rfl) rfl ?_
    simp (disch := omega) only [x_Ref_step1_0, x_Ref_step1_1, x_Ref_step1_4, x_Ref_step1_5, x_Ref_step1_6, x_Ref_step1_9, x_Ref_step1_10, x_Ref_step1_11, x_Ref_step1_12, x_Ref_step1_13, x_Ref_step1_16, x_Ref_step1_17, x_Ref_step1_18, x_Ref_step1_21, x_Ref_step1_22, x_Ref_step1_23, x_Ref_step1_24, x_Ref_step1_25, x_Ref_step1_26, x_Ref_step1_27, x_Ref_step1_28, x_Ref_step1_31, x_Ref_step1_32, x_Ref_step1_33, x_Ref_step1_36, mk_I, mk_J, mk_Q, mk_n, mk_sI, mk_sJ, Option.toList_some, Option.toList_none, List.cons_append, List.nil_append, true_and, and_true, ↓reduceIte, leT, leF, ltT, ltF, eqF, lt0F, le0T, le0F, eq0F, natT, nI_clamp, nI_1, if_true, if_false, not_true_eq_false, not_false_eq_true, z_00, z_10, eq_self, true_or, or_true, or_false, false_or, oc_94, rt_94_0, rt_94_1, rt_94_3, rt_94_8, rt_94_9, rt_94_10, rt_94_11, rt_94_12, rt_94_15, rt_94_16, rt_94_18, rt_94_21, rt_94_22, rt_94_23, rt_94_24, oa_98, h3, e2, nI_1, nI_clamp, ups_ne]
def lkV (n : Nat) (B : Nat → Nat) (i : Nat) : Int32 := if i < n then nI (B i) else -1
theorem q_look {d n u i : Nat} {B : Nat → Nat} {I : mx_I} (ht : TPR n u B I) (hn : n ≤ 60) (h4 : I 94 4 = nI i) (hi : i ≤ n) (J : mx_J) : mx_Cal mx_tab (d + 1) 153 [.ref 94] (mk I J) (some (.int (lkV n B i))) (mk I J) := by
  obtain ⟨t1, t2, t3⟩ := ht
  have c303 : (303 : Int32) = nI 303 := rfl
  refine mx_Cal_in (ls := [some (.ref 94)]) tab_153 (by rw [mx_rcv, oc_94]; trivial) (Nat.le_of_ble_eq_true rfl) rfl ?_
  unfold lkV
  by_cases h : i < n
  · have e := t2 i h
    rw [if_pos h]
    simp (disch := omega) only [x_Ref_look_0, x_Ref_look_1, x_Ref_look_4, x_Ref_look_5, x_Ref_look_8, x_Ref_look_9, x_Ref_look_10, x_Ref_look_13, x_Ref_look_14, x_Ref_look_17, x_Ref_look_20, x_Ref_look_21, x_Ref_look_24, x_Ref_look_25, x_Ref_look_26, x_Ref_look_29, x_Ref_look_30, mk_I, mk_J, mk_Q, mk_n, mk_sI, mk_sJ, Option.toList_some, Option.toList_none, List.cons_append, List.nil_append, true_and, and_true, ↓reduceIte, leT, leF, ltT, ltF, eqF, lt0F, le0T, le0F, eq0F, natT, nI_clamp, nI_1, if_true, if_false, not_true_eq_false, not_false_eq_true, z_00, z_10, eq_self, true_or, or_true, or_false, false_or, oc_94, rt_94_0, rt_94_1, rt_94_3, rt_94_8, rt_94_9, rt_94_10, rt_94_11, rt_94_12, rt_94_15, rt_94_16, rt_94_18, rt_94_21, rt_94_22, rt_94_23, rt_94_24, or_95, oa_95, tc_0, kc_0, k0_0, tc_1, kc_1, k0_1, tc_2, kc_2, k0_2, tc_3, kc_3, k0_3, tc_4, kc_4, k0_4, tc_5, kc_5, k0_5, tc_6, kc_6, k0_6, tc_7, kc_7, k0_7, h4, t1, c303, nI_add, nI_clamp, e]
  · rw [if_neg h]
    simp (disch := omega) only [x_Ref_look_0, x_Ref_look_1, x_Ref_look_4, x_Ref_look_5, x_Ref_look_8, x_Ref_look_9, x_Ref_look_10, x_Ref_look_13, x_Ref_look_14, x_Ref_look_17, x_Ref_look_20, x_Ref_look_21, x_Ref_look_24, x_Ref_look_25, x_Ref_look_26, x_Ref_look_29, x_Ref_look_30, mk_I, mk_J, mk_Q, mk_n, mk_sI, mk_sJ, Option.toList_some, Option.toList_none, List.cons_append, List.nil_append, true_and, and_true, ↓reduceIte, leT, leF, ltT, ltF, eqF, lt0F, le0T, le0F, eq0F, natT, nI_clamp, nI_1, if_true, if_false, not_true_eq_false, not_false_eq_true, z_00, z_10, eq_self, true_or, or_true, or_false, false_or, oc_94, rt_94_0, rt_94_1, rt_94_3, rt_94_8, rt_94_9, rt_94_10, rt_94_11, rt_94_12, rt_94_15, rt_94_16, rt_94_18, rt_94_21, rt_94_22, rt_94_23, rt_94_24, or_95, oa_95, tc_0, kc_0, k0_0, tc_1, kc_1, k0_1, tc_2, kc_2, k0_2, tc_3, kc_3, k0_3, tc_4, kc_4, k0_4, tc_5, kc_5, k0_5, tc_6, kc_6, k0_6, tc_7, kc_7, k0_7, h4, t1]
theorem lk_t {n i c : Nat} {B : Nat → Nat} (h : i < n) (hc : B i = c) : lkV n B i = nI c := by
  unfold lkV
  rw [if_pos h, hc]
theorem lk_f {n i c : Nat} {B : Nat → Nat} (hB : B i < 256) (hc : c < 256) (h : ¬ (i < n ∧ B i = c)) : (lkV n B i = nI c) = False := by
  unfold lkV
  by_cases hi : i < n
  · rw [if_pos hi]
    exact eqF (fun q => h ⟨hi, q⟩) (by omega) (by omega)
  · rw [if_neg hi]
    refine eq_false (fun q => ?_)
    have := ne_m1 (a := c) (by omega)
    rw [← q] at this
    exact of_eq_false this rfl
def PG (n u : Nat) (B : Nat → Nat) (o d g : Nat) (f : Nat → List (Nat × Nat) → pr_R) : Prop := ∀ (i : Nat) (S : List (Nat × Nat)) (I : mx_I) (J : mx_J), i ≤ n → S.length ≤ i → TPR n u B I → PS I i o S → (∀ j S', f i S = (true, j, S') → ∃ I', Fr I I' ∧ PS I' j o S' ∧ i ≤ j ∧ j ≤ n ∧ S'.length + i ≤ S.length + j ∧ mx_Cal mx_tab (d + 1) g [.ref 94] (mk I J) (some (.int 1)) (mk I' J)) ∧ ∀ j S', f i S = (false, j, S') → ∃ I', Fr I I' ∧ I' 94 4 = nI j ∧ mx_Cal mx_tab (d + 1) g [.ref 94] (mk I J) (some (.int 0)) (mk I' J)
theorem rk1 {c : Nat} : pr_rank c = 1 ↔ (c = 124) := by
  constructor
  · intro h
    unfold pr_rank at h
    repeat' split at h
    all_goals omega
  · intro h
    subst h; rfl
theorem rk2 {c : Nat} : pr_rank c = 2 ↔ (c = 38) := by
  constructor
  · intro h
    unfold pr_rank at h
    repeat' split at h
    all_goals omega
  · intro h
    subst h; rfl
theorem rk3 {c : Nat} : pr_rank c = 3 ↔ (c = 60 ∨ c = 61 ∨ c = 62) := by
  constructor
  · intro h
    unfold pr_rank at h
    repeat' split at h
    all_goals omega
  · intro h
    rcases h with rfl | rfl | rfl <;> rfl
theorem rk4 {c : Nat} : pr_rank c = 4 ↔ (c = 43 ∨ c = 45) := by
  constructor
  · intro h
    unfold pr_rank at h
    repeat' split at h
    all_goals omega
  · intro h
    rcases h with rfl | rfl <;> rfl
theorem rk5 {c : Nat} : pr_rank c = 5 ↔ (c = 42 ∨ c = 47 ∨ c = 37) := by
  constructor
  · intro h
    unfold pr_rank at h
    repeat' split at h
    all_goals omega
  · intro h
    rcases h with rfl | rfl | rfl <;> rfl
theorem lp_product {n u o d : Nat} {B : Nat → Nat} {sub : Nat → List (Nat × Nat) → pr_R} (hn : n ≤ 60) (hB : ∀ j, B j < 256) (hs : PG n u B o d 162 sub) (J : mx_J) : ∀ (f i : Nat) (S : List (Nat × Nat)) (I : mx_I) (w : Option Value) , n < i + f → i ≤ n → S.length ≤ i → TPR n u B I → PS I i o S → (∀ j S', pr_lp n B (fun c => decide (pr_rank c = 5)) sub f i S = (true, j, S') → ∃ I', Fr I I' ∧ PS I' j o S' ∧ i ≤ j ∧ j ≤ n ∧ S'.length + i ≤ S.length + j ∧ ∀ P : mx_P, P (some (.int 1)) (mk I' J) → mx_R k_Ref_product (mx_Cal mx_tab (d + 1)) 9 [some (.ref 94), w] [] (mk I J) P) ∧ ∀ j S', pr_lp n B (fun c => decide (pr_rank c = 5)) sub f i S = (false, j, S') → ∃ I', Fr I I' ∧ I' 94 4 = nI j ∧ ∀ P : mx_P, P (some (.int 0)) (mk I' J) → mx_R k_Ref_product (mx_Cal mx_tab (d + 1)) 9 [some (.ref 94), w] [] (mk I J) P
  | 0, i, S, I, w, hf, hi, hl, ht, hp => by omega
  | f + 1, i, S, I, w, hf, hi, hl, ht, hp => by
    have hlk := q_look (d := 0) ht hn hp.1 hi J
    have h4 := hp.1
    have hBi := hB i
    by_cases hc : i < n ∧ pr_rank (B i) = 5
    · have hc' : i < n ∧ (fun c => decide (pr_rank c = 5)) (B i) = true := ⟨hc.1, decide_eq_true hc.2⟩
      have hv := rk5.mp hc.2
      obtain ⟨g1, g2⟩ := hs (i + 1) S (mx_ups I 94 4 (nI (i + 1))) J (by omega) (by omega) (ht.fr (Fr.up _ (Or.inl rfl))) (hp.at_ (i + 1))
      have fa : Fr I (mx_ups I 94 4 (nI (i + 1))) := Fr.up _ (Or.inl rfl)
      cases hsub : sub (i + 1) S with
      | mk b js =>
        obtain ⟨j, S2⟩ := js
        cases b with
        | true =>
          obtain ⟨I2, f2, p2, j1, j2, j3, c2⟩ := g1 j S2 hsub
          obtain ⟨I3, p3, f3, c3⟩ := q_step1 (d := 0) p2 J (by omega) 3 (B i)
          have e : pr_lp n B (fun c => decide (pr_rank c = 5)) sub (f + 1) i S = pr_lp n B (fun c => decide (pr_rank c = 5)) sub f j (S2 ++ [(3, B i)]) := by
            simp only [pr_lp]
            rw [if_pos hc', hsub]
          rw [e]
          have ls := ln_snoc S2 (3, B i)
          have fr := (fa.trans f2).trans f3
          obtain ⟨k1, k2⟩ := lp_product hn hB hs J f j (S2 ++ [(3, B i)]) I3 (some (.int (nI (B i)))) (by omega) j2 (by omega) (ht.fr fr) p3
          have go : ∀ P : mx_P, mx_R k_Ref_product (mx_Cal mx_tab (d + 1)) 9 [some (.ref 94), some (.int (nI (B i)))] [] (mk I3 J) P → mx_R k_Ref_product (mx_Cal mx_tab (d + 1)) 9 [some (.ref 94), w] [] (mk I J) P := fun P hP => by
            rw [x_Ref_product_9]
            rcases hv with hv | hv | hv
            · rw [hv] at c3 hP
              rw [lk_t hc.1 hv] at hlk
              simp (disch := omega) only [x_Ref_product_10, x_Ref_product_13, x_Ref_product_15, x_Ref_product_18, x_Ref_product_19, x_Ref_product_22, x_Ref_product_24, x_Ref_product_27, x_Ref_product_28, x_Ref_product_31, x_Ref_product_33, x_Ref_product_36, x_Ref_product_37, x_Ref_product_40, x_Ref_product_41, x_Ref_product_42, x_Ref_product_43, x_Ref_product_46, x_Ref_product_47, x_Ref_product_48, x_Ref_product_51, x_Ref_product_52, x_Ref_product_55, x_Ref_product_58, x_Ref_product_59, x_Ref_product_60, x_Ref_product_61, x_Ref_product_62, x_Ref_product_63, x_Ref_product_66, x_Ref_product_69, x_Ref_product_70, mk_I, mk_J, mk_Q, mk_n, mk_sI, mk_sJ, Option.toList_some, Option.toList_none, List.cons_append, List.nil_append, true_and, and_true, ↓reduceIte, leT, leF, ltT, ltF, eqF, lt0F, le0T, le0F, eq0F, natT, nI_clamp, nI_1, if_true, if_false, not_true_eq_false, not_false_eq_true, z_00, z_10, eq_self, true_or, or_true, or_false, false_or, oc_94, mx_call hlk _, show (nI 42 = 42) = True from eq_true rfl, h4, nI_1, mx_call c2 _, z_10, mx_call c3 _, show (3 : Int32) = nI 3 from rfl]
              exact hP
            · rw [hv] at c3 hP
              rw [lk_t hc.1 hv] at hlk
              simp (disch := omega) only [x_Ref_product_10, x_Ref_product_13, x_Ref_product_15, x_Ref_product_18, x_Ref_product_19, x_Ref_product_22, x_Ref_product_24, x_Ref_product_27, x_Ref_product_28, x_Ref_product_31, x_Ref_product_33, x_Ref_product_36, x_Ref_product_37, x_Ref_product_40, x_Ref_product_41, x_Ref_product_42, x_Ref_product_43, x_Ref_product_46, x_Ref_product_47, x_Ref_product_48, x_Ref_product_51, x_Ref_product_52, x_Ref_product_55, x_Ref_product_58, x_Ref_product_59, x_Ref_product_60, x_Ref_product_61, x_Ref_product_62, x_Ref_product_63, x_Ref_product_66, x_Ref_product_69, x_Ref_product_70, mk_I, mk_J, mk_Q, mk_n, mk_sI, mk_sJ, Option.toList_some, Option.toList_none, List.cons_append, List.nil_append, true_and, and_true, ↓reduceIte, leT, leF, ltT, ltF, eqF, lt0F, le0T, le0F, eq0F, natT, nI_clamp, nI_1, if_true, if_false, not_true_eq_false, not_false_eq_true, z_00, z_10, eq_self, true_or, or_true, or_false, false_or, oc_94, mx_call hlk _, show (nI 47 = 42) = False from by decide, show (nI 47 = 47) = True from eq_true rfl, h4, nI_1, mx_call c2 _, z_10, mx_call c3 _, show (3 : Int32) = nI 3 from rfl]
              exact hP
            · rw [hv] at c3 hP
              rw [lk_t hc.1 hv] at hlk
              simp (disch := omega) only [x_Ref_product_10, x_Ref_product_13, x_Ref_product_15, x_Ref_product_18, x_Ref_product_19, x_Ref_product_22, x_Ref_product_24, x_Ref_product_27, x_Ref_product_28, x_Ref_product_31, x_Ref_product_33, x_Ref_product_36, x_Ref_product_37, x_Ref_product_40, x_Ref_product_41, x_Ref_product_42, x_Ref_product_43, x_Ref_product_46, x_Ref_product_47, x_Ref_product_48, x_Ref_product_51, x_Ref_product_52, x_Ref_product_55, x_Ref_product_58, x_Ref_product_59, x_Ref_product_60, x_Ref_product_61, x_Ref_product_62, x_Ref_product_63, x_Ref_product_66, x_Ref_product_69, x_Ref_product_70, mk_I, mk_J, mk_Q, mk_n, mk_sI, mk_sJ, Option.toList_some, Option.toList_none, List.cons_append, List.nil_append, true_and, and_true, ↓reduceIte, leT, leF, ltT, ltF, eqF, lt0F, le0T, le0F, eq0F, natT, nI_clamp, nI_1, if_true, if_false, not_true_eq_false, not_false_eq_true, z_00, z_10, eq_self, true_or, or_true, or_false, false_or, oc_94, mx_call hlk _, show (nI 37 = 42) = False from by decide, show (nI 37 = 47) = False from by decide, show (nI 37 = 37) = True from eq_true rfl, h4, nI_1, mx_call c2 _, z_10, mx_call c3 _, show (3 : Int32) = nI 3 from rfl]
              exact hP
          refine ⟨fun j' S' h => ?_, fun j' S' h => ?_⟩
          · obtain ⟨I', q1, q2, q3, q4, q5, q6⟩ := k1 j' S' h
            exact ⟨I', fr.trans q1, q2, by omega, q4, by omega, fun P hP => go P (q6 P hP)⟩
          · obtain ⟨I', q1, q2, q6⟩ := k2 j' S' h
            exact ⟨I', fr.trans q1, q2, fun P hP => go P (q6 P hP)⟩
        | false =>
          obtain ⟨I2, f2, p2, c2⟩ := g2 j S2 hsub
          have e : pr_lp n B (fun c => decide (pr_rank c = 5)) sub (f + 1) i S = (false, j, S2) := by
            simp only [pr_lp]
            rw [if_pos hc', hsub]
          rw [e]
          refine ⟨fun _ _ h => (by cases h), fun j' S' h => ?_⟩
          cases h
          refine ⟨I2, fa.trans f2, p2, fun P hP => ?_⟩
          rw [x_Ref_product_9]
          rcases hv with hv | hv | hv
          · rw [lk_t hc.1 hv] at hlk
            simp (disch := omega) only [x_Ref_product_10, x_Ref_product_13, x_Ref_product_15, x_Ref_product_18, x_Ref_product_19, x_Ref_product_22, x_Ref_product_24, x_Ref_product_27, x_Ref_product_28, x_Ref_product_31, x_Ref_product_33, x_Ref_product_36, x_Ref_product_37, x_Ref_product_40, x_Ref_product_41, x_Ref_product_42, x_Ref_product_43, x_Ref_product_46, x_Ref_product_47, x_Ref_product_48, x_Ref_product_51, x_Ref_product_52, x_Ref_product_55, x_Ref_product_58, x_Ref_product_59, x_Ref_product_60, x_Ref_product_61, x_Ref_product_62, x_Ref_product_63, x_Ref_product_66, x_Ref_product_69, x_Ref_product_70, mk_I, mk_J, mk_Q, mk_n, mk_sI, mk_sJ, Option.toList_some, Option.toList_none, List.cons_append, List.nil_append, true_and, and_true, ↓reduceIte, leT, leF, ltT, ltF, eqF, lt0F, le0T, le0F, eq0F, natT, nI_clamp, nI_1, if_true, if_false, not_true_eq_false, not_false_eq_true, z_00, z_10, eq_self, true_or, or_true, or_false, false_or, oc_94, mx_call hlk _, show (nI 42 = 42) = True from eq_true rfl, h4, nI_1, mx_call c2 _, z_00]
            exact hP
          · rw [lk_t hc.1 hv] at hlk
            simp (disch := omega) only [x_Ref_product_10, x_Ref_product_13, x_Ref_product_15, x_Ref_product_18, x_Ref_product_19, x_Ref_product_22, x_Ref_product_24, x_Ref_product_27, x_Ref_product_28, x_Ref_product_31, x_Ref_product_33, x_Ref_product_36, x_Ref_product_37, x_Ref_product_40, x_Ref_product_41, x_Ref_product_42, x_Ref_product_43, x_Ref_product_46, x_Ref_product_47, x_Ref_product_48, x_Ref_product_51, x_Ref_product_52, x_Ref_product_55, x_Ref_product_58, x_Ref_product_59, x_Ref_product_60, x_Ref_product_61, x_Ref_product_62, x_Ref_product_63, x_Ref_product_66, x_Ref_product_69, x_Ref_product_70, mk_I, mk_J, mk_Q, mk_n, mk_sI, mk_sJ, Option.toList_some, Option.toList_none, List.cons_append, List.nil_append, true_and, and_true, ↓reduceIte, leT, leF, ltT, ltF, eqF, lt0F, le0T, le0F, eq0F, natT, nI_clamp, nI_1, if_true, if_false, not_true_eq_false, not_false_eq_true, z_00, z_10, eq_self, true_or, or_true, or_false, false_or, oc_94, mx_call hlk _, show (nI 47 = 42) = False from by decide, show (nI 47 = 47) = True from eq_true rfl, h4, nI_1, mx_call c2 _, z_00]
            exact hP
          · rw [lk_t hc.1 hv] at hlk
            simp (disch := omega) only [x_Ref_product_10, x_Ref_product_13, x_Ref_product_15, x_Ref_product_18, x_Ref_product_19, x_Ref_product_22, x_Ref_product_24, x_Ref_product_27, x_Ref_product_28, x_Ref_product_31, x_Ref_product_33, x_Ref_product_36, x_Ref_product_37, x_Ref_product_40, x_Ref_product_41, x_Ref_product_42, x_Ref_product_43, x_Ref_product_46, x_Ref_product_47, x_Ref_product_48, x_Ref_product_51, x_Ref_product_52, x_Ref_product_55, x_Ref_product_58, x_Ref_product_59, x_Ref_product_60, x_Ref_product_61, x_Ref_product_62, x_Ref_product_63, x_Ref_product_66, x_Ref_product_69, x_Ref_product_70, mk_I, mk_J, mk_Q, mk_n, mk_sI, mk_sJ, Option.toList_some, Option.toList_none, List.cons_append, List.nil_append, true_and, and_true, ↓reduceIte, leT, leF, ltT, ltF, eqF, lt0F, le0T, le0F, eq0F, natT, nI_clamp, nI_1, if_true, if_false, not_true_eq_false, not_false_eq_true, z_00, z_10, eq_self, true_or, or_true, or_false, false_or, oc_94, mx_call hlk _, show (nI 37 = 42) = False from by decide, show (nI 37 = 47) = False from by decide, show (nI 37 = 37) = True from eq_true rfl, h4, nI_1, mx_call c2 _, z_00]
            exact hP
    · have hc' : ¬ (i < n ∧ (fun c => decide (pr_rank c = 5)) (B i) = true) := fun q => hc ⟨q.1, of_decide_eq_true q.2⟩
      have e : pr_lp n B (fun c => decide (pr_rank c = 5)) sub (f + 1) i S = (true, i, S) := by
        simp only [pr_lp]
        rw [if_neg hc']
      rw [e]
      refine ⟨fun j' S' h => ?_, fun _ _ h => (by cases h)⟩
      cases h
      have n42 : (lkV n B i = 42) = False := lk_f (c := 42) hBi (by omega) (fun q => hc ⟨q.1, rk5.mpr (by omega)⟩)
      have n47 : (lkV n B i = 47) = False := lk_f (c := 47) hBi (by omega) (fun q => hc ⟨q.1, rk5.mpr (by omega)⟩)
      have n37 : (lkV n B i = 37) = False := lk_f (c := 37) hBi (by omega) (fun q => hc ⟨q.1, rk5.mpr (by omega)⟩)
      refine ⟨I, Fr.refl I, hp, Nat.le_refl _, hi, Nat.le_refl _, fun P hP => ?_⟩
      rw [x_Ref_product_9]
      simp (disch := omega) only [x_Ref_product_10, x_Ref_product_13, x_Ref_product_15, x_Ref_product_18, x_Ref_product_19, x_Ref_product_22, x_Ref_product_24, x_Ref_product_27, x_Ref_product_28, x_Ref_product_31, x_Ref_product_33, x_Ref_product_36, x_Ref_product_37, x_Ref_product_40, x_Ref_product_41, x_Ref_product_42, x_Ref_product_43, x_Ref_product_46, x_Ref_product_47, x_Ref_product_48, x_Ref_product_51, x_Ref_product_52, x_Ref_product_55, x_Ref_product_58, x_Ref_product_59, x_Ref_product_60, x_Ref_product_61, x_Ref_product_62, x_Ref_product_63, x_Ref_product_66, x_Ref_product_69, x_Ref_product_70, mk_I, mk_J, mk_Q, mk_n, mk_sI, mk_sJ, Option.toList_some, Option.toList_none, List.cons_append, List.nil_append, true_and, and_true, ↓reduceIte, leT, leF, ltT, ltF, eqF, lt0F, le0T, le0F, eq0F, natT, nI_clamp, nI_1, if_true, if_false, not_true_eq_false, not_false_eq_true, z_00, z_10, eq_self, true_or, or_true, or_false, false_or, oc_94, mx_call hlk _, n42, n47, n37, z_10]
      exact hP
theorem pg_product {n u o d : Nat} {B : Nat → Nat} {sub : Nat → List (Nat × Nat) → pr_R} (hn : n ≤ 60) (hB : ∀ j, B j < 256) (hs : PG n u B o d 162 sub) : PG n u B o (d + 1) 160 (pr_bin n B (fun c => decide (pr_rank c = 5)) sub) := by
  intro i S I J hi hl ht hp
  obtain ⟨g1, g2⟩ := hs i S I J hi hl ht hp
  cases hsub : sub i S with
  | mk b js =>
    obtain ⟨j, S2⟩ := js
    cases b with
    | true =>
      obtain ⟨I2, f2, p2, j1, j2, j3, c2⟩ := g1 j S2 hsub
      have e : pr_bin n B (fun c => decide (pr_rank c = 5)) sub i S = pr_lp n B (fun c => decide (pr_rank c = 5)) sub (n + 1 - j) j S2 := by
        unfold pr_bin
        rw [hsub]
      rw [e]
      obtain ⟨k1, k2⟩ := lp_product hn hB hs J (n + 1 - j) j S2 I2 none (by omega) j2 (by omega) (ht.fr f2) p2
      refine ⟨fun j' S' h => ?_, fun j' S' h => ?_⟩
      · obtain ⟨I', q1, q2, q3, q4, q5, q6⟩ := k1 j' S' h
        refine ⟨I', f2.trans q1, q2, by omega, q4, by omega, ?_⟩
        show mx_Cal mx_tab ((d + 1) + 1) 160 [.ref 94] (mk I J) (some (.int 1)) (mk I' J)
        refine mx_Cal_in (ls := [some (.ref 94), none]) tab_160 (by rw [mx_rcv, oc_94]; trivial) (Nat.le_of_ble_eq_true rfl) rfl ?_
        simp (disch := omega) only [x_Ref_product_0, x_Ref_product_1, x_Ref_product_4, x_Ref_product_7, x_Ref_product_8, mk_I, mk_J, mk_Q, mk_n, mk_sI, mk_sJ, Option.toList_some, Option.toList_none, List.cons_append, List.nil_append, true_and, and_true, mx_call c2 (Nat.le_refl _), z_10, not_false_eq_true, if_true]
        exact q6 _ ⟨rfl, rfl⟩
      · obtain ⟨I', q1, q2, q6⟩ := k2 j' S' h
        refine ⟨I', f2.trans q1, q2, ?_⟩
        show mx_Cal mx_tab ((d + 1) + 1) 160 [.ref 94] (mk I J) (some (.int 0)) (mk I' J)
        refine mx_Cal_in (ls := [some (.ref 94), none]) tab_160 (by rw [mx_rcv, oc_94]; trivial) (Nat.le_of_ble_eq_true rfl) rfl ?_
        simp (disch := omega) only [x_Ref_product_0, x_Ref_product_1, x_Ref_product_4, x_Ref_product_7, x_Ref_product_8, mk_I, mk_J, mk_Q, mk_n, mk_sI, mk_sJ, Option.toList_some, Option.toList_none, List.cons_append, List.nil_append, true_and, and_true, mx_call c2 (Nat.le_refl _), z_10, not_false_eq_true, if_true]
        exact q6 _ ⟨rfl, rfl⟩
    | false =>
      obtain ⟨I2, f2, p2, c2⟩ := g2 j S2 hsub
      have e : pr_bin n B (fun c => decide (pr_rank c = 5)) sub i S = (false, j, S2) := by
        unfold pr_bin
        rw [hsub]
      rw [e]
      refine ⟨fun _ _ h => (by cases h), fun j' S' h => ?_⟩
      cases h
      refine ⟨I2, f2, p2, ?_⟩
      show mx_Cal mx_tab ((d + 1) + 1) 160 [.ref 94] (mk I J) (some (.int 0)) (mk I2 J)
      refine mx_Cal_in (ls := [some (.ref 94), none]) tab_160 (by rw [mx_rcv, oc_94]; trivial) (Nat.le_of_ble_eq_true rfl) rfl ?_
      simp (disch := omega) only [x_Ref_product_0, x_Ref_product_1, x_Ref_product_4, x_Ref_product_7, x_Ref_product_8, mk_I, mk_J, mk_Q, mk_n, mk_sI, mk_sJ, Option.toList_some, Option.toList_none, List.cons_append, List.nil_append, true_and, and_true, ↓reduceIte, leT, leF, ltT, ltF, eqF, lt0F, le0T, le0F, eq0F, natT, nI_clamp, nI_1, if_true, if_false, not_true_eq_false, not_false_eq_true, z_00, z_10, eq_self, true_or, or_true, or_false, false_or, mx_call c2 (Nat.le_refl _), z_00]
theorem lp_sum {n u o d : Nat} {B : Nat → Nat} {sub : Nat → List (Nat × Nat) → pr_R} (hn : n ≤ 60) (hB : ∀ j, B j < 256) (hs : PG n u B o d 160 sub) (J : mx_J) : ∀ (f i : Nat) (S : List (Nat × Nat)) (I : mx_I) (w : Option Value) , n < i + f → i ≤ n → S.length ≤ i → TPR n u B I → PS I i o S → (∀ j S', pr_lp n B (fun c => decide (pr_rank c = 4)) sub f i S = (true, j, S') → ∃ I', Fr I I' ∧ PS I' j o S' ∧ i ≤ j ∧ j ≤ n ∧ S'.length + i ≤ S.length + j ∧ ∀ P : mx_P, P (some (.int 1)) (mk I' J) → mx_R k_Ref_sum (mx_Cal mx_tab (d + 1)) 9 [some (.ref 94), w] [] (mk I J) P) ∧ ∀ j S', pr_lp n B (fun c => decide (pr_rank c = 4)) sub f i S = (false, j, S') → ∃ I', Fr I I' ∧ I' 94 4 = nI j ∧ ∀ P : mx_P, P (some (.int 0)) (mk I' J) → mx_R k_Ref_sum (mx_Cal mx_tab (d + 1)) 9 [some (.ref 94), w] [] (mk I J) P
  | 0, i, S, I, w, hf, hi, hl, ht, hp => by omega
  | f + 1, i, S, I, w, hf, hi, hl, ht, hp => by
    have hlk := q_look (d := 0) ht hn hp.1 hi J
    have h4 := hp.1
    have hBi := hB i
    by_cases hc : i < n ∧ pr_rank (B i) = 4
    · have hc' : i < n ∧ (fun c => decide (pr_rank c = 4)) (B i) = true := ⟨hc.1, decide_eq_true hc.2⟩
      have hv := rk4.mp hc.2
      obtain ⟨g1, g2⟩ := hs (i + 1) S (mx_ups I 94 4 (nI (i + 1))) J (by omega) (by omega) (ht.fr (Fr.up _ (Or.inl rfl))) (hp.at_ (i + 1))
      have fa : Fr I (mx_ups I 94 4 (nI (i + 1))) := Fr.up _ (Or.inl rfl)
      cases hsub : sub (i + 1) S with
      | mk b js =>
        obtain ⟨j, S2⟩ := js
        cases b with
        | true =>
          obtain ⟨I2, f2, p2, j1, j2, j3, c2⟩ := g1 j S2 hsub
          obtain ⟨I3, p3, f3, c3⟩ := q_step1 (d := 0) p2 J (by omega) 3 (B i)
          have e : pr_lp n B (fun c => decide (pr_rank c = 4)) sub (f + 1) i S = pr_lp n B (fun c => decide (pr_rank c = 4)) sub f j (S2 ++ [(3, B i)]) := by
            simp only [pr_lp]
            rw [if_pos hc', hsub]
          rw [e]
          have ls := ln_snoc S2 (3, B i)
          have fr := (fa.trans f2).trans f3
          obtain ⟨k1, k2⟩ := lp_sum hn hB hs J f j (S2 ++ [(3, B i)]) I3 (some (.int (nI (B i)))) (by omega) j2 (by omega) (ht.fr fr) p3
          have go : ∀ P : mx_P, mx_R k_Ref_sum (mx_Cal mx_tab (d + 1)) 9 [some (.ref 94), some (.int (nI (B i)))] [] (mk I3 J) P → mx_R k_Ref_sum (mx_Cal mx_tab (d + 1)) 9 [some (.ref 94), w] [] (mk I J) P := fun P hP => by
            rw [x_Ref_sum_9]
            rcases hv with hv | hv
            · rw [hv] at c3 hP
              rw [lk_t hc.1 hv] at hlk
              simp (disch := omega) only [x_Ref_sum_10, x_Ref_sum_13, x_Ref_sum_15, x_Ref_sum_18, x_Ref_sum_19, x_Ref_sum_22, x_Ref_sum_24, x_Ref_sum_27, x_Ref_sum_28, x_Ref_sum_31, x_Ref_sum_32, x_Ref_sum_33, x_Ref_sum_34, x_Ref_sum_37, x_Ref_sum_38, x_Ref_sum_39, x_Ref_sum_42, x_Ref_sum_43, x_Ref_sum_46, x_Ref_sum_49, x_Ref_sum_50, x_Ref_sum_51, x_Ref_sum_52, x_Ref_sum_53, x_Ref_sum_54, x_Ref_sum_57, x_Ref_sum_60, x_Ref_sum_61, mk_I, mk_J, mk_Q, mk_n, mk_sI, mk_sJ, Option.toList_some, Option.toList_none, List.cons_append, List.nil_append, true_and, and_true, ↓reduceIte, leT, leF, ltT, ltF, eqF, lt0F, le0T, le0F, eq0F, natT, nI_clamp, nI_1, if_true, if_false, not_true_eq_false, not_false_eq_true, z_00, z_10, eq_self, true_or, or_true, or_false, false_or, oc_94, mx_call hlk _, show (nI 43 = 43) = True from eq_true rfl, h4, nI_1, mx_call c2 _, z_10, mx_call c3 _, show (3 : Int32) = nI 3 from rfl]
              exact hP
            · rw [hv] at c3 hP
              rw [lk_t hc.1 hv] at hlk
              simp (disch := omega) only [x_Ref_sum_10, x_Ref_sum_13, x_Ref_sum_15, x_Ref_sum_18, x_Ref_sum_19, x_Ref_sum_22, x_Ref_sum_24, x_Ref_sum_27, x_Ref_sum_28, x_Ref_sum_31, x_Ref_sum_32, x_Ref_sum_33, x_Ref_sum_34, x_Ref_sum_37, x_Ref_sum_38, x_Ref_sum_39, x_Ref_sum_42, x_Ref_sum_43, x_Ref_sum_46, x_Ref_sum_49, x_Ref_sum_50, x_Ref_sum_51, x_Ref_sum_52, x_Ref_sum_53, x_Ref_sum_54, x_Ref_sum_57, x_Ref_sum_60, x_Ref_sum_61, mk_I, mk_J, mk_Q, mk_n, mk_sI, mk_sJ, Option.toList_some, Option.toList_none, List.cons_append, List.nil_append, true_and, and_true, ↓reduceIte, leT, leF, ltT, ltF, eqF, lt0F, le0T, le0F, eq0F, natT, nI_clamp, nI_1, if_true, if_false, not_true_eq_false, not_false_eq_true, z_00, z_10, eq_self, true_or, or_true, or_false, false_or, oc_94, mx_call hlk _, show (nI 45 = 43) = False from by decide, show (nI 45 = 45) = True from eq_true rfl, h4, nI_1, mx_call c2 _, z_10, mx_call c3 _, show (3 : Int32) = nI 3 from rfl]
              exact hP
          refine ⟨fun j' S' h => ?_, fun j' S' h => ?_⟩
          · obtain ⟨I', q1, q2, q3, q4, q5, q6⟩ := k1 j' S' h
            exact ⟨I', fr.trans q1, q2, by omega, q4, by omega, fun P hP => go P (q6 P hP)⟩
          · obtain ⟨I', q1, q2, q6⟩ := k2 j' S' h
            exact ⟨I', fr.trans q1, q2, fun P hP => go P (q6 P hP)⟩
        | false =>
          obtain ⟨I2, f2, p2, c2⟩ := g2 j S2 hsub
          have e : pr_lp n B (fun c => decide (pr_rank c = 4)) sub (f + 1) i S = (false, j, S2) := by
            simp only [pr_lp]
            rw [if_pos hc', hsub]
          rw [e]
          refine ⟨fun _ _ h => (by cases h), fun j' S' h => ?_⟩
          cases h
          refine ⟨I2, fa.trans f2, p2, fun P hP => ?_⟩
          rw [x_Ref_sum_9]
          rcases hv with hv | hv
          · rw [lk_t hc.1 hv] at hlk
            simp (disch := omega) only [x_Ref_sum_10, x_Ref_sum_13, x_Ref_sum_15, x_Ref_sum_18, x_Ref_sum_19, x_Ref_sum_22, x_Ref_sum_24, x_Ref_sum_27, x_Ref_sum_28, x_Ref_sum_31, x_Ref_sum_32, x_Ref_sum_33, x_Ref_sum_34, x_Ref_sum_37, x_Ref_sum_38, x_Ref_sum_39, x_Ref_sum_42, x_Ref_sum_43, x_Ref_sum_46, x_Ref_sum_49, x_Ref_sum_50, x_Ref_sum_51, x_Ref_sum_52, x_Ref_sum_53, x_Ref_sum_54, x_Ref_sum_57, x_Ref_sum_60, x_Ref_sum_61, mk_I, mk_J, mk_Q, mk_n, mk_sI, mk_sJ, Option.toList_some, Option.toList_none, List.cons_append, List.nil_append, true_and, and_true, ↓reduceIte, leT, leF, ltT, ltF, eqF, lt0F, le0T, le0F, eq0F, natT, nI_clamp, nI_1, if_true, if_false, not_true_eq_false, not_false_eq_true, z_00, z_10, eq_self, true_or, or_true, or_false, false_or, oc_94, mx_call hlk _, show (nI 43 = 43) = True from eq_true rfl, h4, nI_1, mx_call c2 _, z_00]
            exact hP
          · rw [lk_t hc.1 hv] at hlk
            simp (disch := omega) only [x_Ref_sum_10, x_Ref_sum_13, x_Ref_sum_15, x_Ref_sum_18, x_Ref_sum_19, x_Ref_sum_22, x_Ref_sum_24, x_Ref_sum_27, x_Ref_sum_28, x_Ref_sum_31, x_Ref_sum_32, x_Ref_sum_33, x_Ref_sum_34, x_Ref_sum_37, x_Ref_sum_38, x_Ref_sum_39, x_Ref_sum_42, x_Ref_sum_43, x_Ref_sum_46, x_Ref_sum_49, x_Ref_sum_50, x_Ref_sum_51, x_Ref_sum_52, x_Ref_sum_53, x_Ref_sum_54, x_Ref_sum_57, x_Ref_sum_60, x_Ref_sum_61, mk_I, mk_J, mk_Q, mk_n, mk_sI, mk_sJ, Option.toList_some, Option.toList_none, List.cons_append, List.nil_append, true_and, and_true, ↓reduceIte, leT, leF, ltT, ltF, eqF, lt0F, le0T, le0F, eq0F, natT, nI_clamp, nI_1, if_true, if_false, not_true_eq_false, not_false_eq_true, z_00, z_10, eq_self, true_or, or_true, or_false, false_or, oc_94, mx_call hlk _, show (nI 45 = 43) = False from by decide, show (nI 45 = 45) = True from eq_true rfl, h4, nI_1, mx_call c2 _, z_00]
            exact hP
    · have hc' : ¬ (i < n ∧ (fun c => decide (pr_rank c = 4)) (B i) = true) := fun q => hc ⟨q.1, of_decide_eq_true q.2⟩
      have e : pr_lp n B (fun c => decide (pr_rank c = 4)) sub (f + 1) i S = (true, i, S) := by
        simp only [pr_lp]
        rw [if_neg hc']
      rw [e]
      refine ⟨fun j' S' h => ?_, fun _ _ h => (by cases h)⟩
      cases h
      have n43 : (lkV n B i = 43) = False := lk_f (c := 43) hBi (by omega) (fun q => hc ⟨q.1, rk4.mpr (by omega)⟩)
      have n45 : (lkV n B i = 45) = False := lk_f (c := 45) hBi (by omega) (fun q => hc ⟨q.1, rk4.mpr (by omega)⟩)
      refine ⟨I, Fr.refl I, hp, Nat.le_refl _, hi, Nat.le_refl _, fun P hP => ?_⟩
      rw [x_Ref_sum_9]
      simp (disch := omega) only [x_Ref_sum_10, x_Ref_sum_13, x_Ref_sum_15, x_Ref_sum_18, x_Ref_sum_19, x_Ref_sum_22, x_Ref_sum_24, x_Ref_sum_27, x_Ref_sum_28, x_Ref_sum_31, x_Ref_sum_32, x_Ref_sum_33, x_Ref_sum_34, x_Ref_sum_37, x_Ref_sum_38, x_Ref_sum_39, x_Ref_sum_42, x_Ref_sum_43, x_Ref_sum_46, x_Ref_sum_49, x_Ref_sum_50, x_Ref_sum_51, x_Ref_sum_52, x_Ref_sum_53, x_Ref_sum_54, x_Ref_sum_57, x_Ref_sum_60, x_Ref_sum_61, mk_I, mk_J, mk_Q, mk_n, mk_sI, mk_sJ, Option.toList_some, Option.toList_none, List.cons_append, List.nil_append, true_and, and_true, ↓reduceIte, leT, leF, ltT, ltF, eqF, lt0F, le0T, le0F, eq0F, natT, nI_clamp, nI_1, if_true, if_false, not_true_eq_false, not_false_eq_true, z_00, z_10, eq_self, true_or, or_true, or_false, false_or, oc_94, mx_call hlk _, n43, n45, z_10]
      exact hP
theorem pg_sum {n u o d : Nat} {B : Nat → Nat} {sub : Nat → List (Nat × Nat) → pr_R} (hn : n ≤ 60) (hB : ∀ j, B j < 256) (hs : PG n u B o d 160 sub) : PG n u B o (d + 1) 159 (pr_bin n B (fun c => decide (pr_rank c = 4)) sub) := by
  intro i S I J hi hl ht hp
  obtain ⟨g1, g2⟩ := hs i S I J hi hl ht hp
  cases hsub : sub i S with
  | mk b js =>
    obtain ⟨j, S2⟩ := js
    cases b with
    | true =>
      obtain ⟨I2, f2, p2, j1, j2, j3, c2⟩ := g1 j S2 hsub
      have e : pr_bin n B (fun c => decide (pr_rank c = 4)) sub i S = pr_lp n B (fun c => decide (pr_rank c = 4)) sub (n + 1 - j) j S2 := by
        unfold pr_bin
        rw [hsub]
      rw [e]
      obtain ⟨k1, k2⟩ := lp_sum hn hB hs J (n + 1 - j) j S2 I2 none (by omega) j2 (by omega) (ht.fr f2) p2
      refine ⟨fun j' S' h => ?_, fun j' S' h => ?_⟩
      · obtain ⟨I', q1, q2, q3, q4, q5, q6⟩ := k1 j' S' h
        refine ⟨I', f2.trans q1, q2, by omega, q4, by omega, ?_⟩
        show mx_Cal mx_tab ((d + 1) + 1) 159 [.ref 94] (mk I J) (some (.int 1)) (mk I' J)
        refine mx_Cal_in (ls := [some (.ref 94), none]) tab_159 (by rw [mx_rcv, oc_94]; trivial) (Nat.le_of_ble_eq_true rfl) rfl ?_
        simp (disch := omega) only [x_Ref_sum_0, x_Ref_sum_1, x_Ref_sum_4, x_Ref_sum_7, x_Ref_sum_8, mk_I, mk_J, mk_Q, mk_n, mk_sI, mk_sJ, Option.toList_some, Option.toList_none, List.cons_append, List.nil_append, true_and, and_true, mx_call c2 (Nat.le_refl _), z_10, not_false_eq_true, if_true]
        exact q6 _ ⟨rfl, rfl⟩
      · obtain ⟨I', q1, q2, q6⟩ := k2 j' S' h
        refine ⟨I', f2.trans q1, q2, ?_⟩
        show mx_Cal mx_tab ((d + 1) + 1) 159 [.ref 94] (mk I J) (some (.int 0)) (mk I' J)
        refine mx_Cal_in (ls := [some (.ref 94), none]) tab_159 (by rw [mx_rcv, oc_94]; trivial) (Nat.le_of_ble_eq_true rfl) rfl ?_
        simp (disch := omega) only [x_Ref_sum_0, x_Ref_sum_1, x_Ref_sum_4, x_Ref_sum_7, x_Ref_sum_8, mk_I, mk_J, mk_Q, mk_n, mk_sI, mk_sJ, Option.toList_some, Option.toList_none, List.cons_append, List.nil_append, true_and, and_true, mx_call c2 (Nat.le_refl _), z_10, not_false_eq_true, if_true]
        exact q6 _ ⟨rfl, rfl⟩
    | false =>
      obtain ⟨I2, f2, p2, c2⟩ := g2 j S2 hsub
      have e : pr_bin n B (fun c => decide (pr_rank c = 4)) sub i S = (false, j, S2) := by
        unfold pr_bin
        rw [hsub]
      rw [e]
      refine ⟨fun _ _ h => (by cases h), fun j' S' h => ?_⟩
      cases h
      refine ⟨I2, f2, p2, ?_⟩
      show mx_Cal mx_tab ((d + 1) + 1) 159 [.ref 94] (mk I J) (some (.int 0)) (mk I2 J)
      refine mx_Cal_in (ls := [some (.ref 94), none]) tab_159 (by rw [mx_rcv, oc_94]; trivial) (Nat.le_of_ble_eq_true rfl) rfl ?_
      simp (disch := omega) only [x_Ref_sum_0, x_Ref_sum_1, x_Ref_sum_4, x_Ref_sum_7, x_Ref_sum_8, mk_I, mk_J, mk_Q, mk_n, mk_sI, mk_sJ, Option.toList_some, Option.toList_none, List.cons_append, List.nil_append, true_and, and_true, ↓reduceIte, leT, leF, ltT, ltF, eqF, lt0F, le0T, le0F, eq0F, natT, nI_clamp, nI_1, if_true, if_false, not_true_eq_false, not_false_eq_true, z_00, z_10, eq_self, true_or, or_true, or_false, false_or, mx_call c2 (Nat.le_refl _), z_00]
theorem pg_compared {n u o d : Nat} {B : Nat → Nat} {sub : Nat → List (Nat × Nat) → pr_R} (hn : n ≤ 60) (hB : ∀ j, B j < 256) (hs : PG n u B o d 159 sub) : PG n u B o (d + 1) 158 (pr_cmp n B sub) := by
  intro i S I J hi hl ht hp
  obtain ⟨g1, g2⟩ := hs i S I J hi hl ht hp
  cases hsub : sub i S with
  | mk b js =>
    obtain ⟨j, S2⟩ := js
    cases b with
    | true =>
      obtain ⟨I2, f2, p2, j1, j2, j3, c2⟩ := g1 j S2 hsub
      have hlk := q_look (d := 0) (ht.fr f2) hn p2.1 j2 J
      have h4 := p2.1
      have hBj := hB j
      by_cases hc : j < n ∧ pr_rank (B j) = 3
      · have hv := rk3.mp hc.2
        have fa : Fr I2 (mx_ups I2 94 4 (nI (j + 1))) := Fr.up _ (Or.inl rfl)
        obtain ⟨k1, k2⟩ := hs (j + 1) S2 (mx_ups I2 94 4 (nI (j + 1))) J (by omega) (by omega) ((ht.fr f2).fr fa) (p2.at_ (j + 1))
        cases hsub2 : sub (j + 1) S2 with
        | mk b2 js2 =>
          obtain ⟨j', S3⟩ := js2
          cases b2 with
          | true =>
            obtain ⟨I3, f3, p3, m1, m2, m3, c3⟩ := k1 j' S3 hsub2
            obtain ⟨I4, p4, f4, c4⟩ := q_step1 (d := 0) p3 J (by omega) 3 (B j)
            have e : pr_cmp n B sub i S = (true, j', S3 ++ [(3, B j)]) := by
              unfold pr_cmp
              rw [hsub]
              simp only
              rw [if_pos hc, hsub2]
            rw [e]
            refine ⟨fun j2 S' h => ?_, fun _ _ h => (by cases h)⟩
            cases h
            have ls := ln_snoc S3 (3, B j)
            refine ⟨I4, ((f2.trans fa).trans f3).trans f4, p4, by omega, m2, by omega, ?_⟩
            show mx_Cal mx_tab ((d + 1) + 1) 158 [.ref 94] (mk I J) (some (.int 1)) (mk I4 J)
            refine mx_Cal_in (ls := [some (.ref 94), none]) tab_158 (by rw [mx_rcv, oc_94]; trivial) (Nat.le_of_ble_eq_true rfl) rfl ?_
            rcases hv with hv | hv | hv
            · rw [hv] at c4
              rw [lk_t hc.1 hv] at hlk
              simp (disch := omega) only [x_Ref_compared_0, x_Ref_compared_1, x_Ref_compared_4, x_Ref_compared_7, x_Ref_compared_8, x_Ref_compared_9, x_Ref_compared_10, x_Ref_compared_13, x_Ref_compared_14, x_Ref_compared_15, x_Ref_compared_17, x_Ref_compared_20, x_Ref_compared_21, x_Ref_compared_23, x_Ref_compared_26, x_Ref_compared_27, x_Ref_compared_29, x_Ref_compared_32, x_Ref_compared_33, x_Ref_compared_34, x_Ref_compared_35, x_Ref_compared_36, x_Ref_compared_39, x_Ref_compared_40, x_Ref_compared_41, x_Ref_compared_44, x_Ref_compared_45, x_Ref_compared_48, x_Ref_compared_51, x_Ref_compared_52, x_Ref_compared_53, x_Ref_compared_54, x_Ref_compared_55, x_Ref_compared_56, x_Ref_compared_59, x_Ref_compared_60, mk_I, mk_J, mk_Q, mk_n, mk_sI, mk_sJ, Option.toList_some, Option.toList_none, List.cons_append, List.nil_append, true_and, and_true, ↓reduceIte, leT, leF, ltT, ltF, eqF, lt0F, le0T, le0F, eq0F, natT, nI_clamp, nI_1, if_true, if_false, not_true_eq_false, not_false_eq_true, z_00, z_10, eq_self, true_or, or_true, or_false, false_or, oc_94, mx_call c2 (Nat.le_refl _), z_10, mx_call hlk _, show (nI 60 = 60) = True from eq_true rfl, h4, nI_1, mx_call c3 (Nat.le_refl _), mx_call c4 _, show (3 : Int32) = nI 3 from rfl]
            · rw [hv] at c4
              rw [lk_t hc.1 hv] at hlk
              simp (disch := omega) only [x_Ref_compared_0, x_Ref_compared_1, x_Ref_compared_4, x_Ref_compared_7, x_Ref_compared_8, x_Ref_compared_9, x_Ref_compared_10, x_Ref_compared_13, x_Ref_compared_14, x_Ref_compared_15, x_Ref_compared_17, x_Ref_compared_20, x_Ref_compared_21, x_Ref_compared_23, x_Ref_compared_26, x_Ref_compared_27, x_Ref_compared_29, x_Ref_compared_32, x_Ref_compared_33, x_Ref_compared_34, x_Ref_compared_35, x_Ref_compared_36, x_Ref_compared_39, x_Ref_compared_40, x_Ref_compared_41, x_Ref_compared_44, x_Ref_compared_45, x_Ref_compared_48, x_Ref_compared_51, x_Ref_compared_52, x_Ref_compared_53, x_Ref_compared_54, x_Ref_compared_55, x_Ref_compared_56, x_Ref_compared_59, x_Ref_compared_60, mk_I, mk_J, mk_Q, mk_n, mk_sI, mk_sJ, Option.toList_some, Option.toList_none, List.cons_append, List.nil_append, true_and, and_true, ↓reduceIte, leT, leF, ltT, ltF, eqF, lt0F, le0T, le0F, eq0F, natT, nI_clamp, nI_1, if_true, if_false, not_true_eq_false, not_false_eq_true, z_00, z_10, eq_self, true_or, or_true, or_false, false_or, oc_94, mx_call c2 (Nat.le_refl _), z_10, mx_call hlk _, show (nI 61 = 60) = False from by decide, show (nI 61 = 61) = True from eq_true rfl, h4, nI_1, mx_call c3 (Nat.le_refl _), mx_call c4 _, show (3 : Int32) = nI 3 from rfl]
            · rw [hv] at c4
              rw [lk_t hc.1 hv] at hlk
              simp (disch := omega) only [x_Ref_compared_0, x_Ref_compared_1, x_Ref_compared_4, x_Ref_compared_7, x_Ref_compared_8, x_Ref_compared_9, x_Ref_compared_10, x_Ref_compared_13, x_Ref_compared_14, x_Ref_compared_15, x_Ref_compared_17, x_Ref_compared_20, x_Ref_compared_21, x_Ref_compared_23, x_Ref_compared_26, x_Ref_compared_27, x_Ref_compared_29, x_Ref_compared_32, x_Ref_compared_33, x_Ref_compared_34, x_Ref_compared_35, x_Ref_compared_36, x_Ref_compared_39, x_Ref_compared_40, x_Ref_compared_41, x_Ref_compared_44, x_Ref_compared_45, x_Ref_compared_48, x_Ref_compared_51, x_Ref_compared_52, x_Ref_compared_53, x_Ref_compared_54, x_Ref_compared_55, x_Ref_compared_56, x_Ref_compared_59, x_Ref_compared_60, mk_I, mk_J, mk_Q, mk_n, mk_sI, mk_sJ, Option.toList_some, Option.toList_none, List.cons_append, List.nil_append, true_and, and_true, ↓reduceIte, leT, leF, ltT, ltF, eqF, lt0F, le0T, le0F, eq0F, natT, nI_clamp, nI_1, if_true, if_false, not_true_eq_false, not_false_eq_true, z_00, z_10, eq_self, true_or, or_true, or_false, false_or, oc_94, mx_call c2 (Nat.le_refl _), z_10, mx_call hlk _, show (nI 62 = 60) = False from by decide, show (nI 62 = 61) = False from by decide, show (nI 62 = 62) = True from eq_true rfl, h4, nI_1, mx_call c3 (Nat.le_refl _), mx_call c4 _, show (3 : Int32) = nI 3 from rfl]
          | false =>
            obtain ⟨I3, f3, p3, c3⟩ := k2 j' S3 hsub2
            have e : pr_cmp n B sub i S = (false, j', S3) := by
              unfold pr_cmp
              rw [hsub]
              simp only
              rw [if_pos hc, hsub2]
            rw [e]
            refine ⟨fun _ _ h => (by cases h), fun j2 S' h => ?_⟩
            cases h
            refine ⟨I3, (f2.trans fa).trans f3, p3, ?_⟩
            show mx_Cal mx_tab ((d + 1) + 1) 158 [.ref 94] (mk I J) (some (.int 0)) (mk I3 J)
            refine mx_Cal_in (ls := [some (.ref 94), none]) tab_158 (by rw [mx_rcv, oc_94]; trivial) (Nat.le_of_ble_eq_true rfl) rfl ?_
            rcases hv with hv | hv | hv
            · rw [lk_t hc.1 hv] at hlk
              simp (disch := omega) only [x_Ref_compared_0, x_Ref_compared_1, x_Ref_compared_4, x_Ref_compared_7, x_Ref_compared_8, x_Ref_compared_9, x_Ref_compared_10, x_Ref_compared_13, x_Ref_compared_14, x_Ref_compared_15, x_Ref_compared_17, x_Ref_compared_20, x_Ref_compared_21, x_Ref_compared_23, x_Ref_compared_26, x_Ref_compared_27, x_Ref_compared_29, x_Ref_compared_32, x_Ref_compared_33, x_Ref_compared_34, x_Ref_compared_35, x_Ref_compared_36, x_Ref_compared_39, x_Ref_compared_40, x_Ref_compared_41, x_Ref_compared_44, x_Ref_compared_45, x_Ref_compared_48, x_Ref_compared_51, x_Ref_compared_52, x_Ref_compared_53, x_Ref_compared_54, x_Ref_compared_55, x_Ref_compared_56, x_Ref_compared_59, x_Ref_compared_60, mk_I, mk_J, mk_Q, mk_n, mk_sI, mk_sJ, Option.toList_some, Option.toList_none, List.cons_append, List.nil_append, true_and, and_true, ↓reduceIte, leT, leF, ltT, ltF, eqF, lt0F, le0T, le0F, eq0F, natT, nI_clamp, nI_1, if_true, if_false, not_true_eq_false, not_false_eq_true, z_00, z_10, eq_self, true_or, or_true, or_false, false_or, oc_94, mx_call c2 (Nat.le_refl _), z_10, z_00, mx_call hlk _, show (nI 60 = 60) = True from eq_true rfl, h4, nI_1, mx_call c3 (Nat.le_refl _)]
            · rw [lk_t hc.1 hv] at hlk
              simp (disch := omega) only [x_Ref_compared_0, x_Ref_compared_1, x_Ref_compared_4, x_Ref_compared_7, x_Ref_compared_8, x_Ref_compared_9, x_Ref_compared_10, x_Ref_compared_13, x_Ref_compared_14, x_Ref_compared_15, x_Ref_compared_17, x_Ref_compared_20, x_Ref_compared_21, x_Ref_compared_23, x_Ref_compared_26, x_Ref_compared_27, x_Ref_compared_29, x_Ref_compared_32, x_Ref_compared_33, x_Ref_compared_34, x_Ref_compared_35, x_Ref_compared_36, x_Ref_compared_39, x_Ref_compared_40, x_Ref_compared_41, x_Ref_compared_44, x_Ref_compared_45, x_Ref_compared_48, x_Ref_compared_51, x_Ref_compared_52, x_Ref_compared_53, x_Ref_compared_54, x_Ref_compared_55, x_Ref_compared_56, x_Ref_compared_59, x_Ref_compared_60, mk_I, mk_J, mk_Q, mk_n, mk_sI, mk_sJ, Option.toList_some, Option.toList_none, List.cons_append, List.nil_append, true_and, and_true, ↓reduceIte, leT, leF, ltT, ltF, eqF, lt0F, le0T, le0F, eq0F, natT, nI_clamp, nI_1, if_true, if_false, not_true_eq_false, not_false_eq_true, z_00, z_10, eq_self, true_or, or_true, or_false, false_or, oc_94, mx_call c2 (Nat.le_refl _), z_10, z_00, mx_call hlk _, show (nI 61 = 60) = False from by decide, show (nI 61 = 61) = True from eq_true rfl, h4, nI_1, mx_call c3 (Nat.le_refl _)]
            · rw [lk_t hc.1 hv] at hlk
              simp (disch := omega) only [x_Ref_compared_0, x_Ref_compared_1, x_Ref_compared_4, x_Ref_compared_7, x_Ref_compared_8, x_Ref_compared_9, x_Ref_compared_10, x_Ref_compared_13, x_Ref_compared_14, x_Ref_compared_15, x_Ref_compared_17, x_Ref_compared_20, x_Ref_compared_21, x_Ref_compared_23, x_Ref_compared_26, x_Ref_compared_27, x_Ref_compared_29, x_Ref_compared_32, x_Ref_compared_33, x_Ref_compared_34, x_Ref_compared_35, x_Ref_compared_36, x_Ref_compared_39, x_Ref_compared_40, x_Ref_compared_41, x_Ref_compared_44, x_Ref_compared_45, x_Ref_compared_48, x_Ref_compared_51, x_Ref_compared_52, x_Ref_compared_53, x_Ref_compared_54, x_Ref_compared_55, x_Ref_compared_56, x_Ref_compared_59, x_Ref_compared_60, mk_I, mk_J, mk_Q, mk_n, mk_sI, mk_sJ, Option.toList_some, Option.toList_none, List.cons_append, List.nil_append, true_and, and_true, ↓reduceIte, leT, leF, ltT, ltF, eqF, lt0F, le0T, le0F, eq0F, natT, nI_clamp, nI_1, if_true, if_false, not_true_eq_false, not_false_eq_true, z_00, z_10, eq_self, true_or, or_true, or_false, false_or, oc_94, mx_call c2 (Nat.le_refl _), z_10, z_00, mx_call hlk _, show (nI 62 = 60) = False from by decide, show (nI 62 = 61) = False from by decide, show (nI 62 = 62) = True from eq_true rfl, h4, nI_1, mx_call c3 (Nat.le_refl _)]
      · have e : pr_cmp n B sub i S = (true, j, S2) := by
          unfold pr_cmp
          rw [hsub]
          simp only
          rw [if_neg hc]
        rw [e]
        refine ⟨fun j' S' h => ?_, fun _ _ h => (by cases h)⟩
        cases h
        have n60 : (lkV n B j = 60) = False := lk_f (c := 60) hBj (by omega) (fun q => hc ⟨q.1, rk3.mpr (by omega)⟩)
        have n61 : (lkV n B j = 61) = False := lk_f (c := 61) hBj (by omega) (fun q => hc ⟨q.1, rk3.mpr (by omega)⟩)
        have n62 : (lkV n B j = 62) = False := lk_f (c := 62) hBj (by omega) (fun q => hc ⟨q.1, rk3.mpr (by omega)⟩)
        refine ⟨I2, f2, p2, j1, j2, j3, ?_⟩
        show mx_Cal mx_tab ((d + 1) + 1) 158 [.ref 94] (mk I J) (some (.int 1)) (mk I2 J)
        refine mx_Cal_in (ls := [some (.ref 94), none]) tab_158 (by rw [mx_rcv, oc_94]; trivial) (Nat.le_of_ble_eq_true rfl) rfl ?_
        simp (disch := omega) only [x_Ref_compared_0, x_Ref_compared_1, x_Ref_compared_4, x_Ref_compared_7, x_Ref_compared_8, x_Ref_compared_9, x_Ref_compared_10, x_Ref_compared_13, x_Ref_compared_14, x_Ref_compared_15, x_Ref_compared_17, x_Ref_compared_20, x_Ref_compared_21, x_Ref_compared_23, x_Ref_compared_26, x_Ref_compared_27, x_Ref_compared_29, x_Ref_compared_32, x_Ref_compared_33, x_Ref_compared_34, x_Ref_compared_35, x_Ref_compared_36, x_Ref_compared_39, x_Ref_compared_40, x_Ref_compared_41, x_Ref_compared_44, x_Ref_compared_45, x_Ref_compared_48, x_Ref_compared_51, x_Ref_compared_52, x_Ref_compared_53, x_Ref_compared_54, x_Ref_compared_55, x_Ref_compared_56, x_Ref_compared_59, x_Ref_compared_60, mk_I, mk_J, mk_Q, mk_n, mk_sI, mk_sJ, Option.toList_some, Option.toList_none, List.cons_append, List.nil_append, true_and, and_true, ↓reduceIte, leT, leF, ltT, ltF, eqF, lt0F, le0T, le0F, eq0F, natT, nI_clamp, nI_1, if_true, if_false, not_true_eq_false, not_false_eq_true, z_00, z_10, eq_self, true_or, or_true, or_false, false_or, oc_94, mx_call c2 (Nat.le_refl _), z_10, mx_call hlk _, n60, n61, n62]
    | false =>
      obtain ⟨I2, f2, p2, c2⟩ := g2 j S2 hsub
      have e : pr_cmp n B sub i S = (false, j, S2) := by
        unfold pr_cmp
        rw [hsub]
      rw [e]
      refine ⟨fun _ _ h => (by cases h), fun j' S' h => ?_⟩
      cases h
      refine ⟨I2, f2, p2, ?_⟩
      show mx_Cal mx_tab ((d + 1) + 1) 158 [.ref 94] (mk I J) (some (.int 0)) (mk I2 J)
      refine mx_Cal_in (ls := [some (.ref 94), none]) tab_158 (by rw [mx_rcv, oc_94]; trivial) (Nat.le_of_ble_eq_true rfl) rfl ?_
      simp (disch := omega) only [x_Ref_compared_0, x_Ref_compared_1, x_Ref_compared_4, x_Ref_compared_7, x_Ref_compared_8, x_Ref_compared_9, x_Ref_compared_10, x_Ref_compared_13, x_Ref_compared_14, x_Ref_compared_15, x_Ref_compared_17, x_Ref_compared_20, x_Ref_compared_21, x_Ref_compared_23, x_Ref_compared_26, x_Ref_compared_27, x_Ref_compared_29, x_Ref_compared_32, x_Ref_compared_33, x_Ref_compared_34, x_Ref_compared_35, x_Ref_compared_36, x_Ref_compared_39, x_Ref_compared_40, x_Ref_compared_41, x_Ref_compared_44, x_Ref_compared_45, x_Ref_compared_48, x_Ref_compared_51, x_Ref_compared_52, x_Ref_compared_53, x_Ref_compared_54, x_Ref_compared_55, x_Ref_compared_56, x_Ref_compared_59, x_Ref_compared_60, mk_I, mk_J, mk_Q, mk_n, mk_sI, mk_sJ, Option.toList_some, Option.toList_none, List.cons_append, List.nil_append, true_and, and_true, ↓reduceIte, leT, leF, ltT, ltF, eqF, lt0F, le0T, le0F, eq0F, natT, nI_clamp, nI_1, if_true, if_false, not_true_eq_false, not_false_eq_true, z_00, z_10, eq_self, true_or, or_true, or_false, false_or, mx_call c2 (Nat.le_refl _), z_00]
theorem lp_both {n u o d : Nat} {B : Nat → Nat} {sub : Nat → List (Nat × Nat) → pr_R} (hn : n ≤ 60) (hB : ∀ j, B j < 256) (hs : PG n u B o d 158 sub) (J : mx_J) : ∀ (f i : Nat) (S : List (Nat × Nat)) (I : mx_I) , n < i + f → i ≤ n → S.length ≤ i → TPR n u B I → PS I i o S → (∀ j S', pr_lp n B (fun c => decide (pr_rank c = 2)) sub f i S = (true, j, S') → ∃ I', Fr I I' ∧ PS I' j o S' ∧ i ≤ j ∧ j ≤ n ∧ S'.length + i ≤ S.length + j ∧ ∀ P : mx_P, P (some (.int 1)) (mk I' J) → mx_R k_Ref_both (mx_Cal mx_tab (d + 1)) 9 [some (.ref 94)] [] (mk I J) P) ∧ ∀ j S', pr_lp n B (fun c => decide (pr_rank c = 2)) sub f i S = (false, j, S') → ∃ I', Fr I I' ∧ I' 94 4 = nI j ∧ ∀ P : mx_P, P (some (.int 0)) (mk I' J) → mx_R k_Ref_both (mx_Cal mx_tab (d + 1)) 9 [some (.ref 94)] [] (mk I J) P
  | 0, i, S, I, hf, hi, hl, ht, hp => by omega
  | f + 1, i, S, I, hf, hi, hl, ht, hp => by
    have hlk := q_look (d := 0) ht hn hp.1 hi J
    have h4 := hp.1
    have hBi := hB i
    by_cases hc : i < n ∧ pr_rank (B i) = 2
    · have hc' : i < n ∧ (fun c => decide (pr_rank c = 2)) (B i) = true := ⟨hc.1, decide_eq_true hc.2⟩
      have hv := rk2.mp hc.2
      obtain ⟨g1, g2⟩ := hs (i + 1) S (mx_ups I 94 4 (nI (i + 1))) J (by omega) (by omega) (ht.fr (Fr.up _ (Or.inl rfl))) (hp.at_ (i + 1))
      have fa : Fr I (mx_ups I 94 4 (nI (i + 1))) := Fr.up _ (Or.inl rfl)
      cases hsub : sub (i + 1) S with
      | mk b js =>
        obtain ⟨j, S2⟩ := js
        cases b with
        | true =>
          obtain ⟨I2, f2, p2, j1, j2, j3, c2⟩ := g1 j S2 hsub
          obtain ⟨I3, p3, f3, c3⟩ := q_step1 (d := 0) p2 J (by omega) 3 (B i)
          have e : pr_lp n B (fun c => decide (pr_rank c = 2)) sub (f + 1) i S = pr_lp n B (fun c => decide (pr_rank c = 2)) sub f j (S2 ++ [(3, B i)]) := by
            simp only [pr_lp]
            rw [if_pos hc', hsub]
          rw [e]
          have ls := ln_snoc S2 (3, B i)
          have fr := (fa.trans f2).trans f3
          obtain ⟨k1, k2⟩ := lp_both hn hB hs J f j (S2 ++ [(3, B i)]) I3 (by omega) j2 (by omega) (ht.fr fr) p3
          have go : ∀ P : mx_P, mx_R k_Ref_both (mx_Cal mx_tab (d + 1)) 9 [some (.ref 94)] [] (mk I3 J) P → mx_R k_Ref_both (mx_Cal mx_tab (d + 1)) 9 [some (.ref 94)] [] (mk I J) P := fun P hP => by
            rw [x_Ref_both_9]
            rw [hv] at c3
            rw [lk_t hc.1 hv] at hlk
            have c3' : mx_Cal mx_tab (0 + 1) 155 [.ref 94, .int 3, .int 38] (mk I2 J) none (mk I3 J) := c3
            simp (disch := omega) only [x_Ref_both_10, x_Ref_both_13, x_Ref_both_15, x_Ref_both_18, x_Ref_both_19, x_Ref_both_20, x_Ref_both_23, x_Ref_both_24, x_Ref_both_25, x_Ref_both_28, x_Ref_both_29, x_Ref_both_32, x_Ref_both_35, x_Ref_both_36, x_Ref_both_37, x_Ref_both_38, x_Ref_both_39, x_Ref_both_41, x_Ref_both_44, x_Ref_both_47, x_Ref_both_48, mk_I, mk_J, mk_Q, mk_n, mk_sI, mk_sJ, Option.toList_some, Option.toList_none, List.cons_append, List.nil_append, true_and, and_true, ↓reduceIte, leT, leF, ltT, ltF, eqF, lt0F, le0T, le0F, eq0F, natT, nI_clamp, nI_1, if_true, if_false, not_true_eq_false, not_false_eq_true, z_00, z_10, eq_self, true_or, or_true, or_false, false_or, oc_94, mx_call hlk _, show (nI 38 = 38) = True from eq_true rfl, h4, nI_1, mx_call c2 _, z_10, mx_call c3' _]
            exact hP
          refine ⟨fun j' S' h => ?_, fun j' S' h => ?_⟩
          · obtain ⟨I', q1, q2, q3, q4, q5, q6⟩ := k1 j' S' h
            exact ⟨I', fr.trans q1, q2, by omega, q4, by omega, fun P hP => go P (q6 P hP)⟩
          · obtain ⟨I', q1, q2, q6⟩ := k2 j' S' h
            exact ⟨I', fr.trans q1, q2, fun P hP => go P (q6 P hP)⟩
        | false =>
          obtain ⟨I2, f2, p2, c2⟩ := g2 j S2 hsub
          have e : pr_lp n B (fun c => decide (pr_rank c = 2)) sub (f + 1) i S = (false, j, S2) := by
            simp only [pr_lp]
            rw [if_pos hc', hsub]
          rw [e]
          refine ⟨fun _ _ h => (by cases h), fun j' S' h => ?_⟩
          cases h
          refine ⟨I2, fa.trans f2, p2, fun P hP => ?_⟩
          rw [x_Ref_both_9]
          rw [lk_t hc.1 hv] at hlk
          simp (disch := omega) only [x_Ref_both_10, x_Ref_both_13, x_Ref_both_15, x_Ref_both_18, x_Ref_both_19, x_Ref_both_20, x_Ref_both_23, x_Ref_both_24, x_Ref_both_25, x_Ref_both_28, x_Ref_both_29, x_Ref_both_32, x_Ref_both_35, x_Ref_both_36, x_Ref_both_37, x_Ref_both_38, x_Ref_both_39, x_Ref_both_41, x_Ref_both_44, x_Ref_both_47, x_Ref_both_48, mk_I, mk_J, mk_Q, mk_n, mk_sI, mk_sJ, Option.toList_some, Option.toList_none, List.cons_append, List.nil_append, true_and, and_true, ↓reduceIte, leT, leF, ltT, ltF, eqF, lt0F, le0T, le0F, eq0F, natT, nI_clamp, nI_1, if_true, if_false, not_true_eq_false, not_false_eq_true, z_00, z_10, eq_self, true_or, or_true, or_false, false_or, oc_94, mx_call hlk _, show (nI 38 = 38) = True from eq_true rfl, h4, nI_1, mx_call c2 _, z_00]
          exact hP
    · have hc' : ¬ (i < n ∧ (fun c => decide (pr_rank c = 2)) (B i) = true) := fun q => hc ⟨q.1, of_decide_eq_true q.2⟩
      have e : pr_lp n B (fun c => decide (pr_rank c = 2)) sub (f + 1) i S = (true, i, S) := by
        simp only [pr_lp]
        rw [if_neg hc']
      rw [e]
      refine ⟨fun j' S' h => ?_, fun _ _ h => (by cases h)⟩
      cases h
      have n38 : (lkV n B i = 38) = False := lk_f (c := 38) hBi (by omega) (fun q => hc ⟨q.1, rk2.mpr (by omega)⟩)
      refine ⟨I, Fr.refl I, hp, Nat.le_refl _, hi, Nat.le_refl _, fun P hP => ?_⟩
      rw [x_Ref_both_9]
      simp (disch := omega) only [x_Ref_both_10, x_Ref_both_13, x_Ref_both_15, x_Ref_both_18, x_Ref_both_19, x_Ref_both_20, x_Ref_both_23, x_Ref_both_24, x_Ref_both_25, x_Ref_both_28, x_Ref_both_29, x_Ref_both_32, x_Ref_both_35, x_Ref_both_36, x_Ref_both_37, x_Ref_both_38, x_Ref_both_39, x_Ref_both_41, x_Ref_both_44, x_Ref_both_47, x_Ref_both_48, mk_I, mk_J, mk_Q, mk_n, mk_sI, mk_sJ, Option.toList_some, Option.toList_none, List.cons_append, List.nil_append, true_and, and_true, ↓reduceIte, leT, leF, ltT, ltF, eqF, lt0F, le0T, le0F, eq0F, natT, nI_clamp, nI_1, if_true, if_false, not_true_eq_false, not_false_eq_true, z_00, z_10, eq_self, true_or, or_true, or_false, false_or, oc_94, mx_call hlk _, n38, z_10]
      exact hP
theorem pg_both {n u o d : Nat} {B : Nat → Nat} {sub : Nat → List (Nat × Nat) → pr_R} (hn : n ≤ 60) (hB : ∀ j, B j < 256) (hs : PG n u B o d 158 sub) : PG n u B o (d + 1) 157 (pr_bin n B (fun c => decide (pr_rank c = 2)) sub) := by
  intro i S I J hi hl ht hp
  obtain ⟨g1, g2⟩ := hs i S I J hi hl ht hp
  cases hsub : sub i S with
  | mk b js =>
    obtain ⟨j, S2⟩ := js
    cases b with
    | true =>
      obtain ⟨I2, f2, p2, j1, j2, j3, c2⟩ := g1 j S2 hsub
      have e : pr_bin n B (fun c => decide (pr_rank c = 2)) sub i S = pr_lp n B (fun c => decide (pr_rank c = 2)) sub (n + 1 - j) j S2 := by
        unfold pr_bin
        rw [hsub]
      rw [e]
      obtain ⟨k1, k2⟩ := lp_both hn hB hs J (n + 1 - j) j S2 I2 (by omega) j2 (by omega) (ht.fr f2) p2
      refine ⟨fun j' S' h => ?_, fun j' S' h => ?_⟩
      · obtain ⟨I', q1, q2, q3, q4, q5, q6⟩ := k1 j' S' h
        refine ⟨I', f2.trans q1, q2, by omega, q4, by omega, ?_⟩
        show mx_Cal mx_tab ((d + 1) + 1) 157 [.ref 94] (mk I J) (some (.int 1)) (mk I' J)
        refine mx_Cal_in (ls := [some (.ref 94)]) tab_157 (by rw [mx_rcv, oc_94]; trivial) (Nat.le_of_ble_eq_true rfl) rfl ?_
        simp (disch := omega) only [x_Ref_both_0, x_Ref_both_1, x_Ref_both_4, x_Ref_both_7, x_Ref_both_8, mk_I, mk_J, mk_Q, mk_n, mk_sI, mk_sJ, Option.toList_some, Option.toList_none, List.cons_append, List.nil_append, true_and, and_true, mx_call c2 (Nat.le_refl _), z_10, not_false_eq_true, if_true]
        exact q6 _ ⟨rfl, rfl⟩
      · obtain ⟨I', q1, q2, q6⟩ := k2 j' S' h
        refine ⟨I', f2.trans q1, q2, ?_⟩
        show mx_Cal mx_tab ((d + 1) + 1) 157 [.ref 94] (mk I J) (some (.int 0)) (mk I' J)
        refine mx_Cal_in (ls := [some (.ref 94)]) tab_157 (by rw [mx_rcv, oc_94]; trivial) (Nat.le_of_ble_eq_true rfl) rfl ?_
        simp (disch := omega) only [x_Ref_both_0, x_Ref_both_1, x_Ref_both_4, x_Ref_both_7, x_Ref_both_8, mk_I, mk_J, mk_Q, mk_n, mk_sI, mk_sJ, Option.toList_some, Option.toList_none, List.cons_append, List.nil_append, true_and, and_true, mx_call c2 (Nat.le_refl _), z_10, not_false_eq_true, if_true]
        exact q6 _ ⟨rfl, rfl⟩
    | false =>
      obtain ⟨I2, f2, p2, c2⟩ := g2 j S2 hsub
      have e : pr_bin n B (fun c => decide (pr_rank c = 2)) sub i S = (false, j, S2) := by
        unfold pr_bin
        rw [hsub]
      rw [e]
      refine ⟨fun _ _ h => (by cases h), fun j' S' h => ?_⟩
      cases h
      refine ⟨I2, f2, p2, ?_⟩
      show mx_Cal mx_tab ((d + 1) + 1) 157 [.ref 94] (mk I J) (some (.int 0)) (mk I2 J)
      refine mx_Cal_in (ls := [some (.ref 94)]) tab_157 (by rw [mx_rcv, oc_94]; trivial) (Nat.le_of_ble_eq_true rfl) rfl ?_
      simp (disch := omega) only [x_Ref_both_0, x_Ref_both_1, x_Ref_both_4, x_Ref_both_7, x_Ref_both_8, mk_I, mk_J, mk_Q, mk_n, mk_sI, mk_sJ, Option.toList_some, Option.toList_none, List.cons_append, List.nil_append, true_and, and_true, ↓reduceIte, leT, leF, ltT, ltF, eqF, lt0F, le0T, le0F, eq0F, natT, nI_clamp, nI_1, if_true, if_false, not_true_eq_false, not_false_eq_true, z_00, z_10, eq_self, true_or, or_true, or_false, false_or, mx_call c2 (Nat.le_refl _), z_00]
theorem lp_whole {n u o d : Nat} {B : Nat → Nat} {sub : Nat → List (Nat × Nat) → pr_R} (hn : n ≤ 60) (hB : ∀ j, B j < 256) (hs : PG n u B o d 157 sub) (J : mx_J) : ∀ (f i : Nat) (S : List (Nat × Nat)) (I : mx_I) , n < i + f → i ≤ n → S.length ≤ i → TPR n u B I → PS I i o S → (∀ j S', pr_lp n B (fun c => decide (pr_rank c = 1)) sub f i S = (true, j, S') → ∃ I', Fr I I' ∧ PS I' j o S' ∧ i ≤ j ∧ j ≤ n ∧ S'.length + i ≤ S.length + j ∧ ∀ P : mx_P, P (some (.int 1)) (mk I' J) → mx_R k_Ref_whole (mx_Cal mx_tab (d + 1)) 9 [some (.ref 94)] [] (mk I J) P) ∧ ∀ j S', pr_lp n B (fun c => decide (pr_rank c = 1)) sub f i S = (false, j, S') → ∃ I', Fr I I' ∧ I' 94 4 = nI j ∧ ∀ P : mx_P, P (some (.int 0)) (mk I' J) → mx_R k_Ref_whole (mx_Cal mx_tab (d + 1)) 9 [some (.ref 94)] [] (mk I J) P
  | 0, i, S, I, hf, hi, hl, ht, hp => by omega
  | f + 1, i, S, I, hf, hi, hl, ht, hp => by
    have hlk := q_look (d := 0) ht hn hp.1 hi J
    have h4 := hp.1
    have hBi := hB i
    by_cases hc : i < n ∧ pr_rank (B i) = 1
    · have hc' : i < n ∧ (fun c => decide (pr_rank c = 1)) (B i) = true := ⟨hc.1, decide_eq_true hc.2⟩
      have hv := rk1.mp hc.2
      obtain ⟨g1, g2⟩ := hs (i + 1) S (mx_ups I 94 4 (nI (i + 1))) J (by omega) (by omega) (ht.fr (Fr.up _ (Or.inl rfl))) (hp.at_ (i + 1))
      have fa : Fr I (mx_ups I 94 4 (nI (i + 1))) := Fr.up _ (Or.inl rfl)
      cases hsub : sub (i + 1) S with
      | mk b js =>
        obtain ⟨j, S2⟩ := js
        cases b with
        | true =>
          obtain ⟨I2, f2, p2, j1, j2, j3, c2⟩ := g1 j S2 hsub
          obtain ⟨I3, p3, f3, c3⟩ := q_step1 (d := 0) p2 J (by omega) 3 (B i)
          have e : pr_lp n B (fun c => decide (pr_rank c = 1)) sub (f + 1) i S = pr_lp n B (fun c => decide (pr_rank c = 1)) sub f j (S2 ++ [(3, B i)]) := by
            simp only [pr_lp]
            rw [if_pos hc', hsub]
          rw [e]
          have ls := ln_snoc S2 (3, B i)
          have fr := (fa.trans f2).trans f3
          obtain ⟨k1, k2⟩ := lp_whole hn hB hs J f j (S2 ++ [(3, B i)]) I3 (by omega) j2 (by omega) (ht.fr fr) p3
          have go : ∀ P : mx_P, mx_R k_Ref_whole (mx_Cal mx_tab (d + 1)) 9 [some (.ref 94)] [] (mk I3 J) P → mx_R k_Ref_whole (mx_Cal mx_tab (d + 1)) 9 [some (.ref 94)] [] (mk I J) P := fun P hP => by
            rw [x_Ref_whole_9]
            rw [hv] at c3
            rw [lk_t hc.1 hv] at hlk
            have c3' : mx_Cal mx_tab (0 + 1) 155 [.ref 94, .int 3, .int 124] (mk I2 J) none (mk I3 J) := c3
            simp (disch := omega) only [x_Ref_whole_10, x_Ref_whole_13, x_Ref_whole_15, x_Ref_whole_18, x_Ref_whole_19, x_Ref_whole_20, x_Ref_whole_23, x_Ref_whole_24, x_Ref_whole_25, x_Ref_whole_28, x_Ref_whole_29, x_Ref_whole_32, x_Ref_whole_35, x_Ref_whole_36, x_Ref_whole_37, x_Ref_whole_38, x_Ref_whole_39, x_Ref_whole_41, x_Ref_whole_44, x_Ref_whole_47, x_Ref_whole_48, mk_I, mk_J, mk_Q, mk_n, mk_sI, mk_sJ, Option.toList_some, Option.toList_none, List.cons_append, List.nil_append, true_and, and_true, ↓reduceIte, leT, leF, ltT, ltF, eqF, lt0F, le0T, le0F, eq0F, natT, nI_clamp, nI_1, if_true, if_false, not_true_eq_false, not_false_eq_true, z_00, z_10, eq_self, true_or, or_true, or_false, false_or, oc_94, mx_call hlk _, show (nI 124 = 124) = True from eq_true rfl, h4, nI_1, mx_call c2 _, z_10, mx_call c3' _]
            exact hP
          refine ⟨fun j' S' h => ?_, fun j' S' h => ?_⟩
          · obtain ⟨I', q1, q2, q3, q4, q5, q6⟩ := k1 j' S' h
            exact ⟨I', fr.trans q1, q2, by omega, q4, by omega, fun P hP => go P (q6 P hP)⟩
          · obtain ⟨I', q1, q2, q6⟩ := k2 j' S' h
            exact ⟨I', fr.trans q1, q2, fun P hP => go P (q6 P hP)⟩
        | false =>
          obtain ⟨I2, f2, p2, c2⟩ := g2 j S2 hsub
          have e : pr_lp n B (fun c => decide (pr_rank c = 1)) sub (f + 1) i S = (false, j, S2) := by
            simp only [pr_lp]
            rw [if_pos hc', hsub]
          rw [e]
          refine ⟨fun _ _ h => (by cases h), fun j' S' h => ?_⟩
          cases h
          refine ⟨I2, fa.trans f2, p2, fun P hP => ?_⟩
          rw [x_Ref_whole_9]
          rw [lk_t hc.1 hv] at hlk
          simp (disch := omega) only [x_Ref_whole_10, x_Ref_whole_13, x_Ref_whole_15, x_Ref_whole_18, x_Ref_whole_19, x_Ref_whole_20, x_Ref_whole_23, x_Ref_whole_24, x_Ref_whole_25, x_Ref_whole_28, x_Ref_whole_29, x_Ref_whole_32, x_Ref_whole_35, x_Ref_whole_36, x_Ref_whole_37, x_Ref_whole_38, x_Ref_whole_39, x_Ref_whole_41, x_Ref_whole_44, x_Ref_whole_47, x_Ref_whole_48, mk_I, mk_J, mk_Q, mk_n, mk_sI, mk_sJ, Option.toList_some, Option.toList_none, List.cons_append, List.nil_append, true_and, and_true, ↓reduceIte, leT, leF, ltT, ltF, eqF, lt0F, le0T, le0F, eq0F, natT, nI_clamp, nI_1, if_true, if_false, not_true_eq_false, not_false_eq_true, z_00, z_10, eq_self, true_or, or_true, or_false, false_or, oc_94, mx_call hlk _, show (nI 124 = 124) = True from eq_true rfl, h4, nI_1, mx_call c2 _, z_00]
          exact hP
    · have hc' : ¬ (i < n ∧ (fun c => decide (pr_rank c = 1)) (B i) = true) := fun q => hc ⟨q.1, of_decide_eq_true q.2⟩
      have e : pr_lp n B (fun c => decide (pr_rank c = 1)) sub (f + 1) i S = (true, i, S) := by
        simp only [pr_lp]
        rw [if_neg hc']
      rw [e]
      refine ⟨fun j' S' h => ?_, fun _ _ h => (by cases h)⟩
      cases h
      have n124 : (lkV n B i = 124) = False := lk_f (c := 124) hBi (by omega) (fun q => hc ⟨q.1, rk1.mpr (by omega)⟩)
      refine ⟨I, Fr.refl I, hp, Nat.le_refl _, hi, Nat.le_refl _, fun P hP => ?_⟩
      rw [x_Ref_whole_9]
      simp (disch := omega) only [x_Ref_whole_10, x_Ref_whole_13, x_Ref_whole_15, x_Ref_whole_18, x_Ref_whole_19, x_Ref_whole_20, x_Ref_whole_23, x_Ref_whole_24, x_Ref_whole_25, x_Ref_whole_28, x_Ref_whole_29, x_Ref_whole_32, x_Ref_whole_35, x_Ref_whole_36, x_Ref_whole_37, x_Ref_whole_38, x_Ref_whole_39, x_Ref_whole_41, x_Ref_whole_44, x_Ref_whole_47, x_Ref_whole_48, mk_I, mk_J, mk_Q, mk_n, mk_sI, mk_sJ, Option.toList_some, Option.toList_none, List.cons_append, List.nil_append, true_and, and_true, ↓reduceIte, leT, leF, ltT, ltF, eqF, lt0F, le0T, le0F, eq0F, natT, nI_clamp, nI_1, if_true, if_false, not_true_eq_false, not_false_eq_true, z_00, z_10, eq_self, true_or, or_true, or_false, false_or, oc_94, mx_call hlk _, n124, z_10]
      exact hP
theorem pg_whole {n u o d : Nat} {B : Nat → Nat} {sub : Nat → List (Nat × Nat) → pr_R} (hn : n ≤ 60) (hB : ∀ j, B j < 256) (hs : PG n u B o d 157 sub) : PG n u B o (d + 1) 156 (pr_bin n B (fun c => decide (pr_rank c = 1)) sub) := by
  intro i S I J hi hl ht hp
  obtain ⟨g1, g2⟩ := hs i S I J hi hl ht hp
  cases hsub : sub i S with
  | mk b js =>
    obtain ⟨j, S2⟩ := js
    cases b with
    | true =>
      obtain ⟨I2, f2, p2, j1, j2, j3, c2⟩ := g1 j S2 hsub
      have e : pr_bin n B (fun c => decide (pr_rank c = 1)) sub i S = pr_lp n B (fun c => decide (pr_rank c = 1)) sub (n + 1 - j) j S2 := by
        unfold pr_bin
        rw [hsub]
      rw [e]
      obtain ⟨k1, k2⟩ := lp_whole hn hB hs J (n + 1 - j) j S2 I2 (by omega) j2 (by omega) (ht.fr f2) p2
      refine ⟨fun j' S' h => ?_, fun j' S' h => ?_⟩
      · obtain ⟨I', q1, q2, q3, q4, q5, q6⟩ := k1 j' S' h
        refine ⟨I', f2.trans q1, q2, by omega, q4, by omega, ?_⟩
        show mx_Cal mx_tab ((d + 1) + 1) 156 [.ref 94] (mk I J) (some (.int 1)) (mk I' J)
        refine mx_Cal_in (ls := [some (.ref 94)]) tab_156 (by rw [mx_rcv, oc_94]; trivial) (Nat.le_of_ble_eq_true rfl) rfl ?_
        simp (disch := omega) only [x_Ref_whole_0, x_Ref_whole_1, x_Ref_whole_4, x_Ref_whole_7, x_Ref_whole_8, mk_I, mk_J, mk_Q, mk_n, mk_sI, mk_sJ, Option.toList_some, Option.toList_none, List.cons_append, List.nil_append, true_and, and_true, mx_call c2 (Nat.le_refl _), z_10, not_false_eq_true, if_true]
        exact q6 _ ⟨rfl, rfl⟩
      · obtain ⟨I', q1, q2, q6⟩ := k2 j' S' h
        refine ⟨I', f2.trans q1, q2, ?_⟩
        show mx_Cal mx_tab ((d + 1) + 1) 156 [.ref 94] (mk I J) (some (.int 0)) (mk I' J)
        refine mx_Cal_in (ls := [some (.ref 94)]) tab_156 (by rw [mx_rcv, oc_94]; trivial) (Nat.le_of_ble_eq_true rfl) rfl ?_
        simp (disch := omega) only [x_Ref_whole_0, x_Ref_whole_1, x_Ref_whole_4, x_Ref_whole_7, x_Ref_whole_8, mk_I, mk_J, mk_Q, mk_n, mk_sI, mk_sJ, Option.toList_some, Option.toList_none, List.cons_append, List.nil_append, true_and, and_true, mx_call c2 (Nat.le_refl _), z_10, not_false_eq_true, if_true]
        exact q6 _ ⟨rfl, rfl⟩
    | false =>
      obtain ⟨I2, f2, p2, c2⟩ := g2 j S2 hsub
      have e : pr_bin n B (fun c => decide (pr_rank c = 1)) sub i S = (false, j, S2) := by
        unfold pr_bin
        rw [hsub]
      rw [e]
      refine ⟨fun _ _ h => (by cases h), fun j' S' h => ?_⟩
      cases h
      refine ⟨I2, f2, p2, ?_⟩
      show mx_Cal mx_tab ((d + 1) + 1) 156 [.ref 94] (mk I J) (some (.int 0)) (mk I2 J)
      refine mx_Cal_in (ls := [some (.ref 94)]) tab_156 (by rw [mx_rcv, oc_94]; trivial) (Nat.le_of_ble_eq_true rfl) rfl ?_
      simp (disch := omega) only [x_Ref_whole_0, x_Ref_whole_1, x_Ref_whole_4, x_Ref_whole_7, x_Ref_whole_8, mk_I, mk_J, mk_Q, mk_n, mk_sI, mk_sJ, Option.toList_some, Option.toList_none, List.cons_append, List.nil_append, true_and, and_true, ↓reduceIte, leT, leF, ltT, ltF, eqF, lt0F, le0T, le0F, eq0F, natT, nI_clamp, nI_1, if_true, if_false, not_true_eq_false, not_false_eq_true, z_00, z_10, eq_self, true_or, or_true, or_false, false_or, mx_call c2 (Nat.le_refl _), z_00]
theorem q_isName {d n u i : Nat} {B : Nat → Nat} {I : mx_I} (ht : TPR n u B I) (hu : u < 2) (hB : B i < 256) (J : mx_J) : mx_Cal mx_tab (d + 1) 154 [.ref 94, .int (lkV n B i)] (mk I J) (some (.int (if i < n ∧ (pr_name u (B i)).isSome = true then 1 else 0))) (mk I J) := by
  have h7 := ht.2.2
  have hu2 : u = 0 ∨ u = 1 := by omega
  by_cases h : i < n ∧ (pr_name u (B i)).isSome = true
  · rw [if_pos h]
    have hk : B i = 107 ∨ B i = 112 ∨ (u = 0 ∧ B i = 108) ∨ (u = 1 ∧ B i = 105) := by
      obtain ⟨-, h⟩ := h
      unfold pr_name at h
      rcases hu2 with rfl | rfl
      · rw [if_pos rfl] at h
        by_cases a : B i = 107
        · exact Or.inl a
        by_cases b : B i = 108
        · exact Or.inr (Or.inr (Or.inl ⟨rfl, b⟩))
        by_cases c : B i = 112
        · exact Or.inr (Or.inl c)
        simp [a, b, c] at h
      · rw [if_neg (by decide)] at h
        by_cases a : B i = 105
        · exact Or.inr (Or.inr (Or.inr ⟨rfl, a⟩))
        by_cases b : B i = 112
        · exact Or.inr (Or.inl b)
        by_cases c : B i = 107
        · exact Or.inl c
        simp [a, b, c] at h
    refine mx_Cal_in (ls := [some (.ref 94), some (.int (lkV n B i))]) tab_154 (by rw [mx_rcv, oc_94]; trivial) (Nat.le_of_ble_eq_true rfl) rfl ?_
    rcases hk with e | e | ⟨rfl, e⟩ | ⟨rfl, e⟩
    · rw [lk_t h.1 e]
      simp (decide := true) only [x_Ref_isName_0, x_Ref_isName_1, x_Ref_isName_3, x_Ref_isName_6, x_Ref_isName_7, x_Ref_isName_9, x_Ref_isName_12, x_Ref_isName_13, x_Ref_isName_14, x_Ref_isName_15, x_Ref_isName_16, x_Ref_isName_19, x_Ref_isName_22, x_Ref_isName_24, x_Ref_isName_27, x_Ref_isName_29, x_Ref_isName_32, x_Ref_isName_33, x_Ref_isName_36, x_Ref_isName_37, mk_I, mk_J, mk_Q, mk_n, mk_sI, mk_sJ, Option.toList_some, Option.toList_none, List.cons_append, List.nil_append, true_and, and_true, oc_94, if_true, if_false, h7]
    · rw [lk_t h.1 e]
      simp (decide := true) only [x_Ref_isName_0, x_Ref_isName_1, x_Ref_isName_3, x_Ref_isName_6, x_Ref_isName_7, x_Ref_isName_9, x_Ref_isName_12, x_Ref_isName_13, x_Ref_isName_14, x_Ref_isName_15, x_Ref_isName_16, x_Ref_isName_19, x_Ref_isName_22, x_Ref_isName_24, x_Ref_isName_27, x_Ref_isName_29, x_Ref_isName_32, x_Ref_isName_33, x_Ref_isName_36, x_Ref_isName_37, mk_I, mk_J, mk_Q, mk_n, mk_sI, mk_sJ, Option.toList_some, Option.toList_none, List.cons_append, List.nil_append, true_and, and_true, oc_94, if_true, if_false, h7]
    · rw [lk_t h.1 e]
      simp (decide := true) only [x_Ref_isName_0, x_Ref_isName_1, x_Ref_isName_3, x_Ref_isName_6, x_Ref_isName_7, x_Ref_isName_9, x_Ref_isName_12, x_Ref_isName_13, x_Ref_isName_14, x_Ref_isName_15, x_Ref_isName_16, x_Ref_isName_19, x_Ref_isName_22, x_Ref_isName_24, x_Ref_isName_27, x_Ref_isName_29, x_Ref_isName_32, x_Ref_isName_33, x_Ref_isName_36, x_Ref_isName_37, mk_I, mk_J, mk_Q, mk_n, mk_sI, mk_sJ, Option.toList_some, Option.toList_none, List.cons_append, List.nil_append, true_and, and_true, oc_94, if_true, if_false, h7]
    · rw [lk_t h.1 e]
      simp (decide := true) only [x_Ref_isName_0, x_Ref_isName_1, x_Ref_isName_3, x_Ref_isName_6, x_Ref_isName_7, x_Ref_isName_9, x_Ref_isName_12, x_Ref_isName_13, x_Ref_isName_14, x_Ref_isName_15, x_Ref_isName_16, x_Ref_isName_19, x_Ref_isName_22, x_Ref_isName_24, x_Ref_isName_27, x_Ref_isName_29, x_Ref_isName_32, x_Ref_isName_33, x_Ref_isName_36, x_Ref_isName_37, mk_I, mk_J, mk_Q, mk_n, mk_sI, mk_sJ, Option.toList_some, Option.toList_none, List.cons_append, List.nil_append, true_and, and_true, oc_94, if_true, if_false, h7]
  · rw [if_neg h]
    have n107 : (lkV n B i = 107) = False := lk_f (c := 107) hB (by omega) (fun q => h ⟨q.1, by rw [q.2]; rcases hu2 with rfl | rfl <;> rfl⟩)
    have n112 : (lkV n B i = 112) = False := lk_f (c := 112) hB (by omega) (fun q => h ⟨q.1, by rw [q.2]; rcases hu2 with rfl | rfl <;> rfl⟩)
    refine mx_Cal_in (ls := [some (.ref 94), some (.int (lkV n B i))]) tab_154 (by rw [mx_rcv, oc_94]; trivial) (Nat.le_of_ble_eq_true rfl) rfl ?_
    rcases hu2 with rfl | rfl
    · have n108 : (lkV n B i = 108) = False := lk_f (c := 108) hB (by omega) (fun q => h ⟨q.1, by rw [q.2]; rfl⟩)
      simp (decide := true) only [x_Ref_isName_0, x_Ref_isName_1, x_Ref_isName_3, x_Ref_isName_6, x_Ref_isName_7, x_Ref_isName_9, x_Ref_isName_12, x_Ref_isName_13, x_Ref_isName_14, x_Ref_isName_15, x_Ref_isName_16, x_Ref_isName_19, x_Ref_isName_22, x_Ref_isName_24, x_Ref_isName_27, x_Ref_isName_29, x_Ref_isName_32, x_Ref_isName_33, x_Ref_isName_36, x_Ref_isName_37, mk_I, mk_J, mk_Q, mk_n, mk_sI, mk_sJ, Option.toList_some, Option.toList_none, List.cons_append, List.nil_append, true_and, and_true, oc_94, if_true, if_false, h7, n107, n112, n108, not_false_eq_true]
    · have n105 : (lkV n B i = 105) = False := lk_f (c := 105) hB (by omega) (fun q => h ⟨q.1, by rw [q.2]; rfl⟩)
      simp (decide := true) only [x_Ref_isName_0, x_Ref_isName_1, x_Ref_isName_3, x_Ref_isName_6, x_Ref_isName_7, x_Ref_isName_9, x_Ref_isName_12, x_Ref_isName_13, x_Ref_isName_14, x_Ref_isName_15, x_Ref_isName_16, x_Ref_isName_19, x_Ref_isName_22, x_Ref_isName_24, x_Ref_isName_27, x_Ref_isName_29, x_Ref_isName_32, x_Ref_isName_33, x_Ref_isName_36, x_Ref_isName_37, mk_I, mk_J, mk_Q, mk_n, mk_sI, mk_sJ, Option.toList_some, Option.toList_none, List.cons_append, List.nil_append, true_and, and_true, oc_94, if_true, if_false, h7, n107, n112, n105, not_false_eq_true]
theorem q_isDig {d n i : Nat} {B : Nat → Nat} (h : mx_H) (hB : B i < 256) : mx_Cal mx_tab (d + 1) 145 [.int (lkV n B i), .int 48, .int 57] h (some (.int (if i < n ∧ pr_digit (B i) = true then 1 else 0))) h := by
  have hq := q_Ref_in (d := d) h (lkV n B i) 48 57
  have e : (if lkV n B i < 48 then (0 : Int32) else if 57 < lkV n B i then 0 else 1) = if i < n ∧ pr_digit (B i) = true then 1 else 0 := by
    unfold lkV pr_digit
    by_cases hi : i < n
    · rw [if_pos hi]
      by_cases h1 : B i < 48
      · have a1 : nI (B i) < 48 := of_eq_true (ltT (b := 48) h1 (by omega))
        rw [if_pos a1, if_neg (by simp; omega)]
      · have a1 : ¬ nI (B i) < 48 := of_eq_false (ltF (b := 48) (a := B i) (by omega) (by omega))
        rw [if_neg a1]
        by_cases h2 : 57 < B i
        · have a2 : (57 : Int32) < nI (B i) := of_eq_true (ltT (a := 57) h2 (by omega))
          rw [if_pos a2, if_neg (by simp; omega)]
        · have a2 : ¬ (57 : Int32) < nI (B i) := of_eq_false (ltF (a := 57) (b := B i) (by omega) (by omega))
          rw [if_neg a2, if_pos (by simp; omega)]
    · rw [if_neg hi, if_pos (by decide), if_neg (fun q => hi q.1)]
  rw [e] at hq
  exact hq
theorem q_opens1 {d i o : Nat} {S : List (Nat × Nat)} {I : mx_I} (hp : PS I i o S) (ho : o < 5) (J : mx_J) : mx_Cal mx_tab (d + 1) 161 [.ref 94] (mk I J) (some (.int 1)) (mk (mx_ups (mx_ups I 94 5 (nI (o + 1))) 94 4 (nI (i + 1))) J) := by
  obtain ⟨h1, h2, -, -⟩ := hp
  have e5 : (nI o = 5) = False := eqF (b := 5) (by omega) (by omega) (by omega)
  refine mx_Cal_in (ls := [some (.ref 94)]) tab_161 (by rw [mx_rcv, oc_94]; trivial) (Nat.le_of_ble_eq_true rfl) rfl ?_
  simp (disch := omega) only [x_Ref_opens_0, x_Ref_opens_1, x_Ref_opens_4, x_Ref_opens_5, x_Ref_opens_8, x_Ref_opens_9, x_Ref_opens_10, x_Ref_opens_11, x_Ref_opens_12, x_Ref_opens_15, x_Ref_opens_16, x_Ref_opens_17, x_Ref_opens_20, x_Ref_opens_21, x_Ref_opens_22, x_Ref_opens_25, x_Ref_opens_26, x_Ref_opens_27, x_Ref_opens_30, x_Ref_opens_31, mk_I, mk_J, mk_Q, mk_n, mk_sI, mk_sJ, Option.toList_some, Option.toList_none, List.cons_append, List.nil_append, true_and, and_true, ↓reduceIte, leT, leF, ltT, ltF, eqF, lt0F, le0T, le0F, eq0F, natT, nI_clamp, nI_1, if_true, if_false, not_true_eq_false, not_false_eq_true, z_00, z_10, eq_self, true_or, or_true, or_false, false_or, oc_94, h1, h2, e5, nI_1, ups_ne, z_10]
theorem q_opens0 {d i : Nat} {S : List (Nat × Nat)} {I : mx_I} (hp : PS I i 5 S) (J : mx_J) : mx_Cal mx_tab (d + 1) 161 [.ref 94] (mk I J) (some (.int 0)) (mk I J) := by
  obtain ⟨h1, h2, -, -⟩ := hp
  have e5 : (nI 5 = 5) = True := eq_true rfl
  refine mx_Cal_in (ls := [some (.ref 94)]) tab_161 (by rw [mx_rcv, oc_94]; trivial) (Nat.le_of_ble_eq_true rfl) rfl ?_
  simp (disch := omega) only [x_Ref_opens_0, x_Ref_opens_1, x_Ref_opens_4, x_Ref_opens_5, x_Ref_opens_8, x_Ref_opens_9, x_Ref_opens_10, x_Ref_opens_11, x_Ref_opens_12, x_Ref_opens_15, x_Ref_opens_16, x_Ref_opens_17, x_Ref_opens_20, x_Ref_opens_21, x_Ref_opens_22, x_Ref_opens_25, x_Ref_opens_26, x_Ref_opens_27, x_Ref_opens_30, x_Ref_opens_31, mk_I, mk_J, mk_Q, mk_n, mk_sI, mk_sJ, Option.toList_some, Option.toList_none, List.cons_append, List.nil_append, true_and, and_true, ↓reduceIte, leT, leF, ltT, ltF, eqF, lt0F, le0T, le0F, eq0F, natT, nI_clamp, nI_1, if_true, if_false, not_true_eq_false, not_false_eq_true, z_00, z_10, eq_self, true_or, or_true, or_false, false_or, oc_94, h1, h2, e5, z_00]
/-- a NAME, a NUMBER: what is alike at every depth -/
theorem one_name {n u o i d : Nat} {B : Nat → Nat} {S : List (Nat × Nat)} {I : mx_I} (hn : n ≤ 60) (hB : ∀ j, B j < 256) (hu : u < 2) (ht : TPR n u B I) (hp : PS I i o S) (hi : i ≤ n) (hl : S.length ≤ i) (J : mx_J) (h : i < n ∧ (pr_name u (B i)).isSome = true) (hd : 1 ≤ d) : ∃ I', Fr I I' ∧ PS I' (i + 1) o (S ++ [(1, B i)]) ∧ mx_Cal mx_tab (d + 1) 162 [.ref 94] (mk I J) (some (.int 1)) (mk I' J) := by
  have hlk := q_look (d := 0) ht hn hp.1 hi J
  have hnm := q_isName (d := 0) ht hu (hB i) J
  rw [if_pos h] at hnm
  rw [lk_t h.1 rfl] at hnm hlk
  have h4 := hp.1
  obtain ⟨I3, p3, f3, c3⟩ := q_step1 (d := 0) (hp.at_ (i + 1)) J (by omega) 1 (B i)
  have c3' : mx_Cal mx_tab (0 + 1) 155 [.ref 94, .int 1, .int (nI (B i))] (mk (mx_ups I 94 4 (nI (i + 1))) J) none (mk I3 J) := c3
  refine ⟨I3, (Fr.up _ (Or.inl rfl)).trans f3, p3, ?_⟩
  refine mx_Cal_in (ls := [some (.ref 94), none, none, none]) tab_162 (by rw [mx_rcv, oc_94]; trivial) (Nat.le_of_ble_eq_true rfl) rfl ?_
  simp (disch := omega) only [x_Ref_one_0, x_Ref_one_1, x_Ref_one_4, x_Ref_one_5, x_Ref_one_6, x_Ref_one_7, x_Ref_one_10, x_Ref_one_13, x_Ref_one_14, x_Ref_one_15, x_Ref_one_18, x_Ref_one_19, x_Ref_one_20, x_Ref_one_23, x_Ref_one_24, x_Ref_one_25, x_Ref_one_26, x_Ref_one_29, x_Ref_one_30, mk_I, mk_J, mk_Q, mk_n, mk_sI, mk_sJ, Option.toList_some, Option.toList_none, List.cons_append, List.nil_append, true_and, and_true, ↓reduceIte, leT, leF, ltT, ltF, eqF, lt0F, le0T, le0F, eq0F, natT, nI_clamp, nI_1, if_true, if_false, not_true_eq_false, not_false_eq_true, z_00, z_10, eq_self, true_or, or_true, or_false, false_or, oc_94, mx_call hlk _, mx_call hnm _, z_10, h4, nI_1, mx_call c3' _]
theorem one_num {n u o i d : Nat} {B : Nat → Nat} {S : List (Nat × Nat)} {I : mx_I} (hn : n ≤ 60) (hB : ∀ j, B j < 256) (hu : u < 2) (ht : TPR n u B I) (hp : PS I i o S) (hi : i ≤ n) (hl : S.length ≤ i) (J : mx_J) (h1 : ¬ (i < n ∧ (pr_name u (B i)).isSome = true)) (h : i < n ∧ pr_digit (B i) = true) (hd : 1 ≤ d) : ∃ I', Fr I I' ∧ PS I' (i + pr_digs n B 4 i) o (S ++ [(0, pr_val B i (pr_digs n B 4 i))]) ∧ mx_Cal mx_tab (d + 1) 162 [.ref 94] (mk I J) (some (.int 1)) (mk I' J) := by
  have hlk := q_look (d := 0) ht hn hp.1 hi J
  have hnm := q_isName (d := 0) ht hu (hB i) J
  rw [if_neg h1] at hnm
  have hdg := q_isDig (d := 0) (n := n) (mk I J) (hB i)
  rw [if_pos h] at hdg
  have hle := pr_digs_le n B 4 i
  have hall := pr_digs_all n B 4 i
  have hend := pr_digs_end n B 4 i
  have hdn : i + pr_digs n B 4 i ≤ n := by
    rcases Nat.eq_zero_or_pos (pr_digs n B 4 i) with z | z
    · omega
    · have := (hall (pr_digs n B 4 i - 1) (by omega)).1
      omega
  have l4 : (4 : Int32) = nI 4 := rfl
  obtain ⟨I2, ⟨q1, q2⟩, hP⟩ := lqx (cl := k_Ref_one) (C := mx_Cal mx_tab d) (pc := 46) (i0 := 0) (n := pr_digs n B 4 i) (fun k (_ : mx_I) => [some (.ref 94), some (.int (lkV n B i)), some (.int (nI (pr_val B i k))), some (.int (nI k))]) (fun I' => mk I' J) (fun k I' => PS I' (i + k) o S ∧ Fr I I') (s0 := I) (Nat.zero_le _) ⟨hp, Fr.refl I⟩ (fun k I' _ hk hQ => by
    obtain ⟨q1, q2⟩ := hQ
    obtain ⟨a1, a2⟩ := hall k hk
    have hlk2 := q_look (d := 0) (ht.fr q2) hn q1.1 (show i + k ≤ n by omega) J
    have hdg2 := q_isDig (d := 0) (n := n) (mk I' J) (hB (i + k))
    rw [if_pos ⟨a1, a2⟩] at hdg2
    rw [lk_t a1 rfl] at hlk2 hdg2
    have hb : 48 ≤ B (i + k) := by
      unfold pr_digit at a2
      simp at a2
      exact a2.1
    have ev : (10 : Int32) * nI (pr_val B i k) + nI (B (i + k)) - 48 = nI (pr_val B i (k + 1)) := by
      show nI 10 * nI (pr_val B i k) + nI (B (i + k)) - nI 48 = _
      rw [pk_mul, nI_add, pk_sub (by omega)]
      show nI (10 * pr_val B i k + B (i + k) - 48) = nI (10 * pr_val B i k + (B (i + k) - 48))
      rw [show 10 * pr_val B i k + B (i + k) - 48 = 10 * pr_val B i k + (B (i + k) - 48) by omega]
    have h4 := q1.1
    refine ⟨mx_ups I' 94 4 (nI (i + k + 1)), ⟨q1.at_ (i + k + 1), q2.trans (Fr.up _ (Or.inl rfl))⟩, fun P ih => ?_⟩
    rw [x_Ref_one_46]
    simp (disch := omega) only [x_Ref_one_47, x_Ref_one_48, x_Ref_one_51, x_Ref_one_52, x_Ref_one_55, x_Ref_one_57, x_Ref_one_59, x_Ref_one_62, x_Ref_one_65, x_Ref_one_67, x_Ref_one_68, x_Ref_one_69, x_Ref_one_70, x_Ref_one_73, x_Ref_one_74, x_Ref_one_76, x_Ref_one_77, x_Ref_one_78, x_Ref_one_79, x_Ref_one_80, x_Ref_one_83, x_Ref_one_84, x_Ref_one_85, x_Ref_one_88, x_Ref_one_91, mk_I, mk_J, mk_Q, mk_n, mk_sI, mk_sJ, Option.toList_some, Option.toList_none, List.cons_append, List.nil_append, true_and, and_true, ↓reduceIte, leT, leF, ltT, ltF, eqF, lt0F, le0T, le0F, eq0F, natT, nI_clamp, nI_1, if_true, if_false, not_true_eq_false, not_false_eq_true, z_00, z_10, eq_self, true_or, or_true, or_false, false_or, oc_94, l4, mx_call hlk2 _, mx_call hdg2 _, z_10, ev, h4, nI_1]
    exact ih)
  obtain ⟨I3, p3, f3, c3⟩ := q_step1 (d := 0) q1 J (by omega) 0 (pr_val B i (pr_digs n B 4 i))
  have c3' : mx_Cal mx_tab (0 + 1) 155 [.ref 94, .int 0, .int (nI (pr_val B i (pr_digs n B 4 i)))] (mk I2 J) none (mk I3 J) := c3
  refine ⟨I3, q2.trans f3, p3, ?_⟩
  refine mx_Cal_in (ls := [some (.ref 94), none, none, none]) tab_162 (by rw [mx_rcv, oc_94]; trivial) (Nat.le_of_ble_eq_true rfl) rfl ?_
  simp (disch := omega) only [x_Ref_one_0, x_Ref_one_1, x_Ref_one_4, x_Ref_one_5, x_Ref_one_6, x_Ref_one_7, x_Ref_one_10, x_Ref_one_31, x_Ref_one_32, x_Ref_one_34, x_Ref_one_36, x_Ref_one_39, x_Ref_one_42, x_Ref_one_43, x_Ref_one_44, x_Ref_one_45, mk_I, mk_J, mk_Q, mk_n, mk_sI, mk_sJ, Option.toList_some, Option.toList_none, List.cons_append, List.nil_append, true_and, and_true, ↓reduceIte, leT, leF, ltT, ltF, eqF, lt0F, le0T, le0F, eq0F, natT, nI_clamp, nI_1, if_true, if_false, not_true_eq_false, not_false_eq_true, z_00, z_10, eq_self, true_or, or_true, or_false, false_or, oc_94, mx_call hlk _, mx_call hnm _, mx_call hdg _, z_10, z_00]
  refine hP _ ?_
  rw [x_Ref_one_46]
  by_cases h4 : pr_digs n B 4 i = 4
  · have e4 : (nI 4 ≤ nI (pr_digs n B 4 i)) = True := leT (by omega) (by omega)
    simp (disch := omega) only [x_Ref_one_47, x_Ref_one_48, x_Ref_one_94, x_Ref_one_95, x_Ref_one_96, x_Ref_one_97, x_Ref_one_100, x_Ref_one_101, mk_I, mk_J, mk_Q, mk_n, mk_sI, mk_sJ, Option.toList_some, Option.toList_none, List.cons_append, List.nil_append, true_and, and_true, ↓reduceIte, leT, leF, ltT, ltF, eqF, lt0F, le0T, le0F, eq0F, natT, nI_clamp, nI_1, if_true, if_false, not_true_eq_false, not_false_eq_true, z_00, z_10, eq_self, true_or, or_true, or_false, false_or, l4, e4, mx_call c3' _, z_10]
  · have e4 : (nI 4 ≤ nI (pr_digs n B 4 i)) = False := leF (by omega) (by omega)
    have hlk2 := q_look (d := 0) (ht.fr q2) hn q1.1 hdn J
    have hdg2 := q_isDig (d := 0) (n := n) (mk I2 J) (hB (i + pr_digs n B 4 i))
    rw [if_neg (hend (by omega))] at hdg2
    simp (disch := omega) only [x_Ref_one_47, x_Ref_one_48, x_Ref_one_51, x_Ref_one_52, x_Ref_one_55, x_Ref_one_57, x_Ref_one_59, x_Ref_one_62, x_Ref_one_94, x_Ref_one_95, x_Ref_one_96, x_Ref_one_97, x_Ref_one_100, x_Ref_one_101, mk_I, mk_J, mk_Q, mk_n, mk_sI, mk_sJ, Option.toList_some, Option.toList_none, List.cons_append, List.nil_append, true_and, and_true, ↓reduceIte, leT, leF, ltT, ltF, eqF, lt0F, le0T, le0F, eq0F, natT, nI_clamp, nI_1, if_true, if_false, not_true_eq_false, not_false_eq_true, z_00, z_10, eq_self, true_or, or_true, or_false, false_or, oc_94, l4, e4, mx_call hlk2 _, mx_call hdg2 _, mx_call c3' _, z_10, z_00]
theorem pg_one {n u : Nat} {B : Nat → Nat} (hn : n ≤ 60) (hB : ∀ j, B j < 256) (hu : u < 2) : ∀ (m o : Nat), o + m = 5 → PG n u B o (6 * m + 2) 162 (pr_O n u B m)
  | 0, o, ho => by
    have : o = 5 := by omega
    subst this
    intro i S I J hi hl ht hp
    have hBi := hB i
    unfold pr_O
    by_cases h1 : i < n ∧ (pr_name u (B i)).isSome = true
    · rw [if_pos h1]
      obtain ⟨I', a1, a2, a3⟩ := one_name (d := 6 * 0 + 2) hn hB hu ht hp hi hl J h1 (by omega)
      refine ⟨fun j S' e => ?_, fun j S' e => (by cases e)⟩
      cases e
      have := ln_snoc S (1, B i)
      exact ⟨I', a1, a2, by omega, by omega, by omega, a3⟩
    rw [if_neg h1]
    by_cases h2 : i < n ∧ pr_digit (B i) = true
    · rw [if_pos h2]
      obtain ⟨I', a1, a2, a3⟩ := one_num (d := 6 * 0 + 2) hn hB hu ht hp hi hl J h1 h2 (by omega)
      refine ⟨fun j S' e => ?_, fun j S' e => (by cases e)⟩
      cases e
      have := ln_snoc S (0, pr_val B i (pr_digs n B 4 i))
      have hpos : 1 ≤ pr_digs n B 4 i := by
        show 1 ≤ (if i < n ∧ pr_digit (B i) = true then pr_digs n B 3 (i + 1) + 1 else 0)
        rw [if_pos h2]; omega
      have hlast := (pr_digs_all n B 4 i (pr_digs n B 4 i - 1) (by omega)).1
      exact ⟨I', a1, a2, by omega, by omega, by omega, a3⟩
    rw [if_neg h2]
    refine ⟨fun j S' e => (by cases e), fun j S' e => ?_⟩
    cases e
    have hlk := q_look (d := 0) ht hn hp.1 hi J
    have hnm := q_isName (d := 0) ht hu (hB i) J
    rw [if_neg h1] at hnm
    have hdg := q_isDig (d := 0) (n := n) (mk I J) (hB i)
    rw [if_neg h2] at hdg
    have hop := q_opens0 (d := 0) hp J
    refine ⟨I, Fr.refl I, hp.1, ?_⟩
    show mx_Cal mx_tab ((6 * 0 + 2) + 1) 162 [.ref 94] (mk I J) (some (.int 0)) (mk I J)
    refine mx_Cal_in (ls := [some (.ref 94), none, none, none]) tab_162 (by rw [mx_rcv, oc_94]; trivial) (Nat.le_of_ble_eq_true rfl) rfl ?_
    by_cases e33 : lkV n B i = 33
    · have e33' : (lkV n B i = 33) = True := eq_true e33
      simp (disch := omega) only [x_Ref_one_0, x_Ref_one_1, x_Ref_one_4, x_Ref_one_5, x_Ref_one_6, x_Ref_one_7, x_Ref_one_10, x_Ref_one_31, x_Ref_one_32, x_Ref_one_34, x_Ref_one_36, x_Ref_one_39, x_Ref_one_102, x_Ref_one_103, x_Ref_one_105, x_Ref_one_108, x_Ref_one_109, x_Ref_one_112, x_Ref_one_115, x_Ref_one_116, x_Ref_one_119, x_Ref_one_122, x_Ref_one_123, x_Ref_one_124, x_Ref_one_125, x_Ref_one_126, x_Ref_one_129, x_Ref_one_130, x_Ref_one_131, x_Ref_one_134, x_Ref_one_135, x_Ref_one_136, x_Ref_one_137, x_Ref_one_140, x_Ref_one_141, x_Ref_one_142, x_Ref_one_143, x_Ref_one_145, x_Ref_one_148, x_Ref_one_149, x_Ref_one_152, x_Ref_one_155, x_Ref_one_156, x_Ref_one_159, x_Ref_one_162, x_Ref_one_163, x_Ref_one_166, x_Ref_one_168, x_Ref_one_171, x_Ref_one_172, x_Ref_one_173, x_Ref_one_174, x_Ref_one_175, x_Ref_one_178, x_Ref_one_179, x_Ref_one_180, x_Ref_one_183, x_Ref_one_184, x_Ref_one_185, x_Ref_one_188, x_Ref_one_189, x_Ref_one_190, x_Ref_one_193, x_Ref_one_194, mk_I, mk_J, mk_Q, mk_n, mk_sI, mk_sJ, Option.toList_some, Option.toList_none, List.cons_append, List.nil_append, true_and, and_true, ↓reduceIte, leT, leF, ltT, ltF, eqF, lt0F, le0T, le0F, eq0F, natT, nI_clamp, nI_1, if_true, if_false, not_true_eq_false, not_false_eq_true, z_00, z_10, eq_self, true_or, or_true, or_false, false_or, oc_94, mx_call hlk _, mx_call hnm _, mx_call hdg _, z_10, z_00, e33', mx_call hop _]
    · have e33' : (lkV n B i = 33) = False := eq_false e33
      by_cases e40 : lkV n B i = 40
      · have e40' : (lkV n B i = 40) = True := eq_true e40
        simp (disch := omega) only [x_Ref_one_0, x_Ref_one_1, x_Ref_one_4, x_Ref_one_5, x_Ref_one_6, x_Ref_one_7, x_Ref_one_10, x_Ref_one_31, x_Ref_one_32, x_Ref_one_34, x_Ref_one_36, x_Ref_one_39, x_Ref_one_102, x_Ref_one_103, x_Ref_one_105, x_Ref_one_108, x_Ref_one_109, x_Ref_one_112, x_Ref_one_115, x_Ref_one_116, x_Ref_one_119, x_Ref_one_122, x_Ref_one_123, x_Ref_one_124, x_Ref_one_125, x_Ref_one_126, x_Ref_one_129, x_Ref_one_130, x_Ref_one_131, x_Ref_one_134, x_Ref_one_135, x_Ref_one_136, x_Ref_one_137, x_Ref_one_140, x_Ref_one_141, x_Ref_one_142, x_Ref_one_143, x_Ref_one_145, x_Ref_one_148, x_Ref_one_149, x_Ref_one_152, x_Ref_one_155, x_Ref_one_156, x_Ref_one_159, x_Ref_one_162, x_Ref_one_163, x_Ref_one_166, x_Ref_one_168, x_Ref_one_171, x_Ref_one_172, x_Ref_one_173, x_Ref_one_174, x_Ref_one_175, x_Ref_one_178, x_Ref_one_179, x_Ref_one_180, x_Ref_one_183, x_Ref_one_184, x_Ref_one_185, x_Ref_one_188, x_Ref_one_189, x_Ref_one_190, x_Ref_one_193, x_Ref_one_194, mk_I, mk_J, mk_Q, mk_n, mk_sI, mk_sJ, Option.toList_some, Option.toList_none, List.cons_append, List.nil_append, true_and, and_true, ↓reduceIte, leT, leF, ltT, ltF, eqF, lt0F, le0T, le0F, eq0F, natT, nI_clamp, nI_1, if_true, if_false, not_true_eq_false, not_false_eq_true, z_00, z_10, eq_self, true_or, or_true, or_false, false_or, oc_94, mx_call hlk _, mx_call hnm _, mx_call hdg _, z_10, z_00, e33', e40', mx_call hop _]
      · have e40' : (lkV n B i = 40) = False := eq_false e40
        simp (disch := omega) only [x_Ref_one_0, x_Ref_one_1, x_Ref_one_4, x_Ref_one_5, x_Ref_one_6, x_Ref_one_7, x_Ref_one_10, x_Ref_one_31, x_Ref_one_32, x_Ref_one_34, x_Ref_one_36, x_Ref_one_39, x_Ref_one_102, x_Ref_one_103, x_Ref_one_105, x_Ref_one_108, x_Ref_one_109, x_Ref_one_112, x_Ref_one_115, x_Ref_one_116, x_Ref_one_119, x_Ref_one_122, x_Ref_one_123, x_Ref_one_124, x_Ref_one_125, x_Ref_one_126, x_Ref_one_129, x_Ref_one_130, x_Ref_one_131, x_Ref_one_134, x_Ref_one_135, x_Ref_one_136, x_Ref_one_137, x_Ref_one_140, x_Ref_one_141, x_Ref_one_142, x_Ref_one_143, x_Ref_one_145, x_Ref_one_148, x_Ref_one_149, x_Ref_one_152, x_Ref_one_155, x_Ref_one_156, x_Ref_one_159, x_Ref_one_162, x_Ref_one_163, x_Ref_one_166, x_Ref_one_168, x_Ref_one_171, x_Ref_one_172, x_Ref_one_173, x_Ref_one_174, x_Ref_one_175, x_Ref_one_178, x_Ref_one_179, x_Ref_one_180, x_Ref_one_183, x_Ref_one_184, x_Ref_one_185, x_Ref_one_188, x_Ref_one_189, x_Ref_one_190, x_Ref_one_193, x_Ref_one_194, mk_I, mk_J, mk_Q, mk_n, mk_sI, mk_sJ, Option.toList_some, Option.toList_none, List.cons_append, List.nil_append, true_and, and_true, ↓reduceIte, leT, leF, ltT, ltF, eqF, lt0F, le0T, le0F, eq0F, natT, nI_clamp, nI_1, if_true, if_false, not_true_eq_false, not_false_eq_true, z_00, z_10, eq_self, true_or, or_true, or_false, false_or, oc_94, mx_call hlk _, mx_call hnm _, mx_call hdg _, z_10, z_00, e33', e40']
  | m + 1, o, ho => by
    intro i S I J hi hl ht hp
    have hBi := hB i
    unfold pr_O
    by_cases h1 : i < n ∧ (pr_name u (B i)).isSome = true
    · rw [if_pos h1]
      obtain ⟨I', a1, a2, a3⟩ := one_name (d := 6 * (m + 1) + 2) hn hB hu ht hp hi hl J h1 (by omega)
      refine ⟨fun j S' e => ?_, fun j S' e => (by cases e)⟩
      cases e
      have := ln_snoc S (1, B i)
      exact ⟨I', a1, a2, by omega, by omega, by omega, a3⟩
    rw [if_neg h1]
    by_cases h2 : i < n ∧ pr_digit (B i) = true
    · rw [if_pos h2]
      obtain ⟨I', a1, a2, a3⟩ := one_num (d := 6 * (m + 1) + 2) hn hB hu ht hp hi hl J h1 h2 (by omega)
      refine ⟨fun j S' e => ?_, fun j S' e => (by cases e)⟩
      cases e
      have := ln_snoc S (0, pr_val B i (pr_digs n B 4 i))
      have hpos : 1 ≤ pr_digs n B 4 i := by
        show 1 ≤ (if i < n ∧ pr_digit (B i) = true then pr_digs n B 3 (i + 1) + 1 else 0)
        rw [if_pos h2]; omega
      have hlast := (pr_digs_all n B 4 i (pr_digs n B 4 i - 1) (by omega)).1
      exact ⟨I', a1, a2, by omega, by omega, by omega, a3⟩
    rw [if_neg h2]
    have hlk := q_look (d := 0) ht hn hp.1 hi J
    have hnm := q_isName (d := 0) ht hu (hB i) J
    rw [if_neg h1] at hnm
    have hdg := q_isDig (d := 0) (n := n) (mk I J) (hB i)
    rw [if_neg h2] at hdg
    have hop := q_opens1 (d := 0) hp (by omega) J
    have fo : Fr I (mx_ups (mx_ups I 94 5 (nI (o + 1))) 94 4 (nI (i + 1))) := (Fr.up _ (Or.inr (Or.inl rfl))).trans (Fr.up _ (Or.inl rfl))
    have po : PS (mx_ups (mx_ups I 94 5 (nI (o + 1))) 94 4 (nI (i + 1))) (i + 1) (o + 1) S := (hp.op_ (o + 1)).at_ (i + 1)
    by_cases h3 : i < n ∧ B i = 33
    · rw [if_pos h3]
      rw [lk_t h3.1 h3.2] at hlk hnm hdg
      obtain ⟨g1, g2⟩ := pg_one hn hB hu m (o + 1) (by omega) (i + 1) S (mx_ups (mx_ups I 94 5 (nI (o + 1))) 94 4 (nI (i + 1))) J (by omega) (by omega) (ht.fr fo) po
      cases hsub : pr_O n u B m (i + 1) S with
      | mk b js =>
        obtain ⟨j, S2⟩ := js
        cases b with
        | true =>
          obtain ⟨I2, f2, p2, j1, j2, j3, c2⟩ := g1 j S2 hsub
          have h5 := p2.2.1
          obtain ⟨I3, p3, f3, c3⟩ := q_step1 (d := 0) (p2.op_ o) J (by omega) 2 0
          have c3' : mx_Cal mx_tab (0 + 1) 155 [.ref 94, .int 2, .int 0] (mk (mx_ups I2 94 5 (nI o)) J) none (mk I3 J) := c3
          simp only
          refine ⟨fun j' S' e => ?_, fun j S' e => (by cases e)⟩
          cases e
          have := ln_snoc S2 (2, 0)
          refine ⟨I3, ((fo.trans f2).trans (Fr.up _ (Or.inr (Or.inl rfl)))).trans f3, p3, by omega, j2, by omega, ?_⟩
          show mx_Cal mx_tab ((6 * (m + 1) + 2) + 1) 162 [.ref 94] (mk I J) (some (.int 1)) (mk I3 J)
          refine mx_Cal_in (ls := [some (.ref 94), none, none, none]) tab_162 (by rw [mx_rcv, oc_94]; trivial) (Nat.le_of_ble_eq_true rfl) rfl ?_
          simp (disch := omega) only [x_Ref_one_0, x_Ref_one_1, x_Ref_one_4, x_Ref_one_5, x_Ref_one_6, x_Ref_one_7, x_Ref_one_10, x_Ref_one_31, x_Ref_one_32, x_Ref_one_34, x_Ref_one_36, x_Ref_one_39, x_Ref_one_102, x_Ref_one_103, x_Ref_one_105, x_Ref_one_108, x_Ref_one_109, x_Ref_one_112, x_Ref_one_115, x_Ref_one_116, x_Ref_one_119, x_Ref_one_122, x_Ref_one_123, x_Ref_one_124, x_Ref_one_125, x_Ref_one_126, x_Ref_one_129, x_Ref_one_130, x_Ref_one_131, x_Ref_one_134, x_Ref_one_135, x_Ref_one_136, x_Ref_one_137, x_Ref_one_140, x_Ref_one_141, mk_I, mk_J, mk_Q, mk_n, mk_sI, mk_sJ, Option.toList_some, Option.toList_none, List.cons_append, List.nil_append, true_and, and_true, ↓reduceIte, leT, leF, ltT, ltF, eqF, lt0F, le0T, le0F, eq0F, natT, nI_clamp, nI_1, if_true, if_false, not_true_eq_false, not_false_eq_true, z_00, z_10, eq_self, true_or, or_true, or_false, false_or, oc_94, mx_call hlk _, mx_call hnm _, mx_call hdg _, z_10, z_00, show (nI 33 = 33) = True from eq_true rfl, mx_call hop _, mx_call c2 _, h5, nI_s1, mx_call c3' _]
        | false =>
          obtain ⟨I2, f2, p2, c2⟩ := g2 j S2 hsub
          simp only
          refine ⟨fun j S' e => (by cases e), fun j' S' e => ?_⟩
          cases e
          refine ⟨I2, fo.trans f2, p2, ?_⟩
          show mx_Cal mx_tab ((6 * (m + 1) + 2) + 1) 162 [.ref 94] (mk I J) (some (.int 0)) (mk I2 J)
          refine mx_Cal_in (ls := [some (.ref 94), none, none, none]) tab_162 (by rw [mx_rcv, oc_94]; trivial) (Nat.le_of_ble_eq_true rfl) rfl ?_
          simp (disch := omega) only [x_Ref_one_0, x_Ref_one_1, x_Ref_one_4, x_Ref_one_5, x_Ref_one_6, x_Ref_one_7, x_Ref_one_10, x_Ref_one_31, x_Ref_one_32, x_Ref_one_34, x_Ref_one_36, x_Ref_one_39, x_Ref_one_102, x_Ref_one_103, x_Ref_one_105, x_Ref_one_108, x_Ref_one_109, x_Ref_one_112, x_Ref_one_115, x_Ref_one_116, x_Ref_one_119, x_Ref_one_122, x_Ref_one_123, x_Ref_one_124, x_Ref_one_125, x_Ref_one_126, x_Ref_one_129, x_Ref_one_130, x_Ref_one_131, x_Ref_one_134, x_Ref_one_135, x_Ref_one_136, x_Ref_one_137, x_Ref_one_140, x_Ref_one_141, mk_I, mk_J, mk_Q, mk_n, mk_sI, mk_sJ, Option.toList_some, Option.toList_none, List.cons_append, List.nil_append, true_and, and_true, ↓reduceIte, leT, leF, ltT, ltF, eqF, lt0F, le0T, le0F, eq0F, natT, nI_clamp, nI_1, if_true, if_false, not_true_eq_false, not_false_eq_true, z_00, z_10, eq_self, true_or, or_true, or_false, false_or, oc_94, mx_call hlk _, mx_call hnm _, mx_call hdg _, z_10, z_00, show (nI 33 = 33) = True from eq_true rfl, mx_call hop _, mx_call c2 _]
    rw [if_neg h3]
    have n33 : (lkV n B i = 33) = False := lk_f (c := 33) hBi (by omega) h3
    by_cases h4 : i < n ∧ B i = 40
    · rw [if_pos h4]
      rw [lk_t h4.1 h4.2] at hlk hnm hdg n33
      have hw := pg_whole hn hB (pg_both hn hB (pg_compared hn hB (pg_sum hn hB (pg_product hn hB (pg_one hn hB hu m (o + 1) (by omega))))))
      obtain ⟨g1, g2⟩ := hw (i + 1) S (mx_ups (mx_ups I 94 5 (nI (o + 1))) 94 4 (nI (i + 1))) J (by omega) (by omega) (ht.fr fo) po
      cases hsub : pr_W n B (pr_O n u B m) (i + 1) S with
      | mk b js =>
        obtain ⟨j, S2⟩ := js
        cases b with
        | true =>
          obtain ⟨I2, f2, p2, j1, j2, j3, c2⟩ := g1 j S2 hsub
          have hlk2 := q_look (d := 0) ((ht.fr fo).fr f2) hn p2.1 j2 J
          have k4 := p2.1
          have k5 := p2.2.1
          by_cases hc : j < n ∧ B j = 41
          · simp only
            rw [if_pos hc]
            rw [lk_t hc.1 hc.2] at hlk2
            refine ⟨fun j' S' e => ?_, fun j S' e => (by cases e)⟩
            cases e
            refine ⟨mx_ups (mx_ups I2 94 4 (nI (j + 1))) 94 5 (nI o), ((fo.trans f2).trans (Fr.up _ (Or.inl rfl))).trans (Fr.up _ (Or.inr (Or.inl rfl))), (p2.at_ (j + 1)).op_ o, by omega, by omega, by omega, ?_⟩
            show mx_Cal mx_tab ((6 * (m + 1) + 2) + 1) 162 [.ref 94] (mk I J) (some (.int 1)) (mk (mx_ups (mx_ups I2 94 4 (nI (j + 1))) 94 5 (nI o)) J)
            refine mx_Cal_in (ls := [some (.ref 94), none, none, none]) tab_162 (by rw [mx_rcv, oc_94]; trivial) (Nat.le_of_ble_eq_true rfl) rfl ?_
            simp (disch := omega) only [x_Ref_one_0, x_Ref_one_1, x_Ref_one_4, x_Ref_one_5, x_Ref_one_6, x_Ref_one_7, x_Ref_one_10, x_Ref_one_31, x_Ref_one_32, x_Ref_one_34, x_Ref_one_36, x_Ref_one_39, x_Ref_one_102, x_Ref_one_103, x_Ref_one_105, x_Ref_one_108, x_Ref_one_109, x_Ref_one_112, x_Ref_one_115, x_Ref_one_116, x_Ref_one_119, x_Ref_one_122, x_Ref_one_123, x_Ref_one_124, x_Ref_one_125, x_Ref_one_126, x_Ref_one_129, x_Ref_one_130, x_Ref_one_131, x_Ref_one_134, x_Ref_one_135, x_Ref_one_136, x_Ref_one_137, x_Ref_one_140, x_Ref_one_141, x_Ref_one_142, x_Ref_one_143, x_Ref_one_145, x_Ref_one_148, x_Ref_one_149, x_Ref_one_152, x_Ref_one_155, x_Ref_one_156, x_Ref_one_159, x_Ref_one_162, x_Ref_one_163, x_Ref_one_166, x_Ref_one_168, x_Ref_one_171, x_Ref_one_172, x_Ref_one_173, x_Ref_one_174, x_Ref_one_175, x_Ref_one_178, x_Ref_one_179, x_Ref_one_180, x_Ref_one_183, x_Ref_one_184, x_Ref_one_185, x_Ref_one_188, x_Ref_one_189, x_Ref_one_190, x_Ref_one_193, x_Ref_one_194, mk_I, mk_J, mk_Q, mk_n, mk_sI, mk_sJ, Option.toList_some, Option.toList_none, List.cons_append, List.nil_append, true_and, and_true, ↓reduceIte, leT, leF, ltT, ltF, eqF, lt0F, le0T, le0F, eq0F, natT, nI_clamp, nI_1, if_true, if_false, not_true_eq_false, not_false_eq_true, z_00, z_10, eq_self, true_or, or_true, or_false, false_or, oc_94, mx_call hlk _, mx_call hnm _, mx_call hdg _, z_10, z_00, n33, show (nI 40 = 40) = True from eq_true rfl, mx_call hop _, mx_call c2 _, mx_call hlk2 _, show (nI 41 = 41) = True from eq_true rfl, k4, k5, nI_1, nI_s1, ups_ne]
          · simp only
            rw [if_neg hc]
            have n41 : (lkV n B j = 41) = False := lk_f (c := 41) (hB j) (by omega) hc
            refine ⟨fun j S' e => (by cases e), fun j' S' e => ?_⟩
            cases e
            refine ⟨I2, fo.trans f2, p2.1, ?_⟩
            show mx_Cal mx_tab ((6 * (m + 1) + 2) + 1) 162 [.ref 94] (mk I J) (some (.int 0)) (mk I2 J)
            refine mx_Cal_in (ls := [some (.ref 94), none, none, none]) tab_162 (by rw [mx_rcv, oc_94]; trivial) (Nat.le_of_ble_eq_true rfl) rfl ?_
            simp (disch := omega) only [x_Ref_one_0, x_Ref_one_1, x_Ref_one_4, x_Ref_one_5, x_Ref_one_6, x_Ref_one_7, x_Ref_one_10, x_Ref_one_31, x_Ref_one_32, x_Ref_one_34, x_Ref_one_36, x_Ref_one_39, x_Ref_one_102, x_Ref_one_103, x_Ref_one_105, x_Ref_one_108, x_Ref_one_109, x_Ref_one_112, x_Ref_one_115, x_Ref_one_116, x_Ref_one_119, x_Ref_one_122, x_Ref_one_123, x_Ref_one_124, x_Ref_one_125, x_Ref_one_126, x_Ref_one_129, x_Ref_one_130, x_Ref_one_131, x_Ref_one_134, x_Ref_one_135, x_Ref_one_136, x_Ref_one_137, x_Ref_one_140, x_Ref_one_141, x_Ref_one_142, x_Ref_one_143, x_Ref_one_145, x_Ref_one_148, x_Ref_one_149, x_Ref_one_152, x_Ref_one_155, x_Ref_one_156, x_Ref_one_159, x_Ref_one_162, x_Ref_one_163, x_Ref_one_166, x_Ref_one_168, x_Ref_one_171, x_Ref_one_172, x_Ref_one_173, x_Ref_one_174, x_Ref_one_175, x_Ref_one_178, x_Ref_one_179, x_Ref_one_180, x_Ref_one_183, x_Ref_one_184, x_Ref_one_185, x_Ref_one_188, x_Ref_one_189, x_Ref_one_190, x_Ref_one_193, x_Ref_one_194, mk_I, mk_J, mk_Q, mk_n, mk_sI, mk_sJ, Option.toList_some, Option.toList_none, List.cons_append, List.nil_append, true_and, and_true, ↓reduceIte, leT, leF, ltT, ltF, eqF, lt0F, le0T, le0F, eq0F, natT, nI_clamp, nI_1, if_true, if_false, not_true_eq_false, not_false_eq_true, z_00, z_10, eq_self, true_or, or_true, or_false, false_or, oc_94, mx_call hlk _, mx_call hnm _, mx_call hdg _, z_10, z_00, n33, show (nI 40 = 40) = True from eq_true rfl, mx_call hop _, mx_call c2 _, mx_call hlk2 _, n41]
        | false =>
          obtain ⟨I2, f2, p2, c2⟩ := g2 j S2 hsub
          simp only
          refine ⟨fun j S' e => (by cases e), fun j' S' e => ?_⟩
          cases e
          refine ⟨I2, fo.trans f2, p2, ?_⟩
          show mx_Cal mx_tab ((6 * (m + 1) + 2) + 1) 162 [.ref 94] (mk I J) (some (.int 0)) (mk I2 J)
          refine mx_Cal_in (ls := [some (.ref 94), none, none, none]) tab_162 (by rw [mx_rcv, oc_94]; trivial) (Nat.le_of_ble_eq_true rfl) rfl ?_
          simp (disch := omega) only [x_Ref_one_0, x_Ref_one_1, x_Ref_one_4, x_Ref_one_5, x_Ref_one_6, x_Ref_one_7, x_Ref_one_10, x_Ref_one_31, x_Ref_one_32, x_Ref_one_34, x_Ref_one_36, x_Ref_one_39, x_Ref_one_102, x_Ref_one_103, x_Ref_one_105, x_Ref_one_108, x_Ref_one_109, x_Ref_one_112, x_Ref_one_115, x_Ref_one_116, x_Ref_one_119, x_Ref_one_122, x_Ref_one_123, x_Ref_one_124, x_Ref_one_125, x_Ref_one_126, x_Ref_one_129, x_Ref_one_130, x_Ref_one_131, x_Ref_one_134, x_Ref_one_135, x_Ref_one_136, x_Ref_one_137, x_Ref_one_140, x_Ref_one_141, x_Ref_one_142, x_Ref_one_143, x_Ref_one_145, x_Ref_one_148, x_Ref_one_149, x_Ref_one_152, x_Ref_one_155, x_Ref_one_156, x_Ref_one_159, x_Ref_one_162, x_Ref_one_163, x_Ref_one_166, x_Ref_one_168, x_Ref_one_171, x_Ref_one_172, x_Ref_one_173, x_Ref_one_174, x_Ref_one_175, x_Ref_one_178, x_Ref_one_179, x_Ref_one_180, x_Ref_one_183, x_Ref_one_184, x_Ref_one_185, x_Ref_one_188, x_Ref_one_189, x_Ref_one_190, x_Ref_one_193, x_Ref_one_194, mk_I, mk_J, mk_Q, mk_n, mk_sI, mk_sJ, Option.toList_some, Option.toList_none, List.cons_append, List.nil_append, true_and, and_true, ↓reduceIte, leT, leF, ltT, ltF, eqF, lt0F, le0T, le0F, eq0F, natT, nI_clamp, nI_1, if_true, if_false, not_true_eq_false, not_false_eq_true, z_00, z_10, eq_self, true_or, or_true, or_false, false_or, oc_94, mx_call hlk _, mx_call hnm _, mx_call hdg _, z_10, z_00, n33, show (nI 40 = 40) = True from eq_true rfl, mx_call hop _, mx_call c2 _]
    rw [if_neg h4]
    have n40 : (lkV n B i = 40) = False := lk_f (c := 40) hBi (by omega) h4
    refine ⟨fun j S' e => (by cases e), fun j S' e => ?_⟩
    cases e
    refine ⟨I, Fr.refl I, hp.1, ?_⟩
    show mx_Cal mx_tab ((6 * (m + 1) + 2) + 1) 162 [.ref 94] (mk I J) (some (.int 0)) (mk I J)
    refine mx_Cal_in (ls := [some (.ref 94), none, none, none]) tab_162 (by rw [mx_rcv, oc_94]; trivial) (Nat.le_of_ble_eq_true rfl) rfl ?_
    simp (disch := omega) only [x_Ref_one_0, x_Ref_one_1, x_Ref_one_4, x_Ref_one_5, x_Ref_one_6, x_Ref_one_7, x_Ref_one_10, x_Ref_one_31, x_Ref_one_32, x_Ref_one_34, x_Ref_one_36, x_Ref_one_39, x_Ref_one_102, x_Ref_one_103, x_Ref_one_105, x_Ref_one_108, x_Ref_one_109, x_Ref_one_112, x_Ref_one_115, x_Ref_one_116, x_Ref_one_119, x_Ref_one_122, x_Ref_one_123, x_Ref_one_124, x_Ref_one_125, x_Ref_one_126, x_Ref_one_129, x_Ref_one_130, x_Ref_one_131, x_Ref_one_134, x_Ref_one_135, x_Ref_one_136, x_Ref_one_137, x_Ref_one_140, x_Ref_one_141, x_Ref_one_142, x_Ref_one_143, x_Ref_one_145, x_Ref_one_148, x_Ref_one_149, x_Ref_one_152, x_Ref_one_155, x_Ref_one_156, x_Ref_one_159, x_Ref_one_162, x_Ref_one_163, x_Ref_one_166, x_Ref_one_168, x_Ref_one_171, x_Ref_one_172, x_Ref_one_173, x_Ref_one_174, x_Ref_one_175, x_Ref_one_178, x_Ref_one_179, x_Ref_one_180, x_Ref_one_183, x_Ref_one_184, x_Ref_one_185, x_Ref_one_188, x_Ref_one_189, x_Ref_one_190, x_Ref_one_193, x_Ref_one_194, mk_I, mk_J, mk_Q, mk_n, mk_sI, mk_sJ, Option.toList_some, Option.toList_none, List.cons_append, List.nil_append, true_and, and_true, ↓reduceIte, leT, leF, ltT, ltF, eqF, lt0F, le0T, le0F, eq0F, natT, nI_clamp, nI_1, if_true, if_false, not_true_eq_false, not_false_eq_true, z_00, z_10, eq_self, true_or, or_true, or_false, false_or, oc_94, mx_call hlk _, mx_call hnm _, mx_call hdg _, z_10, z_00, n33, n40]
theorem pg_text {n u : Nat} {B : Nat → Nat} (hn : n ≤ 60) (hB : ∀ j, B j < 256) (hu : u < 2) : PG n u B 0 37 156 (pr_W n B (pr_O n u B 5)) := pg_whole hn hB (pg_both hn hB (pg_compared hn hB (pg_sum hn hB (pg_product hn hB (pg_one hn hB hu 5 0 rfl)))))
