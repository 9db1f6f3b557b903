/-! voice: the reference; the call -/
section VR
variable {n kk k m : Nat} {K M T F pl : Nat → Nat}
def RE (n kk k m : Nat) (K M T F pl : Nat → Nat) (I : mx_I) (t : Nat) : Prop := RI I n K M T F pl ∧ k < n ∧ K k = kk ∧ M k = m ∧ I 94 17 = nI t ∧ I 94 19 = nI k ∧ I 94 20 = 0
def TrY (I I' : mx_I) (t : Nat) (L : List Int32) : Prop := I' 94 17 = nI (t + L.length) ∧ (∀ j, j < t → I' 105 j = I 105 j) ∧ (∀ j, j < L.length → I' 105 (t + j) = L.getD j 0) ∧ ∀ a j, ¬ (a = 94 ∧ j = 17) → a ≠ 105 → I' a j = I a j
theorem TrY.nil {I : mx_I} {t : Nat} (h : I 94 17 = nI t) : TrY I I t [] := ⟨h, fun _ _ => rfl, fun j hj => absurd hj (Nat.not_lt_zero j), fun _ _ _ _ => rfl⟩
theorem TrY.trans {I I1 I2 : mx_I} {t : Nat} {L1 L2 : List Int32} (h1 : TrY I I1 t L1) (h2 : TrY I1 I2 (t + L1.length) L2) : TrY I I2 t (L1 ++ L2) := by
  obtain ⟨a1, a2, a3, a4⟩ := h1
  obtain ⟨b1, b2, b3, b4⟩ := h2
  refine ⟨by rw [b1, List.length_append, Nat.add_assoc], fun j hj => by rw [b2 j (by omega), a2 j hj], fun j hj => ?_, fun a j g1 g2 => by rw [b4 a j g1 g2, a4 a j g1 g2]⟩
  by_cases h : j < L1.length
  · rw [b2 (t + j) (by omega), a3 j h, getD_appL h]
  · have e := b3 (j - L1.length) (by rw [List.length_append] at hj; omega)
    rw [show t + L1.length + (j - L1.length) = t + j by omega] at e
    rw [e, getD_appR (by omega)]
theorem RE.tr {I I' : mx_I} {t : Nat} {L : List Int32} (h : RE n kk k m K M T F pl I t) (q : TrY I I' t L) : RE n kk k m K M T F pl I' (t + L.length) := by
  obtain ⟨h1, h2, h3, h4, h5, h6, h7⟩ := h
  obtain ⟨a1, a2, a3, a4⟩ := q
  exact ⟨h1.congr (fun j _ => a4 95 j (by omega) (by omega)), h2, h3, h4, a1, (a4 94 19 (by omega) (by omega)).trans h6, (a4 94 20 (by omega) (by omega)).trans h7⟩
theorem TrY.one {I : mx_I} {t : Nat} (b : Int32) : TrY I (mx_ups (mx_ups I 105 t b) 94 17 (nI (t + 1))) t [b] := by
  refine ⟨ups_same _ _ _ _, fun j hj => ?_, fun j hj => ?_, fun a j g1 g2 => ?_⟩
  · simp (disch := omega) only [ups_ne]
  · have : j = 0 := by have h1 : j < 1 := hj; omega
    subst this
    simp (disch := omega) only [ups_ne, ups_same, Nat.add_zero, getD_cons0]
  · simp (disch := omega) only [ups_ne]
theorem q_starts {d t : Nat} (I : mx_I) (J : mx_J) (ht : t < 30) (hs : I 94 17 = nI t) (v : Int32) : mx_Cal mx_tab (d + 1) 216 [.ref 94, .int v] (mk I J) none (mk (mx_ups (mx_ups I 105 t v) 94 17 (nI (t + 1))) J) := by
  have e30 : ((30 : Int32) ≤ nI t) = False := leF (a := 30) ht (by omega)
  refine mx_Cal_in (ls := [some (.ref 94), some (.int v)]) tab_216 (by rw [mx_rcv, oc_94]; trivial) (Nat.le_of_ble_eq_true rfl) rfl ?_
  simp (disch := omega) only [x_Ref_starts_0, x_Ref_starts_1, x_Ref_starts_4, x_Ref_starts_6, x_Ref_starts_9, x_Ref_starts_10, x_Ref_starts_13, x_Ref_starts_14, x_Ref_starts_17, x_Ref_starts_18, x_Ref_starts_19, x_Ref_starts_20, x_Ref_starts_21, x_Ref_starts_24, x_Ref_starts_25, x_Ref_starts_26, x_Ref_starts_29, mk_I, mk_J, mk_Q, mk_n, mk_sI, mk_sJ, Option.toList_some, Option.toList_none, List.cons_append, List.nil_append, true_and, and_true, ↓reduceIte, leT, leF, ltT, ltF, eqF, lt0F, le0T, le0F, eq0F, natT, nI_clamp, nI_1, if_true, if_false, not_true_eq_false, not_false_eq_true, z_00, z_10, eq_self, true_or, or_true, or_false, false_or, oc_94, rt_94_0, rt_94_1, rt_94_3, rt_94_8, rt_94_9, rt_94_10, rt_94_11, rt_94_12, rt_94_15, rt_94_16, rt_94_18, rt_94_21, rt_94_22, rt_94_23, rt_94_24, oa_105, al_105, ia_105, hs, e30, nI_clamp, ups_ne, nI_1]
theorem q_kNow {d t : Nat} {I : mx_I} (hv : RE n kk k m K M T F pl I t) (J : mx_J) : mx_Cal mx_tab (d + 2) 218 [.ref 94] (mk I J) (some (.int (nI kk))) (mk I J) := by
  obtain ⟨h1, h2, h3, h4, h5, h6, h7⟩ := hv
  have hq := q_itsK (d := 0) h1 J h2
  refine mx_Cal_in (ls := [some (.ref 94)]) tab_218 (by rw [mx_rcv, oc_94]; trivial) (Nat.le_of_ble_eq_true rfl) rfl ?_
  simp (disch := omega) only [x_Ref_kindNow_0, x_Ref_kindNow_1, x_Ref_kindNow_2, x_Ref_kindNow_5, x_Ref_kindNow_6, x_Ref_kindNow_9, mk_I, mk_J, mk_Q, mk_n, mk_sI, mk_sJ, Option.toList_some, Option.toList_none, List.cons_append, List.nil_append, true_and, and_true, oc_94, h6, mx_call hq _, h3]
theorem q_mNow {d t : Nat} {I : mx_I} (hv : RE n kk k m K M T F pl I t) (J : mx_J) : mx_Cal mx_tab (d + 2) 219 [.ref 94] (mk I J) (some (.int (nI m))) (mk I J) := by
  obtain ⟨h1, h2, h3, h4, h5, h6, h7⟩ := hv
  have hq := q_itsM (d := 0) h1 J h2
  refine mx_Cal_in (ls := [some (.ref 94)]) tab_219 (by rw [mx_rcv, oc_94]; trivial) (Nat.le_of_ble_eq_true rfl) rfl ?_
  simp (disch := omega) only [x_Ref_mNow_0, x_Ref_mNow_1, x_Ref_mNow_2, x_Ref_mNow_5, x_Ref_mNow_6, x_Ref_mNow_9, mk_I, mk_J, mk_Q, mk_n, mk_sI, mk_sJ, Option.toList_some, Option.toList_none, List.cons_append, List.nil_append, true_and, and_true, oc_94, h6, mx_call hq _, h4]
def CaY (n kk k m : Nat) (K M T F pl : Nat → Nat) (g d : Nat) (fv : Int32) (t : Nat) (L : List Int32) (x val : Int32) : Prop := ∀ (I : mx_I) (J : mx_J), RE n kk k m K M T F pl I t → ∃ I', TrY I I' t L ∧ mx_Cal mx_tab d g [.ref 94, .int fv, .int x] (mk I J) (some (.int val)) (mk I' J)
theorem CaY.mono {g d d' t : Nat} {fv x val : Int32} {L : List Int32} (h : CaY n kk k m K M T F pl g d fv t L x val) (hd : d ≤ d') : CaY n kk k m K M T F pl g d' fv t L x val := fun I J hv => by
  obtain ⟨I', q1, q2⟩ := h I J hv
  exact ⟨I', q1, mx_Cal_mono hd q2⟩
theorem rc1 {d : Nat} (h : mx_H) : mx_Cal mx_tab (d + 1) 217 [.int 1] h (some (.int 0)) h := q_rAbove (a := 1) h (by omega)
theorem rc2 {d : Nat} (h : mx_H) : mx_Cal mx_tab (d + 1) 217 [.int 2] h (some (.int 0)) h := q_rAbove (a := 2) h (by omega)
theorem rc3 {d : Nat} (h : mx_H) : mx_Cal mx_tab (d + 1) 217 [.int 3] h (some (.int 0)) h := q_rAbove (a := 3) h (by omega)
theorem rc4 {d : Nat} (h : mx_H) : mx_Cal mx_tab (d + 1) 217 [.int 4] h (some (.int 1)) h := q_rAbove (a := 4) h (by omega)
theorem rc5 {d : Nat} (h : mx_H) : mx_Cal mx_tab (d + 1) 217 [.int 5] h (some (.int 2)) h := q_rAbove (a := 5) h (by omega)
theorem rc6 {d : Nat} (h : mx_H) : mx_Cal mx_tab (d + 1) 217 [.int 6] h (some (.int 3)) h := q_rAbove (a := 6) h (by omega)
theorem yR0 {d t : Nat} {x : Int32} (hd : 2 ≤ d) (ht : t < 30) : CaY n kk k m K M T F pl 220 (d + 1) 0 t [10] x (x + nI k) := by
  intro I J hv
  have hst := q_starts (d := 0) I J ht hv.2.2.2.2.1 10
  obtain ⟨h1, h2, h3, h4, h5, h6, h7⟩ := hv
  refine ⟨_, TrY.one 10, ?_⟩
  show mx_Cal mx_tab (d + 1) 220 [.ref 94, .int 0, .int x] (mk I J) (some (.int (x + nI k))) (mk (mx_ups (mx_ups I 105 t 10) 94 17 (nI (t + 1))) J)
  refine mx_Cal_in (ls := [some (.ref 94), some (.int 0), some (.int x)]) tab_220 (by rw [mx_rcv, oc_94]; trivial) (Nat.le_of_ble_eq_true rfl) rfl ?_
  simp (decide := true) (disch := omega) only [x_Ref_readsAs_0, x_Ref_readsAs_1, x_Ref_readsAs_44, x_Ref_readsAs_45, x_Ref_readsAs_47, x_Ref_readsAs_50, x_Ref_readsAs_51, x_Ref_readsAs_52, x_Ref_readsAs_55, x_Ref_readsAs_56, x_Ref_readsAs_57, x_Ref_readsAs_58, x_Ref_readsAs_60, x_Ref_readsAs_63, x_Ref_readsAs_64, x_Ref_readsAs_65, x_Ref_readsAs_68, x_Ref_readsAs_69, x_Ref_readsAs_72, x_Ref_readsAs_73, x_Ref_readsAs_74, x_Ref_readsAs_75, x_Ref_readsAs_76, x_Ref_readsAs_78, x_Ref_readsAs_81, x_Ref_readsAs_82, x_Ref_readsAs_83, x_Ref_readsAs_86, x_Ref_readsAs_87, x_Ref_readsAs_90, x_Ref_readsAs_91, x_Ref_readsAs_92, x_Ref_readsAs_93, x_Ref_readsAs_94, x_Ref_readsAs_96, x_Ref_readsAs_99, x_Ref_readsAs_101, x_Ref_readsAs_102, x_Ref_readsAs_103, x_Ref_readsAs_104, x_Ref_readsAs_107, x_Ref_readsAs_108, x_Ref_readsAs_111, mk_I, mk_J, mk_Q, mk_n, mk_sI, mk_sJ, Option.toList_some, Option.toList_none, List.cons_append, List.nil_append, true_and, and_true, oc_94, if_true, if_false, eq_self, mx_call hst _, ups_ne, h6]
theorem yR6 {d t : Nat} {x : Int32} (hd : 2 ≤ d) (ht : t < 30) : CaY n kk k m K M T F pl 220 (d + 1) 6 t [70] x (9) := by
  intro I J hv
  have hst := q_starts (d := 0) I J ht hv.2.2.2.2.1 70
  obtain ⟨h1, h2, h3, h4, h5, h6, h7⟩ := hv
  refine ⟨_, TrY.one 70, ?_⟩
  show mx_Cal mx_tab (d + 1) 220 [.ref 94, .int 6, .int x] (mk I J) (some (.int (9))) (mk (mx_ups (mx_ups I 105 t 70) 94 17 (nI (t + 1))) J)
  refine mx_Cal_in (ls := [some (.ref 94), some (.int 6), some (.int x)]) tab_220 (by rw [mx_rcv, oc_94]; trivial) (Nat.le_of_ble_eq_true rfl) rfl ?_
  simp (decide := true) (disch := omega) only [x_Ref_readsAs_0, x_Ref_readsAs_1, x_Ref_readsAs_44, x_Ref_readsAs_45, x_Ref_readsAs_47, x_Ref_readsAs_50, x_Ref_readsAs_51, x_Ref_readsAs_52, x_Ref_readsAs_55, x_Ref_readsAs_56, x_Ref_readsAs_57, x_Ref_readsAs_58, x_Ref_readsAs_60, x_Ref_readsAs_63, x_Ref_readsAs_64, x_Ref_readsAs_65, x_Ref_readsAs_68, x_Ref_readsAs_69, x_Ref_readsAs_72, x_Ref_readsAs_73, x_Ref_readsAs_74, x_Ref_readsAs_75, x_Ref_readsAs_76, x_Ref_readsAs_78, x_Ref_readsAs_81, x_Ref_readsAs_82, x_Ref_readsAs_83, x_Ref_readsAs_86, x_Ref_readsAs_87, x_Ref_readsAs_90, x_Ref_readsAs_91, x_Ref_readsAs_92, x_Ref_readsAs_93, x_Ref_readsAs_94, x_Ref_readsAs_96, x_Ref_readsAs_99, x_Ref_readsAs_101, x_Ref_readsAs_102, x_Ref_readsAs_103, x_Ref_readsAs_104, x_Ref_readsAs_107, x_Ref_readsAs_108, x_Ref_readsAs_111, mk_I, mk_J, mk_Q, mk_n, mk_sI, mk_sJ, Option.toList_some, Option.toList_none, List.cons_append, List.nil_append, true_and, and_true, oc_94, if_true, if_false, eq_self, mx_call hst _, ups_ne, h6]
theorem yR1 {d t : Nat} {L : List Int32} {x v : Int32} (hd : 2 ≤ d) (ht : t < 30) (h : CaY n kk k m K M T F pl 220 d 0 (t + 1) L (x) v) : CaY n kk k m K M T F pl 220 (d + 1) 1 t (20 :: L) x (v - 4) := by
  intro I J hv
  have hst := q_starts (d := 0) I J ht hv.2.2.2.2.1 20
  have h1 : TrY I (mx_ups (mx_ups I 105 t 20) 94 17 (nI (t + 1))) t [20] := TrY.one 20
  obtain ⟨I', q1, q2⟩ := h _ J (hv.tr h1)
  have hv2 := (hv.tr h1).tr q1
  have hmn := q_mNow (d := 0) hv2 J
  have g6 := hv2.2.2.2.2.2.1
  refine ⟨I', h1.trans q1, ?_⟩
  show mx_Cal mx_tab (d + 1) 220 [.ref 94, .int 1, .int x] (mk I J) (some (.int (v - 4))) (mk I' J)
  refine mx_Cal_in (ls := [some (.ref 94), some (.int 1), some (.int x)]) tab_220 (by rw [mx_rcv, oc_94]; trivial) (Nat.le_of_ble_eq_true rfl) rfl ?_
  simp (decide := true) (disch := omega) only [x_Ref_readsAs_0, x_Ref_readsAs_1, x_Ref_readsAs_44, x_Ref_readsAs_45, x_Ref_readsAs_47, x_Ref_readsAs_50, x_Ref_readsAs_51, x_Ref_readsAs_52, x_Ref_readsAs_55, x_Ref_readsAs_56, x_Ref_readsAs_57, x_Ref_readsAs_58, x_Ref_readsAs_60, x_Ref_readsAs_63, x_Ref_readsAs_64, x_Ref_readsAs_65, x_Ref_readsAs_68, x_Ref_readsAs_69, x_Ref_readsAs_72, x_Ref_readsAs_73, x_Ref_readsAs_74, x_Ref_readsAs_75, x_Ref_readsAs_76, x_Ref_readsAs_78, x_Ref_readsAs_81, x_Ref_readsAs_82, x_Ref_readsAs_83, x_Ref_readsAs_86, x_Ref_readsAs_87, x_Ref_readsAs_90, x_Ref_readsAs_91, x_Ref_readsAs_92, x_Ref_readsAs_93, x_Ref_readsAs_94, x_Ref_readsAs_96, x_Ref_readsAs_99, x_Ref_readsAs_101, x_Ref_readsAs_102, x_Ref_readsAs_103, x_Ref_readsAs_104, x_Ref_readsAs_107, x_Ref_readsAs_108, x_Ref_readsAs_111, mk_I, mk_J, mk_Q, mk_n, mk_sI, mk_sJ, Option.toList_some, Option.toList_none, List.cons_append, List.nil_append, true_and, and_true, oc_94, if_true, if_false, eq_self, not_false_eq_true, mx_call hst _, mx_call (rc1 (d := 0) _) _, mx_call q2 _, mx_call hmn _, g6]
theorem yR4 {d t : Nat} {L : List Int32} {x v : Int32} (hd : 2 ≤ d) (ht : t < 30) (h : CaY n kk k m K M T F pl 220 d 1 (t + 1) L (x) v) : CaY n kk k m K M T F pl 220 (d + 1) 4 t (50 :: L) x (v * 3) := by
  intro I J hv
  have hst := q_starts (d := 0) I J ht hv.2.2.2.2.1 50
  have h1 : TrY I (mx_ups (mx_ups I 105 t 50) 94 17 (nI (t + 1))) t [50] := TrY.one 50
  obtain ⟨I', q1, q2⟩ := h _ J (hv.tr h1)
  have hv2 := (hv.tr h1).tr q1
  have hmn := q_mNow (d := 0) hv2 J
  have g6 := hv2.2.2.2.2.2.1
  refine ⟨I', h1.trans q1, ?_⟩
  show mx_Cal mx_tab (d + 1) 220 [.ref 94, .int 4, .int x] (mk I J) (some (.int (v * 3))) (mk I' J)
  refine mx_Cal_in (ls := [some (.ref 94), some (.int 4), some (.int x)]) tab_220 (by rw [mx_rcv, oc_94]; trivial) (Nat.le_of_ble_eq_true rfl) rfl ?_
  simp (decide := true) (disch := omega) only [x_Ref_readsAs_0, x_Ref_readsAs_1, x_Ref_readsAs_44, x_Ref_readsAs_45, x_Ref_readsAs_47, x_Ref_readsAs_50, x_Ref_readsAs_51, x_Ref_readsAs_52, x_Ref_readsAs_55, x_Ref_readsAs_56, x_Ref_readsAs_57, x_Ref_readsAs_58, x_Ref_readsAs_60, x_Ref_readsAs_63, x_Ref_readsAs_64, x_Ref_readsAs_65, x_Ref_readsAs_68, x_Ref_readsAs_69, x_Ref_readsAs_72, x_Ref_readsAs_73, x_Ref_readsAs_74, x_Ref_readsAs_75, x_Ref_readsAs_76, x_Ref_readsAs_78, x_Ref_readsAs_81, x_Ref_readsAs_82, x_Ref_readsAs_83, x_Ref_readsAs_86, x_Ref_readsAs_87, x_Ref_readsAs_90, x_Ref_readsAs_91, x_Ref_readsAs_92, x_Ref_readsAs_93, x_Ref_readsAs_94, x_Ref_readsAs_96, x_Ref_readsAs_99, x_Ref_readsAs_101, x_Ref_readsAs_102, x_Ref_readsAs_103, x_Ref_readsAs_104, x_Ref_readsAs_107, x_Ref_readsAs_108, x_Ref_readsAs_111, mk_I, mk_J, mk_Q, mk_n, mk_sI, mk_sJ, Option.toList_some, Option.toList_none, List.cons_append, List.nil_append, true_and, and_true, oc_94, if_true, if_false, eq_self, not_false_eq_true, mx_call hst _, mx_call (rc4 (d := 0) _) _, mx_call q2 _, mx_call hmn _, g6]
theorem yR2 {d t : Nat} {L : List Int32} {x v : Int32} (hd : 2 ≤ d) (h : CaY n kk k m K M T F pl 220 d 0 t L x v) : CaY n kk k m K M T F pl 220 (d + 1) 2 t L x v := by
  intro I J hv
  obtain ⟨I', q1, q2⟩ := h I J hv
  refine ⟨I', q1, ?_⟩
  show mx_Cal mx_tab (d + 1) 220 [.ref 94, .int 2, .int x] (mk I J) (some (.int v)) (mk I' J)
  refine mx_Cal_in (ls := [some (.ref 94), some (.int 2), some (.int x)]) tab_220 (by rw [mx_rcv, oc_94]; trivial) (Nat.le_of_ble_eq_true rfl) rfl ?_
  simp (decide := true) (disch := omega) only [x_Ref_readsAs_0, x_Ref_readsAs_1, x_Ref_readsAs_44, x_Ref_readsAs_45, x_Ref_readsAs_47, x_Ref_readsAs_50, x_Ref_readsAs_51, x_Ref_readsAs_52, x_Ref_readsAs_55, x_Ref_readsAs_56, x_Ref_readsAs_57, x_Ref_readsAs_58, x_Ref_readsAs_60, x_Ref_readsAs_63, x_Ref_readsAs_64, x_Ref_readsAs_65, x_Ref_readsAs_68, x_Ref_readsAs_69, x_Ref_readsAs_72, x_Ref_readsAs_73, x_Ref_readsAs_74, x_Ref_readsAs_75, x_Ref_readsAs_76, x_Ref_readsAs_78, x_Ref_readsAs_81, x_Ref_readsAs_82, x_Ref_readsAs_83, x_Ref_readsAs_86, x_Ref_readsAs_87, x_Ref_readsAs_90, x_Ref_readsAs_91, x_Ref_readsAs_92, x_Ref_readsAs_93, x_Ref_readsAs_94, x_Ref_readsAs_96, x_Ref_readsAs_99, x_Ref_readsAs_101, x_Ref_readsAs_102, x_Ref_readsAs_103, x_Ref_readsAs_104, x_Ref_readsAs_107, x_Ref_readsAs_108, x_Ref_readsAs_111, mk_I, mk_J, mk_Q, mk_n, mk_sI, mk_sJ, Option.toList_some, Option.toList_none, List.cons_append, List.nil_append, true_and, and_true, oc_94, if_true, if_false, eq_self, mx_call (rc2 (d := 0) _) _, mx_call q2 _]
theorem yR3 {d t : Nat} {L : List Int32} {x v : Int32} (hd : 2 ≤ d) (h : CaY n kk k m K M T F pl 220 d 0 t L x v) : CaY n kk k m K M T F pl 220 (d + 1) 3 t L x v := by
  intro I J hv
  obtain ⟨I', q1, q2⟩ := h I J hv
  refine ⟨I', q1, ?_⟩
  show mx_Cal mx_tab (d + 1) 220 [.ref 94, .int 3, .int x] (mk I J) (some (.int v)) (mk I' J)
  refine mx_Cal_in (ls := [some (.ref 94), some (.int 3), some (.int x)]) tab_220 (by rw [mx_rcv, oc_94]; trivial) (Nat.le_of_ble_eq_true rfl) rfl ?_
  simp (decide := true) (disch := omega) only [x_Ref_readsAs_0, x_Ref_readsAs_1, x_Ref_readsAs_44, x_Ref_readsAs_45, x_Ref_readsAs_47, x_Ref_readsAs_50, x_Ref_readsAs_51, x_Ref_readsAs_52, x_Ref_readsAs_55, x_Ref_readsAs_56, x_Ref_readsAs_57, x_Ref_readsAs_58, x_Ref_readsAs_60, x_Ref_readsAs_63, x_Ref_readsAs_64, x_Ref_readsAs_65, x_Ref_readsAs_68, x_Ref_readsAs_69, x_Ref_readsAs_72, x_Ref_readsAs_73, x_Ref_readsAs_74, x_Ref_readsAs_75, x_Ref_readsAs_76, x_Ref_readsAs_78, x_Ref_readsAs_81, x_Ref_readsAs_82, x_Ref_readsAs_83, x_Ref_readsAs_86, x_Ref_readsAs_87, x_Ref_readsAs_90, x_Ref_readsAs_91, x_Ref_readsAs_92, x_Ref_readsAs_93, x_Ref_readsAs_94, x_Ref_readsAs_96, x_Ref_readsAs_99, x_Ref_readsAs_101, x_Ref_readsAs_102, x_Ref_readsAs_103, x_Ref_readsAs_104, x_Ref_readsAs_107, x_Ref_readsAs_108, x_Ref_readsAs_111, mk_I, mk_J, mk_Q, mk_n, mk_sI, mk_sJ, Option.toList_some, Option.toList_none, List.cons_append, List.nil_append, true_and, and_true, oc_94, if_true, if_false, eq_self, mx_call (rc3 (d := 0) _) _, mx_call q2 _]
theorem yR5 {d t : Nat} {L : List Int32} {x v : Int32} (hd : 2 ≤ d) (h : CaY n kk k m K M T F pl 220 d 2 t L x v) : CaY n kk k m K M T F pl 220 (d + 1) 5 t L x v := by
  intro I J hv
  obtain ⟨I', q1, q2⟩ := h I J hv
  refine ⟨I', q1, ?_⟩
  show mx_Cal mx_tab (d + 1) 220 [.ref 94, .int 5, .int x] (mk I J) (some (.int v)) (mk I' J)
  refine mx_Cal_in (ls := [some (.ref 94), some (.int 5), some (.int x)]) tab_220 (by rw [mx_rcv, oc_94]; trivial) (Nat.le_of_ble_eq_true rfl) rfl ?_
  simp (decide := true) (disch := omega) only [x_Ref_readsAs_0, x_Ref_readsAs_1, x_Ref_readsAs_44, x_Ref_readsAs_45, x_Ref_readsAs_47, x_Ref_readsAs_50, x_Ref_readsAs_51, x_Ref_readsAs_52, x_Ref_readsAs_55, x_Ref_readsAs_56, x_Ref_readsAs_57, x_Ref_readsAs_58, x_Ref_readsAs_60, x_Ref_readsAs_63, x_Ref_readsAs_64, x_Ref_readsAs_65, x_Ref_readsAs_68, x_Ref_readsAs_69, x_Ref_readsAs_72, x_Ref_readsAs_73, x_Ref_readsAs_74, x_Ref_readsAs_75, x_Ref_readsAs_76, x_Ref_readsAs_78, x_Ref_readsAs_81, x_Ref_readsAs_82, x_Ref_readsAs_83, x_Ref_readsAs_86, x_Ref_readsAs_87, x_Ref_readsAs_90, x_Ref_readsAs_91, x_Ref_readsAs_92, x_Ref_readsAs_93, x_Ref_readsAs_94, x_Ref_readsAs_96, x_Ref_readsAs_99, x_Ref_readsAs_101, x_Ref_readsAs_102, x_Ref_readsAs_103, x_Ref_readsAs_104, x_Ref_readsAs_107, x_Ref_readsAs_108, x_Ref_readsAs_111, mk_I, mk_J, mk_Q, mk_n, mk_sI, mk_sJ, Option.toList_some, Option.toList_none, List.cons_append, List.nil_append, true_and, and_true, oc_94, if_true, if_false, eq_self, mx_call (rc5 (d := 0) _) _, mx_call q2 _]
theorem yA0 {d t : Nat} {L : List Int32} {x v : Int32} (hd : 2 ≤ d) (ht : t < 30) (h : CaY n kk k m K M T F pl 220 d (nI kk) (t + 1) L (x) v) : CaY n kk k m K M T F pl 221 (d + 1) 0 t (11 :: L) x (v * 2) := by
  intro I J hv
  have hst := q_starts (d := 0) I J ht hv.2.2.2.2.1 11
  have h1 : TrY I (mx_ups (mx_ups I 105 t 11) 94 17 (nI (t + 1))) t [11] := TrY.one 11
  obtain ⟨I', q1, q2⟩ := h _ J (hv.tr h1)
  have hv2 := (hv.tr h1).tr q1
  have hmn := q_mNow (d := 0) hv2 J
  have g6 := hv2.2.2.2.2.2.1
  refine ⟨I', h1.trans q1, ?_⟩
  show mx_Cal mx_tab (d + 1) 221 [.ref 94, .int 0, .int x] (mk I J) (some (.int (v * 2))) (mk I' J)
  refine mx_Cal_in (ls := [some (.ref 94), some (.int 0), some (.int x)]) tab_221 (by rw [mx_rcv, oc_94]; trivial) (Nat.le_of_ble_eq_true rfl) rfl ?_
  simp (decide := true) (disch := omega) only [x_Ref_adlibsAs_0, x_Ref_adlibsAs_1, x_Ref_adlibsAs_44, x_Ref_adlibsAs_45, x_Ref_adlibsAs_47, x_Ref_adlibsAs_50, x_Ref_adlibsAs_51, x_Ref_adlibsAs_52, x_Ref_adlibsAs_55, x_Ref_adlibsAs_56, x_Ref_adlibsAs_59, x_Ref_adlibsAs_60, x_Ref_adlibsAs_61, x_Ref_adlibsAs_62, x_Ref_adlibsAs_63, x_Ref_adlibsAs_65, x_Ref_adlibsAs_68, x_Ref_adlibsAs_69, x_Ref_adlibsAs_70, x_Ref_adlibsAs_71, x_Ref_adlibsAs_74, x_Ref_adlibsAs_75, x_Ref_adlibsAs_78, x_Ref_adlibsAs_79, x_Ref_adlibsAs_80, x_Ref_adlibsAs_81, x_Ref_adlibsAs_83, x_Ref_adlibsAs_86, x_Ref_adlibsAs_87, x_Ref_adlibsAs_88, x_Ref_adlibsAs_91, x_Ref_adlibsAs_92, x_Ref_adlibsAs_93, x_Ref_adlibsAs_94, x_Ref_adlibsAs_97, x_Ref_adlibsAs_98, x_Ref_adlibsAs_99, x_Ref_adlibsAs_101, x_Ref_adlibsAs_104, x_Ref_adlibsAs_105, x_Ref_adlibsAs_107, x_Ref_adlibsAs_110, x_Ref_adlibsAs_111, x_Ref_adlibsAs_114, x_Ref_adlibsAs_115, x_Ref_adlibsAs_118, x_Ref_adlibsAs_119, x_Ref_adlibsAs_120, x_Ref_adlibsAs_121, x_Ref_adlibsAs_122, x_Ref_adlibsAs_125, x_Ref_adlibsAs_126, x_Ref_adlibsAs_129, mk_I, mk_J, mk_Q, mk_n, mk_sI, mk_sJ, Option.toList_some, Option.toList_none, List.cons_append, List.nil_append, true_and, and_true, oc_94, if_true, if_false, eq_self, not_false_eq_true, mx_call hst _, mx_call (q_kNow (d := 0) (hv.tr h1) J) _, mx_call q2 _, mx_call hmn _, g6]
theorem yA2 {d t : Nat} {L : List Int32} {x v : Int32} (hd : 2 ≤ d) (ht : t < 30) (h : CaY n kk k m K M T F pl 221 d 0 (t + 1) L (x) v) : CaY n kk k m K M T F pl 221 (d + 1) 2 t (30 :: L) x (0 - v) := by
  intro I J hv
  have hst := q_starts (d := 0) I J ht hv.2.2.2.2.1 30
  have h1 : TrY I (mx_ups (mx_ups I 105 t 30) 94 17 (nI (t + 1))) t [30] := TrY.one 30
  obtain ⟨I', q1, q2⟩ := h _ J (hv.tr h1)
  have hv2 := (hv.tr h1).tr q1
  have hmn := q_mNow (d := 0) hv2 J
  have g6 := hv2.2.2.2.2.2.1
  refine ⟨I', h1.trans q1, ?_⟩
  show mx_Cal mx_tab (d + 1) 221 [.ref 94, .int 2, .int x] (mk I J) (some (.int (0 - v))) (mk I' J)
  refine mx_Cal_in (ls := [some (.ref 94), some (.int 2), some (.int x)]) tab_221 (by rw [mx_rcv, oc_94]; trivial) (Nat.le_of_ble_eq_true rfl) rfl ?_
  simp (decide := true) (disch := omega) only [x_Ref_adlibsAs_0, x_Ref_adlibsAs_1, x_Ref_adlibsAs_44, x_Ref_adlibsAs_45, x_Ref_adlibsAs_47, x_Ref_adlibsAs_50, x_Ref_adlibsAs_51, x_Ref_adlibsAs_52, x_Ref_adlibsAs_55, x_Ref_adlibsAs_56, x_Ref_adlibsAs_59, x_Ref_adlibsAs_60, x_Ref_adlibsAs_61, x_Ref_adlibsAs_62, x_Ref_adlibsAs_63, x_Ref_adlibsAs_65, x_Ref_adlibsAs_68, x_Ref_adlibsAs_69, x_Ref_adlibsAs_70, x_Ref_adlibsAs_71, x_Ref_adlibsAs_74, x_Ref_adlibsAs_75, x_Ref_adlibsAs_78, x_Ref_adlibsAs_79, x_Ref_adlibsAs_80, x_Ref_adlibsAs_81, x_Ref_adlibsAs_83, x_Ref_adlibsAs_86, x_Ref_adlibsAs_87, x_Ref_adlibsAs_88, x_Ref_adlibsAs_91, x_Ref_adlibsAs_92, x_Ref_adlibsAs_93, x_Ref_adlibsAs_94, x_Ref_adlibsAs_97, x_Ref_adlibsAs_98, x_Ref_adlibsAs_99, x_Ref_adlibsAs_101, x_Ref_adlibsAs_104, x_Ref_adlibsAs_105, x_Ref_adlibsAs_107, x_Ref_adlibsAs_110, x_Ref_adlibsAs_111, x_Ref_adlibsAs_114, x_Ref_adlibsAs_115, x_Ref_adlibsAs_118, x_Ref_adlibsAs_119, x_Ref_adlibsAs_120, x_Ref_adlibsAs_121, x_Ref_adlibsAs_122, x_Ref_adlibsAs_125, x_Ref_adlibsAs_126, x_Ref_adlibsAs_129, mk_I, mk_J, mk_Q, mk_n, mk_sI, mk_sJ, Option.toList_some, Option.toList_none, List.cons_append, List.nil_append, true_and, and_true, oc_94, if_true, if_false, eq_self, not_false_eq_true, mx_call hst _, mx_call (rc2 (d := 0) _) _, mx_call q2 _, mx_call hmn _, g6]
theorem yA5 {d t : Nat} {L : List Int32} {x v : Int32} (hd : 2 ≤ d) (ht : t < 30) (h : CaY n kk k m K M T F pl 221 d 2 (t + 1) L (x + 1) v) : CaY n kk k m K M T F pl 221 (d + 1) 5 t (60 :: L) x (v) := by
  intro I J hv
  have hst := q_starts (d := 0) I J ht hv.2.2.2.2.1 60
  have h1 : TrY I (mx_ups (mx_ups I 105 t 60) 94 17 (nI (t + 1))) t [60] := TrY.one 60
  obtain ⟨I', q1, q2⟩ := h _ J (hv.tr h1)
  have hv2 := (hv.tr h1).tr q1
  have hmn := q_mNow (d := 0) hv2 J
  have g6 := hv2.2.2.2.2.2.1
  refine ⟨I', h1.trans q1, ?_⟩
  show mx_Cal mx_tab (d + 1) 221 [.ref 94, .int 5, .int x] (mk I J) (some (.int (v))) (mk I' J)
  refine mx_Cal_in (ls := [some (.ref 94), some (.int 5), some (.int x)]) tab_221 (by rw [mx_rcv, oc_94]; trivial) (Nat.le_of_ble_eq_true rfl) rfl ?_
  simp (decide := true) (disch := omega) only [x_Ref_adlibsAs_0, x_Ref_adlibsAs_1, x_Ref_adlibsAs_44, x_Ref_adlibsAs_45, x_Ref_adlibsAs_47, x_Ref_adlibsAs_50, x_Ref_adlibsAs_51, x_Ref_adlibsAs_52, x_Ref_adlibsAs_55, x_Ref_adlibsAs_56, x_Ref_adlibsAs_59, x_Ref_adlibsAs_60, x_Ref_adlibsAs_61, x_Ref_adlibsAs_62, x_Ref_adlibsAs_63, x_Ref_adlibsAs_65, x_Ref_adlibsAs_68, x_Ref_adlibsAs_69, x_Ref_adlibsAs_70, x_Ref_adlibsAs_71, x_Ref_adlibsAs_74, x_Ref_adlibsAs_75, x_Ref_adlibsAs_78, x_Ref_adlibsAs_79, x_Ref_adlibsAs_80, x_Ref_adlibsAs_81, x_Ref_adlibsAs_83, x_Ref_adlibsAs_86, x_Ref_adlibsAs_87, x_Ref_adlibsAs_88, x_Ref_adlibsAs_91, x_Ref_adlibsAs_92, x_Ref_adlibsAs_93, x_Ref_adlibsAs_94, x_Ref_adlibsAs_97, x_Ref_adlibsAs_98, x_Ref_adlibsAs_99, x_Ref_adlibsAs_101, x_Ref_adlibsAs_104, x_Ref_adlibsAs_105, x_Ref_adlibsAs_107, x_Ref_adlibsAs_110, x_Ref_adlibsAs_111, x_Ref_adlibsAs_114, x_Ref_adlibsAs_115, x_Ref_adlibsAs_118, x_Ref_adlibsAs_119, x_Ref_adlibsAs_120, x_Ref_adlibsAs_121, x_Ref_adlibsAs_122, x_Ref_adlibsAs_125, x_Ref_adlibsAs_126, x_Ref_adlibsAs_129, mk_I, mk_J, mk_Q, mk_n, mk_sI, mk_sJ, Option.toList_some, Option.toList_none, List.cons_append, List.nil_append, true_and, and_true, oc_94, if_true, if_false, eq_self, not_false_eq_true, mx_call hst _, mx_call (rc5 (d := 0) _) _, mx_call q2 _, mx_call hmn _, g6]
theorem yA6 {d t : Nat} {L : List Int32} {x v : Int32} (hd : 2 ≤ d) (ht : t < 30) (h : CaY n kk k m K M T F pl 221 d 3 (t + 1) L (x) v) : CaY n kk k m K M T F pl 221 (d + 1) 6 t (71 :: L) x (v + nI m) := by
  intro I J hv
  have hst := q_starts (d := 0) I J ht hv.2.2.2.2.1 71
  have h1 : TrY I (mx_ups (mx_ups I 105 t 71) 94 17 (nI (t + 1))) t [71] := TrY.one 71
  obtain ⟨I', q1, q2⟩ := h _ J (hv.tr h1)
  have hv2 := (hv.tr h1).tr q1
  have hmn := q_mNow (d := 0) hv2 J
  have g6 := hv2.2.2.2.2.2.1
  refine ⟨I', h1.trans q1, ?_⟩
  show mx_Cal mx_tab (d + 1) 221 [.ref 94, .int 6, .int x] (mk I J) (some (.int (v + nI m))) (mk I' J)
  refine mx_Cal_in (ls := [some (.ref 94), some (.int 6), some (.int x)]) tab_221 (by rw [mx_rcv, oc_94]; trivial) (Nat.le_of_ble_eq_true rfl) rfl ?_
  simp (decide := true) (disch := omega) only [x_Ref_adlibsAs_0, x_Ref_adlibsAs_1, x_Ref_adlibsAs_44, x_Ref_adlibsAs_45, x_Ref_adlibsAs_47, x_Ref_adlibsAs_50, x_Ref_adlibsAs_51, x_Ref_adlibsAs_52, x_Ref_adlibsAs_55, x_Ref_adlibsAs_56, x_Ref_adlibsAs_59, x_Ref_adlibsAs_60, x_Ref_adlibsAs_61, x_Ref_adlibsAs_62, x_Ref_adlibsAs_63, x_Ref_adlibsAs_65, x_Ref_adlibsAs_68, x_Ref_adlibsAs_69, x_Ref_adlibsAs_70, x_Ref_adlibsAs_71, x_Ref_adlibsAs_74, x_Ref_adlibsAs_75, x_Ref_adlibsAs_78, x_Ref_adlibsAs_79, x_Ref_adlibsAs_80, x_Ref_adlibsAs_81, x_Ref_adlibsAs_83, x_Ref_adlibsAs_86, x_Ref_adlibsAs_87, x_Ref_adlibsAs_88, x_Ref_adlibsAs_91, x_Ref_adlibsAs_92, x_Ref_adlibsAs_93, x_Ref_adlibsAs_94, x_Ref_adlibsAs_97, x_Ref_adlibsAs_98, x_Ref_adlibsAs_99, x_Ref_adlibsAs_101, x_Ref_adlibsAs_104, x_Ref_adlibsAs_105, x_Ref_adlibsAs_107, x_Ref_adlibsAs_110, x_Ref_adlibsAs_111, x_Ref_adlibsAs_114, x_Ref_adlibsAs_115, x_Ref_adlibsAs_118, x_Ref_adlibsAs_119, x_Ref_adlibsAs_120, x_Ref_adlibsAs_121, x_Ref_adlibsAs_122, x_Ref_adlibsAs_125, x_Ref_adlibsAs_126, x_Ref_adlibsAs_129, mk_I, mk_J, mk_Q, mk_n, mk_sI, mk_sJ, Option.toList_some, Option.toList_none, List.cons_append, List.nil_append, true_and, and_true, oc_94, if_true, if_false, eq_self, not_false_eq_true, mx_call hst _, mx_call (rc6 (d := 0) _) _, mx_call q2 _, mx_call hmn _, g6]
theorem yA1 {d t : Nat} {L : List Int32} {x v : Int32} (hd : 2 ≤ d) (h : CaY n kk k m K M T F pl 221 d 0 t L x v) : CaY n kk k m K M T F pl 221 (d + 1) 1 t L x v := by
  intro I J hv
  obtain ⟨I', q1, q2⟩ := h I J hv
  refine ⟨I', q1, ?_⟩
  show mx_Cal mx_tab (d + 1) 221 [.ref 94, .int 1, .int x] (mk I J) (some (.int v)) (mk I' J)
  refine mx_Cal_in (ls := [some (.ref 94), some (.int 1), some (.int x)]) tab_221 (by rw [mx_rcv, oc_94]; trivial) (Nat.le_of_ble_eq_true rfl) rfl ?_
  simp (decide := true) (disch := omega) only [x_Ref_adlibsAs_0, x_Ref_adlibsAs_1, x_Ref_adlibsAs_44, x_Ref_adlibsAs_45, x_Ref_adlibsAs_47, x_Ref_adlibsAs_50, x_Ref_adlibsAs_51, x_Ref_adlibsAs_52, x_Ref_adlibsAs_55, x_Ref_adlibsAs_56, x_Ref_adlibsAs_59, x_Ref_adlibsAs_60, x_Ref_adlibsAs_61, x_Ref_adlibsAs_62, x_Ref_adlibsAs_63, x_Ref_adlibsAs_65, x_Ref_adlibsAs_68, x_Ref_adlibsAs_69, x_Ref_adlibsAs_70, x_Ref_adlibsAs_71, x_Ref_adlibsAs_74, x_Ref_adlibsAs_75, x_Ref_adlibsAs_78, x_Ref_adlibsAs_79, x_Ref_adlibsAs_80, x_Ref_adlibsAs_81, x_Ref_adlibsAs_83, x_Ref_adlibsAs_86, x_Ref_adlibsAs_87, x_Ref_adlibsAs_88, x_Ref_adlibsAs_91, x_Ref_adlibsAs_92, x_Ref_adlibsAs_93, x_Ref_adlibsAs_94, x_Ref_adlibsAs_97, x_Ref_adlibsAs_98, x_Ref_adlibsAs_99, x_Ref_adlibsAs_101, x_Ref_adlibsAs_104, x_Ref_adlibsAs_105, x_Ref_adlibsAs_107, x_Ref_adlibsAs_110, x_Ref_adlibsAs_111, x_Ref_adlibsAs_114, x_Ref_adlibsAs_115, x_Ref_adlibsAs_118, x_Ref_adlibsAs_119, x_Ref_adlibsAs_120, x_Ref_adlibsAs_121, x_Ref_adlibsAs_122, x_Ref_adlibsAs_125, x_Ref_adlibsAs_126, x_Ref_adlibsAs_129, mk_I, mk_J, mk_Q, mk_n, mk_sI, mk_sJ, Option.toList_some, Option.toList_none, List.cons_append, List.nil_append, true_and, and_true, oc_94, if_true, if_false, eq_self, mx_call (rc1 (d := 0) _) _, mx_call q2 _]
theorem yA3 {d t : Nat} {L : List Int32} {x v : Int32} (hd : 2 ≤ d) (h : CaY n kk k m K M T F pl 221 d 0 t L x v) : CaY n kk k m K M T F pl 221 (d + 1) 3 t L x v := by
  intro I J hv
  obtain ⟨I', q1, q2⟩ := h I J hv
  refine ⟨I', q1, ?_⟩
  show mx_Cal mx_tab (d + 1) 221 [.ref 94, .int 3, .int x] (mk I J) (some (.int v)) (mk I' J)
  refine mx_Cal_in (ls := [some (.ref 94), some (.int 3), some (.int x)]) tab_221 (by rw [mx_rcv, oc_94]; trivial) (Nat.le_of_ble_eq_true rfl) rfl ?_
  simp (decide := true) (disch := omega) only [x_Ref_adlibsAs_0, x_Ref_adlibsAs_1, x_Ref_adlibsAs_44, x_Ref_adlibsAs_45, x_Ref_adlibsAs_47, x_Ref_adlibsAs_50, x_Ref_adlibsAs_51, x_Ref_adlibsAs_52, x_Ref_adlibsAs_55, x_Ref_adlibsAs_56, x_Ref_adlibsAs_59, x_Ref_adlibsAs_60, x_Ref_adlibsAs_61, x_Ref_adlibsAs_62, x_Ref_adlibsAs_63, x_Ref_adlibsAs_65, x_Ref_adlibsAs_68, x_Ref_adlibsAs_69, x_Ref_adlibsAs_70, x_Ref_adlibsAs_71, x_Ref_adlibsAs_74, x_Ref_adlibsAs_75, x_Ref_adlibsAs_78, x_Ref_adlibsAs_79, x_Ref_adlibsAs_80, x_Ref_adlibsAs_81, x_Ref_adlibsAs_83, x_Ref_adlibsAs_86, x_Ref_adlibsAs_87, x_Ref_adlibsAs_88, x_Ref_adlibsAs_91, x_Ref_adlibsAs_92, x_Ref_adlibsAs_93, x_Ref_adlibsAs_94, x_Ref_adlibsAs_97, x_Ref_adlibsAs_98, x_Ref_adlibsAs_99, x_Ref_adlibsAs_101, x_Ref_adlibsAs_104, x_Ref_adlibsAs_105, x_Ref_adlibsAs_107, x_Ref_adlibsAs_110, x_Ref_adlibsAs_111, x_Ref_adlibsAs_114, x_Ref_adlibsAs_115, x_Ref_adlibsAs_118, x_Ref_adlibsAs_119, x_Ref_adlibsAs_120, x_Ref_adlibsAs_121, x_Ref_adlibsAs_122, x_Ref_adlibsAs_125, x_Ref_adlibsAs_126, x_Ref_adlibsAs_129, mk_I, mk_J, mk_Q, mk_n, mk_sI, mk_sJ, Option.toList_some, Option.toList_none, List.cons_append, List.nil_append, true_and, and_true, oc_94, if_true, if_false, eq_self, mx_call (rc3 (d := 0) _) _, mx_call q2 _]
theorem yA4 {d t : Nat} {L : List Int32} {x v : Int32} (hd : 2 ≤ d) (h : CaY n kk k m K M T F pl 221 d 1 t L x v) : CaY n kk k m K M T F pl 221 (d + 1) 4 t L x v := by
  intro I J hv
  obtain ⟨I', q1, q2⟩ := h I J hv
  refine ⟨I', q1, ?_⟩
  show mx_Cal mx_tab (d + 1) 221 [.ref 94, .int 4, .int x] (mk I J) (some (.int v)) (mk I' J)
  refine mx_Cal_in (ls := [some (.ref 94), some (.int 4), some (.int x)]) tab_221 (by rw [mx_rcv, oc_94]; trivial) (Nat.le_of_ble_eq_true rfl) rfl ?_
  simp (decide := true) (disch := omega) only [x_Ref_adlibsAs_0, x_Ref_adlibsAs_1, x_Ref_adlibsAs_44, x_Ref_adlibsAs_45, x_Ref_adlibsAs_47, x_Ref_adlibsAs_50, x_Ref_adlibsAs_51, x_Ref_adlibsAs_52, x_Ref_adlibsAs_55, x_Ref_adlibsAs_56, x_Ref_adlibsAs_59, x_Ref_adlibsAs_60, x_Ref_adlibsAs_61, x_Ref_adlibsAs_62, x_Ref_adlibsAs_63, x_Ref_adlibsAs_65, x_Ref_adlibsAs_68, x_Ref_adlibsAs_69, x_Ref_adlibsAs_70, x_Ref_adlibsAs_71, x_Ref_adlibsAs_74, x_Ref_adlibsAs_75, x_Ref_adlibsAs_78, x_Ref_adlibsAs_79, x_Ref_adlibsAs_80, x_Ref_adlibsAs_81, x_Ref_adlibsAs_83, x_Ref_adlibsAs_86, x_Ref_adlibsAs_87, x_Ref_adlibsAs_88, x_Ref_adlibsAs_91, x_Ref_adlibsAs_92, x_Ref_adlibsAs_93, x_Ref_adlibsAs_94, x_Ref_adlibsAs_97, x_Ref_adlibsAs_98, x_Ref_adlibsAs_99, x_Ref_adlibsAs_101, x_Ref_adlibsAs_104, x_Ref_adlibsAs_105, x_Ref_adlibsAs_107, x_Ref_adlibsAs_110, x_Ref_adlibsAs_111, x_Ref_adlibsAs_114, x_Ref_adlibsAs_115, x_Ref_adlibsAs_118, x_Ref_adlibsAs_119, x_Ref_adlibsAs_120, x_Ref_adlibsAs_121, x_Ref_adlibsAs_122, x_Ref_adlibsAs_125, x_Ref_adlibsAs_126, x_Ref_adlibsAs_129, mk_I, mk_J, mk_Q, mk_n, mk_sI, mk_sJ, Option.toList_some, Option.toList_none, List.cons_append, List.nil_append, true_and, and_true, oc_94, if_true, if_false, eq_self, mx_call (rc4 (d := 0) _) _, mx_call q2 _]
theorem yW0 {d t : Nat} {L : List Int32} {x v : Int32} (hd : 2 ≤ d) (ht : t < 30) (h : CaY n kk k m K M T F pl 221 d (nI kk) (t + 1) L (x) v) : CaY n kk k m K M T F pl 222 (d + 1) 0 t (12 :: L) x (v - nI m) := by
  intro I J hv
  have hst := q_starts (d := 0) I J ht hv.2.2.2.2.1 12
  have h1 : TrY I (mx_ups (mx_ups I 105 t 12) 94 17 (nI (t + 1))) t [12] := TrY.one 12
  obtain ⟨I', q1, q2⟩ := h _ J (hv.tr h1)
  have hv2 := (hv.tr h1).tr q1
  have hmn := q_mNow (d := 0) hv2 J
  have g6 := hv2.2.2.2.2.2.1
  refine ⟨I', h1.trans q1, ?_⟩
  show mx_Cal mx_tab (d + 1) 222 [.ref 94, .int 0, .int x] (mk I J) (some (.int (v - nI m))) (mk I' J)
  refine mx_Cal_in (ls := [some (.ref 94), some (.int 0), some (.int x)]) tab_222 (by rw [mx_rcv, oc_94]; trivial) (Nat.le_of_ble_eq_true rfl) rfl ?_
  simp (decide := true) (disch := omega) only [x_Ref_windsAs_0, x_Ref_windsAs_1, x_Ref_windsAs_36, x_Ref_windsAs_37, x_Ref_windsAs_39, x_Ref_windsAs_42, x_Ref_windsAs_43, x_Ref_windsAs_44, x_Ref_windsAs_47, x_Ref_windsAs_48, x_Ref_windsAs_51, x_Ref_windsAs_52, x_Ref_windsAs_55, x_Ref_windsAs_56, x_Ref_windsAs_57, x_Ref_windsAs_58, x_Ref_windsAs_60, x_Ref_windsAs_63, x_Ref_windsAs_64, x_Ref_windsAs_65, x_Ref_windsAs_68, x_Ref_windsAs_69, x_Ref_windsAs_70, x_Ref_windsAs_71, x_Ref_windsAs_74, x_Ref_windsAs_75, x_Ref_windsAs_76, x_Ref_windsAs_78, x_Ref_windsAs_81, x_Ref_windsAs_82, x_Ref_windsAs_83, x_Ref_windsAs_86, x_Ref_windsAs_87, x_Ref_windsAs_90, x_Ref_windsAs_91, x_Ref_windsAs_94, x_Ref_windsAs_95, x_Ref_windsAs_96, x_Ref_windsAs_97, x_Ref_windsAs_98, x_Ref_windsAs_101, x_Ref_windsAs_102, x_Ref_windsAs_105, mk_I, mk_J, mk_Q, mk_n, mk_sI, mk_sJ, Option.toList_some, Option.toList_none, List.cons_append, List.nil_append, true_and, and_true, oc_94, if_true, if_false, eq_self, not_false_eq_true, mx_call hst _, mx_call (q_kNow (d := 0) (hv.tr h1) J) _, mx_call q2 _, mx_call hmn _, g6]
theorem yW3 {d t : Nat} {L : List Int32} {x v : Int32} (hd : 2 ≤ d) (ht : t < 30) (h : CaY n kk k m K M T F pl 222 d 0 (t + 1) L (x / 2) v) : CaY n kk k m K M T F pl 222 (d + 1) 3 t (40 :: L) x (v) := by
  intro I J hv
  have hst := q_starts (d := 0) I J ht hv.2.2.2.2.1 40
  have h1 : TrY I (mx_ups (mx_ups I 105 t 40) 94 17 (nI (t + 1))) t [40] := TrY.one 40
  obtain ⟨I', q1, q2⟩ := h _ J (hv.tr h1)
  have hv2 := (hv.tr h1).tr q1
  have hmn := q_mNow (d := 0) hv2 J
  have g6 := hv2.2.2.2.2.2.1
  refine ⟨I', h1.trans q1, ?_⟩
  show mx_Cal mx_tab (d + 1) 222 [.ref 94, .int 3, .int x] (mk I J) (some (.int (v))) (mk I' J)
  refine mx_Cal_in (ls := [some (.ref 94), some (.int 3), some (.int x)]) tab_222 (by rw [mx_rcv, oc_94]; trivial) (Nat.le_of_ble_eq_true rfl) rfl ?_
  simp (decide := true) (disch := omega) only [x_Ref_windsAs_0, x_Ref_windsAs_1, x_Ref_windsAs_36, x_Ref_windsAs_37, x_Ref_windsAs_39, x_Ref_windsAs_42, x_Ref_windsAs_43, x_Ref_windsAs_44, x_Ref_windsAs_47, x_Ref_windsAs_48, x_Ref_windsAs_51, x_Ref_windsAs_52, x_Ref_windsAs_55, x_Ref_windsAs_56, x_Ref_windsAs_57, x_Ref_windsAs_58, x_Ref_windsAs_60, x_Ref_windsAs_63, x_Ref_windsAs_64, x_Ref_windsAs_65, x_Ref_windsAs_68, x_Ref_windsAs_69, x_Ref_windsAs_70, x_Ref_windsAs_71, x_Ref_windsAs_74, x_Ref_windsAs_75, x_Ref_windsAs_76, x_Ref_windsAs_78, x_Ref_windsAs_81, x_Ref_windsAs_82, x_Ref_windsAs_83, x_Ref_windsAs_86, x_Ref_windsAs_87, x_Ref_windsAs_90, x_Ref_windsAs_91, x_Ref_windsAs_94, x_Ref_windsAs_95, x_Ref_windsAs_96, x_Ref_windsAs_97, x_Ref_windsAs_98, x_Ref_windsAs_101, x_Ref_windsAs_102, x_Ref_windsAs_105, mk_I, mk_J, mk_Q, mk_n, mk_sI, mk_sJ, Option.toList_some, Option.toList_none, List.cons_append, List.nil_append, true_and, and_true, oc_94, if_true, if_false, eq_self, not_false_eq_true, mx_call hst _, mx_call (rc3 (d := 0) _) _, mx_call q2 _, mx_call hmn _, g6]
theorem yW4 {d t : Nat} {L : List Int32} {x v : Int32} (hd : 2 ≤ d) (ht : t < 30) (h : CaY n kk k m K M T F pl 222 d 1 (t + 1) L (x) v) : CaY n kk k m K M T F pl 222 (d + 1) 4 t (51 :: L) x (v ^^^ nI k) := by
  intro I J hv
  have hst := q_starts (d := 0) I J ht hv.2.2.2.2.1 51
  have h1 : TrY I (mx_ups (mx_ups I 105 t 51) 94 17 (nI (t + 1))) t [51] := TrY.one 51
  obtain ⟨I', q1, q2⟩ := h _ J (hv.tr h1)
  have hv2 := (hv.tr h1).tr q1
  have hmn := q_mNow (d := 0) hv2 J
  have g6 := hv2.2.2.2.2.2.1
  refine ⟨I', h1.trans q1, ?_⟩
  show mx_Cal mx_tab (d + 1) 222 [.ref 94, .int 4, .int x] (mk I J) (some (.int (v ^^^ nI k))) (mk I' J)
  refine mx_Cal_in (ls := [some (.ref 94), some (.int 4), some (.int x)]) tab_222 (by rw [mx_rcv, oc_94]; trivial) (Nat.le_of_ble_eq_true rfl) rfl ?_
  simp (decide := true) (disch := omega) only [x_Ref_windsAs_0, x_Ref_windsAs_1, x_Ref_windsAs_36, x_Ref_windsAs_37, x_Ref_windsAs_39, x_Ref_windsAs_42, x_Ref_windsAs_43, x_Ref_windsAs_44, x_Ref_windsAs_47, x_Ref_windsAs_48, x_Ref_windsAs_51, x_Ref_windsAs_52, x_Ref_windsAs_55, x_Ref_windsAs_56, x_Ref_windsAs_57, x_Ref_windsAs_58, x_Ref_windsAs_60, x_Ref_windsAs_63, x_Ref_windsAs_64, x_Ref_windsAs_65, x_Ref_windsAs_68, x_Ref_windsAs_69, x_Ref_windsAs_70, x_Ref_windsAs_71, x_Ref_windsAs_74, x_Ref_windsAs_75, x_Ref_windsAs_76, x_Ref_windsAs_78, x_Ref_windsAs_81, x_Ref_windsAs_82, x_Ref_windsAs_83, x_Ref_windsAs_86, x_Ref_windsAs_87, x_Ref_windsAs_90, x_Ref_windsAs_91, x_Ref_windsAs_94, x_Ref_windsAs_95, x_Ref_windsAs_96, x_Ref_windsAs_97, x_Ref_windsAs_98, x_Ref_windsAs_101, x_Ref_windsAs_102, x_Ref_windsAs_105, mk_I, mk_J, mk_Q, mk_n, mk_sI, mk_sJ, Option.toList_some, Option.toList_none, List.cons_append, List.nil_append, true_and, and_true, oc_94, if_true, if_false, eq_self, not_false_eq_true, mx_call hst _, mx_call (rc4 (d := 0) _) _, mx_call q2 _, mx_call hmn _, g6]
theorem yW1 {d t : Nat} {L : List Int32} {x v : Int32} (hd : 2 ≤ d) (h : CaY n kk k m K M T F pl 222 d 0 t L x v) : CaY n kk k m K M T F pl 222 (d + 1) 1 t L x v := by
  intro I J hv
  obtain ⟨I', q1, q2⟩ := h I J hv
  refine ⟨I', q1, ?_⟩
  show mx_Cal mx_tab (d + 1) 222 [.ref 94, .int 1, .int x] (mk I J) (some (.int v)) (mk I' J)
  refine mx_Cal_in (ls := [some (.ref 94), some (.int 1), some (.int x)]) tab_222 (by rw [mx_rcv, oc_94]; trivial) (Nat.le_of_ble_eq_true rfl) rfl ?_
  simp (decide := true) (disch := omega) only [x_Ref_windsAs_0, x_Ref_windsAs_1, x_Ref_windsAs_36, x_Ref_windsAs_37, x_Ref_windsAs_39, x_Ref_windsAs_42, x_Ref_windsAs_43, x_Ref_windsAs_44, x_Ref_windsAs_47, x_Ref_windsAs_48, x_Ref_windsAs_51, x_Ref_windsAs_52, x_Ref_windsAs_55, x_Ref_windsAs_56, x_Ref_windsAs_57, x_Ref_windsAs_58, x_Ref_windsAs_60, x_Ref_windsAs_63, x_Ref_windsAs_64, x_Ref_windsAs_65, x_Ref_windsAs_68, x_Ref_windsAs_69, x_Ref_windsAs_70, x_Ref_windsAs_71, x_Ref_windsAs_74, x_Ref_windsAs_75, x_Ref_windsAs_76, x_Ref_windsAs_78, x_Ref_windsAs_81, x_Ref_windsAs_82, x_Ref_windsAs_83, x_Ref_windsAs_86, x_Ref_windsAs_87, x_Ref_windsAs_90, x_Ref_windsAs_91, x_Ref_windsAs_94, x_Ref_windsAs_95, x_Ref_windsAs_96, x_Ref_windsAs_97, x_Ref_windsAs_98, x_Ref_windsAs_101, x_Ref_windsAs_102, x_Ref_windsAs_105, mk_I, mk_J, mk_Q, mk_n, mk_sI, mk_sJ, Option.toList_some, Option.toList_none, List.cons_append, List.nil_append, true_and, and_true, oc_94, if_true, if_false, eq_self, mx_call (rc1 (d := 0) _) _, mx_call q2 _]
theorem yW2 {d t : Nat} {L : List Int32} {x v : Int32} (hd : 2 ≤ d) (h : CaY n kk k m K M T F pl 222 d 0 t L x v) : CaY n kk k m K M T F pl 222 (d + 1) 2 t L x v := by
  intro I J hv
  obtain ⟨I', q1, q2⟩ := h I J hv
  refine ⟨I', q1, ?_⟩
  show mx_Cal mx_tab (d + 1) 222 [.ref 94, .int 2, .int x] (mk I J) (some (.int v)) (mk I' J)
  refine mx_Cal_in (ls := [some (.ref 94), some (.int 2), some (.int x)]) tab_222 (by rw [mx_rcv, oc_94]; trivial) (Nat.le_of_ble_eq_true rfl) rfl ?_
  simp (decide := true) (disch := omega) only [x_Ref_windsAs_0, x_Ref_windsAs_1, x_Ref_windsAs_36, x_Ref_windsAs_37, x_Ref_windsAs_39, x_Ref_windsAs_42, x_Ref_windsAs_43, x_Ref_windsAs_44, x_Ref_windsAs_47, x_Ref_windsAs_48, x_Ref_windsAs_51, x_Ref_windsAs_52, x_Ref_windsAs_55, x_Ref_windsAs_56, x_Ref_windsAs_57, x_Ref_windsAs_58, x_Ref_windsAs_60, x_Ref_windsAs_63, x_Ref_windsAs_64, x_Ref_windsAs_65, x_Ref_windsAs_68, x_Ref_windsAs_69, x_Ref_windsAs_70, x_Ref_windsAs_71, x_Ref_windsAs_74, x_Ref_windsAs_75, x_Ref_windsAs_76, x_Ref_windsAs_78, x_Ref_windsAs_81, x_Ref_windsAs_82, x_Ref_windsAs_83, x_Ref_windsAs_86, x_Ref_windsAs_87, x_Ref_windsAs_90, x_Ref_windsAs_91, x_Ref_windsAs_94, x_Ref_windsAs_95, x_Ref_windsAs_96, x_Ref_windsAs_97, x_Ref_windsAs_98, x_Ref_windsAs_101, x_Ref_windsAs_102, x_Ref_windsAs_105, mk_I, mk_J, mk_Q, mk_n, mk_sI, mk_sJ, Option.toList_some, Option.toList_none, List.cons_append, List.nil_append, true_and, and_true, oc_94, if_true, if_false, eq_self, mx_call (rc2 (d := 0) _) _, mx_call q2 _]
theorem yW5 {d t : Nat} {L : List Int32} {x v : Int32} (hd : 2 ≤ d) (h : CaY n kk k m K M T F pl 222 d 2 t L x v) : CaY n kk k m K M T F pl 222 (d + 1) 5 t L x v := by
  intro I J hv
  obtain ⟨I', q1, q2⟩ := h I J hv
  refine ⟨I', q1, ?_⟩
  show mx_Cal mx_tab (d + 1) 222 [.ref 94, .int 5, .int x] (mk I J) (some (.int v)) (mk I' J)
  refine mx_Cal_in (ls := [some (.ref 94), some (.int 5), some (.int x)]) tab_222 (by rw [mx_rcv, oc_94]; trivial) (Nat.le_of_ble_eq_true rfl) rfl ?_
  simp (decide := true) (disch := omega) only [x_Ref_windsAs_0, x_Ref_windsAs_1, x_Ref_windsAs_36, x_Ref_windsAs_37, x_Ref_windsAs_39, x_Ref_windsAs_42, x_Ref_windsAs_43, x_Ref_windsAs_44, x_Ref_windsAs_47, x_Ref_windsAs_48, x_Ref_windsAs_51, x_Ref_windsAs_52, x_Ref_windsAs_55, x_Ref_windsAs_56, x_Ref_windsAs_57, x_Ref_windsAs_58, x_Ref_windsAs_60, x_Ref_windsAs_63, x_Ref_windsAs_64, x_Ref_windsAs_65, x_Ref_windsAs_68, x_Ref_windsAs_69, x_Ref_windsAs_70, x_Ref_windsAs_71, x_Ref_windsAs_74, x_Ref_windsAs_75, x_Ref_windsAs_76, x_Ref_windsAs_78, x_Ref_windsAs_81, x_Ref_windsAs_82, x_Ref_windsAs_83, x_Ref_windsAs_86, x_Ref_windsAs_87, x_Ref_windsAs_90, x_Ref_windsAs_91, x_Ref_windsAs_94, x_Ref_windsAs_95, x_Ref_windsAs_96, x_Ref_windsAs_97, x_Ref_windsAs_98, x_Ref_windsAs_101, x_Ref_windsAs_102, x_Ref_windsAs_105, mk_I, mk_J, mk_Q, mk_n, mk_sI, mk_sJ, Option.toList_some, Option.toList_none, List.cons_append, List.nil_append, true_and, and_true, oc_94, if_true, if_false, eq_self, mx_call (rc5 (d := 0) _) _, mx_call q2 _]
theorem yW6 {d t : Nat} {L : List Int32} {x v : Int32} (hd : 2 ≤ d) (h : CaY n kk k m K M T F pl 222 d 3 t L x v) : CaY n kk k m K M T F pl 222 (d + 1) 6 t L x v := by
  intro I J hv
  obtain ⟨I', q1, q2⟩ := h I J hv
  refine ⟨I', q1, ?_⟩
  show mx_Cal mx_tab (d + 1) 222 [.ref 94, .int 6, .int x] (mk I J) (some (.int v)) (mk I' J)
  refine mx_Cal_in (ls := [some (.ref 94), some (.int 6), some (.int x)]) tab_222 (by rw [mx_rcv, oc_94]; trivial) (Nat.le_of_ble_eq_true rfl) rfl ?_
  simp (decide := true) (disch := omega) only [x_Ref_windsAs_0, x_Ref_windsAs_1, x_Ref_windsAs_36, x_Ref_windsAs_37, x_Ref_windsAs_39, x_Ref_windsAs_42, x_Ref_windsAs_43, x_Ref_windsAs_44, x_Ref_windsAs_47, x_Ref_windsAs_48, x_Ref_windsAs_51, x_Ref_windsAs_52, x_Ref_windsAs_55, x_Ref_windsAs_56, x_Ref_windsAs_57, x_Ref_windsAs_58, x_Ref_windsAs_60, x_Ref_windsAs_63, x_Ref_windsAs_64, x_Ref_windsAs_65, x_Ref_windsAs_68, x_Ref_windsAs_69, x_Ref_windsAs_70, x_Ref_windsAs_71, x_Ref_windsAs_74, x_Ref_windsAs_75, x_Ref_windsAs_76, x_Ref_windsAs_78, x_Ref_windsAs_81, x_Ref_windsAs_82, x_Ref_windsAs_83, x_Ref_windsAs_86, x_Ref_windsAs_87, x_Ref_windsAs_90, x_Ref_windsAs_91, x_Ref_windsAs_94, x_Ref_windsAs_95, x_Ref_windsAs_96, x_Ref_windsAs_97, x_Ref_windsAs_98, x_Ref_windsAs_101, x_Ref_windsAs_102, x_Ref_windsAs_105, mk_I, mk_J, mk_Q, mk_n, mk_sI, mk_sJ, Option.toList_some, Option.toList_none, List.cons_append, List.nil_append, true_and, and_true, oc_94, if_true, if_false, eq_self, mx_call (rc6 (d := 0) _) _, mx_call q2 _]
theorem zR {f t : Nat} {x : Int32} (hf : f < 7) (ht : t ≤ 25) : CaY n kk k m K M T F pl 220 6 (nI f) t (lR f) x (vR k f x) := by
  rcases f7 hf with rfl | rfl | rfl | rfl | rfl | rfl | rfl
  · exact yR0 (d := 5) (by omega) (by omega)
  · exact yR1 (d := 5) (by omega) (by omega) (yR0 (d := 4) (by omega) (by omega))
  · exact yR2 (d := 5) (by omega) (yR0 (d := 4) (by omega) (by omega))
  · exact yR3 (d := 5) (by omega) (yR0 (d := 4) (by omega) (by omega))
  · exact yR4 (d := 5) (by omega) (by omega) (yR1 (d := 4) (by omega) (by omega) (yR0 (d := 3) (by omega) (by omega)))
  · exact yR5 (d := 5) (by omega) (yR2 (d := 4) (by omega) (yR0 (d := 3) (by omega) (by omega)))
  · exact yR6 (d := 5) (by omega) (by omega)
theorem zA {f t : Nat} {x : Int32} (hk : kk < 7) (hf : f < 7) (ht : t ≤ 20) : CaY n kk k m K M T F pl 221 10 (nI f) t (lA kk f) x (vA kk k m f x) := by
  rcases f7 hf with rfl | rfl | rfl | rfl | rfl | rfl | rfl
  · exact yA0 (d := 9) (by omega) (by omega) ((zR hk (by omega)).mono (by omega))
  · exact yA1 (d := 9) (by omega) (yA0 (d := 8) (by omega) (by omega) ((zR hk (by omega)).mono (by omega)))
  · exact yA2 (d := 9) (by omega) (by omega) (yA0 (d := 8) (by omega) (by omega) ((zR hk (by omega)).mono (by omega)))
  · exact yA3 (d := 9) (by omega) (yA0 (d := 8) (by omega) (by omega) ((zR hk (by omega)).mono (by omega)))
  · exact yA4 (d := 9) (by omega) (yA1 (d := 8) (by omega) (yA0 (d := 7) (by omega) (by omega) ((zR hk (by omega)).mono (by omega))))
  · exact yA5 (d := 9) (by omega) (by omega) (yA2 (d := 8) (by omega) (by omega) (yA0 (d := 7) (by omega) (by omega) ((zR hk (by omega)).mono (by omega))))
  · exact yA6 (d := 9) (by omega) (by omega) (yA3 (d := 8) (by omega) (yA0 (d := 7) (by omega) (by omega) ((zR hk (by omega)).mono (by omega))))
theorem zW {f t : Nat} {x : Int32} (hk : kk < 7) (hf : f < 7) (ht : t ≤ 15) : CaY n kk k m K M T F pl 222 14 (nI f) t (lW kk f) x (vW kk k m f x) := by
  rcases f7 hf with rfl | rfl | rfl | rfl | rfl | rfl | rfl
  · exact yW0 (d := 13) (by omega) (by omega) ((zA hk hk (by omega)).mono (by omega))
  · exact yW1 (d := 13) (by omega) (yW0 (d := 12) (by omega) (by omega) ((zA hk hk (by omega)).mono (by omega)))
  · exact yW2 (d := 13) (by omega) (yW0 (d := 12) (by omega) (by omega) ((zA hk hk (by omega)).mono (by omega)))
  · exact yW3 (d := 13) (by omega) (by omega) (yW0 (d := 12) (by omega) (by omega) ((zA hk hk (by omega)).mono (by omega)))
  · exact yW4 (d := 13) (by omega) (by omega) (yW1 (d := 12) (by omega) (yW0 (d := 11) (by omega) (by omega) ((zA hk hk (by omega)).mono (by omega))))
  · exact yW5 (d := 13) (by omega) (yW2 (d := 12) (by omega) (yW0 (d := 11) (by omega) (by omega) ((zA hk hk (by omega)).mono (by omega))))
  · exact yW6 (d := 13) (by omega) (yW3 (d := 12) (by omega) (by omega) (yW0 (d := 11) (by omega) (by omega) ((zA hk hk (by omega)).mono (by omega))))
/-! parts -/
theorem divF (x b : Int32) : (if b = -1 then -x else x / b) = x / b := by
  by_cases h : b = -1
  · rw [if_pos h, h, div_m1]
  · rw [if_neg h]
theorem yP0 {d t : Nat} {x : Int32} (hd : 2 ≤ d) (ht : t < 30) (hne : m ≠ k) (hm : m < 10) (hk9 : k < 10) : CaY n kk k m K M T F pl 223 (d + 1) 0 t [13] x (x / (nI m - nI k)) := by
  intro I J hv
  obtain ⟨e1, e2⟩ := mk_ne hne hm hk9
  have hst := q_starts (d := 0) I J ht hv.2.2.2.2.1 13
  have h1 : TrY I (mx_ups (mx_ups I 105 t 13) 94 17 (nI (t + 1))) t [13] := TrY.one 13
  have hv2 := hv.tr h1
  have hmn := q_mNow (d := 0) hv2 J
  have g6 := hv2.2.2.2.2.2.1
  have g7 := hv2.2.2.2.2.2.2
  obtain ⟨a1, a2, a3, a4⟩ := h1
  refine ⟨mx_ups (mx_ups (mx_ups I 105 t 13) 94 17 (nI (t + 1))) 94 20 0, ⟨by rw [ups_ne _ _ (by omega)]; exact a1, fun j hj => by rw [ups_ne _ _ (by omega)]; exact a2 j hj, fun j hj => by rw [ups_ne _ _ (by omega)]; exact a3 j hj, fun a j q1 q2 => ?_⟩, ?_⟩
  · by_cases q : a = 94 ∧ j = 20
    · obtain ⟨rfl, rfl⟩ := q
      rw [ups_same]
      exact hv.2.2.2.2.2.2.symm
    · rw [ups_ne _ _ (by omega)]; exact a4 a j q1 q2
  · show mx_Cal mx_tab (d + 1) 223 [.ref 94, .int 0, .int x] (mk I J) (some (.int (x / (nI m - nI k)))) (mk (mx_ups (mx_ups (mx_ups I 105 t 13) 94 17 (nI (t + 1))) 94 20 0) J)
    refine mx_Cal_in (ls := [some (.ref 94), some (.int 0), some (.int x), none, none]) tab_223 (by rw [mx_rcv, oc_94]; trivial) (Nat.le_of_ble_eq_true rfl) rfl ?_
    have hd1 := div_m1 x
    by_cases c1 : nI m - nI k = -1
    · simp (decide := true) (disch := omega) only [x_Ref_partsAs_0, x_Ref_partsAs_1, x_Ref_partsAs_28, x_Ref_partsAs_29, x_Ref_partsAs_31, x_Ref_partsAs_34, x_Ref_partsAs_35, x_Ref_partsAs_38, x_Ref_partsAs_39, x_Ref_partsAs_42, x_Ref_partsAs_43, x_Ref_partsAs_44, x_Ref_partsAs_45, x_Ref_partsAs_46, x_Ref_partsAs_49, x_Ref_partsAs_50, x_Ref_partsAs_53, x_Ref_partsAs_54, x_Ref_partsAs_57, x_Ref_partsAs_58, x_Ref_partsAs_61, x_Ref_partsAs_62, x_Ref_partsAs_65, x_Ref_partsAs_66, x_Ref_partsAs_67, x_Ref_partsAs_70, x_Ref_partsAs_71, x_Ref_partsAs_72, x_Ref_partsAs_75, x_Ref_partsAs_76, x_Ref_partsAs_77, x_Ref_partsAs_78, x_Ref_partsAs_79, x_Ref_partsAs_80, x_Ref_partsAs_82, x_Ref_partsAs_85, x_Ref_partsAs_86, x_Ref_partsAs_87, x_Ref_partsAs_90, x_Ref_partsAs_91, x_Ref_partsAs_94, x_Ref_partsAs_96, x_Ref_partsAs_97, x_Ref_partsAs_100, x_Ref_partsAs_103, x_Ref_partsAs_104, x_Ref_partsAs_107, x_Ref_partsAs_109, x_Ref_partsAs_110, x_Ref_partsAs_111, x_Ref_partsAs_114, x_Ref_partsAs_115, x_Ref_partsAs_118, x_Ref_partsAs_119, x_Ref_partsAs_120, x_Ref_partsAs_121, x_Ref_partsAs_122, x_Ref_partsAs_125, x_Ref_partsAs_126, x_Ref_partsAs_129, mk_I, mk_J, mk_Q, mk_n, mk_sI, mk_sJ, Option.toList_some, Option.toList_none, List.cons_append, List.nil_append, true_and, and_true, oc_94, if_true, if_false, eq_self, not_false_eq_true, not_true_eq_false, decide_true, Bool.or_true, Bool.true_or, Bool.and_true, mx_call hst _, mx_call hmn _, g6, c1, hd1]
    · simp (disch := omega) only [x_Ref_partsAs_0, x_Ref_partsAs_1, x_Ref_partsAs_28, x_Ref_partsAs_29, x_Ref_partsAs_31, x_Ref_partsAs_34, x_Ref_partsAs_35, x_Ref_partsAs_38, x_Ref_partsAs_39, x_Ref_partsAs_42, x_Ref_partsAs_43, x_Ref_partsAs_44, x_Ref_partsAs_45, x_Ref_partsAs_46, x_Ref_partsAs_49, x_Ref_partsAs_50, x_Ref_partsAs_53, x_Ref_partsAs_54, x_Ref_partsAs_57, x_Ref_partsAs_58, x_Ref_partsAs_61, x_Ref_partsAs_62, x_Ref_partsAs_65, x_Ref_partsAs_66, x_Ref_partsAs_67, x_Ref_partsAs_70, x_Ref_partsAs_71, x_Ref_partsAs_72, x_Ref_partsAs_75, x_Ref_partsAs_76, x_Ref_partsAs_77, x_Ref_partsAs_78, x_Ref_partsAs_79, x_Ref_partsAs_80, x_Ref_partsAs_82, x_Ref_partsAs_85, x_Ref_partsAs_86, x_Ref_partsAs_87, x_Ref_partsAs_90, x_Ref_partsAs_91, x_Ref_partsAs_94, x_Ref_partsAs_96, x_Ref_partsAs_97, x_Ref_partsAs_100, x_Ref_partsAs_103, x_Ref_partsAs_104, x_Ref_partsAs_107, x_Ref_partsAs_109, x_Ref_partsAs_110, x_Ref_partsAs_111, x_Ref_partsAs_114, x_Ref_partsAs_115, x_Ref_partsAs_118, x_Ref_partsAs_119, x_Ref_partsAs_120, x_Ref_partsAs_121, x_Ref_partsAs_122, x_Ref_partsAs_125, x_Ref_partsAs_126, x_Ref_partsAs_129, mk_I, mk_J, mk_Q, mk_n, mk_sI, mk_sJ, Option.toList_some, Option.toList_none, List.cons_append, List.nil_append, true_and, and_true, oc_94, if_true, if_false, eq_self, z_00, not_false_eq_true, not_true_eq_false, decide_true, Bool.or_true, Bool.true_or, Bool.and_true, mx_call hst _, mx_call hmn _, g6, e2, c1]
theorem yP1 {d t : Nat} {L1 L2 : List Int32} {x v1 v2 : Int32} (hd : 2 ≤ d) (ht : t < 30) (h : CaY n kk k m K M T F pl 223 d 0 (t + 1) L1 x v1) (g : CaY n kk k m K M T F pl 221 d (nI kk) (t + 1 + L1.length) L2 1 v2) : CaY n kk k m K M T F pl 223 (d + 1) 1 t (21 :: (L1 ++ L2)) x (v1 + v2) := by
  intro I J hv
  have hst := q_starts (d := 0) I J ht hv.2.2.2.2.1 21
  have h1 : TrY I (mx_ups (mx_ups I 105 t 21) 94 17 (nI (t + 1))) t [21] := TrY.one 21
  obtain ⟨I1, q1, q2⟩ := h _ J (hv.tr h1)
  have hv2 := (hv.tr h1).tr q1
  have hkn := q_kNow (d := 0) hv2 J
  obtain ⟨I2, r1, r2⟩ := g I1 J hv2
  have g7 := hv2.2.2.2.2.2.2
  refine ⟨I2, h1.trans (q1.trans r1), ?_⟩
  show mx_Cal mx_tab (d + 1) 223 [.ref 94, .int 1, .int x] (mk I J) (some (.int (v1 + v2))) (mk I2 J)
  refine mx_Cal_in (ls := [some (.ref 94), some (.int 1), some (.int x), none, none]) tab_223 (by rw [mx_rcv, oc_94]; trivial) (Nat.le_of_ble_eq_true rfl) rfl ?_
  simp (decide := true) (disch := omega) only [x_Ref_partsAs_0, x_Ref_partsAs_1, x_Ref_partsAs_28, x_Ref_partsAs_29, x_Ref_partsAs_31, x_Ref_partsAs_34, x_Ref_partsAs_35, x_Ref_partsAs_38, x_Ref_partsAs_39, x_Ref_partsAs_42, x_Ref_partsAs_43, x_Ref_partsAs_44, x_Ref_partsAs_45, x_Ref_partsAs_46, x_Ref_partsAs_49, x_Ref_partsAs_50, x_Ref_partsAs_53, x_Ref_partsAs_54, x_Ref_partsAs_57, x_Ref_partsAs_58, x_Ref_partsAs_61, x_Ref_partsAs_62, x_Ref_partsAs_65, x_Ref_partsAs_66, x_Ref_partsAs_67, x_Ref_partsAs_70, x_Ref_partsAs_71, x_Ref_partsAs_72, x_Ref_partsAs_75, x_Ref_partsAs_76, x_Ref_partsAs_77, x_Ref_partsAs_78, x_Ref_partsAs_79, x_Ref_partsAs_80, x_Ref_partsAs_82, x_Ref_partsAs_85, x_Ref_partsAs_86, x_Ref_partsAs_87, x_Ref_partsAs_90, x_Ref_partsAs_91, x_Ref_partsAs_94, x_Ref_partsAs_96, x_Ref_partsAs_97, x_Ref_partsAs_100, x_Ref_partsAs_103, x_Ref_partsAs_104, x_Ref_partsAs_107, x_Ref_partsAs_109, x_Ref_partsAs_110, x_Ref_partsAs_111, x_Ref_partsAs_114, x_Ref_partsAs_115, x_Ref_partsAs_118, x_Ref_partsAs_119, x_Ref_partsAs_120, x_Ref_partsAs_121, x_Ref_partsAs_122, x_Ref_partsAs_125, x_Ref_partsAs_126, x_Ref_partsAs_129, mk_I, mk_J, mk_Q, mk_n, mk_sI, mk_sJ, Option.toList_some, Option.toList_none, List.cons_append, List.nil_append, true_and, and_true, oc_94, if_true, if_false, eq_self, not_false_eq_true, mx_call hst _, mx_call (rc1 (d := 0) _) _, mx_call q2 _, g7, mx_call hkn _, mx_call r2 _]
theorem yP2 {d t : Nat} {L : List Int32} {x v : Int32} (hd : 2 ≤ d) (h : CaY n kk k m K M T F pl 223 d 0 t L x v) : CaY n kk k m K M T F pl 223 (d + 1) 2 t L x v := by
  intro I J hv
  obtain ⟨I', q1, q2⟩ := h I J hv
  refine ⟨I', q1, ?_⟩
  show mx_Cal mx_tab (d + 1) 223 [.ref 94, .int 2, .int x] (mk I J) (some (.int v)) (mk I' J)
  refine mx_Cal_in (ls := [some (.ref 94), some (.int 2), some (.int x), none, none]) tab_223 (by rw [mx_rcv, oc_94]; trivial) (Nat.le_of_ble_eq_true rfl) rfl ?_
  simp (decide := true) (disch := omega) only [x_Ref_partsAs_0, x_Ref_partsAs_1, x_Ref_partsAs_28, x_Ref_partsAs_29, x_Ref_partsAs_31, x_Ref_partsAs_34, x_Ref_partsAs_35, x_Ref_partsAs_38, x_Ref_partsAs_39, x_Ref_partsAs_42, x_Ref_partsAs_43, x_Ref_partsAs_44, x_Ref_partsAs_45, x_Ref_partsAs_46, x_Ref_partsAs_49, x_Ref_partsAs_50, x_Ref_partsAs_53, x_Ref_partsAs_54, x_Ref_partsAs_57, x_Ref_partsAs_58, x_Ref_partsAs_61, x_Ref_partsAs_62, x_Ref_partsAs_65, x_Ref_partsAs_66, x_Ref_partsAs_67, x_Ref_partsAs_70, x_Ref_partsAs_71, x_Ref_partsAs_72, x_Ref_partsAs_75, x_Ref_partsAs_76, x_Ref_partsAs_77, x_Ref_partsAs_78, x_Ref_partsAs_79, x_Ref_partsAs_80, x_Ref_partsAs_82, x_Ref_partsAs_85, x_Ref_partsAs_86, x_Ref_partsAs_87, x_Ref_partsAs_90, x_Ref_partsAs_91, x_Ref_partsAs_94, x_Ref_partsAs_96, x_Ref_partsAs_97, x_Ref_partsAs_100, x_Ref_partsAs_103, x_Ref_partsAs_104, x_Ref_partsAs_107, x_Ref_partsAs_109, x_Ref_partsAs_110, x_Ref_partsAs_111, x_Ref_partsAs_114, x_Ref_partsAs_115, x_Ref_partsAs_118, x_Ref_partsAs_119, x_Ref_partsAs_120, x_Ref_partsAs_121, x_Ref_partsAs_122, x_Ref_partsAs_125, x_Ref_partsAs_126, x_Ref_partsAs_129, mk_I, mk_J, mk_Q, mk_n, mk_sI, mk_sJ, Option.toList_some, Option.toList_none, List.cons_append, List.nil_append, true_and, and_true, oc_94, if_true, if_false, eq_self, mx_call (rc2 (d := 0) _) _, mx_call q2 _]
theorem yP3 {d t : Nat} {L : List Int32} {x v : Int32} (hd : 2 ≤ d) (h : CaY n kk k m K M T F pl 223 d 0 t L x v) : CaY n kk k m K M T F pl 223 (d + 1) 3 t L x v := by
  intro I J hv
  obtain ⟨I', q1, q2⟩ := h I J hv
  refine ⟨I', q1, ?_⟩
  show mx_Cal mx_tab (d + 1) 223 [.ref 94, .int 3, .int x] (mk I J) (some (.int v)) (mk I' J)
  refine mx_Cal_in (ls := [some (.ref 94), some (.int 3), some (.int x), none, none]) tab_223 (by rw [mx_rcv, oc_94]; trivial) (Nat.le_of_ble_eq_true rfl) rfl ?_
  simp (decide := true) (disch := omega) only [x_Ref_partsAs_0, x_Ref_partsAs_1, x_Ref_partsAs_28, x_Ref_partsAs_29, x_Ref_partsAs_31, x_Ref_partsAs_34, x_Ref_partsAs_35, x_Ref_partsAs_38, x_Ref_partsAs_39, x_Ref_partsAs_42, x_Ref_partsAs_43, x_Ref_partsAs_44, x_Ref_partsAs_45, x_Ref_partsAs_46, x_Ref_partsAs_49, x_Ref_partsAs_50, x_Ref_partsAs_53, x_Ref_partsAs_54, x_Ref_partsAs_57, x_Ref_partsAs_58, x_Ref_partsAs_61, x_Ref_partsAs_62, x_Ref_partsAs_65, x_Ref_partsAs_66, x_Ref_partsAs_67, x_Ref_partsAs_70, x_Ref_partsAs_71, x_Ref_partsAs_72, x_Ref_partsAs_75, x_Ref_partsAs_76, x_Ref_partsAs_77, x_Ref_partsAs_78, x_Ref_partsAs_79, x_Ref_partsAs_80, x_Ref_partsAs_82, x_Ref_partsAs_85, x_Ref_partsAs_86, x_Ref_partsAs_87, x_Ref_partsAs_90, x_Ref_partsAs_91, x_Ref_partsAs_94, x_Ref_partsAs_96, x_Ref_partsAs_97, x_Ref_partsAs_100, x_Ref_partsAs_103, x_Ref_partsAs_104, x_Ref_partsAs_107, x_Ref_partsAs_109, x_Ref_partsAs_110, x_Ref_partsAs_111, x_Ref_partsAs_114, x_Ref_partsAs_115, x_Ref_partsAs_118, x_Ref_partsAs_119, x_Ref_partsAs_120, x_Ref_partsAs_121, x_Ref_partsAs_122, x_Ref_partsAs_125, x_Ref_partsAs_126, x_Ref_partsAs_129, mk_I, mk_J, mk_Q, mk_n, mk_sI, mk_sJ, Option.toList_some, Option.toList_none, List.cons_append, List.nil_append, true_and, and_true, oc_94, if_true, if_false, eq_self, mx_call (rc3 (d := 0) _) _, mx_call q2 _]
theorem yP4 {d t : Nat} {L : List Int32} {x v : Int32} (hd : 2 ≤ d) (h : CaY n kk k m K M T F pl 223 d 1 t L x v) : CaY n kk k m K M T F pl 223 (d + 1) 4 t L x v := by
  intro I J hv
  obtain ⟨I', q1, q2⟩ := h I J hv
  refine ⟨I', q1, ?_⟩
  show mx_Cal mx_tab (d + 1) 223 [.ref 94, .int 4, .int x] (mk I J) (some (.int v)) (mk I' J)
  refine mx_Cal_in (ls := [some (.ref 94), some (.int 4), some (.int x), none, none]) tab_223 (by rw [mx_rcv, oc_94]; trivial) (Nat.le_of_ble_eq_true rfl) rfl ?_
  simp (decide := true) (disch := omega) only [x_Ref_partsAs_0, x_Ref_partsAs_1, x_Ref_partsAs_28, x_Ref_partsAs_29, x_Ref_partsAs_31, x_Ref_partsAs_34, x_Ref_partsAs_35, x_Ref_partsAs_38, x_Ref_partsAs_39, x_Ref_partsAs_42, x_Ref_partsAs_43, x_Ref_partsAs_44, x_Ref_partsAs_45, x_Ref_partsAs_46, x_Ref_partsAs_49, x_Ref_partsAs_50, x_Ref_partsAs_53, x_Ref_partsAs_54, x_Ref_partsAs_57, x_Ref_partsAs_58, x_Ref_partsAs_61, x_Ref_partsAs_62, x_Ref_partsAs_65, x_Ref_partsAs_66, x_Ref_partsAs_67, x_Ref_partsAs_70, x_Ref_partsAs_71, x_Ref_partsAs_72, x_Ref_partsAs_75, x_Ref_partsAs_76, x_Ref_partsAs_77, x_Ref_partsAs_78, x_Ref_partsAs_79, x_Ref_partsAs_80, x_Ref_partsAs_82, x_Ref_partsAs_85, x_Ref_partsAs_86, x_Ref_partsAs_87, x_Ref_partsAs_90, x_Ref_partsAs_91, x_Ref_partsAs_94, x_Ref_partsAs_96, x_Ref_partsAs_97, x_Ref_partsAs_100, x_Ref_partsAs_103, x_Ref_partsAs_104, x_Ref_partsAs_107, x_Ref_partsAs_109, x_Ref_partsAs_110, x_Ref_partsAs_111, x_Ref_partsAs_114, x_Ref_partsAs_115, x_Ref_partsAs_118, x_Ref_partsAs_119, x_Ref_partsAs_120, x_Ref_partsAs_121, x_Ref_partsAs_122, x_Ref_partsAs_125, x_Ref_partsAs_126, x_Ref_partsAs_129, mk_I, mk_J, mk_Q, mk_n, mk_sI, mk_sJ, Option.toList_some, Option.toList_none, List.cons_append, List.nil_append, true_and, and_true, oc_94, if_true, if_false, eq_self, mx_call (rc4 (d := 0) _) _, mx_call q2 _]
theorem yP5 {d t : Nat} {L : List Int32} {x v : Int32} (hd : 2 ≤ d) (h : CaY n kk k m K M T F pl 223 d 2 t L x v) : CaY n kk k m K M T F pl 223 (d + 1) 5 t L x v := by
  intro I J hv
  obtain ⟨I', q1, q2⟩ := h I J hv
  refine ⟨I', q1, ?_⟩
  show mx_Cal mx_tab (d + 1) 223 [.ref 94, .int 5, .int x] (mk I J) (some (.int v)) (mk I' J)
  refine mx_Cal_in (ls := [some (.ref 94), some (.int 5), some (.int x), none, none]) tab_223 (by rw [mx_rcv, oc_94]; trivial) (Nat.le_of_ble_eq_true rfl) rfl ?_
  simp (decide := true) (disch := omega) only [x_Ref_partsAs_0, x_Ref_partsAs_1, x_Ref_partsAs_28, x_Ref_partsAs_29, x_Ref_partsAs_31, x_Ref_partsAs_34, x_Ref_partsAs_35, x_Ref_partsAs_38, x_Ref_partsAs_39, x_Ref_partsAs_42, x_Ref_partsAs_43, x_Ref_partsAs_44, x_Ref_partsAs_45, x_Ref_partsAs_46, x_Ref_partsAs_49, x_Ref_partsAs_50, x_Ref_partsAs_53, x_Ref_partsAs_54, x_Ref_partsAs_57, x_Ref_partsAs_58, x_Ref_partsAs_61, x_Ref_partsAs_62, x_Ref_partsAs_65, x_Ref_partsAs_66, x_Ref_partsAs_67, x_Ref_partsAs_70, x_Ref_partsAs_71, x_Ref_partsAs_72, x_Ref_partsAs_75, x_Ref_partsAs_76, x_Ref_partsAs_77, x_Ref_partsAs_78, x_Ref_partsAs_79, x_Ref_partsAs_80, x_Ref_partsAs_82, x_Ref_partsAs_85, x_Ref_partsAs_86, x_Ref_partsAs_87, x_Ref_partsAs_90, x_Ref_partsAs_91, x_Ref_partsAs_94, x_Ref_partsAs_96, x_Ref_partsAs_97, x_Ref_partsAs_100, x_Ref_partsAs_103, x_Ref_partsAs_104, x_Ref_partsAs_107, x_Ref_partsAs_109, x_Ref_partsAs_110, x_Ref_partsAs_111, x_Ref_partsAs_114, x_Ref_partsAs_115, x_Ref_partsAs_118, x_Ref_partsAs_119, x_Ref_partsAs_120, x_Ref_partsAs_121, x_Ref_partsAs_122, x_Ref_partsAs_125, x_Ref_partsAs_126, x_Ref_partsAs_129, mk_I, mk_J, mk_Q, mk_n, mk_sI, mk_sJ, Option.toList_some, Option.toList_none, List.cons_append, List.nil_append, true_and, and_true, oc_94, if_true, if_false, eq_self, mx_call (rc5 (d := 0) _) _, mx_call q2 _]
theorem yP6 {d t : Nat} {L : List Int32} {x v : Int32} (hd : 2 ≤ d) (h : CaY n kk k m K M T F pl 223 d 3 t L x v) : CaY n kk k m K M T F pl 223 (d + 1) 6 t L x v := by
  intro I J hv
  obtain ⟨I', q1, q2⟩ := h I J hv
  refine ⟨I', q1, ?_⟩
  show mx_Cal mx_tab (d + 1) 223 [.ref 94, .int 6, .int x] (mk I J) (some (.int v)) (mk I' J)
  refine mx_Cal_in (ls := [some (.ref 94), some (.int 6), some (.int x), none, none]) tab_223 (by rw [mx_rcv, oc_94]; trivial) (Nat.le_of_ble_eq_true rfl) rfl ?_
  simp (decide := true) (disch := omega) only [x_Ref_partsAs_0, x_Ref_partsAs_1, x_Ref_partsAs_28, x_Ref_partsAs_29, x_Ref_partsAs_31, x_Ref_partsAs_34, x_Ref_partsAs_35, x_Ref_partsAs_38, x_Ref_partsAs_39, x_Ref_partsAs_42, x_Ref_partsAs_43, x_Ref_partsAs_44, x_Ref_partsAs_45, x_Ref_partsAs_46, x_Ref_partsAs_49, x_Ref_partsAs_50, x_Ref_partsAs_53, x_Ref_partsAs_54, x_Ref_partsAs_57, x_Ref_partsAs_58, x_Ref_partsAs_61, x_Ref_partsAs_62, x_Ref_partsAs_65, x_Ref_partsAs_66, x_Ref_partsAs_67, x_Ref_partsAs_70, x_Ref_partsAs_71, x_Ref_partsAs_72, x_Ref_partsAs_75, x_Ref_partsAs_76, x_Ref_partsAs_77, x_Ref_partsAs_78, x_Ref_partsAs_79, x_Ref_partsAs_80, x_Ref_partsAs_82, x_Ref_partsAs_85, x_Ref_partsAs_86, x_Ref_partsAs_87, x_Ref_partsAs_90, x_Ref_partsAs_91, x_Ref_partsAs_94, x_Ref_partsAs_96, x_Ref_partsAs_97, x_Ref_partsAs_100, x_Ref_partsAs_103, x_Ref_partsAs_104, x_Ref_partsAs_107, x_Ref_partsAs_109, x_Ref_partsAs_110, x_Ref_partsAs_111, x_Ref_partsAs_114, x_Ref_partsAs_115, x_Ref_partsAs_118, x_Ref_partsAs_119, x_Ref_partsAs_120, x_Ref_partsAs_121, x_Ref_partsAs_122, x_Ref_partsAs_125, x_Ref_partsAs_126, x_Ref_partsAs_129, mk_I, mk_J, mk_Q, mk_n, mk_sI, mk_sJ, Option.toList_some, Option.toList_none, List.cons_append, List.nil_append, true_and, and_true, oc_94, if_true, if_false, eq_self, mx_call (rc6 (d := 0) _) _, mx_call q2 _]
theorem zP {f t : Nat} {x : Int32} (hk : kk < 7) (hf : f < 7) (ht : t ≤ 15) (hne : m ≠ k) (hm : m < 10) (hk9 : k < 10) : CaY n kk k m K M T F pl 223 16 (nI f) t (lP kk f) x (vP kk k m f x) := by
  have p0 : ∀ {d t : Nat}, 2 ≤ d → t < 30 → CaY n kk k m K M T F pl 223 (d + 1) 0 t [13] x (x / (nI m - nI k)) := fun h1 h2 => yP0 h1 h2 hne hm hk9
  have p1 : ∀ {d t : Nat}, 12 ≤ d → t ≤ 15 → CaY n kk k m K M T F pl 223 (d + 2) 1 t (21 :: ([13] ++ lA kk kk)) x (x / (nI m - nI k) + vA kk k m kk 1) := fun {d t} h1 h2 => yP1 (d := d + 1) (by omega) (by omega) (p0 (d := d) (by omega) (by omega)) ((zA hk hk (by show t + 1 + 1 ≤ 20; omega)).mono (by omega))
  rcases f7 hf with rfl | rfl | rfl | rfl | rfl | rfl | rfl
  · exact p0 (d := 15) (by omega) (by omega)
  · exact p1 (d := 14) (by omega) ht
  · exact yP2 (d := 15) (by omega) (p0 (d := 14) (by omega) (by omega))
  · exact yP3 (d := 15) (by omega) (p0 (d := 14) (by omega) (by omega))
  · exact yP4 (d := 15) (by omega) (p1 (d := 13) (by omega) ht)
  · exact yP5 (d := 15) (by omega) (yP2 (d := 14) (by omega) (p0 (d := 13) (by omega) (by omega)))
  · exact yP6 (d := 15) (by omega) (yP3 (d := 14) (by omega) (p0 (d := 13) (by omega) (by omega)))
/-- where it is parted -/
def TrZ (I I' : mx_I) (t : Nat) (L : List Int32) : Prop := I' 94 17 = nI (t + L.length) ∧ (∀ j, j < t → I' 105 j = I 105 j) ∧ (∀ j, j < L.length → I' 105 (t + j) = L.getD j 0) ∧ I' 94 20 = 1 ∧ ∀ a j, ¬ (a = 94 ∧ j = 17) → a ≠ 105 → ¬ (a = 94 ∧ j = 20) → I' a j = I a j
def CaZ (n kk k m : Nat) (K M T F pl : Nat → Nat) (d : Nat) (fv : Int32) (t : Nat) (L : List Int32) (x : Int32) : Prop := ∀ (I : mx_I) (J : mx_J), RE n kk k m K M T F pl I t → ∃ I', TrZ I I' t L ∧ mx_Cal mx_tab d 223 [.ref 94, .int fv, .int x] (mk I J) (some (.int 0)) (mk I' J)
theorem wP0 {d t : Nat} {x : Int32} (hd : 2 ≤ d) (ht : t < 30) (he : m = k) : CaZ n kk k m K M T F pl (d + 1) 0 t [13] x := by
  intro I J hv
  subst he
  have hst := q_starts (d := 0) I J ht hv.2.2.2.2.1 13
  have h1 : TrY I (mx_ups (mx_ups I 105 t 13) 94 17 (nI (t + 1))) t [13] := TrY.one 13
  have hv2 := hv.tr h1
  have hmn := q_mNow (d := 0) hv2 J
  have g6 := hv2.2.2.2.2.2.1
  have z0 : nI m - nI m = 0 := Int32.sub_self _
  obtain ⟨a1, a2, a3, a4⟩ := h1
  refine ⟨mx_ups (mx_ups (mx_ups I 105 t 13) 94 17 (nI (t + 1))) 94 20 1, ⟨by rw [ups_ne _ _ (by omega)]; exact a1, fun j hj => by rw [ups_ne _ _ (by omega)]; exact a2 j hj, fun j hj => by rw [ups_ne _ _ (by omega)]; exact a3 j hj, ups_same _ _ _ _, fun a j q1 q2 q3 => by rw [ups_ne _ _ (by omega)]; exact a4 a j q1 q2⟩, ?_⟩
  show mx_Cal mx_tab (d + 1) 223 [.ref 94, .int 0, .int x] (mk I J) (some (.int 0)) (mk (mx_ups (mx_ups (mx_ups I 105 t 13) 94 17 (nI (t + 1))) 94 20 1) J)
  refine mx_Cal_in (ls := [some (.ref 94), some (.int 0), some (.int x), none, none]) tab_223 (by rw [mx_rcv, oc_94]; trivial) (Nat.le_of_ble_eq_true rfl) rfl ?_
  simp (decide := true) (disch := omega) only [x_Ref_partsAs_0, x_Ref_partsAs_1, x_Ref_partsAs_28, x_Ref_partsAs_29, x_Ref_partsAs_31, x_Ref_partsAs_34, x_Ref_partsAs_35, x_Ref_partsAs_38, x_Ref_partsAs_39, x_Ref_partsAs_42, x_Ref_partsAs_43, x_Ref_partsAs_44, x_Ref_partsAs_45, x_Ref_partsAs_46, x_Ref_partsAs_49, x_Ref_partsAs_50, x_Ref_partsAs_53, x_Ref_partsAs_54, x_Ref_partsAs_57, x_Ref_partsAs_58, x_Ref_partsAs_61, x_Ref_partsAs_62, x_Ref_partsAs_65, x_Ref_partsAs_66, x_Ref_partsAs_67, x_Ref_partsAs_70, x_Ref_partsAs_71, x_Ref_partsAs_72, x_Ref_partsAs_75, x_Ref_partsAs_76, x_Ref_partsAs_77, x_Ref_partsAs_78, x_Ref_partsAs_79, x_Ref_partsAs_80, x_Ref_partsAs_82, x_Ref_partsAs_85, x_Ref_partsAs_86, x_Ref_partsAs_87, x_Ref_partsAs_90, x_Ref_partsAs_91, x_Ref_partsAs_94, x_Ref_partsAs_96, x_Ref_partsAs_97, x_Ref_partsAs_100, x_Ref_partsAs_103, x_Ref_partsAs_104, x_Ref_partsAs_107, x_Ref_partsAs_109, x_Ref_partsAs_110, x_Ref_partsAs_111, x_Ref_partsAs_114, x_Ref_partsAs_115, x_Ref_partsAs_118, x_Ref_partsAs_119, x_Ref_partsAs_120, x_Ref_partsAs_121, x_Ref_partsAs_122, x_Ref_partsAs_125, x_Ref_partsAs_126, x_Ref_partsAs_129, mk_I, mk_J, mk_Q, mk_n, mk_sI, mk_sJ, Option.toList_some, Option.toList_none, List.cons_append, List.nil_append, true_and, and_true, oc_94, if_true, if_false, eq_self, not_false_eq_true, not_true_eq_false, decide_true, Bool.or_true, Bool.true_or, Bool.and_true, mx_call hst _, mx_call hmn _, g6, z0]
theorem wP1 {d t : Nat} {x : Int32} {L : List Int32} (hd : 2 ≤ d) (ht : t < 30) (h : CaZ n kk k m K M T F pl d 0 (t + 1) L x) : CaZ n kk k m K M T F pl (d + 1) 1 t (21 :: L) x := by
  intro I J hv
  have hst := q_starts (d := 0) I J ht hv.2.2.2.2.1 21
  have h1 : TrY I (mx_ups (mx_ups I 105 t 21) 94 17 (nI (t + 1))) t [21] := TrY.one 21
  obtain ⟨I', ⟨b1, b2, b3, b4, b5⟩, q2⟩ := h _ J (hv.tr h1)
  obtain ⟨a1, a2, a3, a4⟩ := h1
  refine ⟨I', ⟨by rw [b1, List.length_cons, show t + (L.length + 1) = t + 1 + L.length by omega], fun j hj => (b2 j (by omega)).trans (a2 j hj), fun j hj => ?_, b4, fun a j p1 p2 p3 => (b5 a j p1 p2 p3).trans (a4 a j p1 p2)⟩, ?_⟩
  · cases j with
    | zero => exact (b2 t (by omega)).trans (a3 0 (by show 0 < 1; omega))
    | succ j =>
      have e := b3 j (by rw [List.length_cons] at hj; omega)
      rw [show t + 1 + j = t + (j + 1) by omega] at e
      exact e
  · show mx_Cal mx_tab (d + 1) 223 [.ref 94, .int 1, .int x] (mk I J) (some (.int 0)) (mk I' J)
    refine mx_Cal_in (ls := [some (.ref 94), some (.int 1), some (.int x), none, none]) tab_223 (by rw [mx_rcv, oc_94]; trivial) (Nat.le_of_ble_eq_true rfl) rfl ?_
    simp (decide := true) (disch := omega) only [x_Ref_partsAs_0, x_Ref_partsAs_1, x_Ref_partsAs_28, x_Ref_partsAs_29, x_Ref_partsAs_31, x_Ref_partsAs_34, x_Ref_partsAs_35, x_Ref_partsAs_38, x_Ref_partsAs_39, x_Ref_partsAs_42, x_Ref_partsAs_43, x_Ref_partsAs_44, x_Ref_partsAs_45, x_Ref_partsAs_46, x_Ref_partsAs_49, x_Ref_partsAs_50, x_Ref_partsAs_53, x_Ref_partsAs_54, x_Ref_partsAs_57, x_Ref_partsAs_58, x_Ref_partsAs_61, x_Ref_partsAs_62, x_Ref_partsAs_65, x_Ref_partsAs_66, x_Ref_partsAs_67, x_Ref_partsAs_70, x_Ref_partsAs_71, x_Ref_partsAs_72, x_Ref_partsAs_75, x_Ref_partsAs_76, x_Ref_partsAs_77, x_Ref_partsAs_78, x_Ref_partsAs_79, x_Ref_partsAs_80, x_Ref_partsAs_82, x_Ref_partsAs_85, x_Ref_partsAs_86, x_Ref_partsAs_87, x_Ref_partsAs_90, x_Ref_partsAs_91, x_Ref_partsAs_94, x_Ref_partsAs_96, x_Ref_partsAs_97, x_Ref_partsAs_100, x_Ref_partsAs_103, x_Ref_partsAs_104, x_Ref_partsAs_107, x_Ref_partsAs_109, x_Ref_partsAs_110, x_Ref_partsAs_111, x_Ref_partsAs_114, x_Ref_partsAs_115, x_Ref_partsAs_118, x_Ref_partsAs_119, x_Ref_partsAs_120, x_Ref_partsAs_121, x_Ref_partsAs_122, x_Ref_partsAs_125, x_Ref_partsAs_126, x_Ref_partsAs_129, mk_I, mk_J, mk_Q, mk_n, mk_sI, mk_sJ, Option.toList_some, Option.toList_none, List.cons_append, List.nil_append, true_and, and_true, oc_94, if_true, if_false, eq_self, not_false_eq_true, mx_call hst _, mx_call (rc1 (d := 0) _) _, mx_call q2 _, b4]
theorem wP2 {d t : Nat} {L : List Int32} {x : Int32} (hd : 2 ≤ d) (h : CaZ n kk k m K M T F pl d 0 t L x) : CaZ n kk k m K M T F pl (d + 1) 2 t L x := by
  intro I J hv
  obtain ⟨I', q1, q2⟩ := h I J hv
  refine ⟨I', q1, ?_⟩
  show mx_Cal mx_tab (d + 1) 223 [.ref 94, .int 2, .int x] (mk I J) (some (.int 0)) (mk I' J)
  refine mx_Cal_in (ls := [some (.ref 94), some (.int 2), some (.int x), none, none]) tab_223 (by rw [mx_rcv, oc_94]; trivial) (Nat.le_of_ble_eq_true rfl) rfl ?_
  simp (decide := true) (disch := omega) only [x_Ref_partsAs_0, x_Ref_partsAs_1, x_Ref_partsAs_28, x_Ref_partsAs_29, x_Ref_partsAs_31, x_Ref_partsAs_34, x_Ref_partsAs_35, x_Ref_partsAs_38, x_Ref_partsAs_39, x_Ref_partsAs_42, x_Ref_partsAs_43, x_Ref_partsAs_44, x_Ref_partsAs_45, x_Ref_partsAs_46, x_Ref_partsAs_49, x_Ref_partsAs_50, x_Ref_partsAs_53, x_Ref_partsAs_54, x_Ref_partsAs_57, x_Ref_partsAs_58, x_Ref_partsAs_61, x_Ref_partsAs_62, x_Ref_partsAs_65, x_Ref_partsAs_66, x_Ref_partsAs_67, x_Ref_partsAs_70, x_Ref_partsAs_71, x_Ref_partsAs_72, x_Ref_partsAs_75, x_Ref_partsAs_76, x_Ref_partsAs_77, x_Ref_partsAs_78, x_Ref_partsAs_79, x_Ref_partsAs_80, x_Ref_partsAs_82, x_Ref_partsAs_85, x_Ref_partsAs_86, x_Ref_partsAs_87, x_Ref_partsAs_90, x_Ref_partsAs_91, x_Ref_partsAs_94, x_Ref_partsAs_96, x_Ref_partsAs_97, x_Ref_partsAs_100, x_Ref_partsAs_103, x_Ref_partsAs_104, x_Ref_partsAs_107, x_Ref_partsAs_109, x_Ref_partsAs_110, x_Ref_partsAs_111, x_Ref_partsAs_114, x_Ref_partsAs_115, x_Ref_partsAs_118, x_Ref_partsAs_119, x_Ref_partsAs_120, x_Ref_partsAs_121, x_Ref_partsAs_122, x_Ref_partsAs_125, x_Ref_partsAs_126, x_Ref_partsAs_129, mk_I, mk_J, mk_Q, mk_n, mk_sI, mk_sJ, Option.toList_some, Option.toList_none, List.cons_append, List.nil_append, true_and, and_true, oc_94, if_true, if_false, eq_self, mx_call (rc2 (d := 0) _) _, mx_call q2 _]
theorem wP3 {d t : Nat} {L : List Int32} {x : Int32} (hd : 2 ≤ d) (h : CaZ n kk k m K M T F pl d 0 t L x) : CaZ n kk k m K M T F pl (d + 1) 3 t L x := by
  intro I J hv
  obtain ⟨I', q1, q2⟩ := h I J hv
  refine ⟨I', q1, ?_⟩
  show mx_Cal mx_tab (d + 1) 223 [.ref 94, .int 3, .int x] (mk I J) (some (.int 0)) (mk I' J)
  refine mx_Cal_in (ls := [some (.ref 94), some (.int 3), some (.int x), none, none]) tab_223 (by rw [mx_rcv, oc_94]; trivial) (Nat.le_of_ble_eq_true rfl) rfl ?_
  simp (decide := true) (disch := omega) only [x_Ref_partsAs_0, x_Ref_partsAs_1, x_Ref_partsAs_28, x_Ref_partsAs_29, x_Ref_partsAs_31, x_Ref_partsAs_34, x_Ref_partsAs_35, x_Ref_partsAs_38, x_Ref_partsAs_39, x_Ref_partsAs_42, x_Ref_partsAs_43, x_Ref_partsAs_44, x_Ref_partsAs_45, x_Ref_partsAs_46, x_Ref_partsAs_49, x_Ref_partsAs_50, x_Ref_partsAs_53, x_Ref_partsAs_54, x_Ref_partsAs_57, x_Ref_partsAs_58, x_Ref_partsAs_61, x_Ref_partsAs_62, x_Ref_partsAs_65, x_Ref_partsAs_66, x_Ref_partsAs_67, x_Ref_partsAs_70, x_Ref_partsAs_71, x_Ref_partsAs_72, x_Ref_partsAs_75, x_Ref_partsAs_76, x_Ref_partsAs_77, x_Ref_partsAs_78, x_Ref_partsAs_79, x_Ref_partsAs_80, x_Ref_partsAs_82, x_Ref_partsAs_85, x_Ref_partsAs_86, x_Ref_partsAs_87, x_Ref_partsAs_90, x_Ref_partsAs_91, x_Ref_partsAs_94, x_Ref_partsAs_96, x_Ref_partsAs_97, x_Ref_partsAs_100, x_Ref_partsAs_103, x_Ref_partsAs_104, x_Ref_partsAs_107, x_Ref_partsAs_109, x_Ref_partsAs_110, x_Ref_partsAs_111, x_Ref_partsAs_114, x_Ref_partsAs_115, x_Ref_partsAs_118, x_Ref_partsAs_119, x_Ref_partsAs_120, x_Ref_partsAs_121, x_Ref_partsAs_122, x_Ref_partsAs_125, x_Ref_partsAs_126, x_Ref_partsAs_129, mk_I, mk_J, mk_Q, mk_n, mk_sI, mk_sJ, Option.toList_some, Option.toList_none, List.cons_append, List.nil_append, true_and, and_true, oc_94, if_true, if_false, eq_self, mx_call (rc3 (d := 0) _) _, mx_call q2 _]
theorem wP4 {d t : Nat} {L : List Int32} {x : Int32} (hd : 2 ≤ d) (h : CaZ n kk k m K M T F pl d 1 t L x) : CaZ n kk k m K M T F pl (d + 1) 4 t L x := by
  intro I J hv
  obtain ⟨I', q1, q2⟩ := h I J hv
  refine ⟨I', q1, ?_⟩
  show mx_Cal mx_tab (d + 1) 223 [.ref 94, .int 4, .int x] (mk I J) (some (.int 0)) (mk I' J)
  refine mx_Cal_in (ls := [some (.ref 94), some (.int 4), some (.int x), none, none]) tab_223 (by rw [mx_rcv, oc_94]; trivial) (Nat.le_of_ble_eq_true rfl) rfl ?_
  simp (decide := true) (disch := omega) only [x_Ref_partsAs_0, x_Ref_partsAs_1, x_Ref_partsAs_28, x_Ref_partsAs_29, x_Ref_partsAs_31, x_Ref_partsAs_34, x_Ref_partsAs_35, x_Ref_partsAs_38, x_Ref_partsAs_39, x_Ref_partsAs_42, x_Ref_partsAs_43, x_Ref_partsAs_44, x_Ref_partsAs_45, x_Ref_partsAs_46, x_Ref_partsAs_49, x_Ref_partsAs_50, x_Ref_partsAs_53, x_Ref_partsAs_54, x_Ref_partsAs_57, x_Ref_partsAs_58, x_Ref_partsAs_61, x_Ref_partsAs_62, x_Ref_partsAs_65, x_Ref_partsAs_66, x_Ref_partsAs_67, x_Ref_partsAs_70, x_Ref_partsAs_71, x_Ref_partsAs_72, x_Ref_partsAs_75, x_Ref_partsAs_76, x_Ref_partsAs_77, x_Ref_partsAs_78, x_Ref_partsAs_79, x_Ref_partsAs_80, x_Ref_partsAs_82, x_Ref_partsAs_85, x_Ref_partsAs_86, x_Ref_partsAs_87, x_Ref_partsAs_90, x_Ref_partsAs_91, x_Ref_partsAs_94, x_Ref_partsAs_96, x_Ref_partsAs_97, x_Ref_partsAs_100, x_Ref_partsAs_103, x_Ref_partsAs_104, x_Ref_partsAs_107, x_Ref_partsAs_109, x_Ref_partsAs_110, x_Ref_partsAs_111, x_Ref_partsAs_114, x_Ref_partsAs_115, x_Ref_partsAs_118, x_Ref_partsAs_119, x_Ref_partsAs_120, x_Ref_partsAs_121, x_Ref_partsAs_122, x_Ref_partsAs_125, x_Ref_partsAs_126, x_Ref_partsAs_129, mk_I, mk_J, mk_Q, mk_n, mk_sI, mk_sJ, Option.toList_some, Option.toList_none, List.cons_append, List.nil_append, true_and, and_true, oc_94, if_true, if_false, eq_self, mx_call (rc4 (d := 0) _) _, mx_call q2 _]
theorem wP5 {d t : Nat} {L : List Int32} {x : Int32} (hd : 2 ≤ d) (h : CaZ n kk k m K M T F pl d 2 t L x) : CaZ n kk k m K M T F pl (d + 1) 5 t L x := by
  intro I J hv
  obtain ⟨I', q1, q2⟩ := h I J hv
  refine ⟨I', q1, ?_⟩
  show mx_Cal mx_tab (d + 1) 223 [.ref 94, .int 5, .int x] (mk I J) (some (.int 0)) (mk I' J)
  refine mx_Cal_in (ls := [some (.ref 94), some (.int 5), some (.int x), none, none]) tab_223 (by rw [mx_rcv, oc_94]; trivial) (Nat.le_of_ble_eq_true rfl) rfl ?_
  simp (decide := true) (disch := omega) only [x_Ref_partsAs_0, x_Ref_partsAs_1, x_Ref_partsAs_28, x_Ref_partsAs_29, x_Ref_partsAs_31, x_Ref_partsAs_34, x_Ref_partsAs_35, x_Ref_partsAs_38, x_Ref_partsAs_39, x_Ref_partsAs_42, x_Ref_partsAs_43, x_Ref_partsAs_44, x_Ref_partsAs_45, x_Ref_partsAs_46, x_Ref_partsAs_49, x_Ref_partsAs_50, x_Ref_partsAs_53, x_Ref_partsAs_54, x_Ref_partsAs_57, x_Ref_partsAs_58, x_Ref_partsAs_61, x_Ref_partsAs_62, x_Ref_partsAs_65, x_Ref_partsAs_66, x_Ref_partsAs_67, x_Ref_partsAs_70, x_Ref_partsAs_71, x_Ref_partsAs_72, x_Ref_partsAs_75, x_Ref_partsAs_76, x_Ref_partsAs_77, x_Ref_partsAs_78, x_Ref_partsAs_79, x_Ref_partsAs_80, x_Ref_partsAs_82, x_Ref_partsAs_85, x_Ref_partsAs_86, x_Ref_partsAs_87, x_Ref_partsAs_90, x_Ref_partsAs_91, x_Ref_partsAs_94, x_Ref_partsAs_96, x_Ref_partsAs_97, x_Ref_partsAs_100, x_Ref_partsAs_103, x_Ref_partsAs_104, x_Ref_partsAs_107, x_Ref_partsAs_109, x_Ref_partsAs_110, x_Ref_partsAs_111, x_Ref_partsAs_114, x_Ref_partsAs_115, x_Ref_partsAs_118, x_Ref_partsAs_119, x_Ref_partsAs_120, x_Ref_partsAs_121, x_Ref_partsAs_122, x_Ref_partsAs_125, x_Ref_partsAs_126, x_Ref_partsAs_129, mk_I, mk_J, mk_Q, mk_n, mk_sI, mk_sJ, Option.toList_some, Option.toList_none, List.cons_append, List.nil_append, true_and, and_true, oc_94, if_true, if_false, eq_self, mx_call (rc5 (d := 0) _) _, mx_call q2 _]
theorem wP6 {d t : Nat} {L : List Int32} {x : Int32} (hd : 2 ≤ d) (h : CaZ n kk k m K M T F pl d 3 t L x) : CaZ n kk k m K M T F pl (d + 1) 6 t L x := by
  intro I J hv
  obtain ⟨I', q1, q2⟩ := h I J hv
  refine ⟨I', q1, ?_⟩
  show mx_Cal mx_tab (d + 1) 223 [.ref 94, .int 6, .int x] (mk I J) (some (.int 0)) (mk I' J)
  refine mx_Cal_in (ls := [some (.ref 94), some (.int 6), some (.int x), none, none]) tab_223 (by rw [mx_rcv, oc_94]; trivial) (Nat.le_of_ble_eq_true rfl) rfl ?_
  simp (decide := true) (disch := omega) only [x_Ref_partsAs_0, x_Ref_partsAs_1, x_Ref_partsAs_28, x_Ref_partsAs_29, x_Ref_partsAs_31, x_Ref_partsAs_34, x_Ref_partsAs_35, x_Ref_partsAs_38, x_Ref_partsAs_39, x_Ref_partsAs_42, x_Ref_partsAs_43, x_Ref_partsAs_44, x_Ref_partsAs_45, x_Ref_partsAs_46, x_Ref_partsAs_49, x_Ref_partsAs_50, x_Ref_partsAs_53, x_Ref_partsAs_54, x_Ref_partsAs_57, x_Ref_partsAs_58, x_Ref_partsAs_61, x_Ref_partsAs_62, x_Ref_partsAs_65, x_Ref_partsAs_66, x_Ref_partsAs_67, x_Ref_partsAs_70, x_Ref_partsAs_71, x_Ref_partsAs_72, x_Ref_partsAs_75, x_Ref_partsAs_76, x_Ref_partsAs_77, x_Ref_partsAs_78, x_Ref_partsAs_79, x_Ref_partsAs_80, x_Ref_partsAs_82, x_Ref_partsAs_85, x_Ref_partsAs_86, x_Ref_partsAs_87, x_Ref_partsAs_90, x_Ref_partsAs_91, x_Ref_partsAs_94, x_Ref_partsAs_96, x_Ref_partsAs_97, x_Ref_partsAs_100, x_Ref_partsAs_103, x_Ref_partsAs_104, x_Ref_partsAs_107, x_Ref_partsAs_109, x_Ref_partsAs_110, x_Ref_partsAs_111, x_Ref_partsAs_114, x_Ref_partsAs_115, x_Ref_partsAs_118, x_Ref_partsAs_119, x_Ref_partsAs_120, x_Ref_partsAs_121, x_Ref_partsAs_122, x_Ref_partsAs_125, x_Ref_partsAs_126, x_Ref_partsAs_129, mk_I, mk_J, mk_Q, mk_n, mk_sI, mk_sJ, Option.toList_some, Option.toList_none, List.cons_append, List.nil_append, true_and, and_true, oc_94, if_true, if_false, eq_self, mx_call (rc6 (d := 0) _) _, mx_call q2 _]
theorem zZ {f t : Nat} {x : Int32} (hf : f < 7) (ht : t ≤ 15) (he : m = k) : CaZ n kk k m K M T F pl 16 (nI f) t (lQ f) x := by
  rcases f7 hf with rfl | rfl | rfl | rfl | rfl | rfl | rfl
  · exact wP0 (d := 15) (by omega) (by omega) he
  · exact wP1 (d := 15) (by omega) (by omega) (wP0 (d := 14) (by omega) (by omega) he)
  · exact wP2 (d := 15) (by omega) (wP0 (d := 14) (by omega) (by omega) he)
  · exact wP3 (d := 15) (by omega) (wP0 (d := 14) (by omega) (by omega) he)
  · exact wP4 (d := 15) (by omega) (wP1 (d := 14) (by omega) (by omega) (wP0 (d := 13) (by omega) (by omega) he))
  · exact wP5 (d := 15) (by omega) (wP2 (d := 14) (by omega) (wP0 (d := 13) (by omega) (by omega) he))
  · exact wP6 (d := 15) (by omega) (wP3 (d := 14) (by omega) (wP0 (d := 13) (by omega) (by omega) he))
end VR
/-! the class where it is parted -/
theorem cQ {Ls kk k m f : Nat} {xs : Nat → Int32} {x : Int32} {I : mx_I} (J : mx_J) (hv : VE Ls kk k m xs I 0) (hf : f < 7) (hmk : m = k) : ∃ I', TrQ I I' 0 (lQ f) ∧ mx_Cal mx_tab 5 90 [.ref 78, .int 3, .int (nI f), .int x, .int (nI 0)] (mk I J) (some (.int 0)) (mk I' J) := by
  have up : ∀ {I' : mx_I}, mx_Cal mx_tab 3 90 [.ref 78, .int 3, .int (nI f), .int x, .int (nI 0)] (mk I J) (some (.int 0)) (mk I' J) → mx_Cal mx_tab 5 90 [.ref 78, .int 3, .int (nI f), .int x, .int (nI 0)] (mk I J) (some (.int 0)) (mk I' J) := fun h => mx_Cal_mono (by omega) h
  rcases f7 hf with rfl | rfl | rfl | rfl | rfl | rfl | rfl
  · obtain ⟨I', a, b⟩ := cQ0 (x := x) (e := 0) J hv bd3_0 (by omega) (by omega) hmk
    exact ⟨I', a, up b⟩
  · exact cQ1 (x := x) (e := 0) J hv bd3_1 (by omega) (by omega) hmk
  · obtain ⟨I', a, b⟩ := cQ0 (x := x) (e := 0) J hv bd3_2 (by omega) (by omega) hmk
    exact ⟨I', a, up b⟩
  · obtain ⟨I', a, b⟩ := cQ0 (x := x) (e := 0) J hv bd3_3 (by omega) (by omega) hmk
    exact ⟨I', a, up b⟩
  · exact cQ1 (x := x) (e := 0) J hv bd3_4 (by omega) (by omega) hmk
  · obtain ⟨I', a, b⟩ := cQ0 (x := x) (e := 0) J hv bd3_5 (by omega) (by omega) hmk
    exact ⟨I', a, up b⟩
  · obtain ⟨I', a, b⟩ := cQ0 (x := x) (e := 0) J hv bd3_6 (by omega) (by omega) hmk
    exact ⟨I', a, up b⟩
def vhC (I : mx_I) (kk k m : Nat) : mx_I := mx_ups (mx_ups (mx_ups (mx_ups (mx_ups I 79 1 0) 78 1 0) 78 2 (nI kk)) 78 3 (nI k)) 78 4 (nI m)
def vhR (I : mx_I) (k : Nat) : mx_I := mx_ups (mx_ups (mx_ups I 94 17 0) 94 19 (nI k)) 94 20 0
theorem vhC_ne (I : mx_I) (kk k m : Nat) {a j : Nat} (h : a ≠ 78 ∧ ¬ (a = 79 ∧ j = 1)) : vhC I kk k m a j = I a j := by
  unfold vhC
  simp (disch := omega) only [ups_ne]
theorem vhR_ne (I : mx_I) (k : Nat) {a j : Nat} (h : a ≠ 94 ∨ (j ≠ 17 ∧ j ≠ 19 ∧ j ≠ 20)) : vhR I k a j = I a j := by
  unfold vhR
  simp (disch := omega) only [ups_ne]
theorem L79' : isLn 79 = true := by decide +kernel
theorem q_hear {d n k : Nat} {vo x val : Int32} {K M T F od : Nat → Nat} {I I' : mx_I} (hc : CI I n K M T F od) (hk : k < n) (J : mx_J) (hd : 5 ≤ d) (hs : mx_Cal mx_tab d 90 [.ref 78, .int vo, .int (nI (K k)), .int x, .int 0] (mk (vhC I (K k) k (M k)) J) (some (.int val)) (mk I' J)) : mx_Cal mx_tab (d + 1) 89 [.ref 78, .ref 2, .int (nI k), .int vo, .int x] (mk I J) (some (.int val)) (mk I' J) := by
  have h9 := hc.1
  obtain ⟨b1, b2, b3, b4, b5, d1, d2, d3, d4, d5⟩ := hc.2.2 k hk
  have e1 : ∀ I2 : mx_I, I2 4 k = nI (K k) → at_ I2 3 (nI k) = nI (K k) := fun I2 h => (at3 I2 (show k < 9 by omega)).trans h
  have e2 : ∀ I2 : mx_I, I2 6 k = nI (M k) → at_ I2 5 (nI k) = nI (M k) := fun I2 h => (at5 I2 (show k < 9 by omega)).trans h
  have c0 := q_Line_clear (d := 0) L79' I J
  have c1 := q_Line_at (d := 0) L3 (mx_ups (mx_ups I 79 1 0) 78 1 0) J (nI k)
  rw [e1 _ (by simp (disch := omega) only [ups_ne]; exact d1)] at c1
  have c2 := q_Line_at (d := 0) L5 (mx_ups (mx_ups (mx_ups (mx_ups I 79 1 0) 78 1 0) 78 2 (nI (K k))) 78 3 (nI k)) J (nI k)
  rw [e2 _ (by simp (disch := omega) only [ups_ne]; exact d2)] at c2
  unfold vhC at hs
  refine mx_Cal_in (ls := [some (.ref 78), some (.ref 2), some (.int (nI k)), some (.int vo), some (.int x)]) tab_89 (by rw [mx_rcv, oc_78]; trivial) (Nat.le_of_ble_eq_true rfl) rfl ?_
  simp (disch := omega) only [x_Voices_hear_0, x_Voices_hear_1, x_Voices_hear_4, x_Voices_hear_7, x_Voices_hear_8, x_Voices_hear_9, x_Voices_hear_12, x_Voices_hear_13, x_Voices_hear_14, x_Voices_hear_17, x_Voices_hear_18, x_Voices_hear_21, x_Voices_hear_24, x_Voices_hear_25, x_Voices_hear_26, x_Voices_hear_29, x_Voices_hear_30, x_Voices_hear_31, x_Voices_hear_34, x_Voices_hear_35, x_Voices_hear_38, x_Voices_hear_41, x_Voices_hear_42, x_Voices_hear_43, x_Voices_hear_44, x_Voices_hear_47, x_Voices_hear_49, x_Voices_hear_50, x_Voices_hear_53, mk_I, mk_J, mk_Q, mk_n, mk_sI, mk_sJ, Option.toList_some, Option.toList_none, List.cons_append, List.nil_append, true_and, and_true, oc_78, oc_2, rt_78_0, rt_2_1, rt_2_2, rt_2_3, rt_2_4, rt_2_5, decide_true, Bool.or_true, Bool.true_or, Bool.and_true, mx_call c0 _, mx_call c1 _, mx_call c2 _, ups_ne, ups_same, mx_call hs _]
theorem Inv.trcE {L : Nat} {xs : Nat → Int32} {I I' : mx_I} (h : Inv L xs I) (e : ∀ a j, ¬ ((a = 0 ∧ j ≠ 2) ∨ a = 20 ∨ a = 21 ∨ a = 25 ∨ a = 26 ∨ a = 53 ∨ (55 ≤ a ∧ a ≤ 62) ∨ (63 ≤ a ∧ a ≤ 66 ∧ j ≠ 0) ∨ (67 ≤ a ∧ a ≤ 78) ∨ (a = 94 ∧ j ≠ 2 ∧ j ≠ 17) ∨ (98 ≤ a ∧ a ≤ 104) ∨ a = 109 ∨ a = 79 ∨ a = 80 ∨ a = 105 ∨ (a = 94 ∧ j = 17) ∨ a = 54 ∨ a = 97) → I' a j = I a j) (he : ErrR I') (ht : ∃ t, t ≤ 30 ∧ I' 79 1 = nI t ∧ I' 94 17 = nI t ∧ ∀ j, j < t → I' 80 j = I' 105 j) : Inv L xs I' := by
  obtain ⟨b1, b2, b3, b4, b5, b6⟩ := h
  exact ⟨b1.scr (fun a j q => e a j (by omega)), ⟨by rw [e 0 2 (by omega), e 94 2 (by omega)]; exact b2.1, fun q => (b2.2 (by rw [← e 0 2 (by omega)]; exact q)).congr (fun a j q1 q2 => e a j (by omega)) (fun j => e 96 j (by omega))⟩, he, ⟨fun a q1 q2 => by rw [e a 0 (by omega)]; exact b4.1 a q1 q2, ht⟩, fun q hq => (b5 q hq).congr hq (fun a j q1 q2 => e a j (by omega)) (fun a j q1 q2 => e a j (by omega)), fun a i ha => by rw [e a i (by omega)]; exact b6 a i ha⟩
theorem ErrR.fin {I I1 I2 : mx_I} (k : Nat) (h : ErrR I) (h1 : ∀ j, I1 54 j = I 54 j) (h2 : ∀ j, I1 97 j = I 97 j) (h3 : ∀ j, I2 54 j = eX I1 k 54 j) (h4 : ∀ j, I2 97 j = eX I1 k 97 j) : ErrR (eM I2 k) := by
  intro z hz
  have h0 := h z hz
  have e1 : eM I2 k 54 z = eX I1 k 54 z := (eM_a I2 k (by decide) z).trans (h3 z)
  have e2 : I2 97 z = I 97 z := (h4 z).trans ((eX_a I1 k (by decide) z).trans (h2 z))
  rw [e1]
  unfold eM eX
  by_cases q : z = k
  · subst q
    rw [ups_same, ups_same, e2, h1 z, h0]
  · rw [ups_k _ _ q, ups_k _ _ q, e2, h1 z, h0]
theorem lens {kk : Nat} (hk : kk < 7) : (lR kk).length ≤ 3 ∧ (lA kk kk).length ≤ 7 ∧ (lW kk kk).length ≤ 10 ∧ (lP kk kk).length ≤ 10 ∧ (lQ kk).length ≤ 2 := by
  rcases f7 hk with rfl | rfl | rfl | rfl | rfl | rfl | rfl <;> decide
theorem v03 {x1 : Int32} (h1 : ¬ x1 < 0) (h2 : ¬ (3 : Int32) < x1) : x1 = 0 ∨ x1 = 1 ∨ x1 = 2 ∨ x1 = 3 := by
  obtain ⟨w, hw, rfl⟩ := rng0 (b := 3) (by omega) h1 h2
  have : w = 0 ∨ w = 1 ∨ w = 2 ∨ w = 3 := by omega
  rcases this with rfl | rfl | rfl | rfl
  · exact Or.inl rfl
  · exact Or.inr (Or.inl rfl)
  · exact Or.inr (Or.inr (Or.inl rfl))
  · exact Or.inr (Or.inr (Or.inr rfl))
theorem tr_same {I1 I2 : mx_I} {L : List Int32} (h1 : I1 79 1 = nI (0 + L.length)) (h2 : ∀ j, j < L.length → I1 80 (0 + j) = L.getD j 0) (g1 : I2 94 17 = nI (0 + L.length)) (g2 : ∀ j, j < L.length → I2 105 (0 + j) = L.getD j 0) (hl : L.length ≤ 30) (e1 : ∀ j, I2 79 j = I1 79 j) (e2 : ∀ j, I2 80 j = I1 80 j) : ∃ t, t ≤ 30 ∧ I2 79 1 = nI t ∧ I2 94 17 = nI t ∧ ∀ j, j < t → I2 80 j = I2 105 j := by
  rw [Nat.zero_add] at h1 g1
  refine ⟨L.length, hl, (e1 1).trans h1, g1, fun j hj => ?_⟩
  have a := h2 j hj
  have b := g2 j hj
  rw [Nat.zero_add] at a b
  rw [e2, a, b]
theorem op_voice {L : Nat} {xs : Nat → Int32} {I : mx_I} (hI : Inv L xs I) (x0 x1 x2 : Int32) : OpI L xs I 122 224 [.int x0, .int x1, .int x2] := by
  obtain ⟨⟨n, pl, od, hit⟩, hcl, htp, hw, ht0, ht1⟩ := hI.1
  have ho := hit.2.2.2.1
  have hz5 := hit.2.2.2.2.2
  obtain ⟨K, M, T, F, hc, hr⟩ := hit.sk
  have h9 := hc.1
  have hn := hc.2.1
  have hm := hr.2.1
  obtain ⟨z0, a, b, c, a9, b9, c9, ca, ra, cb, rb, cc, rc⟩ := hcl
  have z0 : I 1 4 = I 95 3 := z0
  have ca : I 1 1 = nI a := ca
  have cb : I 1 2 = nI b := cb
  have cc : I 1 3 = nI c := cc
  rcases hasV_cases h9 x0 with e0 | ⟨k, hk, rfl⟩
  · refine OpI.err hI 1 (fun J => ?_) (fun J => ?_)
    · refine mx_Cal_in (ls := [some (.ref 0), some (.int _), some (.int _), some (.int _), none]) (d := 299) tab_122 (by rw [mx_rcv, oc_0]; trivial) (Nat.le_of_ble_eq_true rfl) rfl ?_
      simp (disch := omega) only [x_Main_voice_0, x_Main_voice_1, x_Main_voice_4, x_Main_voice_7, x_Main_voice_8, x_Main_voice_11, x_Main_voice_14, x_Main_voice_15, x_Main_voice_18, x_Main_voice_19, x_Main_voice_20, x_Main_voice_23, x_Main_voice_24, x_Main_voice_25, x_Main_voice_28, mk_I, mk_J, mk_Q, mk_n, mk_sI, mk_sJ, Option.toList_some, Option.toList_none, List.cons_append, List.nil_append, true_and, and_true, ↓reduceIte, leT, leF, ltT, ltF, eqF, lt0F, le0T, le0F, eq0F, natT, nI_clamp, nI_1, if_true, if_false, not_true_eq_false, not_false_eq_true, z_00, z_10, eq_self, true_or, or_true, or_false, false_or, oc_0, oc_1, oc_2, rt_0_0, rt_0_1, rt_0_3, rt_0_4, rt_0_5, rt_0_6, rt_0_7, rt_0_8, rt_0_9, rt_1_0, rt_1_5, rt_1_6, rt_1_7, rt_1_8, rt_2_1, rt_2_2, rt_2_3, rt_2_4, rt_2_5, mx_call (q_has (d := 0) hn J _) _, e0, mx_call (x_err_1 (d := 0) I J) _, mx_call (x_errN (d := 0) (k := 1) I J (by omega)) _]
    · refine mx_Cal_in (ls := [some (.ref 94), some (.int _), some (.int _), some (.int _), none, none]) (d := 299) tab_224 (by rw [mx_rcv, oc_94]; trivial) (Nat.le_of_ble_eq_true rfl) rfl ?_
      simp (disch := omega) only [x_Ref_voice_0, x_Ref_voice_1, x_Ref_voice_2, x_Ref_voice_5, x_Ref_voice_8, x_Ref_voice_9, x_Ref_voice_10, x_Ref_voice_11, x_Ref_voice_14, x_Ref_voice_17, x_Ref_voice_18, x_Ref_voice_19, x_Ref_voice_22, mk_I, mk_J, mk_Q, mk_n, mk_sI, mk_sJ, Option.toList_some, Option.toList_none, List.cons_append, List.nil_append, true_and, and_true, ↓reduceIte, leT, leF, ltT, ltF, eqF, lt0F, le0T, le0F, eq0F, natT, nI_clamp, nI_1, if_true, if_false, not_true_eq_false, not_false_eq_true, z_00, z_10, eq_self, true_or, or_true, or_false, false_or, oc_94, rt_94_0, rt_94_1, rt_94_3, rt_94_8, rt_94_9, rt_94_10, rt_94_11, rt_94_12, rt_94_15, rt_94_16, rt_94_18, rt_94_21, rt_94_22, rt_94_23, rt_94_24, or_95, oa_95, tc_0, kc_0, k0_0, tc_1, kc_1, k0_1, tc_2, kc_2, k0_2, tc_3, kc_3, k0_3, tc_4, kc_4, k0_4, tc_5, kc_5, k0_5, tc_6, kc_6, k0_6, tc_7, kc_7, k0_7, eX95, eX94, mx_call (q_rHas (d := 0) (hr.eX 1) J _) _, e0, mx_call (m_err_1 (d := 0) (eX I 1) J) _, mx_call (m_errN (d := 0) (k := 1) (eX I 1) J (by omega)) _]
  have e0 := hasV_k h9 hk
  obtain ⟨b1, b2, b3, b4, b5, d1, d2, d3, d4, d5⟩ := hc.2.2 k hk
  by_cases h1 : x1 < 0
  · refine OpI.err hI 1 (fun J => ?_) (fun J => ?_)
    · refine mx_Cal_in (ls := [some (.ref 0), some (.int _), some (.int _), some (.int _), none]) (d := 299) tab_122 (by rw [mx_rcv, oc_0]; trivial) (Nat.le_of_ble_eq_true rfl) rfl ?_
      simp (disch := omega) only [x_Main_voice_0, x_Main_voice_1, x_Main_voice_4, x_Main_voice_7, x_Main_voice_8, x_Main_voice_11, x_Main_voice_14, x_Main_voice_15, x_Main_voice_18, x_Main_voice_19, x_Main_voice_20, x_Main_voice_23, x_Main_voice_24, x_Main_voice_25, x_Main_voice_28, mk_I, mk_J, mk_Q, mk_n, mk_sI, mk_sJ, Option.toList_some, Option.toList_none, List.cons_append, List.nil_append, true_and, and_true, ↓reduceIte, leT, leF, ltT, ltF, eqF, lt0F, le0T, le0F, eq0F, natT, nI_clamp, nI_1, if_true, if_false, not_true_eq_false, not_false_eq_true, z_00, z_10, eq_self, true_or, or_true, or_false, false_or, oc_0, oc_1, oc_2, rt_0_0, rt_0_1, rt_0_3, rt_0_4, rt_0_5, rt_0_6, rt_0_7, rt_0_8, rt_0_9, rt_1_0, rt_1_5, rt_1_6, rt_1_7, rt_1_8, rt_2_1, rt_2_2, rt_2_3, rt_2_4, rt_2_5, ite_le, mx_call (q_has (d := 0) hn J _) _, e0, h1, mx_call (x_err_1 (d := 0) I J) _, mx_call (x_errN (d := 0) (k := 1) I J (by omega)) _]
    · refine mx_Cal_in (ls := [some (.ref 94), some (.int _), some (.int _), some (.int _), none, none]) (d := 299) tab_224 (by rw [mx_rcv, oc_94]; trivial) (Nat.le_of_ble_eq_true rfl) rfl ?_
      simp (disch := omega) only [x_Ref_voice_0, x_Ref_voice_1, x_Ref_voice_2, x_Ref_voice_5, x_Ref_voice_8, x_Ref_voice_9, x_Ref_voice_10, x_Ref_voice_11, x_Ref_voice_14, x_Ref_voice_17, x_Ref_voice_18, x_Ref_voice_19, x_Ref_voice_22, mk_I, mk_J, mk_Q, mk_n, mk_sI, mk_sJ, Option.toList_some, Option.toList_none, List.cons_append, List.nil_append, true_and, and_true, ↓reduceIte, leT, leF, ltT, ltF, eqF, lt0F, le0T, le0F, eq0F, natT, nI_clamp, nI_1, if_true, if_false, not_true_eq_false, not_false_eq_true, z_00, z_10, eq_self, true_or, or_true, or_false, false_or, oc_94, rt_94_0, rt_94_1, rt_94_3, rt_94_8, rt_94_9, rt_94_10, rt_94_11, rt_94_12, rt_94_15, rt_94_16, rt_94_18, rt_94_21, rt_94_22, rt_94_23, rt_94_24, or_95, oa_95, tc_0, kc_0, k0_0, tc_1, kc_1, k0_1, tc_2, kc_2, k0_2, tc_3, kc_3, k0_3, tc_4, kc_4, k0_4, tc_5, kc_5, k0_5, tc_6, kc_6, k0_6, tc_7, kc_7, k0_7, eX95, eX94, mx_call (q_rHas (d := 0) (hr.eX 1) J _) _, e0, mx_call (q_Ref_in (d := 0) _ _ _ _) _, h1, mx_call (m_err_1 (d := 0) (eX I 1) J) _, mx_call (m_errN (d := 0) (k := 1) (eX I 1) J (by omega)) _]
  by_cases h2 : (3 : Int32) < x1
  · refine OpI.err hI 1 (fun J => ?_) (fun J => ?_)
    · refine mx_Cal_in (ls := [some (.ref 0), some (.int _), some (.int _), some (.int _), none]) (d := 299) tab_122 (by rw [mx_rcv, oc_0]; trivial) (Nat.le_of_ble_eq_true rfl) rfl ?_
      simp (disch := omega) only [x_Main_voice_0, x_Main_voice_1, x_Main_voice_4, x_Main_voice_7, x_Main_voice_8, x_Main_voice_11, x_Main_voice_14, x_Main_voice_15, x_Main_voice_18, x_Main_voice_19, x_Main_voice_20, x_Main_voice_23, x_Main_voice_24, x_Main_voice_25, x_Main_voice_28, mk_I, mk_J, mk_Q, mk_n, mk_sI, mk_sJ, Option.toList_some, Option.toList_none, List.cons_append, List.nil_append, true_and, and_true, ↓reduceIte, leT, leF, ltT, ltF, eqF, lt0F, le0T, le0F, eq0F, natT, nI_clamp, nI_1, if_true, if_false, not_true_eq_false, not_false_eq_true, z_00, z_10, eq_self, true_or, or_true, or_false, false_or, oc_0, oc_1, oc_2, rt_0_0, rt_0_1, rt_0_3, rt_0_4, rt_0_5, rt_0_6, rt_0_7, rt_0_8, rt_0_9, rt_1_0, rt_1_5, rt_1_6, rt_1_7, rt_1_8, rt_2_1, rt_2_2, rt_2_3, rt_2_4, rt_2_5, ite_le, mx_call (q_has (d := 0) hn J _) _, e0, h1, h2, mx_call (x_err_1 (d := 0) I J) _, mx_call (x_errN (d := 0) (k := 1) I J (by omega)) _]
    · refine mx_Cal_in (ls := [some (.ref 94), some (.int _), some (.int _), some (.int _), none, none]) (d := 299) tab_224 (by rw [mx_rcv, oc_94]; trivial) (Nat.le_of_ble_eq_true rfl) rfl ?_
      simp (disch := omega) only [x_Ref_voice_0, x_Ref_voice_1, x_Ref_voice_2, x_Ref_voice_5, x_Ref_voice_8, x_Ref_voice_9, x_Ref_voice_10, x_Ref_voice_11, x_Ref_voice_14, x_Ref_voice_17, x_Ref_voice_18, x_Ref_voice_19, x_Ref_voice_22, mk_I, mk_J, mk_Q, mk_n, mk_sI, mk_sJ, Option.toList_some, Option.toList_none, List.cons_append, List.nil_append, true_and, and_true, ↓reduceIte, leT, leF, ltT, ltF, eqF, lt0F, le0T, le0F, eq0F, natT, nI_clamp, nI_1, if_true, if_false, not_true_eq_false, not_false_eq_true, z_00, z_10, eq_self, true_or, or_true, or_false, false_or, oc_94, rt_94_0, rt_94_1, rt_94_3, rt_94_8, rt_94_9, rt_94_10, rt_94_11, rt_94_12, rt_94_15, rt_94_16, rt_94_18, rt_94_21, rt_94_22, rt_94_23, rt_94_24, or_95, oa_95, tc_0, kc_0, k0_0, tc_1, kc_1, k0_1, tc_2, kc_2, k0_2, tc_3, kc_3, k0_3, tc_4, kc_4, k0_4, tc_5, kc_5, k0_5, tc_6, kc_6, k0_6, tc_7, kc_7, k0_7, eX95, eX94, mx_call (q_rHas (d := 0) (hr.eX 1) J _) _, e0, mx_call (q_Ref_in (d := 0) _ _ _ _) _, h1, h2, mx_call (m_err_1 (d := 0) (eX I 1) J) _, mx_call (m_errN (d := 0) (k := 1) (eX I 1) J (by omega)) _]
  obtain ⟨l1, l2, l3, l4, l5⟩ := lens b1
  have hvC : VE L (K k) k (M k) xs (vhC I (K k) k (M k)) 0 := by
    refine ⟨hI.2.2.2.2.2.upd (fun a j ha => vhC_ne I _ _ _ (by omega)), ?_, ?_, ?_, ?_, ?_⟩ <;> unfold vhC <;> simp (disch := omega) only [ups_ne, ups_same, nI_0]
  have hvR : ∀ I1 : mx_I, (∀ j, I1 95 j = I 95 j) → RE n (K k) k (M k) K M T F pl (vhR I1 k) 0 := fun I1 h => by
    refine ⟨hr.congr (fun j _ => (vhR_ne I1 k (by omega)).trans (h j)), hk, rfl, rfl, ?_, ?_, ?_⟩ <;> unfold vhR <;> simp (disch := omega) only [ups_ne, ups_same, nI_0]
  intro J
  by_cases hpart : x1 = 3 ∧ M k = k
  · obtain ⟨rfl, hmk⟩ := hpart
    obtain ⟨I1, ⟨p1, p2, p3, p4, p5⟩, pc⟩ := cQ (x := x2) J hvC b1 hmk
    have ph := q_hear (d := 5) hc hk J (by omega) pc
    have hx : ∀ j, eX I1 6 95 j = I 95 j := fun j => (eX95 I1 6 j).trans ((p5 95 j (by omega) (by omega) (by omega)).trans (vhC_ne I _ _ _ (by omega)))
    obtain ⟨I2, ⟨r1, r2, r3, r4, r5⟩, rc⟩ := zZ (x := x2) b1 (by omega) hmk _ J (hvR (eX I1 6) hx)
    have hkn := q_kNow (d := 0) (hvR (eX I1 6) hx) J
    have hr1 : RI (eX I1 6) n K M T F pl := hr.congr (fun j _ => hx j)
    have fr : ∀ a j, ¬ (a = 78 ∨ (a = 79 ∧ j = 1) ∨ a = 80 ∨ (a = 94 ∧ (j = 17 ∨ j = 19 ∨ j = 20)) ∨ a = 105 ∨ a = 54) → I2 a j = I a j := fun a j q => by
      rw [r5 a j (by omega) (by omega) (by omega), vhR_ne _ _ (by omega), eX_a _ _ (by omega), p5 a j (by omega) (by omega) (by omega), vhC_ne _ _ _ _ (by omega)]
    have f54 : ∀ j, I2 54 j = eX I1 6 54 j := fun j => by rw [r5 54 j (by omega) (by omega) (by omega), vhR_ne _ _ (by omega)]
    have f97 : ∀ j, I2 97 j = eX I1 6 97 j := fun j => by rw [r5 97 j (by omega) (by omega) (by omega), vhR_ne _ _ (by omega)]
    have g54 : ∀ j, I1 54 j = I 54 j := fun j => by rw [p5 54 j (by omega) (by omega) (by omega), vhC_ne _ _ _ _ (by omega)]
    have g97 : ∀ j, I1 97 j = I 97 j := fun j => by rw [p5 97 j (by omega) (by omega) (by omega), vhC_ne _ _ _ _ (by omega)]
    have f79 : ∀ j, I2 79 j = I1 79 j := fun j => by rw [r5 79 j (by omega) (by omega) (by omega), vhR_ne _ _ (by omega), eX_a _ _ (by omega)]
    have f80 : ∀ j, I2 80 j = I1 80 j := fun j => by rw [r5 80 j (by omega) (by omega) (by omega), vhR_ne _ _ (by omega), eX_a _ _ (by omega)]
    refine ⟨-1000000000 - nI 6, eX I1 6, eM I2 6, J, J, ?_, ?_, ?_, ?_⟩
    · refine mx_Cal_in (ls := [some (.ref 0), some (.int _), some (.int _), some (.int _), none]) (d := 299) tab_122 (by rw [mx_rcv, oc_0]; trivial) (Nat.le_of_ble_eq_true rfl) rfl ?_
      simp (disch := omega) only [x_Main_voice_0, x_Main_voice_1, x_Main_voice_4, x_Main_voice_7, x_Main_voice_8, x_Main_voice_11, x_Main_voice_14, x_Main_voice_15, x_Main_voice_18, x_Main_voice_19, x_Main_voice_20, x_Main_voice_23, x_Main_voice_24, x_Main_voice_25, x_Main_voice_28, x_Main_voice_29, x_Main_voice_30, x_Main_voice_33, x_Main_voice_34, x_Main_voice_37, x_Main_voice_40, x_Main_voice_41, x_Main_voice_42, x_Main_voice_43, x_Main_voice_46, x_Main_voice_48, x_Main_voice_49, x_Main_voice_52, x_Main_voice_55, x_Main_voice_58, x_Main_voice_59, x_Main_voice_61, x_Main_voice_64, x_Main_voice_67, x_Main_voice_69, mk_I, mk_J, mk_Q, mk_n, mk_sI, mk_sJ, Option.toList_some, Option.toList_none, List.cons_append, List.nil_append, true_and, and_true, ↓reduceIte, leT, leF, ltT, ltF, eqF, lt0F, le0T, le0F, eq0F, natT, nI_clamp, nI_1, if_true, if_false, not_true_eq_false, not_false_eq_true, z_00, z_10, eq_self, true_or, or_true, or_false, false_or, oc_0, oc_1, oc_2, rt_0_0, rt_0_1, rt_0_3, rt_0_4, rt_0_5, rt_0_6, rt_0_7, rt_0_8, rt_0_9, rt_1_0, rt_1_5, rt_1_6, rt_1_7, rt_1_8, rt_2_1, rt_2_2, rt_2_3, rt_2_4, rt_2_5, oc_78, ite_le, mx_call (q_has (d := 0) hn J _) _, e0, h1, h2, mx_call ph _, p4, mx_call (x_err_6 (d := 0) I1 J) _, mx_call (x_errN (d := 0) (k := 6) I1 J (by omega)) _]
    · refine mx_Cal_in (ls := [some (.ref 94), some (.int _), some (.int _), some (.int _), none, none]) (d := 299) tab_224 (by rw [mx_rcv, oc_94]; trivial) (Nat.le_of_ble_eq_true rfl) rfl ?_
      unfold vhR at rc hkn
      simp (decide := true) (disch := omega) only [x_Ref_voice_0, x_Ref_voice_1, x_Ref_voice_2, x_Ref_voice_5, x_Ref_voice_8, x_Ref_voice_9, x_Ref_voice_10, x_Ref_voice_11, x_Ref_voice_14, x_Ref_voice_17, x_Ref_voice_18, x_Ref_voice_19, x_Ref_voice_22, x_Ref_voice_23, x_Ref_voice_24, x_Ref_voice_25, x_Ref_voice_28, x_Ref_voice_29, x_Ref_voice_30, x_Ref_voice_33, x_Ref_voice_34, x_Ref_voice_35, x_Ref_voice_38, x_Ref_voice_39, x_Ref_voice_42, x_Ref_voice_44, x_Ref_voice_45, x_Ref_voice_48, x_Ref_voice_49, x_Ref_voice_51, x_Ref_voice_52, x_Ref_voice_55, x_Ref_voice_58, x_Ref_voice_59, x_Ref_voice_60, x_Ref_voice_63, x_Ref_voice_64, x_Ref_voice_66, x_Ref_voice_67, x_Ref_voice_70, x_Ref_voice_73, x_Ref_voice_74, x_Ref_voice_75, x_Ref_voice_78, x_Ref_voice_79, x_Ref_voice_81, x_Ref_voice_82, x_Ref_voice_85, x_Ref_voice_88, x_Ref_voice_89, x_Ref_voice_91, x_Ref_voice_92, x_Ref_voice_95, x_Ref_voice_97, x_Ref_voice_98, x_Ref_voice_101, x_Ref_voice_104, x_Ref_voice_105, x_Ref_voice_107, x_Ref_voice_110, x_Ref_voice_113, x_Ref_voice_115, mk_I, mk_J, mk_Q, mk_n, mk_sI, mk_sJ, Option.toList_some, Option.toList_none, List.cons_append, List.nil_append, true_and, and_true, ↓reduceIte, leT, leF, ltT, ltF, eqF, lt0F, le0T, le0F, eq0F, natT, nI_clamp, nI_1, if_true, if_false, not_true_eq_false, not_false_eq_true, z_00, z_10, eq_self, true_or, or_true, or_false, false_or, oc_94, rt_94_0, rt_94_1, rt_94_3, rt_94_8, rt_94_9, rt_94_10, rt_94_11, rt_94_12, rt_94_15, rt_94_16, rt_94_18, rt_94_21, rt_94_22, rt_94_23, rt_94_24, or_95, oa_95, tc_0, kc_0, k0_0, tc_1, kc_1, k0_1, tc_2, kc_2, k0_2, tc_3, kc_3, k0_3, tc_4, kc_4, k0_4, tc_5, kc_5, k0_5, tc_6, kc_6, k0_6, tc_7, kc_7, k0_7, decide_true, Bool.or_true, Bool.true_or, Bool.and_true, mx_call (q_rHas (d := 0) hr1 J _) _, e0, mx_call (q_Ref_in (d := 0) _ _ _ _) _, h1, h2, mx_call hkn _, mx_call rc _, r4, mx_call (m_err_6 (d := 0) I2 J) _, mx_call (m_errN (d := 0) (k := 6) I2 J (by omega)) _]
    · exact hI.2.2.2.2.2.upd (fun a j ha => by rw [eX_a _ _ (by omega), p5 a j (by omega) (by omega) (by omega), vhC_ne _ _ _ _ (by omega)])
    · refine hI.trcE (fun a j q => by rw [eM_a _ _ (by omega)]; exact fr a j (by omega)) (ErrR.fin 6 hI.2.2.1 g54 g97 f54 f97) ?_
      have e97 : ∀ a j, a ≠ 97 → eM I2 6 a j = I2 a j := fun a j q => eM_a _ _ q j
      obtain ⟨t, t1, t2, t3, t4⟩ := tr_same p1 p3 r1 r3 (by omega) f79 f80
      exact ⟨t, t1, by rw [e97 _ _ (by omega)]; exact t2, by rw [e97 _ _ (by omega)]; exact t3, fun j hj => by rw [e97 _ _ (by omega), e97 _ _ (by omega)]; exact t4 j hj⟩
  have main : ∀ (Lt : List Int32) (val : Int32), Lt.length ≤ 10 → (∃ d, d ≤ 40 ∧ 5 ≤ d ∧ ∃ I1, TrX (vhC I (K k) k (M k)) I1 0 Lt ∧ mx_Cal mx_tab d 90 [.ref 78, .int x1, .int (nI (K k)), .int x2, .int 0] (mk (vhC I (K k) k (M k)) J) (some (.int val)) (mk I1 J)) → (∀ I1 : mx_I, (∀ j, I1 95 j = I 95 j) → ∃ I2, TrY (vhR I1 k) I2 0 Lt ∧ (I2 94 20 = 0 → ∀ P : mx_P, P (some (.int val)) (mk I2 J) → mx_R k_Ref_voice (mx_Cal mx_tab 299) 44 [some (.ref 94), some (.int (nI k)), some (.int x1), some (.int x2), some (.int (nI (K k))), none] [] (mk (vhR I1 k) J) P)) → ∃ (v : Int32) (I1 I2 : mx_I) (J1 J2 : mx_J), mx_Cal mx_tab 300 122 [.ref 0, .int (nI k), .int x1, .int x2] (mk I J) (some (.int v)) (mk I1 J1) ∧ mx_Cal mx_tab 300 224 [.ref 94, .int (nI k), .int x1, .int x2] (mk I1 J1) (some (.int v)) (mk I2 J2) ∧ StatR L xs I1 ∧ Inv L xs I2 := by
    intro Lt val hlt ⟨d, hd1, hd2, I1, ⟨p1, p2, p3, p5⟩, pc⟩ hR
    have hx : ∀ j, I1 95 j = I 95 j := fun j => (p5 95 j (by omega) (by omega)).trans (vhC_ne I _ _ _ (by omega))
    obtain ⟨I2, ⟨r1, r2, r3, r5⟩, rc⟩ := hR I1 hx
    have hkn := q_kNow (d := 0) (hvR I1 hx) J
    have hr1 : RI I1 n K M T F pl := hr.congr (fun j _ => hx j)
    have ph := q_hear (d := d) hc hk J hd2 pc
    have p4 : I1 78 1 = 0 := (p5 78 1 (by omega) (by omega)).trans hvC.2.2.1
    have r4 : I2 94 20 = 0 := (r5 94 20 (by omega) (by omega)).trans (hvR I1 hx).2.2.2.2.2.2
    have fr : ∀ a j, ¬ (a = 78 ∨ (a = 79 ∧ j = 1) ∨ a = 80 ∨ (a = 94 ∧ (j = 17 ∨ j = 19 ∨ j = 20)) ∨ a = 105) → I2 a j = I a j := fun a j q => by
      rw [r5 a j (by omega) (by omega), vhR_ne _ _ (by omega), p5 a j (by omega) (by omega), vhC_ne _ _ _ _ (by omega)]
    have f79 : ∀ j, I2 79 j = I1 79 j := fun j => by rw [r5 79 j (by omega) (by omega), vhR_ne _ _ (by omega)]
    have f80 : ∀ j, I2 80 j = I1 80 j := fun j => by rw [r5 80 j (by omega) (by omega), vhR_ne _ _ (by omega)]
    refine ⟨val, I1, I2, J, J, ?_, ?_, ?_, ?_⟩
    · refine mx_Cal_in (ls := [some (.ref 0), some (.int (nI k)), some (.int x1), some (.int x2), none]) (d := 299) tab_122 (by rw [mx_rcv, oc_0]; trivial) (Nat.le_of_ble_eq_true rfl) rfl ?_
      simp (disch := omega) only [x_Main_voice_0, x_Main_voice_1, x_Main_voice_4, x_Main_voice_7, x_Main_voice_8, x_Main_voice_11, x_Main_voice_14, x_Main_voice_15, x_Main_voice_18, x_Main_voice_19, x_Main_voice_20, x_Main_voice_23, x_Main_voice_24, x_Main_voice_25, x_Main_voice_28, x_Main_voice_29, x_Main_voice_30, x_Main_voice_33, x_Main_voice_34, x_Main_voice_37, x_Main_voice_40, x_Main_voice_41, x_Main_voice_42, x_Main_voice_43, x_Main_voice_46, x_Main_voice_48, x_Main_voice_49, x_Main_voice_52, x_Main_voice_55, x_Main_voice_58, x_Main_voice_59, x_Main_voice_61, x_Main_voice_64, x_Main_voice_67, x_Main_voice_69, mk_I, mk_J, mk_Q, mk_n, mk_sI, mk_sJ, Option.toList_some, Option.toList_none, List.cons_append, List.nil_append, true_and, and_true, ↓reduceIte, leT, leF, ltT, ltF, eqF, lt0F, le0T, le0F, eq0F, natT, nI_clamp, nI_1, if_true, if_false, not_true_eq_false, not_false_eq_true, z_00, z_10, eq_self, true_or, or_true, or_false, false_or, oc_0, oc_1, oc_2, rt_0_0, rt_0_1, rt_0_3, rt_0_4, rt_0_5, rt_0_6, rt_0_7, rt_0_8, rt_0_9, rt_1_0, rt_1_5, rt_1_6, rt_1_7, rt_1_8, rt_2_1, rt_2_2, rt_2_3, rt_2_4, rt_2_5, oc_78, ite_le, mx_call (q_has (d := 0) hn J _) _, e0, h1, h2, mx_call ph _, p4]
    · refine mx_Cal_in (ls := [some (.ref 94), some (.int (nI k)), some (.int x1), some (.int x2), none, none]) (d := 299) tab_224 (by rw [mx_rcv, oc_94]; trivial) (Nat.le_of_ble_eq_true rfl) rfl ?_
      simp (disch := omega) only [x_Ref_voice_0, x_Ref_voice_1, x_Ref_voice_2, x_Ref_voice_5, x_Ref_voice_8, x_Ref_voice_9, x_Ref_voice_10, x_Ref_voice_11, x_Ref_voice_14, x_Ref_voice_17, x_Ref_voice_18, x_Ref_voice_19, x_Ref_voice_22, x_Ref_voice_23, x_Ref_voice_24, x_Ref_voice_25, x_Ref_voice_28, x_Ref_voice_29, x_Ref_voice_30, x_Ref_voice_33, x_Ref_voice_34, x_Ref_voice_35, mk_I, mk_J, mk_Q, mk_n, mk_sI, mk_sJ, Option.toList_some, Option.toList_none, List.cons_append, List.nil_append, true_and, and_true, ↓reduceIte, leT, leF, ltT, ltF, eqF, lt0F, le0T, le0F, eq0F, natT, nI_clamp, nI_1, if_true, if_false, not_true_eq_false, not_false_eq_true, z_00, z_10, eq_self, true_or, or_true, or_false, false_or, oc_94, rt_94_0, rt_94_1, rt_94_3, rt_94_8, rt_94_9, rt_94_10, rt_94_11, rt_94_12, rt_94_15, rt_94_16, rt_94_18, rt_94_21, rt_94_22, rt_94_23, rt_94_24, or_95, oa_95, tc_0, kc_0, k0_0, tc_1, kc_1, k0_1, tc_2, kc_2, k0_2, tc_3, kc_3, k0_3, tc_4, kc_4, k0_4, tc_5, kc_5, k0_5, tc_6, kc_6, k0_6, tc_7, kc_7, k0_7, z_00, decide_true, Bool.or_true, Bool.true_or, Bool.and_true, mx_call (q_rHas (d := 0) hr1 J _) _, e0, mx_call (q_Ref_in (d := 0) _ _ _ _) _, h1, h2]
      rw [x_Ref_voice_38]
      show mx_R k_Ref_voice (mx_Cal mx_tab 299) 39 [some (.ref 94), some (.int (nI k)), some (.int x1), some (.int x2), none, none] [.ref 94] (mk (vhR I1 k) J) _
      simp (disch := omega) only [x_Ref_voice_39, x_Ref_voice_42, mk_I, mk_J, mk_Q, mk_n, mk_sI, mk_sJ, Option.toList_some, Option.toList_none, List.cons_append, List.nil_append, true_and, and_true, mx_call hkn _]
      exact rc r4 _ ⟨rfl, rfl⟩
    · exact hI.2.2.2.2.2.upd (fun a j ha => by rw [p5 a j (by omega) (by omega), vhC_ne _ _ _ _ (by omega)])
    · exact hI.trc (fun a j q => fr a j (by omega)) (tr_same p1 p3 r1 r3 (by omega) f79 f80)
  rcases v03 h1 h2 with rfl | rfl | rfl | rfl
  · refine main (lR (K k)) (vR k (K k) x2) (by omega) ⟨2 * (lR (K k)).length + 1 + 4, by omega, by omega, ?_⟩ (fun I1 hx => ?_)
    · obtain ⟨I1, a, b⟩ := cR (e := 0) (x := x2) b1 (by omega) (by omega) _ J hvC
      exact ⟨I1, a, mx_Cal_mono (by omega) b⟩
    · obtain ⟨I2, a, b⟩ := zR (x := x2) b1 (by omega) _ J (hvR I1 hx)
      refine ⟨I2, a, fun hz P hP => ?_⟩
      simp (decide := true) (disch := omega) only [x_Ref_voice_44, x_Ref_voice_45, x_Ref_voice_48, x_Ref_voice_49, x_Ref_voice_51, x_Ref_voice_52, x_Ref_voice_55, x_Ref_voice_58, x_Ref_voice_59, x_Ref_voice_60, x_Ref_voice_63, x_Ref_voice_64, x_Ref_voice_66, x_Ref_voice_67, x_Ref_voice_70, x_Ref_voice_73, x_Ref_voice_74, x_Ref_voice_75, x_Ref_voice_78, x_Ref_voice_79, x_Ref_voice_81, x_Ref_voice_82, x_Ref_voice_85, x_Ref_voice_88, x_Ref_voice_89, x_Ref_voice_91, x_Ref_voice_92, x_Ref_voice_95, x_Ref_voice_97, x_Ref_voice_98, x_Ref_voice_101, x_Ref_voice_104, x_Ref_voice_105, x_Ref_voice_107, x_Ref_voice_110, x_Ref_voice_113, x_Ref_voice_115, mk_I, mk_J, mk_Q, mk_n, mk_sI, mk_sJ, Option.toList_some, Option.toList_none, List.cons_append, List.nil_append, true_and, and_true, ↓reduceIte, leT, leF, ltT, ltF, eqF, lt0F, le0T, le0F, eq0F, natT, nI_clamp, nI_1, if_true, if_false, not_true_eq_false, not_false_eq_true, z_00, z_10, eq_self, true_or, or_true, or_false, false_or, oc_94, rt_94_0, rt_94_1, rt_94_3, rt_94_8, rt_94_9, rt_94_10, rt_94_11, rt_94_12, rt_94_15, rt_94_16, rt_94_18, rt_94_21, rt_94_22, rt_94_23, rt_94_24, or_95, oa_95, tc_0, kc_0, k0_0, tc_1, kc_1, k0_1, tc_2, kc_2, k0_2, tc_3, kc_3, k0_3, tc_4, kc_4, k0_4, tc_5, kc_5, k0_5, tc_6, kc_6, k0_6, tc_7, kc_7, k0_7, mx_call b _, hz]
      exact hP
  · refine main (lA (K k) (K k)) (vA (K k) k (M k) (K k) x2) (by omega) ⟨2 * (lA (K k) (K k)).length + 1 + 4, by omega, by omega, ?_⟩ (fun I1 hx => ?_)
    · obtain ⟨I1, a, b⟩ := cA (e := 0) (x := x2) b1 b1 (by omega) (by omega) _ J hvC
      exact ⟨I1, a, mx_Cal_mono (by omega) b⟩
    · obtain ⟨I2, a, b⟩ := zA (x := x2) b1 b1 (by omega) _ J (hvR I1 hx)
      refine ⟨I2, a, fun hz P hP => ?_⟩
      simp (decide := true) (disch := omega) only [x_Ref_voice_44, x_Ref_voice_45, x_Ref_voice_48, x_Ref_voice_49, x_Ref_voice_51, x_Ref_voice_52, x_Ref_voice_55, x_Ref_voice_58, x_Ref_voice_59, x_Ref_voice_60, x_Ref_voice_63, x_Ref_voice_64, x_Ref_voice_66, x_Ref_voice_67, x_Ref_voice_70, x_Ref_voice_73, x_Ref_voice_74, x_Ref_voice_75, x_Ref_voice_78, x_Ref_voice_79, x_Ref_voice_81, x_Ref_voice_82, x_Ref_voice_85, x_Ref_voice_88, x_Ref_voice_89, x_Ref_voice_91, x_Ref_voice_92, x_Ref_voice_95, x_Ref_voice_97, x_Ref_voice_98, x_Ref_voice_101, x_Ref_voice_104, x_Ref_voice_105, x_Ref_voice_107, x_Ref_voice_110, x_Ref_voice_113, x_Ref_voice_115, mk_I, mk_J, mk_Q, mk_n, mk_sI, mk_sJ, Option.toList_some, Option.toList_none, List.cons_append, List.nil_append, true_and, and_true, ↓reduceIte, leT, leF, ltT, ltF, eqF, lt0F, le0T, le0F, eq0F, natT, nI_clamp, nI_1, if_true, if_false, not_true_eq_false, not_false_eq_true, z_00, z_10, eq_self, true_or, or_true, or_false, false_or, oc_94, rt_94_0, rt_94_1, rt_94_3, rt_94_8, rt_94_9, rt_94_10, rt_94_11, rt_94_12, rt_94_15, rt_94_16, rt_94_18, rt_94_21, rt_94_22, rt_94_23, rt_94_24, or_95, oa_95, tc_0, kc_0, k0_0, tc_1, kc_1, k0_1, tc_2, kc_2, k0_2, tc_3, kc_3, k0_3, tc_4, kc_4, k0_4, tc_5, kc_5, k0_5, tc_6, kc_6, k0_6, tc_7, kc_7, k0_7, mx_call b _, hz]
      exact hP
  · refine main (lW (K k) (K k)) (vW (K k) k (M k) (K k) x2) (by omega) ⟨2 * (lW (K k) (K k)).length + 1 + 4, by omega, by omega, ?_⟩ (fun I1 hx => ?_)
    · obtain ⟨I1, a, b⟩ := cW (e := 0) (x := x2) b1 b1 (by omega) (by omega) _ J hvC
      exact ⟨I1, a, mx_Cal_mono (by omega) b⟩
    · obtain ⟨I2, a, b⟩ := zW (x := x2) b1 b1 (by omega) _ J (hvR I1 hx)
      refine ⟨I2, a, fun hz P hP => ?_⟩
      simp (decide := true) (disch := omega) only [x_Ref_voice_44, x_Ref_voice_45, x_Ref_voice_48, x_Ref_voice_49, x_Ref_voice_51, x_Ref_voice_52, x_Ref_voice_55, x_Ref_voice_58, x_Ref_voice_59, x_Ref_voice_60, x_Ref_voice_63, x_Ref_voice_64, x_Ref_voice_66, x_Ref_voice_67, x_Ref_voice_70, x_Ref_voice_73, x_Ref_voice_74, x_Ref_voice_75, x_Ref_voice_78, x_Ref_voice_79, x_Ref_voice_81, x_Ref_voice_82, x_Ref_voice_85, x_Ref_voice_88, x_Ref_voice_89, x_Ref_voice_91, x_Ref_voice_92, x_Ref_voice_95, x_Ref_voice_97, x_Ref_voice_98, x_Ref_voice_101, x_Ref_voice_104, x_Ref_voice_105, x_Ref_voice_107, x_Ref_voice_110, x_Ref_voice_113, x_Ref_voice_115, mk_I, mk_J, mk_Q, mk_n, mk_sI, mk_sJ, Option.toList_some, Option.toList_none, List.cons_append, List.nil_append, true_and, and_true, ↓reduceIte, leT, leF, ltT, ltF, eqF, lt0F, le0T, le0F, eq0F, natT, nI_clamp, nI_1, if_true, if_false, not_true_eq_false, not_false_eq_true, z_00, z_10, eq_self, true_or, or_true, or_false, false_or, oc_94, rt_94_0, rt_94_1, rt_94_3, rt_94_8, rt_94_9, rt_94_10, rt_94_11, rt_94_12, rt_94_15, rt_94_16, rt_94_18, rt_94_21, rt_94_22, rt_94_23, rt_94_24, or_95, oa_95, tc_0, kc_0, k0_0, tc_1, kc_1, k0_1, tc_2, kc_2, k0_2, tc_3, kc_3, k0_3, tc_4, kc_4, k0_4, tc_5, kc_5, k0_5, tc_6, kc_6, k0_6, tc_7, kc_7, k0_7, mx_call b _, hz]
      exact hP
  · have hne : M k ≠ k := fun h => hpart ⟨rfl, h⟩
    refine main (lP (K k) (K k)) (vP (K k) k (M k) (K k) x2) (by omega) ⟨2 * (lP (K k) (K k)).length + 1 + 4, by omega, by omega, ?_⟩ (fun I1 hx => ?_)
    · obtain ⟨I1, a, b⟩ := cP (e := 0) (x := x2) b1 b1 (by omega) (by omega) hne (by omega) (by omega) _ J hvC
      exact ⟨I1, a, mx_Cal_mono (by omega) b⟩
    · obtain ⟨I2, a, b⟩ := zP (x := x2) b1 b1 (by omega) hne (by omega) (by omega) _ J (hvR I1 hx)
      refine ⟨I2, a, fun hz P hP => ?_⟩
      simp (decide := true) (disch := omega) only [x_Ref_voice_44, x_Ref_voice_45, x_Ref_voice_48, x_Ref_voice_49, x_Ref_voice_51, x_Ref_voice_52, x_Ref_voice_55, x_Ref_voice_58, x_Ref_voice_59, x_Ref_voice_60, x_Ref_voice_63, x_Ref_voice_64, x_Ref_voice_66, x_Ref_voice_67, x_Ref_voice_70, x_Ref_voice_73, x_Ref_voice_74, x_Ref_voice_75, x_Ref_voice_78, x_Ref_voice_79, x_Ref_voice_81, x_Ref_voice_82, x_Ref_voice_85, x_Ref_voice_88, x_Ref_voice_89, x_Ref_voice_91, x_Ref_voice_92, x_Ref_voice_95, x_Ref_voice_97, x_Ref_voice_98, x_Ref_voice_101, x_Ref_voice_104, x_Ref_voice_105, x_Ref_voice_107, x_Ref_voice_110, x_Ref_voice_113, x_Ref_voice_115, mk_I, mk_J, mk_Q, mk_n, mk_sI, mk_sJ, Option.toList_some, Option.toList_none, List.cons_append, List.nil_append, true_and, and_true, ↓reduceIte, leT, leF, ltT, ltF, eqF, lt0F, le0T, le0F, eq0F, natT, nI_clamp, nI_1, if_true, if_false, not_true_eq_false, not_false_eq_true, z_00, z_10, eq_self, true_or, or_true, or_false, false_or, oc_94, rt_94_0, rt_94_1, rt_94_3, rt_94_8, rt_94_9, rt_94_10, rt_94_11, rt_94_12, rt_94_15, rt_94_16, rt_94_18, rt_94_21, rt_94_22, rt_94_23, rt_94_24, or_95, oa_95, tc_0, kc_0, k0_0, tc_1, kc_1, k0_1, tc_2, kc_2, k0_2, tc_3, kc_3, k0_3, tc_4, kc_4, k0_4, tc_5, kc_5, k0_5, tc_6, kc_6, k0_6, tc_7, kc_7, k0_7, mx_call b _, hz]
      exact hP
