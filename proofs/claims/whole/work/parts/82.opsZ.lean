/-! text: the class's reader, byte by byte -/
def nmI (o : Option Nat) : Int32 := match o with
  | some x => nI x
  | none => -1
theorem chr_0 : ((decide ((mx_lay 1001).1 = 104) && mx_inb 0 (mx_lay 1001).2) = true) = True := eq_true (by decide)
theorem chr_1 : ((decide ((mx_lay 1001).1 = 104) && mx_inb 1 (mx_lay 1001).2) = true) = True := eq_true (by decide)
theorem chr_2 : ((decide ((mx_lay 1001).1 = 104) && mx_inb 2 (mx_lay 1001).2) = true) = True := eq_true (by decide)
theorem chs_0 : ((decide ((mx_lay 1002).1 = 104) && mx_inb 0 (mx_lay 1002).2) = true) = True := eq_true (by decide)
theorem chs_1 : ((decide ((mx_lay 1002).1 = 104) && mx_inb 1 (mx_lay 1002).2) = true) = True := eq_true (by decide)
theorem chs_2 : ((decide ((mx_lay 1002).1 = 104) && mx_inb 2 (mx_lay 1002).2) = true) = True := eq_true (by decide)
theorem p01 : (0 : Int32) + 1 = 1 := rfl
theorem p12 : (1 : Int32) + 1 = 2 := rfl
theorem p23 : (2 : Int32) + 1 = 3 := rfl
theorem n3_0 : (nI 3 ≤ 0) = False := by decide
theorem n3_1 : (nI 3 ≤ 1) = False := by decide
theorem n3_2 : (nI 3 ≤ 2) = False := by decide
theorem n3_3 : (nI 3 ≤ 3) = True := by decide
theorem q_nameOf {d u c Ls : Nat} {xs : Nat → Int32} {I : mx_I} (hs : StatR Ls xs I) (J : mx_J) (hu : u < 2) (hc : c < 256) : mx_Cal mx_tab (d + 1) 51 [.int (nI c), .int (nI u)] (mk I J) (some (.int (nmI (pr_name u c)))) (mk I J) := by
  have hu2 : u = 0 ∨ u = 1 := by omega
  rcases hu2 with rfl | rfl
  · have v0 : I 1001 0 = 107 := hs 1001 0 (by omega)
    have v1 : I 1001 1 = 108 := hs 1001 1 (by omega)
    have v2 : I 1001 2 = 112 := hs 1001 2 (by omega)
    by_cases e0 : c = 107
    · subst e0
      refine mx_Cal_in (ls := [some (.int (nI 107)), some (.int (nI 0)), none, none]) tab_51 trivial (Nat.le_of_ble_eq_true rfl) rfl ?_
      simp only [↓reduceIte, x_Reader_nameOf_0, x_Reader_nameOf_1, x_Reader_nameOf_4, x_Reader_nameOf_7, x_Reader_nameOf_10, x_Reader_nameOf_13, x_Reader_nameOf_14, x_Reader_nameOf_15, x_Reader_nameOf_16, x_Reader_nameOf_17, x_Reader_nameOf_18, x_Reader_nameOf_19, x_Reader_nameOf_22, x_Reader_nameOf_23, x_Reader_nameOf_24, x_Reader_nameOf_25, x_Reader_nameOf_26, x_Reader_nameOf_29, x_Reader_nameOf_30, x_Reader_nameOf_31, x_Reader_nameOf_34, x_Reader_nameOf_37, x_Reader_nameOf_38, mk_I, mk_J, mk_Q, mk_n, mk_sI, mk_sJ, Option.toList_some, Option.toList_none, List.cons_append, List.nil_append, true_and, and_true, al_1001, ia_1001, chr_0, chr_1, chr_2, p01, p12, p23, n3_0, n3_1, n3_2, n3_3, tc_0, tc_1, tc_2, v0, v1, v2, if_true, if_false, not_true_eq_false, not_false_eq_true, show (nI 0 = 0) = True from eq_true rfl, show ((107 : Int32) = nI 107) = True from eq_true rfl]
      rfl
    by_cases e1 : c = 108
    · subst e1
      refine mx_Cal_in (ls := [some (.int (nI 108)), some (.int (nI 0)), none, none]) tab_51 trivial (Nat.le_of_ble_eq_true rfl) rfl ?_
      simp only [↓reduceIte, x_Reader_nameOf_0, x_Reader_nameOf_1, x_Reader_nameOf_4, x_Reader_nameOf_7, x_Reader_nameOf_10, x_Reader_nameOf_13, x_Reader_nameOf_14, x_Reader_nameOf_15, x_Reader_nameOf_16, x_Reader_nameOf_17, x_Reader_nameOf_18, x_Reader_nameOf_19, x_Reader_nameOf_22, x_Reader_nameOf_23, x_Reader_nameOf_24, x_Reader_nameOf_25, x_Reader_nameOf_26, x_Reader_nameOf_29, x_Reader_nameOf_30, x_Reader_nameOf_31, x_Reader_nameOf_34, x_Reader_nameOf_37, x_Reader_nameOf_38, mk_I, mk_J, mk_Q, mk_n, mk_sI, mk_sJ, Option.toList_some, Option.toList_none, List.cons_append, List.nil_append, true_and, and_true, al_1001, ia_1001, chr_0, chr_1, chr_2, p01, p12, p23, n3_0, n3_1, n3_2, n3_3, tc_0, tc_1, tc_2, v0, v1, v2, if_true, if_false, not_true_eq_false, not_false_eq_true, show (nI 0 = 0) = True from eq_true rfl, show ((107 : Int32) = nI 108) = False from by decide, show ((108 : Int32) = nI 108) = True from eq_true rfl]
      rfl
    by_cases e2 : c = 112
    · subst e2
      refine mx_Cal_in (ls := [some (.int (nI 112)), some (.int (nI 0)), none, none]) tab_51 trivial (Nat.le_of_ble_eq_true rfl) rfl ?_
      simp only [↓reduceIte, x_Reader_nameOf_0, x_Reader_nameOf_1, x_Reader_nameOf_4, x_Reader_nameOf_7, x_Reader_nameOf_10, x_Reader_nameOf_13, x_Reader_nameOf_14, x_Reader_nameOf_15, x_Reader_nameOf_16, x_Reader_nameOf_17, x_Reader_nameOf_18, x_Reader_nameOf_19, x_Reader_nameOf_22, x_Reader_nameOf_23, x_Reader_nameOf_24, x_Reader_nameOf_25, x_Reader_nameOf_26, x_Reader_nameOf_29, x_Reader_nameOf_30, x_Reader_nameOf_31, x_Reader_nameOf_34, x_Reader_nameOf_37, x_Reader_nameOf_38, mk_I, mk_J, mk_Q, mk_n, mk_sI, mk_sJ, Option.toList_some, Option.toList_none, List.cons_append, List.nil_append, true_and, and_true, al_1001, ia_1001, chr_0, chr_1, chr_2, p01, p12, p23, n3_0, n3_1, n3_2, n3_3, tc_0, tc_1, tc_2, v0, v1, v2, if_true, if_false, not_true_eq_false, not_false_eq_true, show (nI 0 = 0) = True from eq_true rfl, show ((107 : Int32) = nI 112) = False from by decide, show ((108 : Int32) = nI 112) = False from by decide, show ((112 : Int32) = nI 112) = True from eq_true rfl]
      rfl
    have m0 : ((107 : Int32) = nI c) = False := eqF (a := 107) (fun q => e0 q.symm) (by omega) (by omega)
    have m1 : ((108 : Int32) = nI c) = False := eqF (a := 108) (fun q => e1 q.symm) (by omega) (by omega)
    have m2 : ((112 : Int32) = nI c) = False := eqF (a := 112) (fun q => e2 q.symm) (by omega) (by omega)
    have hn : pr_name 0 c = none := by
      unfold pr_name
      rw [if_pos rfl, if_neg e0, if_neg e1, if_neg e2]
    rw [hn]
    refine mx_Cal_in (ls := [some (.int (nI c)), some (.int (nI 0)), none, none]) tab_51 trivial (Nat.le_of_ble_eq_true rfl) rfl ?_
    simp only [↓reduceIte, x_Reader_nameOf_0, x_Reader_nameOf_1, x_Reader_nameOf_4, x_Reader_nameOf_7, x_Reader_nameOf_10, x_Reader_nameOf_13, x_Reader_nameOf_14, x_Reader_nameOf_15, x_Reader_nameOf_16, x_Reader_nameOf_17, x_Reader_nameOf_18, x_Reader_nameOf_19, x_Reader_nameOf_22, x_Reader_nameOf_23, x_Reader_nameOf_24, x_Reader_nameOf_25, x_Reader_nameOf_26, x_Reader_nameOf_29, x_Reader_nameOf_30, x_Reader_nameOf_31, x_Reader_nameOf_34, x_Reader_nameOf_37, x_Reader_nameOf_38, mk_I, mk_J, mk_Q, mk_n, mk_sI, mk_sJ, Option.toList_some, Option.toList_none, List.cons_append, List.nil_append, true_and, and_true, al_1001, ia_1001, chr_0, chr_1, chr_2, p01, p12, p23, n3_0, n3_1, n3_2, n3_3, tc_0, tc_1, tc_2, v0, v1, v2, if_true, if_false, not_true_eq_false, not_false_eq_true, show (nI 0 = 0) = True from eq_true rfl, m0, m1, m2]
    rfl
  · have v0 : I 1002 0 = 105 := hs 1002 0 (by omega)
    have v1 : I 1002 1 = 112 := hs 1002 1 (by omega)
    have v2 : I 1002 2 = 107 := hs 1002 2 (by omega)
    by_cases e0 : c = 105
    · subst e0
      refine mx_Cal_in (ls := [some (.int (nI 105)), some (.int (nI 1)), none, none]) tab_51 trivial (Nat.le_of_ble_eq_true rfl) rfl ?_
      simp only [↓reduceIte, x_Reader_nameOf_0, x_Reader_nameOf_1, x_Reader_nameOf_4, x_Reader_nameOf_7, x_Reader_nameOf_10, x_Reader_nameOf_13, x_Reader_nameOf_14, x_Reader_nameOf_15, x_Reader_nameOf_16, x_Reader_nameOf_17, x_Reader_nameOf_18, x_Reader_nameOf_19, x_Reader_nameOf_22, x_Reader_nameOf_23, x_Reader_nameOf_24, x_Reader_nameOf_25, x_Reader_nameOf_26, x_Reader_nameOf_29, x_Reader_nameOf_30, x_Reader_nameOf_31, x_Reader_nameOf_34, x_Reader_nameOf_37, x_Reader_nameOf_38, mk_I, mk_J, mk_Q, mk_n, mk_sI, mk_sJ, Option.toList_some, Option.toList_none, List.cons_append, List.nil_append, true_and, and_true, al_1002, ia_1002, chs_0, chs_1, chs_2, p01, p12, p23, n3_0, n3_1, n3_2, n3_3, tc_0, tc_1, tc_2, v0, v1, v2, if_true, if_false, not_true_eq_false, not_false_eq_true, show (nI 1 = 0) = False from by decide, show ((105 : Int32) = nI 105) = True from eq_true rfl]
      rfl
    by_cases e1 : c = 112
    · subst e1
      refine mx_Cal_in (ls := [some (.int (nI 112)), some (.int (nI 1)), none, none]) tab_51 trivial (Nat.le_of_ble_eq_true rfl) rfl ?_
      simp only [↓reduceIte, x_Reader_nameOf_0, x_Reader_nameOf_1, x_Reader_nameOf_4, x_Reader_nameOf_7, x_Reader_nameOf_10, x_Reader_nameOf_13, x_Reader_nameOf_14, x_Reader_nameOf_15, x_Reader_nameOf_16, x_Reader_nameOf_17, x_Reader_nameOf_18, x_Reader_nameOf_19, x_Reader_nameOf_22, x_Reader_nameOf_23, x_Reader_nameOf_24, x_Reader_nameOf_25, x_Reader_nameOf_26, x_Reader_nameOf_29, x_Reader_nameOf_30, x_Reader_nameOf_31, x_Reader_nameOf_34, x_Reader_nameOf_37, x_Reader_nameOf_38, mk_I, mk_J, mk_Q, mk_n, mk_sI, mk_sJ, Option.toList_some, Option.toList_none, List.cons_append, List.nil_append, true_and, and_true, al_1002, ia_1002, chs_0, chs_1, chs_2, p01, p12, p23, n3_0, n3_1, n3_2, n3_3, tc_0, tc_1, tc_2, v0, v1, v2, if_true, if_false, not_true_eq_false, not_false_eq_true, show (nI 1 = 0) = False from by decide, show ((105 : Int32) = nI 112) = False from by decide, show ((112 : Int32) = nI 112) = True from eq_true rfl]
      rfl
    by_cases e2 : c = 107
    · subst e2
      refine mx_Cal_in (ls := [some (.int (nI 107)), some (.int (nI 1)), none, none]) tab_51 trivial (Nat.le_of_ble_eq_true rfl) rfl ?_
      simp only [↓reduceIte, x_Reader_nameOf_0, x_Reader_nameOf_1, x_Reader_nameOf_4, x_Reader_nameOf_7, x_Reader_nameOf_10, x_Reader_nameOf_13, x_Reader_nameOf_14, x_Reader_nameOf_15, x_Reader_nameOf_16, x_Reader_nameOf_17, x_Reader_nameOf_18, x_Reader_nameOf_19, x_Reader_nameOf_22, x_Reader_nameOf_23, x_Reader_nameOf_24, x_Reader_nameOf_25, x_Reader_nameOf_26, x_Reader_nameOf_29, x_Reader_nameOf_30, x_Reader_nameOf_31, x_Reader_nameOf_34, x_Reader_nameOf_37, x_Reader_nameOf_38, mk_I, mk_J, mk_Q, mk_n, mk_sI, mk_sJ, Option.toList_some, Option.toList_none, List.cons_append, List.nil_append, true_and, and_true, al_1002, ia_1002, chs_0, chs_1, chs_2, p01, p12, p23, n3_0, n3_1, n3_2, n3_3, tc_0, tc_1, tc_2, v0, v1, v2, if_true, if_false, not_true_eq_false, not_false_eq_true, show (nI 1 = 0) = False from by decide, show ((105 : Int32) = nI 107) = False from by decide, show ((112 : Int32) = nI 107) = False from by decide, show ((107 : Int32) = nI 107) = True from eq_true rfl]
      rfl
    have m0 : ((105 : Int32) = nI c) = False := eqF (a := 105) (fun q => e0 q.symm) (by omega) (by omega)
    have m1 : ((112 : Int32) = nI c) = False := eqF (a := 112) (fun q => e1 q.symm) (by omega) (by omega)
    have m2 : ((107 : Int32) = nI c) = False := eqF (a := 107) (fun q => e2 q.symm) (by omega) (by omega)
    have hn : pr_name 1 c = none := by
      unfold pr_name
      rw [if_neg (by decide), if_neg e0, if_neg e1, if_neg e2]
    rw [hn]
    refine mx_Cal_in (ls := [some (.int (nI c)), some (.int (nI 1)), none, none]) tab_51 trivial (Nat.le_of_ble_eq_true rfl) rfl ?_
    simp only [↓reduceIte, x_Reader_nameOf_0, x_Reader_nameOf_1, x_Reader_nameOf_4, x_Reader_nameOf_7, x_Reader_nameOf_10, x_Reader_nameOf_13, x_Reader_nameOf_14, x_Reader_nameOf_15, x_Reader_nameOf_16, x_Reader_nameOf_17, x_Reader_nameOf_18, x_Reader_nameOf_19, x_Reader_nameOf_22, x_Reader_nameOf_23, x_Reader_nameOf_24, x_Reader_nameOf_25, x_Reader_nameOf_26, x_Reader_nameOf_29, x_Reader_nameOf_30, x_Reader_nameOf_31, x_Reader_nameOf_34, x_Reader_nameOf_37, x_Reader_nameOf_38, mk_I, mk_J, mk_Q, mk_n, mk_sI, mk_sJ, Option.toList_some, Option.toList_none, List.cons_append, List.nil_append, true_and, and_true, al_1002, ia_1002, chs_0, chs_1, chs_2, p01, p12, p23, n3_0, n3_1, n3_2, n3_3, tc_0, tc_1, tc_2, v0, v1, v2, if_true, if_false, not_true_eq_false, not_false_eq_true, show (nI 1 = 0) = False from by decide, m0, m1, m2]
    rfl
theorem nft {P : List Nat} {C : List Int} {o dg : Nat} : ¬ ((false, P, C, o, dg) : pr_S).1 = true := Bool.false_ne_true
theorem ofI_m1 (x : Nat) : (-1 : Int32) - nI x = Int32.ofInt (-1 - (x : Int)) := by
  rw [Int32.ofInt_sub]
  rfl
theorem okP_cons {c : Nat} {P : List Nat} (hc : c < 256) (h : c = 40 ∨ 1 ≤ pr_rank c) (hP : okP P) : okP (c :: P) := fun s hs => by
  rcases List.mem_cons.mp hs with rfl | hs
  · exact ⟨hc, h⟩
  · exact hP s hs
theorem q_takesStart {d u c k Ls : Nat} {xs : Nat → Int32} {P : List Nat} {C : List Int} {o : Nat} {I : mx_I} (hs : StatR Ls xs I) (J : mx_J) (hu : u < 2) (hc : c < 256) (hd : pr_digit c = false) (hq : RdS I (true, P, C, o, 0)) (hk : RdI k (true, P, C, o, 0)) (hk60 : k < 60) : (∀ q', pr_takes u c (true, P, C, o, 0) = some q' → ∃ I', RdS I' q' ∧ RdI (k + 1) q' ∧ FrR I I' ∧ mx_Cal mx_tab (d + 2) 45 [.ref 55, .int (nI c), .int (nI u)] (mk I J) (some (.int 1)) (mk I' J)) ∧ (pr_takes u c (true, P, C, o, 0) = none → mx_Cal mx_tab (d + 2) 45 [.ref 55, .int (nI c), .int (nI u)] (mk I J) (some (.int 0)) (mk I J)) := by
  have e : pr_takes u c (true, P, C, o, 0) = (if c = 33 ∨ c = 40 then (if o = 5 then none else some (true, c :: P, C, o + 1, 0)) else match pr_name u c with
     | some x => some (false, P, C ++ [-1 - (x : Int)], o, 0)
     | none => none) := by
    unfold pr_takes
    rw [hd]
    rfl
  rw [e]
  obtain ⟨a1, a2, a3, a4, a5⟩ := hq
  obtain ⟨k1, k2, k3, k4⟩ := hk
  have a1 : I 55 2 = 1 := a1
  have a2 : RvR I P := a2
  have a3 : CdR I C := a3
  have a4 : I 55 3 = nI o := a4
  have k1 : P.length + C.length ≤ k := k1
  have k2 : okP P := k2
  have k3 : cnO P = o := k3
  have ho : o ≤ P.length := by
    have : ∀ P : List Nat, cnO P ≤ P.length := fun P => by
      induction P with
      | nil => exact Nat.le_refl 0
      | cons s P ih =>
        show (if s = 33 ∨ s = 40 then 1 else 0) + cnO P ≤ P.length + 1
        split <;> omega
    have := this P
    omega
  by_cases h : c = 33 ∨ c = 40
  · rw [if_pos h]
    have br : ∀ Q : mx_P, mx_R k_Reader_takesStart (mx_Cal mx_tab (d + 1)) 12 [some (.ref 55), some (.int (nI c)), some (.int (nI u)), none] [] (mk I J) Q → mx_R k_Reader_takesStart (mx_Cal mx_tab (d + 1)) 0 [some (.ref 55), some (.int (nI c)), some (.int (nI u)), none] [] (mk I J) Q := fun Q hQ => by
      rcases h with rfl | rfl
      · simp (disch := omega) only [x_Reader_takesStart_0, x_Reader_takesStart_1, x_Reader_takesStart_3, x_Reader_takesStart_6, x_Reader_takesStart_7, x_Reader_takesStart_9, show (nI 33 = 33) = True from eq_true rfl, if_true]
        exact hQ
      · simp (disch := omega) only [x_Reader_takesStart_0, x_Reader_takesStart_1, x_Reader_takesStart_3, x_Reader_takesStart_6, x_Reader_takesStart_7, x_Reader_takesStart_9, show (nI 40 = 33) = False from by decide, show (nI 40 = 40) = True from eq_true rfl, if_true, if_false, not_true_eq_false]
        exact hQ
    by_cases h5 : o = 5
    · rw [if_pos h5]
      refine ⟨fun q' q => (by cases q), fun _ => ?_⟩
      have e5 : (nI o = 5) = True := by rw [h5]; exact eq_true rfl
      refine mx_Cal_in (ls := [some (.ref 55), some (.int (nI c)), some (.int (nI u)), none]) tab_45 (by rw [mx_rcv, oc_55]; trivial) (Nat.le_of_ble_eq_true rfl) rfl ?_
      refine br _ ?_
      simp (disch := omega) only [x_Reader_takesStart_12, x_Reader_takesStart_13, x_Reader_takesStart_16, x_Reader_takesStart_17, x_Reader_takesStart_20, x_Reader_takesStart_21, x_Reader_takesStart_22, x_Reader_takesStart_23, x_Reader_takesStart_24, x_Reader_takesStart_27, x_Reader_takesStart_28, x_Reader_takesStart_29, x_Reader_takesStart_32, x_Reader_takesStart_33, x_Reader_takesStart_36, x_Reader_takesStart_37, x_Reader_takesStart_40, x_Reader_takesStart_41, mk_I, mk_J, mk_Q, mk_n, mk_sI, mk_sJ, Option.toList_some, Option.toList_none, List.cons_append, List.nil_append, true_and, and_true, ↓reduceIte, leT, leF, ltT, ltF, eqF, lt0F, le0T, le0F, eq0F, natT, nI_clamp, nI_1, if_true, if_false, not_true_eq_false, not_false_eq_true, z_00, z_10, eq_self, true_or, or_true, or_false, false_or, oc_55, a4, e5, tkF]
    · rw [if_neg h5]
      refine ⟨fun q' q => ?_, fun q => (by cases q)⟩
      cases q
      have e5 : (nI o = 5) = False := eqF (b := 5) h5 (by omega) (by omega)
      have a2' : RvR (mx_ups I 55 3 (nI (o + 1))) P := a2.congr (fun a j h => ups_ne _ _ (by omega))
      have hap := q_apP (d := 0) (mx_ups I 55 3 (nI (o + 1))) J (show P.length < 60 by omega) a2'.1 (nI c)
      refine ⟨mx_ups (mx_ups (mx_ups I 55 3 (nI (o + 1))) 59 P.length (nI c)) 58 1 (nI (P.length + 1)), ⟨?_, a2'.app c, a3.congr (fun a j h => by simp (disch := omega) only [ups_ne]), ?_, ?_⟩, ⟨?_, okP_cons hc (by rcases h with rfl | rfl; exact Or.inr (by decide); exact Or.inl rfl) k2, ?_, by show (0 : Nat) ≤ 4; omega⟩, fun a j h => by simp (disch := omega) only [ups_ne], ?_⟩
      · simp (disch := omega) only [ups_ne]; exact a1
      · simp (disch := omega) only [ups_ne, ups_same]
      · simp (disch := omega) only [ups_ne]; exact a5
      · show P.length + 1 + C.length ≤ k + 1
        omega
      · show (if c = 33 ∨ c = 40 then 1 else 0) + cnO P = o + 1
        rw [if_pos h]; omega
      · refine mx_Cal_in (ls := [some (.ref 55), some (.int (nI c)), some (.int (nI u)), none]) tab_45 (by rw [mx_rcv, oc_55]; trivial) (Nat.le_of_ble_eq_true rfl) rfl ?_
        refine br _ ?_
        simp (disch := omega) only [x_Reader_takesStart_12, x_Reader_takesStart_13, x_Reader_takesStart_16, x_Reader_takesStart_17, x_Reader_takesStart_20, x_Reader_takesStart_21, x_Reader_takesStart_22, x_Reader_takesStart_23, x_Reader_takesStart_24, x_Reader_takesStart_27, x_Reader_takesStart_28, x_Reader_takesStart_29, x_Reader_takesStart_32, x_Reader_takesStart_33, x_Reader_takesStart_36, x_Reader_takesStart_37, x_Reader_takesStart_40, x_Reader_takesStart_41, mk_I, mk_J, mk_Q, mk_n, mk_sI, mk_sJ, Option.toList_some, Option.toList_none, List.cons_append, List.nil_append, true_and, and_true, ↓reduceIte, leT, leF, ltT, ltF, eqF, lt0F, le0T, le0F, eq0F, natT, nI_clamp, nI_1, if_true, if_false, not_true_eq_false, not_false_eq_true, z_00, z_10, eq_self, true_or, or_true, or_false, false_or, oc_55, rt_55_0, rt_55_1, a4, e5, nI_1, mx_call hap _, tkT]
  · rw [if_neg h]
    have n33 : (nI c = 33) = False := eqF (b := 33) (fun q => h (Or.inl q)) (by omega) (by omega)
    have n40 : (nI c = 40) = False := eqF (b := 40) (fun q => h (Or.inr q)) (by omega) (by omega)
    have hnm := q_nameOf (d := 0) hs J hu hc
    cases hp : pr_name u c with
    | none =>
      rw [hp] at hnm
      have hnm' : mx_Cal mx_tab (0 + 1) 51 [.int (nI c), .int (nI u)] (mk I J) (some (.int (-1))) (mk I J) := hnm
      refine ⟨fun q' q => (by cases q), fun _ => ?_⟩
      refine mx_Cal_in (ls := [some (.ref 55), some (.int (nI c)), some (.int (nI u)), none]) tab_45 (by rw [mx_rcv, oc_55]; trivial) (Nat.le_of_ble_eq_true rfl) rfl ?_
      simp (disch := omega) only [x_Reader_takesStart_0, x_Reader_takesStart_1, x_Reader_takesStart_3, x_Reader_takesStart_6, x_Reader_takesStart_7, x_Reader_takesStart_9, x_Reader_takesStart_12, x_Reader_takesStart_13, x_Reader_takesStart_16, x_Reader_takesStart_17, x_Reader_takesStart_20, x_Reader_takesStart_21, x_Reader_takesStart_22, x_Reader_takesStart_23, x_Reader_takesStart_24, x_Reader_takesStart_27, x_Reader_takesStart_28, x_Reader_takesStart_29, x_Reader_takesStart_32, x_Reader_takesStart_33, x_Reader_takesStart_36, x_Reader_takesStart_37, x_Reader_takesStart_40, x_Reader_takesStart_41, x_Reader_takesStart_42, x_Reader_takesStart_43, x_Reader_takesStart_44, x_Reader_takesStart_47, x_Reader_takesStart_48, x_Reader_takesStart_49, x_Reader_takesStart_52, x_Reader_takesStart_53, x_Reader_takesStart_54, x_Reader_takesStart_55, x_Reader_takesStart_58, x_Reader_takesStart_59, x_Reader_takesStart_60, x_Reader_takesStart_61, x_Reader_takesStart_64, x_Reader_takesStart_65, x_Reader_takesStart_66, x_Reader_takesStart_69, x_Reader_takesStart_70, mk_I, mk_J, mk_Q, mk_n, mk_sI, mk_sJ, Option.toList_some, Option.toList_none, List.cons_append, List.nil_append, true_and, and_true, ↓reduceIte, leT, leF, ltT, ltF, eqF, lt0F, le0T, le0F, eq0F, natT, nI_clamp, nI_1, if_true, if_false, not_true_eq_false, not_false_eq_true, z_00, z_10, eq_self, true_or, or_true, or_false, false_or, n33, n40, mx_call hnm' _, show ((0 : Int32) ≤ -1) = False from by decide, tkF]
    | some x =>
      rw [hp] at hnm
      have hnm' : mx_Cal mx_tab (0 + 1) 51 [.int (nI c), .int (nI u)] (mk I J) (some (.int (nI x))) (mk I J) := hnm
      have hx : x < 3 := by
        unfold pr_name at hp
        repeat' split at hp
        all_goals cases hp
        all_goals omega
      refine ⟨fun q' q => ?_, fun q => (by cases q)⟩
      cases q
      have hap := q_apC (d := 0) I J (show C.length < 60 by omega) a3.1 (-1 - nI x)
      have hln : (C ++ [-1 - (x : Int)]).length = C.length + 1 := by rw [List.length_append]; rfl
      refine ⟨mx_ups (mx_ups (mx_ups I 57 C.length (-1 - nI x)) 56 1 (nI (C.length + 1))) 55 2 0, ⟨ups_same _ _ _ _, a2.congr (fun a j h => by simp (disch := omega) only [ups_ne]), (a3.app (ofI_m1 x)).congr (fun a j h => by simp (disch := omega) only [ups_ne]), ?_, ?_⟩, ⟨?_, k2, k3, by show (0 : Nat) ≤ 4; omega⟩, fun a j h => by simp (disch := omega) only [ups_ne], ?_⟩
      · simp (disch := omega) only [ups_ne]; exact a4
      · simp (disch := omega) only [ups_ne]; exact a5
      · show P.length + (C ++ [-1 - (x : Int)]).length ≤ k + 1
        omega
      · refine mx_Cal_in (ls := [some (.ref 55), some (.int (nI c)), some (.int (nI u)), none]) tab_45 (by rw [mx_rcv, oc_55]; trivial) (Nat.le_of_ble_eq_true rfl) rfl ?_
        simp (disch := omega) only [x_Reader_takesStart_0, x_Reader_takesStart_1, x_Reader_takesStart_3, x_Reader_takesStart_6, x_Reader_takesStart_7, x_Reader_takesStart_9, x_Reader_takesStart_12, x_Reader_takesStart_13, x_Reader_takesStart_16, x_Reader_takesStart_17, x_Reader_takesStart_20, x_Reader_takesStart_21, x_Reader_takesStart_22, x_Reader_takesStart_23, x_Reader_takesStart_24, x_Reader_takesStart_27, x_Reader_takesStart_28, x_Reader_takesStart_29, x_Reader_takesStart_32, x_Reader_takesStart_33, x_Reader_takesStart_36, x_Reader_takesStart_37, x_Reader_takesStart_40, x_Reader_takesStart_41, x_Reader_takesStart_42, x_Reader_takesStart_43, x_Reader_takesStart_44, x_Reader_takesStart_47, x_Reader_takesStart_48, x_Reader_takesStart_49, x_Reader_takesStart_52, x_Reader_takesStart_53, x_Reader_takesStart_54, x_Reader_takesStart_55, x_Reader_takesStart_58, x_Reader_takesStart_59, x_Reader_takesStart_60, x_Reader_takesStart_61, x_Reader_takesStart_64, x_Reader_takesStart_65, x_Reader_takesStart_66, x_Reader_takesStart_69, x_Reader_takesStart_70, mk_I, mk_J, mk_Q, mk_n, mk_sI, mk_sJ, Option.toList_some, Option.toList_none, List.cons_append, List.nil_append, true_and, and_true, ↓reduceIte, leT, leF, ltT, ltF, eqF, lt0F, le0T, le0F, eq0F, natT, nI_clamp, nI_1, if_true, if_false, not_true_eq_false, not_false_eq_true, z_00, z_10, eq_self, true_or, or_true, or_false, false_or, oc_55, rt_55_0, rt_55_1, n33, n40, mx_call hnm' _, mx_call hap _, decide_true, Bool.true_or, Bool.or_true, Bool.and_true, tkT]
theorem q_closes {d k : Nat} {P : List Nat} {C : List Int} {o : Nat} {I : mx_I} (J : mx_J) (hq : RdS I (false, P, C, o, 0)) (hk : RdI k (false, P, C, o, 0)) (hk60 : k < 60) : (∀ s P' C' o', pr_settle 1 P C o = (s :: P', C', o') → ∃ I', RdS I' (false, P', C', o' - 1, 0) ∧ RdI (k + 1) (false, P', C', o' - 1, 0) ∧ FrR I I' ∧ mx_Cal mx_tab (d + 3) 47 [.ref 55] (mk I J) (some (.int 1)) (mk I' J)) ∧ ((pr_settle 1 P C o).1 = [] → ∃ I', FrR I I' ∧ mx_Cal mx_tab (d + 3) 47 [.ref 55] (mk I J) (some (.int 0)) (mk I' J)) := by
  obtain ⟨a1, a2, a3, a4, a5⟩ := hq
  obtain ⟨k1, k2, k3, k4⟩ := hk
  have a1 : I 55 2 = 0 := a1
  have k1 : P.length + C.length ≤ k := k1
  obtain ⟨I1, b1, b2, b3, b4, b5⟩ := q_settle (d := d) (r := 1) (by omega) (by omega) J a2 a3 a4 k3 k2 (by omega)
  obtain ⟨m1, m2, m3, m4⟩ := settle_ok (r := 1) (by omega) P C o k2 k3
  have hfr : FrR I I1 := fun a j h => b4 a j (by omega) (by omega)
  have b5' : mx_Cal mx_tab (d + 2) 49 [.ref 55, .int 1] (mk I J) none (mk I1 J) := b5
  refine ⟨fun s P' C' o' h => ?_, fun h => ?_⟩
  · rw [h] at b1 b2 b3 m1 m2 m3
    have hs40 : s = 40 := by
      rcases (m3 s (List.mem_cons_self ..)).2 with q | q
      · exact q
      · have := m4 s P' (by rw [h])
        omega
    have m1 : (if s = 33 ∨ s = 40 then 1 else 0) + cnO P' = o' := m1
    rw [if_pos (Or.inr hs40)] at m1
    have m2 : P'.length + 1 + C'.length = P.length + C.length := m2
    have b1 : RvR I1 (s :: P') := b1
    obtain ⟨t1, t2⟩ := b1.tl
    have sz : I1 58 1 = nI (P'.length + 1) := b1.1
    have nz : (nI (P'.length + 1) = 0) = False := eq0F (by omega) (by omega)
    have htl := q_tlP (d := 0) I1 J (show P'.length < 60 by omega) b1.1
    have ho : nI o' - 1 = nI (o' - 1) := by
      obtain ⟨o1, rfl⟩ : ∃ o1, o' = o1 + 1 := ⟨o' - 1, by omega⟩
      rw [nI_s1]
      rfl
    have b3 : I1 55 3 = nI o' := b3
    refine ⟨mx_ups (mx_ups I1 58 1 (nI P'.length)) 55 3 (nI (o' - 1)), ⟨?_, t2.congr (fun a j h => ups_ne _ _ (by omega)), b2.congr (fun a j h => by simp (disch := omega) only [ups_ne]), ups_same _ _ _ _, ?_⟩, ⟨by show P'.length + C'.length ≤ k + 1; omega, fun t ht => m3 t (List.mem_cons_of_mem _ ht), by show cnO P' = o' - 1; omega, by show (0 : Nat) ≤ 4; omega⟩, fun a j h => by rw [ups_ne _ _ (by omega), ups_ne _ _ (by omega)]; exact hfr a j h, ?_⟩
    · simp (disch := omega) only [ups_ne]; exact (b4 55 2 (by omega) (by omega)).trans a1
    · simp (disch := omega) only [ups_ne]; exact (b4 55 4 (by omega) (by omega)).trans a5
    · refine mx_Cal_in (ls := [some (.ref 55)]) tab_47 (by rw [mx_rcv, oc_55]; trivial) (Nat.le_of_ble_eq_true rfl) rfl ?_
      simp (disch := omega) only [x_Reader_closes_0, x_Reader_closes_1, x_Reader_closes_2, x_Reader_closes_5, x_Reader_closes_6, x_Reader_closes_9, x_Reader_closes_12, x_Reader_closes_15, x_Reader_closes_16, x_Reader_closes_17, x_Reader_closes_18, x_Reader_closes_21, x_Reader_closes_24, x_Reader_closes_25, x_Reader_closes_26, x_Reader_closes_27, x_Reader_closes_30, x_Reader_closes_31, x_Reader_closes_32, x_Reader_closes_35, x_Reader_closes_36, mk_I, mk_J, mk_Q, mk_n, mk_sI, mk_sJ, Option.toList_some, Option.toList_none, List.cons_append, List.nil_append, true_and, and_true, ↓reduceIte, leT, leF, ltT, ltF, eqF, lt0F, le0T, le0F, eq0F, natT, nI_clamp, nI_1, if_true, if_false, not_true_eq_false, not_false_eq_true, z_00, z_10, eq_self, true_or, or_true, or_false, false_or, oc_55, oc_58, rt_55_0, rt_55_1, mx_call b5' (Nat.le_refl _), sz, nz, mx_call htl _, ups_ne, b3, ho, tkT]
  · rw [h] at b1
    have sz : I1 58 1 = 0 := b1.1
    refine ⟨I1, hfr, ?_⟩
    refine mx_Cal_in (ls := [some (.ref 55)]) tab_47 (by rw [mx_rcv, oc_55]; trivial) (Nat.le_of_ble_eq_true rfl) rfl ?_
    simp (disch := omega) only [x_Reader_closes_0, x_Reader_closes_1, x_Reader_closes_2, x_Reader_closes_5, x_Reader_closes_6, x_Reader_closes_9, x_Reader_closes_12, x_Reader_closes_15, x_Reader_closes_16, x_Reader_closes_17, x_Reader_closes_18, x_Reader_closes_21, x_Reader_closes_24, x_Reader_closes_25, x_Reader_closes_26, x_Reader_closes_27, x_Reader_closes_30, x_Reader_closes_31, x_Reader_closes_32, x_Reader_closes_35, x_Reader_closes_36, mk_I, mk_J, mk_Q, mk_n, mk_sI, mk_sJ, Option.toList_some, Option.toList_none, List.cons_append, List.nil_append, true_and, and_true, ↓reduceIte, leT, leF, ltT, ltF, eqF, lt0F, le0T, le0F, eq0F, natT, nI_clamp, nI_1, if_true, if_false, not_true_eq_false, not_false_eq_true, z_00, z_10, eq_self, true_or, or_true, or_false, false_or, oc_55, oc_58, rt_55_0, rt_55_1, mx_call b5' (Nat.le_refl _), sz, tkF]
theorem q_takesNext {d u c k : Nat} {P : List Nat} {C : List Int} {o : Nat} {I : mx_I} (J : mx_J) (hc : c < 256) (hd : pr_digit c = false) (hq : RdS I (false, P, C, o, 0)) (hk : RdI k (false, P, C, o, 0)) (hk60 : k < 60) : (∀ q', pr_takes u c (false, P, C, o, 0) = some q' → ∃ I', RdS I' q' ∧ RdI (k + 1) q' ∧ FrR I I' ∧ mx_Cal mx_tab (d + 4) 46 [.ref 55, .int (nI c)] (mk I J) (some (.int 1)) (mk I' J)) ∧ (pr_takes u c (false, P, C, o, 0) = none → ∃ I', FrR I I' ∧ mx_Cal mx_tab (d + 4) 46 [.ref 55, .int (nI c)] (mk I J) (some (.int 0)) (mk I' J)) := by
  by_cases h41 : c = 41
  · subst h41
    have e : pr_takes u 41 (false, P, C, o, 0) = (match pr_settle 1 P C o with
     | ([], _, _) => none
     | (_ :: P, C, o) => some (false, P, C, o - 1, 0)) := rfl
    obtain ⟨g1, g2⟩ := q_closes (d := d) J hq hk hk60
    cases hst : pr_settle 1 P C o with
    | mk P1 t =>
      obtain ⟨C1, o1⟩ := t
      cases P1 with
      | nil =>
        rw [hst] at e
        refine ⟨fun q' q => (by rw [e] at q; cases q), fun _ => ?_⟩
        obtain ⟨I', f, c1⟩ := g2 (by rw [hst])
        refine ⟨I', f, ?_⟩
        show mx_Cal mx_tab ((d + 3) + 1) 46 [.ref 55, .int (nI 41)] (mk I J) (some (.int 0)) (mk I' J)
        refine mx_Cal_in (ls := [some (.ref 55), some (.int (nI 41)), none]) tab_46 (by rw [mx_rcv, oc_55]; trivial) (Nat.le_of_ble_eq_true rfl) rfl ?_
        simp (disch := omega) only [x_Reader_takesNext_0, x_Reader_takesNext_1, x_Reader_takesNext_3, x_Reader_takesNext_6, x_Reader_takesNext_7, x_Reader_takesNext_10, mk_I, mk_J, mk_Q, mk_n, mk_sI, mk_sJ, Option.toList_some, Option.toList_none, List.cons_append, List.nil_append, true_and, and_true, ↓reduceIte, leT, leF, ltT, ltF, eqF, lt0F, le0T, le0F, eq0F, natT, nI_clamp, nI_1, if_true, if_false, not_true_eq_false, not_false_eq_true, z_00, z_10, eq_self, true_or, or_true, or_false, false_or, show (nI 41 = 41) = True from eq_true rfl, mx_call c1 (Nat.le_refl _), tkF]
      | cons s P1 =>
        rw [hst] at e
        refine ⟨fun q' q => ?_, fun q => (by rw [e] at q; cases q)⟩
        rw [e] at q
        cases q
        obtain ⟨I', r1, r2, f, c1⟩ := g1 s P1 C1 o1 hst
        refine ⟨I', r1, r2, f, ?_⟩
        show mx_Cal mx_tab ((d + 3) + 1) 46 [.ref 55, .int (nI 41)] (mk I J) (some (.int 1)) (mk I' J)
        refine mx_Cal_in (ls := [some (.ref 55), some (.int (nI 41)), none]) tab_46 (by rw [mx_rcv, oc_55]; trivial) (Nat.le_of_ble_eq_true rfl) rfl ?_
        simp (disch := omega) only [x_Reader_takesNext_0, x_Reader_takesNext_1, x_Reader_takesNext_3, x_Reader_takesNext_6, x_Reader_takesNext_7, x_Reader_takesNext_10, mk_I, mk_J, mk_Q, mk_n, mk_sI, mk_sJ, Option.toList_some, Option.toList_none, List.cons_append, List.nil_append, true_and, and_true, ↓reduceIte, leT, leF, ltT, ltF, eqF, lt0F, le0T, le0F, eq0F, natT, nI_clamp, nI_1, if_true, if_false, not_true_eq_false, not_false_eq_true, z_00, z_10, eq_self, true_or, or_true, or_false, false_or, show (nI 41 = 41) = True from eq_true rfl, mx_call c1 (Nat.le_refl _), tkT]
  have n41 : (nI c = 41) = False := eqF (b := 41) h41 (by omega) (by omega)
  have hrk := q_rankOf (d := 0) (mk I J) hc
  have r6 : pr_rank c ≤ 6 := by
    unfold pr_rank
    repeat' split
    all_goals omega
  by_cases h0 : pr_rank c = 0 ∨ c = 33
  · have e : pr_takes u c (false, P, C, o, 0) = none := by
      unfold pr_takes
      rw [hd, if_neg (by decide), if_neg nft, if_neg h41, if_pos h0]
    refine ⟨fun q' q => (by rw [e] at q; cases q), fun _ => ⟨I, fun _ _ _ => rfl, ?_⟩⟩
    show mx_Cal mx_tab ((d + 3) + 1) 46 [.ref 55, .int (nI c)] (mk I J) (some (.int 0)) (mk I J)
    refine mx_Cal_in (ls := [some (.ref 55), some (.int (nI c)), none]) tab_46 (by rw [mx_rcv, oc_55]; trivial) (Nat.le_of_ble_eq_true rfl) rfl ?_
    by_cases hr0 : pr_rank c = 0
    · have z : (nI (pr_rank c) = 0) = True := by rw [hr0]; exact eq_true rfl
      simp (disch := omega) only [x_Reader_takesNext_0, x_Reader_takesNext_1, x_Reader_takesNext_3, x_Reader_takesNext_6, x_Reader_takesNext_7, x_Reader_takesNext_10, x_Reader_takesNext_11, x_Reader_takesNext_12, x_Reader_takesNext_15, x_Reader_takesNext_16, x_Reader_takesNext_17, x_Reader_takesNext_20, x_Reader_takesNext_21, x_Reader_takesNext_23, x_Reader_takesNext_26, x_Reader_takesNext_27, mk_I, mk_J, mk_Q, mk_n, mk_sI, mk_sJ, Option.toList_some, Option.toList_none, List.cons_append, List.nil_append, true_and, and_true, ↓reduceIte, leT, leF, ltT, ltF, eqF, lt0F, le0T, le0F, eq0F, natT, nI_clamp, nI_1, if_true, if_false, not_true_eq_false, not_false_eq_true, z_00, z_10, eq_self, true_or, or_true, or_false, false_or, n41, mx_call hrk _, z, tkF]
    · have z : (nI (pr_rank c) = 0) = False := eq0F (by omega) (by omega)
      have z2 : (nI c = 33) = True := by rw [h0.resolve_left hr0]; exact eq_true rfl
      simp (disch := omega) only [x_Reader_takesNext_0, x_Reader_takesNext_1, x_Reader_takesNext_3, x_Reader_takesNext_6, x_Reader_takesNext_7, x_Reader_takesNext_10, x_Reader_takesNext_11, x_Reader_takesNext_12, x_Reader_takesNext_15, x_Reader_takesNext_16, x_Reader_takesNext_17, x_Reader_takesNext_20, x_Reader_takesNext_21, x_Reader_takesNext_23, x_Reader_takesNext_26, x_Reader_takesNext_27, mk_I, mk_J, mk_Q, mk_n, mk_sI, mk_sJ, Option.toList_some, Option.toList_none, List.cons_append, List.nil_append, true_and, and_true, ↓reduceIte, leT, leF, ltT, ltF, eqF, lt0F, le0T, le0F, eq0F, natT, nI_clamp, nI_1, if_true, if_false, not_true_eq_false, not_false_eq_true, z_00, z_10, eq_self, true_or, or_true, or_false, false_or, n41, mx_call hrk _, z, z2, tkF]
  have hr0 : ¬ pr_rank c = 0 := fun q => h0 (Or.inl q)
  have h33 : ¬ c = 33 := fun q => h0 (Or.inr q)
  have z : (nI (pr_rank c) = 0) = False := eq0F (by omega) (by omega)
  have z2 : (nI c = 33) = False := eqF (b := 33) h33 (by omega) (by omega)
  have h40 : ¬ c = 40 := fun q => by subst q; exact hr0 rfl
  obtain ⟨a1, a2, a3, a4, a5⟩ := hq
  obtain ⟨k1, k2, k3, k4⟩ := hk
  have k1 : P.length + C.length ≤ k := k1
  have a2 : RvR I P := a2
  have a3 : CdR I C := a3
  have a4 : I 55 3 = nI o := a4
  have k2 : okP P := k2
  have k3 : cnO P = o := k3
  have r5 : pr_rank c ≤ 5 := by
    by_cases q : pr_rank c = 6
    · exfalso
      unfold pr_rank at q
      repeat' split at q
      all_goals omega
    · omega
  have fin : ∀ (P1 : List Nat) (C1 : List Int) (o1 : Nat) (I1 : mx_I), RvR I1 P1 → CdR I1 C1 → I1 55 3 = nI o1 → I1 55 4 = nI 0 → cnO P1 = o1 → okP P1 → P1.length + C1.length = P.length + C.length → FrR I I1 → ∃ I', RdS I' (true, c :: (pr_settle (pr_rank c) P1 C1 o1).1, (pr_settle (pr_rank c) P1 C1 o1).2.1, (pr_settle (pr_rank c) P1 C1 o1).2.2, 0) ∧ RdI (k + 1) (true, c :: (pr_settle (pr_rank c) P1 C1 o1).1, (pr_settle (pr_rank c) P1 C1 o1).2.1, (pr_settle (pr_rank c) P1 C1 o1).2.2, 0) ∧ FrR I I' ∧ ∀ Q : mx_P, Q (some (.int 1)) (mk I' J) → mx_R k_Reader_takesNext (mx_Cal mx_tab (d + 3)) 54 [some (.ref 55), some (.int (nI c)), some (.int (nI (pr_rank c)))] [] (mk I1 J) Q := by
    intro P1 C1 o1 I1 h1 h2 h3 h4 h5 h6 h7 h8
    obtain ⟨I2, b1, b2, b3, b4, b5⟩ := q_settle (d := d) (r := pr_rank c) (by omega) (by omega) J h1 h2 h3 h5 h6 (by omega)
    obtain ⟨m1, m2, m3, m4⟩ := settle_ok (r := pr_rank c) (by omega) P1 C1 o1 h6 h5
    have hap := q_apP (d := 0) I2 J (show (pr_settle (pr_rank c) P1 C1 o1).1.length < 60 by omega) b1.1 (nI c)
    refine ⟨mx_ups (mx_ups (mx_ups I2 59 (pr_settle (pr_rank c) P1 C1 o1).1.length (nI c)) 58 1 (nI ((pr_settle (pr_rank c) P1 C1 o1).1.length + 1))) 55 2 1, ⟨ups_same _ _ _ _, (b1.app c).congr (fun a j h => ups_ne _ _ (by omega)), b2.congr (fun a j h => by simp (disch := omega) only [ups_ne]), ?_, ?_⟩, ⟨?_, okP_cons hc (Or.inr (by omega)) m3, ?_, by show (0 : Nat) ≤ 4; omega⟩, fun a j h => ?_, fun Q hQ => ?_⟩
    · simp (disch := omega) only [ups_ne]; exact b3
    · simp (disch := omega) only [ups_ne]; exact (b4 55 4 (by omega) (by omega)).trans h4
    · show (pr_settle (pr_rank c) P1 C1 o1).1.length + 1 + (pr_settle (pr_rank c) P1 C1 o1).2.1.length ≤ k + 1
      omega
    · show (if c = 33 ∨ c = 40 then 1 else 0) + cnO (pr_settle (pr_rank c) P1 C1 o1).1 = (pr_settle (pr_rank c) P1 C1 o1).2.2
      rw [if_neg (or_nn h33 h40), m1, Nat.zero_add]
    · simp (disch := omega) only [ups_ne]
      exact (b4 a j (by omega) (by omega)).trans (h8 a j h)
    · simp (disch := omega) only [x_Reader_takesNext_54, x_Reader_takesNext_55, x_Reader_takesNext_56, x_Reader_takesNext_59, x_Reader_takesNext_60, x_Reader_takesNext_63, x_Reader_takesNext_64, x_Reader_takesNext_67, x_Reader_takesNext_68, x_Reader_takesNext_69, x_Reader_takesNext_72, x_Reader_takesNext_73, mk_I, mk_J, mk_Q, mk_n, mk_sI, mk_sJ, Option.toList_some, Option.toList_none, List.cons_append, List.nil_append, true_and, and_true, ↓reduceIte, leT, leF, ltT, ltF, eqF, lt0F, le0T, le0F, eq0F, natT, nI_clamp, nI_1, if_true, if_false, not_true_eq_false, not_false_eq_true, z_00, z_10, eq_self, true_or, or_true, or_false, false_or, oc_55, rt_55_0, rt_55_1, mx_call b5 _, mx_call hap _, decide_true, Bool.true_or, Bool.or_true, Bool.and_true, tkT]
      exact hQ
  by_cases h3 : pr_rank c = 3
  · have e : pr_takes u c (false, P, C, o, 0) = (if pr_top (pr_settle 4 P C o).1 = 3 then none else some (true, c :: (pr_settle 3 P C o).1, (pr_settle 3 P C o).2.1, (pr_settle 3 P C o).2.2, 0)) := pr_takes_cmp rfl h3
    rw [e]
    have z3 : (nI (pr_rank c) = 3) = True := by rw [h3]; exact eq_true rfl
    obtain ⟨I1, b1, b2, b3, b4, b5⟩ := q_settle (d := d) (r := 4) (by omega) (by omega) J a2 a3 a4 k3 k2 (by omega)
    obtain ⟨m1, m2, m3, m4⟩ := settle_ok (r := 4) (by omega) P C o k2 k3
    have b5' : mx_Cal mx_tab (d + 2) 49 [.ref 55, .int 4] (mk I J) none (mk I1 J) := b5
    have hfr : FrR I I1 := fun a j h => b4 a j (by omega) (by omega)
    have hla := q_laP (d := 0) b1 (by omega) J
    have ht256 : (pr_settle 4 P C o).1.headD 0 < 256 := by
      cases hP1 : (pr_settle 4 P C o).1 with
      | nil => show (0 : Nat) < 256; omega
      | cons s P1 => exact (m3 s (by rw [hP1]; exact List.mem_cons_self ..)).1
    have hrk2 := q_rankOf (d := 0) (mk I1 J) ht256
    rw [← top_head] at hrk2
    have htop : pr_top (pr_settle 4 P C o).1 < 100 := by
      have : ∀ t, pr_rank t < 100 := fun t => by
        unfold pr_rank
        repeat' split
        all_goals omega
      rw [top_head]
      exact this _
    by_cases ht : pr_top (pr_settle 4 P C o).1 = 3
    · rw [if_pos ht]
      refine ⟨fun q' q => (by cases q), fun _ => ⟨I1, hfr, ?_⟩⟩
      have zt : (nI (pr_top (pr_settle 4 P C o).1) = 3) = True := by rw [ht]; exact eq_true rfl
      show mx_Cal mx_tab ((d + 3) + 1) 46 [.ref 55, .int (nI c)] (mk I J) (some (.int 0)) (mk I1 J)
      refine mx_Cal_in (ls := [some (.ref 55), some (.int (nI c)), none]) tab_46 (by rw [mx_rcv, oc_55]; trivial) (Nat.le_of_ble_eq_true rfl) rfl ?_
      simp (disch := omega) only [x_Reader_takesNext_0, x_Reader_takesNext_1, x_Reader_takesNext_3, x_Reader_takesNext_6, x_Reader_takesNext_7, x_Reader_takesNext_10, x_Reader_takesNext_11, x_Reader_takesNext_12, x_Reader_takesNext_15, x_Reader_takesNext_16, x_Reader_takesNext_17, x_Reader_takesNext_20, x_Reader_takesNext_21, x_Reader_takesNext_23, x_Reader_takesNext_26, x_Reader_takesNext_27, x_Reader_takesNext_28, x_Reader_takesNext_29, x_Reader_takesNext_30, x_Reader_takesNext_33, x_Reader_takesNext_34, x_Reader_takesNext_35, x_Reader_takesNext_38, x_Reader_takesNext_39, x_Reader_takesNext_42, x_Reader_takesNext_45, x_Reader_takesNext_48, x_Reader_takesNext_49, x_Reader_takesNext_52, x_Reader_takesNext_53, mk_I, mk_J, mk_Q, mk_n, mk_sI, mk_sJ, Option.toList_some, Option.toList_none, List.cons_append, List.nil_append, true_and, and_true, ↓reduceIte, leT, leF, ltT, ltF, eqF, lt0F, le0T, le0F, eq0F, natT, nI_clamp, nI_1, if_true, if_false, not_true_eq_false, not_false_eq_true, z_00, z_10, eq_self, true_or, or_true, or_false, false_or, oc_55, rt_55_0, rt_55_1, n41, mx_call hrk _, z, z2, z3, mx_call b5' _, mx_call hla _, mx_call hrk2 _, zt, tkF]
    · rw [if_neg ht]
      refine ⟨fun q' q => ?_, fun q => (by cases q)⟩
      cases q
      have zt : (nI (pr_top (pr_settle 4 P C o).1) = 3) = False := eqF (b := 3) ht (by omega) (by omega)
      obtain ⟨I2, f1, f2, f3, f4⟩ := fin _ _ _ I1 b1 b2 b3 ((b4 55 4 (by omega) (by omega)).trans a5) m1 m3 m2 hfr
      rw [h3, pr_settle_settle (show 3 ≤ 4 by omega)] at f1 f2
      refine ⟨I2, f1, f2, f3, ?_⟩
      show mx_Cal mx_tab ((d + 3) + 1) 46 [.ref 55, .int (nI c)] (mk I J) (some (.int 1)) (mk I2 J)
      refine mx_Cal_in (ls := [some (.ref 55), some (.int (nI c)), none]) tab_46 (by rw [mx_rcv, oc_55]; trivial) (Nat.le_of_ble_eq_true rfl) rfl ?_
      simp (disch := omega) only [x_Reader_takesNext_0, x_Reader_takesNext_1, x_Reader_takesNext_3, x_Reader_takesNext_6, x_Reader_takesNext_7, x_Reader_takesNext_10, x_Reader_takesNext_11, x_Reader_takesNext_12, x_Reader_takesNext_15, x_Reader_takesNext_16, x_Reader_takesNext_17, x_Reader_takesNext_20, x_Reader_takesNext_21, x_Reader_takesNext_23, x_Reader_takesNext_26, x_Reader_takesNext_27, x_Reader_takesNext_28, x_Reader_takesNext_29, x_Reader_takesNext_30, x_Reader_takesNext_33, x_Reader_takesNext_34, x_Reader_takesNext_35, x_Reader_takesNext_38, x_Reader_takesNext_39, x_Reader_takesNext_42, x_Reader_takesNext_45, x_Reader_takesNext_48, x_Reader_takesNext_49, x_Reader_takesNext_52, x_Reader_takesNext_53, mk_I, mk_J, mk_Q, mk_n, mk_sI, mk_sJ, Option.toList_some, Option.toList_none, List.cons_append, List.nil_append, true_and, and_true, ↓reduceIte, leT, leF, ltT, ltF, eqF, lt0F, le0T, le0F, eq0F, natT, nI_clamp, nI_1, if_true, if_false, not_true_eq_false, not_false_eq_true, z_00, z_10, eq_self, true_or, or_true, or_false, false_or, oc_55, rt_55_0, rt_55_1, n41, mx_call hrk _, z, z2, z3, mx_call b5' _, mx_call hla _, mx_call hrk2 _, zt]
      exact f4 _ ⟨rfl, rfl⟩
  · have e : pr_takes u c (false, P, C, o, 0) = some (true, c :: (pr_settle (pr_rank c) P C o).1, (pr_settle (pr_rank c) P C o).2.1, (pr_settle (pr_rank c) P C o).2.2, 0) := pr_takes_op rfl (by omega) r5 h3
    rw [e]
    refine ⟨fun q' q => ?_, fun q => (by cases q)⟩
    cases q
    have z3 : (nI (pr_rank c) = 3) = False := eqF (b := 3) h3 (by omega) (by omega)
    obtain ⟨I2, f1, f2, f3, f4⟩ := fin P C o I a2 a3 a4 a5 k3 k2 rfl (fun _ _ _ => rfl)
    refine ⟨I2, f1, f2, f3, ?_⟩
    show mx_Cal mx_tab ((d + 3) + 1) 46 [.ref 55, .int (nI c)] (mk I J) (some (.int 1)) (mk I2 J)
    refine mx_Cal_in (ls := [some (.ref 55), some (.int (nI c)), none]) tab_46 (by rw [mx_rcv, oc_55]; trivial) (Nat.le_of_ble_eq_true rfl) rfl ?_
    simp (disch := omega) only [x_Reader_takesNext_0, x_Reader_takesNext_1, x_Reader_takesNext_3, x_Reader_takesNext_6, x_Reader_takesNext_7, x_Reader_takesNext_10, x_Reader_takesNext_11, x_Reader_takesNext_12, x_Reader_takesNext_15, x_Reader_takesNext_16, x_Reader_takesNext_17, x_Reader_takesNext_20, x_Reader_takesNext_21, x_Reader_takesNext_23, x_Reader_takesNext_26, x_Reader_takesNext_27, x_Reader_takesNext_28, x_Reader_takesNext_29, x_Reader_takesNext_30, x_Reader_takesNext_33, x_Reader_takesNext_34, x_Reader_takesNext_35, x_Reader_takesNext_38, x_Reader_takesNext_39, x_Reader_takesNext_42, x_Reader_takesNext_45, x_Reader_takesNext_48, x_Reader_takesNext_49, x_Reader_takesNext_52, x_Reader_takesNext_53, mk_I, mk_J, mk_Q, mk_n, mk_sI, mk_sJ, Option.toList_some, Option.toList_none, List.cons_append, List.nil_append, true_and, and_true, ↓reduceIte, leT, leF, ltT, ltF, eqF, lt0F, le0T, le0F, eq0F, natT, nI_clamp, nI_1, if_true, if_false, not_true_eq_false, not_false_eq_true, z_00, z_10, eq_self, true_or, or_true, or_false, false_or, n41, mx_call hrk _, z, z2, z3]
    exact f4 _ ⟨rfl, rfl⟩
theorem tk_dg {u c : Nat} {wq : Bool} {P : List Nat} {C : List Int} {o dg : Nat} (hd : pr_digit c = false) : pr_takes u c (wq, P, C, o, dg) = pr_takes u c (wq, P, C, o, 0) := by
  unfold pr_takes
  rw [hd]
  rfl
theorem q_takes {d u c k Ls : Nat} {xs : Nat → Int32} {q : pr_S} {I : mx_I} (hs : StatR Ls xs I) (J : mx_J) (hu : u < 2) (hc : c < 256) (hq : RdS I q) (hk : RdI k q) (hk60 : k < 60) : (∀ q', pr_takes u c q = some q' → ∃ I', RdS I' q' ∧ RdI (k + 1) q' ∧ FrR I I' ∧ mx_Cal mx_tab (d + 5) 43 [.ref 55, .int (nI c), .int (nI u)] (mk I J) (some (.int 1)) (mk I' J)) ∧ (pr_takes u c q = none → ∃ I', FrR I I' ∧ mx_Cal mx_tab (d + 5) 43 [.ref 55, .int (nI c), .int (nI u)] (mk I J) (some (.int 0)) (mk I' J)) := by
  obtain ⟨wq, P, C, o, dg⟩ := q
  by_cases hd : pr_digit c = true
  · have h48 : 48 ≤ c ∧ c ≤ 57 := by
      unfold pr_digit at hd
      simp at hd
      exact hd
    have e : pr_takes u c (wq, P, C, o, dg) = (if dg = 4 ∨ (dg = 0 ∧ wq = false) then none else some (false, P, (if dg = 0 then C ++ [((c - 48 : Nat) : Int)] else pr_bump C (c - 48)), o, dg + 1)) := by
      unfold pr_takes
      rw [if_pos hd]
    rw [e]
    obtain ⟨k1, k2, k3, k4⟩ := hk
    have k1 : P.length + C.length ≤ k := k1
    have k4 : dg ≤ 4 := k4
    obtain ⟨g1, g2⟩ := q_takesDigit (d := 0) (g := c - 48) J hq (by omega) k4
    have d1 : (nI c < 48) = False := ltF (b := 48) (a := c) (by omega) (by omega)
    have d2 : ((57 : Int32) < nI c) = False := ltF (a := 57) (b := c) (by omega) (by omega)
    have d3 : nI c - 48 = nI (c - 48) := pk_sub (b := 48) (by omega)
    by_cases h : dg = 4 ∨ (dg = 0 ∧ wq = false)
    · rw [if_pos h]
      have hcal := g1 h
      refine ⟨fun q' q => (by cases q), fun _ => ⟨I, fun _ _ _ => rfl, ?_⟩⟩
      refine mx_Cal_in (ls := [some (.ref 55), some (.int (nI c)), some (.int (nI u))]) tab_43 (by rw [mx_rcv, oc_55]; trivial) (Nat.le_of_ble_eq_true rfl) rfl ?_
      simp (disch := omega) only [x_Reader_takes_0, x_Reader_takes_1, x_Reader_takes_3, x_Reader_takes_6, x_Reader_takes_7, x_Reader_takes_9, x_Reader_takes_12, x_Reader_takes_13, x_Reader_takes_14, x_Reader_takes_16, x_Reader_takes_17, x_Reader_takes_20, mk_I, mk_J, mk_Q, mk_n, mk_sI, mk_sJ, Option.toList_some, Option.toList_none, List.cons_append, List.nil_append, true_and, and_true, ↓reduceIte, leT, leF, ltT, ltF, eqF, lt0F, le0T, le0F, eq0F, natT, nI_clamp, nI_1, if_true, if_false, not_true_eq_false, not_false_eq_true, z_00, z_10, eq_self, true_or, or_true, or_false, false_or, d1, d2, d3, mx_call hcal _, tkF]
    · rw [if_neg h]
      obtain ⟨I', r1, r2, hcal⟩ := g2 h
      refine ⟨fun q' q => ?_, fun q => (by cases q)⟩
      cases q
      refine ⟨I', r1, ⟨?_, k2, k3, ?_⟩, r2, ?_⟩
      · show P.length + (if dg = 0 then C ++ [((c - 48 : Nat) : Int)] else pr_bump C (c - 48)).length ≤ k + 1
        by_cases h0 : dg = 0
        · rw [if_pos h0, List.length_append]
          show P.length + (C.length + 1) ≤ k + 1
          omega
        · rw [if_neg h0]
          unfold pr_bump
          rw [List.length_append, List.length_dropLast]
          show P.length + (C.length - 1 + 1) ≤ k + 1
          omega
      · show dg + 1 ≤ 4
        have : ¬ dg = 4 := fun q => h (Or.inl q)
        omega
      · refine mx_Cal_in (ls := [some (.ref 55), some (.int (nI c)), some (.int (nI u))]) tab_43 (by rw [mx_rcv, oc_55]; trivial) (Nat.le_of_ble_eq_true rfl) rfl ?_
        simp (disch := omega) only [x_Reader_takes_0, x_Reader_takes_1, x_Reader_takes_3, x_Reader_takes_6, x_Reader_takes_7, x_Reader_takes_9, x_Reader_takes_12, x_Reader_takes_13, x_Reader_takes_14, x_Reader_takes_16, x_Reader_takes_17, x_Reader_takes_20, mk_I, mk_J, mk_Q, mk_n, mk_sI, mk_sJ, Option.toList_some, Option.toList_none, List.cons_append, List.nil_append, true_and, and_true, ↓reduceIte, leT, leF, ltT, ltF, eqF, lt0F, le0T, le0F, eq0F, natT, nI_clamp, nI_1, if_true, if_false, not_true_eq_false, not_false_eq_true, z_00, z_10, eq_self, true_or, or_true, or_false, false_or, d1, d2, d3, mx_call hcal _, tkT]
  · have hd : pr_digit c = false := by simpa using hd
    rw [tk_dg hd]
    obtain ⟨a1, a2, a3, a4, a5⟩ := hq
    obtain ⟨k1, k2, k3, k4⟩ := hk
    have hs0 : StatR Ls xs (mx_ups I 55 4 0) := hs.upd (fun a j h => ups_ne _ _ (by omega))
    have f0 : FrR I (mx_ups I 55 4 0) := FrR.up _ (by omega)
    have hq0 : RdS (mx_ups I 55 4 0) (wq, P, C, o, 0) := ⟨by rw [ups_ne _ _ (by omega)]; exact a1, a2.congr (fun a j h => ups_ne _ _ (by omega)), a3.congr (fun a j h => ups_ne _ _ (by omega)), by rw [ups_ne _ _ (by omega)]; exact a4, ups_same _ _ _ _⟩
    have hk0 : RdI k (wq, P, C, o, 0) := ⟨k1, k2, k3, by show (0 : Nat) ≤ 4; omega⟩
    have br : ∀ Q : mx_P, mx_R k_Reader_takes (mx_Cal mx_tab (d + 4)) 21 [some (.ref 55), some (.int (nI c)), some (.int (nI u))] [] (mk I J) Q → mx_R k_Reader_takes (mx_Cal mx_tab (d + 4)) 0 [some (.ref 55), some (.int (nI c)), some (.int (nI u))] [] (mk I J) Q := fun Q hQ => by
      by_cases h1 : c < 48
      · have d1 : (nI c < 48) = True := ltT (b := 48) h1 (by omega)
        simp (disch := omega) only [x_Reader_takes_0, x_Reader_takes_1, x_Reader_takes_3, x_Reader_takes_6, x_Reader_takes_7, x_Reader_takes_9, ↓reduceIte, leT, leF, ltT, ltF, eqF, lt0F, le0T, le0F, eq0F, natT, nI_clamp, nI_1, if_true, if_false, not_true_eq_false, not_false_eq_true, z_00, z_10, eq_self, true_or, or_true, or_false, false_or, d1]
        exact hQ
      · have d1 : (nI c < 48) = False := ltF (b := 48) (a := c) (by omega) (by omega)
        have h2 : 57 < c := by
          unfold pr_digit at hd
          simp at hd
          omega
        have d2 : ((57 : Int32) < nI c) = True := ltT (a := 57) h2 (by omega)
        simp (disch := omega) only [x_Reader_takes_0, x_Reader_takes_1, x_Reader_takes_3, x_Reader_takes_6, x_Reader_takes_7, x_Reader_takes_9, ↓reduceIte, leT, leF, ltT, ltF, eqF, lt0F, le0T, le0F, eq0F, natT, nI_clamp, nI_1, if_true, if_false, not_true_eq_false, not_false_eq_true, z_00, z_10, eq_self, true_or, or_true, or_false, false_or, d1, d2]
        exact hQ
    cases wq with
    | true =>
      have a1 : I 55 2 = 1 := a1
      obtain ⟨g1, g2⟩ := q_takesStart (d := 0) hs0 J hu hc hd hq0 hk0 hk60
      refine ⟨fun q' q => ?_, fun q => ?_⟩
      · obtain ⟨I', r1, r2, r3, r4⟩ := g1 q' q
        refine ⟨I', r1, r2, f0.trans r3, ?_⟩
        show mx_Cal mx_tab ((d + 4) + 1) 43 [.ref 55, .int (nI c), .int (nI u)] (mk I J) (some (.int 1)) (mk I' J)
        refine mx_Cal_in (ls := [some (.ref 55), some (.int (nI c)), some (.int (nI u))]) tab_43 (by rw [mx_rcv, oc_55]; trivial) (Nat.le_of_ble_eq_true rfl) rfl ?_
        refine br _ ?_
        simp (disch := omega) only [x_Reader_takes_21, x_Reader_takes_22, x_Reader_takes_23, x_Reader_takes_26, x_Reader_takes_27, x_Reader_takes_30, x_Reader_takes_33, x_Reader_takes_34, x_Reader_takes_35, x_Reader_takes_36, x_Reader_takes_39, x_Reader_takes_42, x_Reader_takes_43, x_Reader_takes_44, x_Reader_takes_47, mk_I, mk_J, mk_Q, mk_n, mk_sI, mk_sJ, Option.toList_some, Option.toList_none, List.cons_append, List.nil_append, true_and, and_true, ↓reduceIte, leT, leF, ltT, ltF, eqF, lt0F, le0T, le0F, eq0F, natT, nI_clamp, nI_1, if_true, if_false, not_true_eq_false, not_false_eq_true, z_00, z_10, eq_self, true_or, or_true, or_false, false_or, oc_55, ups_ne, a1, mx_call r4 _, tkT]
      · have r4 := g2 q
        refine ⟨_, f0, ?_⟩
        show mx_Cal mx_tab ((d + 4) + 1) 43 [.ref 55, .int (nI c), .int (nI u)] (mk I J) (some (.int 0)) (mk (mx_ups I 55 4 0) J)
        refine mx_Cal_in (ls := [some (.ref 55), some (.int (nI c)), some (.int (nI u))]) tab_43 (by rw [mx_rcv, oc_55]; trivial) (Nat.le_of_ble_eq_true rfl) rfl ?_
        refine br _ ?_
        simp (disch := omega) only [x_Reader_takes_21, x_Reader_takes_22, x_Reader_takes_23, x_Reader_takes_26, x_Reader_takes_27, x_Reader_takes_30, x_Reader_takes_33, x_Reader_takes_34, x_Reader_takes_35, x_Reader_takes_36, x_Reader_takes_39, x_Reader_takes_42, x_Reader_takes_43, x_Reader_takes_44, x_Reader_takes_47, mk_I, mk_J, mk_Q, mk_n, mk_sI, mk_sJ, Option.toList_some, Option.toList_none, List.cons_append, List.nil_append, true_and, and_true, ↓reduceIte, leT, leF, ltT, ltF, eqF, lt0F, le0T, le0F, eq0F, natT, nI_clamp, nI_1, if_true, if_false, not_true_eq_false, not_false_eq_true, z_00, z_10, eq_self, true_or, or_true, or_false, false_or, oc_55, ups_ne, a1, mx_call r4 _, tkF]
    | false =>
      have a1 : I 55 2 = 0 := a1
      obtain ⟨g1, g2⟩ := q_takesNext (d := d) (u := u) J hc hd hq0 hk0 hk60
      refine ⟨fun q' q => ?_, fun q => ?_⟩
      · obtain ⟨I', r1, r2, r3, r4⟩ := g1 q' q
        refine ⟨I', r1, r2, f0.trans r3, ?_⟩
        show mx_Cal mx_tab ((d + 4) + 1) 43 [.ref 55, .int (nI c), .int (nI u)] (mk I J) (some (.int 1)) (mk I' J)
        refine mx_Cal_in (ls := [some (.ref 55), some (.int (nI c)), some (.int (nI u))]) tab_43 (by rw [mx_rcv, oc_55]; trivial) (Nat.le_of_ble_eq_true rfl) rfl ?_
        refine br _ ?_
        simp (disch := omega) only [x_Reader_takes_21, x_Reader_takes_22, x_Reader_takes_23, x_Reader_takes_26, x_Reader_takes_27, x_Reader_takes_30, x_Reader_takes_33, x_Reader_takes_34, x_Reader_takes_35, x_Reader_takes_36, x_Reader_takes_39, x_Reader_takes_42, x_Reader_takes_43, x_Reader_takes_44, x_Reader_takes_47, mk_I, mk_J, mk_Q, mk_n, mk_sI, mk_sJ, Option.toList_some, Option.toList_none, List.cons_append, List.nil_append, true_and, and_true, ↓reduceIte, leT, leF, ltT, ltF, eqF, lt0F, le0T, le0F, eq0F, natT, nI_clamp, nI_1, if_true, if_false, not_true_eq_false, not_false_eq_true, z_00, z_10, eq_self, true_or, or_true, or_false, false_or, oc_55, ups_ne, a1, mx_call r4 _, tkT]
      · obtain ⟨I', r3, r4⟩ := g2 q
        refine ⟨I', f0.trans r3, ?_⟩
        show mx_Cal mx_tab ((d + 4) + 1) 43 [.ref 55, .int (nI c), .int (nI u)] (mk I J) (some (.int 0)) (mk I' J)
        refine mx_Cal_in (ls := [some (.ref 55), some (.int (nI c)), some (.int (nI u))]) tab_43 (by rw [mx_rcv, oc_55]; trivial) (Nat.le_of_ble_eq_true rfl) rfl ?_
        refine br _ ?_
        simp (disch := omega) only [x_Reader_takes_21, x_Reader_takes_22, x_Reader_takes_23, x_Reader_takes_26, x_Reader_takes_27, x_Reader_takes_30, x_Reader_takes_33, x_Reader_takes_34, x_Reader_takes_35, x_Reader_takes_36, x_Reader_takes_39, x_Reader_takes_42, x_Reader_takes_43, x_Reader_takes_44, x_Reader_takes_47, mk_I, mk_J, mk_Q, mk_n, mk_sI, mk_sJ, Option.toList_some, Option.toList_none, List.cons_append, List.nil_append, true_and, and_true, ↓reduceIte, leT, leF, ltT, ltF, eqF, lt0F, le0T, le0F, eq0F, natT, nI_clamp, nI_1, if_true, if_false, not_true_eq_false, not_false_eq_true, z_00, z_10, eq_self, true_or, or_true, or_false, false_or, oc_55, ups_ne, a1, mx_call r4 _, tkF]
