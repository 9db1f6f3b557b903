/-! calls of the clock -/
theorem op_seed {L : Nat} {xs : Nat → Int32} {I : mx_I} (hI : Inv L xs I) (x0 : Int32) : OpI L xs I 111 197 [.int x0] := by
  intro J
  obtain ⟨⟨n, pl, od, hit⟩, hcl, htp, hw, ht0, ht1⟩ := hI.1
  have hz : I 1 4 = I 95 3 := hcl.1
  refine ⟨I 95 3, mx_ups I 1 4 x0, mx_ups (mx_ups I 1 4 x0) 95 3 x0, J, J, ?_, ?_, ?_, ?_⟩
  · refine mx_Cal_in (ls := [some (.ref 0), some (.int x0), none]) (d := 299) tab_111 (by rw [mx_rcv, oc_0]; trivial) (Nat.le_of_ble_eq_true rfl) rfl ?_
    simp only [x_Main_seed_0, x_Main_seed_1, x_Main_seed_4, x_Main_seed_7, x_Main_seed_8, x_Main_seed_9, x_Main_seed_12, x_Main_seed_13, x_Main_seed_16, x_Main_seed_17, mk_I, mk_J, mk_Q, mk_n, mk_sI, mk_sJ, Option.toList_some, Option.toList_none, List.cons_append, List.nil_append, true_and, and_true, oc_0, oc_1, rt_0_0, rt_0_1, rt_0_3, rt_0_4, rt_0_5, rt_0_6, rt_0_7, rt_0_8, rt_0_9, rt_1_0, rt_1_5, rt_1_6, rt_1_7, rt_1_8, hz]
  · refine mx_Cal_in (ls := [some (.ref 94), some (.int x0)]) (d := 299) tab_197 (by rw [mx_rcv, oc_94]; trivial) (Nat.le_of_ble_eq_true rfl) rfl ?_
    simp only [x_Ref_seed_0, x_Ref_seed_1, x_Ref_seed_2, x_Ref_seed_3, x_Ref_seed_6, mk_I, mk_J, mk_Q, mk_n, mk_sI, mk_sJ, Option.toList_some, Option.toList_none, List.cons_append, List.nil_append, true_and, and_true, oc_94, mx_call (q_Ref_change1 (d := 0) (t := 3) (mx_ups I 1 4 x0) J (by decide) x0) (show 1 ≤ 299 by decide), show (3 : Int32) = nI 3 from rfl]
    rfl
  · exact fun a i ha => by rw [ups_a _ _ _ _ (by omega)]; exact hI.2.2.2.2.2 a i ha
  · have e : ∀ a j, a ≠ 1 → (a ≠ 95 ∨ j ≠ 3) → mx_ups (mx_ups I 1 4 x0) 95 3 x0 a j = I a j := by
      intro a j h1 h2
      by_cases h3 : a = 95
      · subst h3
        rw [ups_k _ _ (by omega), ups_a _ _ _ _ h1]
      · rw [ups_a _ _ _ _ h3, ups_a _ _ _ _ h1]
    refine hI.snap (fun a j h => e a j (by omega) (by omega)) ⟨⟨n, pl, od, hit.congr (fun a j q1 q2 => e a j (by omega) (by omega)) (fun j q => e 95 j (by omega) (by omega))⟩, ?_, htp.congr (fun a j q1 q2 => e a j (by omega) (by omega)) (fun j q => e 95 j (by omega) (by omega)), hw.congr (fun a j q1 q2 => e a j (by omega) (by omega)) (fun j q => e 95 j (by omega) (by omega)), ht0.congr2 (fun a j q1 q2 => e a j (by omega) (by omega)) (fun j q1 q2 => e 95 j (by omega) (by omega)), ht1.congr2 (fun a j q1 q2 => e a j (by omega) (by omega)) (fun j q1 q2 => e 95 j (by omega) (by omega))⟩
    obtain ⟨-, a, b, c, c1, c2, c3, c4, c5, c6, c7, c8, c9⟩ := hcl
    refine ⟨by rw [ups_same, ups_a _ _ _ _ (by omega)]; exact ups_same _ _ _ _, a, b, c, c1, c2, c3, ?_⟩
    have e2 : ∀ j, j ≠ 4 → mx_ups (mx_ups I 1 4 x0) 95 3 x0 (1 + 0) j = I (1 + 0) j := fun j h => by rw [ups_a _ _ _ _ (by omega)]; exact ups_k _ _ h
    rw [e2 _ (by omega), e2 _ (by omega), e2 _ (by omega), e 95 _ (by omega) (by omega), e 95 _ (by omega) (by omega), e 95 _ (by omega) (by omega)]
    exact ⟨c4, c5, c6, c7, c8, c9⟩
