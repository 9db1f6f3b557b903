/-! the heap once both objects stand: which cell each reference names, never changed again -/
def mx_rtL : List (List (Option Nat)) := [[some 1, some 27, none, some 53, some 55, some 60, some 67, some 76, some 78, some 81], [some 2, none, none, none, none, some 13, some 15, some 17, some 22], [none, some 3, some 5, some 7, some 9, some 11], [some 4, none], [], [some 6, none], [], [some 8, none], [], [some 10, none], [], [some 12, none], [], [some 14, none], [], [some 16, none], [], [none, some 18, some 20], [some 19, none], [], [some 21, none], [], [none, some 23, some 25], [some 24, none], [], [some 26, none], [], [some 28, none, none, none, none, some 39, some 41, some 43, some 48], [none, some 29, some 31, some 33, some 35, some 37], [some 30, none], [], [some 32, none], [], [some 34, none], [], [some 36, none], [], [some 38, none], [], [some 40, none], [], [some 42, none], [], [none, some 44, some 46], [some 45, none], [], [some 47, none], [], [none, some 49, some 51], [some 50, none], [], [some 52, none], [], [some 54, none], [], [some 56, some 58, none, none, none], [some 57, none], [], [some 59, none], [], [none, some 61, some 63, some 64, some 65, some 66], [some 62, none], [], [], [], [], [], [none, some 68, some 70, some 72, some 74], [some 69, none], [], [some 71, none], [], [some 73, none], [], [some 75, none], [], [none, none, some 77], [], [some 79, none, none, none, none], [some 80, none], [], [some 82, some 85, some 88, some 91], [none, some 83], [some 84, none], [], [none, some 86], [some 87, none], [], [none, some 89], [some 90, none], [], [none, some 92], [some 93, none], [], [some 95, some 96, none, some 97, none, none, none, none, some 98, some 99, some 100, some 101, some 102, none, none, some 103, some 104, none, some 105, none, none, some 106, some 107, some 108, some 109], [], [], [], [], [], [], [], [], [], [], [], [], [], [], []]
def mx_RT : mx_Q := fun a k => (mx_rtL.getD a []).getD k none
def mk (I : mx_I) (J : mx_J) : mx_H := (I, J, mx_RT, 110)
theorem mk_I (I : mx_I) (J : mx_J) : (mk I J).1 = I := Eq.trans (Eq.refl _) rfl
theorem mk_J (I : mx_I) (J : mx_J) : (mk I J).2.1 = J := Eq.trans (Eq.refl _) rfl
theorem mk_Q (I : mx_I) (J : mx_J) : (mk I J).2.2.1 = mx_RT := rfl
theorem mk_n (I : mx_I) (J : mx_J) : (mk I J).2.2.2 = 110 := Eq.trans (Eq.refl _) rfl
theorem mk_sI (I I2 : mx_I) (J : mx_J) : mx_sI (mk I J) I2 = mk I2 J := rfl
theorem mk_sJ (I : mx_I) (J J2 : mx_J) : mx_sJ (mk I J) J2 = mk I J2 := rfl
theorem mk_inb (i : Int32) (n : Nat) : (mx_inb i n = true) = (0 ≤ i ∧ i.toNatClampNeg < n) := by simp [mx_inb]
theorem mk_oka {t a n : Nat} {I : mx_I} {J : mx_J} {i : Int32} (h : (decide (a < 110) && decide ((mx_lay a).1 = t) && decide ((mx_lay a).2 = n)) = true) : (mx_oka t a (mk I J) i = true) = (0 ≤ i ∧ i.toNatClampNeg < n) := by
  simp only [Bool.and_eq_true, decide_eq_true_eq] at h
  obtain ⟨⟨h1, h2⟩, h3⟩ := h
  rw [← mk_inb, ← h3]
  simp [mx_oka, mk, h1, h2]
theorem mk_okr {a n : Nat} {I : mx_I} {J : mx_J} {i : Int32} (h : ((decide (a < 110) && decide ((mx_lay a).1 = 100) || decide ((mx_lay a).1 = 103)) && decide ((mx_lay a).2 = n)) = true) (hne : a ≠ 1004) : (mx_okr 103 a (mk I J) i = true) = (0 ≤ i ∧ i.toNatClampNeg < n) := by
  simp only [Bool.and_eq_true, Bool.or_eq_true, decide_eq_true_eq] at h
  obtain ⟨h1, h3⟩ := h
  rw [← mk_inb, ← h3]
  simp only [mx_okr, mx_alen, hne, if_false, mk, Bool.and_eq_true, Bool.or_eq_true, decide_eq_true_eq]
  exact propext ⟨fun q => q.2, fun q => ⟨h1.elim (fun z => Or.inl ⟨decide_eq_true z.1, z.2⟩) Or.inr, q⟩⟩
theorem rt_0_0 : mx_rf (mx_RT 0 0) = .ref 1 := rfl
theorem rt_0_1 : mx_rf (mx_RT 0 1) = .ref 27 := rfl
theorem rt_0_3 : mx_rf (mx_RT 0 3) = .ref 53 := rfl
theorem rt_0_4 : mx_rf (mx_RT 0 4) = .ref 55 := rfl
theorem rt_0_5 : mx_rf (mx_RT 0 5) = .ref 60 := rfl
theorem rt_0_6 : mx_rf (mx_RT 0 6) = .ref 67 := rfl
theorem rt_0_7 : mx_rf (mx_RT 0 7) = .ref 76 := rfl
theorem rt_0_8 : mx_rf (mx_RT 0 8) = .ref 78 := rfl
theorem rt_0_9 : mx_rf (mx_RT 0 9) = .ref 81 := rfl
theorem rt_1_0 : mx_rf (mx_RT 1 0) = .ref 2 := rfl
theorem rt_1_5 : mx_rf (mx_RT 1 5) = .ref 13 := rfl
theorem rt_1_6 : mx_rf (mx_RT 1 6) = .ref 15 := rfl
theorem rt_1_7 : mx_rf (mx_RT 1 7) = .ref 17 := rfl
theorem rt_1_8 : mx_rf (mx_RT 1 8) = .ref 22 := rfl
theorem rt_2_1 : mx_rf (mx_RT 2 1) = .ref 3 := rfl
theorem rt_2_2 : mx_rf (mx_RT 2 2) = .ref 5 := rfl
theorem rt_2_3 : mx_rf (mx_RT 2 3) = .ref 7 := rfl
theorem rt_2_4 : mx_rf (mx_RT 2 4) = .ref 9 := rfl
theorem rt_2_5 : mx_rf (mx_RT 2 5) = .ref 11 := rfl
theorem rt_3_0 : mx_rf (mx_RT 3 0) = .ref 4 := rfl
theorem rt_5_0 : mx_rf (mx_RT 5 0) = .ref 6 := rfl
theorem rt_7_0 : mx_rf (mx_RT 7 0) = .ref 8 := rfl
theorem rt_9_0 : mx_rf (mx_RT 9 0) = .ref 10 := rfl
theorem rt_11_0 : mx_rf (mx_RT 11 0) = .ref 12 := rfl
theorem rt_13_0 : mx_rf (mx_RT 13 0) = .ref 14 := rfl
theorem rt_15_0 : mx_rf (mx_RT 15 0) = .ref 16 := rfl
theorem rt_17_1 : mx_rf (mx_RT 17 1) = .ref 18 := rfl
theorem rt_17_2 : mx_rf (mx_RT 17 2) = .ref 20 := rfl
theorem rt_18_0 : mx_rf (mx_RT 18 0) = .ref 19 := rfl
theorem rt_20_0 : mx_rf (mx_RT 20 0) = .ref 21 := rfl
theorem rt_22_1 : mx_rf (mx_RT 22 1) = .ref 23 := rfl
theorem rt_22_2 : mx_rf (mx_RT 22 2) = .ref 25 := rfl
theorem rt_23_0 : mx_rf (mx_RT 23 0) = .ref 24 := rfl
theorem rt_25_0 : mx_rf (mx_RT 25 0) = .ref 26 := rfl
theorem rt_27_0 : mx_rf (mx_RT 27 0) = .ref 28 := rfl
theorem rt_27_5 : mx_rf (mx_RT 27 5) = .ref 39 := rfl
theorem rt_27_6 : mx_rf (mx_RT 27 6) = .ref 41 := rfl
theorem rt_27_7 : mx_rf (mx_RT 27 7) = .ref 43 := rfl
theorem rt_27_8 : mx_rf (mx_RT 27 8) = .ref 48 := rfl
theorem rt_28_1 : mx_rf (mx_RT 28 1) = .ref 29 := rfl
theorem rt_28_2 : mx_rf (mx_RT 28 2) = .ref 31 := rfl
theorem rt_28_3 : mx_rf (mx_RT 28 3) = .ref 33 := rfl
theorem rt_28_4 : mx_rf (mx_RT 28 4) = .ref 35 := rfl
theorem rt_28_5 : mx_rf (mx_RT 28 5) = .ref 37 := rfl
theorem rt_29_0 : mx_rf (mx_RT 29 0) = .ref 30 := rfl
theorem rt_31_0 : mx_rf (mx_RT 31 0) = .ref 32 := rfl
theorem rt_33_0 : mx_rf (mx_RT 33 0) = .ref 34 := rfl
theorem rt_35_0 : mx_rf (mx_RT 35 0) = .ref 36 := rfl
theorem rt_37_0 : mx_rf (mx_RT 37 0) = .ref 38 := rfl
theorem rt_39_0 : mx_rf (mx_RT 39 0) = .ref 40 := rfl
theorem rt_41_0 : mx_rf (mx_RT 41 0) = .ref 42 := rfl
theorem rt_43_1 : mx_rf (mx_RT 43 1) = .ref 44 := rfl
theorem rt_43_2 : mx_rf (mx_RT 43 2) = .ref 46 := rfl
theorem rt_44_0 : mx_rf (mx_RT 44 0) = .ref 45 := rfl
theorem rt_46_0 : mx_rf (mx_RT 46 0) = .ref 47 := rfl
theorem rt_48_1 : mx_rf (mx_RT 48 1) = .ref 49 := rfl
theorem rt_48_2 : mx_rf (mx_RT 48 2) = .ref 51 := rfl
theorem rt_49_0 : mx_rf (mx_RT 49 0) = .ref 50 := rfl
theorem rt_51_0 : mx_rf (mx_RT 51 0) = .ref 52 := rfl
theorem rt_53_0 : mx_rf (mx_RT 53 0) = .ref 54 := rfl
theorem rt_55_0 : mx_rf (mx_RT 55 0) = .ref 56 := rfl
theorem rt_55_1 : mx_rf (mx_RT 55 1) = .ref 58 := rfl
theorem rt_56_0 : mx_rf (mx_RT 56 0) = .ref 57 := rfl
theorem rt_58_0 : mx_rf (mx_RT 58 0) = .ref 59 := rfl
theorem rt_60_1 : mx_rf (mx_RT 60 1) = .ref 61 := rfl
theorem rt_60_2 : mx_rf (mx_RT 60 2) = .ref 63 := rfl
theorem rt_60_3 : mx_rf (mx_RT 60 3) = .ref 64 := rfl
theorem rt_60_4 : mx_rf (mx_RT 60 4) = .ref 65 := rfl
theorem rt_60_5 : mx_rf (mx_RT 60 5) = .ref 66 := rfl
theorem rt_61_0 : mx_rf (mx_RT 61 0) = .ref 62 := rfl
theorem rt_67_1 : mx_rf (mx_RT 67 1) = .ref 68 := rfl
theorem rt_67_2 : mx_rf (mx_RT 67 2) = .ref 70 := rfl
theorem rt_67_3 : mx_rf (mx_RT 67 3) = .ref 72 := rfl
theorem rt_67_4 : mx_rf (mx_RT 67 4) = .ref 74 := rfl
theorem rt_68_0 : mx_rf (mx_RT 68 0) = .ref 69 := rfl
theorem rt_70_0 : mx_rf (mx_RT 70 0) = .ref 71 := rfl
theorem rt_72_0 : mx_rf (mx_RT 72 0) = .ref 73 := rfl
theorem rt_74_0 : mx_rf (mx_RT 74 0) = .ref 75 := rfl
theorem rt_76_2 : mx_rf (mx_RT 76 2) = .ref 77 := rfl
theorem rt_78_0 : mx_rf (mx_RT 78 0) = .ref 79 := rfl
theorem rt_79_0 : mx_rf (mx_RT 79 0) = .ref 80 := rfl
theorem rt_81_0 : mx_rf (mx_RT 81 0) = .ref 82 := rfl
theorem rt_81_1 : mx_rf (mx_RT 81 1) = .ref 85 := rfl
theorem rt_81_2 : mx_rf (mx_RT 81 2) = .ref 88 := rfl
theorem rt_81_3 : mx_rf (mx_RT 81 3) = .ref 91 := rfl
theorem rt_82_1 : mx_rf (mx_RT 82 1) = .ref 83 := rfl
theorem rt_83_0 : mx_rf (mx_RT 83 0) = .ref 84 := rfl
theorem rt_85_1 : mx_rf (mx_RT 85 1) = .ref 86 := rfl
theorem rt_86_0 : mx_rf (mx_RT 86 0) = .ref 87 := rfl
theorem rt_88_1 : mx_rf (mx_RT 88 1) = .ref 89 := rfl
theorem rt_89_0 : mx_rf (mx_RT 89 0) = .ref 90 := rfl
theorem rt_91_1 : mx_rf (mx_RT 91 1) = .ref 92 := rfl
theorem rt_92_0 : mx_rf (mx_RT 92 0) = .ref 93 := rfl
theorem rt_94_0 : mx_rf (mx_RT 94 0) = .ref 95 := rfl
theorem rt_94_1 : mx_rf (mx_RT 94 1) = .ref 96 := rfl
theorem rt_94_3 : mx_rf (mx_RT 94 3) = .ref 97 := rfl
theorem rt_94_8 : mx_rf (mx_RT 94 8) = .ref 98 := rfl
theorem rt_94_9 : mx_rf (mx_RT 94 9) = .ref 99 := rfl
theorem rt_94_10 : mx_rf (mx_RT 94 10) = .ref 100 := rfl
theorem rt_94_11 : mx_rf (mx_RT 94 11) = .ref 101 := rfl
theorem rt_94_12 : mx_rf (mx_RT 94 12) = .ref 102 := rfl
theorem rt_94_15 : mx_rf (mx_RT 94 15) = .ref 103 := rfl
theorem rt_94_16 : mx_rf (mx_RT 94 16) = .ref 104 := rfl
theorem rt_94_18 : mx_rf (mx_RT 94 18) = .ref 105 := rfl
theorem rt_94_21 : mx_rf (mx_RT 94 21) = .ref 106 := rfl
theorem rt_94_22 : mx_rf (mx_RT 94 22) = .ref 107 := rfl
theorem rt_94_23 : mx_rf (mx_RT 94 23) = .ref 108 := rfl
theorem rt_94_24 : mx_rf (mx_RT 94 24) = .ref 109 := rfl
theorem oc_0 (I : mx_I) (J : mx_J) : (mx_okc 10 0 (mk I J) = true) = True := eq_true rfl
theorem oc_1 (I : mx_I) (J : mx_J) : (mx_okc 7 1 (mk I J) = true) = True := eq_true rfl
theorem oc_2 (I : mx_I) (J : mx_J) : (mx_okc 0 2 (mk I J) = true) = True := eq_true rfl
theorem oc_3 (I : mx_I) (J : mx_J) : (mx_okc 1 3 (mk I J) = true) = True := eq_true rfl
theorem oa_4 (I : mx_I) (J : mx_J) (i : Int32) : (mx_oka 100 4 (mk I J) i = true) = (0 ≤ i ∧ i.toNatClampNeg < 9) := mk_oka rfl
theorem or_4 (I : mx_I) (J : mx_J) (i : Int32) : (mx_okr 103 4 (mk I J) i = true) = (0 ≤ i ∧ i.toNatClampNeg < 9) := mk_okr rfl (by decide)
theorem al_4 (I : mx_I) (J : mx_J) : mx_alen (mk I J) 4 = 9 := rfl
theorem ia_4 (I : mx_I) (J : mx_J) : (mx_isarr 4 (mk I J) = true) = True := eq_true rfl
theorem oc_5 (I : mx_I) (J : mx_J) : (mx_okc 1 5 (mk I J) = true) = True := eq_true rfl
theorem oa_6 (I : mx_I) (J : mx_J) (i : Int32) : (mx_oka 100 6 (mk I J) i = true) = (0 ≤ i ∧ i.toNatClampNeg < 9) := mk_oka rfl
theorem or_6 (I : mx_I) (J : mx_J) (i : Int32) : (mx_okr 103 6 (mk I J) i = true) = (0 ≤ i ∧ i.toNatClampNeg < 9) := mk_okr rfl (by decide)
theorem al_6 (I : mx_I) (J : mx_J) : mx_alen (mk I J) 6 = 9 := rfl
theorem ia_6 (I : mx_I) (J : mx_J) : (mx_isarr 6 (mk I J) = true) = True := eq_true rfl
theorem oc_7 (I : mx_I) (J : mx_J) : (mx_okc 1 7 (mk I J) = true) = True := eq_true rfl
theorem oa_8 (I : mx_I) (J : mx_J) (i : Int32) : (mx_oka 100 8 (mk I J) i = true) = (0 ≤ i ∧ i.toNatClampNeg < 9) := mk_oka rfl
theorem or_8 (I : mx_I) (J : mx_J) (i : Int32) : (mx_okr 103 8 (mk I J) i = true) = (0 ≤ i ∧ i.toNatClampNeg < 9) := mk_okr rfl (by decide)
theorem al_8 (I : mx_I) (J : mx_J) : mx_alen (mk I J) 8 = 9 := rfl
theorem ia_8 (I : mx_I) (J : mx_J) : (mx_isarr 8 (mk I J) = true) = True := eq_true rfl
theorem oc_9 (I : mx_I) (J : mx_J) : (mx_okc 1 9 (mk I J) = true) = True := eq_true rfl
theorem oa_10 (I : mx_I) (J : mx_J) (i : Int32) : (mx_oka 100 10 (mk I J) i = true) = (0 ≤ i ∧ i.toNatClampNeg < 9) := mk_oka rfl
theorem or_10 (I : mx_I) (J : mx_J) (i : Int32) : (mx_okr 103 10 (mk I J) i = true) = (0 ≤ i ∧ i.toNatClampNeg < 9) := mk_okr rfl (by decide)
theorem al_10 (I : mx_I) (J : mx_J) : mx_alen (mk I J) 10 = 9 := rfl
theorem ia_10 (I : mx_I) (J : mx_J) : (mx_isarr 10 (mk I J) = true) = True := eq_true rfl
theorem oc_11 (I : mx_I) (J : mx_J) : (mx_okc 1 11 (mk I J) = true) = True := eq_true rfl
theorem oa_12 (I : mx_I) (J : mx_J) (i : Int32) : (mx_oka 100 12 (mk I J) i = true) = (0 ≤ i ∧ i.toNatClampNeg < 9) := mk_oka rfl
theorem or_12 (I : mx_I) (J : mx_J) (i : Int32) : (mx_okr 103 12 (mk I J) i = true) = (0 ≤ i ∧ i.toNatClampNeg < 9) := mk_okr rfl (by decide)
theorem al_12 (I : mx_I) (J : mx_J) : mx_alen (mk I J) 12 = 9 := rfl
theorem ia_12 (I : mx_I) (J : mx_J) : (mx_isarr 12 (mk I J) = true) = True := eq_true rfl
theorem oc_13 (I : mx_I) (J : mx_J) : (mx_okc 1 13 (mk I J) = true) = True := eq_true rfl
theorem oa_14 (I : mx_I) (J : mx_J) (i : Int32) : (mx_oka 100 14 (mk I J) i = true) = (0 ≤ i ∧ i.toNatClampNeg < 60) := mk_oka rfl
theorem or_14 (I : mx_I) (J : mx_J) (i : Int32) : (mx_okr 103 14 (mk I J) i = true) = (0 ≤ i ∧ i.toNatClampNeg < 60) := mk_okr rfl (by decide)
theorem al_14 (I : mx_I) (J : mx_J) : mx_alen (mk I J) 14 = 60 := rfl
theorem ia_14 (I : mx_I) (J : mx_J) : (mx_isarr 14 (mk I J) = true) = True := eq_true rfl
theorem oc_15 (I : mx_I) (J : mx_J) : (mx_okc 1 15 (mk I J) = true) = True := eq_true rfl
theorem oa_16 (I : mx_I) (J : mx_J) (i : Int32) : (mx_oka 100 16 (mk I J) i = true) = (0 ≤ i ∧ i.toNatClampNeg < 24) := mk_oka rfl
theorem or_16 (I : mx_I) (J : mx_J) (i : Int32) : (mx_okr 103 16 (mk I J) i = true) = (0 ≤ i ∧ i.toNatClampNeg < 24) := mk_okr rfl (by decide)
theorem al_16 (I : mx_I) (J : mx_J) : mx_alen (mk I J) 16 = 24 := rfl
theorem ia_16 (I : mx_I) (J : mx_J) : (mx_isarr 16 (mk I J) = true) = True := eq_true rfl
theorem oc_17 (I : mx_I) (J : mx_J) : (mx_okc 8 17 (mk I J) = true) = True := eq_true rfl
theorem oc_18 (I : mx_I) (J : mx_J) : (mx_okc 1 18 (mk I J) = true) = True := eq_true rfl
theorem oa_19 (I : mx_I) (J : mx_J) (i : Int32) : (mx_oka 100 19 (mk I J) i = true) = (0 ≤ i ∧ i.toNatClampNeg < 60) := mk_oka rfl
theorem or_19 (I : mx_I) (J : mx_J) (i : Int32) : (mx_okr 103 19 (mk I J) i = true) = (0 ≤ i ∧ i.toNatClampNeg < 60) := mk_okr rfl (by decide)
theorem al_19 (I : mx_I) (J : mx_J) : mx_alen (mk I J) 19 = 60 := rfl
theorem ia_19 (I : mx_I) (J : mx_J) : (mx_isarr 19 (mk I J) = true) = True := eq_true rfl
theorem oc_20 (I : mx_I) (J : mx_J) : (mx_okc 1 20 (mk I J) = true) = True := eq_true rfl
theorem oa_21 (I : mx_I) (J : mx_J) (i : Int32) : (mx_oka 100 21 (mk I J) i = true) = (0 ≤ i ∧ i.toNatClampNeg < 60) := mk_oka rfl
theorem or_21 (I : mx_I) (J : mx_J) (i : Int32) : (mx_okr 103 21 (mk I J) i = true) = (0 ≤ i ∧ i.toNatClampNeg < 60) := mk_okr rfl (by decide)
theorem al_21 (I : mx_I) (J : mx_J) : mx_alen (mk I J) 21 = 60 := rfl
theorem ia_21 (I : mx_I) (J : mx_J) : (mx_isarr 21 (mk I J) = true) = True := eq_true rfl
theorem oc_22 (I : mx_I) (J : mx_J) : (mx_okc 8 22 (mk I J) = true) = True := eq_true rfl
theorem oc_23 (I : mx_I) (J : mx_J) : (mx_okc 1 23 (mk I J) = true) = True := eq_true rfl
theorem oa_24 (I : mx_I) (J : mx_J) (i : Int32) : (mx_oka 100 24 (mk I J) i = true) = (0 ≤ i ∧ i.toNatClampNeg < 60) := mk_oka rfl
theorem or_24 (I : mx_I) (J : mx_J) (i : Int32) : (mx_okr 103 24 (mk I J) i = true) = (0 ≤ i ∧ i.toNatClampNeg < 60) := mk_okr rfl (by decide)
theorem al_24 (I : mx_I) (J : mx_J) : mx_alen (mk I J) 24 = 60 := rfl
theorem ia_24 (I : mx_I) (J : mx_J) : (mx_isarr 24 (mk I J) = true) = True := eq_true rfl
theorem oc_25 (I : mx_I) (J : mx_J) : (mx_okc 1 25 (mk I J) = true) = True := eq_true rfl
theorem oa_26 (I : mx_I) (J : mx_J) (i : Int32) : (mx_oka 100 26 (mk I J) i = true) = (0 ≤ i ∧ i.toNatClampNeg < 60) := mk_oka rfl
theorem or_26 (I : mx_I) (J : mx_J) (i : Int32) : (mx_okr 103 26 (mk I J) i = true) = (0 ≤ i ∧ i.toNatClampNeg < 60) := mk_okr rfl (by decide)
theorem al_26 (I : mx_I) (J : mx_J) : mx_alen (mk I J) 26 = 60 := rfl
theorem ia_26 (I : mx_I) (J : mx_J) : (mx_isarr 26 (mk I J) = true) = True := eq_true rfl
theorem oc_27 (I : mx_I) (J : mx_J) : (mx_okc 7 27 (mk I J) = true) = True := eq_true rfl
theorem oc_28 (I : mx_I) (J : mx_J) : (mx_okc 0 28 (mk I J) = true) = True := eq_true rfl
theorem oc_29 (I : mx_I) (J : mx_J) : (mx_okc 1 29 (mk I J) = true) = True := eq_true rfl
theorem oa_30 (I : mx_I) (J : mx_J) (i : Int32) : (mx_oka 100 30 (mk I J) i = true) = (0 ≤ i ∧ i.toNatClampNeg < 9) := mk_oka rfl
theorem or_30 (I : mx_I) (J : mx_J) (i : Int32) : (mx_okr 103 30 (mk I J) i = true) = (0 ≤ i ∧ i.toNatClampNeg < 9) := mk_okr rfl (by decide)
theorem al_30 (I : mx_I) (J : mx_J) : mx_alen (mk I J) 30 = 9 := rfl
theorem ia_30 (I : mx_I) (J : mx_J) : (mx_isarr 30 (mk I J) = true) = True := eq_true rfl
theorem oc_31 (I : mx_I) (J : mx_J) : (mx_okc 1 31 (mk I J) = true) = True := eq_true rfl
theorem oa_32 (I : mx_I) (J : mx_J) (i : Int32) : (mx_oka 100 32 (mk I J) i = true) = (0 ≤ i ∧ i.toNatClampNeg < 9) := mk_oka rfl
theorem or_32 (I : mx_I) (J : mx_J) (i : Int32) : (mx_okr 103 32 (mk I J) i = true) = (0 ≤ i ∧ i.toNatClampNeg < 9) := mk_okr rfl (by decide)
theorem al_32 (I : mx_I) (J : mx_J) : mx_alen (mk I J) 32 = 9 := rfl
theorem ia_32 (I : mx_I) (J : mx_J) : (mx_isarr 32 (mk I J) = true) = True := eq_true rfl
theorem oc_33 (I : mx_I) (J : mx_J) : (mx_okc 1 33 (mk I J) = true) = True := eq_true rfl
theorem oa_34 (I : mx_I) (J : mx_J) (i : Int32) : (mx_oka 100 34 (mk I J) i = true) = (0 ≤ i ∧ i.toNatClampNeg < 9) := mk_oka rfl
theorem or_34 (I : mx_I) (J : mx_J) (i : Int32) : (mx_okr 103 34 (mk I J) i = true) = (0 ≤ i ∧ i.toNatClampNeg < 9) := mk_okr rfl (by decide)
theorem al_34 (I : mx_I) (J : mx_J) : mx_alen (mk I J) 34 = 9 := rfl
theorem ia_34 (I : mx_I) (J : mx_J) : (mx_isarr 34 (mk I J) = true) = True := eq_true rfl
theorem oc_35 (I : mx_I) (J : mx_J) : (mx_okc 1 35 (mk I J) = true) = True := eq_true rfl
theorem oa_36 (I : mx_I) (J : mx_J) (i : Int32) : (mx_oka 100 36 (mk I J) i = true) = (0 ≤ i ∧ i.toNatClampNeg < 9) := mk_oka rfl
theorem or_36 (I : mx_I) (J : mx_J) (i : Int32) : (mx_okr 103 36 (mk I J) i = true) = (0 ≤ i ∧ i.toNatClampNeg < 9) := mk_okr rfl (by decide)
theorem al_36 (I : mx_I) (J : mx_J) : mx_alen (mk I J) 36 = 9 := rfl
theorem ia_36 (I : mx_I) (J : mx_J) : (mx_isarr 36 (mk I J) = true) = True := eq_true rfl
theorem oc_37 (I : mx_I) (J : mx_J) : (mx_okc 1 37 (mk I J) = true) = True := eq_true rfl
theorem oa_38 (I : mx_I) (J : mx_J) (i : Int32) : (mx_oka 100 38 (mk I J) i = true) = (0 ≤ i ∧ i.toNatClampNeg < 9) := mk_oka rfl
theorem or_38 (I : mx_I) (J : mx_J) (i : Int32) : (mx_okr 103 38 (mk I J) i = true) = (0 ≤ i ∧ i.toNatClampNeg < 9) := mk_okr rfl (by decide)
theorem al_38 (I : mx_I) (J : mx_J) : mx_alen (mk I J) 38 = 9 := rfl
theorem ia_38 (I : mx_I) (J : mx_J) : (mx_isarr 38 (mk I J) = true) = True := eq_true rfl
theorem oc_39 (I : mx_I) (J : mx_J) : (mx_okc 1 39 (mk I J) = true) = True := eq_true rfl
theorem oa_40 (I : mx_I) (J : mx_J) (i : Int32) : (mx_oka 100 40 (mk I J) i = true) = (0 ≤ i ∧ i.toNatClampNeg < 60) := mk_oka rfl
theorem or_40 (I : mx_I) (J : mx_J) (i : Int32) : (mx_okr 103 40 (mk I J) i = true) = (0 ≤ i ∧ i.toNatClampNeg < 60) := mk_okr rfl (by decide)
theorem al_40 (I : mx_I) (J : mx_J) : mx_alen (mk I J) 40 = 60 := rfl
theorem ia_40 (I : mx_I) (J : mx_J) : (mx_isarr 40 (mk I J) = true) = True := eq_true rfl
theorem oc_41 (I : mx_I) (J : mx_J) : (mx_okc 1 41 (mk I J) = true) = True := eq_true rfl
theorem oa_42 (I : mx_I) (J : mx_J) (i : Int32) : (mx_oka 100 42 (mk I J) i = true) = (0 ≤ i ∧ i.toNatClampNeg < 24) := mk_oka rfl
theorem or_42 (I : mx_I) (J : mx_J) (i : Int32) : (mx_okr 103 42 (mk I J) i = true) = (0 ≤ i ∧ i.toNatClampNeg < 24) := mk_okr rfl (by decide)
theorem al_42 (I : mx_I) (J : mx_J) : mx_alen (mk I J) 42 = 24 := rfl
theorem ia_42 (I : mx_I) (J : mx_J) : (mx_isarr 42 (mk I J) = true) = True := eq_true rfl
theorem oc_43 (I : mx_I) (J : mx_J) : (mx_okc 8 43 (mk I J) = true) = True := eq_true rfl
theorem oc_44 (I : mx_I) (J : mx_J) : (mx_okc 1 44 (mk I J) = true) = True := eq_true rfl
theorem oa_45 (I : mx_I) (J : mx_J) (i : Int32) : (mx_oka 100 45 (mk I J) i = true) = (0 ≤ i ∧ i.toNatClampNeg < 60) := mk_oka rfl
theorem or_45 (I : mx_I) (J : mx_J) (i : Int32) : (mx_okr 103 45 (mk I J) i = true) = (0 ≤ i ∧ i.toNatClampNeg < 60) := mk_okr rfl (by decide)
theorem al_45 (I : mx_I) (J : mx_J) : mx_alen (mk I J) 45 = 60 := rfl
theorem ia_45 (I : mx_I) (J : mx_J) : (mx_isarr 45 (mk I J) = true) = True := eq_true rfl
theorem oc_46 (I : mx_I) (J : mx_J) : (mx_okc 1 46 (mk I J) = true) = True := eq_true rfl
theorem oa_47 (I : mx_I) (J : mx_J) (i : Int32) : (mx_oka 100 47 (mk I J) i = true) = (0 ≤ i ∧ i.toNatClampNeg < 60) := mk_oka rfl
theorem or_47 (I : mx_I) (J : mx_J) (i : Int32) : (mx_okr 103 47 (mk I J) i = true) = (0 ≤ i ∧ i.toNatClampNeg < 60) := mk_okr rfl (by decide)
theorem al_47 (I : mx_I) (J : mx_J) : mx_alen (mk I J) 47 = 60 := rfl
theorem ia_47 (I : mx_I) (J : mx_J) : (mx_isarr 47 (mk I J) = true) = True := eq_true rfl
theorem oc_48 (I : mx_I) (J : mx_J) : (mx_okc 8 48 (mk I J) = true) = True := eq_true rfl
theorem oc_49 (I : mx_I) (J : mx_J) : (mx_okc 1 49 (mk I J) = true) = True := eq_true rfl
theorem oa_50 (I : mx_I) (J : mx_J) (i : Int32) : (mx_oka 100 50 (mk I J) i = true) = (0 ≤ i ∧ i.toNatClampNeg < 60) := mk_oka rfl
theorem or_50 (I : mx_I) (J : mx_J) (i : Int32) : (mx_okr 103 50 (mk I J) i = true) = (0 ≤ i ∧ i.toNatClampNeg < 60) := mk_okr rfl (by decide)
theorem al_50 (I : mx_I) (J : mx_J) : mx_alen (mk I J) 50 = 60 := rfl
theorem ia_50 (I : mx_I) (J : mx_J) : (mx_isarr 50 (mk I J) = true) = True := eq_true rfl
theorem oc_51 (I : mx_I) (J : mx_J) : (mx_okc 1 51 (mk I J) = true) = True := eq_true rfl
theorem oa_52 (I : mx_I) (J : mx_J) (i : Int32) : (mx_oka 100 52 (mk I J) i = true) = (0 ≤ i ∧ i.toNatClampNeg < 60) := mk_oka rfl
theorem or_52 (I : mx_I) (J : mx_J) (i : Int32) : (mx_okr 103 52 (mk I J) i = true) = (0 ≤ i ∧ i.toNatClampNeg < 60) := mk_okr rfl (by decide)
theorem al_52 (I : mx_I) (J : mx_J) : mx_alen (mk I J) 52 = 60 := rfl
theorem ia_52 (I : mx_I) (J : mx_J) : (mx_isarr 52 (mk I J) = true) = True := eq_true rfl
theorem oc_53 (I : mx_I) (J : mx_J) : (mx_okc 1 53 (mk I J) = true) = True := eq_true rfl
theorem oa_54 (I : mx_I) (J : mx_J) (i : Int32) : (mx_oka 100 54 (mk I J) i = true) = (0 ≤ i ∧ i.toNatClampNeg < 7) := mk_oka rfl
theorem or_54 (I : mx_I) (J : mx_J) (i : Int32) : (mx_okr 103 54 (mk I J) i = true) = (0 ≤ i ∧ i.toNatClampNeg < 7) := mk_okr rfl (by decide)
theorem al_54 (I : mx_I) (J : mx_J) : mx_alen (mk I J) 54 = 7 := rfl
theorem ia_54 (I : mx_I) (J : mx_J) : (mx_isarr 54 (mk I J) = true) = True := eq_true rfl
theorem oc_55 (I : mx_I) (J : mx_J) : (mx_okc 3 55 (mk I J) = true) = True := eq_true rfl
theorem oc_56 (I : mx_I) (J : mx_J) : (mx_okc 1 56 (mk I J) = true) = True := eq_true rfl
theorem oa_57 (I : mx_I) (J : mx_J) (i : Int32) : (mx_oka 100 57 (mk I J) i = true) = (0 ≤ i ∧ i.toNatClampNeg < 60) := mk_oka rfl
theorem or_57 (I : mx_I) (J : mx_J) (i : Int32) : (mx_okr 103 57 (mk I J) i = true) = (0 ≤ i ∧ i.toNatClampNeg < 60) := mk_okr rfl (by decide)
theorem al_57 (I : mx_I) (J : mx_J) : mx_alen (mk I J) 57 = 60 := rfl
theorem ia_57 (I : mx_I) (J : mx_J) : (mx_isarr 57 (mk I J) = true) = True := eq_true rfl
theorem oc_58 (I : mx_I) (J : mx_J) : (mx_okc 1 58 (mk I J) = true) = True := eq_true rfl
theorem oa_59 (I : mx_I) (J : mx_J) (i : Int32) : (mx_oka 100 59 (mk I J) i = true) = (0 ≤ i ∧ i.toNatClampNeg < 60) := mk_oka rfl
theorem or_59 (I : mx_I) (J : mx_J) (i : Int32) : (mx_okr 103 59 (mk I J) i = true) = (0 ≤ i ∧ i.toNatClampNeg < 60) := mk_okr rfl (by decide)
theorem al_59 (I : mx_I) (J : mx_J) : mx_alen (mk I J) 59 = 60 := rfl
theorem ia_59 (I : mx_I) (J : mx_J) : (mx_isarr 59 (mk I J) = true) = True := eq_true rfl
theorem oc_60 (I : mx_I) (J : mx_J) : (mx_okc 5 60 (mk I J) = true) = True := eq_true rfl
theorem oc_61 (I : mx_I) (J : mx_J) : (mx_okc 1 61 (mk I J) = true) = True := eq_true rfl
theorem oa_62 (I : mx_I) (J : mx_J) (i : Int32) : (mx_oka 100 62 (mk I J) i = true) = (0 ≤ i ∧ i.toNatClampNeg < 9) := mk_oka rfl
theorem or_62 (I : mx_I) (J : mx_J) (i : Int32) : (mx_okr 103 62 (mk I J) i = true) = (0 ≤ i ∧ i.toNatClampNeg < 9) := mk_okr rfl (by decide)
theorem al_62 (I : mx_I) (J : mx_J) : mx_alen (mk I J) 62 = 9 := rfl
theorem ia_62 (I : mx_I) (J : mx_J) : (mx_isarr 62 (mk I J) = true) = True := eq_true rfl
theorem oa_63 (I : mx_I) (J : mx_J) (i : Int32) : (mx_oka 100 63 (mk I J) i = true) = (0 ≤ i ∧ i.toNatClampNeg < 512) := mk_oka rfl
theorem or_63 (I : mx_I) (J : mx_J) (i : Int32) : (mx_okr 103 63 (mk I J) i = true) = (0 ≤ i ∧ i.toNatClampNeg < 512) := mk_okr rfl (by decide)
theorem al_63 (I : mx_I) (J : mx_J) : mx_alen (mk I J) 63 = 512 := rfl
theorem ia_63 (I : mx_I) (J : mx_J) : (mx_isarr 63 (mk I J) = true) = True := eq_true rfl
theorem oa_64 (I : mx_I) (J : mx_J) (i : Int32) : (mx_oka 100 64 (mk I J) i = true) = (0 ≤ i ∧ i.toNatClampNeg < 512) := mk_oka rfl
theorem or_64 (I : mx_I) (J : mx_J) (i : Int32) : (mx_okr 103 64 (mk I J) i = true) = (0 ≤ i ∧ i.toNatClampNeg < 512) := mk_okr rfl (by decide)
theorem al_64 (I : mx_I) (J : mx_J) : mx_alen (mk I J) 64 = 512 := rfl
theorem ia_64 (I : mx_I) (J : mx_J) : (mx_isarr 64 (mk I J) = true) = True := eq_true rfl
theorem oa_65 (I : mx_I) (J : mx_J) (i : Int32) : (mx_oka 100 65 (mk I J) i = true) = (0 ≤ i ∧ i.toNatClampNeg < 512) := mk_oka rfl
theorem or_65 (I : mx_I) (J : mx_J) (i : Int32) : (mx_okr 103 65 (mk I J) i = true) = (0 ≤ i ∧ i.toNatClampNeg < 512) := mk_okr rfl (by decide)
theorem al_65 (I : mx_I) (J : mx_J) : mx_alen (mk I J) 65 = 512 := rfl
theorem ia_65 (I : mx_I) (J : mx_J) : (mx_isarr 65 (mk I J) = true) = True := eq_true rfl
theorem oa_66 (I : mx_I) (J : mx_J) (i : Int32) : (mx_oka 100 66 (mk I J) i = true) = (0 ≤ i ∧ i.toNatClampNeg < 512) := mk_oka rfl
theorem or_66 (I : mx_I) (J : mx_J) (i : Int32) : (mx_okr 103 66 (mk I J) i = true) = (0 ≤ i ∧ i.toNatClampNeg < 512) := mk_okr rfl (by decide)
theorem al_66 (I : mx_I) (J : mx_J) : mx_alen (mk I J) 66 = 512 := rfl
theorem ia_66 (I : mx_I) (J : mx_J) : (mx_isarr 66 (mk I J) = true) = True := eq_true rfl
theorem oc_67 (I : mx_I) (J : mx_J) : (mx_okc 4 67 (mk I J) = true) = True := eq_true rfl
theorem oc_68 (I : mx_I) (J : mx_J) : (mx_okc 1 68 (mk I J) = true) = True := eq_true rfl
theorem oa_69 (I : mx_I) (J : mx_J) (i : Int32) : (mx_oka 100 69 (mk I J) i = true) = (0 ≤ i ∧ i.toNatClampNeg < 6) := mk_oka rfl
theorem or_69 (I : mx_I) (J : mx_J) (i : Int32) : (mx_okr 103 69 (mk I J) i = true) = (0 ≤ i ∧ i.toNatClampNeg < 6) := mk_okr rfl (by decide)
theorem al_69 (I : mx_I) (J : mx_J) : mx_alen (mk I J) 69 = 6 := rfl
theorem ia_69 (I : mx_I) (J : mx_J) : (mx_isarr 69 (mk I J) = true) = True := eq_true rfl
theorem oc_70 (I : mx_I) (J : mx_J) : (mx_okc 1 70 (mk I J) = true) = True := eq_true rfl
theorem oa_71 (I : mx_I) (J : mx_J) (i : Int32) : (mx_oka 100 71 (mk I J) i = true) = (0 ≤ i ∧ i.toNatClampNeg < 6) := mk_oka rfl
theorem or_71 (I : mx_I) (J : mx_J) (i : Int32) : (mx_okr 103 71 (mk I J) i = true) = (0 ≤ i ∧ i.toNatClampNeg < 6) := mk_okr rfl (by decide)
theorem al_71 (I : mx_I) (J : mx_J) : mx_alen (mk I J) 71 = 6 := rfl
theorem ia_71 (I : mx_I) (J : mx_J) : (mx_isarr 71 (mk I J) = true) = True := eq_true rfl
theorem oc_72 (I : mx_I) (J : mx_J) : (mx_okc 1 72 (mk I J) = true) = True := eq_true rfl
theorem oa_73 (I : mx_I) (J : mx_J) (i : Int32) : (mx_oka 100 73 (mk I J) i = true) = (0 ≤ i ∧ i.toNatClampNeg < 36) := mk_oka rfl
theorem or_73 (I : mx_I) (J : mx_J) (i : Int32) : (mx_okr 103 73 (mk I J) i = true) = (0 ≤ i ∧ i.toNatClampNeg < 36) := mk_okr rfl (by decide)
theorem al_73 (I : mx_I) (J : mx_J) : mx_alen (mk I J) 73 = 36 := rfl
theorem ia_73 (I : mx_I) (J : mx_J) : (mx_isarr 73 (mk I J) = true) = True := eq_true rfl
theorem oc_74 (I : mx_I) (J : mx_J) : (mx_okc 1 74 (mk I J) = true) = True := eq_true rfl
theorem oa_75 (I : mx_I) (J : mx_J) (i : Int32) : (mx_oka 100 75 (mk I J) i = true) = (0 ≤ i ∧ i.toNatClampNeg < 64) := mk_oka rfl
theorem or_75 (I : mx_I) (J : mx_J) (i : Int32) : (mx_okr 103 75 (mk I J) i = true) = (0 ≤ i ∧ i.toNatClampNeg < 64) := mk_okr rfl (by decide)
theorem al_75 (I : mx_I) (J : mx_J) : mx_alen (mk I J) 75 = 64 := rfl
theorem ia_75 (I : mx_I) (J : mx_J) : (mx_isarr 75 (mk I J) = true) = True := eq_true rfl
theorem oc_76 (I : mx_I) (J : mx_J) : (mx_okc 2 76 (mk I J) = true) = True := eq_true rfl
theorem oa_77 (I : mx_I) (J : mx_J) (i : Int32) : (mx_oka 101 77 (mk I J) i = true) = (0 ≤ i ∧ i.toNatClampNeg < 82) := mk_oka rfl
theorem al_77 (I : mx_I) (J : mx_J) : mx_alen (mk I J) 77 = 82 := rfl
theorem ia_77 (I : mx_I) (J : mx_J) : (mx_isarr 77 (mk I J) = true) = True := eq_true rfl
theorem oc_78 (I : mx_I) (J : mx_J) : (mx_okc 9 78 (mk I J) = true) = True := eq_true rfl
theorem oc_79 (I : mx_I) (J : mx_J) : (mx_okc 1 79 (mk I J) = true) = True := eq_true rfl
theorem oa_80 (I : mx_I) (J : mx_J) (i : Int32) : (mx_oka 100 80 (mk I J) i = true) = (0 ≤ i ∧ i.toNatClampNeg < 30) := mk_oka rfl
theorem or_80 (I : mx_I) (J : mx_J) (i : Int32) : (mx_okr 103 80 (mk I J) i = true) = (0 ≤ i ∧ i.toNatClampNeg < 30) := mk_okr rfl (by decide)
theorem al_80 (I : mx_I) (J : mx_J) : mx_alen (mk I J) 80 = 30 := rfl
theorem ia_80 (I : mx_I) (J : mx_J) : (mx_isarr 80 (mk I J) = true) = True := eq_true rfl
theorem oa_81 (I : mx_I) (J : mx_J) (i : Int32) : (mx_oka 102 81 (mk I J) i = true) = (0 ≤ i ∧ i.toNatClampNeg < 4) := mk_oka rfl
theorem al_81 (I : mx_I) (J : mx_J) : mx_alen (mk I J) 81 = 4 := rfl
theorem ia_81 (I : mx_I) (J : mx_J) : (mx_isarr 81 (mk I J) = true) = True := eq_true rfl
theorem oc_82 (I : mx_I) (J : mx_J) : (mx_okc 6 82 (mk I J) = true) = True := eq_true rfl
theorem oc_83 (I : mx_I) (J : mx_J) : (mx_okc 1 83 (mk I J) = true) = True := eq_true rfl
theorem oa_84 (I : mx_I) (J : mx_J) (i : Int32) : (mx_oka 100 84 (mk I J) i = true) = (0 ≤ i ∧ i.toNatClampNeg < 24) := mk_oka rfl
theorem or_84 (I : mx_I) (J : mx_J) (i : Int32) : (mx_okr 103 84 (mk I J) i = true) = (0 ≤ i ∧ i.toNatClampNeg < 24) := mk_okr rfl (by decide)
theorem al_84 (I : mx_I) (J : mx_J) : mx_alen (mk I J) 84 = 24 := rfl
theorem ia_84 (I : mx_I) (J : mx_J) : (mx_isarr 84 (mk I J) = true) = True := eq_true rfl
theorem oc_85 (I : mx_I) (J : mx_J) : (mx_okc 6 85 (mk I J) = true) = True := eq_true rfl
theorem oc_86 (I : mx_I) (J : mx_J) : (mx_okc 1 86 (mk I J) = true) = True := eq_true rfl
theorem oa_87 (I : mx_I) (J : mx_J) (i : Int32) : (mx_oka 100 87 (mk I J) i = true) = (0 ≤ i ∧ i.toNatClampNeg < 24) := mk_oka rfl
theorem or_87 (I : mx_I) (J : mx_J) (i : Int32) : (mx_okr 103 87 (mk I J) i = true) = (0 ≤ i ∧ i.toNatClampNeg < 24) := mk_okr rfl (by decide)
theorem al_87 (I : mx_I) (J : mx_J) : mx_alen (mk I J) 87 = 24 := rfl
theorem ia_87 (I : mx_I) (J : mx_J) : (mx_isarr 87 (mk I J) = true) = True := eq_true rfl
theorem oc_88 (I : mx_I) (J : mx_J) : (mx_okc 6 88 (mk I J) = true) = True := eq_true rfl
theorem oc_89 (I : mx_I) (J : mx_J) : (mx_okc 1 89 (mk I J) = true) = True := eq_true rfl
theorem oa_90 (I : mx_I) (J : mx_J) (i : Int32) : (mx_oka 100 90 (mk I J) i = true) = (0 ≤ i ∧ i.toNatClampNeg < 24) := mk_oka rfl
theorem or_90 (I : mx_I) (J : mx_J) (i : Int32) : (mx_okr 103 90 (mk I J) i = true) = (0 ≤ i ∧ i.toNatClampNeg < 24) := mk_okr rfl (by decide)
theorem al_90 (I : mx_I) (J : mx_J) : mx_alen (mk I J) 90 = 24 := rfl
theorem ia_90 (I : mx_I) (J : mx_J) : (mx_isarr 90 (mk I J) = true) = True := eq_true rfl
theorem oc_91 (I : mx_I) (J : mx_J) : (mx_okc 6 91 (mk I J) = true) = True := eq_true rfl
theorem oc_92 (I : mx_I) (J : mx_J) : (mx_okc 1 92 (mk I J) = true) = True := eq_true rfl
theorem oa_93 (I : mx_I) (J : mx_J) (i : Int32) : (mx_oka 100 93 (mk I J) i = true) = (0 ≤ i ∧ i.toNatClampNeg < 24) := mk_oka rfl
theorem or_93 (I : mx_I) (J : mx_J) (i : Int32) : (mx_okr 103 93 (mk I J) i = true) = (0 ≤ i ∧ i.toNatClampNeg < 24) := mk_okr rfl (by decide)
theorem al_93 (I : mx_I) (J : mx_J) : mx_alen (mk I J) 93 = 24 := rfl
theorem ia_93 (I : mx_I) (J : mx_J) : (mx_isarr 93 (mk I J) = true) = True := eq_true rfl
theorem oc_94 (I : mx_I) (J : mx_J) : (mx_okc 11 94 (mk I J) = true) = True := eq_true rfl
theorem oa_95 (I : mx_I) (J : mx_J) (i : Int32) : (mx_oka 100 95 (mk I J) i = true) = (0 ≤ i ∧ i.toNatClampNeg < 387) := mk_oka rfl
theorem or_95 (I : mx_I) (J : mx_J) (i : Int32) : (mx_okr 103 95 (mk I J) i = true) = (0 ≤ i ∧ i.toNatClampNeg < 387) := mk_okr rfl (by decide)
theorem al_95 (I : mx_I) (J : mx_J) : mx_alen (mk I J) 95 = 387 := rfl
theorem ia_95 (I : mx_I) (J : mx_J) : (mx_isarr 95 (mk I J) = true) = True := eq_true rfl
theorem oa_96 (I : mx_I) (J : mx_J) (i : Int32) : (mx_oka 100 96 (mk I J) i = true) = (0 ≤ i ∧ i.toNatClampNeg < 387) := mk_oka rfl
theorem or_96 (I : mx_I) (J : mx_J) (i : Int32) : (mx_okr 103 96 (mk I J) i = true) = (0 ≤ i ∧ i.toNatClampNeg < 387) := mk_okr rfl (by decide)
theorem al_96 (I : mx_I) (J : mx_J) : mx_alen (mk I J) 96 = 387 := rfl
theorem ia_96 (I : mx_I) (J : mx_J) : (mx_isarr 96 (mk I J) = true) = True := eq_true rfl
theorem oa_97 (I : mx_I) (J : mx_J) (i : Int32) : (mx_oka 100 97 (mk I J) i = true) = (0 ≤ i ∧ i.toNatClampNeg < 7) := mk_oka rfl
theorem or_97 (I : mx_I) (J : mx_J) (i : Int32) : (mx_okr 103 97 (mk I J) i = true) = (0 ≤ i ∧ i.toNatClampNeg < 7) := mk_okr rfl (by decide)
theorem al_97 (I : mx_I) (J : mx_J) : mx_alen (mk I J) 97 = 7 := rfl
theorem ia_97 (I : mx_I) (J : mx_J) : (mx_isarr 97 (mk I J) = true) = True := eq_true rfl
theorem oa_98 (I : mx_I) (J : mx_J) (i : Int32) : (mx_oka 100 98 (mk I J) i = true) = (0 ≤ i ∧ i.toNatClampNeg < 124) := mk_oka rfl
theorem or_98 (I : mx_I) (J : mx_J) (i : Int32) : (mx_okr 103 98 (mk I J) i = true) = (0 ≤ i ∧ i.toNatClampNeg < 124) := mk_okr rfl (by decide)
theorem al_98 (I : mx_I) (J : mx_J) : mx_alen (mk I J) 98 = 124 := rfl
theorem ia_98 (I : mx_I) (J : mx_J) : (mx_isarr 98 (mk I J) = true) = True := eq_true rfl
theorem oa_99 (I : mx_I) (J : mx_J) (i : Int32) : (mx_oka 100 99 (mk I J) i = true) = (0 ≤ i ∧ i.toNatClampNeg < 128) := mk_oka rfl
theorem or_99 (I : mx_I) (J : mx_J) (i : Int32) : (mx_okr 103 99 (mk I J) i = true) = (0 ≤ i ∧ i.toNatClampNeg < 128) := mk_okr rfl (by decide)
theorem al_99 (I : mx_I) (J : mx_J) : mx_alen (mk I J) 99 = 128 := rfl
theorem ia_99 (I : mx_I) (J : mx_J) : (mx_isarr 99 (mk I J) = true) = True := eq_true rfl
theorem oa_100 (I : mx_I) (J : mx_J) (i : Int32) : (mx_oka 100 100 (mk I J) i = true) = (0 ≤ i ∧ i.toNatClampNeg < 64) := mk_oka rfl
theorem or_100 (I : mx_I) (J : mx_J) (i : Int32) : (mx_okr 103 100 (mk I J) i = true) = (0 ≤ i ∧ i.toNatClampNeg < 64) := mk_okr rfl (by decide)
theorem al_100 (I : mx_I) (J : mx_J) : mx_alen (mk I J) 100 = 64 := rfl
theorem ia_100 (I : mx_I) (J : mx_J) : (mx_isarr 100 (mk I J) = true) = True := eq_true rfl
theorem oa_101 (I : mx_I) (J : mx_J) (i : Int32) : (mx_oka 100 101 (mk I J) i = true) = (0 ≤ i ∧ i.toNatClampNeg < 6) := mk_oka rfl
theorem or_101 (I : mx_I) (J : mx_J) (i : Int32) : (mx_okr 103 101 (mk I J) i = true) = (0 ≤ i ∧ i.toNatClampNeg < 6) := mk_okr rfl (by decide)
theorem al_101 (I : mx_I) (J : mx_J) : mx_alen (mk I J) 101 = 6 := rfl
theorem ia_101 (I : mx_I) (J : mx_J) : (mx_isarr 101 (mk I J) = true) = True := eq_true rfl
theorem oa_102 (I : mx_I) (J : mx_J) (i : Int32) : (mx_oka 100 102 (mk I J) i = true) = (0 ≤ i ∧ i.toNatClampNeg < 6) := mk_oka rfl
theorem or_102 (I : mx_I) (J : mx_J) (i : Int32) : (mx_okr 103 102 (mk I J) i = true) = (0 ≤ i ∧ i.toNatClampNeg < 6) := mk_okr rfl (by decide)
theorem al_102 (I : mx_I) (J : mx_J) : mx_alen (mk I J) 102 = 6 := rfl
theorem ia_102 (I : mx_I) (J : mx_J) : (mx_isarr 102 (mk I J) = true) = True := eq_true rfl
theorem oa_103 (I : mx_I) (J : mx_J) (i : Int32) : (mx_oka 101 103 (mk I J) i = true) = (0 ≤ i ∧ i.toNatClampNeg < 82) := mk_oka rfl
theorem al_103 (I : mx_I) (J : mx_J) : mx_alen (mk I J) 103 = 82 := rfl
theorem ia_103 (I : mx_I) (J : mx_J) : (mx_isarr 103 (mk I J) = true) = True := eq_true rfl
theorem oa_104 (I : mx_I) (J : mx_J) (i : Int32) : (mx_oka 101 104 (mk I J) i = true) = (0 ≤ i ∧ i.toNatClampNeg < 82) := mk_oka rfl
theorem al_104 (I : mx_I) (J : mx_J) : mx_alen (mk I J) 104 = 82 := rfl
theorem ia_104 (I : mx_I) (J : mx_J) : (mx_isarr 104 (mk I J) = true) = True := eq_true rfl
theorem oa_105 (I : mx_I) (J : mx_J) (i : Int32) : (mx_oka 100 105 (mk I J) i = true) = (0 ≤ i ∧ i.toNatClampNeg < 30) := mk_oka rfl
theorem or_105 (I : mx_I) (J : mx_J) (i : Int32) : (mx_okr 103 105 (mk I J) i = true) = (0 ≤ i ∧ i.toNatClampNeg < 30) := mk_okr rfl (by decide)
theorem al_105 (I : mx_I) (J : mx_J) : mx_alen (mk I J) 105 = 30 := rfl
theorem ia_105 (I : mx_I) (J : mx_J) : (mx_isarr 105 (mk I J) = true) = True := eq_true rfl
theorem oa_106 (I : mx_I) (J : mx_J) (i : Int32) : (mx_oka 100 106 (mk I J) i = true) = (0 ≤ i ∧ i.toNatClampNeg < 4) := mk_oka rfl
theorem or_106 (I : mx_I) (J : mx_J) (i : Int32) : (mx_okr 103 106 (mk I J) i = true) = (0 ≤ i ∧ i.toNatClampNeg < 4) := mk_okr rfl (by decide)
theorem al_106 (I : mx_I) (J : mx_J) : mx_alen (mk I J) 106 = 4 := rfl
theorem ia_106 (I : mx_I) (J : mx_J) : (mx_isarr 106 (mk I J) = true) = True := eq_true rfl
theorem oa_107 (I : mx_I) (J : mx_J) (i : Int32) : (mx_oka 100 107 (mk I J) i = true) = (0 ≤ i ∧ i.toNatClampNeg < 4) := mk_oka rfl
theorem or_107 (I : mx_I) (J : mx_J) (i : Int32) : (mx_okr 103 107 (mk I J) i = true) = (0 ≤ i ∧ i.toNatClampNeg < 4) := mk_okr rfl (by decide)
theorem al_107 (I : mx_I) (J : mx_J) : mx_alen (mk I J) 107 = 4 := rfl
theorem ia_107 (I : mx_I) (J : mx_J) : (mx_isarr 107 (mk I J) = true) = True := eq_true rfl
theorem oa_108 (I : mx_I) (J : mx_J) (i : Int32) : (mx_oka 100 108 (mk I J) i = true) = (0 ≤ i ∧ i.toNatClampNeg < 96) := mk_oka rfl
theorem or_108 (I : mx_I) (J : mx_J) (i : Int32) : (mx_okr 103 108 (mk I J) i = true) = (0 ≤ i ∧ i.toNatClampNeg < 96) := mk_okr rfl (by decide)
theorem al_108 (I : mx_I) (J : mx_J) : mx_alen (mk I J) 108 = 96 := rfl
theorem ia_108 (I : mx_I) (J : mx_J) : (mx_isarr 108 (mk I J) = true) = True := eq_true rfl
theorem oa_109 (I : mx_I) (J : mx_J) (i : Int32) : (mx_oka 100 109 (mk I J) i = true) = (0 ≤ i ∧ i.toNatClampNeg < 24) := mk_oka rfl
theorem or_109 (I : mx_I) (J : mx_J) (i : Int32) : (mx_okr 103 109 (mk I J) i = true) = (0 ≤ i ∧ i.toNatClampNeg < 24) := mk_okr rfl (by decide)
theorem al_109 (I : mx_I) (J : mx_J) : mx_alen (mk I J) 109 = 24 := rfl
theorem ia_109 (I : mx_I) (J : mx_J) : (mx_isarr 109 (mk I J) = true) = True := eq_true rfl
theorem or_1000 (I : mx_I) (J : mx_J) (i : Int32) : (mx_okr 103 1000 (mk I J) i = true) = (0 ≤ i ∧ i.toNatClampNeg < 7) := mk_okr rfl (by decide)
theorem or_1003 (I : mx_I) (J : mx_J) (i : Int32) : (mx_okr 103 1003 (mk I J) i = true) = (0 ≤ i ∧ i.toNatClampNeg < 28) := mk_okr rfl (by decide)
theorem al_1000 (I : mx_I) (J : mx_J) : mx_alen (mk I J) 1000 = 7 := rfl
theorem ia_1000 (I : mx_I) (J : mx_J) : (mx_isarr 1000 (mk I J) = true) = True := eq_true rfl
theorem al_1001 (I : mx_I) (J : mx_J) : mx_alen (mk I J) 1001 = 3 := rfl
theorem ia_1001 (I : mx_I) (J : mx_J) : (mx_isarr 1001 (mk I J) = true) = True := eq_true rfl
theorem al_1002 (I : mx_I) (J : mx_J) : mx_alen (mk I J) 1002 = 3 := rfl
theorem ia_1002 (I : mx_I) (J : mx_J) : (mx_isarr 1002 (mk I J) = true) = True := eq_true rfl
theorem al_1003 (I : mx_I) (J : mx_J) : mx_alen (mk I J) 1003 = 28 := rfl
theorem ia_1003 (I : mx_I) (J : mx_J) : (mx_isarr 1003 (mk I J) = true) = True := eq_true rfl
