/-! the two objects are made; then the loop -/
def mx_h0 (L : Nat) (xs : Nat → Int32) : mx_H := (fun a i => if 1000 ≤ a then mx_sv L xs (a - 1000) i else 0, fun _ _ => 0, fun _ _ => none, 0)
def hp (I : mx_I) (J : mx_J) (Q : mx_Q) (n : Nat) : mx_H := (I, J, Q, n)
theorem hp_I (I : mx_I) (J : mx_J) (Q : mx_Q) (n : Nat) : (hp I J Q n).1 = I := Eq.trans (Eq.refl _) rfl
theorem hp_J (I : mx_I) (J : mx_J) (Q : mx_Q) (n : Nat) : (hp I J Q n).2.1 = J := Eq.trans (Eq.refl _) rfl
theorem hp_Q (I : mx_I) (J : mx_J) (Q : mx_Q) (n : Nat) : (hp I J Q n).2.2.1 = Q := Eq.trans (Eq.refl _) rfl
theorem hp_n (I : mx_I) (J : mx_J) (Q : mx_Q) (n : Nat) : (hp I J Q n).2.2.2 = n := Eq.trans (Eq.refl _) rfl
theorem hp_sI (I I2 : mx_I) (J : mx_J) (Q : mx_Q) (n : Nat) : mx_sI (hp I J Q n) I2 = hp I2 J Q n := Eq.trans (Eq.refl _) rfl
theorem hp_sJ (I : mx_I) (J J2 : mx_J) (Q : mx_Q) (n : Nat) : mx_sJ (hp I J Q n) J2 = hp I J2 Q n := Eq.trans (Eq.refl _) rfl
theorem hp_sQ (I : mx_I) (J : mx_J) (Q Q2 : mx_Q) (n : Nat) : mx_sQ (hp I J Q n) Q2 = hp I J Q2 n := Eq.trans (Eq.refl _) rfl
theorem hp_fr (I : mx_I) (J : mx_J) (Q : mx_Q) (n : Nat) : mx_fresh (hp I J Q n) = hp (mx_row I n (fun _ => 0)) (mx_row J n (fun _ => 0)) (mx_row Q n (fun _ => none)) (n + 1) := Eq.trans (Eq.refl _) rfl
theorem okc_iff (c a : Nat) (h : mx_H) : (mx_okc c a h = true) = (a < h.2.2.2 ∧ (mx_lay a).1 = c) := by simp [mx_okc]
theorem rf_some (a : Nat) : mx_rf (some a) = .ref a := rfl
theorem oka_iff (t a : Nat) (h : mx_H) (i : Int32) : (mx_oka t a h i = true) = ((a < h.2.2.2 ∧ (mx_lay a).1 = t) ∧ 0 ≤ i ∧ i.toNatClampNeg < (mx_lay a).2) := by simp [mx_oka, mx_inb]
theorem isarr_iff (a : Nat) (h : mx_H) : (mx_isarr a h = true) = (((a < h.2.2.2 ∧ 100 ≤ (mx_lay a).1) ∧ (mx_lay a).1 ≤ 102 ∨ (mx_lay a).1 = 103) ∨ (mx_lay a).1 = 104) := by simp [mx_isarr]
theorem alen_lo (h : mx_H) : mx_alen h 81 = 4 := Eq.trans (Eq.refl _) rfl
theorem max0 (x : Int32) (h : 0 ≤ x) : (if 0 < x then x else 0) = x := by
  by_cases q : 0 < x
  · rw [if_pos q]
  · rw [if_neg q]
    rw [Int32.lt_iff_toInt_lt] at q
    rw [Int32.le_iff_toInt_le] at h
    exact Int32.toInt_inj.mp (by omega)
theorem ly1_0 : (mx_lay 0).1 = 10 := Eq.trans (Eq.refl _) rfl
theorem ly2_0 : (mx_lay 0).2 = 10 := Eq.trans (Eq.refl _) rfl
theorem ly1_1 : (mx_lay 1).1 = 7 := Eq.trans (Eq.refl _) rfl
theorem ly2_1 : (mx_lay 1).2 = 9 := Eq.trans (Eq.refl _) rfl
theorem ly1_2 : (mx_lay 2).1 = 0 := Eq.trans (Eq.refl _) rfl
theorem ly2_2 : (mx_lay 2).2 = 6 := Eq.trans (Eq.refl _) rfl
theorem ly1_3 : (mx_lay 3).1 = 1 := Eq.trans (Eq.refl _) rfl
theorem ly2_3 : (mx_lay 3).2 = 2 := Eq.trans (Eq.refl _) rfl
theorem ly1_4 : (mx_lay 4).1 = 100 := Eq.trans (Eq.refl _) rfl
theorem ly2_4 : (mx_lay 4).2 = 9 := Eq.trans (Eq.refl _) rfl
theorem ly1_5 : (mx_lay 5).1 = 1 := Eq.trans (Eq.refl _) rfl
theorem ly2_5 : (mx_lay 5).2 = 2 := Eq.trans (Eq.refl _) rfl
theorem ly1_6 : (mx_lay 6).1 = 100 := Eq.trans (Eq.refl _) rfl
theorem ly2_6 : (mx_lay 6).2 = 9 := Eq.trans (Eq.refl _) rfl
theorem ly1_7 : (mx_lay 7).1 = 1 := Eq.trans (Eq.refl _) rfl
theorem ly2_7 : (mx_lay 7).2 = 2 := Eq.trans (Eq.refl _) rfl
theorem ly1_8 : (mx_lay 8).1 = 100 := Eq.trans (Eq.refl _) rfl
theorem ly2_8 : (mx_lay 8).2 = 9 := Eq.trans (Eq.refl _) rfl
theorem ly1_9 : (mx_lay 9).1 = 1 := Eq.trans (Eq.refl _) rfl
theorem ly2_9 : (mx_lay 9).2 = 2 := Eq.trans (Eq.refl _) rfl
theorem ly1_10 : (mx_lay 10).1 = 100 := Eq.trans (Eq.refl _) rfl
theorem ly2_10 : (mx_lay 10).2 = 9 := Eq.trans (Eq.refl _) rfl
theorem ly1_11 : (mx_lay 11).1 = 1 := Eq.trans (Eq.refl _) rfl
theorem ly2_11 : (mx_lay 11).2 = 2 := Eq.trans (Eq.refl _) rfl
theorem ly1_12 : (mx_lay 12).1 = 100 := Eq.trans (Eq.refl _) rfl
theorem ly2_12 : (mx_lay 12).2 = 9 := Eq.trans (Eq.refl _) rfl
theorem ly1_13 : (mx_lay 13).1 = 1 := Eq.trans (Eq.refl _) rfl
theorem ly2_13 : (mx_lay 13).2 = 2 := Eq.trans (Eq.refl _) rfl
theorem ly1_14 : (mx_lay 14).1 = 100 := Eq.trans (Eq.refl _) rfl
theorem ly2_14 : (mx_lay 14).2 = 60 := Eq.trans (Eq.refl _) rfl
theorem ly1_15 : (mx_lay 15).1 = 1 := Eq.trans (Eq.refl _) rfl
theorem ly2_15 : (mx_lay 15).2 = 2 := Eq.trans (Eq.refl _) rfl
theorem ly1_16 : (mx_lay 16).1 = 100 := Eq.trans (Eq.refl _) rfl
theorem ly2_16 : (mx_lay 16).2 = 24 := Eq.trans (Eq.refl _) rfl
theorem ly1_17 : (mx_lay 17).1 = 8 := Eq.trans (Eq.refl _) rfl
theorem ly2_17 : (mx_lay 17).2 = 3 := Eq.trans (Eq.refl _) rfl
theorem ly1_18 : (mx_lay 18).1 = 1 := Eq.trans (Eq.refl _) rfl
theorem ly2_18 : (mx_lay 18).2 = 2 := Eq.trans (Eq.refl _) rfl
theorem ly1_19 : (mx_lay 19).1 = 100 := Eq.trans (Eq.refl _) rfl
theorem ly2_19 : (mx_lay 19).2 = 60 := Eq.trans (Eq.refl _) rfl
theorem ly1_20 : (mx_lay 20).1 = 1 := Eq.trans (Eq.refl _) rfl
theorem ly2_20 : (mx_lay 20).2 = 2 := Eq.trans (Eq.refl _) rfl
theorem ly1_21 : (mx_lay 21).1 = 100 := Eq.trans (Eq.refl _) rfl
theorem ly2_21 : (mx_lay 21).2 = 60 := Eq.trans (Eq.refl _) rfl
theorem ly1_22 : (mx_lay 22).1 = 8 := Eq.trans (Eq.refl _) rfl
theorem ly2_22 : (mx_lay 22).2 = 3 := Eq.trans (Eq.refl _) rfl
theorem ly1_23 : (mx_lay 23).1 = 1 := Eq.trans (Eq.refl _) rfl
theorem ly2_23 : (mx_lay 23).2 = 2 := Eq.trans (Eq.refl _) rfl
theorem ly1_24 : (mx_lay 24).1 = 100 := Eq.trans (Eq.refl _) rfl
theorem ly2_24 : (mx_lay 24).2 = 60 := Eq.trans (Eq.refl _) rfl
theorem ly1_25 : (mx_lay 25).1 = 1 := Eq.trans (Eq.refl _) rfl
theorem ly2_25 : (mx_lay 25).2 = 2 := Eq.trans (Eq.refl _) rfl
theorem ly1_26 : (mx_lay 26).1 = 100 := Eq.trans (Eq.refl _) rfl
theorem ly2_26 : (mx_lay 26).2 = 60 := Eq.trans (Eq.refl _) rfl
theorem ly1_27 : (mx_lay 27).1 = 7 := Eq.trans (Eq.refl _) rfl
theorem ly2_27 : (mx_lay 27).2 = 9 := Eq.trans (Eq.refl _) rfl
theorem ly1_28 : (mx_lay 28).1 = 0 := Eq.trans (Eq.refl _) rfl
theorem ly2_28 : (mx_lay 28).2 = 6 := Eq.trans (Eq.refl _) rfl
theorem ly1_29 : (mx_lay 29).1 = 1 := Eq.trans (Eq.refl _) rfl
theorem ly2_29 : (mx_lay 29).2 = 2 := Eq.trans (Eq.refl _) rfl
theorem ly1_30 : (mx_lay 30).1 = 100 := Eq.trans (Eq.refl _) rfl
theorem ly2_30 : (mx_lay 30).2 = 9 := Eq.trans (Eq.refl _) rfl
theorem ly1_31 : (mx_lay 31).1 = 1 := Eq.trans (Eq.refl _) rfl
theorem ly2_31 : (mx_lay 31).2 = 2 := Eq.trans (Eq.refl _) rfl
theorem ly1_32 : (mx_lay 32).1 = 100 := Eq.trans (Eq.refl _) rfl
theorem ly2_32 : (mx_lay 32).2 = 9 := Eq.trans (Eq.refl _) rfl
theorem ly1_33 : (mx_lay 33).1 = 1 := Eq.trans (Eq.refl _) rfl
theorem ly2_33 : (mx_lay 33).2 = 2 := Eq.trans (Eq.refl _) rfl
theorem ly1_34 : (mx_lay 34).1 = 100 := Eq.trans (Eq.refl _) rfl
theorem ly2_34 : (mx_lay 34).2 = 9 := Eq.trans (Eq.refl _) rfl
theorem ly1_35 : (mx_lay 35).1 = 1 := Eq.trans (Eq.refl _) rfl
theorem ly2_35 : (mx_lay 35).2 = 2 := Eq.trans (Eq.refl _) rfl
theorem ly1_36 : (mx_lay 36).1 = 100 := Eq.trans (Eq.refl _) rfl
theorem ly2_36 : (mx_lay 36).2 = 9 := Eq.trans (Eq.refl _) rfl
theorem ly1_37 : (mx_lay 37).1 = 1 := Eq.trans (Eq.refl _) rfl
theorem ly2_37 : (mx_lay 37).2 = 2 := Eq.trans (Eq.refl _) rfl
theorem ly1_38 : (mx_lay 38).1 = 100 := Eq.trans (Eq.refl _) rfl
theorem ly2_38 : (mx_lay 38).2 = 9 := Eq.trans (Eq.refl _) rfl
theorem ly1_39 : (mx_lay 39).1 = 1 := Eq.trans (Eq.refl _) rfl
theorem ly2_39 : (mx_lay 39).2 = 2 := Eq.trans (Eq.refl _) rfl
theorem ly1_40 : (mx_lay 40).1 = 100 := Eq.trans (Eq.refl _) rfl
theorem ly2_40 : (mx_lay 40).2 = 60 := Eq.trans (Eq.refl _) rfl
theorem ly1_41 : (mx_lay 41).1 = 1 := Eq.trans (Eq.refl _) rfl
theorem ly2_41 : (mx_lay 41).2 = 2 := Eq.trans (Eq.refl _) rfl
theorem ly1_42 : (mx_lay 42).1 = 100 := Eq.trans (Eq.refl _) rfl
theorem ly2_42 : (mx_lay 42).2 = 24 := Eq.trans (Eq.refl _) rfl
theorem ly1_43 : (mx_lay 43).1 = 8 := Eq.trans (Eq.refl _) rfl
theorem ly2_43 : (mx_lay 43).2 = 3 := Eq.trans (Eq.refl _) rfl
theorem ly1_44 : (mx_lay 44).1 = 1 := Eq.trans (Eq.refl _) rfl
theorem ly2_44 : (mx_lay 44).2 = 2 := Eq.trans (Eq.refl _) rfl
theorem ly1_45 : (mx_lay 45).1 = 100 := Eq.trans (Eq.refl _) rfl
theorem ly2_45 : (mx_lay 45).2 = 60 := Eq.trans (Eq.refl _) rfl
theorem ly1_46 : (mx_lay 46).1 = 1 := Eq.trans (Eq.refl _) rfl
theorem ly2_46 : (mx_lay 46).2 = 2 := Eq.trans (Eq.refl _) rfl
theorem ly1_47 : (mx_lay 47).1 = 100 := Eq.trans (Eq.refl _) rfl
theorem ly2_47 : (mx_lay 47).2 = 60 := Eq.trans (Eq.refl _) rfl
theorem ly1_48 : (mx_lay 48).1 = 8 := Eq.trans (Eq.refl _) rfl
theorem ly2_48 : (mx_lay 48).2 = 3 := Eq.trans (Eq.refl _) rfl
theorem ly1_49 : (mx_lay 49).1 = 1 := Eq.trans (Eq.refl _) rfl
theorem ly2_49 : (mx_lay 49).2 = 2 := Eq.trans (Eq.refl _) rfl
theorem ly1_50 : (mx_lay 50).1 = 100 := Eq.trans (Eq.refl _) rfl
theorem ly2_50 : (mx_lay 50).2 = 60 := Eq.trans (Eq.refl _) rfl
theorem ly1_51 : (mx_lay 51).1 = 1 := Eq.trans (Eq.refl _) rfl
theorem ly2_51 : (mx_lay 51).2 = 2 := Eq.trans (Eq.refl _) rfl
theorem ly1_52 : (mx_lay 52).1 = 100 := Eq.trans (Eq.refl _) rfl
theorem ly2_52 : (mx_lay 52).2 = 60 := Eq.trans (Eq.refl _) rfl
theorem ly1_53 : (mx_lay 53).1 = 1 := Eq.trans (Eq.refl _) rfl
theorem ly2_53 : (mx_lay 53).2 = 2 := Eq.trans (Eq.refl _) rfl
theorem ly1_54 : (mx_lay 54).1 = 100 := Eq.trans (Eq.refl _) rfl
theorem ly2_54 : (mx_lay 54).2 = 7 := Eq.trans (Eq.refl _) rfl
theorem ly1_55 : (mx_lay 55).1 = 3 := Eq.trans (Eq.refl _) rfl
theorem ly2_55 : (mx_lay 55).2 = 5 := Eq.trans (Eq.refl _) rfl
theorem ly1_56 : (mx_lay 56).1 = 1 := Eq.trans (Eq.refl _) rfl
theorem ly2_56 : (mx_lay 56).2 = 2 := Eq.trans (Eq.refl _) rfl
theorem ly1_57 : (mx_lay 57).1 = 100 := Eq.trans (Eq.refl _) rfl
theorem ly2_57 : (mx_lay 57).2 = 60 := Eq.trans (Eq.refl _) rfl
theorem ly1_58 : (mx_lay 58).1 = 1 := Eq.trans (Eq.refl _) rfl
theorem ly2_58 : (mx_lay 58).2 = 2 := Eq.trans (Eq.refl _) rfl
theorem ly1_59 : (mx_lay 59).1 = 100 := Eq.trans (Eq.refl _) rfl
theorem ly2_59 : (mx_lay 59).2 = 60 := Eq.trans (Eq.refl _) rfl
theorem ly1_60 : (mx_lay 60).1 = 5 := Eq.trans (Eq.refl _) rfl
theorem ly2_60 : (mx_lay 60).2 = 6 := Eq.trans (Eq.refl _) rfl
theorem ly1_61 : (mx_lay 61).1 = 1 := Eq.trans (Eq.refl _) rfl
theorem ly2_61 : (mx_lay 61).2 = 2 := Eq.trans (Eq.refl _) rfl
theorem ly1_62 : (mx_lay 62).1 = 100 := Eq.trans (Eq.refl _) rfl
theorem ly2_62 : (mx_lay 62).2 = 9 := Eq.trans (Eq.refl _) rfl
theorem ly1_63 : (mx_lay 63).1 = 100 := Eq.trans (Eq.refl _) rfl
theorem ly2_63 : (mx_lay 63).2 = 512 := Eq.trans (Eq.refl _) rfl
theorem ly1_64 : (mx_lay 64).1 = 100 := Eq.trans (Eq.refl _) rfl
theorem ly2_64 : (mx_lay 64).2 = 512 := Eq.trans (Eq.refl _) rfl
theorem ly1_65 : (mx_lay 65).1 = 100 := Eq.trans (Eq.refl _) rfl
theorem ly2_65 : (mx_lay 65).2 = 512 := Eq.trans (Eq.refl _) rfl
theorem ly1_66 : (mx_lay 66).1 = 100 := Eq.trans (Eq.refl _) rfl
theorem ly2_66 : (mx_lay 66).2 = 512 := Eq.trans (Eq.refl _) rfl
theorem ly1_67 : (mx_lay 67).1 = 4 := Eq.trans (Eq.refl _) rfl
theorem ly2_67 : (mx_lay 67).2 = 5 := Eq.trans (Eq.refl _) rfl
theorem ly1_68 : (mx_lay 68).1 = 1 := Eq.trans (Eq.refl _) rfl
theorem ly2_68 : (mx_lay 68).2 = 2 := Eq.trans (Eq.refl _) rfl
theorem ly1_69 : (mx_lay 69).1 = 100 := Eq.trans (Eq.refl _) rfl
theorem ly2_69 : (mx_lay 69).2 = 6 := Eq.trans (Eq.refl _) rfl
theorem ly1_70 : (mx_lay 70).1 = 1 := Eq.trans (Eq.refl _) rfl
theorem ly2_70 : (mx_lay 70).2 = 2 := Eq.trans (Eq.refl _) rfl
theorem ly1_71 : (mx_lay 71).1 = 100 := Eq.trans (Eq.refl _) rfl
theorem ly2_71 : (mx_lay 71).2 = 6 := Eq.trans (Eq.refl _) rfl
theorem ly1_72 : (mx_lay 72).1 = 1 := Eq.trans (Eq.refl _) rfl
theorem ly2_72 : (mx_lay 72).2 = 2 := Eq.trans (Eq.refl _) rfl
theorem ly1_73 : (mx_lay 73).1 = 100 := Eq.trans (Eq.refl _) rfl
theorem ly2_73 : (mx_lay 73).2 = 36 := Eq.trans (Eq.refl _) rfl
theorem ly1_74 : (mx_lay 74).1 = 1 := Eq.trans (Eq.refl _) rfl
theorem ly2_74 : (mx_lay 74).2 = 2 := Eq.trans (Eq.refl _) rfl
theorem ly1_75 : (mx_lay 75).1 = 100 := Eq.trans (Eq.refl _) rfl
theorem ly2_75 : (mx_lay 75).2 = 64 := Eq.trans (Eq.refl _) rfl
theorem ly1_76 : (mx_lay 76).1 = 2 := Eq.trans (Eq.refl _) rfl
theorem ly2_76 : (mx_lay 76).2 = 3 := Eq.trans (Eq.refl _) rfl
theorem ly1_77 : (mx_lay 77).1 = 101 := Eq.trans (Eq.refl _) rfl
theorem ly2_77 : (mx_lay 77).2 = 82 := Eq.trans (Eq.refl _) rfl
theorem ly1_78 : (mx_lay 78).1 = 9 := Eq.trans (Eq.refl _) rfl
theorem ly2_78 : (mx_lay 78).2 = 5 := Eq.trans (Eq.refl _) rfl
theorem ly1_79 : (mx_lay 79).1 = 1 := Eq.trans (Eq.refl _) rfl
theorem ly2_79 : (mx_lay 79).2 = 2 := Eq.trans (Eq.refl _) rfl
theorem ly1_80 : (mx_lay 80).1 = 100 := Eq.trans (Eq.refl _) rfl
theorem ly2_80 : (mx_lay 80).2 = 30 := Eq.trans (Eq.refl _) rfl
theorem ly1_81 : (mx_lay 81).1 = 102 := Eq.trans (Eq.refl _) rfl
theorem ly2_81 : (mx_lay 81).2 = 4 := Eq.trans (Eq.refl _) rfl
theorem ly1_82 : (mx_lay 82).1 = 6 := Eq.trans (Eq.refl _) rfl
theorem ly2_82 : (mx_lay 82).2 = 2 := Eq.trans (Eq.refl _) rfl
theorem ly1_83 : (mx_lay 83).1 = 1 := Eq.trans (Eq.refl _) rfl
theorem ly2_83 : (mx_lay 83).2 = 2 := Eq.trans (Eq.refl _) rfl
theorem ly1_84 : (mx_lay 84).1 = 100 := Eq.trans (Eq.refl _) rfl
theorem ly2_84 : (mx_lay 84).2 = 24 := Eq.trans (Eq.refl _) rfl
theorem ly1_85 : (mx_lay 85).1 = 6 := Eq.trans (Eq.refl _) rfl
theorem ly2_85 : (mx_lay 85).2 = 2 := Eq.trans (Eq.refl _) rfl
theorem ly1_86 : (mx_lay 86).1 = 1 := Eq.trans (Eq.refl _) rfl
theorem ly2_86 : (mx_lay 86).2 = 2 := Eq.trans (Eq.refl _) rfl
theorem ly1_87 : (mx_lay 87).1 = 100 := Eq.trans (Eq.refl _) rfl
theorem ly2_87 : (mx_lay 87).2 = 24 := Eq.trans (Eq.refl _) rfl
theorem ly1_88 : (mx_lay 88).1 = 6 := Eq.trans (Eq.refl _) rfl
theorem ly2_88 : (mx_lay 88).2 = 2 := Eq.trans (Eq.refl _) rfl
theorem ly1_89 : (mx_lay 89).1 = 1 := Eq.trans (Eq.refl _) rfl
theorem ly2_89 : (mx_lay 89).2 = 2 := Eq.trans (Eq.refl _) rfl
theorem ly1_90 : (mx_lay 90).1 = 100 := Eq.trans (Eq.refl _) rfl
theorem ly2_90 : (mx_lay 90).2 = 24 := Eq.trans (Eq.refl _) rfl
theorem ly1_91 : (mx_lay 91).1 = 6 := Eq.trans (Eq.refl _) rfl
theorem ly2_91 : (mx_lay 91).2 = 2 := Eq.trans (Eq.refl _) rfl
theorem ly1_92 : (mx_lay 92).1 = 1 := Eq.trans (Eq.refl _) rfl
theorem ly2_92 : (mx_lay 92).2 = 2 := Eq.trans (Eq.refl _) rfl
theorem ly1_93 : (mx_lay 93).1 = 100 := Eq.trans (Eq.refl _) rfl
theorem ly2_93 : (mx_lay 93).2 = 24 := Eq.trans (Eq.refl _) rfl
theorem ly1_94 : (mx_lay 94).1 = 11 := Eq.trans (Eq.refl _) rfl
theorem ly2_94 : (mx_lay 94).2 = 25 := Eq.trans (Eq.refl _) rfl
theorem ly1_95 : (mx_lay 95).1 = 100 := Eq.trans (Eq.refl _) rfl
theorem ly2_95 : (mx_lay 95).2 = 387 := Eq.trans (Eq.refl _) rfl
theorem ly1_96 : (mx_lay 96).1 = 100 := Eq.trans (Eq.refl _) rfl
theorem ly2_96 : (mx_lay 96).2 = 387 := Eq.trans (Eq.refl _) rfl
theorem ly1_97 : (mx_lay 97).1 = 100 := Eq.trans (Eq.refl _) rfl
theorem ly2_97 : (mx_lay 97).2 = 7 := Eq.trans (Eq.refl _) rfl
theorem ly1_98 : (mx_lay 98).1 = 100 := Eq.trans (Eq.refl _) rfl
theorem ly2_98 : (mx_lay 98).2 = 124 := Eq.trans (Eq.refl _) rfl
theorem ly1_99 : (mx_lay 99).1 = 100 := Eq.trans (Eq.refl _) rfl
theorem ly2_99 : (mx_lay 99).2 = 128 := Eq.trans (Eq.refl _) rfl
theorem ly1_100 : (mx_lay 100).1 = 100 := Eq.trans (Eq.refl _) rfl
theorem ly2_100 : (mx_lay 100).2 = 64 := Eq.trans (Eq.refl _) rfl
theorem ly1_101 : (mx_lay 101).1 = 100 := Eq.trans (Eq.refl _) rfl
theorem ly2_101 : (mx_lay 101).2 = 6 := Eq.trans (Eq.refl _) rfl
theorem ly1_102 : (mx_lay 102).1 = 100 := Eq.trans (Eq.refl _) rfl
theorem ly2_102 : (mx_lay 102).2 = 6 := Eq.trans (Eq.refl _) rfl
theorem ly1_103 : (mx_lay 103).1 = 101 := Eq.trans (Eq.refl _) rfl
theorem ly2_103 : (mx_lay 103).2 = 82 := Eq.trans (Eq.refl _) rfl
theorem ly1_104 : (mx_lay 104).1 = 101 := Eq.trans (Eq.refl _) rfl
theorem ly2_104 : (mx_lay 104).2 = 82 := Eq.trans (Eq.refl _) rfl
theorem ly1_105 : (mx_lay 105).1 = 100 := Eq.trans (Eq.refl _) rfl
theorem ly2_105 : (mx_lay 105).2 = 30 := Eq.trans (Eq.refl _) rfl
theorem ly1_106 : (mx_lay 106).1 = 100 := Eq.trans (Eq.refl _) rfl
theorem ly2_106 : (mx_lay 106).2 = 4 := Eq.trans (Eq.refl _) rfl
theorem ly1_107 : (mx_lay 107).1 = 100 := Eq.trans (Eq.refl _) rfl
theorem ly2_107 : (mx_lay 107).2 = 4 := Eq.trans (Eq.refl _) rfl
theorem ly1_108 : (mx_lay 108).1 = 100 := Eq.trans (Eq.refl _) rfl
theorem ly2_108 : (mx_lay 108).2 = 96 := Eq.trans (Eq.refl _) rfl
theorem ly1_109 : (mx_lay 109).1 = 100 := Eq.trans (Eq.refl _) rfl
theorem ly2_109 : (mx_lay 109).2 = 24 := Eq.trans (Eq.refl _) rfl
theorem q_Ln {d r n : Nat} {I : mx_I} {J : mx_J} {Q : mx_Q} {x : Int32} (h1 : (mx_lay r).1 = 1) (h2 : r < n) (h3 : (mx_lay n).1 = 100) (h4 : (mx_lay n).2 = x.toNatClampNeg) (h5 : 0 ≤ x) : mx_Cal mx_tab (d + 1) 1 [.ref r, .int x] (hp I J Q n) none (hp (mx_row (mx_ups I r 1 0) n (fun _ => 0)) (mx_row J n (fun _ => 0)) (mx_ups (mx_row Q n (fun _ => none)) r 0 (some n)) (n + 1)) := by
  refine mx_Cal_in (ls := [some (.ref r), some (.int x)]) tab_1 (by rw [mx_rcv, okc_iff]; exact ⟨h2, h1⟩) (Nat.le_of_ble_eq_true rfl) rfl ?_
  simp only [x_Line_init_0, x_Line_init_1, x_Line_init_4, x_Line_init_5, x_Line_init_6, x_Line_init_9, x_Line_init_10, x_Line_init_11, x_Line_init_12, x_Line_init_15, x_Line_init_17, x_Line_init_20, hp_I, hp_J, hp_Q, hp_n, hp_sI, hp_sJ, hp_sQ, hp_fr, okc_iff, Bool.and_eq_true, oka_iff, isarr_iff, Option.toList_none, Option.toList_some, List.nil_append, List.cons_append, max0 x h5, h1, h2, h3, h4, h5, and_true, true_and, show r < n + 1 by omega]
theorem z_row {f : mx_I} {a j n : Nat} (h : f a j = 0) : mx_row f n (fun _ => 0) a j = 0 := by
  by_cases q : a = n
  · subst q; rw [row_same]
  · rw [row_ne _ _ _ q]; exact h
theorem z_u0 {f : mx_I} {a j r k : Nat} (h : f a j = 0) : mx_ups f r k 0 a j = 0 := by
  by_cases q : a = r ∧ j = k
  · obtain ⟨rfl, rfl⟩ := q
    exact ups_same _ _ _ _
  · rw [ups_ne _ _ (by omega)]; exact h
theorem z_un {f : mx_I} {a j r k : Nat} {x : Int32} (q : a ≠ r ∨ j ≠ k) (h : f a j = 0) : mx_ups f r k x a j = 0 := by
  rw [ups_ne _ _ q]; exact h
theorem nq_row {f : mx_Q} {a j n : Nat} (h : f a j = none) : mx_row f n (fun _ => none) a j = none := by
  by_cases q : a = n
  · subst q; rw [row_same]
  · rw [row_ne _ _ _ q]; exact h
theorem nq_ups {f : mx_Q} {a j r k : Nat} {x : Option Nat} (q : a ≠ r ∨ j ≠ k) (h : f a j = none) : mx_ups f r k x a j = none := by
  rw [ups_ne _ _ q]; exact h
def okZ (a j : Nat) : Prop := ¬ ((a = 1 ∨ a = 27) ∧ (j = 1 ∨ j = 3 ∨ j = 4)) ∧ ¬ (a = 55 ∧ j = 2) ∧ ¬ (a = 95 ∧ (j = 1 ∨ j = 2 ∨ j = 3))
def okN (a k : Nat) : Prop := 110 ≤ a ∨ 32 ≤ k
def zI_Items_2 (f : mx_I) : mx_I := (mx_row (mx_ups (mx_row (mx_row (mx_ups (mx_row (mx_row (mx_ups (mx_row (mx_row (mx_ups (mx_row (mx_row (mx_ups (mx_row (mx_ups f 2 0 0) 3 (fun _ => 0)) 3 1 0) 4 (fun _ => 0)) 5 (fun _ => 0)) 5 1 0) 6 (fun _ => 0)) 7 (fun _ => 0)) 7 1 0) 8 (fun _ => 0)) 9 (fun _ => 0)) 9 1 0) 10 (fun _ => 0)) 11 (fun _ => 0)) 11 1 0) 12 (fun _ => 0))
def zJ_Items_2 (f : mx_J) : mx_J := (mx_row (mx_row (mx_row (mx_row (mx_row (mx_row (mx_row (mx_row (mx_row (mx_row f 3 (fun _ => 0)) 4 (fun _ => 0)) 5 (fun _ => 0)) 6 (fun _ => 0)) 7 (fun _ => 0)) 8 (fun _ => 0)) 9 (fun _ => 0)) 10 (fun _ => 0)) 11 (fun _ => 0)) 12 (fun _ => 0))
def zQ_Items_2 (f : mx_Q) : mx_Q := (mx_ups (mx_ups (mx_row (mx_row (mx_ups (mx_ups (mx_row (mx_row (mx_ups (mx_ups (mx_row (mx_row (mx_ups (mx_ups (mx_row (mx_row (mx_ups (mx_ups (mx_row (mx_row f 3 (fun _ => none)) 4 (fun _ => none)) 3 0 (some 4)) 2 1 (some 3)) 5 (fun _ => none)) 6 (fun _ => none)) 5 0 (some 6)) 2 2 (some 5)) 7 (fun _ => none)) 8 (fun _ => none)) 7 0 (some 8)) 2 3 (some 7)) 9 (fun _ => none)) 10 (fun _ => none)) 9 0 (some 10)) 2 4 (some 9)) 11 (fun _ => none)) 12 (fun _ => none)) 11 0 (some 12)) 2 5 (some 11))
theorem qi_Items_2 (I : mx_I) (J : mx_J) (Q : mx_Q) : mx_Cal mx_tab 2 11 [.ref 2] (hp I J Q 3) none (hp (zI_Items_2 I) (zJ_Items_2 J) (zQ_Items_2 Q) 13) := by
  refine mx_Cal_in (ls := [some (.ref 2)]) (d := 1) tab_11 (by rw [mx_rcv, okc_iff, hp_n]; exact ⟨by decide, rfl⟩) (Nat.le_of_ble_eq_true rfl) rfl ?_
  simp (decide := true) (disch := omega) only [↓reduceIte, x_Items_init_0, x_Items_init_1, x_Items_init_4, x_Items_init_5, x_Items_init_6, x_Items_init_9, x_Items_init_10, x_Items_init_13, x_Items_init_14, x_Items_init_16, x_Items_init_19, x_Items_init_22, x_Items_init_23, x_Items_init_26, x_Items_init_27, x_Items_init_29, x_Items_init_32, x_Items_init_35, x_Items_init_36, x_Items_init_39, x_Items_init_40, x_Items_init_42, x_Items_init_45, x_Items_init_48, x_Items_init_49, x_Items_init_52, x_Items_init_53, x_Items_init_55, x_Items_init_58, x_Items_init_61, x_Items_init_62, x_Items_init_65, x_Items_init_66, x_Items_init_68, x_Items_init_71, x_Items_init_74, hp_I, hp_J, hp_Q, hp_n, hp_sI, hp_sJ, hp_sQ, hp_fr, okc_iff, Bool.and_eq_true, oka_iff, isarr_iff, Option.toList_none, Option.toList_some, List.nil_append, List.cons_append, ly1_2, ly2_2, ly1_3, ly2_3, ly1_4, ly2_4, ly1_5, ly2_5, ly1_6, ly2_6, ly1_7, ly2_7, ly1_8, ly2_8, ly1_9, ly2_9, ly1_10, ly2_10, ly1_11, ly2_11, ly1_12, ly2_12, p01, p12, p23, show ((3 : Int32) + 1) = 4 from rfl, tc_0, tc_1, tc_2, tc_3, Nat.reduceAdd, if_true, if_false, and_true, true_and, and_self, mx_call (q_Ln (d := 0) (r := 3) (n := 4) (x := 9) rfl (by decide) rfl rfl (by decide)) (show 1 ≤ 1 by decide), mx_call (q_Ln (d := 0) (r := 5) (n := 6) (x := 9) rfl (by decide) rfl rfl (by decide)) (show 1 ≤ 1 by decide), mx_call (q_Ln (d := 0) (r := 7) (n := 8) (x := 9) rfl (by decide) rfl rfl (by decide)) (show 1 ≤ 1 by decide), mx_call (q_Ln (d := 0) (r := 9) (n := 10) (x := 9) rfl (by decide) rfl rfl (by decide)) (show 1 ≤ 1 by decide), mx_call (q_Ln (d := 0) (r := 11) (n := 12) (x := 9) rfl (by decide) rfl rfl (by decide)) (show 1 ≤ 1 by decide)]
  first | done | rfl | exact ⟨rfl, rfl⟩ | exact ⟨trivial, rfl⟩
theorem rg_Items_2 {f : mx_I} {a j : Nat} (h1 : a ≠ 2) (h2 : a < 3 ∨ 13 ≤ a) : zI_Items_2 f a j = f a j := by
  unfold zI_Items_2
  simp (disch := omega) only [ups_ne, row_ne]
theorem rq_Items_2 {f : mx_Q} {a j : Nat} (h1 : a ≠ 2) (h2 : a < 3 ∨ 13 ≤ a) : zQ_Items_2 f a j = f a j := by
  unfold zQ_Items_2
  simp (disch := omega) only [ups_ne, row_ne]
theorem z0_Items_2 {f : mx_I} {a j : Nat} (ok : okZ a j) (h : f a j = 0) : zI_Items_2 f a j = 0 := by
  have ok2 := ok
  obtain ⟨o1, o2, o3⟩ := ok2
  unfold zI_Items_2
  repeat (first | exact h | apply z_row | apply z_u0 | refine z_un (by omega) ?_)
theorem nn_Items_2 {f : mx_Q} {a j : Nat} (ok : okN a j) (h : f a j = none) : zQ_Items_2 f a j = none := by
  have ok2 : 110 ≤ a ∨ 32 ≤ j := ok
  unfold zQ_Items_2
  repeat (first | exact h | apply nq_row | refine nq_ups (by omega) ?_)
def zI_Text_17 (f : mx_I) : mx_I := (mx_row (mx_ups (mx_row (mx_row (mx_ups (mx_row (mx_ups f 17 0 0) 18 (fun _ => 0)) 18 1 0) 19 (fun _ => 0)) 20 (fun _ => 0)) 20 1 0) 21 (fun _ => 0))
def zJ_Text_17 (f : mx_J) : mx_J := (mx_row (mx_row (mx_row (mx_row f 18 (fun _ => 0)) 19 (fun _ => 0)) 20 (fun _ => 0)) 21 (fun _ => 0))
def zQ_Text_17 (f : mx_Q) : mx_Q := (mx_ups (mx_ups (mx_row (mx_row (mx_ups (mx_ups (mx_row (mx_row f 18 (fun _ => none)) 19 (fun _ => none)) 18 0 (some 19)) 17 1 (some 18)) 20 (fun _ => none)) 21 (fun _ => none)) 20 0 (some 21)) 17 2 (some 20))
theorem qi_Text_17 (I : mx_I) (J : mx_J) (Q : mx_Q) : mx_Cal mx_tab 2 35 [.ref 17] (hp I J Q 18) none (hp (zI_Text_17 I) (zJ_Text_17 J) (zQ_Text_17 Q) 22) := by
  refine mx_Cal_in (ls := [some (.ref 17)]) (d := 1) tab_35 (by rw [mx_rcv, okc_iff, hp_n]; exact ⟨by decide, rfl⟩) (Nat.le_of_ble_eq_true rfl) rfl ?_
  simp (decide := true) (disch := omega) only [↓reduceIte, x_Text_init_0, x_Text_init_1, x_Text_init_4, x_Text_init_5, x_Text_init_6, x_Text_init_9, x_Text_init_10, x_Text_init_13, x_Text_init_14, x_Text_init_16, x_Text_init_19, x_Text_init_22, x_Text_init_23, x_Text_init_26, x_Text_init_27, x_Text_init_29, x_Text_init_32, x_Text_init_35, hp_I, hp_J, hp_Q, hp_n, hp_sI, hp_sJ, hp_sQ, hp_fr, okc_iff, Bool.and_eq_true, oka_iff, isarr_iff, Option.toList_none, Option.toList_some, List.nil_append, List.cons_append, ly1_17, ly2_17, ly1_18, ly2_18, ly1_19, ly2_19, ly1_20, ly2_20, ly1_21, ly2_21, p01, p12, p23, show ((3 : Int32) + 1) = 4 from rfl, tc_0, tc_1, tc_2, tc_3, Nat.reduceAdd, if_true, if_false, and_true, true_and, and_self, mx_call (q_Ln (d := 0) (r := 18) (n := 19) (x := 60) rfl (by decide) rfl rfl (by decide)) (show 1 ≤ 1 by decide), mx_call (q_Ln (d := 0) (r := 20) (n := 21) (x := 60) rfl (by decide) rfl rfl (by decide)) (show 1 ≤ 1 by decide)]
  first | done | rfl | exact ⟨rfl, rfl⟩ | exact ⟨trivial, rfl⟩
theorem rg_Text_17 {f : mx_I} {a j : Nat} (h1 : a ≠ 17) (h2 : a < 18 ∨ 22 ≤ a) : zI_Text_17 f a j = f a j := by
  unfold zI_Text_17
  simp (disch := omega) only [ups_ne, row_ne]
theorem rq_Text_17 {f : mx_Q} {a j : Nat} (h1 : a ≠ 17) (h2 : a < 18 ∨ 22 ≤ a) : zQ_Text_17 f a j = f a j := by
  unfold zQ_Text_17
  simp (disch := omega) only [ups_ne, row_ne]
theorem z0_Text_17 {f : mx_I} {a j : Nat} (ok : okZ a j) (h : f a j = 0) : zI_Text_17 f a j = 0 := by
  have ok2 := ok
  obtain ⟨o1, o2, o3⟩ := ok2
  unfold zI_Text_17
  repeat (first | exact h | apply z_row | apply z_u0 | refine z_un (by omega) ?_)
theorem nn_Text_17 {f : mx_Q} {a j : Nat} (ok : okN a j) (h : f a j = none) : zQ_Text_17 f a j = none := by
  have ok2 : 110 ≤ a ∨ 32 ≤ j := ok
  unfold zQ_Text_17
  repeat (first | exact h | apply nq_row | refine nq_ups (by omega) ?_)
def zI_Text_22 (f : mx_I) : mx_I := (mx_row (mx_ups (mx_row (mx_row (mx_ups (mx_row (mx_ups f 22 0 0) 23 (fun _ => 0)) 23 1 0) 24 (fun _ => 0)) 25 (fun _ => 0)) 25 1 0) 26 (fun _ => 0))
def zJ_Text_22 (f : mx_J) : mx_J := (mx_row (mx_row (mx_row (mx_row f 23 (fun _ => 0)) 24 (fun _ => 0)) 25 (fun _ => 0)) 26 (fun _ => 0))
def zQ_Text_22 (f : mx_Q) : mx_Q := (mx_ups (mx_ups (mx_row (mx_row (mx_ups (mx_ups (mx_row (mx_row f 23 (fun _ => none)) 24 (fun _ => none)) 23 0 (some 24)) 22 1 (some 23)) 25 (fun _ => none)) 26 (fun _ => none)) 25 0 (some 26)) 22 2 (some 25))
theorem qi_Text_22 (I : mx_I) (J : mx_J) (Q : mx_Q) : mx_Cal mx_tab 2 35 [.ref 22] (hp I J Q 23) none (hp (zI_Text_22 I) (zJ_Text_22 J) (zQ_Text_22 Q) 27) := by
  refine mx_Cal_in (ls := [some (.ref 22)]) (d := 1) tab_35 (by rw [mx_rcv, okc_iff, hp_n]; exact ⟨by decide, rfl⟩) (Nat.le_of_ble_eq_true rfl) rfl ?_
  simp (decide := true) (disch := omega) only [↓reduceIte, x_Text_init_0, x_Text_init_1, x_Text_init_4, x_Text_init_5, x_Text_init_6, x_Text_init_9, x_Text_init_10, x_Text_init_13, x_Text_init_14, x_Text_init_16, x_Text_init_19, x_Text_init_22, x_Text_init_23, x_Text_init_26, x_Text_init_27, x_Text_init_29, x_Text_init_32, x_Text_init_35, hp_I, hp_J, hp_Q, hp_n, hp_sI, hp_sJ, hp_sQ, hp_fr, okc_iff, Bool.and_eq_true, oka_iff, isarr_iff, Option.toList_none, Option.toList_some, List.nil_append, List.cons_append, ly1_22, ly2_22, ly1_23, ly2_23, ly1_24, ly2_24, ly1_25, ly2_25, ly1_26, ly2_26, p01, p12, p23, show ((3 : Int32) + 1) = 4 from rfl, tc_0, tc_1, tc_2, tc_3, Nat.reduceAdd, if_true, if_false, and_true, true_and, and_self, mx_call (q_Ln (d := 0) (r := 23) (n := 24) (x := 60) rfl (by decide) rfl rfl (by decide)) (show 1 ≤ 1 by decide), mx_call (q_Ln (d := 0) (r := 25) (n := 26) (x := 60) rfl (by decide) rfl rfl (by decide)) (show 1 ≤ 1 by decide)]
  first | done | rfl | exact ⟨rfl, rfl⟩ | exact ⟨trivial, rfl⟩
theorem rg_Text_22 {f : mx_I} {a j : Nat} (h1 : a ≠ 22) (h2 : a < 23 ∨ 27 ≤ a) : zI_Text_22 f a j = f a j := by
  unfold zI_Text_22
  simp (disch := omega) only [ups_ne, row_ne]
theorem rq_Text_22 {f : mx_Q} {a j : Nat} (h1 : a ≠ 22) (h2 : a < 23 ∨ 27 ≤ a) : zQ_Text_22 f a j = f a j := by
  unfold zQ_Text_22
  simp (disch := omega) only [ups_ne, row_ne]
theorem z0_Text_22 {f : mx_I} {a j : Nat} (ok : okZ a j) (h : f a j = 0) : zI_Text_22 f a j = 0 := by
  have ok2 := ok
  obtain ⟨o1, o2, o3⟩ := ok2
  unfold zI_Text_22
  repeat (first | exact h | apply z_row | apply z_u0 | refine z_un (by omega) ?_)
theorem nn_Text_22 {f : mx_Q} {a j : Nat} (ok : okN a j) (h : f a j = none) : zQ_Text_22 f a j = none := by
  have ok2 : 110 ≤ a ∨ 32 ≤ j := ok
  unfold zQ_Text_22
  repeat (first | exact h | apply nq_row | refine nq_ups (by omega) ?_)
def zI_Show_1 (f : mx_I) : mx_I := (zI_Text_22 (mx_row (zI_Text_17 (mx_row (mx_row (mx_ups (mx_row (mx_row (mx_ups (mx_row (mx_ups (mx_ups (mx_ups (mx_ups (zI_Items_2 (mx_row f 2 (fun _ => 0))) 1 1 600) 1 2 0) 1 3 30) 1 4 1) 13 (fun _ => 0)) 13 1 0) 14 (fun _ => 0)) 15 (fun _ => 0)) 15 1 0) 16 (fun _ => 0)) 17 (fun _ => 0))) 22 (fun _ => 0)))
def zJ_Show_1 (f : mx_J) : mx_J := (zJ_Text_22 (mx_row (zJ_Text_17 (mx_row (mx_row (mx_row (mx_row (mx_row (zJ_Items_2 (mx_row f 2 (fun _ => 0))) 13 (fun _ => 0)) 14 (fun _ => 0)) 15 (fun _ => 0)) 16 (fun _ => 0)) 17 (fun _ => 0))) 22 (fun _ => 0)))
def zQ_Show_1 (f : mx_Q) : mx_Q := (mx_ups (zQ_Text_22 (mx_row (mx_ups (zQ_Text_17 (mx_row (mx_ups (mx_ups (mx_row (mx_row (mx_ups (mx_ups (mx_row (mx_row (mx_ups (zQ_Items_2 (mx_row f 2 (fun _ => none))) 1 0 (some 2)) 13 (fun _ => none)) 14 (fun _ => none)) 13 0 (some 14)) 1 5 (some 13)) 15 (fun _ => none)) 16 (fun _ => none)) 15 0 (some 16)) 1 6 (some 15)) 17 (fun _ => none))) 1 7 (some 17)) 22 (fun _ => none))) 1 8 (some 22))
theorem qi_Show_1 (I : mx_I) (J : mx_J) (Q : mx_Q) : mx_Cal mx_tab 3 52 [.ref 1] (hp I J Q 2) none (hp (zI_Show_1 I) (zJ_Show_1 J) (zQ_Show_1 Q) 27) := by
  refine mx_Cal_in (ls := [some (.ref 1)]) (d := 2) tab_52 (by rw [mx_rcv, okc_iff, hp_n]; exact ⟨by decide, rfl⟩) (Nat.le_of_ble_eq_true rfl) rfl ?_
  simp (decide := true) (disch := omega) only [↓reduceIte, x_Show_init_0, x_Show_init_1, x_Show_init_4, x_Show_init_5, x_Show_init_8, x_Show_init_9, x_Show_init_12, x_Show_init_15, x_Show_init_16, x_Show_init_19, x_Show_init_22, x_Show_init_23, x_Show_init_24, x_Show_init_27, x_Show_init_28, x_Show_init_30, x_Show_init_33, x_Show_init_34, x_Show_init_35, x_Show_init_38, x_Show_init_39, x_Show_init_42, x_Show_init_43, x_Show_init_45, x_Show_init_48, x_Show_init_51, x_Show_init_52, x_Show_init_55, x_Show_init_56, x_Show_init_58, x_Show_init_61, x_Show_init_64, x_Show_init_65, x_Show_init_68, x_Show_init_69, x_Show_init_72, x_Show_init_75, x_Show_init_76, x_Show_init_79, x_Show_init_80, x_Show_init_83, x_Show_init_86, hp_I, hp_J, hp_Q, hp_n, hp_sI, hp_sJ, hp_sQ, hp_fr, okc_iff, Bool.and_eq_true, oka_iff, isarr_iff, Option.toList_none, Option.toList_some, List.nil_append, List.cons_append, ly1_1, ly2_1, ly1_2, ly2_2, ly1_3, ly2_3, ly1_4, ly2_4, ly1_5, ly2_5, ly1_6, ly2_6, ly1_7, ly2_7, ly1_8, ly2_8, ly1_9, ly2_9, ly1_10, ly2_10, ly1_11, ly2_11, ly1_12, ly2_12, ly1_13, ly2_13, ly1_14, ly2_14, ly1_15, ly2_15, ly1_16, ly2_16, ly1_17, ly2_17, ly1_18, ly2_18, ly1_19, ly2_19, ly1_20, ly2_20, ly1_21, ly2_21, ly1_22, ly2_22, ly1_23, ly2_23, ly1_24, ly2_24, ly1_25, ly2_25, ly1_26, ly2_26, p01, p12, p23, show ((3 : Int32) + 1) = 4 from rfl, tc_0, tc_1, tc_2, tc_3, Nat.reduceAdd, if_true, if_false, and_true, true_and, and_self, mx_call (qi_Items_2 _ _ _) (show 2 ≤ 2 by decide), mx_call (q_Ln (d := 0) (r := 13) (n := 14) (x := 60) rfl (by decide) rfl rfl (by decide)) (show 1 ≤ 2 by decide), mx_call (q_Ln (d := 0) (r := 15) (n := 16) (x := 24) rfl (by decide) rfl rfl (by decide)) (show 1 ≤ 2 by decide), mx_call (qi_Text_17 _ _ _) (show 2 ≤ 2 by decide), mx_call (qi_Text_22 _ _ _) (show 2 ≤ 2 by decide)]
  first | done | rfl | exact ⟨rfl, rfl⟩ | exact ⟨trivial, rfl⟩
theorem rg_Show_1 {f : mx_I} {a j : Nat} (h1 : a ≠ 1) (h2 : a < 2 ∨ 27 ≤ a) : zI_Show_1 f a j = f a j := by
  unfold zI_Show_1
  simp (disch := omega) only [ups_ne, row_ne, rg_Items_2, rg_Text_17, rg_Text_22]
theorem rq_Show_1 {f : mx_Q} {a j : Nat} (h1 : a ≠ 1) (h2 : a < 2 ∨ 27 ≤ a) : zQ_Show_1 f a j = f a j := by
  unfold zQ_Show_1
  simp (disch := omega) only [ups_ne, row_ne, rq_Items_2, rq_Text_17, rq_Text_22]
theorem z0_Show_1 {f : mx_I} {a j : Nat} (ok : okZ a j) (h : f a j = 0) : zI_Show_1 f a j = 0 := by
  have ok2 := ok
  obtain ⟨o1, o2, o3⟩ := ok2
  unfold zI_Show_1
  repeat (first | exact h | apply z_row | apply z_u0 | refine z_un (by omega) ?_ | refine z0_Items_2 ok ?_ | refine z0_Text_17 ok ?_ | refine z0_Text_22 ok ?_)
theorem nn_Show_1 {f : mx_Q} {a j : Nat} (ok : okN a j) (h : f a j = none) : zQ_Show_1 f a j = none := by
  have ok2 : 110 ≤ a ∨ 32 ≤ j := ok
  unfold zQ_Show_1
  repeat (first | exact h | apply nq_row | refine nq_ups (by omega) ?_ | refine nn_Items_2 ok ?_ | refine nn_Text_17 ok ?_ | refine nn_Text_22 ok ?_)
def zI_Items_28 (f : mx_I) : mx_I := (mx_row (mx_ups (mx_row (mx_row (mx_ups (mx_row (mx_row (mx_ups (mx_row (mx_row (mx_ups (mx_row (mx_row (mx_ups (mx_row (mx_ups f 28 0 0) 29 (fun _ => 0)) 29 1 0) 30 (fun _ => 0)) 31 (fun _ => 0)) 31 1 0) 32 (fun _ => 0)) 33 (fun _ => 0)) 33 1 0) 34 (fun _ => 0)) 35 (fun _ => 0)) 35 1 0) 36 (fun _ => 0)) 37 (fun _ => 0)) 37 1 0) 38 (fun _ => 0))
def zJ_Items_28 (f : mx_J) : mx_J := (mx_row (mx_row (mx_row (mx_row (mx_row (mx_row (mx_row (mx_row (mx_row (mx_row f 29 (fun _ => 0)) 30 (fun _ => 0)) 31 (fun _ => 0)) 32 (fun _ => 0)) 33 (fun _ => 0)) 34 (fun _ => 0)) 35 (fun _ => 0)) 36 (fun _ => 0)) 37 (fun _ => 0)) 38 (fun _ => 0))
def zQ_Items_28 (f : mx_Q) : mx_Q := (mx_ups (mx_ups (mx_row (mx_row (mx_ups (mx_ups (mx_row (mx_row (mx_ups (mx_ups (mx_row (mx_row (mx_ups (mx_ups (mx_row (mx_row (mx_ups (mx_ups (mx_row (mx_row f 29 (fun _ => none)) 30 (fun _ => none)) 29 0 (some 30)) 28 1 (some 29)) 31 (fun _ => none)) 32 (fun _ => none)) 31 0 (some 32)) 28 2 (some 31)) 33 (fun _ => none)) 34 (fun _ => none)) 33 0 (some 34)) 28 3 (some 33)) 35 (fun _ => none)) 36 (fun _ => none)) 35 0 (some 36)) 28 4 (some 35)) 37 (fun _ => none)) 38 (fun _ => none)) 37 0 (some 38)) 28 5 (some 37))
theorem qi_Items_28 (I : mx_I) (J : mx_J) (Q : mx_Q) : mx_Cal mx_tab 2 11 [.ref 28] (hp I J Q 29) none (hp (zI_Items_28 I) (zJ_Items_28 J) (zQ_Items_28 Q) 39) := by
  refine mx_Cal_in (ls := [some (.ref 28)]) (d := 1) tab_11 (by rw [mx_rcv, okc_iff, hp_n]; exact ⟨by decide, rfl⟩) (Nat.le_of_ble_eq_true rfl) rfl ?_
  simp (decide := true) (disch := omega) only [↓reduceIte, x_Items_init_0, x_Items_init_1, x_Items_init_4, x_Items_init_5, x_Items_init_6, x_Items_init_9, x_Items_init_10, x_Items_init_13, x_Items_init_14, x_Items_init_16, x_Items_init_19, x_Items_init_22, x_Items_init_23, x_Items_init_26, x_Items_init_27, x_Items_init_29, x_Items_init_32, x_Items_init_35, x_Items_init_36, x_Items_init_39, x_Items_init_40, x_Items_init_42, x_Items_init_45, x_Items_init_48, x_Items_init_49, x_Items_init_52, x_Items_init_53, x_Items_init_55, x_Items_init_58, x_Items_init_61, x_Items_init_62, x_Items_init_65, x_Items_init_66, x_Items_init_68, x_Items_init_71, x_Items_init_74, hp_I, hp_J, hp_Q, hp_n, hp_sI, hp_sJ, hp_sQ, hp_fr, okc_iff, Bool.and_eq_true, oka_iff, isarr_iff, Option.toList_none, Option.toList_some, List.nil_append, List.cons_append, ly1_28, ly2_28, ly1_29, ly2_29, ly1_30, ly2_30, ly1_31, ly2_31, ly1_32, ly2_32, ly1_33, ly2_33, ly1_34, ly2_34, ly1_35, ly2_35, ly1_36, ly2_36, ly1_37, ly2_37, ly1_38, ly2_38, p01, p12, p23, show ((3 : Int32) + 1) = 4 from rfl, tc_0, tc_1, tc_2, tc_3, Nat.reduceAdd, if_true, if_false, and_true, true_and, and_self, mx_call (q_Ln (d := 0) (r := 29) (n := 30) (x := 9) rfl (by decide) rfl rfl (by decide)) (show 1 ≤ 1 by decide), mx_call (q_Ln (d := 0) (r := 31) (n := 32) (x := 9) rfl (by decide) rfl rfl (by decide)) (show 1 ≤ 1 by decide), mx_call (q_Ln (d := 0) (r := 33) (n := 34) (x := 9) rfl (by decide) rfl rfl (by decide)) (show 1 ≤ 1 by decide), mx_call (q_Ln (d := 0) (r := 35) (n := 36) (x := 9) rfl (by decide) rfl rfl (by decide)) (show 1 ≤ 1 by decide), mx_call (q_Ln (d := 0) (r := 37) (n := 38) (x := 9) rfl (by decide) rfl rfl (by decide)) (show 1 ≤ 1 by decide)]
  first | done | rfl | exact ⟨rfl, rfl⟩ | exact ⟨trivial, rfl⟩
theorem rg_Items_28 {f : mx_I} {a j : Nat} (h1 : a ≠ 28) (h2 : a < 29 ∨ 39 ≤ a) : zI_Items_28 f a j = f a j := by
  unfold zI_Items_28
  simp (disch := omega) only [ups_ne, row_ne]
theorem rq_Items_28 {f : mx_Q} {a j : Nat} (h1 : a ≠ 28) (h2 : a < 29 ∨ 39 ≤ a) : zQ_Items_28 f a j = f a j := by
  unfold zQ_Items_28
  simp (disch := omega) only [ups_ne, row_ne]
theorem z0_Items_28 {f : mx_I} {a j : Nat} (ok : okZ a j) (h : f a j = 0) : zI_Items_28 f a j = 0 := by
  have ok2 := ok
  obtain ⟨o1, o2, o3⟩ := ok2
  unfold zI_Items_28
  repeat (first | exact h | apply z_row | apply z_u0 | refine z_un (by omega) ?_)
theorem nn_Items_28 {f : mx_Q} {a j : Nat} (ok : okN a j) (h : f a j = none) : zQ_Items_28 f a j = none := by
  have ok2 : 110 ≤ a ∨ 32 ≤ j := ok
  unfold zQ_Items_28
  repeat (first | exact h | apply nq_row | refine nq_ups (by omega) ?_)
def zI_Text_43 (f : mx_I) : mx_I := (mx_row (mx_ups (mx_row (mx_row (mx_ups (mx_row (mx_ups f 43 0 0) 44 (fun _ => 0)) 44 1 0) 45 (fun _ => 0)) 46 (fun _ => 0)) 46 1 0) 47 (fun _ => 0))
def zJ_Text_43 (f : mx_J) : mx_J := (mx_row (mx_row (mx_row (mx_row f 44 (fun _ => 0)) 45 (fun _ => 0)) 46 (fun _ => 0)) 47 (fun _ => 0))
def zQ_Text_43 (f : mx_Q) : mx_Q := (mx_ups (mx_ups (mx_row (mx_row (mx_ups (mx_ups (mx_row (mx_row f 44 (fun _ => none)) 45 (fun _ => none)) 44 0 (some 45)) 43 1 (some 44)) 46 (fun _ => none)) 47 (fun _ => none)) 46 0 (some 47)) 43 2 (some 46))
theorem qi_Text_43 (I : mx_I) (J : mx_J) (Q : mx_Q) : mx_Cal mx_tab 2 35 [.ref 43] (hp I J Q 44) none (hp (zI_Text_43 I) (zJ_Text_43 J) (zQ_Text_43 Q) 48) := by
  refine mx_Cal_in (ls := [some (.ref 43)]) (d := 1) tab_35 (by rw [mx_rcv, okc_iff, hp_n]; exact ⟨by decide, rfl⟩) (Nat.le_of_ble_eq_true rfl) rfl ?_
  simp (decide := true) (disch := omega) only [↓reduceIte, x_Text_init_0, x_Text_init_1, x_Text_init_4, x_Text_init_5, x_Text_init_6, x_Text_init_9, x_Text_init_10, x_Text_init_13, x_Text_init_14, x_Text_init_16, x_Text_init_19, x_Text_init_22, x_Text_init_23, x_Text_init_26, x_Text_init_27, x_Text_init_29, x_Text_init_32, x_Text_init_35, hp_I, hp_J, hp_Q, hp_n, hp_sI, hp_sJ, hp_sQ, hp_fr, okc_iff, Bool.and_eq_true, oka_iff, isarr_iff, Option.toList_none, Option.toList_some, List.nil_append, List.cons_append, ly1_43, ly2_43, ly1_44, ly2_44, ly1_45, ly2_45, ly1_46, ly2_46, ly1_47, ly2_47, p01, p12, p23, show ((3 : Int32) + 1) = 4 from rfl, tc_0, tc_1, tc_2, tc_3, Nat.reduceAdd, if_true, if_false, and_true, true_and, and_self, mx_call (q_Ln (d := 0) (r := 44) (n := 45) (x := 60) rfl (by decide) rfl rfl (by decide)) (show 1 ≤ 1 by decide), mx_call (q_Ln (d := 0) (r := 46) (n := 47) (x := 60) rfl (by decide) rfl rfl (by decide)) (show 1 ≤ 1 by decide)]
  first | done | rfl | exact ⟨rfl, rfl⟩ | exact ⟨trivial, rfl⟩
theorem rg_Text_43 {f : mx_I} {a j : Nat} (h1 : a ≠ 43) (h2 : a < 44 ∨ 48 ≤ a) : zI_Text_43 f a j = f a j := by
  unfold zI_Text_43
  simp (disch := omega) only [ups_ne, row_ne]
theorem rq_Text_43 {f : mx_Q} {a j : Nat} (h1 : a ≠ 43) (h2 : a < 44 ∨ 48 ≤ a) : zQ_Text_43 f a j = f a j := by
  unfold zQ_Text_43
  simp (disch := omega) only [ups_ne, row_ne]
theorem z0_Text_43 {f : mx_I} {a j : Nat} (ok : okZ a j) (h : f a j = 0) : zI_Text_43 f a j = 0 := by
  have ok2 := ok
  obtain ⟨o1, o2, o3⟩ := ok2
  unfold zI_Text_43
  repeat (first | exact h | apply z_row | apply z_u0 | refine z_un (by omega) ?_)
theorem nn_Text_43 {f : mx_Q} {a j : Nat} (ok : okN a j) (h : f a j = none) : zQ_Text_43 f a j = none := by
  have ok2 : 110 ≤ a ∨ 32 ≤ j := ok
  unfold zQ_Text_43
  repeat (first | exact h | apply nq_row | refine nq_ups (by omega) ?_)
def zI_Text_48 (f : mx_I) : mx_I := (mx_row (mx_ups (mx_row (mx_row (mx_ups (mx_row (mx_ups f 48 0 0) 49 (fun _ => 0)) 49 1 0) 50 (fun _ => 0)) 51 (fun _ => 0)) 51 1 0) 52 (fun _ => 0))
def zJ_Text_48 (f : mx_J) : mx_J := (mx_row (mx_row (mx_row (mx_row f 49 (fun _ => 0)) 50 (fun _ => 0)) 51 (fun _ => 0)) 52 (fun _ => 0))
def zQ_Text_48 (f : mx_Q) : mx_Q := (mx_ups (mx_ups (mx_row (mx_row (mx_ups (mx_ups (mx_row (mx_row f 49 (fun _ => none)) 50 (fun _ => none)) 49 0 (some 50)) 48 1 (some 49)) 51 (fun _ => none)) 52 (fun _ => none)) 51 0 (some 52)) 48 2 (some 51))
theorem qi_Text_48 (I : mx_I) (J : mx_J) (Q : mx_Q) : mx_Cal mx_tab 2 35 [.ref 48] (hp I J Q 49) none (hp (zI_Text_48 I) (zJ_Text_48 J) (zQ_Text_48 Q) 53) := by
  refine mx_Cal_in (ls := [some (.ref 48)]) (d := 1) tab_35 (by rw [mx_rcv, okc_iff, hp_n]; exact ⟨by decide, rfl⟩) (Nat.le_of_ble_eq_true rfl) rfl ?_
  simp (decide := true) (disch := omega) only [↓reduceIte, x_Text_init_0, x_Text_init_1, x_Text_init_4, x_Text_init_5, x_Text_init_6, x_Text_init_9, x_Text_init_10, x_Text_init_13, x_Text_init_14, x_Text_init_16, x_Text_init_19, x_Text_init_22, x_Text_init_23, x_Text_init_26, x_Text_init_27, x_Text_init_29, x_Text_init_32, x_Text_init_35, hp_I, hp_J, hp_Q, hp_n, hp_sI, hp_sJ, hp_sQ, hp_fr, okc_iff, Bool.and_eq_true, oka_iff, isarr_iff, Option.toList_none, Option.toList_some, List.nil_append, List.cons_append, ly1_48, ly2_48, ly1_49, ly2_49, ly1_50, ly2_50, ly1_51, ly2_51, ly1_52, ly2_52, p01, p12, p23, show ((3 : Int32) + 1) = 4 from rfl, tc_0, tc_1, tc_2, tc_3, Nat.reduceAdd, if_true, if_false, and_true, true_and, and_self, mx_call (q_Ln (d := 0) (r := 49) (n := 50) (x := 60) rfl (by decide) rfl rfl (by decide)) (show 1 ≤ 1 by decide), mx_call (q_Ln (d := 0) (r := 51) (n := 52) (x := 60) rfl (by decide) rfl rfl (by decide)) (show 1 ≤ 1 by decide)]
  first | done | rfl | exact ⟨rfl, rfl⟩ | exact ⟨trivial, rfl⟩
theorem rg_Text_48 {f : mx_I} {a j : Nat} (h1 : a ≠ 48) (h2 : a < 49 ∨ 53 ≤ a) : zI_Text_48 f a j = f a j := by
  unfold zI_Text_48
  simp (disch := omega) only [ups_ne, row_ne]
theorem rq_Text_48 {f : mx_Q} {a j : Nat} (h1 : a ≠ 48) (h2 : a < 49 ∨ 53 ≤ a) : zQ_Text_48 f a j = f a j := by
  unfold zQ_Text_48
  simp (disch := omega) only [ups_ne, row_ne]
theorem z0_Text_48 {f : mx_I} {a j : Nat} (ok : okZ a j) (h : f a j = 0) : zI_Text_48 f a j = 0 := by
  have ok2 := ok
  obtain ⟨o1, o2, o3⟩ := ok2
  unfold zI_Text_48
  repeat (first | exact h | apply z_row | apply z_u0 | refine z_un (by omega) ?_)
theorem nn_Text_48 {f : mx_Q} {a j : Nat} (ok : okN a j) (h : f a j = none) : zQ_Text_48 f a j = none := by
  have ok2 : 110 ≤ a ∨ 32 ≤ j := ok
  unfold zQ_Text_48
  repeat (first | exact h | apply nq_row | refine nq_ups (by omega) ?_)
def zI_Show_27 (f : mx_I) : mx_I := (zI_Text_48 (mx_row (zI_Text_43 (mx_row (mx_row (mx_ups (mx_row (mx_row (mx_ups (mx_row (mx_ups (mx_ups (mx_ups (mx_ups (zI_Items_28 (mx_row f 28 (fun _ => 0))) 27 1 600) 27 2 0) 27 3 30) 27 4 1) 39 (fun _ => 0)) 39 1 0) 40 (fun _ => 0)) 41 (fun _ => 0)) 41 1 0) 42 (fun _ => 0)) 43 (fun _ => 0))) 48 (fun _ => 0)))
def zJ_Show_27 (f : mx_J) : mx_J := (zJ_Text_48 (mx_row (zJ_Text_43 (mx_row (mx_row (mx_row (mx_row (mx_row (zJ_Items_28 (mx_row f 28 (fun _ => 0))) 39 (fun _ => 0)) 40 (fun _ => 0)) 41 (fun _ => 0)) 42 (fun _ => 0)) 43 (fun _ => 0))) 48 (fun _ => 0)))
def zQ_Show_27 (f : mx_Q) : mx_Q := (mx_ups (zQ_Text_48 (mx_row (mx_ups (zQ_Text_43 (mx_row (mx_ups (mx_ups (mx_row (mx_row (mx_ups (mx_ups (mx_row (mx_row (mx_ups (zQ_Items_28 (mx_row f 28 (fun _ => none))) 27 0 (some 28)) 39 (fun _ => none)) 40 (fun _ => none)) 39 0 (some 40)) 27 5 (some 39)) 41 (fun _ => none)) 42 (fun _ => none)) 41 0 (some 42)) 27 6 (some 41)) 43 (fun _ => none))) 27 7 (some 43)) 48 (fun _ => none))) 27 8 (some 48))
theorem qi_Show_27 (I : mx_I) (J : mx_J) (Q : mx_Q) : mx_Cal mx_tab 3 52 [.ref 27] (hp I J Q 28) none (hp (zI_Show_27 I) (zJ_Show_27 J) (zQ_Show_27 Q) 53) := by
  refine mx_Cal_in (ls := [some (.ref 27)]) (d := 2) tab_52 (by rw [mx_rcv, okc_iff, hp_n]; exact ⟨by decide, rfl⟩) (Nat.le_of_ble_eq_true rfl) rfl ?_
  simp (decide := true) (disch := omega) only [↓reduceIte, x_Show_init_0, x_Show_init_1, x_Show_init_4, x_Show_init_5, x_Show_init_8, x_Show_init_9, x_Show_init_12, x_Show_init_15, x_Show_init_16, x_Show_init_19, x_Show_init_22, x_Show_init_23, x_Show_init_24, x_Show_init_27, x_Show_init_28, x_Show_init_30, x_Show_init_33, x_Show_init_34, x_Show_init_35, x_Show_init_38, x_Show_init_39, x_Show_init_42, x_Show_init_43, x_Show_init_45, x_Show_init_48, x_Show_init_51, x_Show_init_52, x_Show_init_55, x_Show_init_56, x_Show_init_58, x_Show_init_61, x_Show_init_64, x_Show_init_65, x_Show_init_68, x_Show_init_69, x_Show_init_72, x_Show_init_75, x_Show_init_76, x_Show_init_79, x_Show_init_80, x_Show_init_83, x_Show_init_86, hp_I, hp_J, hp_Q, hp_n, hp_sI, hp_sJ, hp_sQ, hp_fr, okc_iff, Bool.and_eq_true, oka_iff, isarr_iff, Option.toList_none, Option.toList_some, List.nil_append, List.cons_append, ly1_27, ly2_27, ly1_28, ly2_28, ly1_29, ly2_29, ly1_30, ly2_30, ly1_31, ly2_31, ly1_32, ly2_32, ly1_33, ly2_33, ly1_34, ly2_34, ly1_35, ly2_35, ly1_36, ly2_36, ly1_37, ly2_37, ly1_38, ly2_38, ly1_39, ly2_39, ly1_40, ly2_40, ly1_41, ly2_41, ly1_42, ly2_42, ly1_43, ly2_43, ly1_44, ly2_44, ly1_45, ly2_45, ly1_46, ly2_46, ly1_47, ly2_47, ly1_48, ly2_48, ly1_49, ly2_49, ly1_50, ly2_50, ly1_51, ly2_51, ly1_52, ly2_52, p01, p12, p23, show ((3 : Int32) + 1) = 4 from rfl, tc_0, tc_1, tc_2, tc_3, Nat.reduceAdd, if_true, if_false, and_true, true_and, and_self, mx_call (qi_Items_28 _ _ _) (show 2 ≤ 2 by decide), mx_call (q_Ln (d := 0) (r := 39) (n := 40) (x := 60) rfl (by decide) rfl rfl (by decide)) (show 1 ≤ 2 by decide), mx_call (q_Ln (d := 0) (r := 41) (n := 42) (x := 24) rfl (by decide) rfl rfl (by decide)) (show 1 ≤ 2 by decide), mx_call (qi_Text_43 _ _ _) (show 2 ≤ 2 by decide), mx_call (qi_Text_48 _ _ _) (show 2 ≤ 2 by decide)]
  first | done | rfl | exact ⟨rfl, rfl⟩ | exact ⟨trivial, rfl⟩
theorem rg_Show_27 {f : mx_I} {a j : Nat} (h1 : a ≠ 27) (h2 : a < 28 ∨ 53 ≤ a) : zI_Show_27 f a j = f a j := by
  unfold zI_Show_27
  simp (disch := omega) only [ups_ne, row_ne, rg_Items_28, rg_Text_43, rg_Text_48]
theorem rq_Show_27 {f : mx_Q} {a j : Nat} (h1 : a ≠ 27) (h2 : a < 28 ∨ 53 ≤ a) : zQ_Show_27 f a j = f a j := by
  unfold zQ_Show_27
  simp (disch := omega) only [ups_ne, row_ne, rq_Items_28, rq_Text_43, rq_Text_48]
theorem z0_Show_27 {f : mx_I} {a j : Nat} (ok : okZ a j) (h : f a j = 0) : zI_Show_27 f a j = 0 := by
  have ok2 := ok
  obtain ⟨o1, o2, o3⟩ := ok2
  unfold zI_Show_27
  repeat (first | exact h | apply z_row | apply z_u0 | refine z_un (by omega) ?_ | refine z0_Items_28 ok ?_ | refine z0_Text_43 ok ?_ | refine z0_Text_48 ok ?_)
theorem nn_Show_27 {f : mx_Q} {a j : Nat} (ok : okN a j) (h : f a j = none) : zQ_Show_27 f a j = none := by
  have ok2 : 110 ≤ a ∨ 32 ≤ j := ok
  unfold zQ_Show_27
  repeat (first | exact h | apply nq_row | refine nq_ups (by omega) ?_ | refine nn_Items_28 ok ?_ | refine nn_Text_43 ok ?_ | refine nn_Text_48 ok ?_)
def zI_Reader_55 (f : mx_I) : mx_I := (mx_ups (mx_ups (mx_ups (mx_row (mx_ups (mx_row (mx_row (mx_ups (mx_row f 56 (fun _ => 0)) 56 1 0) 57 (fun _ => 0)) 58 (fun _ => 0)) 58 1 0) 59 (fun _ => 0)) 55 2 1) 55 3 0) 55 4 0)
def zJ_Reader_55 (f : mx_J) : mx_J := (mx_row (mx_row (mx_row (mx_row f 56 (fun _ => 0)) 57 (fun _ => 0)) 58 (fun _ => 0)) 59 (fun _ => 0))
def zQ_Reader_55 (f : mx_Q) : mx_Q := (mx_ups (mx_ups (mx_row (mx_row (mx_ups (mx_ups (mx_row (mx_row f 56 (fun _ => none)) 57 (fun _ => none)) 56 0 (some 57)) 55 0 (some 56)) 58 (fun _ => none)) 59 (fun _ => none)) 58 0 (some 59)) 55 1 (some 58))
theorem qi_Reader_55 (I : mx_I) (J : mx_J) (Q : mx_Q) : mx_Cal mx_tab 2 41 [.ref 55] (hp I J Q 56) none (hp (zI_Reader_55 I) (zJ_Reader_55 J) (zQ_Reader_55 Q) 60) := by
  refine mx_Cal_in (ls := [some (.ref 55)]) (d := 1) tab_41 (by rw [mx_rcv, okc_iff, hp_n]; exact ⟨by decide, rfl⟩) (Nat.le_of_ble_eq_true rfl) rfl ?_
  simp (decide := true) (disch := omega) only [↓reduceIte, x_Reader_init_0, x_Reader_init_1, x_Reader_init_4, x_Reader_init_5, x_Reader_init_8, x_Reader_init_9, x_Reader_init_11, x_Reader_init_14, x_Reader_init_17, x_Reader_init_18, x_Reader_init_21, x_Reader_init_22, x_Reader_init_24, x_Reader_init_27, x_Reader_init_30, x_Reader_init_31, x_Reader_init_32, x_Reader_init_35, x_Reader_init_36, x_Reader_init_37, x_Reader_init_40, x_Reader_init_41, x_Reader_init_42, x_Reader_init_45, hp_I, hp_J, hp_Q, hp_n, hp_sI, hp_sJ, hp_sQ, hp_fr, okc_iff, Bool.and_eq_true, oka_iff, isarr_iff, Option.toList_none, Option.toList_some, List.nil_append, List.cons_append, ly1_55, ly2_55, ly1_56, ly2_56, ly1_57, ly2_57, ly1_58, ly2_58, ly1_59, ly2_59, p01, p12, p23, show ((3 : Int32) + 1) = 4 from rfl, tc_0, tc_1, tc_2, tc_3, Nat.reduceAdd, if_true, if_false, and_true, true_and, and_self, mx_call (q_Ln (d := 0) (r := 56) (n := 57) (x := 60) rfl (by decide) rfl rfl (by decide)) (show 1 ≤ 1 by decide), mx_call (q_Ln (d := 0) (r := 58) (n := 59) (x := 60) rfl (by decide) rfl rfl (by decide)) (show 1 ≤ 1 by decide)]
  first | done | rfl | exact ⟨rfl, rfl⟩ | exact ⟨trivial, rfl⟩
theorem rg_Reader_55 {f : mx_I} {a j : Nat} (h1 : a ≠ 55) (h2 : a < 56 ∨ 60 ≤ a) : zI_Reader_55 f a j = f a j := by
  unfold zI_Reader_55
  simp (disch := omega) only [ups_ne, row_ne]
theorem rq_Reader_55 {f : mx_Q} {a j : Nat} (h1 : a ≠ 55) (h2 : a < 56 ∨ 60 ≤ a) : zQ_Reader_55 f a j = f a j := by
  unfold zQ_Reader_55
  simp (disch := omega) only [ups_ne, row_ne]
theorem z0_Reader_55 {f : mx_I} {a j : Nat} (ok : okZ a j) (h : f a j = 0) : zI_Reader_55 f a j = 0 := by
  have ok2 := ok
  obtain ⟨o1, o2, o3⟩ := ok2
  unfold zI_Reader_55
  repeat (first | exact h | apply z_row | apply z_u0 | refine z_un (by omega) ?_)
theorem nn_Reader_55 {f : mx_Q} {a j : Nat} (ok : okN a j) (h : f a j = none) : zQ_Reader_55 f a j = none := by
  have ok2 : 110 ≤ a ∨ 32 ≤ j := ok
  unfold zQ_Reader_55
  repeat (first | exact h | apply nq_row | refine nq_ups (by omega) ?_)
def zI_Sets_60 (f : mx_I) : mx_I := (mx_row (mx_row (mx_row (mx_row (mx_row (mx_ups (mx_row (mx_ups f 60 0 0) 61 (fun _ => 0)) 61 1 0) 62 (fun _ => 0)) 63 (fun _ => 0)) 64 (fun _ => 0)) 65 (fun _ => 0)) 66 (fun _ => 0))
def zJ_Sets_60 (f : mx_J) : mx_J := (mx_row (mx_row (mx_row (mx_row (mx_row (mx_row f 61 (fun _ => 0)) 62 (fun _ => 0)) 63 (fun _ => 0)) 64 (fun _ => 0)) 65 (fun _ => 0)) 66 (fun _ => 0))
def zQ_Sets_60 (f : mx_Q) : mx_Q := (mx_ups (mx_row (mx_ups (mx_row (mx_ups (mx_row (mx_ups (mx_row (mx_ups (mx_ups (mx_row (mx_row f 61 (fun _ => none)) 62 (fun _ => none)) 61 0 (some 62)) 60 1 (some 61)) 63 (fun _ => none)) 60 2 (some 63)) 64 (fun _ => none)) 60 3 (some 64)) 65 (fun _ => none)) 60 4 (some 65)) 66 (fun _ => none)) 60 5 (some 66))
theorem qi_Sets_60 (I : mx_I) (J : mx_J) (Q : mx_Q) : mx_Cal mx_tab 2 67 [.ref 60] (hp I J Q 61) none (hp (zI_Sets_60 I) (zJ_Sets_60 J) (zQ_Sets_60 Q) 67) := by
  refine mx_Cal_in (ls := [some (.ref 60)]) (d := 1) tab_67 (by rw [mx_rcv, okc_iff, hp_n]; exact ⟨by decide, rfl⟩) (Nat.le_of_ble_eq_true rfl) rfl ?_
  simp (decide := true) (disch := omega) only [↓reduceIte, x_Sets_init_0, x_Sets_init_1, x_Sets_init_4, x_Sets_init_5, x_Sets_init_6, x_Sets_init_9, x_Sets_init_10, x_Sets_init_13, x_Sets_init_14, x_Sets_init_16, x_Sets_init_19, x_Sets_init_22, x_Sets_init_23, x_Sets_init_26, x_Sets_init_28, x_Sets_init_31, x_Sets_init_32, x_Sets_init_35, x_Sets_init_37, x_Sets_init_40, x_Sets_init_41, x_Sets_init_44, x_Sets_init_46, x_Sets_init_49, x_Sets_init_50, x_Sets_init_53, x_Sets_init_55, x_Sets_init_58, hp_I, hp_J, hp_Q, hp_n, hp_sI, hp_sJ, hp_sQ, hp_fr, okc_iff, Bool.and_eq_true, oka_iff, isarr_iff, Option.toList_none, Option.toList_some, List.nil_append, List.cons_append, ly1_60, ly2_60, ly1_61, ly2_61, ly1_62, ly2_62, ly1_63, ly2_63, ly1_64, ly2_64, ly1_65, ly2_65, ly1_66, ly2_66, p01, p12, p23, show ((3 : Int32) + 1) = 4 from rfl, tc_0, tc_1, tc_2, tc_3, Nat.reduceAdd, if_true, if_false, and_true, true_and, and_self, mx_call (q_Ln (d := 0) (r := 61) (n := 62) (x := 9) rfl (by decide) rfl rfl (by decide)) (show 1 ≤ 1 by decide)]
  first | done | rfl | exact ⟨rfl, rfl⟩ | exact ⟨trivial, rfl⟩
theorem rg_Sets_60 {f : mx_I} {a j : Nat} (h1 : a ≠ 60) (h2 : a < 61 ∨ 67 ≤ a) : zI_Sets_60 f a j = f a j := by
  unfold zI_Sets_60
  simp (disch := omega) only [ups_ne, row_ne]
theorem rq_Sets_60 {f : mx_Q} {a j : Nat} (h1 : a ≠ 60) (h2 : a < 61 ∨ 67 ≤ a) : zQ_Sets_60 f a j = f a j := by
  unfold zQ_Sets_60
  simp (disch := omega) only [ups_ne, row_ne]
theorem z0_Sets_60 {f : mx_I} {a j : Nat} (ok : okZ a j) (h : f a j = 0) : zI_Sets_60 f a j = 0 := by
  have ok2 := ok
  obtain ⟨o1, o2, o3⟩ := ok2
  unfold zI_Sets_60
  repeat (first | exact h | apply z_row | apply z_u0 | refine z_un (by omega) ?_)
theorem nn_Sets_60 {f : mx_Q} {a j : Nat} (ok : okN a j) (h : f a j = none) : zQ_Sets_60 f a j = none := by
  have ok2 : 110 ≤ a ∨ 32 ≤ j := ok
  unfold zQ_Sets_60
  repeat (first | exact h | apply nq_row | refine nq_ups (by omega) ?_)
def zI_Rows_67 (f : mx_I) : mx_I := (mx_row (mx_ups (mx_row (mx_row (mx_ups (mx_row (mx_row (mx_ups (mx_row (mx_row (mx_ups (mx_row (mx_ups f 67 0 0) 68 (fun _ => 0)) 68 1 0) 69 (fun _ => 0)) 70 (fun _ => 0)) 70 1 0) 71 (fun _ => 0)) 72 (fun _ => 0)) 72 1 0) 73 (fun _ => 0)) 74 (fun _ => 0)) 74 1 0) 75 (fun _ => 0))
def zJ_Rows_67 (f : mx_J) : mx_J := (mx_row (mx_row (mx_row (mx_row (mx_row (mx_row (mx_row (mx_row f 68 (fun _ => 0)) 69 (fun _ => 0)) 70 (fun _ => 0)) 71 (fun _ => 0)) 72 (fun _ => 0)) 73 (fun _ => 0)) 74 (fun _ => 0)) 75 (fun _ => 0))
def zQ_Rows_67 (f : mx_Q) : mx_Q := (mx_ups (mx_ups (mx_row (mx_row (mx_ups (mx_ups (mx_row (mx_row (mx_ups (mx_ups (mx_row (mx_row (mx_ups (mx_ups (mx_row (mx_row f 68 (fun _ => none)) 69 (fun _ => none)) 68 0 (some 69)) 67 1 (some 68)) 70 (fun _ => none)) 71 (fun _ => none)) 70 0 (some 71)) 67 2 (some 70)) 72 (fun _ => none)) 73 (fun _ => none)) 72 0 (some 73)) 67 3 (some 72)) 74 (fun _ => none)) 75 (fun _ => none)) 74 0 (some 75)) 67 4 (some 74))
theorem qi_Rows_67 (I : mx_I) (J : mx_J) (Q : mx_Q) : mx_Cal mx_tab 2 73 [.ref 67] (hp I J Q 68) none (hp (zI_Rows_67 I) (zJ_Rows_67 J) (zQ_Rows_67 Q) 76) := by
  refine mx_Cal_in (ls := [some (.ref 67)]) (d := 1) tab_73 (by rw [mx_rcv, okc_iff, hp_n]; exact ⟨by decide, rfl⟩) (Nat.le_of_ble_eq_true rfl) rfl ?_
  simp (decide := true) (disch := omega) only [↓reduceIte, x_Rows_init_0, x_Rows_init_1, x_Rows_init_4, x_Rows_init_5, x_Rows_init_6, x_Rows_init_9, x_Rows_init_10, x_Rows_init_13, x_Rows_init_14, x_Rows_init_16, x_Rows_init_19, x_Rows_init_22, x_Rows_init_23, x_Rows_init_26, x_Rows_init_27, x_Rows_init_29, x_Rows_init_32, x_Rows_init_35, x_Rows_init_36, x_Rows_init_39, x_Rows_init_40, x_Rows_init_42, x_Rows_init_45, x_Rows_init_48, x_Rows_init_49, x_Rows_init_52, x_Rows_init_53, x_Rows_init_55, x_Rows_init_58, x_Rows_init_61, hp_I, hp_J, hp_Q, hp_n, hp_sI, hp_sJ, hp_sQ, hp_fr, okc_iff, Bool.and_eq_true, oka_iff, isarr_iff, Option.toList_none, Option.toList_some, List.nil_append, List.cons_append, ly1_67, ly2_67, ly1_68, ly2_68, ly1_69, ly2_69, ly1_70, ly2_70, ly1_71, ly2_71, ly1_72, ly2_72, ly1_73, ly2_73, ly1_74, ly2_74, ly1_75, ly2_75, p01, p12, p23, show ((3 : Int32) + 1) = 4 from rfl, tc_0, tc_1, tc_2, tc_3, Nat.reduceAdd, if_true, if_false, and_true, true_and, and_self, mx_call (q_Ln (d := 0) (r := 68) (n := 69) (x := 6) rfl (by decide) rfl rfl (by decide)) (show 1 ≤ 1 by decide), mx_call (q_Ln (d := 0) (r := 70) (n := 71) (x := 6) rfl (by decide) rfl rfl (by decide)) (show 1 ≤ 1 by decide), mx_call (q_Ln (d := 0) (r := 72) (n := 73) (x := 36) rfl (by decide) rfl rfl (by decide)) (show 1 ≤ 1 by decide), mx_call (q_Ln (d := 0) (r := 74) (n := 75) (x := 64) rfl (by decide) rfl rfl (by decide)) (show 1 ≤ 1 by decide)]
  first | done | rfl | exact ⟨rfl, rfl⟩ | exact ⟨trivial, rfl⟩
theorem rg_Rows_67 {f : mx_I} {a j : Nat} (h1 : a ≠ 67) (h2 : a < 68 ∨ 76 ≤ a) : zI_Rows_67 f a j = f a j := by
  unfold zI_Rows_67
  simp (disch := omega) only [ups_ne, row_ne]
theorem rq_Rows_67 {f : mx_Q} {a j : Nat} (h1 : a ≠ 67) (h2 : a < 68 ∨ 76 ≤ a) : zQ_Rows_67 f a j = f a j := by
  unfold zQ_Rows_67
  simp (disch := omega) only [ups_ne, row_ne]
theorem z0_Rows_67 {f : mx_I} {a j : Nat} (ok : okZ a j) (h : f a j = 0) : zI_Rows_67 f a j = 0 := by
  have ok2 := ok
  obtain ⟨o1, o2, o3⟩ := ok2
  unfold zI_Rows_67
  repeat (first | exact h | apply z_row | apply z_u0 | refine z_un (by omega) ?_)
theorem nn_Rows_67 {f : mx_Q} {a j : Nat} (ok : okN a j) (h : f a j = none) : zQ_Rows_67 f a j = none := by
  have ok2 : 110 ≤ a ∨ 32 ≤ j := ok
  unfold zQ_Rows_67
  repeat (first | exact h | apply nq_row | refine nq_ups (by omega) ?_)
def zI_Odds_76 (f : mx_I) : mx_I := (mx_row f 77 (fun _ => 0))
def zJ_Odds_76 (f : mx_J) : mx_J := (mx_row (mx_ups (mx_ups f 76 0 0) 76 1 1) 77 (fun _ => 0))
def zQ_Odds_76 (f : mx_Q) : mx_Q := (mx_ups (mx_row f 77 (fun _ => none)) 76 2 (some 77))
theorem qi_Odds_76 (I : mx_I) (J : mx_J) (Q : mx_Q) : mx_Cal mx_tab 1 79 [.ref 76] (hp I J Q 77) none (hp (zI_Odds_76 I) (zJ_Odds_76 J) (zQ_Odds_76 Q) 78) := by
  refine mx_Cal_in (ls := [some (.ref 76)]) (d := 0) tab_79 (by rw [mx_rcv, okc_iff, hp_n]; exact ⟨by decide, rfl⟩) (Nat.le_of_ble_eq_true rfl) rfl ?_
  simp (decide := true) (disch := omega) only [↓reduceIte, x_Odds_init_0, x_Odds_init_1, x_Odds_init_4, x_Odds_init_5, x_Odds_init_6, x_Odds_init_9, x_Odds_init_10, x_Odds_init_11, x_Odds_init_14, x_Odds_init_15, x_Odds_init_17, x_Odds_init_19, x_Odds_init_22, hp_I, hp_J, hp_Q, hp_n, hp_sI, hp_sJ, hp_sQ, hp_fr, okc_iff, Bool.and_eq_true, oka_iff, isarr_iff, Option.toList_none, Option.toList_some, List.nil_append, List.cons_append, ly1_76, ly2_76, ly1_77, ly2_77, p01, p12, p23, show ((3 : Int32) + 1) = 4 from rfl, tc_0, tc_1, tc_2, tc_3, Nat.reduceAdd, if_true, if_false, and_true, true_and, and_self, ]
  first | done | rfl | exact ⟨rfl, rfl⟩ | exact ⟨trivial, rfl⟩
theorem rg_Odds_76 {f : mx_I} {a j : Nat} (h1 : a ≠ 76) (h2 : a < 77 ∨ 78 ≤ a) : zI_Odds_76 f a j = f a j := by
  unfold zI_Odds_76
  simp (disch := omega) only [ups_ne, row_ne]
theorem rq_Odds_76 {f : mx_Q} {a j : Nat} (h1 : a ≠ 76) (h2 : a < 77 ∨ 78 ≤ a) : zQ_Odds_76 f a j = f a j := by
  unfold zQ_Odds_76
  simp (disch := omega) only [ups_ne, row_ne]
theorem z0_Odds_76 {f : mx_I} {a j : Nat} (ok : okZ a j) (h : f a j = 0) : zI_Odds_76 f a j = 0 := by
  have ok2 := ok
  obtain ⟨o1, o2, o3⟩ := ok2
  unfold zI_Odds_76
  repeat (first | exact h | apply z_row | apply z_u0 | refine z_un (by omega) ?_)
theorem nn_Odds_76 {f : mx_Q} {a j : Nat} (ok : okN a j) (h : f a j = none) : zQ_Odds_76 f a j = none := by
  have ok2 : 110 ≤ a ∨ 32 ≤ j := ok
  unfold zQ_Odds_76
  repeat (first | exact h | apply nq_row | refine nq_ups (by omega) ?_)
def zI_Voices_78 (f : mx_I) : mx_I := (mx_ups (mx_ups (mx_ups (mx_ups (mx_row (mx_ups (mx_row f 79 (fun _ => 0)) 79 1 0) 80 (fun _ => 0)) 78 1 0) 78 2 0) 78 3 0) 78 4 0)
def zJ_Voices_78 (f : mx_J) : mx_J := (mx_row (mx_row f 79 (fun _ => 0)) 80 (fun _ => 0))
def zQ_Voices_78 (f : mx_Q) : mx_Q := (mx_ups (mx_ups (mx_row (mx_row f 79 (fun _ => none)) 80 (fun _ => none)) 79 0 (some 80)) 78 0 (some 79))
theorem qi_Voices_78 (I : mx_I) (J : mx_J) (Q : mx_Q) : mx_Cal mx_tab 2 88 [.ref 78] (hp I J Q 79) none (hp (zI_Voices_78 I) (zJ_Voices_78 J) (zQ_Voices_78 Q) 81) := by
  refine mx_Cal_in (ls := [some (.ref 78)]) (d := 1) tab_88 (by rw [mx_rcv, okc_iff, hp_n]; exact ⟨by decide, rfl⟩) (Nat.le_of_ble_eq_true rfl) rfl ?_
  simp (decide := true) (disch := omega) only [↓reduceIte, x_Voices_init_0, x_Voices_init_1, x_Voices_init_4, x_Voices_init_5, x_Voices_init_8, x_Voices_init_9, x_Voices_init_11, x_Voices_init_14, x_Voices_init_17, x_Voices_init_18, x_Voices_init_19, x_Voices_init_22, x_Voices_init_23, x_Voices_init_24, x_Voices_init_27, x_Voices_init_28, x_Voices_init_29, x_Voices_init_32, x_Voices_init_33, x_Voices_init_34, x_Voices_init_37, hp_I, hp_J, hp_Q, hp_n, hp_sI, hp_sJ, hp_sQ, hp_fr, okc_iff, Bool.and_eq_true, oka_iff, isarr_iff, Option.toList_none, Option.toList_some, List.nil_append, List.cons_append, ly1_78, ly2_78, ly1_79, ly2_79, ly1_80, ly2_80, p01, p12, p23, show ((3 : Int32) + 1) = 4 from rfl, tc_0, tc_1, tc_2, tc_3, Nat.reduceAdd, if_true, if_false, and_true, true_and, and_self, mx_call (q_Ln (d := 0) (r := 79) (n := 80) (x := 30) rfl (by decide) rfl rfl (by decide)) (show 1 ≤ 1 by decide)]
  first | done | rfl | exact ⟨rfl, rfl⟩ | exact ⟨trivial, rfl⟩
theorem rg_Voices_78 {f : mx_I} {a j : Nat} (h1 : a ≠ 78) (h2 : a < 79 ∨ 81 ≤ a) : zI_Voices_78 f a j = f a j := by
  unfold zI_Voices_78
  simp (disch := omega) only [ups_ne, row_ne]
theorem rq_Voices_78 {f : mx_Q} {a j : Nat} (h1 : a ≠ 78) (h2 : a < 79 ∨ 81 ≤ a) : zQ_Voices_78 f a j = f a j := by
  unfold zQ_Voices_78
  simp (disch := omega) only [ups_ne, row_ne]
theorem z0_Voices_78 {f : mx_I} {a j : Nat} (ok : okZ a j) (h : f a j = 0) : zI_Voices_78 f a j = 0 := by
  have ok2 := ok
  obtain ⟨o1, o2, o3⟩ := ok2
  unfold zI_Voices_78
  repeat (first | exact h | apply z_row | apply z_u0 | refine z_un (by omega) ?_)
theorem nn_Voices_78 {f : mx_Q} {a j : Nat} (ok : okN a j) (h : f a j = none) : zQ_Voices_78 f a j = none := by
  have ok2 : 110 ≤ a ∨ 32 ≤ j := ok
  unfold zQ_Voices_78
  repeat (first | exact h | apply nq_row | refine nq_ups (by omega) ?_)
def zI_Sheet_82 (f : mx_I) : mx_I := (mx_row (mx_ups (mx_row (mx_ups f 82 0 0) 83 (fun _ => 0)) 83 1 0) 84 (fun _ => 0))
def zJ_Sheet_82 (f : mx_J) : mx_J := (mx_row (mx_row f 83 (fun _ => 0)) 84 (fun _ => 0))
def zQ_Sheet_82 (f : mx_Q) : mx_Q := (mx_ups (mx_ups (mx_row (mx_row f 83 (fun _ => none)) 84 (fun _ => none)) 83 0 (some 84)) 82 1 (some 83))
theorem qi_Sheet_82 (I : mx_I) (J : mx_J) (Q : mx_Q) : mx_Cal mx_tab 2 85 [.ref 82] (hp I J Q 83) none (hp (zI_Sheet_82 I) (zJ_Sheet_82 J) (zQ_Sheet_82 Q) 85) := by
  refine mx_Cal_in (ls := [some (.ref 82)]) (d := 1) tab_85 (by rw [mx_rcv, okc_iff, hp_n]; exact ⟨by decide, rfl⟩) (Nat.le_of_ble_eq_true rfl) rfl ?_
  simp (decide := true) (disch := omega) only [↓reduceIte, x_Sheet_init_0, x_Sheet_init_1, x_Sheet_init_4, x_Sheet_init_5, x_Sheet_init_6, x_Sheet_init_9, x_Sheet_init_10, x_Sheet_init_13, x_Sheet_init_14, x_Sheet_init_16, x_Sheet_init_19, x_Sheet_init_22, hp_I, hp_J, hp_Q, hp_n, hp_sI, hp_sJ, hp_sQ, hp_fr, okc_iff, Bool.and_eq_true, oka_iff, isarr_iff, Option.toList_none, Option.toList_some, List.nil_append, List.cons_append, ly1_82, ly2_82, ly1_83, ly2_83, ly1_84, ly2_84, p01, p12, p23, show ((3 : Int32) + 1) = 4 from rfl, tc_0, tc_1, tc_2, tc_3, Nat.reduceAdd, if_true, if_false, and_true, true_and, and_self, mx_call (q_Ln (d := 0) (r := 83) (n := 84) (x := 24) rfl (by decide) rfl rfl (by decide)) (show 1 ≤ 1 by decide)]
  first | done | rfl | exact ⟨rfl, rfl⟩ | exact ⟨trivial, rfl⟩
theorem rg_Sheet_82 {f : mx_I} {a j : Nat} (h1 : a ≠ 82) (h2 : a < 83 ∨ 85 ≤ a) : zI_Sheet_82 f a j = f a j := by
  unfold zI_Sheet_82
  simp (disch := omega) only [ups_ne, row_ne]
theorem rq_Sheet_82 {f : mx_Q} {a j : Nat} (h1 : a ≠ 82) (h2 : a < 83 ∨ 85 ≤ a) : zQ_Sheet_82 f a j = f a j := by
  unfold zQ_Sheet_82
  simp (disch := omega) only [ups_ne, row_ne]
theorem z0_Sheet_82 {f : mx_I} {a j : Nat} (ok : okZ a j) (h : f a j = 0) : zI_Sheet_82 f a j = 0 := by
  have ok2 := ok
  obtain ⟨o1, o2, o3⟩ := ok2
  unfold zI_Sheet_82
  repeat (first | exact h | apply z_row | apply z_u0 | refine z_un (by omega) ?_)
theorem nn_Sheet_82 {f : mx_Q} {a j : Nat} (ok : okN a j) (h : f a j = none) : zQ_Sheet_82 f a j = none := by
  have ok2 : 110 ≤ a ∨ 32 ≤ j := ok
  unfold zQ_Sheet_82
  repeat (first | exact h | apply nq_row | refine nq_ups (by omega) ?_)
def zI_Sheet_85 (f : mx_I) : mx_I := (mx_row (mx_ups (mx_row (mx_ups f 85 0 0) 86 (fun _ => 0)) 86 1 0) 87 (fun _ => 0))
def zJ_Sheet_85 (f : mx_J) : mx_J := (mx_row (mx_row f 86 (fun _ => 0)) 87 (fun _ => 0))
def zQ_Sheet_85 (f : mx_Q) : mx_Q := (mx_ups (mx_ups (mx_row (mx_row f 86 (fun _ => none)) 87 (fun _ => none)) 86 0 (some 87)) 85 1 (some 86))
theorem qi_Sheet_85 (I : mx_I) (J : mx_J) (Q : mx_Q) : mx_Cal mx_tab 2 85 [.ref 85] (hp I J Q 86) none (hp (zI_Sheet_85 I) (zJ_Sheet_85 J) (zQ_Sheet_85 Q) 88) := by
  refine mx_Cal_in (ls := [some (.ref 85)]) (d := 1) tab_85 (by rw [mx_rcv, okc_iff, hp_n]; exact ⟨by decide, rfl⟩) (Nat.le_of_ble_eq_true rfl) rfl ?_
  simp (decide := true) (disch := omega) only [↓reduceIte, x_Sheet_init_0, x_Sheet_init_1, x_Sheet_init_4, x_Sheet_init_5, x_Sheet_init_6, x_Sheet_init_9, x_Sheet_init_10, x_Sheet_init_13, x_Sheet_init_14, x_Sheet_init_16, x_Sheet_init_19, x_Sheet_init_22, hp_I, hp_J, hp_Q, hp_n, hp_sI, hp_sJ, hp_sQ, hp_fr, okc_iff, Bool.and_eq_true, oka_iff, isarr_iff, Option.toList_none, Option.toList_some, List.nil_append, List.cons_append, ly1_85, ly2_85, ly1_86, ly2_86, ly1_87, ly2_87, p01, p12, p23, show ((3 : Int32) + 1) = 4 from rfl, tc_0, tc_1, tc_2, tc_3, Nat.reduceAdd, if_true, if_false, and_true, true_and, and_self, mx_call (q_Ln (d := 0) (r := 86) (n := 87) (x := 24) rfl (by decide) rfl rfl (by decide)) (show 1 ≤ 1 by decide)]
  first | done | rfl | exact ⟨rfl, rfl⟩ | exact ⟨trivial, rfl⟩
theorem rg_Sheet_85 {f : mx_I} {a j : Nat} (h1 : a ≠ 85) (h2 : a < 86 ∨ 88 ≤ a) : zI_Sheet_85 f a j = f a j := by
  unfold zI_Sheet_85
  simp (disch := omega) only [ups_ne, row_ne]
theorem rq_Sheet_85 {f : mx_Q} {a j : Nat} (h1 : a ≠ 85) (h2 : a < 86 ∨ 88 ≤ a) : zQ_Sheet_85 f a j = f a j := by
  unfold zQ_Sheet_85
  simp (disch := omega) only [ups_ne, row_ne]
theorem z0_Sheet_85 {f : mx_I} {a j : Nat} (ok : okZ a j) (h : f a j = 0) : zI_Sheet_85 f a j = 0 := by
  have ok2 := ok
  obtain ⟨o1, o2, o3⟩ := ok2
  unfold zI_Sheet_85
  repeat (first | exact h | apply z_row | apply z_u0 | refine z_un (by omega) ?_)
theorem nn_Sheet_85 {f : mx_Q} {a j : Nat} (ok : okN a j) (h : f a j = none) : zQ_Sheet_85 f a j = none := by
  have ok2 : 110 ≤ a ∨ 32 ≤ j := ok
  unfold zQ_Sheet_85
  repeat (first | exact h | apply nq_row | refine nq_ups (by omega) ?_)
def zI_Sheet_88 (f : mx_I) : mx_I := (mx_row (mx_ups (mx_row (mx_ups f 88 0 0) 89 (fun _ => 0)) 89 1 0) 90 (fun _ => 0))
def zJ_Sheet_88 (f : mx_J) : mx_J := (mx_row (mx_row f 89 (fun _ => 0)) 90 (fun _ => 0))
def zQ_Sheet_88 (f : mx_Q) : mx_Q := (mx_ups (mx_ups (mx_row (mx_row f 89 (fun _ => none)) 90 (fun _ => none)) 89 0 (some 90)) 88 1 (some 89))
theorem qi_Sheet_88 (I : mx_I) (J : mx_J) (Q : mx_Q) : mx_Cal mx_tab 2 85 [.ref 88] (hp I J Q 89) none (hp (zI_Sheet_88 I) (zJ_Sheet_88 J) (zQ_Sheet_88 Q) 91) := by
  refine mx_Cal_in (ls := [some (.ref 88)]) (d := 1) tab_85 (by rw [mx_rcv, okc_iff, hp_n]; exact ⟨by decide, rfl⟩) (Nat.le_of_ble_eq_true rfl) rfl ?_
  simp (decide := true) (disch := omega) only [↓reduceIte, x_Sheet_init_0, x_Sheet_init_1, x_Sheet_init_4, x_Sheet_init_5, x_Sheet_init_6, x_Sheet_init_9, x_Sheet_init_10, x_Sheet_init_13, x_Sheet_init_14, x_Sheet_init_16, x_Sheet_init_19, x_Sheet_init_22, hp_I, hp_J, hp_Q, hp_n, hp_sI, hp_sJ, hp_sQ, hp_fr, okc_iff, Bool.and_eq_true, oka_iff, isarr_iff, Option.toList_none, Option.toList_some, List.nil_append, List.cons_append, ly1_88, ly2_88, ly1_89, ly2_89, ly1_90, ly2_90, p01, p12, p23, show ((3 : Int32) + 1) = 4 from rfl, tc_0, tc_1, tc_2, tc_3, Nat.reduceAdd, if_true, if_false, and_true, true_and, and_self, mx_call (q_Ln (d := 0) (r := 89) (n := 90) (x := 24) rfl (by decide) rfl rfl (by decide)) (show 1 ≤ 1 by decide)]
  first | done | rfl | exact ⟨rfl, rfl⟩ | exact ⟨trivial, rfl⟩
theorem rg_Sheet_88 {f : mx_I} {a j : Nat} (h1 : a ≠ 88) (h2 : a < 89 ∨ 91 ≤ a) : zI_Sheet_88 f a j = f a j := by
  unfold zI_Sheet_88
  simp (disch := omega) only [ups_ne, row_ne]
theorem rq_Sheet_88 {f : mx_Q} {a j : Nat} (h1 : a ≠ 88) (h2 : a < 89 ∨ 91 ≤ a) : zQ_Sheet_88 f a j = f a j := by
  unfold zQ_Sheet_88
  simp (disch := omega) only [ups_ne, row_ne]
theorem z0_Sheet_88 {f : mx_I} {a j : Nat} (ok : okZ a j) (h : f a j = 0) : zI_Sheet_88 f a j = 0 := by
  have ok2 := ok
  obtain ⟨o1, o2, o3⟩ := ok2
  unfold zI_Sheet_88
  repeat (first | exact h | apply z_row | apply z_u0 | refine z_un (by omega) ?_)
theorem nn_Sheet_88 {f : mx_Q} {a j : Nat} (ok : okN a j) (h : f a j = none) : zQ_Sheet_88 f a j = none := by
  have ok2 : 110 ≤ a ∨ 32 ≤ j := ok
  unfold zQ_Sheet_88
  repeat (first | exact h | apply nq_row | refine nq_ups (by omega) ?_)
def zI_Sheet_91 (f : mx_I) : mx_I := (mx_row (mx_ups (mx_row (mx_ups f 91 0 0) 92 (fun _ => 0)) 92 1 0) 93 (fun _ => 0))
def zJ_Sheet_91 (f : mx_J) : mx_J := (mx_row (mx_row f 92 (fun _ => 0)) 93 (fun _ => 0))
def zQ_Sheet_91 (f : mx_Q) : mx_Q := (mx_ups (mx_ups (mx_row (mx_row f 92 (fun _ => none)) 93 (fun _ => none)) 92 0 (some 93)) 91 1 (some 92))
theorem qi_Sheet_91 (I : mx_I) (J : mx_J) (Q : mx_Q) : mx_Cal mx_tab 2 85 [.ref 91] (hp I J Q 92) none (hp (zI_Sheet_91 I) (zJ_Sheet_91 J) (zQ_Sheet_91 Q) 94) := by
  refine mx_Cal_in (ls := [some (.ref 91)]) (d := 1) tab_85 (by rw [mx_rcv, okc_iff, hp_n]; exact ⟨by decide, rfl⟩) (Nat.le_of_ble_eq_true rfl) rfl ?_
  simp (decide := true) (disch := omega) only [↓reduceIte, x_Sheet_init_0, x_Sheet_init_1, x_Sheet_init_4, x_Sheet_init_5, x_Sheet_init_6, x_Sheet_init_9, x_Sheet_init_10, x_Sheet_init_13, x_Sheet_init_14, x_Sheet_init_16, x_Sheet_init_19, x_Sheet_init_22, hp_I, hp_J, hp_Q, hp_n, hp_sI, hp_sJ, hp_sQ, hp_fr, okc_iff, Bool.and_eq_true, oka_iff, isarr_iff, Option.toList_none, Option.toList_some, List.nil_append, List.cons_append, ly1_91, ly2_91, ly1_92, ly2_92, ly1_93, ly2_93, p01, p12, p23, show ((3 : Int32) + 1) = 4 from rfl, tc_0, tc_1, tc_2, tc_3, Nat.reduceAdd, if_true, if_false, and_true, true_and, and_self, mx_call (q_Ln (d := 0) (r := 92) (n := 93) (x := 24) rfl (by decide) rfl rfl (by decide)) (show 1 ≤ 1 by decide)]
  first | done | rfl | exact ⟨rfl, rfl⟩ | exact ⟨trivial, rfl⟩
theorem rg_Sheet_91 {f : mx_I} {a j : Nat} (h1 : a ≠ 91) (h2 : a < 92 ∨ 94 ≤ a) : zI_Sheet_91 f a j = f a j := by
  unfold zI_Sheet_91
  simp (disch := omega) only [ups_ne, row_ne]
theorem rq_Sheet_91 {f : mx_Q} {a j : Nat} (h1 : a ≠ 91) (h2 : a < 92 ∨ 94 ≤ a) : zQ_Sheet_91 f a j = f a j := by
  unfold zQ_Sheet_91
  simp (disch := omega) only [ups_ne, row_ne]
theorem z0_Sheet_91 {f : mx_I} {a j : Nat} (ok : okZ a j) (h : f a j = 0) : zI_Sheet_91 f a j = 0 := by
  have ok2 := ok
  obtain ⟨o1, o2, o3⟩ := ok2
  unfold zI_Sheet_91
  repeat (first | exact h | apply z_row | apply z_u0 | refine z_un (by omega) ?_)
theorem nn_Sheet_91 {f : mx_Q} {a j : Nat} (ok : okN a j) (h : f a j = none) : zQ_Sheet_91 f a j = none := by
  have ok2 : 110 ≤ a ∨ 32 ≤ j := ok
  unfold zQ_Sheet_91
  repeat (first | exact h | apply nq_row | refine nq_ups (by omega) ?_)
def zI_Main_0 (f : mx_I) : mx_I := (zI_Sheet_91 (mx_row (zI_Sheet_88 (mx_row (zI_Sheet_85 (mx_row (zI_Sheet_82 (mx_row (mx_row (zI_Voices_78 (mx_row (zI_Odds_76 (mx_row (zI_Rows_67 (mx_row (zI_Sets_60 (mx_row (zI_Reader_55 (mx_row (mx_row (mx_ups (mx_row (mx_ups (zI_Show_27 (mx_row (zI_Show_1 (mx_row f 1 (fun _ => 0))) 27 (fun _ => 0))) 0 2 0) 53 (fun _ => 0)) 53 1 0) 54 (fun _ => 0)) 55 (fun _ => 0))) 60 (fun _ => 0))) 67 (fun _ => 0))) 76 (fun _ => 0))) 78 (fun _ => 0))) 81 (fun _ => 0)) 82 (fun _ => 0))) 85 (fun _ => 0))) 88 (fun _ => 0))) 91 (fun _ => 0)))
def zJ_Main_0 (f : mx_J) : mx_J := (zJ_Sheet_91 (mx_row (zJ_Sheet_88 (mx_row (zJ_Sheet_85 (mx_row (zJ_Sheet_82 (mx_row (mx_row (zJ_Voices_78 (mx_row (zJ_Odds_76 (mx_row (zJ_Rows_67 (mx_row (zJ_Sets_60 (mx_row (zJ_Reader_55 (mx_row (mx_row (mx_row (zJ_Show_27 (mx_row (zJ_Show_1 (mx_row f 1 (fun _ => 0))) 27 (fun _ => 0))) 53 (fun _ => 0)) 54 (fun _ => 0)) 55 (fun _ => 0))) 60 (fun _ => 0))) 67 (fun _ => 0))) 76 (fun _ => 0))) 78 (fun _ => 0))) 81 (fun _ => 0)) 82 (fun _ => 0))) 85 (fun _ => 0))) 88 (fun _ => 0))) 91 (fun _ => 0)))
def zQ_Main_0 (f : mx_Q) : mx_Q := (mx_ups (zQ_Sheet_91 (mx_row (mx_ups (zQ_Sheet_88 (mx_row (mx_ups (zQ_Sheet_85 (mx_row (mx_ups (zQ_Sheet_82 (mx_row (mx_ups (mx_row (mx_ups (zQ_Voices_78 (mx_row (mx_ups (zQ_Odds_76 (mx_row (mx_ups (zQ_Rows_67 (mx_row (mx_ups (zQ_Sets_60 (mx_row (mx_ups (zQ_Reader_55 (mx_row (mx_ups (mx_ups (mx_row (mx_row (mx_ups (zQ_Show_27 (mx_row (mx_ups (zQ_Show_1 (mx_row f 1 (fun _ => none))) 0 0 (some 1)) 27 (fun _ => none))) 0 1 (some 27)) 53 (fun _ => none)) 54 (fun _ => none)) 53 0 (some 54)) 0 3 (some 53)) 55 (fun _ => none))) 0 4 (some 55)) 60 (fun _ => none))) 0 5 (some 60)) 67 (fun _ => none))) 0 6 (some 67)) 76 (fun _ => none))) 0 7 (some 76)) 78 (fun _ => none))) 0 8 (some 78)) 81 (fun _ => none)) 0 9 (some 81)) 82 (fun _ => none))) 81 0 (some 82)) 85 (fun _ => none))) 81 1 (some 85)) 88 (fun _ => none))) 81 2 (some 88)) 91 (fun _ => none))) 81 3 (some 91))
theorem qi_Main_0 (I : mx_I) (J : mx_J) (Q : mx_Q) : mx_Cal mx_tab 4 94 [.ref 0] (hp I J Q 1) none (hp (zI_Main_0 I) (zJ_Main_0 J) (zQ_Main_0 Q) 94) := by
  refine mx_Cal_in (ls := [some (.ref 0), none]) (d := 3) tab_94 (by rw [mx_rcv, okc_iff, hp_n]; exact ⟨by decide, rfl⟩) (Nat.le_of_ble_eq_true rfl) rfl ?_
  simp (decide := true) (disch := omega) only [↓reduceIte, x_Main_init_0, x_Main_init_1, x_Main_init_4, x_Main_init_5, x_Main_init_8, x_Main_init_9, x_Main_init_12, x_Main_init_15, x_Main_init_16, x_Main_init_19, x_Main_init_20, x_Main_init_23, x_Main_init_26, x_Main_init_27, x_Main_init_28, x_Main_init_31, x_Main_init_32, x_Main_init_35, x_Main_init_36, x_Main_init_38, x_Main_init_41, x_Main_init_44, x_Main_init_45, x_Main_init_48, x_Main_init_49, x_Main_init_52, x_Main_init_55, x_Main_init_56, x_Main_init_59, x_Main_init_60, x_Main_init_63, x_Main_init_66, x_Main_init_67, x_Main_init_70, x_Main_init_71, x_Main_init_74, x_Main_init_77, x_Main_init_78, x_Main_init_81, x_Main_init_82, x_Main_init_85, x_Main_init_88, x_Main_init_89, x_Main_init_92, x_Main_init_93, x_Main_init_96, x_Main_init_99, x_Main_init_100, x_Main_init_101, x_Main_init_104, x_Main_init_107, x_Main_init_108, x_Main_init_109, x_Main_init_110, x_Main_init_111, x_Main_init_114, x_Main_init_115, x_Main_init_118, x_Main_init_119, x_Main_init_122, x_Main_init_123, x_Main_init_126, x_Main_init_127, x_Main_init_130, x_Main_init_131, x_Main_init_134, x_Main_init_137, hp_I, hp_J, hp_Q, hp_n, hp_sI, hp_sJ, hp_sQ, hp_fr, okc_iff, Bool.and_eq_true, oka_iff, isarr_iff, Option.toList_none, Option.toList_some, List.nil_append, List.cons_append, ly1_0, ly2_0, ly1_1, ly2_1, ly1_2, ly2_2, ly1_3, ly2_3, ly1_4, ly2_4, ly1_5, ly2_5, ly1_6, ly2_6, ly1_7, ly2_7, ly1_8, ly2_8, ly1_9, ly2_9, ly1_10, ly2_10, ly1_11, ly2_11, ly1_12, ly2_12, ly1_13, ly2_13, ly1_14, ly2_14, ly1_15, ly2_15, ly1_16, ly2_16, ly1_17, ly2_17, ly1_18, ly2_18, ly1_19, ly2_19, ly1_20, ly2_20, ly1_21, ly2_21, ly1_22, ly2_22, ly1_23, ly2_23, ly1_24, ly2_24, ly1_25, ly2_25, ly1_26, ly2_26, ly1_27, ly2_27, ly1_28, ly2_28, ly1_29, ly2_29, ly1_30, ly2_30, ly1_31, ly2_31, ly1_32, ly2_32, ly1_33, ly2_33, ly1_34, ly2_34, ly1_35, ly2_35, ly1_36, ly2_36, ly1_37, ly2_37, ly1_38, ly2_38, ly1_39, ly2_39, ly1_40, ly2_40, ly1_41, ly2_41, ly1_42, ly2_42, ly1_43, ly2_43, ly1_44, ly2_44, ly1_45, ly2_45, ly1_46, ly2_46, ly1_47, ly2_47, ly1_48, ly2_48, ly1_49, ly2_49, ly1_50, ly2_50, ly1_51, ly2_51, ly1_52, ly2_52, ly1_53, ly2_53, ly1_54, ly2_54, ly1_55, ly2_55, ly1_56, ly2_56, ly1_57, ly2_57, ly1_58, ly2_58, ly1_59, ly2_59, ly1_60, ly2_60, ly1_61, ly2_61, ly1_62, ly2_62, ly1_63, ly2_63, ly1_64, ly2_64, ly1_65, ly2_65, ly1_66, ly2_66, ly1_67, ly2_67, ly1_68, ly2_68, ly1_69, ly2_69, ly1_70, ly2_70, ly1_71, ly2_71, ly1_72, ly2_72, ly1_73, ly2_73, ly1_74, ly2_74, ly1_75, ly2_75, ly1_76, ly2_76, ly1_77, ly2_77, ly1_78, ly2_78, ly1_79, ly2_79, ly1_80, ly2_80, ly1_81, ly2_81, ly1_82, ly2_82, ly1_83, ly2_83, ly1_84, ly2_84, ly1_85, ly2_85, ly1_86, ly2_86, ly1_87, ly2_87, ly1_88, ly2_88, ly1_89, ly2_89, ly1_90, ly2_90, ly1_91, ly2_91, ly1_92, ly2_92, ly1_93, ly2_93, alen_lo, ups_ne, ups_same, row_ne, rf_some, rq_Show_1, rq_Show_27, rq_Reader_55, rq_Sets_60, rq_Rows_67, rq_Odds_76, rq_Voices_78, rq_Sheet_82, rq_Sheet_85, rq_Sheet_88, rq_Sheet_91, p01, p12, p23, show ((3 : Int32) + 1) = 4 from rfl, tc_0, tc_1, tc_2, tc_3, Nat.reduceAdd, if_true, if_false, and_true, true_and, and_self, mx_call (qi_Show_1 _ _ _) (show 3 ≤ 3 by decide), mx_call (qi_Show_27 _ _ _) (show 3 ≤ 3 by decide), mx_call (q_Ln (d := 0) (r := 53) (n := 54) (x := 7) rfl (by decide) rfl rfl (by decide)) (show 1 ≤ 3 by decide), mx_call (qi_Reader_55 _ _ _) (show 2 ≤ 3 by decide), mx_call (qi_Sets_60 _ _ _) (show 2 ≤ 3 by decide), mx_call (qi_Rows_67 _ _ _) (show 2 ≤ 3 by decide), mx_call (qi_Odds_76 _ _ _) (show 1 ≤ 3 by decide), mx_call (qi_Voices_78 _ _ _) (show 2 ≤ 3 by decide), mx_call (qi_Sheet_82 _ _ _) (show 2 ≤ 3 by decide), mx_call (qi_Sheet_85 _ _ _) (show 2 ≤ 3 by decide), mx_call (qi_Sheet_88 _ _ _) (show 2 ≤ 3 by decide), mx_call (qi_Sheet_91 _ _ _) (show 2 ≤ 3 by decide)]
  first | done | rfl | exact ⟨rfl, rfl⟩ | exact ⟨trivial, rfl⟩
theorem rg_Main_0 {f : mx_I} {a j : Nat} (h1 : a ≠ 0) (h2 : a < 1 ∨ 94 ≤ a) : zI_Main_0 f a j = f a j := by
  unfold zI_Main_0
  simp (disch := omega) only [ups_ne, row_ne, rg_Show_1, rg_Show_27, rg_Reader_55, rg_Sets_60, rg_Rows_67, rg_Odds_76, rg_Voices_78, rg_Sheet_82, rg_Sheet_85, rg_Sheet_88, rg_Sheet_91]
theorem rq_Main_0 {f : mx_Q} {a j : Nat} (h1 : a ≠ 0) (h2 : a < 1 ∨ 94 ≤ a) : zQ_Main_0 f a j = f a j := by
  unfold zQ_Main_0
  simp (disch := omega) only [ups_ne, row_ne, rq_Show_1, rq_Show_27, rq_Reader_55, rq_Sets_60, rq_Rows_67, rq_Odds_76, rq_Voices_78, rq_Sheet_82, rq_Sheet_85, rq_Sheet_88, rq_Sheet_91]
theorem z0_Main_0 {f : mx_I} {a j : Nat} (ok : okZ a j) (h : f a j = 0) : zI_Main_0 f a j = 0 := by
  have ok2 := ok
  obtain ⟨o1, o2, o3⟩ := ok2
  unfold zI_Main_0
  repeat (first | exact h | apply z_row | apply z_u0 | refine z_un (by omega) ?_ | refine z0_Show_1 ok ?_ | refine z0_Show_27 ok ?_ | refine z0_Reader_55 ok ?_ | refine z0_Sets_60 ok ?_ | refine z0_Rows_67 ok ?_ | refine z0_Odds_76 ok ?_ | refine z0_Voices_78 ok ?_ | refine z0_Sheet_82 ok ?_ | refine z0_Sheet_85 ok ?_ | refine z0_Sheet_88 ok ?_ | refine z0_Sheet_91 ok ?_)
theorem nn_Main_0 {f : mx_Q} {a j : Nat} (ok : okN a j) (h : f a j = none) : zQ_Main_0 f a j = none := by
  have ok2 : 110 ≤ a ∨ 32 ≤ j := ok
  unfold zQ_Main_0
  repeat (first | exact h | apply nq_row | refine nq_ups (by omega) ?_ | refine nn_Show_1 ok ?_ | refine nn_Show_27 ok ?_ | refine nn_Reader_55 ok ?_ | refine nn_Sets_60 ok ?_ | refine nn_Rows_67 ok ?_ | refine nn_Odds_76 ok ?_ | refine nn_Voices_78 ok ?_ | refine nn_Sheet_82 ok ?_ | refine nn_Sheet_85 ok ?_ | refine nn_Sheet_88 ok ?_ | refine nn_Sheet_91 ok ?_)
def zI_Ref_94 (f : mx_I) : mx_I := (mx_ups (mx_ups (mx_ups (mx_row (mx_row (mx_row (mx_row (mx_row (mx_row (mx_row (mx_row (mx_row (mx_row (mx_row (mx_row (mx_row (mx_row (mx_row f 95 (fun _ => 0)) 96 (fun _ => 0)) 97 (fun _ => 0)) 98 (fun _ => 0)) 99 (fun _ => 0)) 100 (fun _ => 0)) 101 (fun _ => 0)) 102 (fun _ => 0)) 103 (fun _ => 0)) 104 (fun _ => 0)) 105 (fun _ => 0)) 106 (fun _ => 0)) 107 (fun _ => 0)) 108 (fun _ => 0)) 109 (fun _ => 0)) 95 3 1) 95 1 600) 95 2 30)
def zJ_Ref_94 (f : mx_J) : mx_J := (mx_row (mx_row (mx_row (mx_row (mx_row (mx_row (mx_row (mx_row (mx_row (mx_row (mx_row (mx_row (mx_row (mx_row (mx_row f 95 (fun _ => 0)) 96 (fun _ => 0)) 97 (fun _ => 0)) 98 (fun _ => 0)) 99 (fun _ => 0)) 100 (fun _ => 0)) 101 (fun _ => 0)) 102 (fun _ => 0)) 103 (fun _ => 0)) 104 (fun _ => 0)) 105 (fun _ => 0)) 106 (fun _ => 0)) 107 (fun _ => 0)) 108 (fun _ => 0)) 109 (fun _ => 0))
def zQ_Ref_94 (f : mx_Q) : mx_Q := (mx_ups (mx_row (mx_ups (mx_row (mx_ups (mx_row (mx_ups (mx_row (mx_ups (mx_row (mx_ups (mx_row (mx_ups (mx_row (mx_ups (mx_row (mx_ups (mx_row (mx_ups (mx_row (mx_ups (mx_row (mx_ups (mx_row (mx_ups (mx_row (mx_ups (mx_row (mx_ups (mx_row f 95 (fun _ => none)) 94 0 (some 95)) 96 (fun _ => none)) 94 1 (some 96)) 97 (fun _ => none)) 94 3 (some 97)) 98 (fun _ => none)) 94 8 (some 98)) 99 (fun _ => none)) 94 9 (some 99)) 100 (fun _ => none)) 94 10 (some 100)) 101 (fun _ => none)) 94 11 (some 101)) 102 (fun _ => none)) 94 12 (some 102)) 103 (fun _ => none)) 94 15 (some 103)) 104 (fun _ => none)) 94 16 (some 104)) 105 (fun _ => none)) 94 18 (some 105)) 106 (fun _ => none)) 94 21 (some 106)) 107 (fun _ => none)) 94 22 (some 107)) 108 (fun _ => none)) 94 23 (some 108)) 109 (fun _ => none)) 94 24 (some 109))
theorem qi_Ref_94 (I : mx_I) (J : mx_J) (Q : mx_Q) : mx_Cal mx_tab 1 143 [.ref 94] (hp I J Q 95) none (hp (zI_Ref_94 I) (zJ_Ref_94 J) (zQ_Ref_94 Q) 110) := by
  refine mx_Cal_in (ls := [some (.ref 94)]) (d := 0) tab_143 (by rw [mx_rcv, okc_iff, hp_n]; exact ⟨by decide, rfl⟩) (Nat.le_of_ble_eq_true rfl) rfl ?_
  simp (decide := true) (disch := omega) only [↓reduceIte, x_Ref_init_0, x_Ref_init_1, x_Ref_init_4, x_Ref_init_5, x_Ref_init_8, x_Ref_init_10, x_Ref_init_13, x_Ref_init_14, x_Ref_init_17, x_Ref_init_19, x_Ref_init_22, x_Ref_init_23, x_Ref_init_25, x_Ref_init_27, x_Ref_init_30, x_Ref_init_31, x_Ref_init_33, x_Ref_init_35, x_Ref_init_38, x_Ref_init_39, x_Ref_init_42, x_Ref_init_44, x_Ref_init_47, x_Ref_init_48, x_Ref_init_50, x_Ref_init_52, x_Ref_init_55, x_Ref_init_56, x_Ref_init_58, x_Ref_init_60, x_Ref_init_63, x_Ref_init_64, x_Ref_init_66, x_Ref_init_68, x_Ref_init_71, x_Ref_init_72, x_Ref_init_74, x_Ref_init_76, x_Ref_init_79, x_Ref_init_80, x_Ref_init_82, x_Ref_init_84, x_Ref_init_87, x_Ref_init_88, x_Ref_init_90, x_Ref_init_92, x_Ref_init_95, x_Ref_init_96, x_Ref_init_97, x_Ref_init_99, x_Ref_init_102, x_Ref_init_103, x_Ref_init_104, x_Ref_init_106, x_Ref_init_109, x_Ref_init_110, x_Ref_init_112, x_Ref_init_114, x_Ref_init_117, x_Ref_init_118, x_Ref_init_120, x_Ref_init_122, x_Ref_init_125, x_Ref_init_126, x_Ref_init_129, x_Ref_init_130, x_Ref_init_131, x_Ref_init_132, x_Ref_init_133, x_Ref_init_136, x_Ref_init_137, x_Ref_init_140, x_Ref_init_141, x_Ref_init_142, x_Ref_init_145, x_Ref_init_146, x_Ref_init_148, x_Ref_init_149, hp_I, hp_J, hp_Q, hp_n, hp_sI, hp_sJ, hp_sQ, hp_fr, okc_iff, Bool.and_eq_true, oka_iff, isarr_iff, Option.toList_none, Option.toList_some, List.nil_append, List.cons_append, ly1_94, ly2_94, ly1_95, ly2_95, ly1_96, ly2_96, ly1_97, ly2_97, ly1_98, ly2_98, ly1_99, ly2_99, ly1_100, ly2_100, ly1_101, ly2_101, ly1_102, ly2_102, ly1_103, ly2_103, ly1_104, ly2_104, ly1_105, ly2_105, ly1_106, ly2_106, ly1_107, ly2_107, ly1_108, ly2_108, ly1_109, ly2_109, ups_ne, ups_same, row_ne, rf_some, p01, p12, p23, show ((3 : Int32) + 1) = 4 from rfl, tc_0, tc_1, tc_2, tc_3, Nat.reduceAdd, if_true, if_false, and_true, true_and, and_self, ]
  first | done | rfl | exact ⟨rfl, rfl⟩ | exact ⟨trivial, rfl⟩
theorem rg_Ref_94 {f : mx_I} {a j : Nat} (h1 : a ≠ 94) (h2 : a < 95 ∨ 110 ≤ a) : zI_Ref_94 f a j = f a j := by
  unfold zI_Ref_94
  simp (disch := omega) only [ups_ne, row_ne]
theorem rq_Ref_94 {f : mx_Q} {a j : Nat} (h1 : a ≠ 94) (h2 : a < 95 ∨ 110 ≤ a) : zQ_Ref_94 f a j = f a j := by
  unfold zQ_Ref_94
  simp (disch := omega) only [ups_ne, row_ne]
theorem z0_Ref_94 {f : mx_I} {a j : Nat} (ok : okZ a j) (h : f a j = 0) : zI_Ref_94 f a j = 0 := by
  have ok2 := ok
  obtain ⟨o1, o2, o3⟩ := ok2
  unfold zI_Ref_94
  repeat (first | exact h | apply z_row | apply z_u0 | refine z_un (by omega) ?_)
theorem nn_Ref_94 {f : mx_Q} {a j : Nat} (ok : okN a j) (h : f a j = none) : zQ_Ref_94 f a j = none := by
  have ok2 : 110 ≤ a ∨ 32 ≤ j := ok
  unfold zQ_Ref_94
  repeat (first | exact h | apply nq_row | refine nq_ups (by omega) ?_)
def fI (b : mx_I) : mx_I := zI_Ref_94 (mx_row (zI_Main_0 (mx_row b 0 (fun _ => 0))) 94 (fun _ => 0))
def fJ (b : mx_J) : mx_J := zJ_Ref_94 (mx_row (zJ_Main_0 (mx_row b 0 (fun _ => 0))) 94 (fun _ => 0))
def fQ : mx_Q := zQ_Ref_94 (mx_row (zQ_Main_0 (mx_row (fun _ _ => none) 0 (fun _ => none))) 94 (fun _ => none))
theorem fQ_lo : ∀ a, a < 110 → ∀ k, k < 32 → fQ a k = mx_RT a k := by decide +kernel
theorem RT_len : ∀ a, a < 110 → (mx_rtL.getD a []).length ≤ 32 := by decide +kernel
theorem RT_hi {a k : Nat} (h : okN a k) : mx_RT a k = none := by
  unfold mx_RT
  by_cases ha : a < 110
  · have hk : 32 ≤ k := by
      have h : 110 ≤ a ∨ 32 ≤ k := h
      omega
    have := RT_len a ha
    rw [List.getD_eq_getElem?_getD, List.getElem?_eq_none (by omega)]
    rfl
  · have : mx_rtL.getD a [] = [] := by
      rw [List.getD_eq_getElem?_getD, List.getElem?_eq_none (by
        have : mx_rtL.length ≤ 110 := by decide +kernel
        omega)]
      rfl
    rw [this]
    rfl
theorem fQ_RT : fQ = mx_RT := by
  funext a k
  by_cases h : okN a k
  · rw [RT_hi h]
    exact nn_Ref_94 h (nq_row (nn_Main_0 h (nq_row rfl)))
  · have h : ¬ (110 ≤ a ∨ 32 ≤ k) := h
    exact fQ_lo a (by omega) k (by omega)
theorem fI_0 {b : mx_I} {a j : Nat} (ok : okZ a j) (h : b a j = 0) : fI b a j = 0 := z0_Ref_94 ok (z_row (z0_Main_0 ok (z_row h)))
theorem fI_k {b : mx_I} {a j : Nat} (h : 110 ≤ a) : fI b a j = b a j := by
  unfold fI
  rw [rg_Ref_94 (by omega) (by omega), row_ne _ _ _ (by omega), rg_Main_0 (by omega) (by omega), row_ne _ _ _ (by omega)]
theorem fI_1_1 (b : mx_I) : fI b 1 1 = 600 := by
  unfold fI
  rw [rg_Ref_94 (by omega) (by omega), row_ne _ _ _ (by omega)]
  unfold zI_Main_0
  simp (disch := omega) only [ups_ne, row_ne, rg_Items_2, rg_Text_17, rg_Text_22, rg_Show_1, rg_Items_28, rg_Text_43, rg_Text_48, rg_Show_27, rg_Reader_55, rg_Sets_60, rg_Rows_67, rg_Odds_76, rg_Voices_78, rg_Sheet_82, rg_Sheet_85, rg_Sheet_88, rg_Sheet_91, rg_Main_0, rg_Ref_94]
  unfold zI_Show_1
  simp (disch := omega) only [ups_ne, ups_same, row_ne, rg_Items_2, rg_Text_17, rg_Text_22, rg_Show_1, rg_Items_28, rg_Text_43, rg_Text_48, rg_Show_27, rg_Reader_55, rg_Sets_60, rg_Rows_67, rg_Odds_76, rg_Voices_78, rg_Sheet_82, rg_Sheet_85, rg_Sheet_88, rg_Sheet_91, rg_Main_0, rg_Ref_94]
theorem fI_1_3 (b : mx_I) : fI b 1 3 = 30 := by
  unfold fI
  rw [rg_Ref_94 (by omega) (by omega), row_ne _ _ _ (by omega)]
  unfold zI_Main_0
  simp (disch := omega) only [ups_ne, row_ne, rg_Items_2, rg_Text_17, rg_Text_22, rg_Show_1, rg_Items_28, rg_Text_43, rg_Text_48, rg_Show_27, rg_Reader_55, rg_Sets_60, rg_Rows_67, rg_Odds_76, rg_Voices_78, rg_Sheet_82, rg_Sheet_85, rg_Sheet_88, rg_Sheet_91, rg_Main_0, rg_Ref_94]
  unfold zI_Show_1
  simp (disch := omega) only [ups_ne, ups_same, row_ne, rg_Items_2, rg_Text_17, rg_Text_22, rg_Show_1, rg_Items_28, rg_Text_43, rg_Text_48, rg_Show_27, rg_Reader_55, rg_Sets_60, rg_Rows_67, rg_Odds_76, rg_Voices_78, rg_Sheet_82, rg_Sheet_85, rg_Sheet_88, rg_Sheet_91, rg_Main_0, rg_Ref_94]
theorem fI_1_4 (b : mx_I) : fI b 1 4 = 1 := by
  unfold fI
  rw [rg_Ref_94 (by omega) (by omega), row_ne _ _ _ (by omega)]
  unfold zI_Main_0
  simp (disch := omega) only [ups_ne, row_ne, rg_Items_2, rg_Text_17, rg_Text_22, rg_Show_1, rg_Items_28, rg_Text_43, rg_Text_48, rg_Show_27, rg_Reader_55, rg_Sets_60, rg_Rows_67, rg_Odds_76, rg_Voices_78, rg_Sheet_82, rg_Sheet_85, rg_Sheet_88, rg_Sheet_91, rg_Main_0, rg_Ref_94]
  unfold zI_Show_1
  simp (disch := omega) only [ups_ne, ups_same, row_ne, rg_Items_2, rg_Text_17, rg_Text_22, rg_Show_1, rg_Items_28, rg_Text_43, rg_Text_48, rg_Show_27, rg_Reader_55, rg_Sets_60, rg_Rows_67, rg_Odds_76, rg_Voices_78, rg_Sheet_82, rg_Sheet_85, rg_Sheet_88, rg_Sheet_91, rg_Main_0, rg_Ref_94]
theorem fI_95_1 (b : mx_I) : fI b 95 1 = 600 := by
  unfold fI zI_Ref_94
  simp (disch := omega) only [ups_ne, ups_same]
theorem fI_95_2 (b : mx_I) : fI b 95 2 = 30 := by
  unfold fI zI_Ref_94
  simp (disch := omega) only [ups_ne, ups_same]
theorem fI_95_3 (b : mx_I) : fI b 95 3 = 1 := by
  unfold fI zI_Ref_94
  simp (disch := omega) only [ups_ne, ups_same]
theorem inv_start {L : Nat} {xs : Nat → Int32} : Inv L xs (fI (mx_h0 L xs).1) := by
  have z : ∀ a j, a < 1000 → okZ a j → fI (mx_h0 L xs).1 a j = 0 := fun a j h ok => fI_0 ok (if_neg (by omega))
  have z' : ∀ a j, a < 1000 → a ≠ 1 → a ≠ 27 → a ≠ 55 → a ≠ 95 → fI (mx_h0 L xs).1 a j = 0 := fun a j h h1 h2 h3 h4 => z a j h ⟨by omega, by omega, by omega⟩
  have z95 : ∀ j, j ≠ 1 → j ≠ 2 → j ≠ 3 → fI (mx_h0 L xs).1 95 j = 0 := fun j h1 h2 h3 => z 95 j (by omega) ⟨by omega, by omega, by omega⟩
  have n0 : (0 : Int32) = nI 0 := rfl
  have stat : StatR L xs (fI (mx_h0 L xs).1) := fun a i h => (fI_k (by omega)).trans (if_pos h)
  refine ⟨⟨⟨0, id, id, by omega, ?_, ?_, ⟨fun i h => absurd h (Nat.not_lt_zero i), fun i h => absurd h (Nat.not_lt_zero i)⟩, fun i h => absurd h (Nat.not_lt_zero i), ?_, ?_, ?_, ?_, ?_⟩, ⟨?_, 600, 0, 30, by omega, by omega, by omega, ?_, ?_, ?_, ?_, ?_, ?_⟩, ⟨0, by omega, ?_, ?_, fun j h => absurd h (Nat.not_lt_zero j)⟩, ⟨0, by omega, ?_, ?_, fun j h => absurd h (Nat.not_lt_zero j)⟩, ⟨⟨0, by omega, ?_⟩, Or.inl ⟨?_, ?_⟩⟩, ⟨⟨0, by omega, ?_⟩, Or.inl ⟨?_, ?_⟩⟩⟩, ⟨?_, fun h => absurd ?_ h⟩, fun k hk => ?_, ⟨fun a h1 h2 => ?_, 0, by omega, ?_, ?_, fun j h => absurd h (Nat.not_lt_zero j)⟩, fun q hq => ⟨?_, Or.inl ?_, 0, by omega, ?_, ?_, fun j h => absurd h (Nat.not_lt_zero j)⟩, stat⟩
  · exact z' 2 0 (by omega) (by omega) (by omega) (by omega) (by omega)
  · exact z95 6 (by omega) (by omega) (by omega)
  · exact z' 3 1 (by omega) (by omega) (by omega) (by omega) (by omega)
  · exact z' 5 1 (by omega) (by omega) (by omega) (by omega) (by omega)
  · exact z' 7 1 (by omega) (by omega) (by omega) (by omega) (by omega)
  · exact z' 9 1 (by omega) (by omega) (by omega) (by omega) (by omega)
  · exact z' 11 1 (by omega) (by omega) (by omega) (by omega) (by omega)
  · exact (fI_1_4 _).trans (fI_95_3 _).symm
  · exact fI_1_1 _
  · exact fI_95_1 _
  · exact z 1 2 (by omega) ⟨by omega, by omega, by omega⟩
  · exact z95 0 (by omega) (by omega) (by omega)
  · exact fI_1_3 _
  · exact fI_95_2 _
  · exact z' 13 1 (by omega) (by omega) (by omega) (by omega) (by omega)
  · exact z95 4 (by omega) (by omega) (by omega)
  · exact z' 15 1 (by omega) (by omega) (by omega) (by omega) (by omega)
  · exact z95 5 (by omega) (by omega) (by omega)
  · exact z' 18 1 (by omega) (by omega) (by omega) (by omega) (by omega)
  · exact z' 17 0 (by omega) (by omega) (by omega) (by omega) (by omega)
  · exact z95 53 (by omega) (by omega) (by omega)
  · exact z' 23 1 (by omega) (by omega) (by omega) (by omega) (by omega)
  · exact z' 22 0 (by omega) (by omega) (by omega) (by omega) (by omega)
  · exact z95 178 (by omega) (by omega) (by omega)
  · exact (z' 0 2 (by omega) (by omega) (by omega) (by omega) (by omega)).trans (z' 94 2 (by omega) (by omega) (by omega) (by omega) (by omega)).symm
  · exact z' 0 2 (by omega) (by omega) (by omega) (by omega) (by omega)
  · exact (z' 54 k (by omega) (by omega) (by omega) (by omega) (by omega)).trans (z' 97 k (by omega) (by omega) (by omega) (by omega) (by omega)).symm
  · exact z' a 0 (by omega) (by omega) (by omega) (by omega) (by omega)
  · exact z' 79 1 (by omega) (by omega) (by omega) (by omega) (by omega)
  · exact z' 94 17 (by omega) (by omega) (by omega) (by omega) (by omega)
  · exact (z' (82 + 3 * q) 0 (by omega) (by omega) (by omega) (by omega) (by omega)).trans (z' 106 q (by omega) (by omega) (by omega) (by omega) (by omega)).symm
  · exact z' 106 q (by omega) (by omega) (by omega) (by omega) (by omega)
  · exact z' (83 + 3 * q) 1 (by omega) (by omega) (by omega) (by omega) (by omega)
  · exact z' 107 q (by omega) (by omega) (by omega) (by omega) (by omega)
theorem mx_law {L : Nat} {xs : Nat → Int32} (hL : L ≤ 3072) : mx_R k_Law_law (mx_Cal mx_tab 500) 0 [some (.ref 1004), none, none, none] [] (mx_h0 L xs) (fun v h => v = some (.int 1) ∧ h.2.2.2 ≤ 110) := by
  have e : mx_h0 L xs = hp (mx_h0 L xs).1 (fun _ _ => 0) (fun _ _ => none) 0 := rfl
  have fin := law_loop (xs := xs) hL L 0 (fI (mx_h0 L xs).1) (fJ (fun _ _ => 0)) (by omega) (by omega) inv_start
  have e2 : mk (fI (mx_h0 L xs).1) (fJ (fun _ _ => 0)) = hp (fI (mx_h0 L xs).1) (fJ (fun _ _ => 0)) fQ 110 := by
    rw [fQ_RT]
    rfl
  rw [e2] at fin
  rw [e]
  simp (decide := true) only [x_Law_law_0, x_Law_law_3, x_Law_law_4, x_Law_law_7, x_Law_law_8, x_Law_law_11, x_Law_law_12, x_Law_law_15, x_Law_law_16, x_Law_law_17, hp_I, hp_J, hp_Q, hp_n, hp_sI, hp_sJ, hp_sQ, hp_fr, okc_iff, Bool.and_eq_true, oka_iff, isarr_iff, Option.toList_none, Option.toList_some, List.nil_append, List.cons_append, ly1_0, ly1_94, ly2_0, ly2_94, Nat.reduceAdd, if_true, if_false, and_true, true_and, mx_call (qi_Main_0 _ _ _) (show 4 ≤ 500 by decide), mx_call (qi_Ref_94 _ _ _) (show 1 ≤ 500 by decide)]
  exact fin
