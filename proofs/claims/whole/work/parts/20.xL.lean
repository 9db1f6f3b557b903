set_option maxRecDepth 100000 in
theorem x_Law_law_0 (C : mx_C) (o0 : Option Value) (o1 : Option Value) (o2 : Option Value) (o3 : Option Value) (st : mx_S) (h : mx_H) (P : mx_P) : mx_R k_Law_law C 0 [o0, o1, o2, o3] st h P = ((mx_lay h.2.2.2).1 = 10 ∧ mx_R k_Law_law C 3 [o0, o1, o2, o3] (.ref h.2.2.2 :: st) (mx_fresh h) P) := mx_xn rfl (by decide)
set_option maxRecDepth 100000 in
theorem x_Law_law_3 (C : mx_C) (o0 : Option Value) (o1 : Option Value) (o2 : Option Value) (o3 : Option Value) (ar : Nat) (st : mx_S) (h : mx_H) (P : mx_P) : mx_R k_Law_law C 3 [o0, o1, o2, o3] (.ref ar :: st) h P = (mx_R k_Law_law C 4 [o0, o1, o2, o3] (.ref ar :: .ref ar :: st) h P) := mx_xf rfl rfl
set_option maxRecDepth 100000 in
theorem x_Law_law_4 (C : mx_C) (o0 : Option Value) (o1 : Option Value) (o2 : Option Value) (o3 : Option Value) (va0 : Value) (vs0 : Value) (h : mx_H) (P : mx_P) : mx_R k_Law_law C 4 [o0, o1, o2, o3] (va0 :: [vs0]) h P = (∃ v h1, C 94 [va0] h v h1 ∧ mx_R k_Law_law C 7 [o0, o1, o2, o3] (v.toList ++ [vs0]) h1 P) := mx_xc rfl (Nat.le_of_ble_eq_true rfl) (Or.inl (Nat.le_of_ble_eq_true rfl)) rfl rfl
set_option maxRecDepth 100000 in
theorem x_Law_law_7 (C : mx_C) (o1 : Option Value) (o2 : Option Value) (o3 : Option Value) (ar : Nat) (br : Nat) (st : mx_S) (h : mx_H) (P : mx_P) : mx_R k_Law_law C 7 [some (.ref br), o1, o2, o3] (.ref ar :: st) h P = (mx_R k_Law_law C 8 [some (.ref br), some (.ref ar), o2, o3] st h P) := mx_xf rfl rfl
set_option maxRecDepth 100000 in
theorem x_Law_law_8 (C : mx_C) (o0 : Option Value) (o1 : Option Value) (o2 : Option Value) (o3 : Option Value) (st : mx_S) (h : mx_H) (P : mx_P) : mx_R k_Law_law C 8 [o0, o1, o2, o3] st h P = ((mx_lay h.2.2.2).1 = 11 ∧ mx_R k_Law_law C 11 [o0, o1, o2, o3] (.ref h.2.2.2 :: st) (mx_fresh h) P) := mx_xn rfl (by decide)
set_option maxRecDepth 100000 in
theorem x_Law_law_11 (C : mx_C) (o0 : Option Value) (o1 : Option Value) (o2 : Option Value) (o3 : Option Value) (ar : Nat) (st : mx_S) (h : mx_H) (P : mx_P) : mx_R k_Law_law C 11 [o0, o1, o2, o3] (.ref ar :: st) h P = (mx_R k_Law_law C 12 [o0, o1, o2, o3] (.ref ar :: .ref ar :: st) h P) := mx_xf rfl rfl
set_option maxRecDepth 100000 in
theorem x_Law_law_12 (C : mx_C) (o0 : Option Value) (o1 : Option Value) (o2 : Option Value) (o3 : Option Value) (va0 : Value) (vs0 : Value) (h : mx_H) (P : mx_P) : mx_R k_Law_law C 12 [o0, o1, o2, o3] (va0 :: [vs0]) h P = (∃ v h1, C 143 [va0] h v h1 ∧ mx_R k_Law_law C 15 [o0, o1, o2, o3] (v.toList ++ [vs0]) h1 P) := mx_xc rfl (Nat.le_of_ble_eq_true rfl) (Or.inl (Nat.le_of_ble_eq_true rfl)) rfl rfl
set_option maxRecDepth 100000 in
theorem x_Law_law_15 (C : mx_C) (o0 : Option Value) (o2 : Option Value) (o3 : Option Value) (ar : Nat) (br : Nat) (st : mx_S) (h : mx_H) (P : mx_P) : mx_R k_Law_law C 15 [o0, some (.ref br), o2, o3] (.ref ar :: st) h P = (mx_R k_Law_law C 16 [o0, some (.ref br), some (.ref ar), o3] st h P) := mx_xf rfl rfl
set_option maxRecDepth 100000 in
theorem x_Law_law_16 (C : mx_C) (o0 : Option Value) (o1 : Option Value) (o2 : Option Value) (o3 : Option Value) (st : mx_S) (h : mx_H) (P : mx_P) : mx_R k_Law_law C 16 [o0, o1, o2, o3] st h P = (mx_R k_Law_law C 17 [o0, o1, o2, o3] (.int 0 :: st) h P) := mx_xf rfl rfl
set_option maxRecDepth 100000 in
theorem x_Law_law_17 (C : mx_C) (o0 : Option Value) (o1 : Option Value) (o3 : Option Value) (xi : Int32) (br : Nat) (st : mx_S) (h : mx_H) (P : mx_P) : mx_R k_Law_law C 17 [o0, o1, some (.ref br), o3] (.int xi :: st) h P = (mx_R k_Law_law C 18 [o0, o1, some (.ref br), some (.int xi)] st h P) := mx_xf rfl rfl
set_option maxRecDepth 100000 in
theorem x_Law_law_18 (C : mx_C) (o0 : Option Value) (o1 : Option Value) (o2 : Option Value) (xi : Int32) (st : mx_S) (h : mx_H) (P : mx_P) : mx_R k_Law_law C 18 [o0, o1, o2, some (.int xi)] st h P = (mx_R k_Law_law C 19 [o0, o1, o2, some (.int xi)] (.int xi :: st) h P) := mx_xf rfl rfl
set_option maxRecDepth 100000 in
theorem x_Law_law_19 (C : mx_C) (o1 : Option Value) (o2 : Option Value) (o3 : Option Value) (ar : Nat) (st : mx_S) (h : mx_H) (P : mx_P) : mx_R k_Law_law C 19 [some (.ref ar), o1, o2, o3] st h P = (mx_R k_Law_law C 20 [some (.ref ar), o1, o2, o3] (.ref ar :: st) h P) := mx_xf rfl rfl
set_option maxRecDepth 100000 in
theorem x_Law_law_20 (C : mx_C) (o0 : Option Value) (o1 : Option Value) (o2 : Option Value) (o3 : Option Value) (ar : Nat) (st : mx_S) (h : mx_H) (P : mx_P) : mx_R k_Law_law C 20 [o0, o1, o2, o3] (.ref ar :: st) h P = (mx_isarr ar h = true ∧ mx_R k_Law_law C 21 [o0, o1, o2, o3] (.int (nI (mx_alen h ar)) :: st) h P) := mx_xg rfl rfl
set_option maxRecDepth 100000 in
theorem x_Law_law_21 (C : mx_C) (o0 : Option Value) (o1 : Option Value) (o2 : Option Value) (o3 : Option Value) (st : mx_S) (h : mx_H) (P : mx_P) : mx_R k_Law_law C 21 [o0, o1, o2, o3] st h P = (mx_R k_Law_law C 23 [o0, o1, o2, o3] (.int 6 :: st) h P) := mx_xf rfl rfl
set_option maxRecDepth 100000 in
theorem x_Law_law_23 (C : mx_C) (o0 : Option Value) (o1 : Option Value) (o2 : Option Value) (o3 : Option Value) (xi : Int32) (yi : Int32) (st : mx_S) (h : mx_H) (P : mx_P) : mx_R k_Law_law C 23 [o0, o1, o2, o3] (.int yi :: .int xi :: st) h P = (mx_R k_Law_law C 24 [o0, o1, o2, o3] (.int (xi - yi) :: st) h P) := mx_xf rfl rfl
set_option maxRecDepth 100000 in
theorem x_Law_law_24 (C : mx_C) (o0 : Option Value) (o1 : Option Value) (o2 : Option Value) (o3 : Option Value) (xi : Int32) (yi : Int32) (st : mx_S) (h : mx_H) (P : mx_P) : mx_R k_Law_law C 24 [o0, o1, o2, o3] (.int yi :: .int xi :: st) h P = (if yi < xi then mx_R k_Law_law C 1315 [o0, o1, o2, o3] st h P else mx_R k_Law_law C 27 [o0, o1, o2, o3] st h P) := mx_xb rfl rfl
set_option maxRecDepth 100000 in
theorem x_Law_law_27 (C : mx_C) (o1 : Option Value) (o2 : Option Value) (o3 : Option Value) (ar : Nat) (st : mx_S) (h : mx_H) (P : mx_P) : mx_R k_Law_law C 27 [some (.ref ar), o1, o2, o3] st h P = (mx_R k_Law_law C 28 [some (.ref ar), o1, o2, o3] (.ref ar :: st) h P) := mx_xf rfl rfl
set_option maxRecDepth 100000 in
theorem x_Law_law_28 (C : mx_C) (o0 : Option Value) (o1 : Option Value) (o2 : Option Value) (xi : Int32) (st : mx_S) (h : mx_H) (P : mx_P) : mx_R k_Law_law C 28 [o0, o1, o2, some (.int xi)] st h P = (mx_R k_Law_law C 29 [o0, o1, o2, some (.int xi)] (.int xi :: st) h P) := mx_xf rfl rfl
set_option maxRecDepth 100000 in
theorem x_Law_law_29 (C : mx_C) (o0 : Option Value) (o1 : Option Value) (o2 : Option Value) (o3 : Option Value) (xi : Int32) (ar : Nat) (st : mx_S) (h : mx_H) (P : mx_P) : mx_R k_Law_law C 29 [o0, o1, o2, o3] (.int xi :: .ref ar :: st) h P = (mx_okr 103 ar h xi = true ∧ mx_R k_Law_law C 30 [o0, o1, o2, o3] (.int (h.1 ar xi.toNatClampNeg) :: st) h P) := mx_xg rfl rfl
set_option maxRecDepth 100000 in
theorem x_Law_law_30 (C : mx_C) (o0 : Option Value) (o1 : Option Value) (o2 : Option Value) (o3 : Option Value) (st : mx_S) (h : mx_H) (P : mx_P) : mx_R k_Law_law C 30 [o0, o1, o2, o3] st h P = (mx_R k_Law_law C 32 [o0, o1, o2, o3] (.int 63 :: st) h P) := mx_xf rfl rfl
set_option maxRecDepth 100000 in
theorem x_Law_law_32 (C : mx_C) (o0 : Option Value) (o1 : Option Value) (o2 : Option Value) (o3 : Option Value) (xi : Int32) (yi : Int32) (st : mx_S) (h : mx_H) (P : mx_P) : mx_R k_Law_law C 32 [o0, o1, o2, o3] (.int yi :: .int xi :: st) h P = (mx_R k_Law_law C 33 [o0, o1, o2, o3] (.int (xi &&& yi) :: st) h P) := mx_xf rfl rfl
set_option maxRecDepth 100000 in
theorem x_Law_law_33 (C : mx_C) (o0 : Option Value) (o1 : Option Value) (o2 : Option Value) (o3 : Option Value) (xi : Int32) (st : mx_S) (h : mx_H) (P : mx_P) : mx_R k_Law_law C 33 [o0, o1, o2, o3] (.int xi :: st) h P = (if xi = 0 then mx_R k_Law_law C 208 [o0, o1, o2, o3] st h P else if xi = 1 then mx_R k_Law_law C 241 [o0, o1, o2, o3] st h P else if xi = 2 then mx_R k_Law_law C 274 [o0, o1, o2, o3] st h P else if xi = 3 then mx_R k_Law_law C 307 [o0, o1, o2, o3] st h P else if xi = 4 then mx_R k_Law_law C 340 [o0, o1, o2, o3] st h P else if xi = 5 then mx_R k_Law_law C 373 [o0, o1, o2, o3] st h P else if xi = 6 then mx_R k_Law_law C 406 [o0, o1, o2, o3] st h P else if xi = 7 then mx_R k_Law_law C 439 [o0, o1, o2, o3] st h P else if xi = 8 then mx_R k_Law_law C 502 [o0, o1, o2, o3] st h P else if xi = 9 then mx_R k_Law_law C 525 [o0, o1, o2, o3] st h P else if xi = 10 then mx_R k_Law_law C 548 [o0, o1, o2, o3] st h P else if xi = 11 then mx_R k_Law_law C 601 [o0, o1, o2, o3] st h P else if xi = 12 then mx_R k_Law_law C 624 [o0, o1, o2, o3] st h P else if xi = 13 then mx_R k_Law_law C 647 [o0, o1, o2, o3] st h P else if xi = 14 then mx_R k_Law_law C 670 [o0, o1, o2, o3] st h P else if xi = 15 then mx_R k_Law_law C 693 [o0, o1, o2, o3] st h P else if xi = 16 then mx_R k_Law_law C 706 [o0, o1, o2, o3] st h P else if xi = 17 then mx_R k_Law_law C 729 [o0, o1, o2, o3] st h P else if xi = 18 then mx_R k_Law_law C 742 [o0, o1, o2, o3] st h P else if xi = 19 then mx_R k_Law_law C 755 [o0, o1, o2, o3] st h P else if xi = 20 then mx_R k_Law_law C 768 [o0, o1, o2, o3] st h P else if xi = 21 then mx_R k_Law_law C 781 [o0, o1, o2, o3] st h P else if xi = 22 then mx_R k_Law_law C 804 [o0, o1, o2, o3] st h P else if xi = 23 then mx_R k_Law_law C 837 [o0, o1, o2, o3] st h P else if xi = 24 then mx_R k_Law_law C 860 [o0, o1, o2, o3] st h P else if xi = 25 then mx_R k_Law_law C 883 [o0, o1, o2, o3] st h P else if xi = 26 then mx_R k_Law_law C 907 [o0, o1, o2, o3] st h P else if xi = 27 then mx_R k_Law_law C 940 [o0, o1, o2, o3] st h P else if xi = 28 then mx_R k_Law_law C 983 [o0, o1, o2, o3] st h P else if xi = 29 then mx_R k_Law_law C 1006 [o0, o1, o2, o3] st h P else if xi = 30 then mx_R k_Law_law C 1049 [o0, o1, o2, o3] st h P else if xi = 31 then mx_R k_Law_law C 1092 [o0, o1, o2, o3] st h P else if xi = 32 then mx_R k_Law_law C 1155 [o0, o1, o2, o3] st h P else if xi = 33 then mx_R k_Law_law C 1178 [o0, o1, o2, o3] st h P else if xi = 34 then mx_R k_Law_law C 1201 [o0, o1, o2, o3] st h P else if xi = 35 then mx_R k_Law_law C 1214 [o0, o1, o2, o3] st h P else if xi = 36 then mx_R k_Law_law C 1227 [o0, o1, o2, o3] st h P else if xi = 37 then mx_R k_Law_law C 1250 [o0, o1, o2, o3] st h P else if xi = 38 then mx_R k_Law_law C 1263 [o0, o1, o2, o3] st h P else if xi = 39 then mx_R k_Law_law C 1286 [o0, o1, o2, o3] st h P else mx_R k_Law_law C 1309 [o0, o1, o2, o3] st h P) := (mx_xs (d := 1309) (l := [(0, 208), (1, 241), (2, 274), (3, 307), (4, 340), (5, 373), (6, 406), (7, 439), (8, 502), (9, 525), (10, 548), (11, 601), (12, 624), (13, 647), (14, 670), (15, 693), (16, 706), (17, 729), (18, 742), (19, 755), (20, 768), (21, 781), (22, 804), (23, 837), (24, 860), (25, 883), (26, 907), (27, 940), (28, 983), (29, 1006), (30, 1049), (31, 1092), (32, 1155), (33, 1178), (34, 1201), (35, 1214), (36, 1227), (37, 1250), (38, 1263), (39, 1286)]) rfl).trans (by simp only [mx_swP])
set_option maxRecDepth 100000 in
theorem x_Law_law_208 (C : mx_C) (o0 : Option Value) (o2 : Option Value) (o3 : Option Value) (ar : Nat) (st : mx_S) (h : mx_H) (P : mx_P) : mx_R k_Law_law C 208 [o0, some (.ref ar), o2, o3] st h P = (mx_R k_Law_law C 209 [o0, some (.ref ar), o2, o3] (.ref ar :: st) h P) := mx_xf rfl rfl
set_option maxRecDepth 100000 in
theorem x_Law_law_209 (C : mx_C) (o1 : Option Value) (o2 : Option Value) (o3 : Option Value) (ar : Nat) (st : mx_S) (h : mx_H) (P : mx_P) : mx_R k_Law_law C 209 [some (.ref ar), o1, o2, o3] st h P = (mx_R k_Law_law C 210 [some (.ref ar), o1, o2, o3] (.ref ar :: st) h P) := mx_xf rfl rfl
set_option maxRecDepth 100000 in
theorem x_Law_law_210 (C : mx_C) (o0 : Option Value) (o1 : Option Value) (o2 : Option Value) (xi : Int32) (st : mx_S) (h : mx_H) (P : mx_P) : mx_R k_Law_law C 210 [o0, o1, o2, some (.int xi)] st h P = (mx_R k_Law_law C 211 [o0, o1, o2, some (.int xi)] (.int xi :: st) h P) := mx_xf rfl rfl
set_option maxRecDepth 100000 in
theorem x_Law_law_211 (C : mx_C) (o0 : Option Value) (o1 : Option Value) (o2 : Option Value) (o3 : Option Value) (st : mx_S) (h : mx_H) (P : mx_P) : mx_R k_Law_law C 211 [o0, o1, o2, o3] st h P = (mx_R k_Law_law C 212 [o0, o1, o2, o3] (.int 1 :: st) h P) := mx_xf rfl rfl
set_option maxRecDepth 100000 in
theorem x_Law_law_212 (C : mx_C) (o0 : Option Value) (o1 : Option Value) (o2 : Option Value) (o3 : Option Value) (xi : Int32) (yi : Int32) (st : mx_S) (h : mx_H) (P : mx_P) : mx_R k_Law_law C 212 [o0, o1, o2, o3] (.int yi :: .int xi :: st) h P = (mx_R k_Law_law C 213 [o0, o1, o2, o3] (.int (xi + yi) :: st) h P) := mx_xf rfl rfl
set_option maxRecDepth 100000 in
theorem x_Law_law_213 (C : mx_C) (o0 : Option Value) (o1 : Option Value) (o2 : Option Value) (o3 : Option Value) (xi : Int32) (ar : Nat) (st : mx_S) (h : mx_H) (P : mx_P) : mx_R k_Law_law C 213 [o0, o1, o2, o3] (.int xi :: .ref ar :: st) h P = (mx_okr 103 ar h xi = true ∧ mx_R k_Law_law C 214 [o0, o1, o2, o3] (.int (h.1 ar xi.toNatClampNeg) :: st) h P) := mx_xg rfl rfl
set_option maxRecDepth 100000 in
theorem x_Law_law_214 (C : mx_C) (o1 : Option Value) (o2 : Option Value) (o3 : Option Value) (ar : Nat) (st : mx_S) (h : mx_H) (P : mx_P) : mx_R k_Law_law C 214 [some (.ref ar), o1, o2, o3] st h P = (mx_R k_Law_law C 215 [some (.ref ar), o1, o2, o3] (.ref ar :: st) h P) := mx_xf rfl rfl
set_option maxRecDepth 100000 in
theorem x_Law_law_215 (C : mx_C) (o0 : Option Value) (o1 : Option Value) (o2 : Option Value) (xi : Int32) (st : mx_S) (h : mx_H) (P : mx_P) : mx_R k_Law_law C 215 [o0, o1, o2, some (.int xi)] st h P = (mx_R k_Law_law C 216 [o0, o1, o2, some (.int xi)] (.int xi :: st) h P) := mx_xf rfl rfl
set_option maxRecDepth 100000 in
theorem x_Law_law_216 (C : mx_C) (o0 : Option Value) (o1 : Option Value) (o2 : Option Value) (o3 : Option Value) (st : mx_S) (h : mx_H) (P : mx_P) : mx_R k_Law_law C 216 [o0, o1, o2, o3] st h P = (mx_R k_Law_law C 217 [o0, o1, o2, o3] (.int 2 :: st) h P) := mx_xf rfl rfl
set_option maxRecDepth 100000 in
theorem x_Law_law_217 (C : mx_C) (o0 : Option Value) (o1 : Option Value) (o2 : Option Value) (o3 : Option Value) (xi : Int32) (yi : Int32) (st : mx_S) (h : mx_H) (P : mx_P) : mx_R k_Law_law C 217 [o0, o1, o2, o3] (.int yi :: .int xi :: st) h P = (mx_R k_Law_law C 218 [o0, o1, o2, o3] (.int (xi + yi) :: st) h P) := mx_xf rfl rfl
set_option maxRecDepth 100000 in
theorem x_Law_law_218 (C : mx_C) (o0 : Option Value) (o1 : Option Value) (o2 : Option Value) (o3 : Option Value) (xi : Int32) (ar : Nat) (st : mx_S) (h : mx_H) (P : mx_P) : mx_R k_Law_law C 218 [o0, o1, o2, o3] (.int xi :: .ref ar :: st) h P = (mx_okr 103 ar h xi = true ∧ mx_R k_Law_law C 219 [o0, o1, o2, o3] (.int (h.1 ar xi.toNatClampNeg) :: st) h P) := mx_xg rfl rfl
set_option maxRecDepth 100000 in
theorem x_Law_law_219 (C : mx_C) (o0 : Option Value) (o1 : Option Value) (o2 : Option Value) (o3 : Option Value) (va0 : Value) (va1 : Value) (va2 : Value) (h : mx_H) (P : mx_P) : mx_R k_Law_law C 219 [o0, o1, o2, o3] (va2 :: va1 :: va0 :: []) h P = (∃ v h1, C 95 [va0, va1, va2] h v h1 ∧ mx_R k_Law_law C 222 [o0, o1, o2, o3] (v.toList ++ []) h1 P) := mx_xc rfl (Nat.le_of_ble_eq_true rfl) (Or.inl (Nat.le_of_ble_eq_true rfl)) rfl rfl
set_option maxRecDepth 100000 in
theorem x_Law_law_222 (C : mx_C) (o0 : Option Value) (o1 : Option Value) (o3 : Option Value) (ar : Nat) (st : mx_S) (h : mx_H) (P : mx_P) : mx_R k_Law_law C 222 [o0, o1, some (.ref ar), o3] st h P = (mx_R k_Law_law C 223 [o0, o1, some (.ref ar), o3] (.ref ar :: st) h P) := mx_xf rfl rfl
set_option maxRecDepth 100000 in
theorem x_Law_law_223 (C : mx_C) (o1 : Option Value) (o2 : Option Value) (o3 : Option Value) (ar : Nat) (st : mx_S) (h : mx_H) (P : mx_P) : mx_R k_Law_law C 223 [some (.ref ar), o1, o2, o3] st h P = (mx_R k_Law_law C 224 [some (.ref ar), o1, o2, o3] (.ref ar :: st) h P) := mx_xf rfl rfl
set_option maxRecDepth 100000 in
theorem x_Law_law_224 (C : mx_C) (o0 : Option Value) (o1 : Option Value) (o2 : Option Value) (xi : Int32) (st : mx_S) (h : mx_H) (P : mx_P) : mx_R k_Law_law C 224 [o0, o1, o2, some (.int xi)] st h P = (mx_R k_Law_law C 225 [o0, o1, o2, some (.int xi)] (.int xi :: st) h P) := mx_xf rfl rfl
set_option maxRecDepth 100000 in
theorem x_Law_law_225 (C : mx_C) (o0 : Option Value) (o1 : Option Value) (o2 : Option Value) (o3 : Option Value) (st : mx_S) (h : mx_H) (P : mx_P) : mx_R k_Law_law C 225 [o0, o1, o2, o3] st h P = (mx_R k_Law_law C 226 [o0, o1, o2, o3] (.int 1 :: st) h P) := mx_xf rfl rfl
set_option maxRecDepth 100000 in
theorem x_Law_law_226 (C : mx_C) (o0 : Option Value) (o1 : Option Value) (o2 : Option Value) (o3 : Option Value) (xi : Int32) (yi : Int32) (st : mx_S) (h : mx_H) (P : mx_P) : mx_R k_Law_law C 226 [o0, o1, o2, o3] (.int yi :: .int xi :: st) h P = (mx_R k_Law_law C 227 [o0, o1, o2, o3] (.int (xi + yi) :: st) h P) := mx_xf rfl rfl
set_option maxRecDepth 100000 in
theorem x_Law_law_227 (C : mx_C) (o0 : Option Value) (o1 : Option Value) (o2 : Option Value) (o3 : Option Value) (xi : Int32) (ar : Nat) (st : mx_S) (h : mx_H) (P : mx_P) : mx_R k_Law_law C 227 [o0, o1, o2, o3] (.int xi :: .ref ar :: st) h P = (mx_okr 103 ar h xi = true ∧ mx_R k_Law_law C 228 [o0, o1, o2, o3] (.int (h.1 ar xi.toNatClampNeg) :: st) h P) := mx_xg rfl rfl
set_option maxRecDepth 100000 in
theorem x_Law_law_228 (C : mx_C) (o1 : Option Value) (o2 : Option Value) (o3 : Option Value) (ar : Nat) (st : mx_S) (h : mx_H) (P : mx_P) : mx_R k_Law_law C 228 [some (.ref ar), o1, o2, o3] st h P = (mx_R k_Law_law C 229 [some (.ref ar), o1, o2, o3] (.ref ar :: st) h P) := mx_xf rfl rfl
set_option maxRecDepth 100000 in
theorem x_Law_law_229 (C : mx_C) (o0 : Option Value) (o1 : Option Value) (o2 : Option Value) (xi : Int32) (st : mx_S) (h : mx_H) (P : mx_P) : mx_R k_Law_law C 229 [o0, o1, o2, some (.int xi)] st h P = (mx_R k_Law_law C 230 [o0, o1, o2, some (.int xi)] (.int xi :: st) h P) := mx_xf rfl rfl
set_option maxRecDepth 100000 in
theorem x_Law_law_230 (C : mx_C) (o0 : Option Value) (o1 : Option Value) (o2 : Option Value) (o3 : Option Value) (st : mx_S) (h : mx_H) (P : mx_P) : mx_R k_Law_law C 230 [o0, o1, o2, o3] st h P = (mx_R k_Law_law C 231 [o0, o1, o2, o3] (.int 2 :: st) h P) := mx_xf rfl rfl
set_option maxRecDepth 100000 in
theorem x_Law_law_231 (C : mx_C) (o0 : Option Value) (o1 : Option Value) (o2 : Option Value) (o3 : Option Value) (xi : Int32) (yi : Int32) (st : mx_S) (h : mx_H) (P : mx_P) : mx_R k_Law_law C 231 [o0, o1, o2, o3] (.int yi :: .int xi :: st) h P = (mx_R k_Law_law C 232 [o0, o1, o2, o3] (.int (xi + yi) :: st) h P) := mx_xf rfl rfl
set_option maxRecDepth 100000 in
theorem x_Law_law_232 (C : mx_C) (o0 : Option Value) (o1 : Option Value) (o2 : Option Value) (o3 : Option Value) (xi : Int32) (ar : Nat) (st : mx_S) (h : mx_H) (P : mx_P) : mx_R k_Law_law C 232 [o0, o1, o2, o3] (.int xi :: .ref ar :: st) h P = (mx_okr 103 ar h xi = true ∧ mx_R k_Law_law C 233 [o0, o1, o2, o3] (.int (h.1 ar xi.toNatClampNeg) :: st) h P) := mx_xg rfl rfl
set_option maxRecDepth 100000 in
theorem x_Law_law_233 (C : mx_C) (o0 : Option Value) (o1 : Option Value) (o2 : Option Value) (o3 : Option Value) (va0 : Value) (va1 : Value) (va2 : Value) (vs0 : Value) (h : mx_H) (P : mx_P) : mx_R k_Law_law C 233 [o0, o1, o2, o3] (va2 :: va1 :: va0 :: [vs0]) h P = (∃ v h1, C 180 [va0, va1, va2] h v h1 ∧ mx_R k_Law_law C 236 [o0, o1, o2, o3] (v.toList ++ [vs0]) h1 P) := mx_xc rfl (Nat.le_of_ble_eq_true rfl) (Or.inl (Nat.le_of_ble_eq_true rfl)) rfl rfl
set_option maxRecDepth 100000 in
theorem x_Law_law_236 (C : mx_C) (o0 : Option Value) (o1 : Option Value) (o2 : Option Value) (o3 : Option Value) (xi : Int32) (yi : Int32) (st : mx_S) (h : mx_H) (P : mx_P) : mx_R k_Law_law C 236 [o0, o1, o2, o3] (.int yi :: .int xi :: st) h P = (if xi = yi then mx_R k_Law_law C 1309 [o0, o1, o2, o3] st h P else mx_R k_Law_law C 239 [o0, o1, o2, o3] st h P) := mx_xb rfl rfl
set_option maxRecDepth 100000 in
theorem x_Law_law_239 (C : mx_C) (o0 : Option Value) (o1 : Option Value) (o2 : Option Value) (o3 : Option Value) (st : mx_S) (h : mx_H) (P : mx_P) : mx_R k_Law_law C 239 [o0, o1, o2, o3] st h P = (mx_R k_Law_law C 240 [o0, o1, o2, o3] (.int 0 :: st) h P) := mx_xf rfl rfl
set_option maxRecDepth 100000 in
theorem x_Law_law_240 (C : mx_C) (o0 : Option Value) (o1 : Option Value) (o2 : Option Value) (o3 : Option Value) (xi : Int32) (h : mx_H) (P : mx_P) : mx_R k_Law_law C 240 [o0, o1, o2, o3] [.int xi] h P = ((xi = 0 ∨ xi = 1) ∧ P (some (.int xi)) h) := mx_xr2 rfl
set_option maxRecDepth 100000 in
theorem x_Law_law_241 (C : mx_C) (o0 : Option Value) (o2 : Option Value) (o3 : Option Value) (ar : Nat) (st : mx_S) (h : mx_H) (P : mx_P) : mx_R k_Law_law C 241 [o0, some (.ref ar), o2, o3] st h P = (mx_R k_Law_law C 242 [o0, some (.ref ar), o2, o3] (.ref ar :: st) h P) := mx_xf rfl rfl
set_option maxRecDepth 100000 in
theorem x_Law_law_242 (C : mx_C) (o1 : Option Value) (o2 : Option Value) (o3 : Option Value) (ar : Nat) (st : mx_S) (h : mx_H) (P : mx_P) : mx_R k_Law_law C 242 [some (.ref ar), o1, o2, o3] st h P = (mx_R k_Law_law C 243 [some (.ref ar), o1, o2, o3] (.ref ar :: st) h P) := mx_xf rfl rfl
set_option maxRecDepth 100000 in
theorem x_Law_law_243 (C : mx_C) (o0 : Option Value) (o1 : Option Value) (o2 : Option Value) (xi : Int32) (st : mx_S) (h : mx_H) (P : mx_P) : mx_R k_Law_law C 243 [o0, o1, o2, some (.int xi)] st h P = (mx_R k_Law_law C 244 [o0, o1, o2, some (.int xi)] (.int xi :: st) h P) := mx_xf rfl rfl
set_option maxRecDepth 100000 in
theorem x_Law_law_244 (C : mx_C) (o0 : Option Value) (o1 : Option Value) (o2 : Option Value) (o3 : Option Value) (st : mx_S) (h : mx_H) (P : mx_P) : mx_R k_Law_law C 244 [o0, o1, o2, o3] st h P = (mx_R k_Law_law C 245 [o0, o1, o2, o3] (.int 1 :: st) h P) := mx_xf rfl rfl
set_option maxRecDepth 100000 in
theorem x_Law_law_245 (C : mx_C) (o0 : Option Value) (o1 : Option Value) (o2 : Option Value) (o3 : Option Value) (xi : Int32) (yi : Int32) (st : mx_S) (h : mx_H) (P : mx_P) : mx_R k_Law_law C 245 [o0, o1, o2, o3] (.int yi :: .int xi :: st) h P = (mx_R k_Law_law C 246 [o0, o1, o2, o3] (.int (xi + yi) :: st) h P) := mx_xf rfl rfl
set_option maxRecDepth 100000 in
theorem x_Law_law_246 (C : mx_C) (o0 : Option Value) (o1 : Option Value) (o2 : Option Value) (o3 : Option Value) (xi : Int32) (ar : Nat) (st : mx_S) (h : mx_H) (P : mx_P) : mx_R k_Law_law C 246 [o0, o1, o2, o3] (.int xi :: .ref ar :: st) h P = (mx_okr 103 ar h xi = true ∧ mx_R k_Law_law C 247 [o0, o1, o2, o3] (.int (h.1 ar xi.toNatClampNeg) :: st) h P) := mx_xg rfl rfl
set_option maxRecDepth 100000 in
theorem x_Law_law_247 (C : mx_C) (o1 : Option Value) (o2 : Option Value) (o3 : Option Value) (ar : Nat) (st : mx_S) (h : mx_H) (P : mx_P) : mx_R k_Law_law C 247 [some (.ref ar), o1, o2, o3] st h P = (mx_R k_Law_law C 248 [some (.ref ar), o1, o2, o3] (.ref ar :: st) h P) := mx_xf rfl rfl
set_option maxRecDepth 100000 in
theorem x_Law_law_248 (C : mx_C) (o0 : Option Value) (o1 : Option Value) (o2 : Option Value) (xi : Int32) (st : mx_S) (h : mx_H) (P : mx_P) : mx_R k_Law_law C 248 [o0, o1, o2, some (.int xi)] st h P = (mx_R k_Law_law C 249 [o0, o1, o2, some (.int xi)] (.int xi :: st) h P) := mx_xf rfl rfl
set_option maxRecDepth 100000 in
theorem x_Law_law_249 (C : mx_C) (o0 : Option Value) (o1 : Option Value) (o2 : Option Value) (o3 : Option Value) (st : mx_S) (h : mx_H) (P : mx_P) : mx_R k_Law_law C 249 [o0, o1, o2, o3] st h P = (mx_R k_Law_law C 250 [o0, o1, o2, o3] (.int 2 :: st) h P) := mx_xf rfl rfl
set_option maxRecDepth 100000 in
theorem x_Law_law_250 (C : mx_C) (o0 : Option Value) (o1 : Option Value) (o2 : Option Value) (o3 : Option Value) (xi : Int32) (yi : Int32) (st : mx_S) (h : mx_H) (P : mx_P) : mx_R k_Law_law C 250 [o0, o1, o2, o3] (.int yi :: .int xi :: st) h P = (mx_R k_Law_law C 251 [o0, o1, o2, o3] (.int (xi + yi) :: st) h P) := mx_xf rfl rfl
set_option maxRecDepth 100000 in
theorem x_Law_law_251 (C : mx_C) (o0 : Option Value) (o1 : Option Value) (o2 : Option Value) (o3 : Option Value) (xi : Int32) (ar : Nat) (st : mx_S) (h : mx_H) (P : mx_P) : mx_R k_Law_law C 251 [o0, o1, o2, o3] (.int xi :: .ref ar :: st) h P = (mx_okr 103 ar h xi = true ∧ mx_R k_Law_law C 252 [o0, o1, o2, o3] (.int (h.1 ar xi.toNatClampNeg) :: st) h P) := mx_xg rfl rfl
set_option maxRecDepth 100000 in
theorem x_Law_law_252 (C : mx_C) (o0 : Option Value) (o1 : Option Value) (o2 : Option Value) (o3 : Option Value) (va0 : Value) (va1 : Value) (va2 : Value) (h : mx_H) (P : mx_P) : mx_R k_Law_law C 252 [o0, o1, o2, o3] (va2 :: va1 :: va0 :: []) h P = (∃ v h1, C 96 [va0, va1, va2] h v h1 ∧ mx_R k_Law_law C 255 [o0, o1, o2, o3] (v.toList ++ []) h1 P) := mx_xc rfl (Nat.le_of_ble_eq_true rfl) (Or.inl (Nat.le_of_ble_eq_true rfl)) rfl rfl
set_option maxRecDepth 100000 in
theorem x_Law_law_255 (C : mx_C) (o0 : Option Value) (o1 : Option Value) (o3 : Option Value) (ar : Nat) (st : mx_S) (h : mx_H) (P : mx_P) : mx_R k_Law_law C 255 [o0, o1, some (.ref ar), o3] st h P = (mx_R k_Law_law C 256 [o0, o1, some (.ref ar), o3] (.ref ar :: st) h P) := mx_xf rfl rfl
set_option maxRecDepth 100000 in
theorem x_Law_law_256 (C : mx_C) (o1 : Option Value) (o2 : Option Value) (o3 : Option Value) (ar : Nat) (st : mx_S) (h : mx_H) (P : mx_P) : mx_R k_Law_law C 256 [some (.ref ar), o1, o2, o3] st h P = (mx_R k_Law_law C 257 [some (.ref ar), o1, o2, o3] (.ref ar :: st) h P) := mx_xf rfl rfl
set_option maxRecDepth 100000 in
theorem x_Law_law_257 (C : mx_C) (o0 : Option Value) (o1 : Option Value) (o2 : Option Value) (xi : Int32) (st : mx_S) (h : mx_H) (P : mx_P) : mx_R k_Law_law C 257 [o0, o1, o2, some (.int xi)] st h P = (mx_R k_Law_law C 258 [o0, o1, o2, some (.int xi)] (.int xi :: st) h P) := mx_xf rfl rfl
set_option maxRecDepth 100000 in
theorem x_Law_law_258 (C : mx_C) (o0 : Option Value) (o1 : Option Value) (o2 : Option Value) (o3 : Option Value) (st : mx_S) (h : mx_H) (P : mx_P) : mx_R k_Law_law C 258 [o0, o1, o2, o3] st h P = (mx_R k_Law_law C 259 [o0, o1, o2, o3] (.int 1 :: st) h P) := mx_xf rfl rfl
set_option maxRecDepth 100000 in
theorem x_Law_law_259 (C : mx_C) (o0 : Option Value) (o1 : Option Value) (o2 : Option Value) (o3 : Option Value) (xi : Int32) (yi : Int32) (st : mx_S) (h : mx_H) (P : mx_P) : mx_R k_Law_law C 259 [o0, o1, o2, o3] (.int yi :: .int xi :: st) h P = (mx_R k_Law_law C 260 [o0, o1, o2, o3] (.int (xi + yi) :: st) h P) := mx_xf rfl rfl
set_option maxRecDepth 100000 in
theorem x_Law_law_260 (C : mx_C) (o0 : Option Value) (o1 : Option Value) (o2 : Option Value) (o3 : Option Value) (xi : Int32) (ar : Nat) (st : mx_S) (h : mx_H) (P : mx_P) : mx_R k_Law_law C 260 [o0, o1, o2, o3] (.int xi :: .ref ar :: st) h P = (mx_okr 103 ar h xi = true ∧ mx_R k_Law_law C 261 [o0, o1, o2, o3] (.int (h.1 ar xi.toNatClampNeg) :: st) h P) := mx_xg rfl rfl
set_option maxRecDepth 100000 in
theorem x_Law_law_261 (C : mx_C) (o1 : Option Value) (o2 : Option Value) (o3 : Option Value) (ar : Nat) (st : mx_S) (h : mx_H) (P : mx_P) : mx_R k_Law_law C 261 [some (.ref ar), o1, o2, o3] st h P = (mx_R k_Law_law C 262 [some (.ref ar), o1, o2, o3] (.ref ar :: st) h P) := mx_xf rfl rfl
set_option maxRecDepth 100000 in
theorem x_Law_law_262 (C : mx_C) (o0 : Option Value) (o1 : Option Value) (o2 : Option Value) (xi : Int32) (st : mx_S) (h : mx_H) (P : mx_P) : mx_R k_Law_law C 262 [o0, o1, o2, some (.int xi)] st h P = (mx_R k_Law_law C 263 [o0, o1, o2, some (.int xi)] (.int xi :: st) h P) := mx_xf rfl rfl
set_option maxRecDepth 100000 in
theorem x_Law_law_263 (C : mx_C) (o0 : Option Value) (o1 : Option Value) (o2 : Option Value) (o3 : Option Value) (st : mx_S) (h : mx_H) (P : mx_P) : mx_R k_Law_law C 263 [o0, o1, o2, o3] st h P = (mx_R k_Law_law C 264 [o0, o1, o2, o3] (.int 2 :: st) h P) := mx_xf rfl rfl
set_option maxRecDepth 100000 in
theorem x_Law_law_264 (C : mx_C) (o0 : Option Value) (o1 : Option Value) (o2 : Option Value) (o3 : Option Value) (xi : Int32) (yi : Int32) (st : mx_S) (h : mx_H) (P : mx_P) : mx_R k_Law_law C 264 [o0, o1, o2, o3] (.int yi :: .int xi :: st) h P = (mx_R k_Law_law C 265 [o0, o1, o2, o3] (.int (xi + yi) :: st) h P) := mx_xf rfl rfl
set_option maxRecDepth 100000 in
theorem x_Law_law_265 (C : mx_C) (o0 : Option Value) (o1 : Option Value) (o2 : Option Value) (o3 : Option Value) (xi : Int32) (ar : Nat) (st : mx_S) (h : mx_H) (P : mx_P) : mx_R k_Law_law C 265 [o0, o1, o2, o3] (.int xi :: .ref ar :: st) h P = (mx_okr 103 ar h xi = true ∧ mx_R k_Law_law C 266 [o0, o1, o2, o3] (.int (h.1 ar xi.toNatClampNeg) :: st) h P) := mx_xg rfl rfl
set_option maxRecDepth 100000 in
theorem x_Law_law_266 (C : mx_C) (o0 : Option Value) (o1 : Option Value) (o2 : Option Value) (o3 : Option Value) (va0 : Value) (va1 : Value) (va2 : Value) (vs0 : Value) (h : mx_H) (P : mx_P) : mx_R k_Law_law C 266 [o0, o1, o2, o3] (va2 :: va1 :: va0 :: [vs0]) h P = (∃ v h1, C 181 [va0, va1, va2] h v h1 ∧ mx_R k_Law_law C 269 [o0, o1, o2, o3] (v.toList ++ [vs0]) h1 P) := mx_xc rfl (Nat.le_of_ble_eq_true rfl) (Or.inl (Nat.le_of_ble_eq_true rfl)) rfl rfl
set_option maxRecDepth 100000 in
theorem x_Law_law_269 (C : mx_C) (o0 : Option Value) (o1 : Option Value) (o2 : Option Value) (o3 : Option Value) (xi : Int32) (yi : Int32) (st : mx_S) (h : mx_H) (P : mx_P) : mx_R k_Law_law C 269 [o0, o1, o2, o3] (.int yi :: .int xi :: st) h P = (if xi = yi then mx_R k_Law_law C 1309 [o0, o1, o2, o3] st h P else mx_R k_Law_law C 272 [o0, o1, o2, o3] st h P) := mx_xb rfl rfl
set_option maxRecDepth 100000 in
theorem x_Law_law_272 (C : mx_C) (o0 : Option Value) (o1 : Option Value) (o2 : Option Value) (o3 : Option Value) (st : mx_S) (h : mx_H) (P : mx_P) : mx_R k_Law_law C 272 [o0, o1, o2, o3] st h P = (mx_R k_Law_law C 273 [o0, o1, o2, o3] (.int 0 :: st) h P) := mx_xf rfl rfl
set_option maxRecDepth 100000 in
theorem x_Law_law_273 (C : mx_C) (o0 : Option Value) (o1 : Option Value) (o2 : Option Value) (o3 : Option Value) (xi : Int32) (h : mx_H) (P : mx_P) : mx_R k_Law_law C 273 [o0, o1, o2, o3] [.int xi] h P = ((xi = 0 ∨ xi = 1) ∧ P (some (.int xi)) h) := mx_xr2 rfl
set_option maxRecDepth 100000 in
theorem x_Law_law_274 (C : mx_C) (o0 : Option Value) (o2 : Option Value) (o3 : Option Value) (ar : Nat) (st : mx_S) (h : mx_H) (P : mx_P) : mx_R k_Law_law C 274 [o0, some (.ref ar), o2, o3] st h P = (mx_R k_Law_law C 275 [o0, some (.ref ar), o2, o3] (.ref ar :: st) h P) := mx_xf rfl rfl
set_option maxRecDepth 100000 in
theorem x_Law_law_275 (C : mx_C) (o1 : Option Value) (o2 : Option Value) (o3 : Option Value) (ar : Nat) (st : mx_S) (h : mx_H) (P : mx_P) : mx_R k_Law_law C 275 [some (.ref ar), o1, o2, o3] st h P = (mx_R k_Law_law C 276 [some (.ref ar), o1, o2, o3] (.ref ar :: st) h P) := mx_xf rfl rfl
set_option maxRecDepth 100000 in
theorem x_Law_law_276 (C : mx_C) (o0 : Option Value) (o1 : Option Value) (o2 : Option Value) (xi : Int32) (st : mx_S) (h : mx_H) (P : mx_P) : mx_R k_Law_law C 276 [o0, o1, o2, some (.int xi)] st h P = (mx_R k_Law_law C 277 [o0, o1, o2, some (.int xi)] (.int xi :: st) h P) := mx_xf rfl rfl
set_option maxRecDepth 100000 in
theorem x_Law_law_277 (C : mx_C) (o0 : Option Value) (o1 : Option Value) (o2 : Option Value) (o3 : Option Value) (st : mx_S) (h : mx_H) (P : mx_P) : mx_R k_Law_law C 277 [o0, o1, o2, o3] st h P = (mx_R k_Law_law C 278 [o0, o1, o2, o3] (.int 1 :: st) h P) := mx_xf rfl rfl
set_option maxRecDepth 100000 in
theorem x_Law_law_278 (C : mx_C) (o0 : Option Value) (o1 : Option Value) (o2 : Option Value) (o3 : Option Value) (xi : Int32) (yi : Int32) (st : mx_S) (h : mx_H) (P : mx_P) : mx_R k_Law_law C 278 [o0, o1, o2, o3] (.int yi :: .int xi :: st) h P = (mx_R k_Law_law C 279 [o0, o1, o2, o3] (.int (xi + yi) :: st) h P) := mx_xf rfl rfl
set_option maxRecDepth 100000 in
theorem x_Law_law_279 (C : mx_C) (o0 : Option Value) (o1 : Option Value) (o2 : Option Value) (o3 : Option Value) (xi : Int32) (ar : Nat) (st : mx_S) (h : mx_H) (P : mx_P) : mx_R k_Law_law C 279 [o0, o1, o2, o3] (.int xi :: .ref ar :: st) h P = (mx_okr 103 ar h xi = true ∧ mx_R k_Law_law C 280 [o0, o1, o2, o3] (.int (h.1 ar xi.toNatClampNeg) :: st) h P) := mx_xg rfl rfl
set_option maxRecDepth 100000 in
theorem x_Law_law_280 (C : mx_C) (o1 : Option Value) (o2 : Option Value) (o3 : Option Value) (ar : Nat) (st : mx_S) (h : mx_H) (P : mx_P) : mx_R k_Law_law C 280 [some (.ref ar), o1, o2, o3] st h P = (mx_R k_Law_law C 281 [some (.ref ar), o1, o2, o3] (.ref ar :: st) h P) := mx_xf rfl rfl
set_option maxRecDepth 100000 in
theorem x_Law_law_281 (C : mx_C) (o0 : Option Value) (o1 : Option Value) (o2 : Option Value) (xi : Int32) (st : mx_S) (h : mx_H) (P : mx_P) : mx_R k_Law_law C 281 [o0, o1, o2, some (.int xi)] st h P = (mx_R k_Law_law C 282 [o0, o1, o2, some (.int xi)] (.int xi :: st) h P) := mx_xf rfl rfl
set_option maxRecDepth 100000 in
theorem x_Law_law_282 (C : mx_C) (o0 : Option Value) (o1 : Option Value) (o2 : Option Value) (o3 : Option Value) (st : mx_S) (h : mx_H) (P : mx_P) : mx_R k_Law_law C 282 [o0, o1, o2, o3] st h P = (mx_R k_Law_law C 283 [o0, o1, o2, o3] (.int 2 :: st) h P) := mx_xf rfl rfl
set_option maxRecDepth 100000 in
theorem x_Law_law_283 (C : mx_C) (o0 : Option Value) (o1 : Option Value) (o2 : Option Value) (o3 : Option Value) (xi : Int32) (yi : Int32) (st : mx_S) (h : mx_H) (P : mx_P) : mx_R k_Law_law C 283 [o0, o1, o2, o3] (.int yi :: .int xi :: st) h P = (mx_R k_Law_law C 284 [o0, o1, o2, o3] (.int (xi + yi) :: st) h P) := mx_xf rfl rfl
set_option maxRecDepth 100000 in
theorem x_Law_law_284 (C : mx_C) (o0 : Option Value) (o1 : Option Value) (o2 : Option Value) (o3 : Option Value) (xi : Int32) (ar : Nat) (st : mx_S) (h : mx_H) (P : mx_P) : mx_R k_Law_law C 284 [o0, o1, o2, o3] (.int xi :: .ref ar :: st) h P = (mx_okr 103 ar h xi = true ∧ mx_R k_Law_law C 285 [o0, o1, o2, o3] (.int (h.1 ar xi.toNatClampNeg) :: st) h P) := mx_xg rfl rfl
set_option maxRecDepth 100000 in
theorem x_Law_law_285 (C : mx_C) (o0 : Option Value) (o1 : Option Value) (o2 : Option Value) (o3 : Option Value) (va0 : Value) (va1 : Value) (va2 : Value) (h : mx_H) (P : mx_P) : mx_R k_Law_law C 285 [o0, o1, o2, o3] (va2 :: va1 :: va0 :: []) h P = (∃ v h1, C 97 [va0, va1, va2] h v h1 ∧ mx_R k_Law_law C 288 [o0, o1, o2, o3] (v.toList ++ []) h1 P) := mx_xc rfl (Nat.le_of_ble_eq_true rfl) (Or.inl (Nat.le_of_ble_eq_true rfl)) rfl rfl
set_option maxRecDepth 100000 in
theorem x_Law_law_288 (C : mx_C) (o0 : Option Value) (o1 : Option Value) (o3 : Option Value) (ar : Nat) (st : mx_S) (h : mx_H) (P : mx_P) : mx_R k_Law_law C 288 [o0, o1, some (.ref ar), o3] st h P = (mx_R k_Law_law C 289 [o0, o1, some (.ref ar), o3] (.ref ar :: st) h P) := mx_xf rfl rfl
set_option maxRecDepth 100000 in
theorem x_Law_law_289 (C : mx_C) (o1 : Option Value) (o2 : Option Value) (o3 : Option Value) (ar : Nat) (st : mx_S) (h : mx_H) (P : mx_P) : mx_R k_Law_law C 289 [some (.ref ar), o1, o2, o3] st h P = (mx_R k_Law_law C 290 [some (.ref ar), o1, o2, o3] (.ref ar :: st) h P) := mx_xf rfl rfl
set_option maxRecDepth 100000 in
theorem x_Law_law_290 (C : mx_C) (o0 : Option Value) (o1 : Option Value) (o2 : Option Value) (xi : Int32) (st : mx_S) (h : mx_H) (P : mx_P) : mx_R k_Law_law C 290 [o0, o1, o2, some (.int xi)] st h P = (mx_R k_Law_law C 291 [o0, o1, o2, some (.int xi)] (.int xi :: st) h P) := mx_xf rfl rfl
set_option maxRecDepth 100000 in
theorem x_Law_law_291 (C : mx_C) (o0 : Option Value) (o1 : Option Value) (o2 : Option Value) (o3 : Option Value) (st : mx_S) (h : mx_H) (P : mx_P) : mx_R k_Law_law C 291 [o0, o1, o2, o3] st h P = (mx_R k_Law_law C 292 [o0, o1, o2, o3] (.int 1 :: st) h P) := mx_xf rfl rfl
set_option maxRecDepth 100000 in
theorem x_Law_law_292 (C : mx_C) (o0 : Option Value) (o1 : Option Value) (o2 : Option Value) (o3 : Option Value) (xi : Int32) (yi : Int32) (st : mx_S) (h : mx_H) (P : mx_P) : mx_R k_Law_law C 292 [o0, o1, o2, o3] (.int yi :: .int xi :: st) h P = (mx_R k_Law_law C 293 [o0, o1, o2, o3] (.int (xi + yi) :: st) h P) := mx_xf rfl rfl
set_option maxRecDepth 100000 in
theorem x_Law_law_293 (C : mx_C) (o0 : Option Value) (o1 : Option Value) (o2 : Option Value) (o3 : Option Value) (xi : Int32) (ar : Nat) (st : mx_S) (h : mx_H) (P : mx_P) : mx_R k_Law_law C 293 [o0, o1, o2, o3] (.int xi :: .ref ar :: st) h P = (mx_okr 103 ar h xi = true ∧ mx_R k_Law_law C 294 [o0, o1, o2, o3] (.int (h.1 ar xi.toNatClampNeg) :: st) h P) := mx_xg rfl rfl
set_option maxRecDepth 100000 in
theorem x_Law_law_294 (C : mx_C) (o1 : Option Value) (o2 : Option Value) (o3 : Option Value) (ar : Nat) (st : mx_S) (h : mx_H) (P : mx_P) : mx_R k_Law_law C 294 [some (.ref ar), o1, o2, o3] st h P = (mx_R k_Law_law C 295 [some (.ref ar), o1, o2, o3] (.ref ar :: st) h P) := mx_xf rfl rfl
set_option maxRecDepth 100000 in
theorem x_Law_law_295 (C : mx_C) (o0 : Option Value) (o1 : Option Value) (o2 : Option Value) (xi : Int32) (st : mx_S) (h : mx_H) (P : mx_P) : mx_R k_Law_law C 295 [o0, o1, o2, some (.int xi)] st h P = (mx_R k_Law_law C 296 [o0, o1, o2, some (.int xi)] (.int xi :: st) h P) := mx_xf rfl rfl
set_option maxRecDepth 100000 in
theorem x_Law_law_296 (C : mx_C) (o0 : Option Value) (o1 : Option Value) (o2 : Option Value) (o3 : Option Value) (st : mx_S) (h : mx_H) (P : mx_P) : mx_R k_Law_law C 296 [o0, o1, o2, o3] st h P = (mx_R k_Law_law C 297 [o0, o1, o2, o3] (.int 2 :: st) h P) := mx_xf rfl rfl
set_option maxRecDepth 100000 in
theorem x_Law_law_297 (C : mx_C) (o0 : Option Value) (o1 : Option Value) (o2 : Option Value) (o3 : Option Value) (xi : Int32) (yi : Int32) (st : mx_S) (h : mx_H) (P : mx_P) : mx_R k_Law_law C 297 [o0, o1, o2, o3] (.int yi :: .int xi :: st) h P = (mx_R k_Law_law C 298 [o0, o1, o2, o3] (.int (xi + yi) :: st) h P) := mx_xf rfl rfl
set_option maxRecDepth 100000 in
theorem x_Law_law_298 (C : mx_C) (o0 : Option Value) (o1 : Option Value) (o2 : Option Value) (o3 : Option Value) (xi : Int32) (ar : Nat) (st : mx_S) (h : mx_H) (P : mx_P) : mx_R k_Law_law C 298 [o0, o1, o2, o3] (.int xi :: .ref ar :: st) h P = (mx_okr 103 ar h xi = true ∧ mx_R k_Law_law C 299 [o0, o1, o2, o3] (.int (h.1 ar xi.toNatClampNeg) :: st) h P) := mx_xg rfl rfl
set_option maxRecDepth 100000 in
theorem x_Law_law_299 (C : mx_C) (o0 : Option Value) (o1 : Option Value) (o2 : Option Value) (o3 : Option Value) (va0 : Value) (va1 : Value) (va2 : Value) (vs0 : Value) (h : mx_H) (P : mx_P) : mx_R k_Law_law C 299 [o0, o1, o2, o3] (va2 :: va1 :: va0 :: [vs0]) h P = (∃ v h1, C 182 [va0, va1, va2] h v h1 ∧ mx_R k_Law_law C 302 [o0, o1, o2, o3] (v.toList ++ [vs0]) h1 P) := mx_xc rfl (Nat.le_of_ble_eq_true rfl) (Or.inl (Nat.le_of_ble_eq_true rfl)) rfl rfl
set_option maxRecDepth 100000 in
theorem x_Law_law_302 (C : mx_C) (o0 : Option Value) (o1 : Option Value) (o2 : Option Value) (o3 : Option Value) (xi : Int32) (yi : Int32) (st : mx_S) (h : mx_H) (P : mx_P) : mx_R k_Law_law C 302 [o0, o1, o2, o3] (.int yi :: .int xi :: st) h P = (if xi = yi then mx_R k_Law_law C 1309 [o0, o1, o2, o3] st h P else mx_R k_Law_law C 305 [o0, o1, o2, o3] st h P) := mx_xb rfl rfl
set_option maxRecDepth 100000 in
theorem x_Law_law_305 (C : mx_C) (o0 : Option Value) (o1 : Option Value) (o2 : Option Value) (o3 : Option Value) (st : mx_S) (h : mx_H) (P : mx_P) : mx_R k_Law_law C 305 [o0, o1, o2, o3] st h P = (mx_R k_Law_law C 306 [o0, o1, o2, o3] (.int 0 :: st) h P) := mx_xf rfl rfl
set_option maxRecDepth 100000 in
theorem x_Law_law_306 (C : mx_C) (o0 : Option Value) (o1 : Option Value) (o2 : Option Value) (o3 : Option Value) (xi : Int32) (h : mx_H) (P : mx_P) : mx_R k_Law_law C 306 [o0, o1, o2, o3] [.int xi] h P = ((xi = 0 ∨ xi = 1) ∧ P (some (.int xi)) h) := mx_xr2 rfl
set_option maxRecDepth 100000 in
theorem x_Law_law_307 (C : mx_C) (o0 : Option Value) (o2 : Option Value) (o3 : Option Value) (ar : Nat) (st : mx_S) (h : mx_H) (P : mx_P) : mx_R k_Law_law C 307 [o0, some (.ref ar), o2, o3] st h P = (mx_R k_Law_law C 308 [o0, some (.ref ar), o2, o3] (.ref ar :: st) h P) := mx_xf rfl rfl
set_option maxRecDepth 100000 in
theorem x_Law_law_308 (C : mx_C) (o1 : Option Value) (o2 : Option Value) (o3 : Option Value) (ar : Nat) (st : mx_S) (h : mx_H) (P : mx_P) : mx_R k_Law_law C 308 [some (.ref ar), o1, o2, o3] st h P = (mx_R k_Law_law C 309 [some (.ref ar), o1, o2, o3] (.ref ar :: st) h P) := mx_xf rfl rfl
set_option maxRecDepth 100000 in
theorem x_Law_law_309 (C : mx_C) (o0 : Option Value) (o1 : Option Value) (o2 : Option Value) (xi : Int32) (st : mx_S) (h : mx_H) (P : mx_P) : mx_R k_Law_law C 309 [o0, o1, o2, some (.int xi)] st h P = (mx_R k_Law_law C 310 [o0, o1, o2, some (.int xi)] (.int xi :: st) h P) := mx_xf rfl rfl
set_option maxRecDepth 100000 in
theorem x_Law_law_310 (C : mx_C) (o0 : Option Value) (o1 : Option Value) (o2 : Option Value) (o3 : Option Value) (st : mx_S) (h : mx_H) (P : mx_P) : mx_R k_Law_law C 310 [o0, o1, o2, o3] st h P = (mx_R k_Law_law C 311 [o0, o1, o2, o3] (.int 1 :: st) h P) := mx_xf rfl rfl
set_option maxRecDepth 100000 in
theorem x_Law_law_311 (C : mx_C) (o0 : Option Value) (o1 : Option Value) (o2 : Option Value) (o3 : Option Value) (xi : Int32) (yi : Int32) (st : mx_S) (h : mx_H) (P : mx_P) : mx_R k_Law_law C 311 [o0, o1, o2, o3] (.int yi :: .int xi :: st) h P = (mx_R k_Law_law C 312 [o0, o1, o2, o3] (.int (xi + yi) :: st) h P) := mx_xf rfl rfl
set_option maxRecDepth 100000 in
theorem x_Law_law_312 (C : mx_C) (o0 : Option Value) (o1 : Option Value) (o2 : Option Value) (o3 : Option Value) (xi : Int32) (ar : Nat) (st : mx_S) (h : mx_H) (P : mx_P) : mx_R k_Law_law C 312 [o0, o1, o2, o3] (.int xi :: .ref ar :: st) h P = (mx_okr 103 ar h xi = true ∧ mx_R k_Law_law C 313 [o0, o1, o2, o3] (.int (h.1 ar xi.toNatClampNeg) :: st) h P) := mx_xg rfl rfl
set_option maxRecDepth 100000 in
theorem x_Law_law_313 (C : mx_C) (o1 : Option Value) (o2 : Option Value) (o3 : Option Value) (ar : Nat) (st : mx_S) (h : mx_H) (P : mx_P) : mx_R k_Law_law C 313 [some (.ref ar), o1, o2, o3] st h P = (mx_R k_Law_law C 314 [some (.ref ar), o1, o2, o3] (.ref ar :: st) h P) := mx_xf rfl rfl
set_option maxRecDepth 100000 in
theorem x_Law_law_314 (C : mx_C) (o0 : Option Value) (o1 : Option Value) (o2 : Option Value) (xi : Int32) (st : mx_S) (h : mx_H) (P : mx_P) : mx_R k_Law_law C 314 [o0, o1, o2, some (.int xi)] st h P = (mx_R k_Law_law C 315 [o0, o1, o2, some (.int xi)] (.int xi :: st) h P) := mx_xf rfl rfl
set_option maxRecDepth 100000 in
theorem x_Law_law_315 (C : mx_C) (o0 : Option Value) (o1 : Option Value) (o2 : Option Value) (o3 : Option Value) (st : mx_S) (h : mx_H) (P : mx_P) : mx_R k_Law_law C 315 [o0, o1, o2, o3] st h P = (mx_R k_Law_law C 316 [o0, o1, o2, o3] (.int 2 :: st) h P) := mx_xf rfl rfl
set_option maxRecDepth 100000 in
theorem x_Law_law_316 (C : mx_C) (o0 : Option Value) (o1 : Option Value) (o2 : Option Value) (o3 : Option Value) (xi : Int32) (yi : Int32) (st : mx_S) (h : mx_H) (P : mx_P) : mx_R k_Law_law C 316 [o0, o1, o2, o3] (.int yi :: .int xi :: st) h P = (mx_R k_Law_law C 317 [o0, o1, o2, o3] (.int (xi + yi) :: st) h P) := mx_xf rfl rfl
set_option maxRecDepth 100000 in
theorem x_Law_law_317 (C : mx_C) (o0 : Option Value) (o1 : Option Value) (o2 : Option Value) (o3 : Option Value) (xi : Int32) (ar : Nat) (st : mx_S) (h : mx_H) (P : mx_P) : mx_R k_Law_law C 317 [o0, o1, o2, o3] (.int xi :: .ref ar :: st) h P = (mx_okr 103 ar h xi = true ∧ mx_R k_Law_law C 318 [o0, o1, o2, o3] (.int (h.1 ar xi.toNatClampNeg) :: st) h P) := mx_xg rfl rfl
set_option maxRecDepth 100000 in
theorem x_Law_law_318 (C : mx_C) (o0 : Option Value) (o1 : Option Value) (o2 : Option Value) (o3 : Option Value) (va0 : Value) (va1 : Value) (va2 : Value) (h : mx_H) (P : mx_P) : mx_R k_Law_law C 318 [o0, o1, o2, o3] (va2 :: va1 :: va0 :: []) h P = (∃ v h1, C 98 [va0, va1, va2] h v h1 ∧ mx_R k_Law_law C 321 [o0, o1, o2, o3] (v.toList ++ []) h1 P) := mx_xc rfl (Nat.le_of_ble_eq_true rfl) (Or.inl (Nat.le_of_ble_eq_true rfl)) rfl rfl
set_option maxRecDepth 100000 in
theorem x_Law_law_321 (C : mx_C) (o0 : Option Value) (o1 : Option Value) (o3 : Option Value) (ar : Nat) (st : mx_S) (h : mx_H) (P : mx_P) : mx_R k_Law_law C 321 [o0, o1, some (.ref ar), o3] st h P = (mx_R k_Law_law C 322 [o0, o1, some (.ref ar), o3] (.ref ar :: st) h P) := mx_xf rfl rfl
set_option maxRecDepth 100000 in
theorem x_Law_law_322 (C : mx_C) (o1 : Option Value) (o2 : Option Value) (o3 : Option Value) (ar : Nat) (st : mx_S) (h : mx_H) (P : mx_P) : mx_R k_Law_law C 322 [some (.ref ar), o1, o2, o3] st h P = (mx_R k_Law_law C 323 [some (.ref ar), o1, o2, o3] (.ref ar :: st) h P) := mx_xf rfl rfl
set_option maxRecDepth 100000 in
theorem x_Law_law_323 (C : mx_C) (o0 : Option Value) (o1 : Option Value) (o2 : Option Value) (xi : Int32) (st : mx_S) (h : mx_H) (P : mx_P) : mx_R k_Law_law C 323 [o0, o1, o2, some (.int xi)] st h P = (mx_R k_Law_law C 324 [o0, o1, o2, some (.int xi)] (.int xi :: st) h P) := mx_xf rfl rfl
set_option maxRecDepth 100000 in
theorem x_Law_law_324 (C : mx_C) (o0 : Option Value) (o1 : Option Value) (o2 : Option Value) (o3 : Option Value) (st : mx_S) (h : mx_H) (P : mx_P) : mx_R k_Law_law C 324 [o0, o1, o2, o3] st h P = (mx_R k_Law_law C 325 [o0, o1, o2, o3] (.int 1 :: st) h P) := mx_xf rfl rfl
set_option maxRecDepth 100000 in
theorem x_Law_law_325 (C : mx_C) (o0 : Option Value) (o1 : Option Value) (o2 : Option Value) (o3 : Option Value) (xi : Int32) (yi : Int32) (st : mx_S) (h : mx_H) (P : mx_P) : mx_R k_Law_law C 325 [o0, o1, o2, o3] (.int yi :: .int xi :: st) h P = (mx_R k_Law_law C 326 [o0, o1, o2, o3] (.int (xi + yi) :: st) h P) := mx_xf rfl rfl
set_option maxRecDepth 100000 in
theorem x_Law_law_326 (C : mx_C) (o0 : Option Value) (o1 : Option Value) (o2 : Option Value) (o3 : Option Value) (xi : Int32) (ar : Nat) (st : mx_S) (h : mx_H) (P : mx_P) : mx_R k_Law_law C 326 [o0, o1, o2, o3] (.int xi :: .ref ar :: st) h P = (mx_okr 103 ar h xi = true ∧ mx_R k_Law_law C 327 [o0, o1, o2, o3] (.int (h.1 ar xi.toNatClampNeg) :: st) h P) := mx_xg rfl rfl
set_option maxRecDepth 100000 in
theorem x_Law_law_327 (C : mx_C) (o1 : Option Value) (o2 : Option Value) (o3 : Option Value) (ar : Nat) (st : mx_S) (h : mx_H) (P : mx_P) : mx_R k_Law_law C 327 [some (.ref ar), o1, o2, o3] st h P = (mx_R k_Law_law C 328 [some (.ref ar), o1, o2, o3] (.ref ar :: st) h P) := mx_xf rfl rfl
set_option maxRecDepth 100000 in
theorem x_Law_law_328 (C : mx_C) (o0 : Option Value) (o1 : Option Value) (o2 : Option Value) (xi : Int32) (st : mx_S) (h : mx_H) (P : mx_P) : mx_R k_Law_law C 328 [o0, o1, o2, some (.int xi)] st h P = (mx_R k_Law_law C 329 [o0, o1, o2, some (.int xi)] (.int xi :: st) h P) := mx_xf rfl rfl
set_option maxRecDepth 100000 in
theorem x_Law_law_329 (C : mx_C) (o0 : Option Value) (o1 : Option Value) (o2 : Option Value) (o3 : Option Value) (st : mx_S) (h : mx_H) (P : mx_P) : mx_R k_Law_law C 329 [o0, o1, o2, o3] st h P = (mx_R k_Law_law C 330 [o0, o1, o2, o3] (.int 2 :: st) h P) := mx_xf rfl rfl
set_option maxRecDepth 100000 in
theorem x_Law_law_330 (C : mx_C) (o0 : Option Value) (o1 : Option Value) (o2 : Option Value) (o3 : Option Value) (xi : Int32) (yi : Int32) (st : mx_S) (h : mx_H) (P : mx_P) : mx_R k_Law_law C 330 [o0, o1, o2, o3] (.int yi :: .int xi :: st) h P = (mx_R k_Law_law C 331 [o0, o1, o2, o3] (.int (xi + yi) :: st) h P) := mx_xf rfl rfl
set_option maxRecDepth 100000 in
theorem x_Law_law_331 (C : mx_C) (o0 : Option Value) (o1 : Option Value) (o2 : Option Value) (o3 : Option Value) (xi : Int32) (ar : Nat) (st : mx_S) (h : mx_H) (P : mx_P) : mx_R k_Law_law C 331 [o0, o1, o2, o3] (.int xi :: .ref ar :: st) h P = (mx_okr 103 ar h xi = true ∧ mx_R k_Law_law C 332 [o0, o1, o2, o3] (.int (h.1 ar xi.toNatClampNeg) :: st) h P) := mx_xg rfl rfl
set_option maxRecDepth 100000 in
theorem x_Law_law_332 (C : mx_C) (o0 : Option Value) (o1 : Option Value) (o2 : Option Value) (o3 : Option Value) (va0 : Value) (va1 : Value) (va2 : Value) (vs0 : Value) (h : mx_H) (P : mx_P) : mx_R k_Law_law C 332 [o0, o1, o2, o3] (va2 :: va1 :: va0 :: [vs0]) h P = (∃ v h1, C 183 [va0, va1, va2] h v h1 ∧ mx_R k_Law_law C 335 [o0, o1, o2, o3] (v.toList ++ [vs0]) h1 P) := mx_xc rfl (Nat.le_of_ble_eq_true rfl) (Or.inl (Nat.le_of_ble_eq_true rfl)) rfl rfl
set_option maxRecDepth 100000 in
theorem x_Law_law_335 (C : mx_C) (o0 : Option Value) (o1 : Option Value) (o2 : Option Value) (o3 : Option Value) (xi : Int32) (yi : Int32) (st : mx_S) (h : mx_H) (P : mx_P) : mx_R k_Law_law C 335 [o0, o1, o2, o3] (.int yi :: .int xi :: st) h P = (if xi = yi then mx_R k_Law_law C 1309 [o0, o1, o2, o3] st h P else mx_R k_Law_law C 338 [o0, o1, o2, o3] st h P) := mx_xb rfl rfl
set_option maxRecDepth 100000 in
theorem x_Law_law_338 (C : mx_C) (o0 : Option Value) (o1 : Option Value) (o2 : Option Value) (o3 : Option Value) (st : mx_S) (h : mx_H) (P : mx_P) : mx_R k_Law_law C 338 [o0, o1, o2, o3] st h P = (mx_R k_Law_law C 339 [o0, o1, o2, o3] (.int 0 :: st) h P) := mx_xf rfl rfl
set_option maxRecDepth 100000 in
theorem x_Law_law_339 (C : mx_C) (o0 : Option Value) (o1 : Option Value) (o2 : Option Value) (o3 : Option Value) (xi : Int32) (h : mx_H) (P : mx_P) : mx_R k_Law_law C 339 [o0, o1, o2, o3] [.int xi] h P = ((xi = 0 ∨ xi = 1) ∧ P (some (.int xi)) h) := mx_xr2 rfl
set_option maxRecDepth 100000 in
theorem x_Law_law_340 (C : mx_C) (o0 : Option Value) (o2 : Option Value) (o3 : Option Value) (ar : Nat) (st : mx_S) (h : mx_H) (P : mx_P) : mx_R k_Law_law C 340 [o0, some (.ref ar), o2, o3] st h P = (mx_R k_Law_law C 341 [o0, some (.ref ar), o2, o3] (.ref ar :: st) h P) := mx_xf rfl rfl
set_option maxRecDepth 100000 in
theorem x_Law_law_341 (C : mx_C) (o1 : Option Value) (o2 : Option Value) (o3 : Option Value) (ar : Nat) (st : mx_S) (h : mx_H) (P : mx_P) : mx_R k_Law_law C 341 [some (.ref ar), o1, o2, o3] st h P = (mx_R k_Law_law C 342 [some (.ref ar), o1, o2, o3] (.ref ar :: st) h P) := mx_xf rfl rfl
set_option maxRecDepth 100000 in
theorem x_Law_law_342 (C : mx_C) (o0 : Option Value) (o1 : Option Value) (o2 : Option Value) (xi : Int32) (st : mx_S) (h : mx_H) (P : mx_P) : mx_R k_Law_law C 342 [o0, o1, o2, some (.int xi)] st h P = (mx_R k_Law_law C 343 [o0, o1, o2, some (.int xi)] (.int xi :: st) h P) := mx_xf rfl rfl
set_option maxRecDepth 100000 in
theorem x_Law_law_343 (C : mx_C) (o0 : Option Value) (o1 : Option Value) (o2 : Option Value) (o3 : Option Value) (st : mx_S) (h : mx_H) (P : mx_P) : mx_R k_Law_law C 343 [o0, o1, o2, o3] st h P = (mx_R k_Law_law C 344 [o0, o1, o2, o3] (.int 1 :: st) h P) := mx_xf rfl rfl
set_option maxRecDepth 100000 in
theorem x_Law_law_344 (C : mx_C) (o0 : Option Value) (o1 : Option Value) (o2 : Option Value) (o3 : Option Value) (xi : Int32) (yi : Int32) (st : mx_S) (h : mx_H) (P : mx_P) : mx_R k_Law_law C 344 [o0, o1, o2, o3] (.int yi :: .int xi :: st) h P = (mx_R k_Law_law C 345 [o0, o1, o2, o3] (.int (xi + yi) :: st) h P) := mx_xf rfl rfl
set_option maxRecDepth 100000 in
theorem x_Law_law_345 (C : mx_C) (o0 : Option Value) (o1 : Option Value) (o2 : Option Value) (o3 : Option Value) (xi : Int32) (ar : Nat) (st : mx_S) (h : mx_H) (P : mx_P) : mx_R k_Law_law C 345 [o0, o1, o2, o3] (.int xi :: .ref ar :: st) h P = (mx_okr 103 ar h xi = true ∧ mx_R k_Law_law C 346 [o0, o1, o2, o3] (.int (h.1 ar xi.toNatClampNeg) :: st) h P) := mx_xg rfl rfl
set_option maxRecDepth 100000 in
theorem x_Law_law_346 (C : mx_C) (o1 : Option Value) (o2 : Option Value) (o3 : Option Value) (ar : Nat) (st : mx_S) (h : mx_H) (P : mx_P) : mx_R k_Law_law C 346 [some (.ref ar), o1, o2, o3] st h P = (mx_R k_Law_law C 347 [some (.ref ar), o1, o2, o3] (.ref ar :: st) h P) := mx_xf rfl rfl
set_option maxRecDepth 100000 in
theorem x_Law_law_347 (C : mx_C) (o0 : Option Value) (o1 : Option Value) (o2 : Option Value) (xi : Int32) (st : mx_S) (h : mx_H) (P : mx_P) : mx_R k_Law_law C 347 [o0, o1, o2, some (.int xi)] st h P = (mx_R k_Law_law C 348 [o0, o1, o2, some (.int xi)] (.int xi :: st) h P) := mx_xf rfl rfl
set_option maxRecDepth 100000 in
theorem x_Law_law_348 (C : mx_C) (o0 : Option Value) (o1 : Option Value) (o2 : Option Value) (o3 : Option Value) (st : mx_S) (h : mx_H) (P : mx_P) : mx_R k_Law_law C 348 [o0, o1, o2, o3] st h P = (mx_R k_Law_law C 349 [o0, o1, o2, o3] (.int 2 :: st) h P) := mx_xf rfl rfl
set_option maxRecDepth 100000 in
theorem x_Law_law_349 (C : mx_C) (o0 : Option Value) (o1 : Option Value) (o2 : Option Value) (o3 : Option Value) (xi : Int32) (yi : Int32) (st : mx_S) (h : mx_H) (P : mx_P) : mx_R k_Law_law C 349 [o0, o1, o2, o3] (.int yi :: .int xi :: st) h P = (mx_R k_Law_law C 350 [o0, o1, o2, o3] (.int (xi + yi) :: st) h P) := mx_xf rfl rfl
set_option maxRecDepth 100000 in
theorem x_Law_law_350 (C : mx_C) (o0 : Option Value) (o1 : Option Value) (o2 : Option Value) (o3 : Option Value) (xi : Int32) (ar : Nat) (st : mx_S) (h : mx_H) (P : mx_P) : mx_R k_Law_law C 350 [o0, o1, o2, o3] (.int xi :: .ref ar :: st) h P = (mx_okr 103 ar h xi = true ∧ mx_R k_Law_law C 351 [o0, o1, o2, o3] (.int (h.1 ar xi.toNatClampNeg) :: st) h P) := mx_xg rfl rfl
set_option maxRecDepth 100000 in
theorem x_Law_law_351 (C : mx_C) (o0 : Option Value) (o1 : Option Value) (o2 : Option Value) (o3 : Option Value) (va0 : Value) (va1 : Value) (va2 : Value) (h : mx_H) (P : mx_P) : mx_R k_Law_law C 351 [o0, o1, o2, o3] (va2 :: va1 :: va0 :: []) h P = (∃ v h1, C 99 [va0, va1, va2] h v h1 ∧ mx_R k_Law_law C 354 [o0, o1, o2, o3] (v.toList ++ []) h1 P) := mx_xc rfl (Nat.le_of_ble_eq_true rfl) (Or.inl (Nat.le_of_ble_eq_true rfl)) rfl rfl
set_option maxRecDepth 100000 in
theorem x_Law_law_354 (C : mx_C) (o0 : Option Value) (o1 : Option Value) (o3 : Option Value) (ar : Nat) (st : mx_S) (h : mx_H) (P : mx_P) : mx_R k_Law_law C 354 [o0, o1, some (.ref ar), o3] st h P = (mx_R k_Law_law C 355 [o0, o1, some (.ref ar), o3] (.ref ar :: st) h P) := mx_xf rfl rfl
set_option maxRecDepth 100000 in
theorem x_Law_law_355 (C : mx_C) (o1 : Option Value) (o2 : Option Value) (o3 : Option Value) (ar : Nat) (st : mx_S) (h : mx_H) (P : mx_P) : mx_R k_Law_law C 355 [some (.ref ar), o1, o2, o3] st h P = (mx_R k_Law_law C 356 [some (.ref ar), o1, o2, o3] (.ref ar :: st) h P) := mx_xf rfl rfl
set_option maxRecDepth 100000 in
theorem x_Law_law_356 (C : mx_C) (o0 : Option Value) (o1 : Option Value) (o2 : Option Value) (xi : Int32) (st : mx_S) (h : mx_H) (P : mx_P) : mx_R k_Law_law C 356 [o0, o1, o2, some (.int xi)] st h P = (mx_R k_Law_law C 357 [o0, o1, o2, some (.int xi)] (.int xi :: st) h P) := mx_xf rfl rfl
set_option maxRecDepth 100000 in
theorem x_Law_law_357 (C : mx_C) (o0 : Option Value) (o1 : Option Value) (o2 : Option Value) (o3 : Option Value) (st : mx_S) (h : mx_H) (P : mx_P) : mx_R k_Law_law C 357 [o0, o1, o2, o3] st h P = (mx_R k_Law_law C 358 [o0, o1, o2, o3] (.int 1 :: st) h P) := mx_xf rfl rfl
set_option maxRecDepth 100000 in
theorem x_Law_law_358 (C : mx_C) (o0 : Option Value) (o1 : Option Value) (o2 : Option Value) (o3 : Option Value) (xi : Int32) (yi : Int32) (st : mx_S) (h : mx_H) (P : mx_P) : mx_R k_Law_law C 358 [o0, o1, o2, o3] (.int yi :: .int xi :: st) h P = (mx_R k_Law_law C 359 [o0, o1, o2, o3] (.int (xi + yi) :: st) h P) := mx_xf rfl rfl
set_option maxRecDepth 100000 in
theorem x_Law_law_359 (C : mx_C) (o0 : Option Value) (o1 : Option Value) (o2 : Option Value) (o3 : Option Value) (xi : Int32) (ar : Nat) (st : mx_S) (h : mx_H) (P : mx_P) : mx_R k_Law_law C 359 [o0, o1, o2, o3] (.int xi :: .ref ar :: st) h P = (mx_okr 103 ar h xi = true ∧ mx_R k_Law_law C 360 [o0, o1, o2, o3] (.int (h.1 ar xi.toNatClampNeg) :: st) h P) := mx_xg rfl rfl
set_option maxRecDepth 100000 in
theorem x_Law_law_360 (C : mx_C) (o1 : Option Value) (o2 : Option Value) (o3 : Option Value) (ar : Nat) (st : mx_S) (h : mx_H) (P : mx_P) : mx_R k_Law_law C 360 [some (.ref ar), o1, o2, o3] st h P = (mx_R k_Law_law C 361 [some (.ref ar), o1, o2, o3] (.ref ar :: st) h P) := mx_xf rfl rfl
set_option maxRecDepth 100000 in
theorem x_Law_law_361 (C : mx_C) (o0 : Option Value) (o1 : Option Value) (o2 : Option Value) (xi : Int32) (st : mx_S) (h : mx_H) (P : mx_P) : mx_R k_Law_law C 361 [o0, o1, o2, some (.int xi)] st h P = (mx_R k_Law_law C 362 [o0, o1, o2, some (.int xi)] (.int xi :: st) h P) := mx_xf rfl rfl
set_option maxRecDepth 100000 in
theorem x_Law_law_362 (C : mx_C) (o0 : Option Value) (o1 : Option Value) (o2 : Option Value) (o3 : Option Value) (st : mx_S) (h : mx_H) (P : mx_P) : mx_R k_Law_law C 362 [o0, o1, o2, o3] st h P = (mx_R k_Law_law C 363 [o0, o1, o2, o3] (.int 2 :: st) h P) := mx_xf rfl rfl
set_option maxRecDepth 100000 in
theorem x_Law_law_363 (C : mx_C) (o0 : Option Value) (o1 : Option Value) (o2 : Option Value) (o3 : Option Value) (xi : Int32) (yi : Int32) (st : mx_S) (h : mx_H) (P : mx_P) : mx_R k_Law_law C 363 [o0, o1, o2, o3] (.int yi :: .int xi :: st) h P = (mx_R k_Law_law C 364 [o0, o1, o2, o3] (.int (xi + yi) :: st) h P) := mx_xf rfl rfl
set_option maxRecDepth 100000 in
theorem x_Law_law_364 (C : mx_C) (o0 : Option Value) (o1 : Option Value) (o2 : Option Value) (o3 : Option Value) (xi : Int32) (ar : Nat) (st : mx_S) (h : mx_H) (P : mx_P) : mx_R k_Law_law C 364 [o0, o1, o2, o3] (.int xi :: .ref ar :: st) h P = (mx_okr 103 ar h xi = true ∧ mx_R k_Law_law C 365 [o0, o1, o2, o3] (.int (h.1 ar xi.toNatClampNeg) :: st) h P) := mx_xg rfl rfl
set_option maxRecDepth 100000 in
theorem x_Law_law_365 (C : mx_C) (o0 : Option Value) (o1 : Option Value) (o2 : Option Value) (o3 : Option Value) (va0 : Value) (va1 : Value) (va2 : Value) (vs0 : Value) (h : mx_H) (P : mx_P) : mx_R k_Law_law C 365 [o0, o1, o2, o3] (va2 :: va1 :: va0 :: [vs0]) h P = (∃ v h1, C 184 [va0, va1, va2] h v h1 ∧ mx_R k_Law_law C 368 [o0, o1, o2, o3] (v.toList ++ [vs0]) h1 P) := mx_xc rfl (Nat.le_of_ble_eq_true rfl) (Or.inl (Nat.le_of_ble_eq_true rfl)) rfl rfl
set_option maxRecDepth 100000 in
theorem x_Law_law_368 (C : mx_C) (o0 : Option Value) (o1 : Option Value) (o2 : Option Value) (o3 : Option Value) (xi : Int32) (yi : Int32) (st : mx_S) (h : mx_H) (P : mx_P) : mx_R k_Law_law C 368 [o0, o1, o2, o3] (.int yi :: .int xi :: st) h P = (if xi = yi then mx_R k_Law_law C 1309 [o0, o1, o2, o3] st h P else mx_R k_Law_law C 371 [o0, o1, o2, o3] st h P) := mx_xb rfl rfl
set_option maxRecDepth 100000 in
theorem x_Law_law_371 (C : mx_C) (o0 : Option Value) (o1 : Option Value) (o2 : Option Value) (o3 : Option Value) (st : mx_S) (h : mx_H) (P : mx_P) : mx_R k_Law_law C 371 [o0, o1, o2, o3] st h P = (mx_R k_Law_law C 372 [o0, o1, o2, o3] (.int 0 :: st) h P) := mx_xf rfl rfl
set_option maxRecDepth 100000 in
theorem x_Law_law_372 (C : mx_C) (o0 : Option Value) (o1 : Option Value) (o2 : Option Value) (o3 : Option Value) (xi : Int32) (h : mx_H) (P : mx_P) : mx_R k_Law_law C 372 [o0, o1, o2, o3] [.int xi] h P = ((xi = 0 ∨ xi = 1) ∧ P (some (.int xi)) h) := mx_xr2 rfl
set_option maxRecDepth 100000 in
theorem x_Law_law_373 (C : mx_C) (o0 : Option Value) (o2 : Option Value) (o3 : Option Value) (ar : Nat) (st : mx_S) (h : mx_H) (P : mx_P) : mx_R k_Law_law C 373 [o0, some (.ref ar), o2, o3] st h P = (mx_R k_Law_law C 374 [o0, some (.ref ar), o2, o3] (.ref ar :: st) h P) := mx_xf rfl rfl
set_option maxRecDepth 100000 in
theorem x_Law_law_374 (C : mx_C) (o1 : Option Value) (o2 : Option Value) (o3 : Option Value) (ar : Nat) (st : mx_S) (h : mx_H) (P : mx_P) : mx_R k_Law_law C 374 [some (.ref ar), o1, o2, o3] st h P = (mx_R k_Law_law C 375 [some (.ref ar), o1, o2, o3] (.ref ar :: st) h P) := mx_xf rfl rfl
set_option maxRecDepth 100000 in
theorem x_Law_law_375 (C : mx_C) (o0 : Option Value) (o1 : Option Value) (o2 : Option Value) (xi : Int32) (st : mx_S) (h : mx_H) (P : mx_P) : mx_R k_Law_law C 375 [o0, o1, o2, some (.int xi)] st h P = (mx_R k_Law_law C 376 [o0, o1, o2, some (.int xi)] (.int xi :: st) h P) := mx_xf rfl rfl
set_option maxRecDepth 100000 in
theorem x_Law_law_376 (C : mx_C) (o0 : Option Value) (o1 : Option Value) (o2 : Option Value) (o3 : Option Value) (st : mx_S) (h : mx_H) (P : mx_P) : mx_R k_Law_law C 376 [o0, o1, o2, o3] st h P = (mx_R k_Law_law C 377 [o0, o1, o2, o3] (.int 1 :: st) h P) := mx_xf rfl rfl
set_option maxRecDepth 100000 in
theorem x_Law_law_377 (C : mx_C) (o0 : Option Value) (o1 : Option Value) (o2 : Option Value) (o3 : Option Value) (xi : Int32) (yi : Int32) (st : mx_S) (h : mx_H) (P : mx_P) : mx_R k_Law_law C 377 [o0, o1, o2, o3] (.int yi :: .int xi :: st) h P = (mx_R k_Law_law C 378 [o0, o1, o2, o3] (.int (xi + yi) :: st) h P) := mx_xf rfl rfl
set_option maxRecDepth 100000 in
theorem x_Law_law_378 (C : mx_C) (o0 : Option Value) (o1 : Option Value) (o2 : Option Value) (o3 : Option Value) (xi : Int32) (ar : Nat) (st : mx_S) (h : mx_H) (P : mx_P) : mx_R k_Law_law C 378 [o0, o1, o2, o3] (.int xi :: .ref ar :: st) h P = (mx_okr 103 ar h xi = true ∧ mx_R k_Law_law C 379 [o0, o1, o2, o3] (.int (h.1 ar xi.toNatClampNeg) :: st) h P) := mx_xg rfl rfl
set_option maxRecDepth 100000 in
theorem x_Law_law_379 (C : mx_C) (o1 : Option Value) (o2 : Option Value) (o3 : Option Value) (ar : Nat) (st : mx_S) (h : mx_H) (P : mx_P) : mx_R k_Law_law C 379 [some (.ref ar), o1, o2, o3] st h P = (mx_R k_Law_law C 380 [some (.ref ar), o1, o2, o3] (.ref ar :: st) h P) := mx_xf rfl rfl
set_option maxRecDepth 100000 in
theorem x_Law_law_380 (C : mx_C) (o0 : Option Value) (o1 : Option Value) (o2 : Option Value) (xi : Int32) (st : mx_S) (h : mx_H) (P : mx_P) : mx_R k_Law_law C 380 [o0, o1, o2, some (.int xi)] st h P = (mx_R k_Law_law C 381 [o0, o1, o2, some (.int xi)] (.int xi :: st) h P) := mx_xf rfl rfl
set_option maxRecDepth 100000 in
theorem x_Law_law_381 (C : mx_C) (o0 : Option Value) (o1 : Option Value) (o2 : Option Value) (o3 : Option Value) (st : mx_S) (h : mx_H) (P : mx_P) : mx_R k_Law_law C 381 [o0, o1, o2, o3] st h P = (mx_R k_Law_law C 382 [o0, o1, o2, o3] (.int 2 :: st) h P) := mx_xf rfl rfl
set_option maxRecDepth 100000 in
theorem x_Law_law_382 (C : mx_C) (o0 : Option Value) (o1 : Option Value) (o2 : Option Value) (o3 : Option Value) (xi : Int32) (yi : Int32) (st : mx_S) (h : mx_H) (P : mx_P) : mx_R k_Law_law C 382 [o0, o1, o2, o3] (.int yi :: .int xi :: st) h P = (mx_R k_Law_law C 383 [o0, o1, o2, o3] (.int (xi + yi) :: st) h P) := mx_xf rfl rfl
set_option maxRecDepth 100000 in
theorem x_Law_law_383 (C : mx_C) (o0 : Option Value) (o1 : Option Value) (o2 : Option Value) (o3 : Option Value) (xi : Int32) (ar : Nat) (st : mx_S) (h : mx_H) (P : mx_P) : mx_R k_Law_law C 383 [o0, o1, o2, o3] (.int xi :: .ref ar :: st) h P = (mx_okr 103 ar h xi = true ∧ mx_R k_Law_law C 384 [o0, o1, o2, o3] (.int (h.1 ar xi.toNatClampNeg) :: st) h P) := mx_xg rfl rfl
set_option maxRecDepth 100000 in
theorem x_Law_law_384 (C : mx_C) (o0 : Option Value) (o1 : Option Value) (o2 : Option Value) (o3 : Option Value) (va0 : Value) (va1 : Value) (va2 : Value) (h : mx_H) (P : mx_P) : mx_R k_Law_law C 384 [o0, o1, o2, o3] (va2 :: va1 :: va0 :: []) h P = (∃ v h1, C 100 [va0, va1, va2] h v h1 ∧ mx_R k_Law_law C 387 [o0, o1, o2, o3] (v.toList ++ []) h1 P) := mx_xc rfl (Nat.le_of_ble_eq_true rfl) (Or.inl (Nat.le_of_ble_eq_true rfl)) rfl rfl
set_option maxRecDepth 100000 in
theorem x_Law_law_387 (C : mx_C) (o0 : Option Value) (o1 : Option Value) (o3 : Option Value) (ar : Nat) (st : mx_S) (h : mx_H) (P : mx_P) : mx_R k_Law_law C 387 [o0, o1, some (.ref ar), o3] st h P = (mx_R k_Law_law C 388 [o0, o1, some (.ref ar), o3] (.ref ar :: st) h P) := mx_xf rfl rfl
set_option maxRecDepth 100000 in
theorem x_Law_law_388 (C : mx_C) (o1 : Option Value) (o2 : Option Value) (o3 : Option Value) (ar : Nat) (st : mx_S) (h : mx_H) (P : mx_P) : mx_R k_Law_law C 388 [some (.ref ar), o1, o2, o3] st h P = (mx_R k_Law_law C 389 [some (.ref ar), o1, o2, o3] (.ref ar :: st) h P) := mx_xf rfl rfl
set_option maxRecDepth 100000 in
theorem x_Law_law_389 (C : mx_C) (o0 : Option Value) (o1 : Option Value) (o2 : Option Value) (xi : Int32) (st : mx_S) (h : mx_H) (P : mx_P) : mx_R k_Law_law C 389 [o0, o1, o2, some (.int xi)] st h P = (mx_R k_Law_law C 390 [o0, o1, o2, some (.int xi)] (.int xi :: st) h P) := mx_xf rfl rfl
set_option maxRecDepth 100000 in
theorem x_Law_law_390 (C : mx_C) (o0 : Option Value) (o1 : Option Value) (o2 : Option Value) (o3 : Option Value) (st : mx_S) (h : mx_H) (P : mx_P) : mx_R k_Law_law C 390 [o0, o1, o2, o3] st h P = (mx_R k_Law_law C 391 [o0, o1, o2, o3] (.int 1 :: st) h P) := mx_xf rfl rfl
set_option maxRecDepth 100000 in
theorem x_Law_law_391 (C : mx_C) (o0 : Option Value) (o1 : Option Value) (o2 : Option Value) (o3 : Option Value) (xi : Int32) (yi : Int32) (st : mx_S) (h : mx_H) (P : mx_P) : mx_R k_Law_law C 391 [o0, o1, o2, o3] (.int yi :: .int xi :: st) h P = (mx_R k_Law_law C 392 [o0, o1, o2, o3] (.int (xi + yi) :: st) h P) := mx_xf rfl rfl
set_option maxRecDepth 100000 in
theorem x_Law_law_392 (C : mx_C) (o0 : Option Value) (o1 : Option Value) (o2 : Option Value) (o3 : Option Value) (xi : Int32) (ar : Nat) (st : mx_S) (h : mx_H) (P : mx_P) : mx_R k_Law_law C 392 [o0, o1, o2, o3] (.int xi :: .ref ar :: st) h P = (mx_okr 103 ar h xi = true ∧ mx_R k_Law_law C 393 [o0, o1, o2, o3] (.int (h.1 ar xi.toNatClampNeg) :: st) h P) := mx_xg rfl rfl
set_option maxRecDepth 100000 in
theorem x_Law_law_393 (C : mx_C) (o1 : Option Value) (o2 : Option Value) (o3 : Option Value) (ar : Nat) (st : mx_S) (h : mx_H) (P : mx_P) : mx_R k_Law_law C 393 [some (.ref ar), o1, o2, o3] st h P = (mx_R k_Law_law C 394 [some (.ref ar), o1, o2, o3] (.ref ar :: st) h P) := mx_xf rfl rfl
set_option maxRecDepth 100000 in
theorem x_Law_law_394 (C : mx_C) (o0 : Option Value) (o1 : Option Value) (o2 : Option Value) (xi : Int32) (st : mx_S) (h : mx_H) (P : mx_P) : mx_R k_Law_law C 394 [o0, o1, o2, some (.int xi)] st h P = (mx_R k_Law_law C 395 [o0, o1, o2, some (.int xi)] (.int xi :: st) h P) := mx_xf rfl rfl
set_option maxRecDepth 100000 in
theorem x_Law_law_395 (C : mx_C) (o0 : Option Value) (o1 : Option Value) (o2 : Option Value) (o3 : Option Value) (st : mx_S) (h : mx_H) (P : mx_P) : mx_R k_Law_law C 395 [o0, o1, o2, o3] st h P = (mx_R k_Law_law C 396 [o0, o1, o2, o3] (.int 2 :: st) h P) := mx_xf rfl rfl
set_option maxRecDepth 100000 in
theorem x_Law_law_396 (C : mx_C) (o0 : Option Value) (o1 : Option Value) (o2 : Option Value) (o3 : Option Value) (xi : Int32) (yi : Int32) (st : mx_S) (h : mx_H) (P : mx_P) : mx_R k_Law_law C 396 [o0, o1, o2, o3] (.int yi :: .int xi :: st) h P = (mx_R k_Law_law C 397 [o0, o1, o2, o3] (.int (xi + yi) :: st) h P) := mx_xf rfl rfl
set_option maxRecDepth 100000 in
theorem x_Law_law_397 (C : mx_C) (o0 : Option Value) (o1 : Option Value) (o2 : Option Value) (o3 : Option Value) (xi : Int32) (ar : Nat) (st : mx_S) (h : mx_H) (P : mx_P) : mx_R k_Law_law C 397 [o0, o1, o2, o3] (.int xi :: .ref ar :: st) h P = (mx_okr 103 ar h xi = true ∧ mx_R k_Law_law C 398 [o0, o1, o2, o3] (.int (h.1 ar xi.toNatClampNeg) :: st) h P) := mx_xg rfl rfl
set_option maxRecDepth 100000 in
theorem x_Law_law_398 (C : mx_C) (o0 : Option Value) (o1 : Option Value) (o2 : Option Value) (o3 : Option Value) (va0 : Value) (va1 : Value) (va2 : Value) (vs0 : Value) (h : mx_H) (P : mx_P) : mx_R k_Law_law C 398 [o0, o1, o2, o3] (va2 :: va1 :: va0 :: [vs0]) h P = (∃ v h1, C 185 [va0, va1, va2] h v h1 ∧ mx_R k_Law_law C 401 [o0, o1, o2, o3] (v.toList ++ [vs0]) h1 P) := mx_xc rfl (Nat.le_of_ble_eq_true rfl) (Or.inl (Nat.le_of_ble_eq_true rfl)) rfl rfl
set_option maxRecDepth 100000 in
theorem x_Law_law_401 (C : mx_C) (o0 : Option Value) (o1 : Option Value) (o2 : Option Value) (o3 : Option Value) (xi : Int32) (yi : Int32) (st : mx_S) (h : mx_H) (P : mx_P) : mx_R k_Law_law C 401 [o0, o1, o2, o3] (.int yi :: .int xi :: st) h P = (if xi = yi then mx_R k_Law_law C 1309 [o0, o1, o2, o3] st h P else mx_R k_Law_law C 404 [o0, o1, o2, o3] st h P) := mx_xb rfl rfl
set_option maxRecDepth 100000 in
theorem x_Law_law_404 (C : mx_C) (o0 : Option Value) (o1 : Option Value) (o2 : Option Value) (o3 : Option Value) (st : mx_S) (h : mx_H) (P : mx_P) : mx_R k_Law_law C 404 [o0, o1, o2, o3] st h P = (mx_R k_Law_law C 405 [o0, o1, o2, o3] (.int 0 :: st) h P) := mx_xf rfl rfl
set_option maxRecDepth 100000 in
theorem x_Law_law_405 (C : mx_C) (o0 : Option Value) (o1 : Option Value) (o2 : Option Value) (o3 : Option Value) (xi : Int32) (h : mx_H) (P : mx_P) : mx_R k_Law_law C 405 [o0, o1, o2, o3] [.int xi] h P = ((xi = 0 ∨ xi = 1) ∧ P (some (.int xi)) h) := mx_xr2 rfl
set_option maxRecDepth 100000 in
theorem x_Law_law_406 (C : mx_C) (o0 : Option Value) (o2 : Option Value) (o3 : Option Value) (ar : Nat) (st : mx_S) (h : mx_H) (P : mx_P) : mx_R k_Law_law C 406 [o0, some (.ref ar), o2, o3] st h P = (mx_R k_Law_law C 407 [o0, some (.ref ar), o2, o3] (.ref ar :: st) h P) := mx_xf rfl rfl
set_option maxRecDepth 100000 in
theorem x_Law_law_407 (C : mx_C) (o1 : Option Value) (o2 : Option Value) (o3 : Option Value) (ar : Nat) (st : mx_S) (h : mx_H) (P : mx_P) : mx_R k_Law_law C 407 [some (.ref ar), o1, o2, o3] st h P = (mx_R k_Law_law C 408 [some (.ref ar), o1, o2, o3] (.ref ar :: st) h P) := mx_xf rfl rfl
set_option maxRecDepth 100000 in
theorem x_Law_law_408 (C : mx_C) (o0 : Option Value) (o1 : Option Value) (o2 : Option Value) (xi : Int32) (st : mx_S) (h : mx_H) (P : mx_P) : mx_R k_Law_law C 408 [o0, o1, o2, some (.int xi)] st h P = (mx_R k_Law_law C 409 [o0, o1, o2, some (.int xi)] (.int xi :: st) h P) := mx_xf rfl rfl
set_option maxRecDepth 100000 in
theorem x_Law_law_409 (C : mx_C) (o0 : Option Value) (o1 : Option Value) (o2 : Option Value) (o3 : Option Value) (st : mx_S) (h : mx_H) (P : mx_P) : mx_R k_Law_law C 409 [o0, o1, o2, o3] st h P = (mx_R k_Law_law C 410 [o0, o1, o2, o3] (.int 1 :: st) h P) := mx_xf rfl rfl
set_option maxRecDepth 100000 in
theorem x_Law_law_410 (C : mx_C) (o0 : Option Value) (o1 : Option Value) (o2 : Option Value) (o3 : Option Value) (xi : Int32) (yi : Int32) (st : mx_S) (h : mx_H) (P : mx_P) : mx_R k_Law_law C 410 [o0, o1, o2, o3] (.int yi :: .int xi :: st) h P = (mx_R k_Law_law C 411 [o0, o1, o2, o3] (.int (xi + yi) :: st) h P) := mx_xf rfl rfl
set_option maxRecDepth 100000 in
theorem x_Law_law_411 (C : mx_C) (o0 : Option Value) (o1 : Option Value) (o2 : Option Value) (o3 : Option Value) (xi : Int32) (ar : Nat) (st : mx_S) (h : mx_H) (P : mx_P) : mx_R k_Law_law C 411 [o0, o1, o2, o3] (.int xi :: .ref ar :: st) h P = (mx_okr 103 ar h xi = true ∧ mx_R k_Law_law C 412 [o0, o1, o2, o3] (.int (h.1 ar xi.toNatClampNeg) :: st) h P) := mx_xg rfl rfl
set_option maxRecDepth 100000 in
theorem x_Law_law_412 (C : mx_C) (o1 : Option Value) (o2 : Option Value) (o3 : Option Value) (ar : Nat) (st : mx_S) (h : mx_H) (P : mx_P) : mx_R k_Law_law C 412 [some (.ref ar), o1, o2, o3] st h P = (mx_R k_Law_law C 413 [some (.ref ar), o1, o2, o3] (.ref ar :: st) h P) := mx_xf rfl rfl
set_option maxRecDepth 100000 in
theorem x_Law_law_413 (C : mx_C) (o0 : Option Value) (o1 : Option Value) (o2 : Option Value) (xi : Int32) (st : mx_S) (h : mx_H) (P : mx_P) : mx_R k_Law_law C 413 [o0, o1, o2, some (.int xi)] st h P = (mx_R k_Law_law C 414 [o0, o1, o2, some (.int xi)] (.int xi :: st) h P) := mx_xf rfl rfl
set_option maxRecDepth 100000 in
theorem x_Law_law_414 (C : mx_C) (o0 : Option Value) (o1 : Option Value) (o2 : Option Value) (o3 : Option Value) (st : mx_S) (h : mx_H) (P : mx_P) : mx_R k_Law_law C 414 [o0, o1, o2, o3] st h P = (mx_R k_Law_law C 415 [o0, o1, o2, o3] (.int 2 :: st) h P) := mx_xf rfl rfl
set_option maxRecDepth 100000 in
theorem x_Law_law_415 (C : mx_C) (o0 : Option Value) (o1 : Option Value) (o2 : Option Value) (o3 : Option Value) (xi : Int32) (yi : Int32) (st : mx_S) (h : mx_H) (P : mx_P) : mx_R k_Law_law C 415 [o0, o1, o2, o3] (.int yi :: .int xi :: st) h P = (mx_R k_Law_law C 416 [o0, o1, o2, o3] (.int (xi + yi) :: st) h P) := mx_xf rfl rfl
set_option maxRecDepth 100000 in
theorem x_Law_law_416 (C : mx_C) (o0 : Option Value) (o1 : Option Value) (o2 : Option Value) (o3 : Option Value) (xi : Int32) (ar : Nat) (st : mx_S) (h : mx_H) (P : mx_P) : mx_R k_Law_law C 416 [o0, o1, o2, o3] (.int xi :: .ref ar :: st) h P = (mx_okr 103 ar h xi = true ∧ mx_R k_Law_law C 417 [o0, o1, o2, o3] (.int (h.1 ar xi.toNatClampNeg) :: st) h P) := mx_xg rfl rfl
set_option maxRecDepth 100000 in
theorem x_Law_law_417 (C : mx_C) (o0 : Option Value) (o1 : Option Value) (o2 : Option Value) (o3 : Option Value) (va0 : Value) (va1 : Value) (va2 : Value) (h : mx_H) (P : mx_P) : mx_R k_Law_law C 417 [o0, o1, o2, o3] (va2 :: va1 :: va0 :: []) h P = (∃ v h1, C 101 [va0, va1, va2] h v h1 ∧ mx_R k_Law_law C 420 [o0, o1, o2, o3] (v.toList ++ []) h1 P) := mx_xc rfl (Nat.le_of_ble_eq_true rfl) (Or.inl (Nat.le_of_ble_eq_true rfl)) rfl rfl
set_option maxRecDepth 100000 in
theorem x_Law_law_420 (C : mx_C) (o0 : Option Value) (o1 : Option Value) (o3 : Option Value) (ar : Nat) (st : mx_S) (h : mx_H) (P : mx_P) : mx_R k_Law_law C 420 [o0, o1, some (.ref ar), o3] st h P = (mx_R k_Law_law C 421 [o0, o1, some (.ref ar), o3] (.ref ar :: st) h P) := mx_xf rfl rfl
set_option maxRecDepth 100000 in
theorem x_Law_law_421 (C : mx_C) (o1 : Option Value) (o2 : Option Value) (o3 : Option Value) (ar : Nat) (st : mx_S) (h : mx_H) (P : mx_P) : mx_R k_Law_law C 421 [some (.ref ar), o1, o2, o3] st h P = (mx_R k_Law_law C 422 [some (.ref ar), o1, o2, o3] (.ref ar :: st) h P) := mx_xf rfl rfl
set_option maxRecDepth 100000 in
theorem x_Law_law_422 (C : mx_C) (o0 : Option Value) (o1 : Option Value) (o2 : Option Value) (xi : Int32) (st : mx_S) (h : mx_H) (P : mx_P) : mx_R k_Law_law C 422 [o0, o1, o2, some (.int xi)] st h P = (mx_R k_Law_law C 423 [o0, o1, o2, some (.int xi)] (.int xi :: st) h P) := mx_xf rfl rfl
set_option maxRecDepth 100000 in
theorem x_Law_law_423 (C : mx_C) (o0 : Option Value) (o1 : Option Value) (o2 : Option Value) (o3 : Option Value) (st : mx_S) (h : mx_H) (P : mx_P) : mx_R k_Law_law C 423 [o0, o1, o2, o3] st h P = (mx_R k_Law_law C 424 [o0, o1, o2, o3] (.int 1 :: st) h P) := mx_xf rfl rfl
set_option maxRecDepth 100000 in
theorem x_Law_law_424 (C : mx_C) (o0 : Option Value) (o1 : Option Value) (o2 : Option Value) (o3 : Option Value) (xi : Int32) (yi : Int32) (st : mx_S) (h : mx_H) (P : mx_P) : mx_R k_Law_law C 424 [o0, o1, o2, o3] (.int yi :: .int xi :: st) h P = (mx_R k_Law_law C 425 [o0, o1, o2, o3] (.int (xi + yi) :: st) h P) := mx_xf rfl rfl
set_option maxRecDepth 100000 in
theorem x_Law_law_425 (C : mx_C) (o0 : Option Value) (o1 : Option Value) (o2 : Option Value) (o3 : Option Value) (xi : Int32) (ar : Nat) (st : mx_S) (h : mx_H) (P : mx_P) : mx_R k_Law_law C 425 [o0, o1, o2, o3] (.int xi :: .ref ar :: st) h P = (mx_okr 103 ar h xi = true ∧ mx_R k_Law_law C 426 [o0, o1, o2, o3] (.int (h.1 ar xi.toNatClampNeg) :: st) h P) := mx_xg rfl rfl
set_option maxRecDepth 100000 in
theorem x_Law_law_426 (C : mx_C) (o1 : Option Value) (o2 : Option Value) (o3 : Option Value) (ar : Nat) (st : mx_S) (h : mx_H) (P : mx_P) : mx_R k_Law_law C 426 [some (.ref ar), o1, o2, o3] st h P = (mx_R k_Law_law C 427 [some (.ref ar), o1, o2, o3] (.ref ar :: st) h P) := mx_xf rfl rfl
set_option maxRecDepth 100000 in
theorem x_Law_law_427 (C : mx_C) (o0 : Option Value) (o1 : Option Value) (o2 : Option Value) (xi : Int32) (st : mx_S) (h : mx_H) (P : mx_P) : mx_R k_Law_law C 427 [o0, o1, o2, some (.int xi)] st h P = (mx_R k_Law_law C 428 [o0, o1, o2, some (.int xi)] (.int xi :: st) h P) := mx_xf rfl rfl
set_option maxRecDepth 100000 in
theorem x_Law_law_428 (C : mx_C) (o0 : Option Value) (o1 : Option Value) (o2 : Option Value) (o3 : Option Value) (st : mx_S) (h : mx_H) (P : mx_P) : mx_R k_Law_law C 428 [o0, o1, o2, o3] st h P = (mx_R k_Law_law C 429 [o0, o1, o2, o3] (.int 2 :: st) h P) := mx_xf rfl rfl
set_option maxRecDepth 100000 in
theorem x_Law_law_429 (C : mx_C) (o0 : Option Value) (o1 : Option Value) (o2 : Option Value) (o3 : Option Value) (xi : Int32) (yi : Int32) (st : mx_S) (h : mx_H) (P : mx_P) : mx_R k_Law_law C 429 [o0, o1, o2, o3] (.int yi :: .int xi :: st) h P = (mx_R k_Law_law C 430 [o0, o1, o2, o3] (.int (xi + yi) :: st) h P) := mx_xf rfl rfl
set_option maxRecDepth 100000 in
theorem x_Law_law_430 (C : mx_C) (o0 : Option Value) (o1 : Option Value) (o2 : Option Value) (o3 : Option Value) (xi : Int32) (ar : Nat) (st : mx_S) (h : mx_H) (P : mx_P) : mx_R k_Law_law C 430 [o0, o1, o2, o3] (.int xi :: .ref ar :: st) h P = (mx_okr 103 ar h xi = true ∧ mx_R k_Law_law C 431 [o0, o1, o2, o3] (.int (h.1 ar xi.toNatClampNeg) :: st) h P) := mx_xg rfl rfl
set_option maxRecDepth 100000 in
theorem x_Law_law_431 (C : mx_C) (o0 : Option Value) (o1 : Option Value) (o2 : Option Value) (o3 : Option Value) (va0 : Value) (va1 : Value) (va2 : Value) (vs0 : Value) (h : mx_H) (P : mx_P) : mx_R k_Law_law C 431 [o0, o1, o2, o3] (va2 :: va1 :: va0 :: [vs0]) h P = (∃ v h1, C 186 [va0, va1, va2] h v h1 ∧ mx_R k_Law_law C 434 [o0, o1, o2, o3] (v.toList ++ [vs0]) h1 P) := mx_xc rfl (Nat.le_of_ble_eq_true rfl) (Or.inl (Nat.le_of_ble_eq_true rfl)) rfl rfl
set_option maxRecDepth 100000 in
theorem x_Law_law_434 (C : mx_C) (o0 : Option Value) (o1 : Option Value) (o2 : Option Value) (o3 : Option Value) (xi : Int32) (yi : Int32) (st : mx_S) (h : mx_H) (P : mx_P) : mx_R k_Law_law C 434 [o0, o1, o2, o3] (.int yi :: .int xi :: st) h P = (if xi = yi then mx_R k_Law_law C 1309 [o0, o1, o2, o3] st h P else mx_R k_Law_law C 437 [o0, o1, o2, o3] st h P) := mx_xb rfl rfl
set_option maxRecDepth 100000 in
theorem x_Law_law_437 (C : mx_C) (o0 : Option Value) (o1 : Option Value) (o2 : Option Value) (o3 : Option Value) (st : mx_S) (h : mx_H) (P : mx_P) : mx_R k_Law_law C 437 [o0, o1, o2, o3] st h P = (mx_R k_Law_law C 438 [o0, o1, o2, o3] (.int 0 :: st) h P) := mx_xf rfl rfl
set_option maxRecDepth 100000 in
theorem x_Law_law_438 (C : mx_C) (o0 : Option Value) (o1 : Option Value) (o2 : Option Value) (o3 : Option Value) (xi : Int32) (h : mx_H) (P : mx_P) : mx_R k_Law_law C 438 [o0, o1, o2, o3] [.int xi] h P = ((xi = 0 ∨ xi = 1) ∧ P (some (.int xi)) h) := mx_xr2 rfl
set_option maxRecDepth 100000 in
theorem x_Law_law_439 (C : mx_C) (o0 : Option Value) (o2 : Option Value) (o3 : Option Value) (ar : Nat) (st : mx_S) (h : mx_H) (P : mx_P) : mx_R k_Law_law C 439 [o0, some (.ref ar), o2, o3] st h P = (mx_R k_Law_law C 440 [o0, some (.ref ar), o2, o3] (.ref ar :: st) h P) := mx_xf rfl rfl
set_option maxRecDepth 100000 in
theorem x_Law_law_440 (C : mx_C) (o1 : Option Value) (o2 : Option Value) (o3 : Option Value) (ar : Nat) (st : mx_S) (h : mx_H) (P : mx_P) : mx_R k_Law_law C 440 [some (.ref ar), o1, o2, o3] st h P = (mx_R k_Law_law C 441 [some (.ref ar), o1, o2, o3] (.ref ar :: st) h P) := mx_xf rfl rfl
set_option maxRecDepth 100000 in
theorem x_Law_law_441 (C : mx_C) (o0 : Option Value) (o1 : Option Value) (o2 : Option Value) (xi : Int32) (st : mx_S) (h : mx_H) (P : mx_P) : mx_R k_Law_law C 441 [o0, o1, o2, some (.int xi)] st h P = (mx_R k_Law_law C 442 [o0, o1, o2, some (.int xi)] (.int xi :: st) h P) := mx_xf rfl rfl
set_option maxRecDepth 100000 in
theorem x_Law_law_442 (C : mx_C) (o0 : Option Value) (o1 : Option Value) (o2 : Option Value) (o3 : Option Value) (st : mx_S) (h : mx_H) (P : mx_P) : mx_R k_Law_law C 442 [o0, o1, o2, o3] st h P = (mx_R k_Law_law C 443 [o0, o1, o2, o3] (.int 1 :: st) h P) := mx_xf rfl rfl
set_option maxRecDepth 100000 in
theorem x_Law_law_443 (C : mx_C) (o0 : Option Value) (o1 : Option Value) (o2 : Option Value) (o3 : Option Value) (xi : Int32) (yi : Int32) (st : mx_S) (h : mx_H) (P : mx_P) : mx_R k_Law_law C 443 [o0, o1, o2, o3] (.int yi :: .int xi :: st) h P = (mx_R k_Law_law C 444 [o0, o1, o2, o3] (.int (xi + yi) :: st) h P) := mx_xf rfl rfl
set_option maxRecDepth 100000 in
theorem x_Law_law_444 (C : mx_C) (o0 : Option Value) (o1 : Option Value) (o2 : Option Value) (o3 : Option Value) (xi : Int32) (ar : Nat) (st : mx_S) (h : mx_H) (P : mx_P) : mx_R k_Law_law C 444 [o0, o1, o2, o3] (.int xi :: .ref ar :: st) h P = (mx_okr 103 ar h xi = true ∧ mx_R k_Law_law C 445 [o0, o1, o2, o3] (.int (h.1 ar xi.toNatClampNeg) :: st) h P) := mx_xg rfl rfl
set_option maxRecDepth 100000 in
theorem x_Law_law_445 (C : mx_C) (o0 : Option Value) (o1 : Option Value) (o2 : Option Value) (o3 : Option Value) (xi : Int32) (st : mx_S) (h : mx_H) (P : mx_P) : mx_R k_Law_law C 445 [o0, o1, o2, o3] (.int xi :: st) h P = (mx_R k_Law_law C 446 [o0, o1, o2, o3] (.long xi.toInt64 :: st) h P) := mx_xf rfl rfl
set_option maxRecDepth 100000 in
theorem x_Law_law_446 (C : mx_C) (o0 : Option Value) (o1 : Option Value) (o2 : Option Value) (o3 : Option Value) (st : mx_S) (h : mx_H) (P : mx_P) : mx_R k_Law_law C 446 [o0, o1, o2, o3] st h P = (mx_R k_Law_law C 448 [o0, o1, o2, o3] (.int 32 :: st) h P) := mx_xf rfl rfl
set_option maxRecDepth 100000 in
theorem x_Law_law_448 (C : mx_C) (o0 : Option Value) (o1 : Option Value) (o2 : Option Value) (o3 : Option Value) (yi : Int32) (xj : Int64) (st : mx_S) (h : mx_H) (P : mx_P) : mx_R k_Law_law C 448 [o0, o1, o2, o3] (.int yi :: .long xj :: st) h P = (mx_R k_Law_law C 449 [o0, o1, o2, o3] (.long (xj <<< (yi.toInt64 &&& 63)) :: st) h P) := mx_xf rfl rfl
set_option maxRecDepth 100000 in
theorem x_Law_law_449 (C : mx_C) (o1 : Option Value) (o2 : Option Value) (o3 : Option Value) (ar : Nat) (st : mx_S) (h : mx_H) (P : mx_P) : mx_R k_Law_law C 449 [some (.ref ar), o1, o2, o3] st h P = (mx_R k_Law_law C 450 [some (.ref ar), o1, o2, o3] (.ref ar :: st) h P) := mx_xf rfl rfl
set_option maxRecDepth 100000 in
theorem x_Law_law_450 (C : mx_C) (o0 : Option Value) (o1 : Option Value) (o2 : Option Value) (xi : Int32) (st : mx_S) (h : mx_H) (P : mx_P) : mx_R k_Law_law C 450 [o0, o1, o2, some (.int xi)] st h P = (mx_R k_Law_law C 451 [o0, o1, o2, some (.int xi)] (.int xi :: st) h P) := mx_xf rfl rfl
set_option maxRecDepth 100000 in
theorem x_Law_law_451 (C : mx_C) (o0 : Option Value) (o1 : Option Value) (o2 : Option Value) (o3 : Option Value) (st : mx_S) (h : mx_H) (P : mx_P) : mx_R k_Law_law C 451 [o0, o1, o2, o3] st h P = (mx_R k_Law_law C 452 [o0, o1, o2, o3] (.int 2 :: st) h P) := mx_xf rfl rfl
set_option maxRecDepth 100000 in
theorem x_Law_law_452 (C : mx_C) (o0 : Option Value) (o1 : Option Value) (o2 : Option Value) (o3 : Option Value) (xi : Int32) (yi : Int32) (st : mx_S) (h : mx_H) (P : mx_P) : mx_R k_Law_law C 452 [o0, o1, o2, o3] (.int yi :: .int xi :: st) h P = (mx_R k_Law_law C 453 [o0, o1, o2, o3] (.int (xi + yi) :: st) h P) := mx_xf rfl rfl
set_option maxRecDepth 100000 in
theorem x_Law_law_453 (C : mx_C) (o0 : Option Value) (o1 : Option Value) (o2 : Option Value) (o3 : Option Value) (xi : Int32) (ar : Nat) (st : mx_S) (h : mx_H) (P : mx_P) : mx_R k_Law_law C 453 [o0, o1, o2, o3] (.int xi :: .ref ar :: st) h P = (mx_okr 103 ar h xi = true ∧ mx_R k_Law_law C 454 [o0, o1, o2, o3] (.int (h.1 ar xi.toNatClampNeg) :: st) h P) := mx_xg rfl rfl
set_option maxRecDepth 100000 in
theorem x_Law_law_454 (C : mx_C) (o0 : Option Value) (o1 : Option Value) (o2 : Option Value) (o3 : Option Value) (xi : Int32) (st : mx_S) (h : mx_H) (P : mx_P) : mx_R k_Law_law C 454 [o0, o1, o2, o3] (.int xi :: st) h P = (mx_R k_Law_law C 455 [o0, o1, o2, o3] (.long xi.toInt64 :: st) h P) := mx_xf rfl rfl
set_option maxRecDepth 100000 in
theorem x_Law_law_455 (C : mx_C) (o0 : Option Value) (o1 : Option Value) (o2 : Option Value) (o3 : Option Value) (st : mx_S) (h : mx_H) (P : mx_P) : mx_R k_Law_law C 455 [o0, o1, o2, o3] st h P = (mx_R k_Law_law C 458 [o0, o1, o2, o3] (.long 4294967295 :: st) h P) := mx_xf rfl rfl
set_option maxRecDepth 100000 in
theorem x_Law_law_458 (C : mx_C) (o0 : Option Value) (o1 : Option Value) (o2 : Option Value) (o3 : Option Value) (xj : Int64) (yj : Int64) (st : mx_S) (h : mx_H) (P : mx_P) : mx_R k_Law_law C 458 [o0, o1, o2, o3] (.long yj :: .long xj :: st) h P = (mx_R k_Law_law C 459 [o0, o1, o2, o3] (.long (xj &&& yj) :: st) h P) := mx_xf rfl rfl
set_option maxRecDepth 100000 in
theorem x_Law_law_459 (C : mx_C) (o0 : Option Value) (o1 : Option Value) (o2 : Option Value) (o3 : Option Value) (xj : Int64) (yj : Int64) (st : mx_S) (h : mx_H) (P : mx_P) : mx_R k_Law_law C 459 [o0, o1, o2, o3] (.long yj :: .long xj :: st) h P = (mx_R k_Law_law C 460 [o0, o1, o2, o3] (.long (xj ||| yj) :: st) h P) := mx_xf rfl rfl
set_option maxRecDepth 100000 in
theorem x_Law_law_460 (C : mx_C) (o1 : Option Value) (o2 : Option Value) (o3 : Option Value) (ar : Nat) (st : mx_S) (h : mx_H) (P : mx_P) : mx_R k_Law_law C 460 [some (.ref ar), o1, o2, o3] st h P = (mx_R k_Law_law C 461 [some (.ref ar), o1, o2, o3] (.ref ar :: st) h P) := mx_xf rfl rfl
set_option maxRecDepth 100000 in
theorem x_Law_law_461 (C : mx_C) (o0 : Option Value) (o1 : Option Value) (o2 : Option Value) (xi : Int32) (st : mx_S) (h : mx_H) (P : mx_P) : mx_R k_Law_law C 461 [o0, o1, o2, some (.int xi)] st h P = (mx_R k_Law_law C 462 [o0, o1, o2, some (.int xi)] (.int xi :: st) h P) := mx_xf rfl rfl
set_option maxRecDepth 100000 in
theorem x_Law_law_462 (C : mx_C) (o0 : Option Value) (o1 : Option Value) (o2 : Option Value) (o3 : Option Value) (st : mx_S) (h : mx_H) (P : mx_P) : mx_R k_Law_law C 462 [o0, o1, o2, o3] st h P = (mx_R k_Law_law C 463 [o0, o1, o2, o3] (.int 3 :: st) h P) := mx_xf rfl rfl
set_option maxRecDepth 100000 in
theorem x_Law_law_463 (C : mx_C) (o0 : Option Value) (o1 : Option Value) (o2 : Option Value) (o3 : Option Value) (xi : Int32) (yi : Int32) (st : mx_S) (h : mx_H) (P : mx_P) : mx_R k_Law_law C 463 [o0, o1, o2, o3] (.int yi :: .int xi :: st) h P = (mx_R k_Law_law C 464 [o0, o1, o2, o3] (.int (xi + yi) :: st) h P) := mx_xf rfl rfl
set_option maxRecDepth 100000 in
theorem x_Law_law_464 (C : mx_C) (o0 : Option Value) (o1 : Option Value) (o2 : Option Value) (o3 : Option Value) (xi : Int32) (ar : Nat) (st : mx_S) (h : mx_H) (P : mx_P) : mx_R k_Law_law C 464 [o0, o1, o2, o3] (.int xi :: .ref ar :: st) h P = (mx_okr 103 ar h xi = true ∧ mx_R k_Law_law C 465 [o0, o1, o2, o3] (.int (h.1 ar xi.toNatClampNeg) :: st) h P) := mx_xg rfl rfl
set_option maxRecDepth 100000 in
theorem x_Law_law_465 (C : mx_C) (o0 : Option Value) (o1 : Option Value) (o2 : Option Value) (o3 : Option Value) (va0 : Value) (va1 : Value) (va2 : Value) (h : mx_H) (P : mx_P) : mx_R k_Law_law C 465 [o0, o1, o2, o3] (va2 :: va1 :: va0 :: []) h P = (∃ v h1, C 102 [va0, va1, va2] h v h1 ∧ mx_R k_Law_law C 468 [o0, o1, o2, o3] (v.toList ++ []) h1 P) := mx_xc rfl (Nat.le_of_ble_eq_true rfl) (Or.inl (Nat.le_of_ble_eq_true rfl)) rfl rfl
set_option maxRecDepth 100000 in
theorem x_Law_law_468 (C : mx_C) (o0 : Option Value) (o1 : Option Value) (o3 : Option Value) (ar : Nat) (st : mx_S) (h : mx_H) (P : mx_P) : mx_R k_Law_law C 468 [o0, o1, some (.ref ar), o3] st h P = (mx_R k_Law_law C 469 [o0, o1, some (.ref ar), o3] (.ref ar :: st) h P) := mx_xf rfl rfl
set_option maxRecDepth 100000 in
theorem x_Law_law_469 (C : mx_C) (o1 : Option Value) (o2 : Option Value) (o3 : Option Value) (ar : Nat) (st : mx_S) (h : mx_H) (P : mx_P) : mx_R k_Law_law C 469 [some (.ref ar), o1, o2, o3] st h P = (mx_R k_Law_law C 470 [some (.ref ar), o1, o2, o3] (.ref ar :: st) h P) := mx_xf rfl rfl
set_option maxRecDepth 100000 in
theorem x_Law_law_470 (C : mx_C) (o0 : Option Value) (o1 : Option Value) (o2 : Option Value) (xi : Int32) (st : mx_S) (h : mx_H) (P : mx_P) : mx_R k_Law_law C 470 [o0, o1, o2, some (.int xi)] st h P = (mx_R k_Law_law C 471 [o0, o1, o2, some (.int xi)] (.int xi :: st) h P) := mx_xf rfl rfl
set_option maxRecDepth 100000 in
theorem x_Law_law_471 (C : mx_C) (o0 : Option Value) (o1 : Option Value) (o2 : Option Value) (o3 : Option Value) (st : mx_S) (h : mx_H) (P : mx_P) : mx_R k_Law_law C 471 [o0, o1, o2, o3] st h P = (mx_R k_Law_law C 472 [o0, o1, o2, o3] (.int 1 :: st) h P) := mx_xf rfl rfl
set_option maxRecDepth 100000 in
theorem x_Law_law_472 (C : mx_C) (o0 : Option Value) (o1 : Option Value) (o2 : Option Value) (o3 : Option Value) (xi : Int32) (yi : Int32) (st : mx_S) (h : mx_H) (P : mx_P) : mx_R k_Law_law C 472 [o0, o1, o2, o3] (.int yi :: .int xi :: st) h P = (mx_R k_Law_law C 473 [o0, o1, o2, o3] (.int (xi + yi) :: st) h P) := mx_xf rfl rfl
set_option maxRecDepth 100000 in
theorem x_Law_law_473 (C : mx_C) (o0 : Option Value) (o1 : Option Value) (o2 : Option Value) (o3 : Option Value) (xi : Int32) (ar : Nat) (st : mx_S) (h : mx_H) (P : mx_P) : mx_R k_Law_law C 473 [o0, o1, o2, o3] (.int xi :: .ref ar :: st) h P = (mx_okr 103 ar h xi = true ∧ mx_R k_Law_law C 474 [o0, o1, o2, o3] (.int (h.1 ar xi.toNatClampNeg) :: st) h P) := mx_xg rfl rfl
set_option maxRecDepth 100000 in
theorem x_Law_law_474 (C : mx_C) (o0 : Option Value) (o1 : Option Value) (o2 : Option Value) (o3 : Option Value) (xi : Int32) (st : mx_S) (h : mx_H) (P : mx_P) : mx_R k_Law_law C 474 [o0, o1, o2, o3] (.int xi :: st) h P = (mx_R k_Law_law C 475 [o0, o1, o2, o3] (.long xi.toInt64 :: st) h P) := mx_xf rfl rfl
set_option maxRecDepth 100000 in
theorem x_Law_law_475 (C : mx_C) (o0 : Option Value) (o1 : Option Value) (o2 : Option Value) (o3 : Option Value) (st : mx_S) (h : mx_H) (P : mx_P) : mx_R k_Law_law C 475 [o0, o1, o2, o3] st h P = (mx_R k_Law_law C 477 [o0, o1, o2, o3] (.int 32 :: st) h P) := mx_xf rfl rfl
set_option maxRecDepth 100000 in
theorem x_Law_law_477 (C : mx_C) (o0 : Option Value) (o1 : Option Value) (o2 : Option Value) (o3 : Option Value) (yi : Int32) (xj : Int64) (st : mx_S) (h : mx_H) (P : mx_P) : mx_R k_Law_law C 477 [o0, o1, o2, o3] (.int yi :: .long xj :: st) h P = (mx_R k_Law_law C 478 [o0, o1, o2, o3] (.long (xj <<< (yi.toInt64 &&& 63)) :: st) h P) := mx_xf rfl rfl
set_option maxRecDepth 100000 in
theorem x_Law_law_478 (C : mx_C) (o1 : Option Value) (o2 : Option Value) (o3 : Option Value) (ar : Nat) (st : mx_S) (h : mx_H) (P : mx_P) : mx_R k_Law_law C 478 [some (.ref ar), o1, o2, o3] st h P = (mx_R k_Law_law C 479 [some (.ref ar), o1, o2, o3] (.ref ar :: st) h P) := mx_xf rfl rfl
set_option maxRecDepth 100000 in
theorem x_Law_law_479 (C : mx_C) (o0 : Option Value) (o1 : Option Value) (o2 : Option Value) (xi : Int32) (st : mx_S) (h : mx_H) (P : mx_P) : mx_R k_Law_law C 479 [o0, o1, o2, some (.int xi)] st h P = (mx_R k_Law_law C 480 [o0, o1, o2, some (.int xi)] (.int xi :: st) h P) := mx_xf rfl rfl
set_option maxRecDepth 100000 in
theorem x_Law_law_480 (C : mx_C) (o0 : Option Value) (o1 : Option Value) (o2 : Option Value) (o3 : Option Value) (st : mx_S) (h : mx_H) (P : mx_P) : mx_R k_Law_law C 480 [o0, o1, o2, o3] st h P = (mx_R k_Law_law C 481 [o0, o1, o2, o3] (.int 2 :: st) h P) := mx_xf rfl rfl
set_option maxRecDepth 100000 in
theorem x_Law_law_481 (C : mx_C) (o0 : Option Value) (o1 : Option Value) (o2 : Option Value) (o3 : Option Value) (xi : Int32) (yi : Int32) (st : mx_S) (h : mx_H) (P : mx_P) : mx_R k_Law_law C 481 [o0, o1, o2, o3] (.int yi :: .int xi :: st) h P = (mx_R k_Law_law C 482 [o0, o1, o2, o3] (.int (xi + yi) :: st) h P) := mx_xf rfl rfl
set_option maxRecDepth 100000 in
theorem x_Law_law_482 (C : mx_C) (o0 : Option Value) (o1 : Option Value) (o2 : Option Value) (o3 : Option Value) (xi : Int32) (ar : Nat) (st : mx_S) (h : mx_H) (P : mx_P) : mx_R k_Law_law C 482 [o0, o1, o2, o3] (.int xi :: .ref ar :: st) h P = (mx_okr 103 ar h xi = true ∧ mx_R k_Law_law C 483 [o0, o1, o2, o3] (.int (h.1 ar xi.toNatClampNeg) :: st) h P) := mx_xg rfl rfl
set_option maxRecDepth 100000 in
theorem x_Law_law_483 (C : mx_C) (o0 : Option Value) (o1 : Option Value) (o2 : Option Value) (o3 : Option Value) (xi : Int32) (st : mx_S) (h : mx_H) (P : mx_P) : mx_R k_Law_law C 483 [o0, o1, o2, o3] (.int xi :: st) h P = (mx_R k_Law_law C 484 [o0, o1, o2, o3] (.long xi.toInt64 :: st) h P) := mx_xf rfl rfl
set_option maxRecDepth 100000 in
theorem x_Law_law_484 (C : mx_C) (o0 : Option Value) (o1 : Option Value) (o2 : Option Value) (o3 : Option Value) (st : mx_S) (h : mx_H) (P : mx_P) : mx_R k_Law_law C 484 [o0, o1, o2, o3] st h P = (mx_R k_Law_law C 487 [o0, o1, o2, o3] (.long 4294967295 :: st) h P) := mx_xf rfl rfl
set_option maxRecDepth 100000 in
theorem x_Law_law_487 (C : mx_C) (o0 : Option Value) (o1 : Option Value) (o2 : Option Value) (o3 : Option Value) (xj : Int64) (yj : Int64) (st : mx_S) (h : mx_H) (P : mx_P) : mx_R k_Law_law C 487 [o0, o1, o2, o3] (.long yj :: .long xj :: st) h P = (mx_R k_Law_law C 488 [o0, o1, o2, o3] (.long (xj &&& yj) :: st) h P) := mx_xf rfl rfl
set_option maxRecDepth 100000 in
theorem x_Law_law_488 (C : mx_C) (o0 : Option Value) (o1 : Option Value) (o2 : Option Value) (o3 : Option Value) (xj : Int64) (yj : Int64) (st : mx_S) (h : mx_H) (P : mx_P) : mx_R k_Law_law C 488 [o0, o1, o2, o3] (.long yj :: .long xj :: st) h P = (mx_R k_Law_law C 489 [o0, o1, o2, o3] (.long (xj ||| yj) :: st) h P) := mx_xf rfl rfl
set_option maxRecDepth 100000 in
theorem x_Law_law_489 (C : mx_C) (o1 : Option Value) (o2 : Option Value) (o3 : Option Value) (ar : Nat) (st : mx_S) (h : mx_H) (P : mx_P) : mx_R k_Law_law C 489 [some (.ref ar), o1, o2, o3] st h P = (mx_R k_Law_law C 490 [some (.ref ar), o1, o2, o3] (.ref ar :: st) h P) := mx_xf rfl rfl
set_option maxRecDepth 100000 in
theorem x_Law_law_490 (C : mx_C) (o0 : Option Value) (o1 : Option Value) (o2 : Option Value) (xi : Int32) (st : mx_S) (h : mx_H) (P : mx_P) : mx_R k_Law_law C 490 [o0, o1, o2, some (.int xi)] st h P = (mx_R k_Law_law C 491 [o0, o1, o2, some (.int xi)] (.int xi :: st) h P) := mx_xf rfl rfl
set_option maxRecDepth 100000 in
theorem x_Law_law_491 (C : mx_C) (o0 : Option Value) (o1 : Option Value) (o2 : Option Value) (o3 : Option Value) (st : mx_S) (h : mx_H) (P : mx_P) : mx_R k_Law_law C 491 [o0, o1, o2, o3] st h P = (mx_R k_Law_law C 492 [o0, o1, o2, o3] (.int 3 :: st) h P) := mx_xf rfl rfl
set_option maxRecDepth 100000 in
theorem x_Law_law_492 (C : mx_C) (o0 : Option Value) (o1 : Option Value) (o2 : Option Value) (o3 : Option Value) (xi : Int32) (yi : Int32) (st : mx_S) (h : mx_H) (P : mx_P) : mx_R k_Law_law C 492 [o0, o1, o2, o3] (.int yi :: .int xi :: st) h P = (mx_R k_Law_law C 493 [o0, o1, o2, o3] (.int (xi + yi) :: st) h P) := mx_xf rfl rfl
set_option maxRecDepth 100000 in
theorem x_Law_law_493 (C : mx_C) (o0 : Option Value) (o1 : Option Value) (o2 : Option Value) (o3 : Option Value) (xi : Int32) (ar : Nat) (st : mx_S) (h : mx_H) (P : mx_P) : mx_R k_Law_law C 493 [o0, o1, o2, o3] (.int xi :: .ref ar :: st) h P = (mx_okr 103 ar h xi = true ∧ mx_R k_Law_law C 494 [o0, o1, o2, o3] (.int (h.1 ar xi.toNatClampNeg) :: st) h P) := mx_xg rfl rfl
set_option maxRecDepth 100000 in
theorem x_Law_law_494 (C : mx_C) (o0 : Option Value) (o1 : Option Value) (o2 : Option Value) (o3 : Option Value) (va0 : Value) (va1 : Value) (va2 : Value) (vs0 : Value) (h : mx_H) (P : mx_P) : mx_R k_Law_law C 494 [o0, o1, o2, o3] (va2 :: va1 :: va0 :: [vs0]) h P = (∃ v h1, C 152 [va0, va1, va2] h v h1 ∧ mx_R k_Law_law C 497 [o0, o1, o2, o3] (v.toList ++ [vs0]) h1 P) := mx_xc rfl (Nat.le_of_ble_eq_true rfl) (Or.inl (Nat.le_of_ble_eq_true rfl)) rfl rfl
set_option maxRecDepth 100000 in
theorem x_Law_law_497 (C : mx_C) (o0 : Option Value) (o1 : Option Value) (o2 : Option Value) (o3 : Option Value) (xi : Int32) (yi : Int32) (st : mx_S) (h : mx_H) (P : mx_P) : mx_R k_Law_law C 497 [o0, o1, o2, o3] (.int yi :: .int xi :: st) h P = (if xi = yi then mx_R k_Law_law C 1309 [o0, o1, o2, o3] st h P else mx_R k_Law_law C 500 [o0, o1, o2, o3] st h P) := mx_xb rfl rfl
set_option maxRecDepth 100000 in
theorem x_Law_law_500 (C : mx_C) (o0 : Option Value) (o1 : Option Value) (o2 : Option Value) (o3 : Option Value) (st : mx_S) (h : mx_H) (P : mx_P) : mx_R k_Law_law C 500 [o0, o1, o2, o3] st h P = (mx_R k_Law_law C 501 [o0, o1, o2, o3] (.int 0 :: st) h P) := mx_xf rfl rfl
set_option maxRecDepth 100000 in
theorem x_Law_law_501 (C : mx_C) (o0 : Option Value) (o1 : Option Value) (o2 : Option Value) (o3 : Option Value) (xi : Int32) (h : mx_H) (P : mx_P) : mx_R k_Law_law C 501 [o0, o1, o2, o3] [.int xi] h P = ((xi = 0 ∨ xi = 1) ∧ P (some (.int xi)) h) := mx_xr2 rfl
set_option maxRecDepth 100000 in
theorem x_Law_law_502 (C : mx_C) (o0 : Option Value) (o2 : Option Value) (o3 : Option Value) (ar : Nat) (st : mx_S) (h : mx_H) (P : mx_P) : mx_R k_Law_law C 502 [o0, some (.ref ar), o2, o3] st h P = (mx_R k_Law_law C 503 [o0, some (.ref ar), o2, o3] (.ref ar :: st) h P) := mx_xf rfl rfl
set_option maxRecDepth 100000 in
theorem x_Law_law_503 (C : mx_C) (o1 : Option Value) (o2 : Option Value) (o3 : Option Value) (ar : Nat) (st : mx_S) (h : mx_H) (P : mx_P) : mx_R k_Law_law C 503 [some (.ref ar), o1, o2, o3] st h P = (mx_R k_Law_law C 504 [some (.ref ar), o1, o2, o3] (.ref ar :: st) h P) := mx_xf rfl rfl
set_option maxRecDepth 100000 in
theorem x_Law_law_504 (C : mx_C) (o0 : Option Value) (o1 : Option Value) (o2 : Option Value) (xi : Int32) (st : mx_S) (h : mx_H) (P : mx_P) : mx_R k_Law_law C 504 [o0, o1, o2, some (.int xi)] st h P = (mx_R k_Law_law C 505 [o0, o1, o2, some (.int xi)] (.int xi :: st) h P) := mx_xf rfl rfl
set_option maxRecDepth 100000 in
theorem x_Law_law_505 (C : mx_C) (o0 : Option Value) (o1 : Option Value) (o2 : Option Value) (o3 : Option Value) (st : mx_S) (h : mx_H) (P : mx_P) : mx_R k_Law_law C 505 [o0, o1, o2, o3] st h P = (mx_R k_Law_law C 506 [o0, o1, o2, o3] (.int 1 :: st) h P) := mx_xf rfl rfl
set_option maxRecDepth 100000 in
theorem x_Law_law_506 (C : mx_C) (o0 : Option Value) (o1 : Option Value) (o2 : Option Value) (o3 : Option Value) (xi : Int32) (yi : Int32) (st : mx_S) (h : mx_H) (P : mx_P) : mx_R k_Law_law C 506 [o0, o1, o2, o3] (.int yi :: .int xi :: st) h P = (mx_R k_Law_law C 507 [o0, o1, o2, o3] (.int (xi + yi) :: st) h P) := mx_xf rfl rfl
set_option maxRecDepth 100000 in
theorem x_Law_law_507 (C : mx_C) (o0 : Option Value) (o1 : Option Value) (o2 : Option Value) (o3 : Option Value) (xi : Int32) (ar : Nat) (st : mx_S) (h : mx_H) (P : mx_P) : mx_R k_Law_law C 507 [o0, o1, o2, o3] (.int xi :: .ref ar :: st) h P = (mx_okr 103 ar h xi = true ∧ mx_R k_Law_law C 508 [o0, o1, o2, o3] (.int (h.1 ar xi.toNatClampNeg) :: st) h P) := mx_xg rfl rfl
set_option maxRecDepth 100000 in
theorem x_Law_law_508 (C : mx_C) (o0 : Option Value) (o1 : Option Value) (o2 : Option Value) (o3 : Option Value) (va0 : Value) (va1 : Value) (h : mx_H) (P : mx_P) : mx_R k_Law_law C 508 [o0, o1, o2, o3] (va1 :: va0 :: []) h P = (∃ v h1, C 103 [va0, va1] h v h1 ∧ mx_R k_Law_law C 511 [o0, o1, o2, o3] (v.toList ++ []) h1 P) := mx_xc rfl (Nat.le_of_ble_eq_true rfl) (Or.inl (Nat.le_of_ble_eq_true rfl)) rfl rfl
set_option maxRecDepth 100000 in
theorem x_Law_law_511 (C : mx_C) (o0 : Option Value) (o1 : Option Value) (o3 : Option Value) (ar : Nat) (st : mx_S) (h : mx_H) (P : mx_P) : mx_R k_Law_law C 511 [o0, o1, some (.ref ar), o3] st h P = (mx_R k_Law_law C 512 [o0, o1, some (.ref ar), o3] (.ref ar :: st) h P) := mx_xf rfl rfl
set_option maxRecDepth 100000 in
theorem x_Law_law_512 (C : mx_C) (o1 : Option Value) (o2 : Option Value) (o3 : Option Value) (ar : Nat) (st : mx_S) (h : mx_H) (P : mx_P) : mx_R k_Law_law C 512 [some (.ref ar), o1, o2, o3] st h P = (mx_R k_Law_law C 513 [some (.ref ar), o1, o2, o3] (.ref ar :: st) h P) := mx_xf rfl rfl
set_option maxRecDepth 100000 in
theorem x_Law_law_513 (C : mx_C) (o0 : Option Value) (o1 : Option Value) (o2 : Option Value) (xi : Int32) (st : mx_S) (h : mx_H) (P : mx_P) : mx_R k_Law_law C 513 [o0, o1, o2, some (.int xi)] st h P = (mx_R k_Law_law C 514 [o0, o1, o2, some (.int xi)] (.int xi :: st) h P) := mx_xf rfl rfl
set_option maxRecDepth 100000 in
theorem x_Law_law_514 (C : mx_C) (o0 : Option Value) (o1 : Option Value) (o2 : Option Value) (o3 : Option Value) (st : mx_S) (h : mx_H) (P : mx_P) : mx_R k_Law_law C 514 [o0, o1, o2, o3] st h P = (mx_R k_Law_law C 515 [o0, o1, o2, o3] (.int 1 :: st) h P) := mx_xf rfl rfl
set_option maxRecDepth 100000 in
theorem x_Law_law_515 (C : mx_C) (o0 : Option Value) (o1 : Option Value) (o2 : Option Value) (o3 : Option Value) (xi : Int32) (yi : Int32) (st : mx_S) (h : mx_H) (P : mx_P) : mx_R k_Law_law C 515 [o0, o1, o2, o3] (.int yi :: .int xi :: st) h P = (mx_R k_Law_law C 516 [o0, o1, o2, o3] (.int (xi + yi) :: st) h P) := mx_xf rfl rfl
set_option maxRecDepth 100000 in
theorem x_Law_law_516 (C : mx_C) (o0 : Option Value) (o1 : Option Value) (o2 : Option Value) (o3 : Option Value) (xi : Int32) (ar : Nat) (st : mx_S) (h : mx_H) (P : mx_P) : mx_R k_Law_law C 516 [o0, o1, o2, o3] (.int xi :: .ref ar :: st) h P = (mx_okr 103 ar h xi = true ∧ mx_R k_Law_law C 517 [o0, o1, o2, o3] (.int (h.1 ar xi.toNatClampNeg) :: st) h P) := mx_xg rfl rfl
set_option maxRecDepth 100000 in
theorem x_Law_law_517 (C : mx_C) (o0 : Option Value) (o1 : Option Value) (o2 : Option Value) (o3 : Option Value) (va0 : Value) (va1 : Value) (vs0 : Value) (h : mx_H) (P : mx_P) : mx_R k_Law_law C 517 [o0, o1, o2, o3] (va1 :: va0 :: [vs0]) h P = (∃ v h1, C 164 [va0, va1] h v h1 ∧ mx_R k_Law_law C 520 [o0, o1, o2, o3] (v.toList ++ [vs0]) h1 P) := mx_xc rfl (Nat.le_of_ble_eq_true rfl) (Or.inl (Nat.le_of_ble_eq_true rfl)) rfl rfl
set_option maxRecDepth 100000 in
theorem x_Law_law_520 (C : mx_C) (o0 : Option Value) (o1 : Option Value) (o2 : Option Value) (o3 : Option Value) (xi : Int32) (yi : Int32) (st : mx_S) (h : mx_H) (P : mx_P) : mx_R k_Law_law C 520 [o0, o1, o2, o3] (.int yi :: .int xi :: st) h P = (if xi = yi then mx_R k_Law_law C 1309 [o0, o1, o2, o3] st h P else mx_R k_Law_law C 523 [o0, o1, o2, o3] st h P) := mx_xb rfl rfl
set_option maxRecDepth 100000 in
theorem x_Law_law_523 (C : mx_C) (o0 : Option Value) (o1 : Option Value) (o2 : Option Value) (o3 : Option Value) (st : mx_S) (h : mx_H) (P : mx_P) : mx_R k_Law_law C 523 [o0, o1, o2, o3] st h P = (mx_R k_Law_law C 524 [o0, o1, o2, o3] (.int 0 :: st) h P) := mx_xf rfl rfl
set_option maxRecDepth 100000 in
theorem x_Law_law_524 (C : mx_C) (o0 : Option Value) (o1 : Option Value) (o2 : Option Value) (o3 : Option Value) (xi : Int32) (h : mx_H) (P : mx_P) : mx_R k_Law_law C 524 [o0, o1, o2, o3] [.int xi] h P = ((xi = 0 ∨ xi = 1) ∧ P (some (.int xi)) h) := mx_xr2 rfl
set_option maxRecDepth 100000 in
theorem x_Law_law_525 (C : mx_C) (o0 : Option Value) (o2 : Option Value) (o3 : Option Value) (ar : Nat) (st : mx_S) (h : mx_H) (P : mx_P) : mx_R k_Law_law C 525 [o0, some (.ref ar), o2, o3] st h P = (mx_R k_Law_law C 526 [o0, some (.ref ar), o2, o3] (.ref ar :: st) h P) := mx_xf rfl rfl
set_option maxRecDepth 100000 in
theorem x_Law_law_526 (C : mx_C) (o1 : Option Value) (o2 : Option Value) (o3 : Option Value) (ar : Nat) (st : mx_S) (h : mx_H) (P : mx_P) : mx_R k_Law_law C 526 [some (.ref ar), o1, o2, o3] st h P = (mx_R k_Law_law C 527 [some (.ref ar), o1, o2, o3] (.ref ar :: st) h P) := mx_xf rfl rfl
set_option maxRecDepth 100000 in
theorem x_Law_law_527 (C : mx_C) (o0 : Option Value) (o1 : Option Value) (o2 : Option Value) (xi : Int32) (st : mx_S) (h : mx_H) (P : mx_P) : mx_R k_Law_law C 527 [o0, o1, o2, some (.int xi)] st h P = (mx_R k_Law_law C 528 [o0, o1, o2, some (.int xi)] (.int xi :: st) h P) := mx_xf rfl rfl
set_option maxRecDepth 100000 in
theorem x_Law_law_528 (C : mx_C) (o0 : Option Value) (o1 : Option Value) (o2 : Option Value) (o3 : Option Value) (st : mx_S) (h : mx_H) (P : mx_P) : mx_R k_Law_law C 528 [o0, o1, o2, o3] st h P = (mx_R k_Law_law C 529 [o0, o1, o2, o3] (.int 1 :: st) h P) := mx_xf rfl rfl
set_option maxRecDepth 100000 in
theorem x_Law_law_529 (C : mx_C) (o0 : Option Value) (o1 : Option Value) (o2 : Option Value) (o3 : Option Value) (xi : Int32) (yi : Int32) (st : mx_S) (h : mx_H) (P : mx_P) : mx_R k_Law_law C 529 [o0, o1, o2, o3] (.int yi :: .int xi :: st) h P = (mx_R k_Law_law C 530 [o0, o1, o2, o3] (.int (xi + yi) :: st) h P) := mx_xf rfl rfl
set_option maxRecDepth 100000 in
theorem x_Law_law_530 (C : mx_C) (o0 : Option Value) (o1 : Option Value) (o2 : Option Value) (o3 : Option Value) (xi : Int32) (ar : Nat) (st : mx_S) (h : mx_H) (P : mx_P) : mx_R k_Law_law C 530 [o0, o1, o2, o3] (.int xi :: .ref ar :: st) h P = (mx_okr 103 ar h xi = true ∧ mx_R k_Law_law C 531 [o0, o1, o2, o3] (.int (h.1 ar xi.toNatClampNeg) :: st) h P) := mx_xg rfl rfl
set_option maxRecDepth 100000 in
theorem x_Law_law_531 (C : mx_C) (o0 : Option Value) (o1 : Option Value) (o2 : Option Value) (o3 : Option Value) (va0 : Value) (va1 : Value) (h : mx_H) (P : mx_P) : mx_R k_Law_law C 531 [o0, o1, o2, o3] (va1 :: va0 :: []) h P = (∃ v h1, C 104 [va0, va1] h v h1 ∧ mx_R k_Law_law C 534 [o0, o1, o2, o3] (v.toList ++ []) h1 P) := mx_xc rfl (Nat.le_of_ble_eq_true rfl) (Or.inl (Nat.le_of_ble_eq_true rfl)) rfl rfl
set_option maxRecDepth 100000 in
theorem x_Law_law_534 (C : mx_C) (o0 : Option Value) (o1 : Option Value) (o3 : Option Value) (ar : Nat) (st : mx_S) (h : mx_H) (P : mx_P) : mx_R k_Law_law C 534 [o0, o1, some (.ref ar), o3] st h P = (mx_R k_Law_law C 535 [o0, o1, some (.ref ar), o3] (.ref ar :: st) h P) := mx_xf rfl rfl
set_option maxRecDepth 100000 in
theorem x_Law_law_535 (C : mx_C) (o1 : Option Value) (o2 : Option Value) (o3 : Option Value) (ar : Nat) (st : mx_S) (h : mx_H) (P : mx_P) : mx_R k_Law_law C 535 [some (.ref ar), o1, o2, o3] st h P = (mx_R k_Law_law C 536 [some (.ref ar), o1, o2, o3] (.ref ar :: st) h P) := mx_xf rfl rfl
set_option maxRecDepth 100000 in
theorem x_Law_law_536 (C : mx_C) (o0 : Option Value) (o1 : Option Value) (o2 : Option Value) (xi : Int32) (st : mx_S) (h : mx_H) (P : mx_P) : mx_R k_Law_law C 536 [o0, o1, o2, some (.int xi)] st h P = (mx_R k_Law_law C 537 [o0, o1, o2, some (.int xi)] (.int xi :: st) h P) := mx_xf rfl rfl
set_option maxRecDepth 100000 in
theorem x_Law_law_537 (C : mx_C) (o0 : Option Value) (o1 : Option Value) (o2 : Option Value) (o3 : Option Value) (st : mx_S) (h : mx_H) (P : mx_P) : mx_R k_Law_law C 537 [o0, o1, o2, o3] st h P = (mx_R k_Law_law C 538 [o0, o1, o2, o3] (.int 1 :: st) h P) := mx_xf rfl rfl
set_option maxRecDepth 100000 in
theorem x_Law_law_538 (C : mx_C) (o0 : Option Value) (o1 : Option Value) (o2 : Option Value) (o3 : Option Value) (xi : Int32) (yi : Int32) (st : mx_S) (h : mx_H) (P : mx_P) : mx_R k_Law_law C 538 [o0, o1, o2, o3] (.int yi :: .int xi :: st) h P = (mx_R k_Law_law C 539 [o0, o1, o2, o3] (.int (xi + yi) :: st) h P) := mx_xf rfl rfl
set_option maxRecDepth 100000 in
theorem x_Law_law_539 (C : mx_C) (o0 : Option Value) (o1 : Option Value) (o2 : Option Value) (o3 : Option Value) (xi : Int32) (ar : Nat) (st : mx_S) (h : mx_H) (P : mx_P) : mx_R k_Law_law C 539 [o0, o1, o2, o3] (.int xi :: .ref ar :: st) h P = (mx_okr 103 ar h xi = true ∧ mx_R k_Law_law C 540 [o0, o1, o2, o3] (.int (h.1 ar xi.toNatClampNeg) :: st) h P) := mx_xg rfl rfl
set_option maxRecDepth 100000 in
theorem x_Law_law_540 (C : mx_C) (o0 : Option Value) (o1 : Option Value) (o2 : Option Value) (o3 : Option Value) (va0 : Value) (va1 : Value) (vs0 : Value) (h : mx_H) (P : mx_P) : mx_R k_Law_law C 540 [o0, o1, o2, o3] (va1 :: va0 :: [vs0]) h P = (∃ v h1, C 165 [va0, va1] h v h1 ∧ mx_R k_Law_law C 543 [o0, o1, o2, o3] (v.toList ++ [vs0]) h1 P) := mx_xc rfl (Nat.le_of_ble_eq_true rfl) (Or.inl (Nat.le_of_ble_eq_true rfl)) rfl rfl
set_option maxRecDepth 100000 in
theorem x_Law_law_543 (C : mx_C) (o0 : Option Value) (o1 : Option Value) (o2 : Option Value) (o3 : Option Value) (xi : Int32) (yi : Int32) (st : mx_S) (h : mx_H) (P : mx_P) : mx_R k_Law_law C 543 [o0, o1, o2, o3] (.int yi :: .int xi :: st) h P = (if xi = yi then mx_R k_Law_law C 1309 [o0, o1, o2, o3] st h P else mx_R k_Law_law C 546 [o0, o1, o2, o3] st h P) := mx_xb rfl rfl
set_option maxRecDepth 100000 in
theorem x_Law_law_546 (C : mx_C) (o0 : Option Value) (o1 : Option Value) (o2 : Option Value) (o3 : Option Value) (st : mx_S) (h : mx_H) (P : mx_P) : mx_R k_Law_law C 546 [o0, o1, o2, o3] st h P = (mx_R k_Law_law C 547 [o0, o1, o2, o3] (.int 0 :: st) h P) := mx_xf rfl rfl
set_option maxRecDepth 100000 in
theorem x_Law_law_547 (C : mx_C) (o0 : Option Value) (o1 : Option Value) (o2 : Option Value) (o3 : Option Value) (xi : Int32) (h : mx_H) (P : mx_P) : mx_R k_Law_law C 547 [o0, o1, o2, o3] [.int xi] h P = ((xi = 0 ∨ xi = 1) ∧ P (some (.int xi)) h) := mx_xr2 rfl
set_option maxRecDepth 100000 in
theorem x_Law_law_548 (C : mx_C) (o0 : Option Value) (o2 : Option Value) (o3 : Option Value) (ar : Nat) (st : mx_S) (h : mx_H) (P : mx_P) : mx_R k_Law_law C 548 [o0, some (.ref ar), o2, o3] st h P = (mx_R k_Law_law C 549 [o0, some (.ref ar), o2, o3] (.ref ar :: st) h P) := mx_xf rfl rfl
set_option maxRecDepth 100000 in
theorem x_Law_law_549 (C : mx_C) (o1 : Option Value) (o2 : Option Value) (o3 : Option Value) (ar : Nat) (st : mx_S) (h : mx_H) (P : mx_P) : mx_R k_Law_law C 549 [some (.ref ar), o1, o2, o3] st h P = (mx_R k_Law_law C 550 [some (.ref ar), o1, o2, o3] (.ref ar :: st) h P) := mx_xf rfl rfl
set_option maxRecDepth 100000 in
theorem x_Law_law_550 (C : mx_C) (o0 : Option Value) (o1 : Option Value) (o2 : Option Value) (xi : Int32) (st : mx_S) (h : mx_H) (P : mx_P) : mx_R k_Law_law C 550 [o0, o1, o2, some (.int xi)] st h P = (mx_R k_Law_law C 551 [o0, o1, o2, some (.int xi)] (.int xi :: st) h P) := mx_xf rfl rfl
set_option maxRecDepth 100000 in
theorem x_Law_law_551 (C : mx_C) (o0 : Option Value) (o1 : Option Value) (o2 : Option Value) (o3 : Option Value) (st : mx_S) (h : mx_H) (P : mx_P) : mx_R k_Law_law C 551 [o0, o1, o2, o3] st h P = (mx_R k_Law_law C 552 [o0, o1, o2, o3] (.int 1 :: st) h P) := mx_xf rfl rfl
set_option maxRecDepth 100000 in
theorem x_Law_law_552 (C : mx_C) (o0 : Option Value) (o1 : Option Value) (o2 : Option Value) (o3 : Option Value) (xi : Int32) (yi : Int32) (st : mx_S) (h : mx_H) (P : mx_P) : mx_R k_Law_law C 552 [o0, o1, o2, o3] (.int yi :: .int xi :: st) h P = (mx_R k_Law_law C 553 [o0, o1, o2, o3] (.int (xi + yi) :: st) h P) := mx_xf rfl rfl
set_option maxRecDepth 100000 in
theorem x_Law_law_553 (C : mx_C) (o0 : Option Value) (o1 : Option Value) (o2 : Option Value) (o3 : Option Value) (xi : Int32) (ar : Nat) (st : mx_S) (h : mx_H) (P : mx_P) : mx_R k_Law_law C 553 [o0, o1, o2, o3] (.int xi :: .ref ar :: st) h P = (mx_okr 103 ar h xi = true ∧ mx_R k_Law_law C 554 [o0, o1, o2, o3] (.int (h.1 ar xi.toNatClampNeg) :: st) h P) := mx_xg rfl rfl
set_option maxRecDepth 100000 in
theorem x_Law_law_554 (C : mx_C) (o1 : Option Value) (o2 : Option Value) (o3 : Option Value) (ar : Nat) (st : mx_S) (h : mx_H) (P : mx_P) : mx_R k_Law_law C 554 [some (.ref ar), o1, o2, o3] st h P = (mx_R k_Law_law C 555 [some (.ref ar), o1, o2, o3] (.ref ar :: st) h P) := mx_xf rfl rfl
set_option maxRecDepth 100000 in
theorem x_Law_law_555 (C : mx_C) (o0 : Option Value) (o1 : Option Value) (o2 : Option Value) (xi : Int32) (st : mx_S) (h : mx_H) (P : mx_P) : mx_R k_Law_law C 555 [o0, o1, o2, some (.int xi)] st h P = (mx_R k_Law_law C 556 [o0, o1, o2, some (.int xi)] (.int xi :: st) h P) := mx_xf rfl rfl
set_option maxRecDepth 100000 in
theorem x_Law_law_556 (C : mx_C) (o0 : Option Value) (o1 : Option Value) (o2 : Option Value) (o3 : Option Value) (st : mx_S) (h : mx_H) (P : mx_P) : mx_R k_Law_law C 556 [o0, o1, o2, o3] st h P = (mx_R k_Law_law C 557 [o0, o1, o2, o3] (.int 2 :: st) h P) := mx_xf rfl rfl
set_option maxRecDepth 100000 in
theorem x_Law_law_557 (C : mx_C) (o0 : Option Value) (o1 : Option Value) (o2 : Option Value) (o3 : Option Value) (xi : Int32) (yi : Int32) (st : mx_S) (h : mx_H) (P : mx_P) : mx_R k_Law_law C 557 [o0, o1, o2, o3] (.int yi :: .int xi :: st) h P = (mx_R k_Law_law C 558 [o0, o1, o2, o3] (.int (xi + yi) :: st) h P) := mx_xf rfl rfl
set_option maxRecDepth 100000 in
theorem x_Law_law_558 (C : mx_C) (o0 : Option Value) (o1 : Option Value) (o2 : Option Value) (o3 : Option Value) (xi : Int32) (ar : Nat) (st : mx_S) (h : mx_H) (P : mx_P) : mx_R k_Law_law C 558 [o0, o1, o2, o3] (.int xi :: .ref ar :: st) h P = (mx_okr 103 ar h xi = true ∧ mx_R k_Law_law C 559 [o0, o1, o2, o3] (.int (h.1 ar xi.toNatClampNeg) :: st) h P) := mx_xg rfl rfl
set_option maxRecDepth 100000 in
theorem x_Law_law_559 (C : mx_C) (o1 : Option Value) (o2 : Option Value) (o3 : Option Value) (ar : Nat) (st : mx_S) (h : mx_H) (P : mx_P) : mx_R k_Law_law C 559 [some (.ref ar), o1, o2, o3] st h P = (mx_R k_Law_law C 560 [some (.ref ar), o1, o2, o3] (.ref ar :: st) h P) := mx_xf rfl rfl
set_option maxRecDepth 100000 in
theorem x_Law_law_560 (C : mx_C) (o0 : Option Value) (o1 : Option Value) (o2 : Option Value) (xi : Int32) (st : mx_S) (h : mx_H) (P : mx_P) : mx_R k_Law_law C 560 [o0, o1, o2, some (.int xi)] st h P = (mx_R k_Law_law C 561 [o0, o1, o2, some (.int xi)] (.int xi :: st) h P) := mx_xf rfl rfl
set_option maxRecDepth 100000 in
theorem x_Law_law_561 (C : mx_C) (o0 : Option Value) (o1 : Option Value) (o2 : Option Value) (o3 : Option Value) (st : mx_S) (h : mx_H) (P : mx_P) : mx_R k_Law_law C 561 [o0, o1, o2, o3] st h P = (mx_R k_Law_law C 562 [o0, o1, o2, o3] (.int 3 :: st) h P) := mx_xf rfl rfl
set_option maxRecDepth 100000 in
theorem x_Law_law_562 (C : mx_C) (o0 : Option Value) (o1 : Option Value) (o2 : Option Value) (o3 : Option Value) (xi : Int32) (yi : Int32) (st : mx_S) (h : mx_H) (P : mx_P) : mx_R k_Law_law C 562 [o0, o1, o2, o3] (.int yi :: .int xi :: st) h P = (mx_R k_Law_law C 563 [o0, o1, o2, o3] (.int (xi + yi) :: st) h P) := mx_xf rfl rfl
set_option maxRecDepth 100000 in
theorem x_Law_law_563 (C : mx_C) (o0 : Option Value) (o1 : Option Value) (o2 : Option Value) (o3 : Option Value) (xi : Int32) (ar : Nat) (st : mx_S) (h : mx_H) (P : mx_P) : mx_R k_Law_law C 563 [o0, o1, o2, o3] (.int xi :: .ref ar :: st) h P = (mx_okr 103 ar h xi = true ∧ mx_R k_Law_law C 564 [o0, o1, o2, o3] (.int (h.1 ar xi.toNatClampNeg) :: st) h P) := mx_xg rfl rfl
set_option maxRecDepth 100000 in
theorem x_Law_law_564 (C : mx_C) (o1 : Option Value) (o2 : Option Value) (o3 : Option Value) (ar : Nat) (st : mx_S) (h : mx_H) (P : mx_P) : mx_R k_Law_law C 564 [some (.ref ar), o1, o2, o3] st h P = (mx_R k_Law_law C 565 [some (.ref ar), o1, o2, o3] (.ref ar :: st) h P) := mx_xf rfl rfl
set_option maxRecDepth 100000 in
theorem x_Law_law_565 (C : mx_C) (o0 : Option Value) (o1 : Option Value) (o2 : Option Value) (xi : Int32) (st : mx_S) (h : mx_H) (P : mx_P) : mx_R k_Law_law C 565 [o0, o1, o2, some (.int xi)] st h P = (mx_R k_Law_law C 566 [o0, o1, o2, some (.int xi)] (.int xi :: st) h P) := mx_xf rfl rfl
set_option maxRecDepth 100000 in
theorem x_Law_law_566 (C : mx_C) (o0 : Option Value) (o1 : Option Value) (o2 : Option Value) (o3 : Option Value) (st : mx_S) (h : mx_H) (P : mx_P) : mx_R k_Law_law C 566 [o0, o1, o2, o3] st h P = (mx_R k_Law_law C 567 [o0, o1, o2, o3] (.int 4 :: st) h P) := mx_xf rfl rfl
set_option maxRecDepth 100000 in
theorem x_Law_law_567 (C : mx_C) (o0 : Option Value) (o1 : Option Value) (o2 : Option Value) (o3 : Option Value) (xi : Int32) (yi : Int32) (st : mx_S) (h : mx_H) (P : mx_P) : mx_R k_Law_law C 567 [o0, o1, o2, o3] (.int yi :: .int xi :: st) h P = (mx_R k_Law_law C 568 [o0, o1, o2, o3] (.int (xi + yi) :: st) h P) := mx_xf rfl rfl
set_option maxRecDepth 100000 in
theorem x_Law_law_568 (C : mx_C) (o0 : Option Value) (o1 : Option Value) (o2 : Option Value) (o3 : Option Value) (xi : Int32) (ar : Nat) (st : mx_S) (h : mx_H) (P : mx_P) : mx_R k_Law_law C 568 [o0, o1, o2, o3] (.int xi :: .ref ar :: st) h P = (mx_okr 103 ar h xi = true ∧ mx_R k_Law_law C 569 [o0, o1, o2, o3] (.int (h.1 ar xi.toNatClampNeg) :: st) h P) := mx_xg rfl rfl
set_option maxRecDepth 100000 in
theorem x_Law_law_569 (C : mx_C) (o0 : Option Value) (o1 : Option Value) (o2 : Option Value) (o3 : Option Value) (va0 : Value) (va1 : Value) (va2 : Value) (va3 : Value) (va4 : Value) (h : mx_H) (P : mx_P) : mx_R k_Law_law C 569 [o0, o1, o2, o3] (va4 :: va3 :: va2 :: va1 :: va0 :: []) h P = (∃ v h1, C 105 [va0, va1, va2, va3, va4] h v h1 ∧ mx_R k_Law_law C 572 [o0, o1, o2, o3] (v.toList ++ []) h1 P) := mx_xc rfl (Nat.le_of_ble_eq_true rfl) (Or.inl (Nat.le_of_ble_eq_true rfl)) rfl rfl
set_option maxRecDepth 100000 in
theorem x_Law_law_572 (C : mx_C) (o0 : Option Value) (o1 : Option Value) (o3 : Option Value) (ar : Nat) (st : mx_S) (h : mx_H) (P : mx_P) : mx_R k_Law_law C 572 [o0, o1, some (.ref ar), o3] st h P = (mx_R k_Law_law C 573 [o0, o1, some (.ref ar), o3] (.ref ar :: st) h P) := mx_xf rfl rfl
set_option maxRecDepth 100000 in
theorem x_Law_law_573 (C : mx_C) (o1 : Option Value) (o2 : Option Value) (o3 : Option Value) (ar : Nat) (st : mx_S) (h : mx_H) (P : mx_P) : mx_R k_Law_law C 573 [some (.ref ar), o1, o2, o3] st h P = (mx_R k_Law_law C 574 [some (.ref ar), o1, o2, o3] (.ref ar :: st) h P) := mx_xf rfl rfl
set_option maxRecDepth 100000 in
theorem x_Law_law_574 (C : mx_C) (o0 : Option Value) (o1 : Option Value) (o2 : Option Value) (xi : Int32) (st : mx_S) (h : mx_H) (P : mx_P) : mx_R k_Law_law C 574 [o0, o1, o2, some (.int xi)] st h P = (mx_R k_Law_law C 575 [o0, o1, o2, some (.int xi)] (.int xi :: st) h P) := mx_xf rfl rfl
set_option maxRecDepth 100000 in
theorem x_Law_law_575 (C : mx_C) (o0 : Option Value) (o1 : Option Value) (o2 : Option Value) (o3 : Option Value) (st : mx_S) (h : mx_H) (P : mx_P) : mx_R k_Law_law C 575 [o0, o1, o2, o3] st h P = (mx_R k_Law_law C 576 [o0, o1, o2, o3] (.int 1 :: st) h P) := mx_xf rfl rfl
set_option maxRecDepth 100000 in
theorem x_Law_law_576 (C : mx_C) (o0 : Option Value) (o1 : Option Value) (o2 : Option Value) (o3 : Option Value) (xi : Int32) (yi : Int32) (st : mx_S) (h : mx_H) (P : mx_P) : mx_R k_Law_law C 576 [o0, o1, o2, o3] (.int yi :: .int xi :: st) h P = (mx_R k_Law_law C 577 [o0, o1, o2, o3] (.int (xi + yi) :: st) h P) := mx_xf rfl rfl
set_option maxRecDepth 100000 in
theorem x_Law_law_577 (C : mx_C) (o0 : Option Value) (o1 : Option Value) (o2 : Option Value) (o3 : Option Value) (xi : Int32) (ar : Nat) (st : mx_S) (h : mx_H) (P : mx_P) : mx_R k_Law_law C 577 [o0, o1, o2, o3] (.int xi :: .ref ar :: st) h P = (mx_okr 103 ar h xi = true ∧ mx_R k_Law_law C 578 [o0, o1, o2, o3] (.int (h.1 ar xi.toNatClampNeg) :: st) h P) := mx_xg rfl rfl
set_option maxRecDepth 100000 in
theorem x_Law_law_578 (C : mx_C) (o1 : Option Value) (o2 : Option Value) (o3 : Option Value) (ar : Nat) (st : mx_S) (h : mx_H) (P : mx_P) : mx_R k_Law_law C 578 [some (.ref ar), o1, o2, o3] st h P = (mx_R k_Law_law C 579 [some (.ref ar), o1, o2, o3] (.ref ar :: st) h P) := mx_xf rfl rfl
set_option maxRecDepth 100000 in
theorem x_Law_law_579 (C : mx_C) (o0 : Option Value) (o1 : Option Value) (o2 : Option Value) (xi : Int32) (st : mx_S) (h : mx_H) (P : mx_P) : mx_R k_Law_law C 579 [o0, o1, o2, some (.int xi)] st h P = (mx_R k_Law_law C 580 [o0, o1, o2, some (.int xi)] (.int xi :: st) h P) := mx_xf rfl rfl
set_option maxRecDepth 100000 in
theorem x_Law_law_580 (C : mx_C) (o0 : Option Value) (o1 : Option Value) (o2 : Option Value) (o3 : Option Value) (st : mx_S) (h : mx_H) (P : mx_P) : mx_R k_Law_law C 580 [o0, o1, o2, o3] st h P = (mx_R k_Law_law C 581 [o0, o1, o2, o3] (.int 2 :: st) h P) := mx_xf rfl rfl
set_option maxRecDepth 100000 in
theorem x_Law_law_581 (C : mx_C) (o0 : Option Value) (o1 : Option Value) (o2 : Option Value) (o3 : Option Value) (xi : Int32) (yi : Int32) (st : mx_S) (h : mx_H) (P : mx_P) : mx_R k_Law_law C 581 [o0, o1, o2, o3] (.int yi :: .int xi :: st) h P = (mx_R k_Law_law C 582 [o0, o1, o2, o3] (.int (xi + yi) :: st) h P) := mx_xf rfl rfl
set_option maxRecDepth 100000 in
theorem x_Law_law_582 (C : mx_C) (o0 : Option Value) (o1 : Option Value) (o2 : Option Value) (o3 : Option Value) (xi : Int32) (ar : Nat) (st : mx_S) (h : mx_H) (P : mx_P) : mx_R k_Law_law C 582 [o0, o1, o2, o3] (.int xi :: .ref ar :: st) h P = (mx_okr 103 ar h xi = true ∧ mx_R k_Law_law C 583 [o0, o1, o2, o3] (.int (h.1 ar xi.toNatClampNeg) :: st) h P) := mx_xg rfl rfl
set_option maxRecDepth 100000 in
theorem x_Law_law_583 (C : mx_C) (o1 : Option Value) (o2 : Option Value) (o3 : Option Value) (ar : Nat) (st : mx_S) (h : mx_H) (P : mx_P) : mx_R k_Law_law C 583 [some (.ref ar), o1, o2, o3] st h P = (mx_R k_Law_law C 584 [some (.ref ar), o1, o2, o3] (.ref ar :: st) h P) := mx_xf rfl rfl
set_option maxRecDepth 100000 in
theorem x_Law_law_584 (C : mx_C) (o0 : Option Value) (o1 : Option Value) (o2 : Option Value) (xi : Int32) (st : mx_S) (h : mx_H) (P : mx_P) : mx_R k_Law_law C 584 [o0, o1, o2, some (.int xi)] st h P = (mx_R k_Law_law C 585 [o0, o1, o2, some (.int xi)] (.int xi :: st) h P) := mx_xf rfl rfl
set_option maxRecDepth 100000 in
theorem x_Law_law_585 (C : mx_C) (o0 : Option Value) (o1 : Option Value) (o2 : Option Value) (o3 : Option Value) (st : mx_S) (h : mx_H) (P : mx_P) : mx_R k_Law_law C 585 [o0, o1, o2, o3] st h P = (mx_R k_Law_law C 586 [o0, o1, o2, o3] (.int 3 :: st) h P) := mx_xf rfl rfl
set_option maxRecDepth 100000 in
theorem x_Law_law_586 (C : mx_C) (o0 : Option Value) (o1 : Option Value) (o2 : Option Value) (o3 : Option Value) (xi : Int32) (yi : Int32) (st : mx_S) (h : mx_H) (P : mx_P) : mx_R k_Law_law C 586 [o0, o1, o2, o3] (.int yi :: .int xi :: st) h P = (mx_R k_Law_law C 587 [o0, o1, o2, o3] (.int (xi + yi) :: st) h P) := mx_xf rfl rfl
set_option maxRecDepth 100000 in
theorem x_Law_law_587 (C : mx_C) (o0 : Option Value) (o1 : Option Value) (o2 : Option Value) (o3 : Option Value) (xi : Int32) (ar : Nat) (st : mx_S) (h : mx_H) (P : mx_P) : mx_R k_Law_law C 587 [o0, o1, o2, o3] (.int xi :: .ref ar :: st) h P = (mx_okr 103 ar h xi = true ∧ mx_R k_Law_law C 588 [o0, o1, o2, o3] (.int (h.1 ar xi.toNatClampNeg) :: st) h P) := mx_xg rfl rfl
set_option maxRecDepth 100000 in
theorem x_Law_law_588 (C : mx_C) (o1 : Option Value) (o2 : Option Value) (o3 : Option Value) (ar : Nat) (st : mx_S) (h : mx_H) (P : mx_P) : mx_R k_Law_law C 588 [some (.ref ar), o1, o2, o3] st h P = (mx_R k_Law_law C 589 [some (.ref ar), o1, o2, o3] (.ref ar :: st) h P) := mx_xf rfl rfl
set_option maxRecDepth 100000 in
theorem x_Law_law_589 (C : mx_C) (o0 : Option Value) (o1 : Option Value) (o2 : Option Value) (xi : Int32) (st : mx_S) (h : mx_H) (P : mx_P) : mx_R k_Law_law C 589 [o0, o1, o2, some (.int xi)] st h P = (mx_R k_Law_law C 590 [o0, o1, o2, some (.int xi)] (.int xi :: st) h P) := mx_xf rfl rfl
set_option maxRecDepth 100000 in
theorem x_Law_law_590 (C : mx_C) (o0 : Option Value) (o1 : Option Value) (o2 : Option Value) (o3 : Option Value) (st : mx_S) (h : mx_H) (P : mx_P) : mx_R k_Law_law C 590 [o0, o1, o2, o3] st h P = (mx_R k_Law_law C 591 [o0, o1, o2, o3] (.int 4 :: st) h P) := mx_xf rfl rfl
set_option maxRecDepth 100000 in
theorem x_Law_law_591 (C : mx_C) (o0 : Option Value) (o1 : Option Value) (o2 : Option Value) (o3 : Option Value) (xi : Int32) (yi : Int32) (st : mx_S) (h : mx_H) (P : mx_P) : mx_R k_Law_law C 591 [o0, o1, o2, o3] (.int yi :: .int xi :: st) h P = (mx_R k_Law_law C 592 [o0, o1, o2, o3] (.int (xi + yi) :: st) h P) := mx_xf rfl rfl
set_option maxRecDepth 100000 in
theorem x_Law_law_592 (C : mx_C) (o0 : Option Value) (o1 : Option Value) (o2 : Option Value) (o3 : Option Value) (xi : Int32) (ar : Nat) (st : mx_S) (h : mx_H) (P : mx_P) : mx_R k_Law_law C 592 [o0, o1, o2, o3] (.int xi :: .ref ar :: st) h P = (mx_okr 103 ar h xi = true ∧ mx_R k_Law_law C 593 [o0, o1, o2, o3] (.int (h.1 ar xi.toNatClampNeg) :: st) h P) := mx_xg rfl rfl
set_option maxRecDepth 100000 in
theorem x_Law_law_593 (C : mx_C) (o0 : Option Value) (o1 : Option Value) (o2 : Option Value) (o3 : Option Value) (va0 : Value) (va1 : Value) (va2 : Value) (va3 : Value) (va4 : Value) (vs0 : Value) (h : mx_H) (P : mx_P) : mx_R k_Law_law C 593 [o0, o1, o2, o3] (va4 :: va3 :: va2 :: va1 :: va0 :: [vs0]) h P = (∃ v h1, C 189 [va0, va1, va2, va3, va4] h v h1 ∧ mx_R k_Law_law C 596 [o0, o1, o2, o3] (v.toList ++ [vs0]) h1 P) := mx_xc rfl (Nat.le_of_ble_eq_true rfl) (Or.inl (Nat.le_of_ble_eq_true rfl)) rfl rfl
set_option maxRecDepth 100000 in
theorem x_Law_law_596 (C : mx_C) (o0 : Option Value) (o1 : Option Value) (o2 : Option Value) (o3 : Option Value) (xi : Int32) (yi : Int32) (st : mx_S) (h : mx_H) (P : mx_P) : mx_R k_Law_law C 596 [o0, o1, o2, o3] (.int yi :: .int xi :: st) h P = (if xi = yi then mx_R k_Law_law C 1309 [o0, o1, o2, o3] st h P else mx_R k_Law_law C 599 [o0, o1, o2, o3] st h P) := mx_xb rfl rfl
set_option maxRecDepth 100000 in
theorem x_Law_law_599 (C : mx_C) (o0 : Option Value) (o1 : Option Value) (o2 : Option Value) (o3 : Option Value) (st : mx_S) (h : mx_H) (P : mx_P) : mx_R k_Law_law C 599 [o0, o1, o2, o3] st h P = (mx_R k_Law_law C 600 [o0, o1, o2, o3] (.int 0 :: st) h P) := mx_xf rfl rfl
set_option maxRecDepth 100000 in
theorem x_Law_law_600 (C : mx_C) (o0 : Option Value) (o1 : Option Value) (o2 : Option Value) (o3 : Option Value) (xi : Int32) (h : mx_H) (P : mx_P) : mx_R k_Law_law C 600 [o0, o1, o2, o3] [.int xi] h P = ((xi = 0 ∨ xi = 1) ∧ P (some (.int xi)) h) := mx_xr2 rfl
set_option maxRecDepth 100000 in
theorem x_Law_law_601 (C : mx_C) (o0 : Option Value) (o2 : Option Value) (o3 : Option Value) (ar : Nat) (st : mx_S) (h : mx_H) (P : mx_P) : mx_R k_Law_law C 601 [o0, some (.ref ar), o2, o3] st h P = (mx_R k_Law_law C 602 [o0, some (.ref ar), o2, o3] (.ref ar :: st) h P) := mx_xf rfl rfl
set_option maxRecDepth 100000 in
theorem x_Law_law_602 (C : mx_C) (o1 : Option Value) (o2 : Option Value) (o3 : Option Value) (ar : Nat) (st : mx_S) (h : mx_H) (P : mx_P) : mx_R k_Law_law C 602 [some (.ref ar), o1, o2, o3] st h P = (mx_R k_Law_law C 603 [some (.ref ar), o1, o2, o3] (.ref ar :: st) h P) := mx_xf rfl rfl
set_option maxRecDepth 100000 in
theorem x_Law_law_603 (C : mx_C) (o0 : Option Value) (o1 : Option Value) (o2 : Option Value) (xi : Int32) (st : mx_S) (h : mx_H) (P : mx_P) : mx_R k_Law_law C 603 [o0, o1, o2, some (.int xi)] st h P = (mx_R k_Law_law C 604 [o0, o1, o2, some (.int xi)] (.int xi :: st) h P) := mx_xf rfl rfl
set_option maxRecDepth 100000 in
theorem x_Law_law_604 (C : mx_C) (o0 : Option Value) (o1 : Option Value) (o2 : Option Value) (o3 : Option Value) (st : mx_S) (h : mx_H) (P : mx_P) : mx_R k_Law_law C 604 [o0, o1, o2, o3] st h P = (mx_R k_Law_law C 605 [o0, o1, o2, o3] (.int 1 :: st) h P) := mx_xf rfl rfl
set_option maxRecDepth 100000 in
theorem x_Law_law_605 (C : mx_C) (o0 : Option Value) (o1 : Option Value) (o2 : Option Value) (o3 : Option Value) (xi : Int32) (yi : Int32) (st : mx_S) (h : mx_H) (P : mx_P) : mx_R k_Law_law C 605 [o0, o1, o2, o3] (.int yi :: .int xi :: st) h P = (mx_R k_Law_law C 606 [o0, o1, o2, o3] (.int (xi + yi) :: st) h P) := mx_xf rfl rfl
set_option maxRecDepth 100000 in
theorem x_Law_law_606 (C : mx_C) (o0 : Option Value) (o1 : Option Value) (o2 : Option Value) (o3 : Option Value) (xi : Int32) (ar : Nat) (st : mx_S) (h : mx_H) (P : mx_P) : mx_R k_Law_law C 606 [o0, o1, o2, o3] (.int xi :: .ref ar :: st) h P = (mx_okr 103 ar h xi = true ∧ mx_R k_Law_law C 607 [o0, o1, o2, o3] (.int (h.1 ar xi.toNatClampNeg) :: st) h P) := mx_xg rfl rfl
set_option maxRecDepth 100000 in
theorem x_Law_law_607 (C : mx_C) (o0 : Option Value) (o1 : Option Value) (o2 : Option Value) (o3 : Option Value) (va0 : Value) (va1 : Value) (h : mx_H) (P : mx_P) : mx_R k_Law_law C 607 [o0, o1, o2, o3] (va1 :: va0 :: []) h P = (∃ v h1, C 106 [va0, va1] h v h1 ∧ mx_R k_Law_law C 610 [o0, o1, o2, o3] (v.toList ++ []) h1 P) := mx_xc rfl (Nat.le_of_ble_eq_true rfl) (Or.inl (Nat.le_of_ble_eq_true rfl)) rfl rfl
set_option maxRecDepth 100000 in
theorem x_Law_law_610 (C : mx_C) (o0 : Option Value) (o1 : Option Value) (o3 : Option Value) (ar : Nat) (st : mx_S) (h : mx_H) (P : mx_P) : mx_R k_Law_law C 610 [o0, o1, some (.ref ar), o3] st h P = (mx_R k_Law_law C 611 [o0, o1, some (.ref ar), o3] (.ref ar :: st) h P) := mx_xf rfl rfl
set_option maxRecDepth 100000 in
theorem x_Law_law_611 (C : mx_C) (o1 : Option Value) (o2 : Option Value) (o3 : Option Value) (ar : Nat) (st : mx_S) (h : mx_H) (P : mx_P) : mx_R k_Law_law C 611 [some (.ref ar), o1, o2, o3] st h P = (mx_R k_Law_law C 612 [some (.ref ar), o1, o2, o3] (.ref ar :: st) h P) := mx_xf rfl rfl
set_option maxRecDepth 100000 in
theorem x_Law_law_612 (C : mx_C) (o0 : Option Value) (o1 : Option Value) (o2 : Option Value) (xi : Int32) (st : mx_S) (h : mx_H) (P : mx_P) : mx_R k_Law_law C 612 [o0, o1, o2, some (.int xi)] st h P = (mx_R k_Law_law C 613 [o0, o1, o2, some (.int xi)] (.int xi :: st) h P) := mx_xf rfl rfl
set_option maxRecDepth 100000 in
theorem x_Law_law_613 (C : mx_C) (o0 : Option Value) (o1 : Option Value) (o2 : Option Value) (o3 : Option Value) (st : mx_S) (h : mx_H) (P : mx_P) : mx_R k_Law_law C 613 [o0, o1, o2, o3] st h P = (mx_R k_Law_law C 614 [o0, o1, o2, o3] (.int 1 :: st) h P) := mx_xf rfl rfl
set_option maxRecDepth 100000 in
theorem x_Law_law_614 (C : mx_C) (o0 : Option Value) (o1 : Option Value) (o2 : Option Value) (o3 : Option Value) (xi : Int32) (yi : Int32) (st : mx_S) (h : mx_H) (P : mx_P) : mx_R k_Law_law C 614 [o0, o1, o2, o3] (.int yi :: .int xi :: st) h P = (mx_R k_Law_law C 615 [o0, o1, o2, o3] (.int (xi + yi) :: st) h P) := mx_xf rfl rfl
set_option maxRecDepth 100000 in
theorem x_Law_law_615 (C : mx_C) (o0 : Option Value) (o1 : Option Value) (o2 : Option Value) (o3 : Option Value) (xi : Int32) (ar : Nat) (st : mx_S) (h : mx_H) (P : mx_P) : mx_R k_Law_law C 615 [o0, o1, o2, o3] (.int xi :: .ref ar :: st) h P = (mx_okr 103 ar h xi = true ∧ mx_R k_Law_law C 616 [o0, o1, o2, o3] (.int (h.1 ar xi.toNatClampNeg) :: st) h P) := mx_xg rfl rfl
set_option maxRecDepth 100000 in
theorem x_Law_law_616 (C : mx_C) (o0 : Option Value) (o1 : Option Value) (o2 : Option Value) (o3 : Option Value) (va0 : Value) (va1 : Value) (vs0 : Value) (h : mx_H) (P : mx_P) : mx_R k_Law_law C 616 [o0, o1, o2, o3] (va1 :: va0 :: [vs0]) h P = (∃ v h1, C 191 [va0, va1] h v h1 ∧ mx_R k_Law_law C 619 [o0, o1, o2, o3] (v.toList ++ [vs0]) h1 P) := mx_xc rfl (Nat.le_of_ble_eq_true rfl) (Or.inl (Nat.le_of_ble_eq_true rfl)) rfl rfl
set_option maxRecDepth 100000 in
theorem x_Law_law_619 (C : mx_C) (o0 : Option Value) (o1 : Option Value) (o2 : Option Value) (o3 : Option Value) (xi : Int32) (yi : Int32) (st : mx_S) (h : mx_H) (P : mx_P) : mx_R k_Law_law C 619 [o0, o1, o2, o3] (.int yi :: .int xi :: st) h P = (if xi = yi then mx_R k_Law_law C 1309 [o0, o1, o2, o3] st h P else mx_R k_Law_law C 622 [o0, o1, o2, o3] st h P) := mx_xb rfl rfl
set_option maxRecDepth 100000 in
theorem x_Law_law_622 (C : mx_C) (o0 : Option Value) (o1 : Option Value) (o2 : Option Value) (o3 : Option Value) (st : mx_S) (h : mx_H) (P : mx_P) : mx_R k_Law_law C 622 [o0, o1, o2, o3] st h P = (mx_R k_Law_law C 623 [o0, o1, o2, o3] (.int 0 :: st) h P) := mx_xf rfl rfl
set_option maxRecDepth 100000 in
theorem x_Law_law_623 (C : mx_C) (o0 : Option Value) (o1 : Option Value) (o2 : Option Value) (o3 : Option Value) (xi : Int32) (h : mx_H) (P : mx_P) : mx_R k_Law_law C 623 [o0, o1, o2, o3] [.int xi] h P = ((xi = 0 ∨ xi = 1) ∧ P (some (.int xi)) h) := mx_xr2 rfl
set_option maxRecDepth 100000 in
theorem x_Law_law_624 (C : mx_C) (o0 : Option Value) (o2 : Option Value) (o3 : Option Value) (ar : Nat) (st : mx_S) (h : mx_H) (P : mx_P) : mx_R k_Law_law C 624 [o0, some (.ref ar), o2, o3] st h P = (mx_R k_Law_law C 625 [o0, some (.ref ar), o2, o3] (.ref ar :: st) h P) := mx_xf rfl rfl
set_option maxRecDepth 100000 in
theorem x_Law_law_625 (C : mx_C) (o1 : Option Value) (o2 : Option Value) (o3 : Option Value) (ar : Nat) (st : mx_S) (h : mx_H) (P : mx_P) : mx_R k_Law_law C 625 [some (.ref ar), o1, o2, o3] st h P = (mx_R k_Law_law C 626 [some (.ref ar), o1, o2, o3] (.ref ar :: st) h P) := mx_xf rfl rfl
set_option maxRecDepth 100000 in
theorem x_Law_law_626 (C : mx_C) (o0 : Option Value) (o1 : Option Value) (o2 : Option Value) (xi : Int32) (st : mx_S) (h : mx_H) (P : mx_P) : mx_R k_Law_law C 626 [o0, o1, o2, some (.int xi)] st h P = (mx_R k_Law_law C 627 [o0, o1, o2, some (.int xi)] (.int xi :: st) h P) := mx_xf rfl rfl
set_option maxRecDepth 100000 in
theorem x_Law_law_627 (C : mx_C) (o0 : Option Value) (o1 : Option Value) (o2 : Option Value) (o3 : Option Value) (st : mx_S) (h : mx_H) (P : mx_P) : mx_R k_Law_law C 627 [o0, o1, o2, o3] st h P = (mx_R k_Law_law C 628 [o0, o1, o2, o3] (.int 1 :: st) h P) := mx_xf rfl rfl
set_option maxRecDepth 100000 in
theorem x_Law_law_628 (C : mx_C) (o0 : Option Value) (o1 : Option Value) (o2 : Option Value) (o3 : Option Value) (xi : Int32) (yi : Int32) (st : mx_S) (h : mx_H) (P : mx_P) : mx_R k_Law_law C 628 [o0, o1, o2, o3] (.int yi :: .int xi :: st) h P = (mx_R k_Law_law C 629 [o0, o1, o2, o3] (.int (xi + yi) :: st) h P) := mx_xf rfl rfl
set_option maxRecDepth 100000 in
theorem x_Law_law_629 (C : mx_C) (o0 : Option Value) (o1 : Option Value) (o2 : Option Value) (o3 : Option Value) (xi : Int32) (ar : Nat) (st : mx_S) (h : mx_H) (P : mx_P) : mx_R k_Law_law C 629 [o0, o1, o2, o3] (.int xi :: .ref ar :: st) h P = (mx_okr 103 ar h xi = true ∧ mx_R k_Law_law C 630 [o0, o1, o2, o3] (.int (h.1 ar xi.toNatClampNeg) :: st) h P) := mx_xg rfl rfl
set_option maxRecDepth 100000 in
theorem x_Law_law_630 (C : mx_C) (o0 : Option Value) (o1 : Option Value) (o2 : Option Value) (o3 : Option Value) (va0 : Value) (va1 : Value) (h : mx_H) (P : mx_P) : mx_R k_Law_law C 630 [o0, o1, o2, o3] (va1 :: va0 :: []) h P = (∃ v h1, C 107 [va0, va1] h v h1 ∧ mx_R k_Law_law C 633 [o0, o1, o2, o3] (v.toList ++ []) h1 P) := mx_xc rfl (Nat.le_of_ble_eq_true rfl) (Or.inl (Nat.le_of_ble_eq_true rfl)) rfl rfl
set_option maxRecDepth 100000 in
theorem x_Law_law_633 (C : mx_C) (o0 : Option Value) (o1 : Option Value) (o3 : Option Value) (ar : Nat) (st : mx_S) (h : mx_H) (P : mx_P) : mx_R k_Law_law C 633 [o0, o1, some (.ref ar), o3] st h P = (mx_R k_Law_law C 634 [o0, o1, some (.ref ar), o3] (.ref ar :: st) h P) := mx_xf rfl rfl
set_option maxRecDepth 100000 in
theorem x_Law_law_634 (C : mx_C) (o1 : Option Value) (o2 : Option Value) (o3 : Option Value) (ar : Nat) (st : mx_S) (h : mx_H) (P : mx_P) : mx_R k_Law_law C 634 [some (.ref ar), o1, o2, o3] st h P = (mx_R k_Law_law C 635 [some (.ref ar), o1, o2, o3] (.ref ar :: st) h P) := mx_xf rfl rfl
set_option maxRecDepth 100000 in
theorem x_Law_law_635 (C : mx_C) (o0 : Option Value) (o1 : Option Value) (o2 : Option Value) (xi : Int32) (st : mx_S) (h : mx_H) (P : mx_P) : mx_R k_Law_law C 635 [o0, o1, o2, some (.int xi)] st h P = (mx_R k_Law_law C 636 [o0, o1, o2, some (.int xi)] (.int xi :: st) h P) := mx_xf rfl rfl
set_option maxRecDepth 100000 in
theorem x_Law_law_636 (C : mx_C) (o0 : Option Value) (o1 : Option Value) (o2 : Option Value) (o3 : Option Value) (st : mx_S) (h : mx_H) (P : mx_P) : mx_R k_Law_law C 636 [o0, o1, o2, o3] st h P = (mx_R k_Law_law C 637 [o0, o1, o2, o3] (.int 1 :: st) h P) := mx_xf rfl rfl
set_option maxRecDepth 100000 in
theorem x_Law_law_637 (C : mx_C) (o0 : Option Value) (o1 : Option Value) (o2 : Option Value) (o3 : Option Value) (xi : Int32) (yi : Int32) (st : mx_S) (h : mx_H) (P : mx_P) : mx_R k_Law_law C 637 [o0, o1, o2, o3] (.int yi :: .int xi :: st) h P = (mx_R k_Law_law C 638 [o0, o1, o2, o3] (.int (xi + yi) :: st) h P) := mx_xf rfl rfl
set_option maxRecDepth 100000 in
theorem x_Law_law_638 (C : mx_C) (o0 : Option Value) (o1 : Option Value) (o2 : Option Value) (o3 : Option Value) (xi : Int32) (ar : Nat) (st : mx_S) (h : mx_H) (P : mx_P) : mx_R k_Law_law C 638 [o0, o1, o2, o3] (.int xi :: .ref ar :: st) h P = (mx_okr 103 ar h xi = true ∧ mx_R k_Law_law C 639 [o0, o1, o2, o3] (.int (h.1 ar xi.toNatClampNeg) :: st) h P) := mx_xg rfl rfl
set_option maxRecDepth 100000 in
theorem x_Law_law_639 (C : mx_C) (o0 : Option Value) (o1 : Option Value) (o2 : Option Value) (o3 : Option Value) (va0 : Value) (va1 : Value) (vs0 : Value) (h : mx_H) (P : mx_P) : mx_R k_Law_law C 639 [o0, o1, o2, o3] (va1 :: va0 :: [vs0]) h P = (∃ v h1, C 192 [va0, va1] h v h1 ∧ mx_R k_Law_law C 642 [o0, o1, o2, o3] (v.toList ++ [vs0]) h1 P) := mx_xc rfl (Nat.le_of_ble_eq_true rfl) (Or.inl (Nat.le_of_ble_eq_true rfl)) rfl rfl
set_option maxRecDepth 100000 in
theorem x_Law_law_642 (C : mx_C) (o0 : Option Value) (o1 : Option Value) (o2 : Option Value) (o3 : Option Value) (xi : Int32) (yi : Int32) (st : mx_S) (h : mx_H) (P : mx_P) : mx_R k_Law_law C 642 [o0, o1, o2, o3] (.int yi :: .int xi :: st) h P = (if xi = yi then mx_R k_Law_law C 1309 [o0, o1, o2, o3] st h P else mx_R k_Law_law C 645 [o0, o1, o2, o3] st h P) := mx_xb rfl rfl
set_option maxRecDepth 100000 in
theorem x_Law_law_645 (C : mx_C) (o0 : Option Value) (o1 : Option Value) (o2 : Option Value) (o3 : Option Value) (st : mx_S) (h : mx_H) (P : mx_P) : mx_R k_Law_law C 645 [o0, o1, o2, o3] st h P = (mx_R k_Law_law C 646 [o0, o1, o2, o3] (.int 0 :: st) h P) := mx_xf rfl rfl
set_option maxRecDepth 100000 in
theorem x_Law_law_646 (C : mx_C) (o0 : Option Value) (o1 : Option Value) (o2 : Option Value) (o3 : Option Value) (xi : Int32) (h : mx_H) (P : mx_P) : mx_R k_Law_law C 646 [o0, o1, o2, o3] [.int xi] h P = ((xi = 0 ∨ xi = 1) ∧ P (some (.int xi)) h) := mx_xr2 rfl
set_option maxRecDepth 100000 in
theorem x_Law_law_647 (C : mx_C) (o0 : Option Value) (o2 : Option Value) (o3 : Option Value) (ar : Nat) (st : mx_S) (h : mx_H) (P : mx_P) : mx_R k_Law_law C 647 [o0, some (.ref ar), o2, o3] st h P = (mx_R k_Law_law C 648 [o0, some (.ref ar), o2, o3] (.ref ar :: st) h P) := mx_xf rfl rfl
set_option maxRecDepth 100000 in
theorem x_Law_law_648 (C : mx_C) (o1 : Option Value) (o2 : Option Value) (o3 : Option Value) (ar : Nat) (st : mx_S) (h : mx_H) (P : mx_P) : mx_R k_Law_law C 648 [some (.ref ar), o1, o2, o3] st h P = (mx_R k_Law_law C 649 [some (.ref ar), o1, o2, o3] (.ref ar :: st) h P) := mx_xf rfl rfl
set_option maxRecDepth 100000 in
theorem x_Law_law_649 (C : mx_C) (o0 : Option Value) (o1 : Option Value) (o2 : Option Value) (xi : Int32) (st : mx_S) (h : mx_H) (P : mx_P) : mx_R k_Law_law C 649 [o0, o1, o2, some (.int xi)] st h P = (mx_R k_Law_law C 650 [o0, o1, o2, some (.int xi)] (.int xi :: st) h P) := mx_xf rfl rfl
set_option maxRecDepth 100000 in
theorem x_Law_law_650 (C : mx_C) (o0 : Option Value) (o1 : Option Value) (o2 : Option Value) (o3 : Option Value) (st : mx_S) (h : mx_H) (P : mx_P) : mx_R k_Law_law C 650 [o0, o1, o2, o3] st h P = (mx_R k_Law_law C 651 [o0, o1, o2, o3] (.int 1 :: st) h P) := mx_xf rfl rfl
set_option maxRecDepth 100000 in
theorem x_Law_law_651 (C : mx_C) (o0 : Option Value) (o1 : Option Value) (o2 : Option Value) (o3 : Option Value) (xi : Int32) (yi : Int32) (st : mx_S) (h : mx_H) (P : mx_P) : mx_R k_Law_law C 651 [o0, o1, o2, o3] (.int yi :: .int xi :: st) h P = (mx_R k_Law_law C 652 [o0, o1, o2, o3] (.int (xi + yi) :: st) h P) := mx_xf rfl rfl
set_option maxRecDepth 100000 in
theorem x_Law_law_652 (C : mx_C) (o0 : Option Value) (o1 : Option Value) (o2 : Option Value) (o3 : Option Value) (xi : Int32) (ar : Nat) (st : mx_S) (h : mx_H) (P : mx_P) : mx_R k_Law_law C 652 [o0, o1, o2, o3] (.int xi :: .ref ar :: st) h P = (mx_okr 103 ar h xi = true ∧ mx_R k_Law_law C 653 [o0, o1, o2, o3] (.int (h.1 ar xi.toNatClampNeg) :: st) h P) := mx_xg rfl rfl
set_option maxRecDepth 100000 in
theorem x_Law_law_653 (C : mx_C) (o0 : Option Value) (o1 : Option Value) (o2 : Option Value) (o3 : Option Value) (va0 : Value) (va1 : Value) (h : mx_H) (P : mx_P) : mx_R k_Law_law C 653 [o0, o1, o2, o3] (va1 :: va0 :: []) h P = (∃ v h1, C 108 [va0, va1] h v h1 ∧ mx_R k_Law_law C 656 [o0, o1, o2, o3] (v.toList ++ []) h1 P) := mx_xc rfl (Nat.le_of_ble_eq_true rfl) (Or.inl (Nat.le_of_ble_eq_true rfl)) rfl rfl
set_option maxRecDepth 100000 in
theorem x_Law_law_656 (C : mx_C) (o0 : Option Value) (o1 : Option Value) (o3 : Option Value) (ar : Nat) (st : mx_S) (h : mx_H) (P : mx_P) : mx_R k_Law_law C 656 [o0, o1, some (.ref ar), o3] st h P = (mx_R k_Law_law C 657 [o0, o1, some (.ref ar), o3] (.ref ar :: st) h P) := mx_xf rfl rfl
set_option maxRecDepth 100000 in
theorem x_Law_law_657 (C : mx_C) (o1 : Option Value) (o2 : Option Value) (o3 : Option Value) (ar : Nat) (st : mx_S) (h : mx_H) (P : mx_P) : mx_R k_Law_law C 657 [some (.ref ar), o1, o2, o3] st h P = (mx_R k_Law_law C 658 [some (.ref ar), o1, o2, o3] (.ref ar :: st) h P) := mx_xf rfl rfl
set_option maxRecDepth 100000 in
theorem x_Law_law_658 (C : mx_C) (o0 : Option Value) (o1 : Option Value) (o2 : Option Value) (xi : Int32) (st : mx_S) (h : mx_H) (P : mx_P) : mx_R k_Law_law C 658 [o0, o1, o2, some (.int xi)] st h P = (mx_R k_Law_law C 659 [o0, o1, o2, some (.int xi)] (.int xi :: st) h P) := mx_xf rfl rfl
set_option maxRecDepth 100000 in
theorem x_Law_law_659 (C : mx_C) (o0 : Option Value) (o1 : Option Value) (o2 : Option Value) (o3 : Option Value) (st : mx_S) (h : mx_H) (P : mx_P) : mx_R k_Law_law C 659 [o0, o1, o2, o3] st h P = (mx_R k_Law_law C 660 [o0, o1, o2, o3] (.int 1 :: st) h P) := mx_xf rfl rfl
set_option maxRecDepth 100000 in
theorem x_Law_law_660 (C : mx_C) (o0 : Option Value) (o1 : Option Value) (o2 : Option Value) (o3 : Option Value) (xi : Int32) (yi : Int32) (st : mx_S) (h : mx_H) (P : mx_P) : mx_R k_Law_law C 660 [o0, o1, o2, o3] (.int yi :: .int xi :: st) h P = (mx_R k_Law_law C 661 [o0, o1, o2, o3] (.int (xi + yi) :: st) h P) := mx_xf rfl rfl
set_option maxRecDepth 100000 in
theorem x_Law_law_661 (C : mx_C) (o0 : Option Value) (o1 : Option Value) (o2 : Option Value) (o3 : Option Value) (xi : Int32) (ar : Nat) (st : mx_S) (h : mx_H) (P : mx_P) : mx_R k_Law_law C 661 [o0, o1, o2, o3] (.int xi :: .ref ar :: st) h P = (mx_okr 103 ar h xi = true ∧ mx_R k_Law_law C 662 [o0, o1, o2, o3] (.int (h.1 ar xi.toNatClampNeg) :: st) h P) := mx_xg rfl rfl
set_option maxRecDepth 100000 in
theorem x_Law_law_662 (C : mx_C) (o0 : Option Value) (o1 : Option Value) (o2 : Option Value) (o3 : Option Value) (va0 : Value) (va1 : Value) (vs0 : Value) (h : mx_H) (P : mx_P) : mx_R k_Law_law C 662 [o0, o1, o2, o3] (va1 :: va0 :: [vs0]) h P = (∃ v h1, C 193 [va0, va1] h v h1 ∧ mx_R k_Law_law C 665 [o0, o1, o2, o3] (v.toList ++ [vs0]) h1 P) := mx_xc rfl (Nat.le_of_ble_eq_true rfl) (Or.inl (Nat.le_of_ble_eq_true rfl)) rfl rfl
set_option maxRecDepth 100000 in
theorem x_Law_law_665 (C : mx_C) (o0 : Option Value) (o1 : Option Value) (o2 : Option Value) (o3 : Option Value) (xi : Int32) (yi : Int32) (st : mx_S) (h : mx_H) (P : mx_P) : mx_R k_Law_law C 665 [o0, o1, o2, o3] (.int yi :: .int xi :: st) h P = (if xi = yi then mx_R k_Law_law C 1309 [o0, o1, o2, o3] st h P else mx_R k_Law_law C 668 [o0, o1, o2, o3] st h P) := mx_xb rfl rfl
set_option maxRecDepth 100000 in
theorem x_Law_law_668 (C : mx_C) (o0 : Option Value) (o1 : Option Value) (o2 : Option Value) (o3 : Option Value) (st : mx_S) (h : mx_H) (P : mx_P) : mx_R k_Law_law C 668 [o0, o1, o2, o3] st h P = (mx_R k_Law_law C 669 [o0, o1, o2, o3] (.int 0 :: st) h P) := mx_xf rfl rfl
set_option maxRecDepth 100000 in
theorem x_Law_law_669 (C : mx_C) (o0 : Option Value) (o1 : Option Value) (o2 : Option Value) (o3 : Option Value) (xi : Int32) (h : mx_H) (P : mx_P) : mx_R k_Law_law C 669 [o0, o1, o2, o3] [.int xi] h P = ((xi = 0 ∨ xi = 1) ∧ P (some (.int xi)) h) := mx_xr2 rfl
set_option maxRecDepth 100000 in
theorem x_Law_law_670 (C : mx_C) (o0 : Option Value) (o2 : Option Value) (o3 : Option Value) (ar : Nat) (st : mx_S) (h : mx_H) (P : mx_P) : mx_R k_Law_law C 670 [o0, some (.ref ar), o2, o3] st h P = (mx_R k_Law_law C 671 [o0, some (.ref ar), o2, o3] (.ref ar :: st) h P) := mx_xf rfl rfl
set_option maxRecDepth 100000 in
theorem x_Law_law_671 (C : mx_C) (o1 : Option Value) (o2 : Option Value) (o3 : Option Value) (ar : Nat) (st : mx_S) (h : mx_H) (P : mx_P) : mx_R k_Law_law C 671 [some (.ref ar), o1, o2, o3] st h P = (mx_R k_Law_law C 672 [some (.ref ar), o1, o2, o3] (.ref ar :: st) h P) := mx_xf rfl rfl
set_option maxRecDepth 100000 in
theorem x_Law_law_672 (C : mx_C) (o0 : Option Value) (o1 : Option Value) (o2 : Option Value) (xi : Int32) (st : mx_S) (h : mx_H) (P : mx_P) : mx_R k_Law_law C 672 [o0, o1, o2, some (.int xi)] st h P = (mx_R k_Law_law C 673 [o0, o1, o2, some (.int xi)] (.int xi :: st) h P) := mx_xf rfl rfl
set_option maxRecDepth 100000 in
theorem x_Law_law_673 (C : mx_C) (o0 : Option Value) (o1 : Option Value) (o2 : Option Value) (o3 : Option Value) (st : mx_S) (h : mx_H) (P : mx_P) : mx_R k_Law_law C 673 [o0, o1, o2, o3] st h P = (mx_R k_Law_law C 674 [o0, o1, o2, o3] (.int 1 :: st) h P) := mx_xf rfl rfl
set_option maxRecDepth 100000 in
theorem x_Law_law_674 (C : mx_C) (o0 : Option Value) (o1 : Option Value) (o2 : Option Value) (o3 : Option Value) (xi : Int32) (yi : Int32) (st : mx_S) (h : mx_H) (P : mx_P) : mx_R k_Law_law C 674 [o0, o1, o2, o3] (.int yi :: .int xi :: st) h P = (mx_R k_Law_law C 675 [o0, o1, o2, o3] (.int (xi + yi) :: st) h P) := mx_xf rfl rfl
set_option maxRecDepth 100000 in
theorem x_Law_law_675 (C : mx_C) (o0 : Option Value) (o1 : Option Value) (o2 : Option Value) (o3 : Option Value) (xi : Int32) (ar : Nat) (st : mx_S) (h : mx_H) (P : mx_P) : mx_R k_Law_law C 675 [o0, o1, o2, o3] (.int xi :: .ref ar :: st) h P = (mx_okr 103 ar h xi = true ∧ mx_R k_Law_law C 676 [o0, o1, o2, o3] (.int (h.1 ar xi.toNatClampNeg) :: st) h P) := mx_xg rfl rfl
set_option maxRecDepth 100000 in
theorem x_Law_law_676 (C : mx_C) (o0 : Option Value) (o1 : Option Value) (o2 : Option Value) (o3 : Option Value) (va0 : Value) (va1 : Value) (h : mx_H) (P : mx_P) : mx_R k_Law_law C 676 [o0, o1, o2, o3] (va1 :: va0 :: []) h P = (∃ v h1, C 109 [va0, va1] h v h1 ∧ mx_R k_Law_law C 679 [o0, o1, o2, o3] (v.toList ++ []) h1 P) := mx_xc rfl (Nat.le_of_ble_eq_true rfl) (Or.inl (Nat.le_of_ble_eq_true rfl)) rfl rfl
set_option maxRecDepth 100000 in
theorem x_Law_law_679 (C : mx_C) (o0 : Option Value) (o1 : Option Value) (o3 : Option Value) (ar : Nat) (st : mx_S) (h : mx_H) (P : mx_P) : mx_R k_Law_law C 679 [o0, o1, some (.ref ar), o3] st h P = (mx_R k_Law_law C 680 [o0, o1, some (.ref ar), o3] (.ref ar :: st) h P) := mx_xf rfl rfl
set_option maxRecDepth 100000 in
theorem x_Law_law_680 (C : mx_C) (o1 : Option Value) (o2 : Option Value) (o3 : Option Value) (ar : Nat) (st : mx_S) (h : mx_H) (P : mx_P) : mx_R k_Law_law C 680 [some (.ref ar), o1, o2, o3] st h P = (mx_R k_Law_law C 681 [some (.ref ar), o1, o2, o3] (.ref ar :: st) h P) := mx_xf rfl rfl
set_option maxRecDepth 100000 in
theorem x_Law_law_681 (C : mx_C) (o0 : Option Value) (o1 : Option Value) (o2 : Option Value) (xi : Int32) (st : mx_S) (h : mx_H) (P : mx_P) : mx_R k_Law_law C 681 [o0, o1, o2, some (.int xi)] st h P = (mx_R k_Law_law C 682 [o0, o1, o2, some (.int xi)] (.int xi :: st) h P) := mx_xf rfl rfl
set_option maxRecDepth 100000 in
theorem x_Law_law_682 (C : mx_C) (o0 : Option Value) (o1 : Option Value) (o2 : Option Value) (o3 : Option Value) (st : mx_S) (h : mx_H) (P : mx_P) : mx_R k_Law_law C 682 [o0, o1, o2, o3] st h P = (mx_R k_Law_law C 683 [o0, o1, o2, o3] (.int 1 :: st) h P) := mx_xf rfl rfl
set_option maxRecDepth 100000 in
theorem x_Law_law_683 (C : mx_C) (o0 : Option Value) (o1 : Option Value) (o2 : Option Value) (o3 : Option Value) (xi : Int32) (yi : Int32) (st : mx_S) (h : mx_H) (P : mx_P) : mx_R k_Law_law C 683 [o0, o1, o2, o3] (.int yi :: .int xi :: st) h P = (mx_R k_Law_law C 684 [o0, o1, o2, o3] (.int (xi + yi) :: st) h P) := mx_xf rfl rfl
set_option maxRecDepth 100000 in
theorem x_Law_law_684 (C : mx_C) (o0 : Option Value) (o1 : Option Value) (o2 : Option Value) (o3 : Option Value) (xi : Int32) (ar : Nat) (st : mx_S) (h : mx_H) (P : mx_P) : mx_R k_Law_law C 684 [o0, o1, o2, o3] (.int xi :: .ref ar :: st) h P = (mx_okr 103 ar h xi = true ∧ mx_R k_Law_law C 685 [o0, o1, o2, o3] (.int (h.1 ar xi.toNatClampNeg) :: st) h P) := mx_xg rfl rfl
set_option maxRecDepth 100000 in
theorem x_Law_law_685 (C : mx_C) (o0 : Option Value) (o1 : Option Value) (o2 : Option Value) (o3 : Option Value) (va0 : Value) (va1 : Value) (vs0 : Value) (h : mx_H) (P : mx_P) : mx_R k_Law_law C 685 [o0, o1, o2, o3] (va1 :: va0 :: [vs0]) h P = (∃ v h1, C 195 [va0, va1] h v h1 ∧ mx_R k_Law_law C 688 [o0, o1, o2, o3] (v.toList ++ [vs0]) h1 P) := mx_xc rfl (Nat.le_of_ble_eq_true rfl) (Or.inl (Nat.le_of_ble_eq_true rfl)) rfl rfl
set_option maxRecDepth 100000 in
theorem x_Law_law_688 (C : mx_C) (o0 : Option Value) (o1 : Option Value) (o2 : Option Value) (o3 : Option Value) (xi : Int32) (yi : Int32) (st : mx_S) (h : mx_H) (P : mx_P) : mx_R k_Law_law C 688 [o0, o1, o2, o3] (.int yi :: .int xi :: st) h P = (if xi = yi then mx_R k_Law_law C 1309 [o0, o1, o2, o3] st h P else mx_R k_Law_law C 691 [o0, o1, o2, o3] st h P) := mx_xb rfl rfl
set_option maxRecDepth 100000 in
theorem x_Law_law_691 (C : mx_C) (o0 : Option Value) (o1 : Option Value) (o2 : Option Value) (o3 : Option Value) (st : mx_S) (h : mx_H) (P : mx_P) : mx_R k_Law_law C 691 [o0, o1, o2, o3] st h P = (mx_R k_Law_law C 692 [o0, o1, o2, o3] (.int 0 :: st) h P) := mx_xf rfl rfl
set_option maxRecDepth 100000 in
theorem x_Law_law_692 (C : mx_C) (o0 : Option Value) (o1 : Option Value) (o2 : Option Value) (o3 : Option Value) (xi : Int32) (h : mx_H) (P : mx_P) : mx_R k_Law_law C 692 [o0, o1, o2, o3] [.int xi] h P = ((xi = 0 ∨ xi = 1) ∧ P (some (.int xi)) h) := mx_xr2 rfl
set_option maxRecDepth 100000 in
theorem x_Law_law_693 (C : mx_C) (o0 : Option Value) (o2 : Option Value) (o3 : Option Value) (ar : Nat) (st : mx_S) (h : mx_H) (P : mx_P) : mx_R k_Law_law C 693 [o0, some (.ref ar), o2, o3] st h P = (mx_R k_Law_law C 694 [o0, some (.ref ar), o2, o3] (.ref ar :: st) h P) := mx_xf rfl rfl
set_option maxRecDepth 100000 in
theorem x_Law_law_694 (C : mx_C) (o0 : Option Value) (o1 : Option Value) (o2 : Option Value) (o3 : Option Value) (va0 : Value) (h : mx_H) (P : mx_P) : mx_R k_Law_law C 694 [o0, o1, o2, o3] (va0 :: []) h P = (∃ v h1, C 110 [va0] h v h1 ∧ mx_R k_Law_law C 697 [o0, o1, o2, o3] (v.toList ++ []) h1 P) := mx_xc rfl (Nat.le_of_ble_eq_true rfl) (Or.inl (Nat.le_of_ble_eq_true rfl)) rfl rfl
set_option maxRecDepth 100000 in
theorem x_Law_law_697 (C : mx_C) (o0 : Option Value) (o1 : Option Value) (o3 : Option Value) (ar : Nat) (st : mx_S) (h : mx_H) (P : mx_P) : mx_R k_Law_law C 697 [o0, o1, some (.ref ar), o3] st h P = (mx_R k_Law_law C 698 [o0, o1, some (.ref ar), o3] (.ref ar :: st) h P) := mx_xf rfl rfl
set_option maxRecDepth 100000 in
theorem x_Law_law_698 (C : mx_C) (o0 : Option Value) (o1 : Option Value) (o2 : Option Value) (o3 : Option Value) (va0 : Value) (vs0 : Value) (h : mx_H) (P : mx_P) : mx_R k_Law_law C 698 [o0, o1, o2, o3] (va0 :: [vs0]) h P = (∃ v h1, C 196 [va0] h v h1 ∧ mx_R k_Law_law C 701 [o0, o1, o2, o3] (v.toList ++ [vs0]) h1 P) := mx_xc rfl (Nat.le_of_ble_eq_true rfl) (Or.inl (Nat.le_of_ble_eq_true rfl)) rfl rfl
set_option maxRecDepth 100000 in
theorem x_Law_law_701 (C : mx_C) (o0 : Option Value) (o1 : Option Value) (o2 : Option Value) (o3 : Option Value) (xi : Int32) (yi : Int32) (st : mx_S) (h : mx_H) (P : mx_P) : mx_R k_Law_law C 701 [o0, o1, o2, o3] (.int yi :: .int xi :: st) h P = (if xi = yi then mx_R k_Law_law C 1309 [o0, o1, o2, o3] st h P else mx_R k_Law_law C 704 [o0, o1, o2, o3] st h P) := mx_xb rfl rfl
set_option maxRecDepth 100000 in
theorem x_Law_law_704 (C : mx_C) (o0 : Option Value) (o1 : Option Value) (o2 : Option Value) (o3 : Option Value) (st : mx_S) (h : mx_H) (P : mx_P) : mx_R k_Law_law C 704 [o0, o1, o2, o3] st h P = (mx_R k_Law_law C 705 [o0, o1, o2, o3] (.int 0 :: st) h P) := mx_xf rfl rfl
set_option maxRecDepth 100000 in
theorem x_Law_law_705 (C : mx_C) (o0 : Option Value) (o1 : Option Value) (o2 : Option Value) (o3 : Option Value) (xi : Int32) (h : mx_H) (P : mx_P) : mx_R k_Law_law C 705 [o0, o1, o2, o3] [.int xi] h P = ((xi = 0 ∨ xi = 1) ∧ P (some (.int xi)) h) := mx_xr2 rfl
set_option maxRecDepth 100000 in
theorem x_Law_law_706 (C : mx_C) (o0 : Option Value) (o2 : Option Value) (o3 : Option Value) (ar : Nat) (st : mx_S) (h : mx_H) (P : mx_P) : mx_R k_Law_law C 706 [o0, some (.ref ar), o2, o3] st h P = (mx_R k_Law_law C 707 [o0, some (.ref ar), o2, o3] (.ref ar :: st) h P) := mx_xf rfl rfl
set_option maxRecDepth 100000 in
theorem x_Law_law_707 (C : mx_C) (o1 : Option Value) (o2 : Option Value) (o3 : Option Value) (ar : Nat) (st : mx_S) (h : mx_H) (P : mx_P) : mx_R k_Law_law C 707 [some (.ref ar), o1, o2, o3] st h P = (mx_R k_Law_law C 708 [some (.ref ar), o1, o2, o3] (.ref ar :: st) h P) := mx_xf rfl rfl
set_option maxRecDepth 100000 in
theorem x_Law_law_708 (C : mx_C) (o0 : Option Value) (o1 : Option Value) (o2 : Option Value) (xi : Int32) (st : mx_S) (h : mx_H) (P : mx_P) : mx_R k_Law_law C 708 [o0, o1, o2, some (.int xi)] st h P = (mx_R k_Law_law C 709 [o0, o1, o2, some (.int xi)] (.int xi :: st) h P) := mx_xf rfl rfl
set_option maxRecDepth 100000 in
theorem x_Law_law_709 (C : mx_C) (o0 : Option Value) (o1 : Option Value) (o2 : Option Value) (o3 : Option Value) (st : mx_S) (h : mx_H) (P : mx_P) : mx_R k_Law_law C 709 [o0, o1, o2, o3] st h P = (mx_R k_Law_law C 710 [o0, o1, o2, o3] (.int 1 :: st) h P) := mx_xf rfl rfl
set_option maxRecDepth 100000 in
theorem x_Law_law_710 (C : mx_C) (o0 : Option Value) (o1 : Option Value) (o2 : Option Value) (o3 : Option Value) (xi : Int32) (yi : Int32) (st : mx_S) (h : mx_H) (P : mx_P) : mx_R k_Law_law C 710 [o0, o1, o2, o3] (.int yi :: .int xi :: st) h P = (mx_R k_Law_law C 711 [o0, o1, o2, o3] (.int (xi + yi) :: st) h P) := mx_xf rfl rfl
set_option maxRecDepth 100000 in
theorem x_Law_law_711 (C : mx_C) (o0 : Option Value) (o1 : Option Value) (o2 : Option Value) (o3 : Option Value) (xi : Int32) (ar : Nat) (st : mx_S) (h : mx_H) (P : mx_P) : mx_R k_Law_law C 711 [o0, o1, o2, o3] (.int xi :: .ref ar :: st) h P = (mx_okr 103 ar h xi = true ∧ mx_R k_Law_law C 712 [o0, o1, o2, o3] (.int (h.1 ar xi.toNatClampNeg) :: st) h P) := mx_xg rfl rfl
set_option maxRecDepth 100000 in
theorem x_Law_law_712 (C : mx_C) (o0 : Option Value) (o1 : Option Value) (o2 : Option Value) (o3 : Option Value) (va0 : Value) (va1 : Value) (h : mx_H) (P : mx_P) : mx_R k_Law_law C 712 [o0, o1, o2, o3] (va1 :: va0 :: []) h P = (∃ v h1, C 111 [va0, va1] h v h1 ∧ mx_R k_Law_law C 715 [o0, o1, o2, o3] (v.toList ++ []) h1 P) := mx_xc rfl (Nat.le_of_ble_eq_true rfl) (Or.inl (Nat.le_of_ble_eq_true rfl)) rfl rfl
set_option maxRecDepth 100000 in
theorem x_Law_law_715 (C : mx_C) (o0 : Option Value) (o1 : Option Value) (o3 : Option Value) (ar : Nat) (st : mx_S) (h : mx_H) (P : mx_P) : mx_R k_Law_law C 715 [o0, o1, some (.ref ar), o3] st h P = (mx_R k_Law_law C 716 [o0, o1, some (.ref ar), o3] (.ref ar :: st) h P) := mx_xf rfl rfl
set_option maxRecDepth 100000 in
theorem x_Law_law_716 (C : mx_C) (o1 : Option Value) (o2 : Option Value) (o3 : Option Value) (ar : Nat) (st : mx_S) (h : mx_H) (P : mx_P) : mx_R k_Law_law C 716 [some (.ref ar), o1, o2, o3] st h P = (mx_R k_Law_law C 717 [some (.ref ar), o1, o2, o3] (.ref ar :: st) h P) := mx_xf rfl rfl
set_option maxRecDepth 100000 in
theorem x_Law_law_717 (C : mx_C) (o0 : Option Value) (o1 : Option Value) (o2 : Option Value) (xi : Int32) (st : mx_S) (h : mx_H) (P : mx_P) : mx_R k_Law_law C 717 [o0, o1, o2, some (.int xi)] st h P = (mx_R k_Law_law C 718 [o0, o1, o2, some (.int xi)] (.int xi :: st) h P) := mx_xf rfl rfl
set_option maxRecDepth 100000 in
theorem x_Law_law_718 (C : mx_C) (o0 : Option Value) (o1 : Option Value) (o2 : Option Value) (o3 : Option Value) (st : mx_S) (h : mx_H) (P : mx_P) : mx_R k_Law_law C 718 [o0, o1, o2, o3] st h P = (mx_R k_Law_law C 719 [o0, o1, o2, o3] (.int 1 :: st) h P) := mx_xf rfl rfl
set_option maxRecDepth 100000 in
theorem x_Law_law_719 (C : mx_C) (o0 : Option Value) (o1 : Option Value) (o2 : Option Value) (o3 : Option Value) (xi : Int32) (yi : Int32) (st : mx_S) (h : mx_H) (P : mx_P) : mx_R k_Law_law C 719 [o0, o1, o2, o3] (.int yi :: .int xi :: st) h P = (mx_R k_Law_law C 720 [o0, o1, o2, o3] (.int (xi + yi) :: st) h P) := mx_xf rfl rfl
set_option maxRecDepth 100000 in
theorem x_Law_law_720 (C : mx_C) (o0 : Option Value) (o1 : Option Value) (o2 : Option Value) (o3 : Option Value) (xi : Int32) (ar : Nat) (st : mx_S) (h : mx_H) (P : mx_P) : mx_R k_Law_law C 720 [o0, o1, o2, o3] (.int xi :: .ref ar :: st) h P = (mx_okr 103 ar h xi = true ∧ mx_R k_Law_law C 721 [o0, o1, o2, o3] (.int (h.1 ar xi.toNatClampNeg) :: st) h P) := mx_xg rfl rfl
set_option maxRecDepth 100000 in
theorem x_Law_law_721 (C : mx_C) (o0 : Option Value) (o1 : Option Value) (o2 : Option Value) (o3 : Option Value) (va0 : Value) (va1 : Value) (vs0 : Value) (h : mx_H) (P : mx_P) : mx_R k_Law_law C 721 [o0, o1, o2, o3] (va1 :: va0 :: [vs0]) h P = (∃ v h1, C 197 [va0, va1] h v h1 ∧ mx_R k_Law_law C 724 [o0, o1, o2, o3] (v.toList ++ [vs0]) h1 P) := mx_xc rfl (Nat.le_of_ble_eq_true rfl) (Or.inl (Nat.le_of_ble_eq_true rfl)) rfl rfl
set_option maxRecDepth 100000 in
theorem x_Law_law_724 (C : mx_C) (o0 : Option Value) (o1 : Option Value) (o2 : Option Value) (o3 : Option Value) (xi : Int32) (yi : Int32) (st : mx_S) (h : mx_H) (P : mx_P) : mx_R k_Law_law C 724 [o0, o1, o2, o3] (.int yi :: .int xi :: st) h P = (if xi = yi then mx_R k_Law_law C 1309 [o0, o1, o2, o3] st h P else mx_R k_Law_law C 727 [o0, o1, o2, o3] st h P) := mx_xb rfl rfl
set_option maxRecDepth 100000 in
theorem x_Law_law_727 (C : mx_C) (o0 : Option Value) (o1 : Option Value) (o2 : Option Value) (o3 : Option Value) (st : mx_S) (h : mx_H) (P : mx_P) : mx_R k_Law_law C 727 [o0, o1, o2, o3] st h P = (mx_R k_Law_law C 728 [o0, o1, o2, o3] (.int 0 :: st) h P) := mx_xf rfl rfl
set_option maxRecDepth 100000 in
theorem x_Law_law_728 (C : mx_C) (o0 : Option Value) (o1 : Option Value) (o2 : Option Value) (o3 : Option Value) (xi : Int32) (h : mx_H) (P : mx_P) : mx_R k_Law_law C 728 [o0, o1, o2, o3] [.int xi] h P = ((xi = 0 ∨ xi = 1) ∧ P (some (.int xi)) h) := mx_xr2 rfl
set_option maxRecDepth 100000 in
theorem x_Law_law_729 (C : mx_C) (o0 : Option Value) (o2 : Option Value) (o3 : Option Value) (ar : Nat) (st : mx_S) (h : mx_H) (P : mx_P) : mx_R k_Law_law C 729 [o0, some (.ref ar), o2, o3] st h P = (mx_R k_Law_law C 730 [o0, some (.ref ar), o2, o3] (.ref ar :: st) h P) := mx_xf rfl rfl
set_option maxRecDepth 100000 in
theorem x_Law_law_730 (C : mx_C) (o0 : Option Value) (o1 : Option Value) (o2 : Option Value) (o3 : Option Value) (va0 : Value) (h : mx_H) (P : mx_P) : mx_R k_Law_law C 730 [o0, o1, o2, o3] (va0 :: []) h P = (∃ v h1, C 112 [va0] h v h1 ∧ mx_R k_Law_law C 733 [o0, o1, o2, o3] (v.toList ++ []) h1 P) := mx_xc rfl (Nat.le_of_ble_eq_true rfl) (Or.inl (Nat.le_of_ble_eq_true rfl)) rfl rfl
set_option maxRecDepth 100000 in
theorem x_Law_law_733 (C : mx_C) (o0 : Option Value) (o1 : Option Value) (o3 : Option Value) (ar : Nat) (st : mx_S) (h : mx_H) (P : mx_P) : mx_R k_Law_law C 733 [o0, o1, some (.ref ar), o3] st h P = (mx_R k_Law_law C 734 [o0, o1, some (.ref ar), o3] (.ref ar :: st) h P) := mx_xf rfl rfl
set_option maxRecDepth 100000 in
theorem x_Law_law_734 (C : mx_C) (o0 : Option Value) (o1 : Option Value) (o2 : Option Value) (o3 : Option Value) (va0 : Value) (vs0 : Value) (h : mx_H) (P : mx_P) : mx_R k_Law_law C 734 [o0, o1, o2, o3] (va0 :: [vs0]) h P = (∃ v h1, C 198 [va0] h v h1 ∧ mx_R k_Law_law C 737 [o0, o1, o2, o3] (v.toList ++ [vs0]) h1 P) := mx_xc rfl (Nat.le_of_ble_eq_true rfl) (Or.inl (Nat.le_of_ble_eq_true rfl)) rfl rfl
set_option maxRecDepth 100000 in
theorem x_Law_law_737 (C : mx_C) (o0 : Option Value) (o1 : Option Value) (o2 : Option Value) (o3 : Option Value) (xi : Int32) (yi : Int32) (st : mx_S) (h : mx_H) (P : mx_P) : mx_R k_Law_law C 737 [o0, o1, o2, o3] (.int yi :: .int xi :: st) h P = (if xi = yi then mx_R k_Law_law C 1309 [o0, o1, o2, o3] st h P else mx_R k_Law_law C 740 [o0, o1, o2, o3] st h P) := mx_xb rfl rfl
set_option maxRecDepth 100000 in
theorem x_Law_law_740 (C : mx_C) (o0 : Option Value) (o1 : Option Value) (o2 : Option Value) (o3 : Option Value) (st : mx_S) (h : mx_H) (P : mx_P) : mx_R k_Law_law C 740 [o0, o1, o2, o3] st h P = (mx_R k_Law_law C 741 [o0, o1, o2, o3] (.int 0 :: st) h P) := mx_xf rfl rfl
set_option maxRecDepth 100000 in
theorem x_Law_law_741 (C : mx_C) (o0 : Option Value) (o1 : Option Value) (o2 : Option Value) (o3 : Option Value) (xi : Int32) (h : mx_H) (P : mx_P) : mx_R k_Law_law C 741 [o0, o1, o2, o3] [.int xi] h P = ((xi = 0 ∨ xi = 1) ∧ P (some (.int xi)) h) := mx_xr2 rfl
set_option maxRecDepth 100000 in
theorem x_Law_law_742 (C : mx_C) (o0 : Option Value) (o2 : Option Value) (o3 : Option Value) (ar : Nat) (st : mx_S) (h : mx_H) (P : mx_P) : mx_R k_Law_law C 742 [o0, some (.ref ar), o2, o3] st h P = (mx_R k_Law_law C 743 [o0, some (.ref ar), o2, o3] (.ref ar :: st) h P) := mx_xf rfl rfl
set_option maxRecDepth 100000 in
theorem x_Law_law_743 (C : mx_C) (o0 : Option Value) (o1 : Option Value) (o2 : Option Value) (o3 : Option Value) (va0 : Value) (h : mx_H) (P : mx_P) : mx_R k_Law_law C 743 [o0, o1, o2, o3] (va0 :: []) h P = (∃ v h1, C 113 [va0] h v h1 ∧ mx_R k_Law_law C 746 [o0, o1, o2, o3] (v.toList ++ []) h1 P) := mx_xc rfl (Nat.le_of_ble_eq_true rfl) (Or.inl (Nat.le_of_ble_eq_true rfl)) rfl rfl
set_option maxRecDepth 100000 in
theorem x_Law_law_746 (C : mx_C) (o0 : Option Value) (o1 : Option Value) (o3 : Option Value) (ar : Nat) (st : mx_S) (h : mx_H) (P : mx_P) : mx_R k_Law_law C 746 [o0, o1, some (.ref ar), o3] st h P = (mx_R k_Law_law C 747 [o0, o1, some (.ref ar), o3] (.ref ar :: st) h P) := mx_xf rfl rfl
set_option maxRecDepth 100000 in
theorem x_Law_law_747 (C : mx_C) (o0 : Option Value) (o1 : Option Value) (o2 : Option Value) (o3 : Option Value) (va0 : Value) (vs0 : Value) (h : mx_H) (P : mx_P) : mx_R k_Law_law C 747 [o0, o1, o2, o3] (va0 :: [vs0]) h P = (∃ v h1, C 199 [va0] h v h1 ∧ mx_R k_Law_law C 750 [o0, o1, o2, o3] (v.toList ++ [vs0]) h1 P) := mx_xc rfl (Nat.le_of_ble_eq_true rfl) (Or.inl (Nat.le_of_ble_eq_true rfl)) rfl rfl
set_option maxRecDepth 100000 in
theorem x_Law_law_750 (C : mx_C) (o0 : Option Value) (o1 : Option Value) (o2 : Option Value) (o3 : Option Value) (xi : Int32) (yi : Int32) (st : mx_S) (h : mx_H) (P : mx_P) : mx_R k_Law_law C 750 [o0, o1, o2, o3] (.int yi :: .int xi :: st) h P = (if xi = yi then mx_R k_Law_law C 1309 [o0, o1, o2, o3] st h P else mx_R k_Law_law C 753 [o0, o1, o2, o3] st h P) := mx_xb rfl rfl
set_option maxRecDepth 100000 in
theorem x_Law_law_753 (C : mx_C) (o0 : Option Value) (o1 : Option Value) (o2 : Option Value) (o3 : Option Value) (st : mx_S) (h : mx_H) (P : mx_P) : mx_R k_Law_law C 753 [o0, o1, o2, o3] st h P = (mx_R k_Law_law C 754 [o0, o1, o2, o3] (.int 0 :: st) h P) := mx_xf rfl rfl
set_option maxRecDepth 100000 in
theorem x_Law_law_754 (C : mx_C) (o0 : Option Value) (o1 : Option Value) (o2 : Option Value) (o3 : Option Value) (xi : Int32) (h : mx_H) (P : mx_P) : mx_R k_Law_law C 754 [o0, o1, o2, o3] [.int xi] h P = ((xi = 0 ∨ xi = 1) ∧ P (some (.int xi)) h) := mx_xr2 rfl
set_option maxRecDepth 100000 in
theorem x_Law_law_755 (C : mx_C) (o0 : Option Value) (o2 : Option Value) (o3 : Option Value) (ar : Nat) (st : mx_S) (h : mx_H) (P : mx_P) : mx_R k_Law_law C 755 [o0, some (.ref ar), o2, o3] st h P = (mx_R k_Law_law C 756 [o0, some (.ref ar), o2, o3] (.ref ar :: st) h P) := mx_xf rfl rfl
set_option maxRecDepth 100000 in
theorem x_Law_law_756 (C : mx_C) (o0 : Option Value) (o1 : Option Value) (o2 : Option Value) (o3 : Option Value) (va0 : Value) (h : mx_H) (P : mx_P) : mx_R k_Law_law C 756 [o0, o1, o2, o3] (va0 :: []) h P = (∃ v h1, C 114 [va0] h v h1 ∧ mx_R k_Law_law C 759 [o0, o1, o2, o3] (v.toList ++ []) h1 P) := mx_xc rfl (Nat.le_of_ble_eq_true rfl) (Or.inl (Nat.le_of_ble_eq_true rfl)) rfl rfl
set_option maxRecDepth 100000 in
theorem x_Law_law_759 (C : mx_C) (o0 : Option Value) (o1 : Option Value) (o3 : Option Value) (ar : Nat) (st : mx_S) (h : mx_H) (P : mx_P) : mx_R k_Law_law C 759 [o0, o1, some (.ref ar), o3] st h P = (mx_R k_Law_law C 760 [o0, o1, some (.ref ar), o3] (.ref ar :: st) h P) := mx_xf rfl rfl
set_option maxRecDepth 100000 in
theorem x_Law_law_760 (C : mx_C) (o0 : Option Value) (o1 : Option Value) (o2 : Option Value) (o3 : Option Value) (va0 : Value) (vs0 : Value) (h : mx_H) (P : mx_P) : mx_R k_Law_law C 760 [o0, o1, o2, o3] (va0 :: [vs0]) h P = (∃ v h1, C 200 [va0] h v h1 ∧ mx_R k_Law_law C 763 [o0, o1, o2, o3] (v.toList ++ [vs0]) h1 P) := mx_xc rfl (Nat.le_of_ble_eq_true rfl) (Or.inl (Nat.le_of_ble_eq_true rfl)) rfl rfl
set_option maxRecDepth 100000 in
theorem x_Law_law_763 (C : mx_C) (o0 : Option Value) (o1 : Option Value) (o2 : Option Value) (o3 : Option Value) (xi : Int32) (yi : Int32) (st : mx_S) (h : mx_H) (P : mx_P) : mx_R k_Law_law C 763 [o0, o1, o2, o3] (.int yi :: .int xi :: st) h P = (if xi = yi then mx_R k_Law_law C 1309 [o0, o1, o2, o3] st h P else mx_R k_Law_law C 766 [o0, o1, o2, o3] st h P) := mx_xb rfl rfl
set_option maxRecDepth 100000 in
theorem x_Law_law_766 (C : mx_C) (o0 : Option Value) (o1 : Option Value) (o2 : Option Value) (o3 : Option Value) (st : mx_S) (h : mx_H) (P : mx_P) : mx_R k_Law_law C 766 [o0, o1, o2, o3] st h P = (mx_R k_Law_law C 767 [o0, o1, o2, o3] (.int 0 :: st) h P) := mx_xf rfl rfl
set_option maxRecDepth 100000 in
theorem x_Law_law_767 (C : mx_C) (o0 : Option Value) (o1 : Option Value) (o2 : Option Value) (o3 : Option Value) (xi : Int32) (h : mx_H) (P : mx_P) : mx_R k_Law_law C 767 [o0, o1, o2, o3] [.int xi] h P = ((xi = 0 ∨ xi = 1) ∧ P (some (.int xi)) h) := mx_xr2 rfl
set_option maxRecDepth 100000 in
theorem x_Law_law_768 (C : mx_C) (o0 : Option Value) (o2 : Option Value) (o3 : Option Value) (ar : Nat) (st : mx_S) (h : mx_H) (P : mx_P) : mx_R k_Law_law C 768 [o0, some (.ref ar), o2, o3] st h P = (mx_R k_Law_law C 769 [o0, some (.ref ar), o2, o3] (.ref ar :: st) h P) := mx_xf rfl rfl
set_option maxRecDepth 100000 in
theorem x_Law_law_769 (C : mx_C) (o0 : Option Value) (o1 : Option Value) (o2 : Option Value) (o3 : Option Value) (va0 : Value) (h : mx_H) (P : mx_P) : mx_R k_Law_law C 769 [o0, o1, o2, o3] (va0 :: []) h P = (∃ v h1, C 115 [va0] h v h1 ∧ mx_R k_Law_law C 772 [o0, o1, o2, o3] (v.toList ++ []) h1 P) := mx_xc rfl (Nat.le_of_ble_eq_true rfl) (Or.inl (Nat.le_of_ble_eq_true rfl)) rfl rfl
set_option maxRecDepth 100000 in
theorem x_Law_law_772 (C : mx_C) (o0 : Option Value) (o1 : Option Value) (o3 : Option Value) (ar : Nat) (st : mx_S) (h : mx_H) (P : mx_P) : mx_R k_Law_law C 772 [o0, o1, some (.ref ar), o3] st h P = (mx_R k_Law_law C 773 [o0, o1, some (.ref ar), o3] (.ref ar :: st) h P) := mx_xf rfl rfl
set_option maxRecDepth 100000 in
theorem x_Law_law_773 (C : mx_C) (o0 : Option Value) (o1 : Option Value) (o2 : Option Value) (o3 : Option Value) (va0 : Value) (vs0 : Value) (h : mx_H) (P : mx_P) : mx_R k_Law_law C 773 [o0, o1, o2, o3] (va0 :: [vs0]) h P = (∃ v h1, C 201 [va0] h v h1 ∧ mx_R k_Law_law C 776 [o0, o1, o2, o3] (v.toList ++ [vs0]) h1 P) := mx_xc rfl (Nat.le_of_ble_eq_true rfl) (Or.inl (Nat.le_of_ble_eq_true rfl)) rfl rfl
set_option maxRecDepth 100000 in
theorem x_Law_law_776 (C : mx_C) (o0 : Option Value) (o1 : Option Value) (o2 : Option Value) (o3 : Option Value) (xi : Int32) (yi : Int32) (st : mx_S) (h : mx_H) (P : mx_P) : mx_R k_Law_law C 776 [o0, o1, o2, o3] (.int yi :: .int xi :: st) h P = (if xi = yi then mx_R k_Law_law C 1309 [o0, o1, o2, o3] st h P else mx_R k_Law_law C 779 [o0, o1, o2, o3] st h P) := mx_xb rfl rfl
set_option maxRecDepth 100000 in
theorem x_Law_law_779 (C : mx_C) (o0 : Option Value) (o1 : Option Value) (o2 : Option Value) (o3 : Option Value) (st : mx_S) (h : mx_H) (P : mx_P) : mx_R k_Law_law C 779 [o0, o1, o2, o3] st h P = (mx_R k_Law_law C 780 [o0, o1, o2, o3] (.int 0 :: st) h P) := mx_xf rfl rfl
set_option maxRecDepth 100000 in
theorem x_Law_law_780 (C : mx_C) (o0 : Option Value) (o1 : Option Value) (o2 : Option Value) (o3 : Option Value) (xi : Int32) (h : mx_H) (P : mx_P) : mx_R k_Law_law C 780 [o0, o1, o2, o3] [.int xi] h P = ((xi = 0 ∨ xi = 1) ∧ P (some (.int xi)) h) := mx_xr2 rfl
set_option maxRecDepth 100000 in
theorem x_Law_law_781 (C : mx_C) (o0 : Option Value) (o2 : Option Value) (o3 : Option Value) (ar : Nat) (st : mx_S) (h : mx_H) (P : mx_P) : mx_R k_Law_law C 781 [o0, some (.ref ar), o2, o3] st h P = (mx_R k_Law_law C 782 [o0, some (.ref ar), o2, o3] (.ref ar :: st) h P) := mx_xf rfl rfl
set_option maxRecDepth 100000 in
theorem x_Law_law_782 (C : mx_C) (o1 : Option Value) (o2 : Option Value) (o3 : Option Value) (ar : Nat) (st : mx_S) (h : mx_H) (P : mx_P) : mx_R k_Law_law C 782 [some (.ref ar), o1, o2, o3] st h P = (mx_R k_Law_law C 783 [some (.ref ar), o1, o2, o3] (.ref ar :: st) h P) := mx_xf rfl rfl
set_option maxRecDepth 100000 in
theorem x_Law_law_783 (C : mx_C) (o0 : Option Value) (o1 : Option Value) (o2 : Option Value) (xi : Int32) (st : mx_S) (h : mx_H) (P : mx_P) : mx_R k_Law_law C 783 [o0, o1, o2, some (.int xi)] st h P = (mx_R k_Law_law C 784 [o0, o1, o2, some (.int xi)] (.int xi :: st) h P) := mx_xf rfl rfl
set_option maxRecDepth 100000 in
theorem x_Law_law_784 (C : mx_C) (o0 : Option Value) (o1 : Option Value) (o2 : Option Value) (o3 : Option Value) (st : mx_S) (h : mx_H) (P : mx_P) : mx_R k_Law_law C 784 [o0, o1, o2, o3] st h P = (mx_R k_Law_law C 785 [o0, o1, o2, o3] (.int 1 :: st) h P) := mx_xf rfl rfl
set_option maxRecDepth 100000 in
theorem x_Law_law_785 (C : mx_C) (o0 : Option Value) (o1 : Option Value) (o2 : Option Value) (o3 : Option Value) (xi : Int32) (yi : Int32) (st : mx_S) (h : mx_H) (P : mx_P) : mx_R k_Law_law C 785 [o0, o1, o2, o3] (.int yi :: .int xi :: st) h P = (mx_R k_Law_law C 786 [o0, o1, o2, o3] (.int (xi + yi) :: st) h P) := mx_xf rfl rfl
set_option maxRecDepth 100000 in
theorem x_Law_law_786 (C : mx_C) (o0 : Option Value) (o1 : Option Value) (o2 : Option Value) (o3 : Option Value) (xi : Int32) (ar : Nat) (st : mx_S) (h : mx_H) (P : mx_P) : mx_R k_Law_law C 786 [o0, o1, o2, o3] (.int xi :: .ref ar :: st) h P = (mx_okr 103 ar h xi = true ∧ mx_R k_Law_law C 787 [o0, o1, o2, o3] (.int (h.1 ar xi.toNatClampNeg) :: st) h P) := mx_xg rfl rfl
set_option maxRecDepth 100000 in
theorem x_Law_law_787 (C : mx_C) (o0 : Option Value) (o1 : Option Value) (o2 : Option Value) (o3 : Option Value) (va0 : Value) (va1 : Value) (h : mx_H) (P : mx_P) : mx_R k_Law_law C 787 [o0, o1, o2, o3] (va1 :: va0 :: []) h P = (∃ v h1, C 116 [va0, va1] h v h1 ∧ mx_R k_Law_law C 790 [o0, o1, o2, o3] (v.toList ++ []) h1 P) := mx_xc rfl (Nat.le_of_ble_eq_true rfl) (Or.inl (Nat.le_of_ble_eq_true rfl)) rfl rfl
set_option maxRecDepth 100000 in
theorem x_Law_law_790 (C : mx_C) (o0 : Option Value) (o1 : Option Value) (o3 : Option Value) (ar : Nat) (st : mx_S) (h : mx_H) (P : mx_P) : mx_R k_Law_law C 790 [o0, o1, some (.ref ar), o3] st h P = (mx_R k_Law_law C 791 [o0, o1, some (.ref ar), o3] (.ref ar :: st) h P) := mx_xf rfl rfl
set_option maxRecDepth 100000 in
theorem x_Law_law_791 (C : mx_C) (o1 : Option Value) (o2 : Option Value) (o3 : Option Value) (ar : Nat) (st : mx_S) (h : mx_H) (P : mx_P) : mx_R k_Law_law C 791 [some (.ref ar), o1, o2, o3] st h P = (mx_R k_Law_law C 792 [some (.ref ar), o1, o2, o3] (.ref ar :: st) h P) := mx_xf rfl rfl
set_option maxRecDepth 100000 in
theorem x_Law_law_792 (C : mx_C) (o0 : Option Value) (o1 : Option Value) (o2 : Option Value) (xi : Int32) (st : mx_S) (h : mx_H) (P : mx_P) : mx_R k_Law_law C 792 [o0, o1, o2, some (.int xi)] st h P = (mx_R k_Law_law C 793 [o0, o1, o2, some (.int xi)] (.int xi :: st) h P) := mx_xf rfl rfl
set_option maxRecDepth 100000 in
theorem x_Law_law_793 (C : mx_C) (o0 : Option Value) (o1 : Option Value) (o2 : Option Value) (o3 : Option Value) (st : mx_S) (h : mx_H) (P : mx_P) : mx_R k_Law_law C 793 [o0, o1, o2, o3] st h P = (mx_R k_Law_law C 794 [o0, o1, o2, o3] (.int 1 :: st) h P) := mx_xf rfl rfl
set_option maxRecDepth 100000 in
theorem x_Law_law_794 (C : mx_C) (o0 : Option Value) (o1 : Option Value) (o2 : Option Value) (o3 : Option Value) (xi : Int32) (yi : Int32) (st : mx_S) (h : mx_H) (P : mx_P) : mx_R k_Law_law C 794 [o0, o1, o2, o3] (.int yi :: .int xi :: st) h P = (mx_R k_Law_law C 795 [o0, o1, o2, o3] (.int (xi + yi) :: st) h P) := mx_xf rfl rfl
set_option maxRecDepth 100000 in
theorem x_Law_law_795 (C : mx_C) (o0 : Option Value) (o1 : Option Value) (o2 : Option Value) (o3 : Option Value) (xi : Int32) (ar : Nat) (st : mx_S) (h : mx_H) (P : mx_P) : mx_R k_Law_law C 795 [o0, o1, o2, o3] (.int xi :: .ref ar :: st) h P = (mx_okr 103 ar h xi = true ∧ mx_R k_Law_law C 796 [o0, o1, o2, o3] (.int (h.1 ar xi.toNatClampNeg) :: st) h P) := mx_xg rfl rfl
set_option maxRecDepth 100000 in
theorem x_Law_law_796 (C : mx_C) (o0 : Option Value) (o1 : Option Value) (o2 : Option Value) (o3 : Option Value) (va0 : Value) (va1 : Value) (vs0 : Value) (h : mx_H) (P : mx_P) : mx_R k_Law_law C 796 [o0, o1, o2, o3] (va1 :: va0 :: [vs0]) h P = (∃ v h1, C 204 [va0, va1] h v h1 ∧ mx_R k_Law_law C 799 [o0, o1, o2, o3] (v.toList ++ [vs0]) h1 P) := mx_xc rfl (Nat.le_of_ble_eq_true rfl) (Or.inl (Nat.le_of_ble_eq_true rfl)) rfl rfl
set_option maxRecDepth 100000 in
theorem x_Law_law_799 (C : mx_C) (o0 : Option Value) (o1 : Option Value) (o2 : Option Value) (o3 : Option Value) (xi : Int32) (yi : Int32) (st : mx_S) (h : mx_H) (P : mx_P) : mx_R k_Law_law C 799 [o0, o1, o2, o3] (.int yi :: .int xi :: st) h P = (if xi = yi then mx_R k_Law_law C 1309 [o0, o1, o2, o3] st h P else mx_R k_Law_law C 802 [o0, o1, o2, o3] st h P) := mx_xb rfl rfl
set_option maxRecDepth 100000 in
theorem x_Law_law_802 (C : mx_C) (o0 : Option Value) (o1 : Option Value) (o2 : Option Value) (o3 : Option Value) (st : mx_S) (h : mx_H) (P : mx_P) : mx_R k_Law_law C 802 [o0, o1, o2, o3] st h P = (mx_R k_Law_law C 803 [o0, o1, o2, o3] (.int 0 :: st) h P) := mx_xf rfl rfl
set_option maxRecDepth 100000 in
theorem x_Law_law_803 (C : mx_C) (o0 : Option Value) (o1 : Option Value) (o2 : Option Value) (o3 : Option Value) (xi : Int32) (h : mx_H) (P : mx_P) : mx_R k_Law_law C 803 [o0, o1, o2, o3] [.int xi] h P = ((xi = 0 ∨ xi = 1) ∧ P (some (.int xi)) h) := mx_xr2 rfl
set_option maxRecDepth 100000 in
theorem x_Law_law_804 (C : mx_C) (o0 : Option Value) (o2 : Option Value) (o3 : Option Value) (ar : Nat) (st : mx_S) (h : mx_H) (P : mx_P) : mx_R k_Law_law C 804 [o0, some (.ref ar), o2, o3] st h P = (mx_R k_Law_law C 805 [o0, some (.ref ar), o2, o3] (.ref ar :: st) h P) := mx_xf rfl rfl
set_option maxRecDepth 100000 in
theorem x_Law_law_805 (C : mx_C) (o1 : Option Value) (o2 : Option Value) (o3 : Option Value) (ar : Nat) (st : mx_S) (h : mx_H) (P : mx_P) : mx_R k_Law_law C 805 [some (.ref ar), o1, o2, o3] st h P = (mx_R k_Law_law C 806 [some (.ref ar), o1, o2, o3] (.ref ar :: st) h P) := mx_xf rfl rfl
set_option maxRecDepth 100000 in
theorem x_Law_law_806 (C : mx_C) (o0 : Option Value) (o1 : Option Value) (o2 : Option Value) (xi : Int32) (st : mx_S) (h : mx_H) (P : mx_P) : mx_R k_Law_law C 806 [o0, o1, o2, some (.int xi)] st h P = (mx_R k_Law_law C 807 [o0, o1, o2, some (.int xi)] (.int xi :: st) h P) := mx_xf rfl rfl
set_option maxRecDepth 100000 in
theorem x_Law_law_807 (C : mx_C) (o0 : Option Value) (o1 : Option Value) (o2 : Option Value) (o3 : Option Value) (st : mx_S) (h : mx_H) (P : mx_P) : mx_R k_Law_law C 807 [o0, o1, o2, o3] st h P = (mx_R k_Law_law C 808 [o0, o1, o2, o3] (.int 1 :: st) h P) := mx_xf rfl rfl
set_option maxRecDepth 100000 in
theorem x_Law_law_808 (C : mx_C) (o0 : Option Value) (o1 : Option Value) (o2 : Option Value) (o3 : Option Value) (xi : Int32) (yi : Int32) (st : mx_S) (h : mx_H) (P : mx_P) : mx_R k_Law_law C 808 [o0, o1, o2, o3] (.int yi :: .int xi :: st) h P = (mx_R k_Law_law C 809 [o0, o1, o2, o3] (.int (xi + yi) :: st) h P) := mx_xf rfl rfl
set_option maxRecDepth 100000 in
theorem x_Law_law_809 (C : mx_C) (o0 : Option Value) (o1 : Option Value) (o2 : Option Value) (o3 : Option Value) (xi : Int32) (ar : Nat) (st : mx_S) (h : mx_H) (P : mx_P) : mx_R k_Law_law C 809 [o0, o1, o2, o3] (.int xi :: .ref ar :: st) h P = (mx_okr 103 ar h xi = true ∧ mx_R k_Law_law C 810 [o0, o1, o2, o3] (.int (h.1 ar xi.toNatClampNeg) :: st) h P) := mx_xg rfl rfl
set_option maxRecDepth 100000 in
theorem x_Law_law_810 (C : mx_C) (o1 : Option Value) (o2 : Option Value) (o3 : Option Value) (ar : Nat) (st : mx_S) (h : mx_H) (P : mx_P) : mx_R k_Law_law C 810 [some (.ref ar), o1, o2, o3] st h P = (mx_R k_Law_law C 811 [some (.ref ar), o1, o2, o3] (.ref ar :: st) h P) := mx_xf rfl rfl
set_option maxRecDepth 100000 in
theorem x_Law_law_811 (C : mx_C) (o0 : Option Value) (o1 : Option Value) (o2 : Option Value) (xi : Int32) (st : mx_S) (h : mx_H) (P : mx_P) : mx_R k_Law_law C 811 [o0, o1, o2, some (.int xi)] st h P = (mx_R k_Law_law C 812 [o0, o1, o2, some (.int xi)] (.int xi :: st) h P) := mx_xf rfl rfl
set_option maxRecDepth 100000 in
theorem x_Law_law_812 (C : mx_C) (o0 : Option Value) (o1 : Option Value) (o2 : Option Value) (o3 : Option Value) (st : mx_S) (h : mx_H) (P : mx_P) : mx_R k_Law_law C 812 [o0, o1, o2, o3] st h P = (mx_R k_Law_law C 813 [o0, o1, o2, o3] (.int 2 :: st) h P) := mx_xf rfl rfl
set_option maxRecDepth 100000 in
theorem x_Law_law_813 (C : mx_C) (o0 : Option Value) (o1 : Option Value) (o2 : Option Value) (o3 : Option Value) (xi : Int32) (yi : Int32) (st : mx_S) (h : mx_H) (P : mx_P) : mx_R k_Law_law C 813 [o0, o1, o2, o3] (.int yi :: .int xi :: st) h P = (mx_R k_Law_law C 814 [o0, o1, o2, o3] (.int (xi + yi) :: st) h P) := mx_xf rfl rfl
set_option maxRecDepth 100000 in
theorem x_Law_law_814 (C : mx_C) (o0 : Option Value) (o1 : Option Value) (o2 : Option Value) (o3 : Option Value) (xi : Int32) (ar : Nat) (st : mx_S) (h : mx_H) (P : mx_P) : mx_R k_Law_law C 814 [o0, o1, o2, o3] (.int xi :: .ref ar :: st) h P = (mx_okr 103 ar h xi = true ∧ mx_R k_Law_law C 815 [o0, o1, o2, o3] (.int (h.1 ar xi.toNatClampNeg) :: st) h P) := mx_xg rfl rfl
set_option maxRecDepth 100000 in
theorem x_Law_law_815 (C : mx_C) (o0 : Option Value) (o1 : Option Value) (o2 : Option Value) (o3 : Option Value) (va0 : Value) (va1 : Value) (va2 : Value) (h : mx_H) (P : mx_P) : mx_R k_Law_law C 815 [o0, o1, o2, o3] (va2 :: va1 :: va0 :: []) h P = (∃ v h1, C 117 [va0, va1, va2] h v h1 ∧ mx_R k_Law_law C 818 [o0, o1, o2, o3] (v.toList ++ []) h1 P) := mx_xc rfl (Nat.le_of_ble_eq_true rfl) (Or.inl (Nat.le_of_ble_eq_true rfl)) rfl rfl
set_option maxRecDepth 100000 in
theorem x_Law_law_818 (C : mx_C) (o0 : Option Value) (o1 : Option Value) (o3 : Option Value) (ar : Nat) (st : mx_S) (h : mx_H) (P : mx_P) : mx_R k_Law_law C 818 [o0, o1, some (.ref ar), o3] st h P = (mx_R k_Law_law C 819 [o0, o1, some (.ref ar), o3] (.ref ar :: st) h P) := mx_xf rfl rfl
set_option maxRecDepth 100000 in
theorem x_Law_law_819 (C : mx_C) (o1 : Option Value) (o2 : Option Value) (o3 : Option Value) (ar : Nat) (st : mx_S) (h : mx_H) (P : mx_P) : mx_R k_Law_law C 819 [some (.ref ar), o1, o2, o3] st h P = (mx_R k_Law_law C 820 [some (.ref ar), o1, o2, o3] (.ref ar :: st) h P) := mx_xf rfl rfl
set_option maxRecDepth 100000 in
theorem x_Law_law_820 (C : mx_C) (o0 : Option Value) (o1 : Option Value) (o2 : Option Value) (xi : Int32) (st : mx_S) (h : mx_H) (P : mx_P) : mx_R k_Law_law C 820 [o0, o1, o2, some (.int xi)] st h P = (mx_R k_Law_law C 821 [o0, o1, o2, some (.int xi)] (.int xi :: st) h P) := mx_xf rfl rfl
set_option maxRecDepth 100000 in
theorem x_Law_law_821 (C : mx_C) (o0 : Option Value) (o1 : Option Value) (o2 : Option Value) (o3 : Option Value) (st : mx_S) (h : mx_H) (P : mx_P) : mx_R k_Law_law C 821 [o0, o1, o2, o3] st h P = (mx_R k_Law_law C 822 [o0, o1, o2, o3] (.int 1 :: st) h P) := mx_xf rfl rfl
set_option maxRecDepth 100000 in
theorem x_Law_law_822 (C : mx_C) (o0 : Option Value) (o1 : Option Value) (o2 : Option Value) (o3 : Option Value) (xi : Int32) (yi : Int32) (st : mx_S) (h : mx_H) (P : mx_P) : mx_R k_Law_law C 822 [o0, o1, o2, o3] (.int yi :: .int xi :: st) h P = (mx_R k_Law_law C 823 [o0, o1, o2, o3] (.int (xi + yi) :: st) h P) := mx_xf rfl rfl
set_option maxRecDepth 100000 in
theorem x_Law_law_823 (C : mx_C) (o0 : Option Value) (o1 : Option Value) (o2 : Option Value) (o3 : Option Value) (xi : Int32) (ar : Nat) (st : mx_S) (h : mx_H) (P : mx_P) : mx_R k_Law_law C 823 [o0, o1, o2, o3] (.int xi :: .ref ar :: st) h P = (mx_okr 103 ar h xi = true ∧ mx_R k_Law_law C 824 [o0, o1, o2, o3] (.int (h.1 ar xi.toNatClampNeg) :: st) h P) := mx_xg rfl rfl
set_option maxRecDepth 100000 in
theorem x_Law_law_824 (C : mx_C) (o1 : Option Value) (o2 : Option Value) (o3 : Option Value) (ar : Nat) (st : mx_S) (h : mx_H) (P : mx_P) : mx_R k_Law_law C 824 [some (.ref ar), o1, o2, o3] st h P = (mx_R k_Law_law C 825 [some (.ref ar), o1, o2, o3] (.ref ar :: st) h P) := mx_xf rfl rfl
set_option maxRecDepth 100000 in
theorem x_Law_law_825 (C : mx_C) (o0 : Option Value) (o1 : Option Value) (o2 : Option Value) (xi : Int32) (st : mx_S) (h : mx_H) (P : mx_P) : mx_R k_Law_law C 825 [o0, o1, o2, some (.int xi)] st h P = (mx_R k_Law_law C 826 [o0, o1, o2, some (.int xi)] (.int xi :: st) h P) := mx_xf rfl rfl
set_option maxRecDepth 100000 in
theorem x_Law_law_826 (C : mx_C) (o0 : Option Value) (o1 : Option Value) (o2 : Option Value) (o3 : Option Value) (st : mx_S) (h : mx_H) (P : mx_P) : mx_R k_Law_law C 826 [o0, o1, o2, o3] st h P = (mx_R k_Law_law C 827 [o0, o1, o2, o3] (.int 2 :: st) h P) := mx_xf rfl rfl
set_option maxRecDepth 100000 in
theorem x_Law_law_827 (C : mx_C) (o0 : Option Value) (o1 : Option Value) (o2 : Option Value) (o3 : Option Value) (xi : Int32) (yi : Int32) (st : mx_S) (h : mx_H) (P : mx_P) : mx_R k_Law_law C 827 [o0, o1, o2, o3] (.int yi :: .int xi :: st) h P = (mx_R k_Law_law C 828 [o0, o1, o2, o3] (.int (xi + yi) :: st) h P) := mx_xf rfl rfl
set_option maxRecDepth 100000 in
theorem x_Law_law_828 (C : mx_C) (o0 : Option Value) (o1 : Option Value) (o2 : Option Value) (o3 : Option Value) (xi : Int32) (ar : Nat) (st : mx_S) (h : mx_H) (P : mx_P) : mx_R k_Law_law C 828 [o0, o1, o2, o3] (.int xi :: .ref ar :: st) h P = (mx_okr 103 ar h xi = true ∧ mx_R k_Law_law C 829 [o0, o1, o2, o3] (.int (h.1 ar xi.toNatClampNeg) :: st) h P) := mx_xg rfl rfl
set_option maxRecDepth 100000 in
theorem x_Law_law_829 (C : mx_C) (o0 : Option Value) (o1 : Option Value) (o2 : Option Value) (o3 : Option Value) (va0 : Value) (va1 : Value) (va2 : Value) (vs0 : Value) (h : mx_H) (P : mx_P) : mx_R k_Law_law C 829 [o0, o1, o2, o3] (va2 :: va1 :: va0 :: [vs0]) h P = (∃ v h1, C 205 [va0, va1, va2] h v h1 ∧ mx_R k_Law_law C 832 [o0, o1, o2, o3] (v.toList ++ [vs0]) h1 P) := mx_xc rfl (Nat.le_of_ble_eq_true rfl) (Or.inl (Nat.le_of_ble_eq_true rfl)) rfl rfl
set_option maxRecDepth 100000 in
theorem x_Law_law_832 (C : mx_C) (o0 : Option Value) (o1 : Option Value) (o2 : Option Value) (o3 : Option Value) (xi : Int32) (yi : Int32) (st : mx_S) (h : mx_H) (P : mx_P) : mx_R k_Law_law C 832 [o0, o1, o2, o3] (.int yi :: .int xi :: st) h P = (if xi = yi then mx_R k_Law_law C 1309 [o0, o1, o2, o3] st h P else mx_R k_Law_law C 835 [o0, o1, o2, o3] st h P) := mx_xb rfl rfl
set_option maxRecDepth 100000 in
theorem x_Law_law_835 (C : mx_C) (o0 : Option Value) (o1 : Option Value) (o2 : Option Value) (o3 : Option Value) (st : mx_S) (h : mx_H) (P : mx_P) : mx_R k_Law_law C 835 [o0, o1, o2, o3] st h P = (mx_R k_Law_law C 836 [o0, o1, o2, o3] (.int 0 :: st) h P) := mx_xf rfl rfl
set_option maxRecDepth 100000 in
theorem x_Law_law_836 (C : mx_C) (o0 : Option Value) (o1 : Option Value) (o2 : Option Value) (o3 : Option Value) (xi : Int32) (h : mx_H) (P : mx_P) : mx_R k_Law_law C 836 [o0, o1, o2, o3] [.int xi] h P = ((xi = 0 ∨ xi = 1) ∧ P (some (.int xi)) h) := mx_xr2 rfl
set_option maxRecDepth 100000 in
theorem x_Law_law_837 (C : mx_C) (o0 : Option Value) (o2 : Option Value) (o3 : Option Value) (ar : Nat) (st : mx_S) (h : mx_H) (P : mx_P) : mx_R k_Law_law C 837 [o0, some (.ref ar), o2, o3] st h P = (mx_R k_Law_law C 838 [o0, some (.ref ar), o2, o3] (.ref ar :: st) h P) := mx_xf rfl rfl
set_option maxRecDepth 100000 in
theorem x_Law_law_838 (C : mx_C) (o1 : Option Value) (o2 : Option Value) (o3 : Option Value) (ar : Nat) (st : mx_S) (h : mx_H) (P : mx_P) : mx_R k_Law_law C 838 [some (.ref ar), o1, o2, o3] st h P = (mx_R k_Law_law C 839 [some (.ref ar), o1, o2, o3] (.ref ar :: st) h P) := mx_xf rfl rfl
set_option maxRecDepth 100000 in
theorem x_Law_law_839 (C : mx_C) (o0 : Option Value) (o1 : Option Value) (o2 : Option Value) (xi : Int32) (st : mx_S) (h : mx_H) (P : mx_P) : mx_R k_Law_law C 839 [o0, o1, o2, some (.int xi)] st h P = (mx_R k_Law_law C 840 [o0, o1, o2, some (.int xi)] (.int xi :: st) h P) := mx_xf rfl rfl
set_option maxRecDepth 100000 in
theorem x_Law_law_840 (C : mx_C) (o0 : Option Value) (o1 : Option Value) (o2 : Option Value) (o3 : Option Value) (st : mx_S) (h : mx_H) (P : mx_P) : mx_R k_Law_law C 840 [o0, o1, o2, o3] st h P = (mx_R k_Law_law C 841 [o0, o1, o2, o3] (.int 1 :: st) h P) := mx_xf rfl rfl
set_option maxRecDepth 100000 in
theorem x_Law_law_841 (C : mx_C) (o0 : Option Value) (o1 : Option Value) (o2 : Option Value) (o3 : Option Value) (xi : Int32) (yi : Int32) (st : mx_S) (h : mx_H) (P : mx_P) : mx_R k_Law_law C 841 [o0, o1, o2, o3] (.int yi :: .int xi :: st) h P = (mx_R k_Law_law C 842 [o0, o1, o2, o3] (.int (xi + yi) :: st) h P) := mx_xf rfl rfl
set_option maxRecDepth 100000 in
theorem x_Law_law_842 (C : mx_C) (o0 : Option Value) (o1 : Option Value) (o2 : Option Value) (o3 : Option Value) (xi : Int32) (ar : Nat) (st : mx_S) (h : mx_H) (P : mx_P) : mx_R k_Law_law C 842 [o0, o1, o2, o3] (.int xi :: .ref ar :: st) h P = (mx_okr 103 ar h xi = true ∧ mx_R k_Law_law C 843 [o0, o1, o2, o3] (.int (h.1 ar xi.toNatClampNeg) :: st) h P) := mx_xg rfl rfl
set_option maxRecDepth 100000 in
theorem x_Law_law_843 (C : mx_C) (o0 : Option Value) (o1 : Option Value) (o2 : Option Value) (o3 : Option Value) (va0 : Value) (va1 : Value) (h : mx_H) (P : mx_P) : mx_R k_Law_law C 843 [o0, o1, o2, o3] (va1 :: va0 :: []) h P = (∃ v h1, C 118 [va0, va1] h v h1 ∧ mx_R k_Law_law C 846 [o0, o1, o2, o3] (v.toList ++ []) h1 P) := mx_xc rfl (Nat.le_of_ble_eq_true rfl) (Or.inl (Nat.le_of_ble_eq_true rfl)) rfl rfl
set_option maxRecDepth 100000 in
theorem x_Law_law_846 (C : mx_C) (o0 : Option Value) (o1 : Option Value) (o3 : Option Value) (ar : Nat) (st : mx_S) (h : mx_H) (P : mx_P) : mx_R k_Law_law C 846 [o0, o1, some (.ref ar), o3] st h P = (mx_R k_Law_law C 847 [o0, o1, some (.ref ar), o3] (.ref ar :: st) h P) := mx_xf rfl rfl
set_option maxRecDepth 100000 in
theorem x_Law_law_847 (C : mx_C) (o1 : Option Value) (o2 : Option Value) (o3 : Option Value) (ar : Nat) (st : mx_S) (h : mx_H) (P : mx_P) : mx_R k_Law_law C 847 [some (.ref ar), o1, o2, o3] st h P = (mx_R k_Law_law C 848 [some (.ref ar), o1, o2, o3] (.ref ar :: st) h P) := mx_xf rfl rfl
set_option maxRecDepth 100000 in
theorem x_Law_law_848 (C : mx_C) (o0 : Option Value) (o1 : Option Value) (o2 : Option Value) (xi : Int32) (st : mx_S) (h : mx_H) (P : mx_P) : mx_R k_Law_law C 848 [o0, o1, o2, some (.int xi)] st h P = (mx_R k_Law_law C 849 [o0, o1, o2, some (.int xi)] (.int xi :: st) h P) := mx_xf rfl rfl
set_option maxRecDepth 100000 in
theorem x_Law_law_849 (C : mx_C) (o0 : Option Value) (o1 : Option Value) (o2 : Option Value) (o3 : Option Value) (st : mx_S) (h : mx_H) (P : mx_P) : mx_R k_Law_law C 849 [o0, o1, o2, o3] st h P = (mx_R k_Law_law C 850 [o0, o1, o2, o3] (.int 1 :: st) h P) := mx_xf rfl rfl
set_option maxRecDepth 100000 in
theorem x_Law_law_850 (C : mx_C) (o0 : Option Value) (o1 : Option Value) (o2 : Option Value) (o3 : Option Value) (xi : Int32) (yi : Int32) (st : mx_S) (h : mx_H) (P : mx_P) : mx_R k_Law_law C 850 [o0, o1, o2, o3] (.int yi :: .int xi :: st) h P = (mx_R k_Law_law C 851 [o0, o1, o2, o3] (.int (xi + yi) :: st) h P) := mx_xf rfl rfl
set_option maxRecDepth 100000 in
theorem x_Law_law_851 (C : mx_C) (o0 : Option Value) (o1 : Option Value) (o2 : Option Value) (o3 : Option Value) (xi : Int32) (ar : Nat) (st : mx_S) (h : mx_H) (P : mx_P) : mx_R k_Law_law C 851 [o0, o1, o2, o3] (.int xi :: .ref ar :: st) h P = (mx_okr 103 ar h xi = true ∧ mx_R k_Law_law C 852 [o0, o1, o2, o3] (.int (h.1 ar xi.toNatClampNeg) :: st) h P) := mx_xg rfl rfl
set_option maxRecDepth 100000 in
theorem x_Law_law_852 (C : mx_C) (o0 : Option Value) (o1 : Option Value) (o2 : Option Value) (o3 : Option Value) (va0 : Value) (va1 : Value) (vs0 : Value) (h : mx_H) (P : mx_P) : mx_R k_Law_law C 852 [o0, o1, o2, o3] (va1 :: va0 :: [vs0]) h P = (∃ v h1, C 207 [va0, va1] h v h1 ∧ mx_R k_Law_law C 855 [o0, o1, o2, o3] (v.toList ++ [vs0]) h1 P) := mx_xc rfl (Nat.le_of_ble_eq_true rfl) (Or.inl (Nat.le_of_ble_eq_true rfl)) rfl rfl
set_option maxRecDepth 100000 in
theorem x_Law_law_855 (C : mx_C) (o0 : Option Value) (o1 : Option Value) (o2 : Option Value) (o3 : Option Value) (xi : Int32) (yi : Int32) (st : mx_S) (h : mx_H) (P : mx_P) : mx_R k_Law_law C 855 [o0, o1, o2, o3] (.int yi :: .int xi :: st) h P = (if xi = yi then mx_R k_Law_law C 1309 [o0, o1, o2, o3] st h P else mx_R k_Law_law C 858 [o0, o1, o2, o3] st h P) := mx_xb rfl rfl
set_option maxRecDepth 100000 in
theorem x_Law_law_858 (C : mx_C) (o0 : Option Value) (o1 : Option Value) (o2 : Option Value) (o3 : Option Value) (st : mx_S) (h : mx_H) (P : mx_P) : mx_R k_Law_law C 858 [o0, o1, o2, o3] st h P = (mx_R k_Law_law C 859 [o0, o1, o2, o3] (.int 0 :: st) h P) := mx_xf rfl rfl
set_option maxRecDepth 100000 in
theorem x_Law_law_859 (C : mx_C) (o0 : Option Value) (o1 : Option Value) (o2 : Option Value) (o3 : Option Value) (xi : Int32) (h : mx_H) (P : mx_P) : mx_R k_Law_law C 859 [o0, o1, o2, o3] [.int xi] h P = ((xi = 0 ∨ xi = 1) ∧ P (some (.int xi)) h) := mx_xr2 rfl
set_option maxRecDepth 100000 in
theorem x_Law_law_860 (C : mx_C) (o0 : Option Value) (o2 : Option Value) (o3 : Option Value) (ar : Nat) (st : mx_S) (h : mx_H) (P : mx_P) : mx_R k_Law_law C 860 [o0, some (.ref ar), o2, o3] st h P = (mx_R k_Law_law C 861 [o0, some (.ref ar), o2, o3] (.ref ar :: st) h P) := mx_xf rfl rfl
set_option maxRecDepth 100000 in
theorem x_Law_law_861 (C : mx_C) (o1 : Option Value) (o2 : Option Value) (o3 : Option Value) (ar : Nat) (st : mx_S) (h : mx_H) (P : mx_P) : mx_R k_Law_law C 861 [some (.ref ar), o1, o2, o3] st h P = (mx_R k_Law_law C 862 [some (.ref ar), o1, o2, o3] (.ref ar :: st) h P) := mx_xf rfl rfl
set_option maxRecDepth 100000 in
theorem x_Law_law_862 (C : mx_C) (o0 : Option Value) (o1 : Option Value) (o2 : Option Value) (xi : Int32) (st : mx_S) (h : mx_H) (P : mx_P) : mx_R k_Law_law C 862 [o0, o1, o2, some (.int xi)] st h P = (mx_R k_Law_law C 863 [o0, o1, o2, some (.int xi)] (.int xi :: st) h P) := mx_xf rfl rfl
set_option maxRecDepth 100000 in
theorem x_Law_law_863 (C : mx_C) (o0 : Option Value) (o1 : Option Value) (o2 : Option Value) (o3 : Option Value) (st : mx_S) (h : mx_H) (P : mx_P) : mx_R k_Law_law C 863 [o0, o1, o2, o3] st h P = (mx_R k_Law_law C 864 [o0, o1, o2, o3] (.int 1 :: st) h P) := mx_xf rfl rfl
set_option maxRecDepth 100000 in
theorem x_Law_law_864 (C : mx_C) (o0 : Option Value) (o1 : Option Value) (o2 : Option Value) (o3 : Option Value) (xi : Int32) (yi : Int32) (st : mx_S) (h : mx_H) (P : mx_P) : mx_R k_Law_law C 864 [o0, o1, o2, o3] (.int yi :: .int xi :: st) h P = (mx_R k_Law_law C 865 [o0, o1, o2, o3] (.int (xi + yi) :: st) h P) := mx_xf rfl rfl
set_option maxRecDepth 100000 in
theorem x_Law_law_865 (C : mx_C) (o0 : Option Value) (o1 : Option Value) (o2 : Option Value) (o3 : Option Value) (xi : Int32) (ar : Nat) (st : mx_S) (h : mx_H) (P : mx_P) : mx_R k_Law_law C 865 [o0, o1, o2, o3] (.int xi :: .ref ar :: st) h P = (mx_okr 103 ar h xi = true ∧ mx_R k_Law_law C 866 [o0, o1, o2, o3] (.int (h.1 ar xi.toNatClampNeg) :: st) h P) := mx_xg rfl rfl
set_option maxRecDepth 100000 in
theorem x_Law_law_866 (C : mx_C) (o0 : Option Value) (o1 : Option Value) (o2 : Option Value) (o3 : Option Value) (va0 : Value) (va1 : Value) (h : mx_H) (P : mx_P) : mx_R k_Law_law C 866 [o0, o1, o2, o3] (va1 :: va0 :: []) h P = (∃ v h1, C 119 [va0, va1] h v h1 ∧ mx_R k_Law_law C 869 [o0, o1, o2, o3] (v.toList ++ []) h1 P) := mx_xc rfl (Nat.le_of_ble_eq_true rfl) (Or.inl (Nat.le_of_ble_eq_true rfl)) rfl rfl
set_option maxRecDepth 100000 in
theorem x_Law_law_869 (C : mx_C) (o0 : Option Value) (o1 : Option Value) (o3 : Option Value) (ar : Nat) (st : mx_S) (h : mx_H) (P : mx_P) : mx_R k_Law_law C 869 [o0, o1, some (.ref ar), o3] st h P = (mx_R k_Law_law C 870 [o0, o1, some (.ref ar), o3] (.ref ar :: st) h P) := mx_xf rfl rfl
set_option maxRecDepth 100000 in
theorem x_Law_law_870 (C : mx_C) (o1 : Option Value) (o2 : Option Value) (o3 : Option Value) (ar : Nat) (st : mx_S) (h : mx_H) (P : mx_P) : mx_R k_Law_law C 870 [some (.ref ar), o1, o2, o3] st h P = (mx_R k_Law_law C 871 [some (.ref ar), o1, o2, o3] (.ref ar :: st) h P) := mx_xf rfl rfl
set_option maxRecDepth 100000 in
theorem x_Law_law_871 (C : mx_C) (o0 : Option Value) (o1 : Option Value) (o2 : Option Value) (xi : Int32) (st : mx_S) (h : mx_H) (P : mx_P) : mx_R k_Law_law C 871 [o0, o1, o2, some (.int xi)] st h P = (mx_R k_Law_law C 872 [o0, o1, o2, some (.int xi)] (.int xi :: st) h P) := mx_xf rfl rfl
set_option maxRecDepth 100000 in
theorem x_Law_law_872 (C : mx_C) (o0 : Option Value) (o1 : Option Value) (o2 : Option Value) (o3 : Option Value) (st : mx_S) (h : mx_H) (P : mx_P) : mx_R k_Law_law C 872 [o0, o1, o2, o3] st h P = (mx_R k_Law_law C 873 [o0, o1, o2, o3] (.int 1 :: st) h P) := mx_xf rfl rfl
set_option maxRecDepth 100000 in
theorem x_Law_law_873 (C : mx_C) (o0 : Option Value) (o1 : Option Value) (o2 : Option Value) (o3 : Option Value) (xi : Int32) (yi : Int32) (st : mx_S) (h : mx_H) (P : mx_P) : mx_R k_Law_law C 873 [o0, o1, o2, o3] (.int yi :: .int xi :: st) h P = (mx_R k_Law_law C 874 [o0, o1, o2, o3] (.int (xi + yi) :: st) h P) := mx_xf rfl rfl
set_option maxRecDepth 100000 in
theorem x_Law_law_874 (C : mx_C) (o0 : Option Value) (o1 : Option Value) (o2 : Option Value) (o3 : Option Value) (xi : Int32) (ar : Nat) (st : mx_S) (h : mx_H) (P : mx_P) : mx_R k_Law_law C 874 [o0, o1, o2, o3] (.int xi :: .ref ar :: st) h P = (mx_okr 103 ar h xi = true ∧ mx_R k_Law_law C 875 [o0, o1, o2, o3] (.int (h.1 ar xi.toNatClampNeg) :: st) h P) := mx_xg rfl rfl
set_option maxRecDepth 100000 in
theorem x_Law_law_875 (C : mx_C) (o0 : Option Value) (o1 : Option Value) (o2 : Option Value) (o3 : Option Value) (va0 : Value) (va1 : Value) (vs0 : Value) (h : mx_H) (P : mx_P) : mx_R k_Law_law C 875 [o0, o1, o2, o3] (va1 :: va0 :: [vs0]) h P = (∃ v h1, C 209 [va0, va1] h v h1 ∧ mx_R k_Law_law C 878 [o0, o1, o2, o3] (v.toList ++ [vs0]) h1 P) := mx_xc rfl (Nat.le_of_ble_eq_true rfl) (Or.inl (Nat.le_of_ble_eq_true rfl)) rfl rfl
set_option maxRecDepth 100000 in
theorem x_Law_law_878 (C : mx_C) (o0 : Option Value) (o1 : Option Value) (o2 : Option Value) (o3 : Option Value) (xi : Int32) (yi : Int32) (st : mx_S) (h : mx_H) (P : mx_P) : mx_R k_Law_law C 878 [o0, o1, o2, o3] (.int yi :: .int xi :: st) h P = (if xi = yi then mx_R k_Law_law C 1309 [o0, o1, o2, o3] st h P else mx_R k_Law_law C 881 [o0, o1, o2, o3] st h P) := mx_xb rfl rfl
set_option maxRecDepth 100000 in
theorem x_Law_law_881 (C : mx_C) (o0 : Option Value) (o1 : Option Value) (o2 : Option Value) (o3 : Option Value) (st : mx_S) (h : mx_H) (P : mx_P) : mx_R k_Law_law C 881 [o0, o1, o2, o3] st h P = (mx_R k_Law_law C 882 [o0, o1, o2, o3] (.int 0 :: st) h P) := mx_xf rfl rfl
set_option maxRecDepth 100000 in
theorem x_Law_law_882 (C : mx_C) (o0 : Option Value) (o1 : Option Value) (o2 : Option Value) (o3 : Option Value) (xi : Int32) (h : mx_H) (P : mx_P) : mx_R k_Law_law C 882 [o0, o1, o2, o3] [.int xi] h P = ((xi = 0 ∨ xi = 1) ∧ P (some (.int xi)) h) := mx_xr2 rfl
set_option maxRecDepth 100000 in
theorem x_Law_law_883 (C : mx_C) (o0 : Option Value) (o2 : Option Value) (o3 : Option Value) (ar : Nat) (st : mx_S) (h : mx_H) (P : mx_P) : mx_R k_Law_law C 883 [o0, some (.ref ar), o2, o3] st h P = (mx_R k_Law_law C 884 [o0, some (.ref ar), o2, o3] (.ref ar :: st) h P) := mx_xf rfl rfl
set_option maxRecDepth 100000 in
theorem x_Law_law_884 (C : mx_C) (o1 : Option Value) (o2 : Option Value) (o3 : Option Value) (ar : Nat) (st : mx_S) (h : mx_H) (P : mx_P) : mx_R k_Law_law C 884 [some (.ref ar), o1, o2, o3] st h P = (mx_R k_Law_law C 885 [some (.ref ar), o1, o2, o3] (.ref ar :: st) h P) := mx_xf rfl rfl
set_option maxRecDepth 100000 in
theorem x_Law_law_885 (C : mx_C) (o0 : Option Value) (o1 : Option Value) (o2 : Option Value) (xi : Int32) (st : mx_S) (h : mx_H) (P : mx_P) : mx_R k_Law_law C 885 [o0, o1, o2, some (.int xi)] st h P = (mx_R k_Law_law C 886 [o0, o1, o2, some (.int xi)] (.int xi :: st) h P) := mx_xf rfl rfl
set_option maxRecDepth 100000 in
theorem x_Law_law_886 (C : mx_C) (o0 : Option Value) (o1 : Option Value) (o2 : Option Value) (o3 : Option Value) (st : mx_S) (h : mx_H) (P : mx_P) : mx_R k_Law_law C 886 [o0, o1, o2, o3] st h P = (mx_R k_Law_law C 887 [o0, o1, o2, o3] (.int 1 :: st) h P) := mx_xf rfl rfl
set_option maxRecDepth 100000 in
theorem x_Law_law_887 (C : mx_C) (o0 : Option Value) (o1 : Option Value) (o2 : Option Value) (o3 : Option Value) (xi : Int32) (yi : Int32) (st : mx_S) (h : mx_H) (P : mx_P) : mx_R k_Law_law C 887 [o0, o1, o2, o3] (.int yi :: .int xi :: st) h P = (mx_R k_Law_law C 888 [o0, o1, o2, o3] (.int (xi + yi) :: st) h P) := mx_xf rfl rfl
set_option maxRecDepth 100000 in
theorem x_Law_law_888 (C : mx_C) (o0 : Option Value) (o1 : Option Value) (o2 : Option Value) (o3 : Option Value) (xi : Int32) (ar : Nat) (st : mx_S) (h : mx_H) (P : mx_P) : mx_R k_Law_law C 888 [o0, o1, o2, o3] (.int xi :: .ref ar :: st) h P = (mx_okr 103 ar h xi = true ∧ mx_R k_Law_law C 889 [o0, o1, o2, o3] (.int (h.1 ar xi.toNatClampNeg) :: st) h P) := mx_xg rfl rfl
set_option maxRecDepth 100000 in
theorem x_Law_law_889 (C : mx_C) (o0 : Option Value) (o1 : Option Value) (o2 : Option Value) (o3 : Option Value) (va0 : Value) (va1 : Value) (h : mx_H) (P : mx_P) : mx_R k_Law_law C 889 [o0, o1, o2, o3] (va1 :: va0 :: []) h P = (∃ v h1, C 120 [va0, va1] h v h1 ∧ mx_R k_Law_law C 892 [o0, o1, o2, o3] (v.toList ++ []) h1 P) := mx_xc rfl (Nat.le_of_ble_eq_true rfl) (Or.inl (Nat.le_of_ble_eq_true rfl)) rfl rfl
set_option maxRecDepth 100000 in
theorem x_Law_law_892 (C : mx_C) (o0 : Option Value) (o1 : Option Value) (o3 : Option Value) (ar : Nat) (st : mx_S) (h : mx_H) (P : mx_P) : mx_R k_Law_law C 892 [o0, o1, some (.ref ar), o3] st h P = (mx_R k_Law_law C 893 [o0, o1, some (.ref ar), o3] (.ref ar :: st) h P) := mx_xf rfl rfl
set_option maxRecDepth 100000 in
theorem x_Law_law_893 (C : mx_C) (o1 : Option Value) (o2 : Option Value) (o3 : Option Value) (ar : Nat) (st : mx_S) (h : mx_H) (P : mx_P) : mx_R k_Law_law C 893 [some (.ref ar), o1, o2, o3] st h P = (mx_R k_Law_law C 894 [some (.ref ar), o1, o2, o3] (.ref ar :: st) h P) := mx_xf rfl rfl
set_option maxRecDepth 100000 in
theorem x_Law_law_894 (C : mx_C) (o0 : Option Value) (o1 : Option Value) (o2 : Option Value) (xi : Int32) (st : mx_S) (h : mx_H) (P : mx_P) : mx_R k_Law_law C 894 [o0, o1, o2, some (.int xi)] st h P = (mx_R k_Law_law C 895 [o0, o1, o2, some (.int xi)] (.int xi :: st) h P) := mx_xf rfl rfl
set_option maxRecDepth 100000 in
theorem x_Law_law_895 (C : mx_C) (o0 : Option Value) (o1 : Option Value) (o2 : Option Value) (o3 : Option Value) (st : mx_S) (h : mx_H) (P : mx_P) : mx_R k_Law_law C 895 [o0, o1, o2, o3] st h P = (mx_R k_Law_law C 896 [o0, o1, o2, o3] (.int 1 :: st) h P) := mx_xf rfl rfl
set_option maxRecDepth 100000 in
theorem x_Law_law_896 (C : mx_C) (o0 : Option Value) (o1 : Option Value) (o2 : Option Value) (o3 : Option Value) (xi : Int32) (yi : Int32) (st : mx_S) (h : mx_H) (P : mx_P) : mx_R k_Law_law C 896 [o0, o1, o2, o3] (.int yi :: .int xi :: st) h P = (mx_R k_Law_law C 897 [o0, o1, o2, o3] (.int (xi + yi) :: st) h P) := mx_xf rfl rfl
set_option maxRecDepth 100000 in
theorem x_Law_law_897 (C : mx_C) (o0 : Option Value) (o1 : Option Value) (o2 : Option Value) (o3 : Option Value) (xi : Int32) (ar : Nat) (st : mx_S) (h : mx_H) (P : mx_P) : mx_R k_Law_law C 897 [o0, o1, o2, o3] (.int xi :: .ref ar :: st) h P = (mx_okr 103 ar h xi = true ∧ mx_R k_Law_law C 898 [o0, o1, o2, o3] (.int (h.1 ar xi.toNatClampNeg) :: st) h P) := mx_xg rfl rfl
set_option maxRecDepth 100000 in
theorem x_Law_law_898 (C : mx_C) (o0 : Option Value) (o1 : Option Value) (o2 : Option Value) (o3 : Option Value) (va0 : Value) (va1 : Value) (vs0 : Value) (h : mx_H) (P : mx_P) : mx_R k_Law_law C 898 [o0, o1, o2, o3] (va1 :: va0 :: [vs0]) h P = (∃ v h1, C 213 [va0, va1] h v h1 ∧ mx_R k_Law_law C 901 [o0, o1, o2, o3] (v.toList ++ [vs0]) h1 P) := mx_xc rfl (Nat.le_of_ble_eq_true rfl) (Or.inl (Nat.le_of_ble_eq_true rfl)) rfl rfl
set_option maxRecDepth 100000 in
theorem x_Law_law_901 (C : mx_C) (o0 : Option Value) (o1 : Option Value) (o2 : Option Value) (o3 : Option Value) (xj : Int64) (yj : Int64) (st : mx_S) (h : mx_H) (P : mx_P) : mx_R k_Law_law C 901 [o0, o1, o2, o3] (.long yj :: .long xj :: st) h P = (mx_R k_Law_law C 902 [o0, o1, o2, o3] (.int (lg_cmp xj yj) :: st) h P) := mx_xf rfl rfl
set_option maxRecDepth 100000 in
theorem x_Law_law_902 (C : mx_C) (o0 : Option Value) (o1 : Option Value) (o2 : Option Value) (o3 : Option Value) (xi : Int32) (st : mx_S) (h : mx_H) (P : mx_P) : mx_R k_Law_law C 902 [o0, o1, o2, o3] (.int xi :: st) h P = (if xi = 0 then mx_R k_Law_law C 1309 [o0, o1, o2, o3] st h P else mx_R k_Law_law C 905 [o0, o1, o2, o3] st h P) := mx_xb rfl rfl
set_option maxRecDepth 100000 in
theorem x_Law_law_905 (C : mx_C) (o0 : Option Value) (o1 : Option Value) (o2 : Option Value) (o3 : Option Value) (st : mx_S) (h : mx_H) (P : mx_P) : mx_R k_Law_law C 905 [o0, o1, o2, o3] st h P = (mx_R k_Law_law C 906 [o0, o1, o2, o3] (.int 0 :: st) h P) := mx_xf rfl rfl
set_option maxRecDepth 100000 in
theorem x_Law_law_906 (C : mx_C) (o0 : Option Value) (o1 : Option Value) (o2 : Option Value) (o3 : Option Value) (xi : Int32) (h : mx_H) (P : mx_P) : mx_R k_Law_law C 906 [o0, o1, o2, o3] [.int xi] h P = ((xi = 0 ∨ xi = 1) ∧ P (some (.int xi)) h) := mx_xr2 rfl
set_option maxRecDepth 100000 in
theorem x_Law_law_907 (C : mx_C) (o0 : Option Value) (o2 : Option Value) (o3 : Option Value) (ar : Nat) (st : mx_S) (h : mx_H) (P : mx_P) : mx_R k_Law_law C 907 [o0, some (.ref ar), o2, o3] st h P = (mx_R k_Law_law C 908 [o0, some (.ref ar), o2, o3] (.ref ar :: st) h P) := mx_xf rfl rfl
set_option maxRecDepth 100000 in
theorem x_Law_law_908 (C : mx_C) (o1 : Option Value) (o2 : Option Value) (o3 : Option Value) (ar : Nat) (st : mx_S) (h : mx_H) (P : mx_P) : mx_R k_Law_law C 908 [some (.ref ar), o1, o2, o3] st h P = (mx_R k_Law_law C 909 [some (.ref ar), o1, o2, o3] (.ref ar :: st) h P) := mx_xf rfl rfl
set_option maxRecDepth 100000 in
theorem x_Law_law_909 (C : mx_C) (o0 : Option Value) (o1 : Option Value) (o2 : Option Value) (xi : Int32) (st : mx_S) (h : mx_H) (P : mx_P) : mx_R k_Law_law C 909 [o0, o1, o2, some (.int xi)] st h P = (mx_R k_Law_law C 910 [o0, o1, o2, some (.int xi)] (.int xi :: st) h P) := mx_xf rfl rfl
set_option maxRecDepth 100000 in
theorem x_Law_law_910 (C : mx_C) (o0 : Option Value) (o1 : Option Value) (o2 : Option Value) (o3 : Option Value) (st : mx_S) (h : mx_H) (P : mx_P) : mx_R k_Law_law C 910 [o0, o1, o2, o3] st h P = (mx_R k_Law_law C 911 [o0, o1, o2, o3] (.int 1 :: st) h P) := mx_xf rfl rfl
set_option maxRecDepth 100000 in
theorem x_Law_law_911 (C : mx_C) (o0 : Option Value) (o1 : Option Value) (o2 : Option Value) (o3 : Option Value) (xi : Int32) (yi : Int32) (st : mx_S) (h : mx_H) (P : mx_P) : mx_R k_Law_law C 911 [o0, o1, o2, o3] (.int yi :: .int xi :: st) h P = (mx_R k_Law_law C 912 [o0, o1, o2, o3] (.int (xi + yi) :: st) h P) := mx_xf rfl rfl
set_option maxRecDepth 100000 in
theorem x_Law_law_912 (C : mx_C) (o0 : Option Value) (o1 : Option Value) (o2 : Option Value) (o3 : Option Value) (xi : Int32) (ar : Nat) (st : mx_S) (h : mx_H) (P : mx_P) : mx_R k_Law_law C 912 [o0, o1, o2, o3] (.int xi :: .ref ar :: st) h P = (mx_okr 103 ar h xi = true ∧ mx_R k_Law_law C 913 [o0, o1, o2, o3] (.int (h.1 ar xi.toNatClampNeg) :: st) h P) := mx_xg rfl rfl
set_option maxRecDepth 100000 in
theorem x_Law_law_913 (C : mx_C) (o1 : Option Value) (o2 : Option Value) (o3 : Option Value) (ar : Nat) (st : mx_S) (h : mx_H) (P : mx_P) : mx_R k_Law_law C 913 [some (.ref ar), o1, o2, o3] st h P = (mx_R k_Law_law C 914 [some (.ref ar), o1, o2, o3] (.ref ar :: st) h P) := mx_xf rfl rfl
set_option maxRecDepth 100000 in
theorem x_Law_law_914 (C : mx_C) (o0 : Option Value) (o1 : Option Value) (o2 : Option Value) (xi : Int32) (st : mx_S) (h : mx_H) (P : mx_P) : mx_R k_Law_law C 914 [o0, o1, o2, some (.int xi)] st h P = (mx_R k_Law_law C 915 [o0, o1, o2, some (.int xi)] (.int xi :: st) h P) := mx_xf rfl rfl
set_option maxRecDepth 100000 in
theorem x_Law_law_915 (C : mx_C) (o0 : Option Value) (o1 : Option Value) (o2 : Option Value) (o3 : Option Value) (st : mx_S) (h : mx_H) (P : mx_P) : mx_R k_Law_law C 915 [o0, o1, o2, o3] st h P = (mx_R k_Law_law C 916 [o0, o1, o2, o3] (.int 2 :: st) h P) := mx_xf rfl rfl
set_option maxRecDepth 100000 in
theorem x_Law_law_916 (C : mx_C) (o0 : Option Value) (o1 : Option Value) (o2 : Option Value) (o3 : Option Value) (xi : Int32) (yi : Int32) (st : mx_S) (h : mx_H) (P : mx_P) : mx_R k_Law_law C 916 [o0, o1, o2, o3] (.int yi :: .int xi :: st) h P = (mx_R k_Law_law C 917 [o0, o1, o2, o3] (.int (xi + yi) :: st) h P) := mx_xf rfl rfl
set_option maxRecDepth 100000 in
theorem x_Law_law_917 (C : mx_C) (o0 : Option Value) (o1 : Option Value) (o2 : Option Value) (o3 : Option Value) (xi : Int32) (ar : Nat) (st : mx_S) (h : mx_H) (P : mx_P) : mx_R k_Law_law C 917 [o0, o1, o2, o3] (.int xi :: .ref ar :: st) h P = (mx_okr 103 ar h xi = true ∧ mx_R k_Law_law C 918 [o0, o1, o2, o3] (.int (h.1 ar xi.toNatClampNeg) :: st) h P) := mx_xg rfl rfl
set_option maxRecDepth 100000 in
theorem x_Law_law_918 (C : mx_C) (o0 : Option Value) (o1 : Option Value) (o2 : Option Value) (o3 : Option Value) (va0 : Value) (va1 : Value) (va2 : Value) (h : mx_H) (P : mx_P) : mx_R k_Law_law C 918 [o0, o1, o2, o3] (va2 :: va1 :: va0 :: []) h P = (∃ v h1, C 121 [va0, va1, va2] h v h1 ∧ mx_R k_Law_law C 921 [o0, o1, o2, o3] (v.toList ++ []) h1 P) := mx_xc rfl (Nat.le_of_ble_eq_true rfl) (Or.inl (Nat.le_of_ble_eq_true rfl)) rfl rfl
set_option maxRecDepth 100000 in
theorem x_Law_law_921 (C : mx_C) (o0 : Option Value) (o1 : Option Value) (o3 : Option Value) (ar : Nat) (st : mx_S) (h : mx_H) (P : mx_P) : mx_R k_Law_law C 921 [o0, o1, some (.ref ar), o3] st h P = (mx_R k_Law_law C 922 [o0, o1, some (.ref ar), o3] (.ref ar :: st) h P) := mx_xf rfl rfl
set_option maxRecDepth 100000 in
theorem x_Law_law_922 (C : mx_C) (o1 : Option Value) (o2 : Option Value) (o3 : Option Value) (ar : Nat) (st : mx_S) (h : mx_H) (P : mx_P) : mx_R k_Law_law C 922 [some (.ref ar), o1, o2, o3] st h P = (mx_R k_Law_law C 923 [some (.ref ar), o1, o2, o3] (.ref ar :: st) h P) := mx_xf rfl rfl
set_option maxRecDepth 100000 in
theorem x_Law_law_923 (C : mx_C) (o0 : Option Value) (o1 : Option Value) (o2 : Option Value) (xi : Int32) (st : mx_S) (h : mx_H) (P : mx_P) : mx_R k_Law_law C 923 [o0, o1, o2, some (.int xi)] st h P = (mx_R k_Law_law C 924 [o0, o1, o2, some (.int xi)] (.int xi :: st) h P) := mx_xf rfl rfl
set_option maxRecDepth 100000 in
theorem x_Law_law_924 (C : mx_C) (o0 : Option Value) (o1 : Option Value) (o2 : Option Value) (o3 : Option Value) (st : mx_S) (h : mx_H) (P : mx_P) : mx_R k_Law_law C 924 [o0, o1, o2, o3] st h P = (mx_R k_Law_law C 925 [o0, o1, o2, o3] (.int 1 :: st) h P) := mx_xf rfl rfl
set_option maxRecDepth 100000 in
theorem x_Law_law_925 (C : mx_C) (o0 : Option Value) (o1 : Option Value) (o2 : Option Value) (o3 : Option Value) (xi : Int32) (yi : Int32) (st : mx_S) (h : mx_H) (P : mx_P) : mx_R k_Law_law C 925 [o0, o1, o2, o3] (.int yi :: .int xi :: st) h P = (mx_R k_Law_law C 926 [o0, o1, o2, o3] (.int (xi + yi) :: st) h P) := mx_xf rfl rfl
set_option maxRecDepth 100000 in
theorem x_Law_law_926 (C : mx_C) (o0 : Option Value) (o1 : Option Value) (o2 : Option Value) (o3 : Option Value) (xi : Int32) (ar : Nat) (st : mx_S) (h : mx_H) (P : mx_P) : mx_R k_Law_law C 926 [o0, o1, o2, o3] (.int xi :: .ref ar :: st) h P = (mx_okr 103 ar h xi = true ∧ mx_R k_Law_law C 927 [o0, o1, o2, o3] (.int (h.1 ar xi.toNatClampNeg) :: st) h P) := mx_xg rfl rfl
set_option maxRecDepth 100000 in
theorem x_Law_law_927 (C : mx_C) (o1 : Option Value) (o2 : Option Value) (o3 : Option Value) (ar : Nat) (st : mx_S) (h : mx_H) (P : mx_P) : mx_R k_Law_law C 927 [some (.ref ar), o1, o2, o3] st h P = (mx_R k_Law_law C 928 [some (.ref ar), o1, o2, o3] (.ref ar :: st) h P) := mx_xf rfl rfl
set_option maxRecDepth 100000 in
theorem x_Law_law_928 (C : mx_C) (o0 : Option Value) (o1 : Option Value) (o2 : Option Value) (xi : Int32) (st : mx_S) (h : mx_H) (P : mx_P) : mx_R k_Law_law C 928 [o0, o1, o2, some (.int xi)] st h P = (mx_R k_Law_law C 929 [o0, o1, o2, some (.int xi)] (.int xi :: st) h P) := mx_xf rfl rfl
set_option maxRecDepth 100000 in
theorem x_Law_law_929 (C : mx_C) (o0 : Option Value) (o1 : Option Value) (o2 : Option Value) (o3 : Option Value) (st : mx_S) (h : mx_H) (P : mx_P) : mx_R k_Law_law C 929 [o0, o1, o2, o3] st h P = (mx_R k_Law_law C 930 [o0, o1, o2, o3] (.int 2 :: st) h P) := mx_xf rfl rfl
set_option maxRecDepth 100000 in
theorem x_Law_law_930 (C : mx_C) (o0 : Option Value) (o1 : Option Value) (o2 : Option Value) (o3 : Option Value) (xi : Int32) (yi : Int32) (st : mx_S) (h : mx_H) (P : mx_P) : mx_R k_Law_law C 930 [o0, o1, o2, o3] (.int yi :: .int xi :: st) h P = (mx_R k_Law_law C 931 [o0, o1, o2, o3] (.int (xi + yi) :: st) h P) := mx_xf rfl rfl
set_option maxRecDepth 100000 in
theorem x_Law_law_931 (C : mx_C) (o0 : Option Value) (o1 : Option Value) (o2 : Option Value) (o3 : Option Value) (xi : Int32) (ar : Nat) (st : mx_S) (h : mx_H) (P : mx_P) : mx_R k_Law_law C 931 [o0, o1, o2, o3] (.int xi :: .ref ar :: st) h P = (mx_okr 103 ar h xi = true ∧ mx_R k_Law_law C 932 [o0, o1, o2, o3] (.int (h.1 ar xi.toNatClampNeg) :: st) h P) := mx_xg rfl rfl
set_option maxRecDepth 100000 in
theorem x_Law_law_932 (C : mx_C) (o0 : Option Value) (o1 : Option Value) (o2 : Option Value) (o3 : Option Value) (va0 : Value) (va1 : Value) (va2 : Value) (vs0 : Value) (h : mx_H) (P : mx_P) : mx_R k_Law_law C 932 [o0, o1, o2, o3] (va2 :: va1 :: va0 :: [vs0]) h P = (∃ v h1, C 215 [va0, va1, va2] h v h1 ∧ mx_R k_Law_law C 935 [o0, o1, o2, o3] (v.toList ++ [vs0]) h1 P) := mx_xc rfl (Nat.le_of_ble_eq_true rfl) (Or.inl (Nat.le_of_ble_eq_true rfl)) rfl rfl
set_option maxRecDepth 100000 in
theorem x_Law_law_935 (C : mx_C) (o0 : Option Value) (o1 : Option Value) (o2 : Option Value) (o3 : Option Value) (xi : Int32) (yi : Int32) (st : mx_S) (h : mx_H) (P : mx_P) : mx_R k_Law_law C 935 [o0, o1, o2, o3] (.int yi :: .int xi :: st) h P = (if xi = yi then mx_R k_Law_law C 1309 [o0, o1, o2, o3] st h P else mx_R k_Law_law C 938 [o0, o1, o2, o3] st h P) := mx_xb rfl rfl
set_option maxRecDepth 100000 in
theorem x_Law_law_938 (C : mx_C) (o0 : Option Value) (o1 : Option Value) (o2 : Option Value) (o3 : Option Value) (st : mx_S) (h : mx_H) (P : mx_P) : mx_R k_Law_law C 938 [o0, o1, o2, o3] st h P = (mx_R k_Law_law C 939 [o0, o1, o2, o3] (.int 0 :: st) h P) := mx_xf rfl rfl
set_option maxRecDepth 100000 in
theorem x_Law_law_939 (C : mx_C) (o0 : Option Value) (o1 : Option Value) (o2 : Option Value) (o3 : Option Value) (xi : Int32) (h : mx_H) (P : mx_P) : mx_R k_Law_law C 939 [o0, o1, o2, o3] [.int xi] h P = ((xi = 0 ∨ xi = 1) ∧ P (some (.int xi)) h) := mx_xr2 rfl
set_option maxRecDepth 100000 in
theorem x_Law_law_940 (C : mx_C) (o0 : Option Value) (o2 : Option Value) (o3 : Option Value) (ar : Nat) (st : mx_S) (h : mx_H) (P : mx_P) : mx_R k_Law_law C 940 [o0, some (.ref ar), o2, o3] st h P = (mx_R k_Law_law C 941 [o0, some (.ref ar), o2, o3] (.ref ar :: st) h P) := mx_xf rfl rfl
set_option maxRecDepth 100000 in
theorem x_Law_law_941 (C : mx_C) (o1 : Option Value) (o2 : Option Value) (o3 : Option Value) (ar : Nat) (st : mx_S) (h : mx_H) (P : mx_P) : mx_R k_Law_law C 941 [some (.ref ar), o1, o2, o3] st h P = (mx_R k_Law_law C 942 [some (.ref ar), o1, o2, o3] (.ref ar :: st) h P) := mx_xf rfl rfl
set_option maxRecDepth 100000 in
theorem x_Law_law_942 (C : mx_C) (o0 : Option Value) (o1 : Option Value) (o2 : Option Value) (xi : Int32) (st : mx_S) (h : mx_H) (P : mx_P) : mx_R k_Law_law C 942 [o0, o1, o2, some (.int xi)] st h P = (mx_R k_Law_law C 943 [o0, o1, o2, some (.int xi)] (.int xi :: st) h P) := mx_xf rfl rfl
set_option maxRecDepth 100000 in
theorem x_Law_law_943 (C : mx_C) (o0 : Option Value) (o1 : Option Value) (o2 : Option Value) (o3 : Option Value) (st : mx_S) (h : mx_H) (P : mx_P) : mx_R k_Law_law C 943 [o0, o1, o2, o3] st h P = (mx_R k_Law_law C 944 [o0, o1, o2, o3] (.int 1 :: st) h P) := mx_xf rfl rfl
set_option maxRecDepth 100000 in
theorem x_Law_law_944 (C : mx_C) (o0 : Option Value) (o1 : Option Value) (o2 : Option Value) (o3 : Option Value) (xi : Int32) (yi : Int32) (st : mx_S) (h : mx_H) (P : mx_P) : mx_R k_Law_law C 944 [o0, o1, o2, o3] (.int yi :: .int xi :: st) h P = (mx_R k_Law_law C 945 [o0, o1, o2, o3] (.int (xi + yi) :: st) h P) := mx_xf rfl rfl
set_option maxRecDepth 100000 in
theorem x_Law_law_945 (C : mx_C) (o0 : Option Value) (o1 : Option Value) (o2 : Option Value) (o3 : Option Value) (xi : Int32) (ar : Nat) (st : mx_S) (h : mx_H) (P : mx_P) : mx_R k_Law_law C 945 [o0, o1, o2, o3] (.int xi :: .ref ar :: st) h P = (mx_okr 103 ar h xi = true ∧ mx_R k_Law_law C 946 [o0, o1, o2, o3] (.int (h.1 ar xi.toNatClampNeg) :: st) h P) := mx_xg rfl rfl
set_option maxRecDepth 100000 in
theorem x_Law_law_946 (C : mx_C) (o1 : Option Value) (o2 : Option Value) (o3 : Option Value) (ar : Nat) (st : mx_S) (h : mx_H) (P : mx_P) : mx_R k_Law_law C 946 [some (.ref ar), o1, o2, o3] st h P = (mx_R k_Law_law C 947 [some (.ref ar), o1, o2, o3] (.ref ar :: st) h P) := mx_xf rfl rfl
set_option maxRecDepth 100000 in
theorem x_Law_law_947 (C : mx_C) (o0 : Option Value) (o1 : Option Value) (o2 : Option Value) (xi : Int32) (st : mx_S) (h : mx_H) (P : mx_P) : mx_R k_Law_law C 947 [o0, o1, o2, some (.int xi)] st h P = (mx_R k_Law_law C 948 [o0, o1, o2, some (.int xi)] (.int xi :: st) h P) := mx_xf rfl rfl
set_option maxRecDepth 100000 in
theorem x_Law_law_948 (C : mx_C) (o0 : Option Value) (o1 : Option Value) (o2 : Option Value) (o3 : Option Value) (st : mx_S) (h : mx_H) (P : mx_P) : mx_R k_Law_law C 948 [o0, o1, o2, o3] st h P = (mx_R k_Law_law C 949 [o0, o1, o2, o3] (.int 2 :: st) h P) := mx_xf rfl rfl
set_option maxRecDepth 100000 in
theorem x_Law_law_949 (C : mx_C) (o0 : Option Value) (o1 : Option Value) (o2 : Option Value) (o3 : Option Value) (xi : Int32) (yi : Int32) (st : mx_S) (h : mx_H) (P : mx_P) : mx_R k_Law_law C 949 [o0, o1, o2, o3] (.int yi :: .int xi :: st) h P = (mx_R k_Law_law C 950 [o0, o1, o2, o3] (.int (xi + yi) :: st) h P) := mx_xf rfl rfl
set_option maxRecDepth 100000 in
theorem x_Law_law_950 (C : mx_C) (o0 : Option Value) (o1 : Option Value) (o2 : Option Value) (o3 : Option Value) (xi : Int32) (ar : Nat) (st : mx_S) (h : mx_H) (P : mx_P) : mx_R k_Law_law C 950 [o0, o1, o2, o3] (.int xi :: .ref ar :: st) h P = (mx_okr 103 ar h xi = true ∧ mx_R k_Law_law C 951 [o0, o1, o2, o3] (.int (h.1 ar xi.toNatClampNeg) :: st) h P) := mx_xg rfl rfl
set_option maxRecDepth 100000 in
theorem x_Law_law_951 (C : mx_C) (o1 : Option Value) (o2 : Option Value) (o3 : Option Value) (ar : Nat) (st : mx_S) (h : mx_H) (P : mx_P) : mx_R k_Law_law C 951 [some (.ref ar), o1, o2, o3] st h P = (mx_R k_Law_law C 952 [some (.ref ar), o1, o2, o3] (.ref ar :: st) h P) := mx_xf rfl rfl
set_option maxRecDepth 100000 in
theorem x_Law_law_952 (C : mx_C) (o0 : Option Value) (o1 : Option Value) (o2 : Option Value) (xi : Int32) (st : mx_S) (h : mx_H) (P : mx_P) : mx_R k_Law_law C 952 [o0, o1, o2, some (.int xi)] st h P = (mx_R k_Law_law C 953 [o0, o1, o2, some (.int xi)] (.int xi :: st) h P) := mx_xf rfl rfl
set_option maxRecDepth 100000 in
theorem x_Law_law_953 (C : mx_C) (o0 : Option Value) (o1 : Option Value) (o2 : Option Value) (o3 : Option Value) (st : mx_S) (h : mx_H) (P : mx_P) : mx_R k_Law_law C 953 [o0, o1, o2, o3] st h P = (mx_R k_Law_law C 954 [o0, o1, o2, o3] (.int 3 :: st) h P) := mx_xf rfl rfl
set_option maxRecDepth 100000 in
theorem x_Law_law_954 (C : mx_C) (o0 : Option Value) (o1 : Option Value) (o2 : Option Value) (o3 : Option Value) (xi : Int32) (yi : Int32) (st : mx_S) (h : mx_H) (P : mx_P) : mx_R k_Law_law C 954 [o0, o1, o2, o3] (.int yi :: .int xi :: st) h P = (mx_R k_Law_law C 955 [o0, o1, o2, o3] (.int (xi + yi) :: st) h P) := mx_xf rfl rfl
set_option maxRecDepth 100000 in
theorem x_Law_law_955 (C : mx_C) (o0 : Option Value) (o1 : Option Value) (o2 : Option Value) (o3 : Option Value) (xi : Int32) (ar : Nat) (st : mx_S) (h : mx_H) (P : mx_P) : mx_R k_Law_law C 955 [o0, o1, o2, o3] (.int xi :: .ref ar :: st) h P = (mx_okr 103 ar h xi = true ∧ mx_R k_Law_law C 956 [o0, o1, o2, o3] (.int (h.1 ar xi.toNatClampNeg) :: st) h P) := mx_xg rfl rfl
set_option maxRecDepth 100000 in
theorem x_Law_law_956 (C : mx_C) (o0 : Option Value) (o1 : Option Value) (o2 : Option Value) (o3 : Option Value) (va0 : Value) (va1 : Value) (va2 : Value) (va3 : Value) (h : mx_H) (P : mx_P) : mx_R k_Law_law C 956 [o0, o1, o2, o3] (va3 :: va2 :: va1 :: va0 :: []) h P = (∃ v h1, C 122 [va0, va1, va2, va3] h v h1 ∧ mx_R k_Law_law C 959 [o0, o1, o2, o3] (v.toList ++ []) h1 P) := mx_xc rfl (Nat.le_of_ble_eq_true rfl) (Or.inl (Nat.le_of_ble_eq_true rfl)) rfl rfl
set_option maxRecDepth 100000 in
theorem x_Law_law_959 (C : mx_C) (o0 : Option Value) (o1 : Option Value) (o3 : Option Value) (ar : Nat) (st : mx_S) (h : mx_H) (P : mx_P) : mx_R k_Law_law C 959 [o0, o1, some (.ref ar), o3] st h P = (mx_R k_Law_law C 960 [o0, o1, some (.ref ar), o3] (.ref ar :: st) h P) := mx_xf rfl rfl
set_option maxRecDepth 100000 in
theorem x_Law_law_960 (C : mx_C) (o1 : Option Value) (o2 : Option Value) (o3 : Option Value) (ar : Nat) (st : mx_S) (h : mx_H) (P : mx_P) : mx_R k_Law_law C 960 [some (.ref ar), o1, o2, o3] st h P = (mx_R k_Law_law C 961 [some (.ref ar), o1, o2, o3] (.ref ar :: st) h P) := mx_xf rfl rfl
set_option maxRecDepth 100000 in
theorem x_Law_law_961 (C : mx_C) (o0 : Option Value) (o1 : Option Value) (o2 : Option Value) (xi : Int32) (st : mx_S) (h : mx_H) (P : mx_P) : mx_R k_Law_law C 961 [o0, o1, o2, some (.int xi)] st h P = (mx_R k_Law_law C 962 [o0, o1, o2, some (.int xi)] (.int xi :: st) h P) := mx_xf rfl rfl
set_option maxRecDepth 100000 in
theorem x_Law_law_962 (C : mx_C) (o0 : Option Value) (o1 : Option Value) (o2 : Option Value) (o3 : Option Value) (st : mx_S) (h : mx_H) (P : mx_P) : mx_R k_Law_law C 962 [o0, o1, o2, o3] st h P = (mx_R k_Law_law C 963 [o0, o1, o2, o3] (.int 1 :: st) h P) := mx_xf rfl rfl
set_option maxRecDepth 100000 in
theorem x_Law_law_963 (C : mx_C) (o0 : Option Value) (o1 : Option Value) (o2 : Option Value) (o3 : Option Value) (xi : Int32) (yi : Int32) (st : mx_S) (h : mx_H) (P : mx_P) : mx_R k_Law_law C 963 [o0, o1, o2, o3] (.int yi :: .int xi :: st) h P = (mx_R k_Law_law C 964 [o0, o1, o2, o3] (.int (xi + yi) :: st) h P) := mx_xf rfl rfl
set_option maxRecDepth 100000 in
theorem x_Law_law_964 (C : mx_C) (o0 : Option Value) (o1 : Option Value) (o2 : Option Value) (o3 : Option Value) (xi : Int32) (ar : Nat) (st : mx_S) (h : mx_H) (P : mx_P) : mx_R k_Law_law C 964 [o0, o1, o2, o3] (.int xi :: .ref ar :: st) h P = (mx_okr 103 ar h xi = true ∧ mx_R k_Law_law C 965 [o0, o1, o2, o3] (.int (h.1 ar xi.toNatClampNeg) :: st) h P) := mx_xg rfl rfl
set_option maxRecDepth 100000 in
theorem x_Law_law_965 (C : mx_C) (o1 : Option Value) (o2 : Option Value) (o3 : Option Value) (ar : Nat) (st : mx_S) (h : mx_H) (P : mx_P) : mx_R k_Law_law C 965 [some (.ref ar), o1, o2, o3] st h P = (mx_R k_Law_law C 966 [some (.ref ar), o1, o2, o3] (.ref ar :: st) h P) := mx_xf rfl rfl
set_option maxRecDepth 100000 in
theorem x_Law_law_966 (C : mx_C) (o0 : Option Value) (o1 : Option Value) (o2 : Option Value) (xi : Int32) (st : mx_S) (h : mx_H) (P : mx_P) : mx_R k_Law_law C 966 [o0, o1, o2, some (.int xi)] st h P = (mx_R k_Law_law C 967 [o0, o1, o2, some (.int xi)] (.int xi :: st) h P) := mx_xf rfl rfl
set_option maxRecDepth 100000 in
theorem x_Law_law_967 (C : mx_C) (o0 : Option Value) (o1 : Option Value) (o2 : Option Value) (o3 : Option Value) (st : mx_S) (h : mx_H) (P : mx_P) : mx_R k_Law_law C 967 [o0, o1, o2, o3] st h P = (mx_R k_Law_law C 968 [o0, o1, o2, o3] (.int 2 :: st) h P) := mx_xf rfl rfl
set_option maxRecDepth 100000 in
theorem x_Law_law_968 (C : mx_C) (o0 : Option Value) (o1 : Option Value) (o2 : Option Value) (o3 : Option Value) (xi : Int32) (yi : Int32) (st : mx_S) (h : mx_H) (P : mx_P) : mx_R k_Law_law C 968 [o0, o1, o2, o3] (.int yi :: .int xi :: st) h P = (mx_R k_Law_law C 969 [o0, o1, o2, o3] (.int (xi + yi) :: st) h P) := mx_xf rfl rfl
set_option maxRecDepth 100000 in
theorem x_Law_law_969 (C : mx_C) (o0 : Option Value) (o1 : Option Value) (o2 : Option Value) (o3 : Option Value) (xi : Int32) (ar : Nat) (st : mx_S) (h : mx_H) (P : mx_P) : mx_R k_Law_law C 969 [o0, o1, o2, o3] (.int xi :: .ref ar :: st) h P = (mx_okr 103 ar h xi = true ∧ mx_R k_Law_law C 970 [o0, o1, o2, o3] (.int (h.1 ar xi.toNatClampNeg) :: st) h P) := mx_xg rfl rfl
set_option maxRecDepth 100000 in
theorem x_Law_law_970 (C : mx_C) (o1 : Option Value) (o2 : Option Value) (o3 : Option Value) (ar : Nat) (st : mx_S) (h : mx_H) (P : mx_P) : mx_R k_Law_law C 970 [some (.ref ar), o1, o2, o3] st h P = (mx_R k_Law_law C 971 [some (.ref ar), o1, o2, o3] (.ref ar :: st) h P) := mx_xf rfl rfl
set_option maxRecDepth 100000 in
theorem x_Law_law_971 (C : mx_C) (o0 : Option Value) (o1 : Option Value) (o2 : Option Value) (xi : Int32) (st : mx_S) (h : mx_H) (P : mx_P) : mx_R k_Law_law C 971 [o0, o1, o2, some (.int xi)] st h P = (mx_R k_Law_law C 972 [o0, o1, o2, some (.int xi)] (.int xi :: st) h P) := mx_xf rfl rfl
set_option maxRecDepth 100000 in
theorem x_Law_law_972 (C : mx_C) (o0 : Option Value) (o1 : Option Value) (o2 : Option Value) (o3 : Option Value) (st : mx_S) (h : mx_H) (P : mx_P) : mx_R k_Law_law C 972 [o0, o1, o2, o3] st h P = (mx_R k_Law_law C 973 [o0, o1, o2, o3] (.int 3 :: st) h P) := mx_xf rfl rfl
set_option maxRecDepth 100000 in
theorem x_Law_law_973 (C : mx_C) (o0 : Option Value) (o1 : Option Value) (o2 : Option Value) (o3 : Option Value) (xi : Int32) (yi : Int32) (st : mx_S) (h : mx_H) (P : mx_P) : mx_R k_Law_law C 973 [o0, o1, o2, o3] (.int yi :: .int xi :: st) h P = (mx_R k_Law_law C 974 [o0, o1, o2, o3] (.int (xi + yi) :: st) h P) := mx_xf rfl rfl
set_option maxRecDepth 100000 in
theorem x_Law_law_974 (C : mx_C) (o0 : Option Value) (o1 : Option Value) (o2 : Option Value) (o3 : Option Value) (xi : Int32) (ar : Nat) (st : mx_S) (h : mx_H) (P : mx_P) : mx_R k_Law_law C 974 [o0, o1, o2, o3] (.int xi :: .ref ar :: st) h P = (mx_okr 103 ar h xi = true ∧ mx_R k_Law_law C 975 [o0, o1, o2, o3] (.int (h.1 ar xi.toNatClampNeg) :: st) h P) := mx_xg rfl rfl
set_option maxRecDepth 100000 in
theorem x_Law_law_975 (C : mx_C) (o0 : Option Value) (o1 : Option Value) (o2 : Option Value) (o3 : Option Value) (va0 : Value) (va1 : Value) (va2 : Value) (va3 : Value) (vs0 : Value) (h : mx_H) (P : mx_P) : mx_R k_Law_law C 975 [o0, o1, o2, o3] (va3 :: va2 :: va1 :: va0 :: [vs0]) h P = (∃ v h1, C 224 [va0, va1, va2, va3] h v h1 ∧ mx_R k_Law_law C 978 [o0, o1, o2, o3] (v.toList ++ [vs0]) h1 P) := mx_xc rfl (Nat.le_of_ble_eq_true rfl) (Or.inl (Nat.le_of_ble_eq_true rfl)) rfl rfl
set_option maxRecDepth 100000 in
theorem x_Law_law_978 (C : mx_C) (o0 : Option Value) (o1 : Option Value) (o2 : Option Value) (o3 : Option Value) (xi : Int32) (yi : Int32) (st : mx_S) (h : mx_H) (P : mx_P) : mx_R k_Law_law C 978 [o0, o1, o2, o3] (.int yi :: .int xi :: st) h P = (if xi = yi then mx_R k_Law_law C 1309 [o0, o1, o2, o3] st h P else mx_R k_Law_law C 981 [o0, o1, o2, o3] st h P) := mx_xb rfl rfl
set_option maxRecDepth 100000 in
theorem x_Law_law_981 (C : mx_C) (o0 : Option Value) (o1 : Option Value) (o2 : Option Value) (o3 : Option Value) (st : mx_S) (h : mx_H) (P : mx_P) : mx_R k_Law_law C 981 [o0, o1, o2, o3] st h P = (mx_R k_Law_law C 982 [o0, o1, o2, o3] (.int 0 :: st) h P) := mx_xf rfl rfl
set_option maxRecDepth 100000 in
theorem x_Law_law_982 (C : mx_C) (o0 : Option Value) (o1 : Option Value) (o2 : Option Value) (o3 : Option Value) (xi : Int32) (h : mx_H) (P : mx_P) : mx_R k_Law_law C 982 [o0, o1, o2, o3] [.int xi] h P = ((xi = 0 ∨ xi = 1) ∧ P (some (.int xi)) h) := mx_xr2 rfl
set_option maxRecDepth 100000 in
theorem x_Law_law_983 (C : mx_C) (o0 : Option Value) (o2 : Option Value) (o3 : Option Value) (ar : Nat) (st : mx_S) (h : mx_H) (P : mx_P) : mx_R k_Law_law C 983 [o0, some (.ref ar), o2, o3] st h P = (mx_R k_Law_law C 984 [o0, some (.ref ar), o2, o3] (.ref ar :: st) h P) := mx_xf rfl rfl
set_option maxRecDepth 100000 in
theorem x_Law_law_984 (C : mx_C) (o1 : Option Value) (o2 : Option Value) (o3 : Option Value) (ar : Nat) (st : mx_S) (h : mx_H) (P : mx_P) : mx_R k_Law_law C 984 [some (.ref ar), o1, o2, o3] st h P = (mx_R k_Law_law C 985 [some (.ref ar), o1, o2, o3] (.ref ar :: st) h P) := mx_xf rfl rfl
set_option maxRecDepth 100000 in
theorem x_Law_law_985 (C : mx_C) (o0 : Option Value) (o1 : Option Value) (o2 : Option Value) (xi : Int32) (st : mx_S) (h : mx_H) (P : mx_P) : mx_R k_Law_law C 985 [o0, o1, o2, some (.int xi)] st h P = (mx_R k_Law_law C 986 [o0, o1, o2, some (.int xi)] (.int xi :: st) h P) := mx_xf rfl rfl
set_option maxRecDepth 100000 in
theorem x_Law_law_986 (C : mx_C) (o0 : Option Value) (o1 : Option Value) (o2 : Option Value) (o3 : Option Value) (st : mx_S) (h : mx_H) (P : mx_P) : mx_R k_Law_law C 986 [o0, o1, o2, o3] st h P = (mx_R k_Law_law C 987 [o0, o1, o2, o3] (.int 1 :: st) h P) := mx_xf rfl rfl
set_option maxRecDepth 100000 in
theorem x_Law_law_987 (C : mx_C) (o0 : Option Value) (o1 : Option Value) (o2 : Option Value) (o3 : Option Value) (xi : Int32) (yi : Int32) (st : mx_S) (h : mx_H) (P : mx_P) : mx_R k_Law_law C 987 [o0, o1, o2, o3] (.int yi :: .int xi :: st) h P = (mx_R k_Law_law C 988 [o0, o1, o2, o3] (.int (xi + yi) :: st) h P) := mx_xf rfl rfl
set_option maxRecDepth 100000 in
theorem x_Law_law_988 (C : mx_C) (o0 : Option Value) (o1 : Option Value) (o2 : Option Value) (o3 : Option Value) (xi : Int32) (ar : Nat) (st : mx_S) (h : mx_H) (P : mx_P) : mx_R k_Law_law C 988 [o0, o1, o2, o3] (.int xi :: .ref ar :: st) h P = (mx_okr 103 ar h xi = true ∧ mx_R k_Law_law C 989 [o0, o1, o2, o3] (.int (h.1 ar xi.toNatClampNeg) :: st) h P) := mx_xg rfl rfl
set_option maxRecDepth 100000 in
theorem x_Law_law_989 (C : mx_C) (o0 : Option Value) (o1 : Option Value) (o2 : Option Value) (o3 : Option Value) (va0 : Value) (va1 : Value) (h : mx_H) (P : mx_P) : mx_R k_Law_law C 989 [o0, o1, o2, o3] (va1 :: va0 :: []) h P = (∃ v h1, C 123 [va0, va1] h v h1 ∧ mx_R k_Law_law C 992 [o0, o1, o2, o3] (v.toList ++ []) h1 P) := mx_xc rfl (Nat.le_of_ble_eq_true rfl) (Or.inl (Nat.le_of_ble_eq_true rfl)) rfl rfl
set_option maxRecDepth 100000 in
theorem x_Law_law_992 (C : mx_C) (o0 : Option Value) (o1 : Option Value) (o3 : Option Value) (ar : Nat) (st : mx_S) (h : mx_H) (P : mx_P) : mx_R k_Law_law C 992 [o0, o1, some (.ref ar), o3] st h P = (mx_R k_Law_law C 993 [o0, o1, some (.ref ar), o3] (.ref ar :: st) h P) := mx_xf rfl rfl
set_option maxRecDepth 100000 in
theorem x_Law_law_993 (C : mx_C) (o1 : Option Value) (o2 : Option Value) (o3 : Option Value) (ar : Nat) (st : mx_S) (h : mx_H) (P : mx_P) : mx_R k_Law_law C 993 [some (.ref ar), o1, o2, o3] st h P = (mx_R k_Law_law C 994 [some (.ref ar), o1, o2, o3] (.ref ar :: st) h P) := mx_xf rfl rfl
set_option maxRecDepth 100000 in
theorem x_Law_law_994 (C : mx_C) (o0 : Option Value) (o1 : Option Value) (o2 : Option Value) (xi : Int32) (st : mx_S) (h : mx_H) (P : mx_P) : mx_R k_Law_law C 994 [o0, o1, o2, some (.int xi)] st h P = (mx_R k_Law_law C 995 [o0, o1, o2, some (.int xi)] (.int xi :: st) h P) := mx_xf rfl rfl
set_option maxRecDepth 100000 in
theorem x_Law_law_995 (C : mx_C) (o0 : Option Value) (o1 : Option Value) (o2 : Option Value) (o3 : Option Value) (st : mx_S) (h : mx_H) (P : mx_P) : mx_R k_Law_law C 995 [o0, o1, o2, o3] st h P = (mx_R k_Law_law C 996 [o0, o1, o2, o3] (.int 1 :: st) h P) := mx_xf rfl rfl
set_option maxRecDepth 100000 in
theorem x_Law_law_996 (C : mx_C) (o0 : Option Value) (o1 : Option Value) (o2 : Option Value) (o3 : Option Value) (xi : Int32) (yi : Int32) (st : mx_S) (h : mx_H) (P : mx_P) : mx_R k_Law_law C 996 [o0, o1, o2, o3] (.int yi :: .int xi :: st) h P = (mx_R k_Law_law C 997 [o0, o1, o2, o3] (.int (xi + yi) :: st) h P) := mx_xf rfl rfl
set_option maxRecDepth 100000 in
theorem x_Law_law_997 (C : mx_C) (o0 : Option Value) (o1 : Option Value) (o2 : Option Value) (o3 : Option Value) (xi : Int32) (ar : Nat) (st : mx_S) (h : mx_H) (P : mx_P) : mx_R k_Law_law C 997 [o0, o1, o2, o3] (.int xi :: .ref ar :: st) h P = (mx_okr 103 ar h xi = true ∧ mx_R k_Law_law C 998 [o0, o1, o2, o3] (.int (h.1 ar xi.toNatClampNeg) :: st) h P) := mx_xg rfl rfl
set_option maxRecDepth 100000 in
theorem x_Law_law_998 (C : mx_C) (o0 : Option Value) (o1 : Option Value) (o2 : Option Value) (o3 : Option Value) (va0 : Value) (va1 : Value) (vs0 : Value) (h : mx_H) (P : mx_P) : mx_R k_Law_law C 998 [o0, o1, o2, o3] (va1 :: va0 :: [vs0]) h P = (∃ v h1, C 225 [va0, va1] h v h1 ∧ mx_R k_Law_law C 1001 [o0, o1, o2, o3] (v.toList ++ [vs0]) h1 P) := mx_xc rfl (Nat.le_of_ble_eq_true rfl) (Or.inl (Nat.le_of_ble_eq_true rfl)) rfl rfl
set_option maxRecDepth 100000 in
theorem x_Law_law_1001 (C : mx_C) (o0 : Option Value) (o1 : Option Value) (o2 : Option Value) (o3 : Option Value) (xi : Int32) (yi : Int32) (st : mx_S) (h : mx_H) (P : mx_P) : mx_R k_Law_law C 1001 [o0, o1, o2, o3] (.int yi :: .int xi :: st) h P = (if xi = yi then mx_R k_Law_law C 1309 [o0, o1, o2, o3] st h P else mx_R k_Law_law C 1004 [o0, o1, o2, o3] st h P) := mx_xb rfl rfl
set_option maxRecDepth 100000 in
theorem x_Law_law_1004 (C : mx_C) (o0 : Option Value) (o1 : Option Value) (o2 : Option Value) (o3 : Option Value) (st : mx_S) (h : mx_H) (P : mx_P) : mx_R k_Law_law C 1004 [o0, o1, o2, o3] st h P = (mx_R k_Law_law C 1005 [o0, o1, o2, o3] (.int 0 :: st) h P) := mx_xf rfl rfl
set_option maxRecDepth 100000 in
theorem x_Law_law_1005 (C : mx_C) (o0 : Option Value) (o1 : Option Value) (o2 : Option Value) (o3 : Option Value) (xi : Int32) (h : mx_H) (P : mx_P) : mx_R k_Law_law C 1005 [o0, o1, o2, o3] [.int xi] h P = ((xi = 0 ∨ xi = 1) ∧ P (some (.int xi)) h) := mx_xr2 rfl
set_option maxRecDepth 100000 in
theorem x_Law_law_1006 (C : mx_C) (o0 : Option Value) (o2 : Option Value) (o3 : Option Value) (ar : Nat) (st : mx_S) (h : mx_H) (P : mx_P) : mx_R k_Law_law C 1006 [o0, some (.ref ar), o2, o3] st h P = (mx_R k_Law_law C 1007 [o0, some (.ref ar), o2, o3] (.ref ar :: st) h P) := mx_xf rfl rfl
set_option maxRecDepth 100000 in
theorem x_Law_law_1007 (C : mx_C) (o1 : Option Value) (o2 : Option Value) (o3 : Option Value) (ar : Nat) (st : mx_S) (h : mx_H) (P : mx_P) : mx_R k_Law_law C 1007 [some (.ref ar), o1, o2, o3] st h P = (mx_R k_Law_law C 1008 [some (.ref ar), o1, o2, o3] (.ref ar :: st) h P) := mx_xf rfl rfl
set_option maxRecDepth 100000 in
theorem x_Law_law_1008 (C : mx_C) (o0 : Option Value) (o1 : Option Value) (o2 : Option Value) (xi : Int32) (st : mx_S) (h : mx_H) (P : mx_P) : mx_R k_Law_law C 1008 [o0, o1, o2, some (.int xi)] st h P = (mx_R k_Law_law C 1009 [o0, o1, o2, some (.int xi)] (.int xi :: st) h P) := mx_xf rfl rfl
set_option maxRecDepth 100000 in
theorem x_Law_law_1009 (C : mx_C) (o0 : Option Value) (o1 : Option Value) (o2 : Option Value) (o3 : Option Value) (st : mx_S) (h : mx_H) (P : mx_P) : mx_R k_Law_law C 1009 [o0, o1, o2, o3] st h P = (mx_R k_Law_law C 1010 [o0, o1, o2, o3] (.int 1 :: st) h P) := mx_xf rfl rfl
set_option maxRecDepth 100000 in
theorem x_Law_law_1010 (C : mx_C) (o0 : Option Value) (o1 : Option Value) (o2 : Option Value) (o3 : Option Value) (xi : Int32) (yi : Int32) (st : mx_S) (h : mx_H) (P : mx_P) : mx_R k_Law_law C 1010 [o0, o1, o2, o3] (.int yi :: .int xi :: st) h P = (mx_R k_Law_law C 1011 [o0, o1, o2, o3] (.int (xi + yi) :: st) h P) := mx_xf rfl rfl
set_option maxRecDepth 100000 in
theorem x_Law_law_1011 (C : mx_C) (o0 : Option Value) (o1 : Option Value) (o2 : Option Value) (o3 : Option Value) (xi : Int32) (ar : Nat) (st : mx_S) (h : mx_H) (P : mx_P) : mx_R k_Law_law C 1011 [o0, o1, o2, o3] (.int xi :: .ref ar :: st) h P = (mx_okr 103 ar h xi = true ∧ mx_R k_Law_law C 1012 [o0, o1, o2, o3] (.int (h.1 ar xi.toNatClampNeg) :: st) h P) := mx_xg rfl rfl
set_option maxRecDepth 100000 in
theorem x_Law_law_1012 (C : mx_C) (o1 : Option Value) (o2 : Option Value) (o3 : Option Value) (ar : Nat) (st : mx_S) (h : mx_H) (P : mx_P) : mx_R k_Law_law C 1012 [some (.ref ar), o1, o2, o3] st h P = (mx_R k_Law_law C 1013 [some (.ref ar), o1, o2, o3] (.ref ar :: st) h P) := mx_xf rfl rfl
set_option maxRecDepth 100000 in
theorem x_Law_law_1013 (C : mx_C) (o0 : Option Value) (o1 : Option Value) (o2 : Option Value) (xi : Int32) (st : mx_S) (h : mx_H) (P : mx_P) : mx_R k_Law_law C 1013 [o0, o1, o2, some (.int xi)] st h P = (mx_R k_Law_law C 1014 [o0, o1, o2, some (.int xi)] (.int xi :: st) h P) := mx_xf rfl rfl
set_option maxRecDepth 100000 in
theorem x_Law_law_1014 (C : mx_C) (o0 : Option Value) (o1 : Option Value) (o2 : Option Value) (o3 : Option Value) (st : mx_S) (h : mx_H) (P : mx_P) : mx_R k_Law_law C 1014 [o0, o1, o2, o3] st h P = (mx_R k_Law_law C 1015 [o0, o1, o2, o3] (.int 2 :: st) h P) := mx_xf rfl rfl
set_option maxRecDepth 100000 in
theorem x_Law_law_1015 (C : mx_C) (o0 : Option Value) (o1 : Option Value) (o2 : Option Value) (o3 : Option Value) (xi : Int32) (yi : Int32) (st : mx_S) (h : mx_H) (P : mx_P) : mx_R k_Law_law C 1015 [o0, o1, o2, o3] (.int yi :: .int xi :: st) h P = (mx_R k_Law_law C 1016 [o0, o1, o2, o3] (.int (xi + yi) :: st) h P) := mx_xf rfl rfl
set_option maxRecDepth 100000 in
theorem x_Law_law_1016 (C : mx_C) (o0 : Option Value) (o1 : Option Value) (o2 : Option Value) (o3 : Option Value) (xi : Int32) (ar : Nat) (st : mx_S) (h : mx_H) (P : mx_P) : mx_R k_Law_law C 1016 [o0, o1, o2, o3] (.int xi :: .ref ar :: st) h P = (mx_okr 103 ar h xi = true ∧ mx_R k_Law_law C 1017 [o0, o1, o2, o3] (.int (h.1 ar xi.toNatClampNeg) :: st) h P) := mx_xg rfl rfl
set_option maxRecDepth 100000 in
theorem x_Law_law_1017 (C : mx_C) (o1 : Option Value) (o2 : Option Value) (o3 : Option Value) (ar : Nat) (st : mx_S) (h : mx_H) (P : mx_P) : mx_R k_Law_law C 1017 [some (.ref ar), o1, o2, o3] st h P = (mx_R k_Law_law C 1018 [some (.ref ar), o1, o2, o3] (.ref ar :: st) h P) := mx_xf rfl rfl
set_option maxRecDepth 100000 in
theorem x_Law_law_1018 (C : mx_C) (o0 : Option Value) (o1 : Option Value) (o2 : Option Value) (xi : Int32) (st : mx_S) (h : mx_H) (P : mx_P) : mx_R k_Law_law C 1018 [o0, o1, o2, some (.int xi)] st h P = (mx_R k_Law_law C 1019 [o0, o1, o2, some (.int xi)] (.int xi :: st) h P) := mx_xf rfl rfl
set_option maxRecDepth 100000 in
theorem x_Law_law_1019 (C : mx_C) (o0 : Option Value) (o1 : Option Value) (o2 : Option Value) (o3 : Option Value) (st : mx_S) (h : mx_H) (P : mx_P) : mx_R k_Law_law C 1019 [o0, o1, o2, o3] st h P = (mx_R k_Law_law C 1020 [o0, o1, o2, o3] (.int 3 :: st) h P) := mx_xf rfl rfl
set_option maxRecDepth 100000 in
theorem x_Law_law_1020 (C : mx_C) (o0 : Option Value) (o1 : Option Value) (o2 : Option Value) (o3 : Option Value) (xi : Int32) (yi : Int32) (st : mx_S) (h : mx_H) (P : mx_P) : mx_R k_Law_law C 1020 [o0, o1, o2, o3] (.int yi :: .int xi :: st) h P = (mx_R k_Law_law C 1021 [o0, o1, o2, o3] (.int (xi + yi) :: st) h P) := mx_xf rfl rfl
set_option maxRecDepth 100000 in
theorem x_Law_law_1021 (C : mx_C) (o0 : Option Value) (o1 : Option Value) (o2 : Option Value) (o3 : Option Value) (xi : Int32) (ar : Nat) (st : mx_S) (h : mx_H) (P : mx_P) : mx_R k_Law_law C 1021 [o0, o1, o2, o3] (.int xi :: .ref ar :: st) h P = (mx_okr 103 ar h xi = true ∧ mx_R k_Law_law C 1022 [o0, o1, o2, o3] (.int (h.1 ar xi.toNatClampNeg) :: st) h P) := mx_xg rfl rfl
set_option maxRecDepth 100000 in
theorem x_Law_law_1022 (C : mx_C) (o0 : Option Value) (o1 : Option Value) (o2 : Option Value) (o3 : Option Value) (va0 : Value) (va1 : Value) (va2 : Value) (va3 : Value) (h : mx_H) (P : mx_P) : mx_R k_Law_law C 1022 [o0, o1, o2, o3] (va3 :: va2 :: va1 :: va0 :: []) h P = (∃ v h1, C 124 [va0, va1, va2, va3] h v h1 ∧ mx_R k_Law_law C 1025 [o0, o1, o2, o3] (v.toList ++ []) h1 P) := mx_xc rfl (Nat.le_of_ble_eq_true rfl) (Or.inl (Nat.le_of_ble_eq_true rfl)) rfl rfl
set_option maxRecDepth 100000 in
theorem x_Law_law_1025 (C : mx_C) (o0 : Option Value) (o1 : Option Value) (o3 : Option Value) (ar : Nat) (st : mx_S) (h : mx_H) (P : mx_P) : mx_R k_Law_law C 1025 [o0, o1, some (.ref ar), o3] st h P = (mx_R k_Law_law C 1026 [o0, o1, some (.ref ar), o3] (.ref ar :: st) h P) := mx_xf rfl rfl
set_option maxRecDepth 100000 in
theorem x_Law_law_1026 (C : mx_C) (o1 : Option Value) (o2 : Option Value) (o3 : Option Value) (ar : Nat) (st : mx_S) (h : mx_H) (P : mx_P) : mx_R k_Law_law C 1026 [some (.ref ar), o1, o2, o3] st h P = (mx_R k_Law_law C 1027 [some (.ref ar), o1, o2, o3] (.ref ar :: st) h P) := mx_xf rfl rfl
set_option maxRecDepth 100000 in
theorem x_Law_law_1027 (C : mx_C) (o0 : Option Value) (o1 : Option Value) (o2 : Option Value) (xi : Int32) (st : mx_S) (h : mx_H) (P : mx_P) : mx_R k_Law_law C 1027 [o0, o1, o2, some (.int xi)] st h P = (mx_R k_Law_law C 1028 [o0, o1, o2, some (.int xi)] (.int xi :: st) h P) := mx_xf rfl rfl
set_option maxRecDepth 100000 in
theorem x_Law_law_1028 (C : mx_C) (o0 : Option Value) (o1 : Option Value) (o2 : Option Value) (o3 : Option Value) (st : mx_S) (h : mx_H) (P : mx_P) : mx_R k_Law_law C 1028 [o0, o1, o2, o3] st h P = (mx_R k_Law_law C 1029 [o0, o1, o2, o3] (.int 1 :: st) h P) := mx_xf rfl rfl
set_option maxRecDepth 100000 in
theorem x_Law_law_1029 (C : mx_C) (o0 : Option Value) (o1 : Option Value) (o2 : Option Value) (o3 : Option Value) (xi : Int32) (yi : Int32) (st : mx_S) (h : mx_H) (P : mx_P) : mx_R k_Law_law C 1029 [o0, o1, o2, o3] (.int yi :: .int xi :: st) h P = (mx_R k_Law_law C 1030 [o0, o1, o2, o3] (.int (xi + yi) :: st) h P) := mx_xf rfl rfl
set_option maxRecDepth 100000 in
theorem x_Law_law_1030 (C : mx_C) (o0 : Option Value) (o1 : Option Value) (o2 : Option Value) (o3 : Option Value) (xi : Int32) (ar : Nat) (st : mx_S) (h : mx_H) (P : mx_P) : mx_R k_Law_law C 1030 [o0, o1, o2, o3] (.int xi :: .ref ar :: st) h P = (mx_okr 103 ar h xi = true ∧ mx_R k_Law_law C 1031 [o0, o1, o2, o3] (.int (h.1 ar xi.toNatClampNeg) :: st) h P) := mx_xg rfl rfl
set_option maxRecDepth 100000 in
theorem x_Law_law_1031 (C : mx_C) (o1 : Option Value) (o2 : Option Value) (o3 : Option Value) (ar : Nat) (st : mx_S) (h : mx_H) (P : mx_P) : mx_R k_Law_law C 1031 [some (.ref ar), o1, o2, o3] st h P = (mx_R k_Law_law C 1032 [some (.ref ar), o1, o2, o3] (.ref ar :: st) h P) := mx_xf rfl rfl
set_option maxRecDepth 100000 in
theorem x_Law_law_1032 (C : mx_C) (o0 : Option Value) (o1 : Option Value) (o2 : Option Value) (xi : Int32) (st : mx_S) (h : mx_H) (P : mx_P) : mx_R k_Law_law C 1032 [o0, o1, o2, some (.int xi)] st h P = (mx_R k_Law_law C 1033 [o0, o1, o2, some (.int xi)] (.int xi :: st) h P) := mx_xf rfl rfl
set_option maxRecDepth 100000 in
theorem x_Law_law_1033 (C : mx_C) (o0 : Option Value) (o1 : Option Value) (o2 : Option Value) (o3 : Option Value) (st : mx_S) (h : mx_H) (P : mx_P) : mx_R k_Law_law C 1033 [o0, o1, o2, o3] st h P = (mx_R k_Law_law C 1034 [o0, o1, o2, o3] (.int 2 :: st) h P) := mx_xf rfl rfl
set_option maxRecDepth 100000 in
theorem x_Law_law_1034 (C : mx_C) (o0 : Option Value) (o1 : Option Value) (o2 : Option Value) (o3 : Option Value) (xi : Int32) (yi : Int32) (st : mx_S) (h : mx_H) (P : mx_P) : mx_R k_Law_law C 1034 [o0, o1, o2, o3] (.int yi :: .int xi :: st) h P = (mx_R k_Law_law C 1035 [o0, o1, o2, o3] (.int (xi + yi) :: st) h P) := mx_xf rfl rfl
set_option maxRecDepth 100000 in
theorem x_Law_law_1035 (C : mx_C) (o0 : Option Value) (o1 : Option Value) (o2 : Option Value) (o3 : Option Value) (xi : Int32) (ar : Nat) (st : mx_S) (h : mx_H) (P : mx_P) : mx_R k_Law_law C 1035 [o0, o1, o2, o3] (.int xi :: .ref ar :: st) h P = (mx_okr 103 ar h xi = true ∧ mx_R k_Law_law C 1036 [o0, o1, o2, o3] (.int (h.1 ar xi.toNatClampNeg) :: st) h P) := mx_xg rfl rfl
set_option maxRecDepth 100000 in
theorem x_Law_law_1036 (C : mx_C) (o1 : Option Value) (o2 : Option Value) (o3 : Option Value) (ar : Nat) (st : mx_S) (h : mx_H) (P : mx_P) : mx_R k_Law_law C 1036 [some (.ref ar), o1, o2, o3] st h P = (mx_R k_Law_law C 1037 [some (.ref ar), o1, o2, o3] (.ref ar :: st) h P) := mx_xf rfl rfl
set_option maxRecDepth 100000 in
theorem x_Law_law_1037 (C : mx_C) (o0 : Option Value) (o1 : Option Value) (o2 : Option Value) (xi : Int32) (st : mx_S) (h : mx_H) (P : mx_P) : mx_R k_Law_law C 1037 [o0, o1, o2, some (.int xi)] st h P = (mx_R k_Law_law C 1038 [o0, o1, o2, some (.int xi)] (.int xi :: st) h P) := mx_xf rfl rfl
set_option maxRecDepth 100000 in
theorem x_Law_law_1038 (C : mx_C) (o0 : Option Value) (o1 : Option Value) (o2 : Option Value) (o3 : Option Value) (st : mx_S) (h : mx_H) (P : mx_P) : mx_R k_Law_law C 1038 [o0, o1, o2, o3] st h P = (mx_R k_Law_law C 1039 [o0, o1, o2, o3] (.int 3 :: st) h P) := mx_xf rfl rfl
set_option maxRecDepth 100000 in
theorem x_Law_law_1039 (C : mx_C) (o0 : Option Value) (o1 : Option Value) (o2 : Option Value) (o3 : Option Value) (xi : Int32) (yi : Int32) (st : mx_S) (h : mx_H) (P : mx_P) : mx_R k_Law_law C 1039 [o0, o1, o2, o3] (.int yi :: .int xi :: st) h P = (mx_R k_Law_law C 1040 [o0, o1, o2, o3] (.int (xi + yi) :: st) h P) := mx_xf rfl rfl
set_option maxRecDepth 100000 in
theorem x_Law_law_1040 (C : mx_C) (o0 : Option Value) (o1 : Option Value) (o2 : Option Value) (o3 : Option Value) (xi : Int32) (ar : Nat) (st : mx_S) (h : mx_H) (P : mx_P) : mx_R k_Law_law C 1040 [o0, o1, o2, o3] (.int xi :: .ref ar :: st) h P = (mx_okr 103 ar h xi = true ∧ mx_R k_Law_law C 1041 [o0, o1, o2, o3] (.int (h.1 ar xi.toNatClampNeg) :: st) h P) := mx_xg rfl rfl
set_option maxRecDepth 100000 in
theorem x_Law_law_1041 (C : mx_C) (o0 : Option Value) (o1 : Option Value) (o2 : Option Value) (o3 : Option Value) (va0 : Value) (va1 : Value) (va2 : Value) (va3 : Value) (vs0 : Value) (h : mx_H) (P : mx_P) : mx_R k_Law_law C 1041 [o0, o1, o2, o3] (va3 :: va2 :: va1 :: va0 :: [vs0]) h P = (∃ v h1, C 227 [va0, va1, va2, va3] h v h1 ∧ mx_R k_Law_law C 1044 [o0, o1, o2, o3] (v.toList ++ [vs0]) h1 P) := mx_xc rfl (Nat.le_of_ble_eq_true rfl) (Or.inl (Nat.le_of_ble_eq_true rfl)) rfl rfl
set_option maxRecDepth 100000 in
theorem x_Law_law_1044 (C : mx_C) (o0 : Option Value) (o1 : Option Value) (o2 : Option Value) (o3 : Option Value) (xi : Int32) (yi : Int32) (st : mx_S) (h : mx_H) (P : mx_P) : mx_R k_Law_law C 1044 [o0, o1, o2, o3] (.int yi :: .int xi :: st) h P = (if xi = yi then mx_R k_Law_law C 1309 [o0, o1, o2, o3] st h P else mx_R k_Law_law C 1047 [o0, o1, o2, o3] st h P) := mx_xb rfl rfl
set_option maxRecDepth 100000 in
theorem x_Law_law_1047 (C : mx_C) (o0 : Option Value) (o1 : Option Value) (o2 : Option Value) (o3 : Option Value) (st : mx_S) (h : mx_H) (P : mx_P) : mx_R k_Law_law C 1047 [o0, o1, o2, o3] st h P = (mx_R k_Law_law C 1048 [o0, o1, o2, o3] (.int 0 :: st) h P) := mx_xf rfl rfl
set_option maxRecDepth 100000 in
theorem x_Law_law_1048 (C : mx_C) (o0 : Option Value) (o1 : Option Value) (o2 : Option Value) (o3 : Option Value) (xi : Int32) (h : mx_H) (P : mx_P) : mx_R k_Law_law C 1048 [o0, o1, o2, o3] [.int xi] h P = ((xi = 0 ∨ xi = 1) ∧ P (some (.int xi)) h) := mx_xr2 rfl
set_option maxRecDepth 100000 in
theorem x_Law_law_1049 (C : mx_C) (o0 : Option Value) (o2 : Option Value) (o3 : Option Value) (ar : Nat) (st : mx_S) (h : mx_H) (P : mx_P) : mx_R k_Law_law C 1049 [o0, some (.ref ar), o2, o3] st h P = (mx_R k_Law_law C 1050 [o0, some (.ref ar), o2, o3] (.ref ar :: st) h P) := mx_xf rfl rfl
set_option maxRecDepth 100000 in
theorem x_Law_law_1050 (C : mx_C) (o1 : Option Value) (o2 : Option Value) (o3 : Option Value) (ar : Nat) (st : mx_S) (h : mx_H) (P : mx_P) : mx_R k_Law_law C 1050 [some (.ref ar), o1, o2, o3] st h P = (mx_R k_Law_law C 1051 [some (.ref ar), o1, o2, o3] (.ref ar :: st) h P) := mx_xf rfl rfl
set_option maxRecDepth 100000 in
theorem x_Law_law_1051 (C : mx_C) (o0 : Option Value) (o1 : Option Value) (o2 : Option Value) (xi : Int32) (st : mx_S) (h : mx_H) (P : mx_P) : mx_R k_Law_law C 1051 [o0, o1, o2, some (.int xi)] st h P = (mx_R k_Law_law C 1052 [o0, o1, o2, some (.int xi)] (.int xi :: st) h P) := mx_xf rfl rfl
set_option maxRecDepth 100000 in
theorem x_Law_law_1052 (C : mx_C) (o0 : Option Value) (o1 : Option Value) (o2 : Option Value) (o3 : Option Value) (st : mx_S) (h : mx_H) (P : mx_P) : mx_R k_Law_law C 1052 [o0, o1, o2, o3] st h P = (mx_R k_Law_law C 1053 [o0, o1, o2, o3] (.int 1 :: st) h P) := mx_xf rfl rfl
set_option maxRecDepth 100000 in
theorem x_Law_law_1053 (C : mx_C) (o0 : Option Value) (o1 : Option Value) (o2 : Option Value) (o3 : Option Value) (xi : Int32) (yi : Int32) (st : mx_S) (h : mx_H) (P : mx_P) : mx_R k_Law_law C 1053 [o0, o1, o2, o3] (.int yi :: .int xi :: st) h P = (mx_R k_Law_law C 1054 [o0, o1, o2, o3] (.int (xi + yi) :: st) h P) := mx_xf rfl rfl
set_option maxRecDepth 100000 in
theorem x_Law_law_1054 (C : mx_C) (o0 : Option Value) (o1 : Option Value) (o2 : Option Value) (o3 : Option Value) (xi : Int32) (ar : Nat) (st : mx_S) (h : mx_H) (P : mx_P) : mx_R k_Law_law C 1054 [o0, o1, o2, o3] (.int xi :: .ref ar :: st) h P = (mx_okr 103 ar h xi = true ∧ mx_R k_Law_law C 1055 [o0, o1, o2, o3] (.int (h.1 ar xi.toNatClampNeg) :: st) h P) := mx_xg rfl rfl
set_option maxRecDepth 100000 in
theorem x_Law_law_1055 (C : mx_C) (o1 : Option Value) (o2 : Option Value) (o3 : Option Value) (ar : Nat) (st : mx_S) (h : mx_H) (P : mx_P) : mx_R k_Law_law C 1055 [some (.ref ar), o1, o2, o3] st h P = (mx_R k_Law_law C 1056 [some (.ref ar), o1, o2, o3] (.ref ar :: st) h P) := mx_xf rfl rfl
set_option maxRecDepth 100000 in
theorem x_Law_law_1056 (C : mx_C) (o0 : Option Value) (o1 : Option Value) (o2 : Option Value) (xi : Int32) (st : mx_S) (h : mx_H) (P : mx_P) : mx_R k_Law_law C 1056 [o0, o1, o2, some (.int xi)] st h P = (mx_R k_Law_law C 1057 [o0, o1, o2, some (.int xi)] (.int xi :: st) h P) := mx_xf rfl rfl
set_option maxRecDepth 100000 in
theorem x_Law_law_1057 (C : mx_C) (o0 : Option Value) (o1 : Option Value) (o2 : Option Value) (o3 : Option Value) (st : mx_S) (h : mx_H) (P : mx_P) : mx_R k_Law_law C 1057 [o0, o1, o2, o3] st h P = (mx_R k_Law_law C 1058 [o0, o1, o2, o3] (.int 2 :: st) h P) := mx_xf rfl rfl
set_option maxRecDepth 100000 in
theorem x_Law_law_1058 (C : mx_C) (o0 : Option Value) (o1 : Option Value) (o2 : Option Value) (o3 : Option Value) (xi : Int32) (yi : Int32) (st : mx_S) (h : mx_H) (P : mx_P) : mx_R k_Law_law C 1058 [o0, o1, o2, o3] (.int yi :: .int xi :: st) h P = (mx_R k_Law_law C 1059 [o0, o1, o2, o3] (.int (xi + yi) :: st) h P) := mx_xf rfl rfl
set_option maxRecDepth 100000 in
theorem x_Law_law_1059 (C : mx_C) (o0 : Option Value) (o1 : Option Value) (o2 : Option Value) (o3 : Option Value) (xi : Int32) (ar : Nat) (st : mx_S) (h : mx_H) (P : mx_P) : mx_R k_Law_law C 1059 [o0, o1, o2, o3] (.int xi :: .ref ar :: st) h P = (mx_okr 103 ar h xi = true ∧ mx_R k_Law_law C 1060 [o0, o1, o2, o3] (.int (h.1 ar xi.toNatClampNeg) :: st) h P) := mx_xg rfl rfl
set_option maxRecDepth 100000 in
theorem x_Law_law_1060 (C : mx_C) (o1 : Option Value) (o2 : Option Value) (o3 : Option Value) (ar : Nat) (st : mx_S) (h : mx_H) (P : mx_P) : mx_R k_Law_law C 1060 [some (.ref ar), o1, o2, o3] st h P = (mx_R k_Law_law C 1061 [some (.ref ar), o1, o2, o3] (.ref ar :: st) h P) := mx_xf rfl rfl
set_option maxRecDepth 100000 in
theorem x_Law_law_1061 (C : mx_C) (o0 : Option Value) (o1 : Option Value) (o2 : Option Value) (xi : Int32) (st : mx_S) (h : mx_H) (P : mx_P) : mx_R k_Law_law C 1061 [o0, o1, o2, some (.int xi)] st h P = (mx_R k_Law_law C 1062 [o0, o1, o2, some (.int xi)] (.int xi :: st) h P) := mx_xf rfl rfl
set_option maxRecDepth 100000 in
theorem x_Law_law_1062 (C : mx_C) (o0 : Option Value) (o1 : Option Value) (o2 : Option Value) (o3 : Option Value) (st : mx_S) (h : mx_H) (P : mx_P) : mx_R k_Law_law C 1062 [o0, o1, o2, o3] st h P = (mx_R k_Law_law C 1063 [o0, o1, o2, o3] (.int 3 :: st) h P) := mx_xf rfl rfl
set_option maxRecDepth 100000 in
theorem x_Law_law_1063 (C : mx_C) (o0 : Option Value) (o1 : Option Value) (o2 : Option Value) (o3 : Option Value) (xi : Int32) (yi : Int32) (st : mx_S) (h : mx_H) (P : mx_P) : mx_R k_Law_law C 1063 [o0, o1, o2, o3] (.int yi :: .int xi :: st) h P = (mx_R k_Law_law C 1064 [o0, o1, o2, o3] (.int (xi + yi) :: st) h P) := mx_xf rfl rfl
set_option maxRecDepth 100000 in
theorem x_Law_law_1064 (C : mx_C) (o0 : Option Value) (o1 : Option Value) (o2 : Option Value) (o3 : Option Value) (xi : Int32) (ar : Nat) (st : mx_S) (h : mx_H) (P : mx_P) : mx_R k_Law_law C 1064 [o0, o1, o2, o3] (.int xi :: .ref ar :: st) h P = (mx_okr 103 ar h xi = true ∧ mx_R k_Law_law C 1065 [o0, o1, o2, o3] (.int (h.1 ar xi.toNatClampNeg) :: st) h P) := mx_xg rfl rfl
set_option maxRecDepth 100000 in
theorem x_Law_law_1065 (C : mx_C) (o0 : Option Value) (o1 : Option Value) (o2 : Option Value) (o3 : Option Value) (va0 : Value) (va1 : Value) (va2 : Value) (va3 : Value) (h : mx_H) (P : mx_P) : mx_R k_Law_law C 1065 [o0, o1, o2, o3] (va3 :: va2 :: va1 :: va0 :: []) h P = (∃ v h1, C 125 [va0, va1, va2, va3] h v h1 ∧ mx_R k_Law_law C 1068 [o0, o1, o2, o3] (v.toList ++ []) h1 P) := mx_xc rfl (Nat.le_of_ble_eq_true rfl) (Or.inl (Nat.le_of_ble_eq_true rfl)) rfl rfl
set_option maxRecDepth 100000 in
theorem x_Law_law_1068 (C : mx_C) (o0 : Option Value) (o1 : Option Value) (o3 : Option Value) (ar : Nat) (st : mx_S) (h : mx_H) (P : mx_P) : mx_R k_Law_law C 1068 [o0, o1, some (.ref ar), o3] st h P = (mx_R k_Law_law C 1069 [o0, o1, some (.ref ar), o3] (.ref ar :: st) h P) := mx_xf rfl rfl
set_option maxRecDepth 100000 in
theorem x_Law_law_1069 (C : mx_C) (o1 : Option Value) (o2 : Option Value) (o3 : Option Value) (ar : Nat) (st : mx_S) (h : mx_H) (P : mx_P) : mx_R k_Law_law C 1069 [some (.ref ar), o1, o2, o3] st h P = (mx_R k_Law_law C 1070 [some (.ref ar), o1, o2, o3] (.ref ar :: st) h P) := mx_xf rfl rfl
set_option maxRecDepth 100000 in
theorem x_Law_law_1070 (C : mx_C) (o0 : Option Value) (o1 : Option Value) (o2 : Option Value) (xi : Int32) (st : mx_S) (h : mx_H) (P : mx_P) : mx_R k_Law_law C 1070 [o0, o1, o2, some (.int xi)] st h P = (mx_R k_Law_law C 1071 [o0, o1, o2, some (.int xi)] (.int xi :: st) h P) := mx_xf rfl rfl
set_option maxRecDepth 100000 in
theorem x_Law_law_1071 (C : mx_C) (o0 : Option Value) (o1 : Option Value) (o2 : Option Value) (o3 : Option Value) (st : mx_S) (h : mx_H) (P : mx_P) : mx_R k_Law_law C 1071 [o0, o1, o2, o3] st h P = (mx_R k_Law_law C 1072 [o0, o1, o2, o3] (.int 1 :: st) h P) := mx_xf rfl rfl
set_option maxRecDepth 100000 in
theorem x_Law_law_1072 (C : mx_C) (o0 : Option Value) (o1 : Option Value) (o2 : Option Value) (o3 : Option Value) (xi : Int32) (yi : Int32) (st : mx_S) (h : mx_H) (P : mx_P) : mx_R k_Law_law C 1072 [o0, o1, o2, o3] (.int yi :: .int xi :: st) h P = (mx_R k_Law_law C 1073 [o0, o1, o2, o3] (.int (xi + yi) :: st) h P) := mx_xf rfl rfl
set_option maxRecDepth 100000 in
theorem x_Law_law_1073 (C : mx_C) (o0 : Option Value) (o1 : Option Value) (o2 : Option Value) (o3 : Option Value) (xi : Int32) (ar : Nat) (st : mx_S) (h : mx_H) (P : mx_P) : mx_R k_Law_law C 1073 [o0, o1, o2, o3] (.int xi :: .ref ar :: st) h P = (mx_okr 103 ar h xi = true ∧ mx_R k_Law_law C 1074 [o0, o1, o2, o3] (.int (h.1 ar xi.toNatClampNeg) :: st) h P) := mx_xg rfl rfl
set_option maxRecDepth 100000 in
theorem x_Law_law_1074 (C : mx_C) (o1 : Option Value) (o2 : Option Value) (o3 : Option Value) (ar : Nat) (st : mx_S) (h : mx_H) (P : mx_P) : mx_R k_Law_law C 1074 [some (.ref ar), o1, o2, o3] st h P = (mx_R k_Law_law C 1075 [some (.ref ar), o1, o2, o3] (.ref ar :: st) h P) := mx_xf rfl rfl
set_option maxRecDepth 100000 in
theorem x_Law_law_1075 (C : mx_C) (o0 : Option Value) (o1 : Option Value) (o2 : Option Value) (xi : Int32) (st : mx_S) (h : mx_H) (P : mx_P) : mx_R k_Law_law C 1075 [o0, o1, o2, some (.int xi)] st h P = (mx_R k_Law_law C 1076 [o0, o1, o2, some (.int xi)] (.int xi :: st) h P) := mx_xf rfl rfl
set_option maxRecDepth 100000 in
theorem x_Law_law_1076 (C : mx_C) (o0 : Option Value) (o1 : Option Value) (o2 : Option Value) (o3 : Option Value) (st : mx_S) (h : mx_H) (P : mx_P) : mx_R k_Law_law C 1076 [o0, o1, o2, o3] st h P = (mx_R k_Law_law C 1077 [o0, o1, o2, o3] (.int 2 :: st) h P) := mx_xf rfl rfl
set_option maxRecDepth 100000 in
theorem x_Law_law_1077 (C : mx_C) (o0 : Option Value) (o1 : Option Value) (o2 : Option Value) (o3 : Option Value) (xi : Int32) (yi : Int32) (st : mx_S) (h : mx_H) (P : mx_P) : mx_R k_Law_law C 1077 [o0, o1, o2, o3] (.int yi :: .int xi :: st) h P = (mx_R k_Law_law C 1078 [o0, o1, o2, o3] (.int (xi + yi) :: st) h P) := mx_xf rfl rfl
set_option maxRecDepth 100000 in
theorem x_Law_law_1078 (C : mx_C) (o0 : Option Value) (o1 : Option Value) (o2 : Option Value) (o3 : Option Value) (xi : Int32) (ar : Nat) (st : mx_S) (h : mx_H) (P : mx_P) : mx_R k_Law_law C 1078 [o0, o1, o2, o3] (.int xi :: .ref ar :: st) h P = (mx_okr 103 ar h xi = true ∧ mx_R k_Law_law C 1079 [o0, o1, o2, o3] (.int (h.1 ar xi.toNatClampNeg) :: st) h P) := mx_xg rfl rfl
set_option maxRecDepth 100000 in
theorem x_Law_law_1079 (C : mx_C) (o1 : Option Value) (o2 : Option Value) (o3 : Option Value) (ar : Nat) (st : mx_S) (h : mx_H) (P : mx_P) : mx_R k_Law_law C 1079 [some (.ref ar), o1, o2, o3] st h P = (mx_R k_Law_law C 1080 [some (.ref ar), o1, o2, o3] (.ref ar :: st) h P) := mx_xf rfl rfl
set_option maxRecDepth 100000 in
theorem x_Law_law_1080 (C : mx_C) (o0 : Option Value) (o1 : Option Value) (o2 : Option Value) (xi : Int32) (st : mx_S) (h : mx_H) (P : mx_P) : mx_R k_Law_law C 1080 [o0, o1, o2, some (.int xi)] st h P = (mx_R k_Law_law C 1081 [o0, o1, o2, some (.int xi)] (.int xi :: st) h P) := mx_xf rfl rfl
set_option maxRecDepth 100000 in
theorem x_Law_law_1081 (C : mx_C) (o0 : Option Value) (o1 : Option Value) (o2 : Option Value) (o3 : Option Value) (st : mx_S) (h : mx_H) (P : mx_P) : mx_R k_Law_law C 1081 [o0, o1, o2, o3] st h P = (mx_R k_Law_law C 1082 [o0, o1, o2, o3] (.int 3 :: st) h P) := mx_xf rfl rfl
set_option maxRecDepth 100000 in
theorem x_Law_law_1082 (C : mx_C) (o0 : Option Value) (o1 : Option Value) (o2 : Option Value) (o3 : Option Value) (xi : Int32) (yi : Int32) (st : mx_S) (h : mx_H) (P : mx_P) : mx_R k_Law_law C 1082 [o0, o1, o2, o3] (.int yi :: .int xi :: st) h P = (mx_R k_Law_law C 1083 [o0, o1, o2, o3] (.int (xi + yi) :: st) h P) := mx_xf rfl rfl
set_option maxRecDepth 100000 in
theorem x_Law_law_1083 (C : mx_C) (o0 : Option Value) (o1 : Option Value) (o2 : Option Value) (o3 : Option Value) (xi : Int32) (ar : Nat) (st : mx_S) (h : mx_H) (P : mx_P) : mx_R k_Law_law C 1083 [o0, o1, o2, o3] (.int xi :: .ref ar :: st) h P = (mx_okr 103 ar h xi = true ∧ mx_R k_Law_law C 1084 [o0, o1, o2, o3] (.int (h.1 ar xi.toNatClampNeg) :: st) h P) := mx_xg rfl rfl
set_option maxRecDepth 100000 in
theorem x_Law_law_1084 (C : mx_C) (o0 : Option Value) (o1 : Option Value) (o2 : Option Value) (o3 : Option Value) (va0 : Value) (va1 : Value) (va2 : Value) (va3 : Value) (vs0 : Value) (h : mx_H) (P : mx_P) : mx_R k_Law_law C 1084 [o0, o1, o2, o3] (va3 :: va2 :: va1 :: va0 :: [vs0]) h P = (∃ v h1, C 228 [va0, va1, va2, va3] h v h1 ∧ mx_R k_Law_law C 1087 [o0, o1, o2, o3] (v.toList ++ [vs0]) h1 P) := mx_xc rfl (Nat.le_of_ble_eq_true rfl) (Or.inl (Nat.le_of_ble_eq_true rfl)) rfl rfl
set_option maxRecDepth 100000 in
theorem x_Law_law_1087 (C : mx_C) (o0 : Option Value) (o1 : Option Value) (o2 : Option Value) (o3 : Option Value) (xi : Int32) (yi : Int32) (st : mx_S) (h : mx_H) (P : mx_P) : mx_R k_Law_law C 1087 [o0, o1, o2, o3] (.int yi :: .int xi :: st) h P = (if xi = yi then mx_R k_Law_law C 1309 [o0, o1, o2, o3] st h P else mx_R k_Law_law C 1090 [o0, o1, o2, o3] st h P) := mx_xb rfl rfl
set_option maxRecDepth 100000 in
theorem x_Law_law_1090 (C : mx_C) (o0 : Option Value) (o1 : Option Value) (o2 : Option Value) (o3 : Option Value) (st : mx_S) (h : mx_H) (P : mx_P) : mx_R k_Law_law C 1090 [o0, o1, o2, o3] st h P = (mx_R k_Law_law C 1091 [o0, o1, o2, o3] (.int 0 :: st) h P) := mx_xf rfl rfl
set_option maxRecDepth 100000 in
theorem x_Law_law_1091 (C : mx_C) (o0 : Option Value) (o1 : Option Value) (o2 : Option Value) (o3 : Option Value) (xi : Int32) (h : mx_H) (P : mx_P) : mx_R k_Law_law C 1091 [o0, o1, o2, o3] [.int xi] h P = ((xi = 0 ∨ xi = 1) ∧ P (some (.int xi)) h) := mx_xr2 rfl
set_option maxRecDepth 100000 in
theorem x_Law_law_1092 (C : mx_C) (o0 : Option Value) (o2 : Option Value) (o3 : Option Value) (ar : Nat) (st : mx_S) (h : mx_H) (P : mx_P) : mx_R k_Law_law C 1092 [o0, some (.ref ar), o2, o3] st h P = (mx_R k_Law_law C 1093 [o0, some (.ref ar), o2, o3] (.ref ar :: st) h P) := mx_xf rfl rfl
set_option maxRecDepth 100000 in
theorem x_Law_law_1093 (C : mx_C) (o1 : Option Value) (o2 : Option Value) (o3 : Option Value) (ar : Nat) (st : mx_S) (h : mx_H) (P : mx_P) : mx_R k_Law_law C 1093 [some (.ref ar), o1, o2, o3] st h P = (mx_R k_Law_law C 1094 [some (.ref ar), o1, o2, o3] (.ref ar :: st) h P) := mx_xf rfl rfl
set_option maxRecDepth 100000 in
theorem x_Law_law_1094 (C : mx_C) (o0 : Option Value) (o1 : Option Value) (o2 : Option Value) (xi : Int32) (st : mx_S) (h : mx_H) (P : mx_P) : mx_R k_Law_law C 1094 [o0, o1, o2, some (.int xi)] st h P = (mx_R k_Law_law C 1095 [o0, o1, o2, some (.int xi)] (.int xi :: st) h P) := mx_xf rfl rfl
set_option maxRecDepth 100000 in
theorem x_Law_law_1095 (C : mx_C) (o0 : Option Value) (o1 : Option Value) (o2 : Option Value) (o3 : Option Value) (st : mx_S) (h : mx_H) (P : mx_P) : mx_R k_Law_law C 1095 [o0, o1, o2, o3] st h P = (mx_R k_Law_law C 1096 [o0, o1, o2, o3] (.int 1 :: st) h P) := mx_xf rfl rfl
set_option maxRecDepth 100000 in
theorem x_Law_law_1096 (C : mx_C) (o0 : Option Value) (o1 : Option Value) (o2 : Option Value) (o3 : Option Value) (xi : Int32) (yi : Int32) (st : mx_S) (h : mx_H) (P : mx_P) : mx_R k_Law_law C 1096 [o0, o1, o2, o3] (.int yi :: .int xi :: st) h P = (mx_R k_Law_law C 1097 [o0, o1, o2, o3] (.int (xi + yi) :: st) h P) := mx_xf rfl rfl
set_option maxRecDepth 100000 in
theorem x_Law_law_1097 (C : mx_C) (o0 : Option Value) (o1 : Option Value) (o2 : Option Value) (o3 : Option Value) (xi : Int32) (ar : Nat) (st : mx_S) (h : mx_H) (P : mx_P) : mx_R k_Law_law C 1097 [o0, o1, o2, o3] (.int xi :: .ref ar :: st) h P = (mx_okr 103 ar h xi = true ∧ mx_R k_Law_law C 1098 [o0, o1, o2, o3] (.int (h.1 ar xi.toNatClampNeg) :: st) h P) := mx_xg rfl rfl
set_option maxRecDepth 100000 in
theorem x_Law_law_1098 (C : mx_C) (o1 : Option Value) (o2 : Option Value) (o3 : Option Value) (ar : Nat) (st : mx_S) (h : mx_H) (P : mx_P) : mx_R k_Law_law C 1098 [some (.ref ar), o1, o2, o3] st h P = (mx_R k_Law_law C 1099 [some (.ref ar), o1, o2, o3] (.ref ar :: st) h P) := mx_xf rfl rfl
set_option maxRecDepth 100000 in
theorem x_Law_law_1099 (C : mx_C) (o0 : Option Value) (o1 : Option Value) (o2 : Option Value) (xi : Int32) (st : mx_S) (h : mx_H) (P : mx_P) : mx_R k_Law_law C 1099 [o0, o1, o2, some (.int xi)] st h P = (mx_R k_Law_law C 1100 [o0, o1, o2, some (.int xi)] (.int xi :: st) h P) := mx_xf rfl rfl
set_option maxRecDepth 100000 in
theorem x_Law_law_1100 (C : mx_C) (o0 : Option Value) (o1 : Option Value) (o2 : Option Value) (o3 : Option Value) (st : mx_S) (h : mx_H) (P : mx_P) : mx_R k_Law_law C 1100 [o0, o1, o2, o3] st h P = (mx_R k_Law_law C 1101 [o0, o1, o2, o3] (.int 2 :: st) h P) := mx_xf rfl rfl
set_option maxRecDepth 100000 in
theorem x_Law_law_1101 (C : mx_C) (o0 : Option Value) (o1 : Option Value) (o2 : Option Value) (o3 : Option Value) (xi : Int32) (yi : Int32) (st : mx_S) (h : mx_H) (P : mx_P) : mx_R k_Law_law C 1101 [o0, o1, o2, o3] (.int yi :: .int xi :: st) h P = (mx_R k_Law_law C 1102 [o0, o1, o2, o3] (.int (xi + yi) :: st) h P) := mx_xf rfl rfl
set_option maxRecDepth 100000 in
theorem x_Law_law_1102 (C : mx_C) (o0 : Option Value) (o1 : Option Value) (o2 : Option Value) (o3 : Option Value) (xi : Int32) (ar : Nat) (st : mx_S) (h : mx_H) (P : mx_P) : mx_R k_Law_law C 1102 [o0, o1, o2, o3] (.int xi :: .ref ar :: st) h P = (mx_okr 103 ar h xi = true ∧ mx_R k_Law_law C 1103 [o0, o1, o2, o3] (.int (h.1 ar xi.toNatClampNeg) :: st) h P) := mx_xg rfl rfl
set_option maxRecDepth 100000 in
theorem x_Law_law_1103 (C : mx_C) (o1 : Option Value) (o2 : Option Value) (o3 : Option Value) (ar : Nat) (st : mx_S) (h : mx_H) (P : mx_P) : mx_R k_Law_law C 1103 [some (.ref ar), o1, o2, o3] st h P = (mx_R k_Law_law C 1104 [some (.ref ar), o1, o2, o3] (.ref ar :: st) h P) := mx_xf rfl rfl
set_option maxRecDepth 100000 in
theorem x_Law_law_1104 (C : mx_C) (o0 : Option Value) (o1 : Option Value) (o2 : Option Value) (xi : Int32) (st : mx_S) (h : mx_H) (P : mx_P) : mx_R k_Law_law C 1104 [o0, o1, o2, some (.int xi)] st h P = (mx_R k_Law_law C 1105 [o0, o1, o2, some (.int xi)] (.int xi :: st) h P) := mx_xf rfl rfl
set_option maxRecDepth 100000 in
theorem x_Law_law_1105 (C : mx_C) (o0 : Option Value) (o1 : Option Value) (o2 : Option Value) (o3 : Option Value) (st : mx_S) (h : mx_H) (P : mx_P) : mx_R k_Law_law C 1105 [o0, o1, o2, o3] st h P = (mx_R k_Law_law C 1106 [o0, o1, o2, o3] (.int 3 :: st) h P) := mx_xf rfl rfl
set_option maxRecDepth 100000 in
theorem x_Law_law_1106 (C : mx_C) (o0 : Option Value) (o1 : Option Value) (o2 : Option Value) (o3 : Option Value) (xi : Int32) (yi : Int32) (st : mx_S) (h : mx_H) (P : mx_P) : mx_R k_Law_law C 1106 [o0, o1, o2, o3] (.int yi :: .int xi :: st) h P = (mx_R k_Law_law C 1107 [o0, o1, o2, o3] (.int (xi + yi) :: st) h P) := mx_xf rfl rfl
set_option maxRecDepth 100000 in
theorem x_Law_law_1107 (C : mx_C) (o0 : Option Value) (o1 : Option Value) (o2 : Option Value) (o3 : Option Value) (xi : Int32) (ar : Nat) (st : mx_S) (h : mx_H) (P : mx_P) : mx_R k_Law_law C 1107 [o0, o1, o2, o3] (.int xi :: .ref ar :: st) h P = (mx_okr 103 ar h xi = true ∧ mx_R k_Law_law C 1108 [o0, o1, o2, o3] (.int (h.1 ar xi.toNatClampNeg) :: st) h P) := mx_xg rfl rfl
set_option maxRecDepth 100000 in
theorem x_Law_law_1108 (C : mx_C) (o1 : Option Value) (o2 : Option Value) (o3 : Option Value) (ar : Nat) (st : mx_S) (h : mx_H) (P : mx_P) : mx_R k_Law_law C 1108 [some (.ref ar), o1, o2, o3] st h P = (mx_R k_Law_law C 1109 [some (.ref ar), o1, o2, o3] (.ref ar :: st) h P) := mx_xf rfl rfl
set_option maxRecDepth 100000 in
theorem x_Law_law_1109 (C : mx_C) (o0 : Option Value) (o1 : Option Value) (o2 : Option Value) (xi : Int32) (st : mx_S) (h : mx_H) (P : mx_P) : mx_R k_Law_law C 1109 [o0, o1, o2, some (.int xi)] st h P = (mx_R k_Law_law C 1110 [o0, o1, o2, some (.int xi)] (.int xi :: st) h P) := mx_xf rfl rfl
set_option maxRecDepth 100000 in
theorem x_Law_law_1110 (C : mx_C) (o0 : Option Value) (o1 : Option Value) (o2 : Option Value) (o3 : Option Value) (st : mx_S) (h : mx_H) (P : mx_P) : mx_R k_Law_law C 1110 [o0, o1, o2, o3] st h P = (mx_R k_Law_law C 1111 [o0, o1, o2, o3] (.int 4 :: st) h P) := mx_xf rfl rfl
set_option maxRecDepth 100000 in
theorem x_Law_law_1111 (C : mx_C) (o0 : Option Value) (o1 : Option Value) (o2 : Option Value) (o3 : Option Value) (xi : Int32) (yi : Int32) (st : mx_S) (h : mx_H) (P : mx_P) : mx_R k_Law_law C 1111 [o0, o1, o2, o3] (.int yi :: .int xi :: st) h P = (mx_R k_Law_law C 1112 [o0, o1, o2, o3] (.int (xi + yi) :: st) h P) := mx_xf rfl rfl
set_option maxRecDepth 100000 in
theorem x_Law_law_1112 (C : mx_C) (o0 : Option Value) (o1 : Option Value) (o2 : Option Value) (o3 : Option Value) (xi : Int32) (ar : Nat) (st : mx_S) (h : mx_H) (P : mx_P) : mx_R k_Law_law C 1112 [o0, o1, o2, o3] (.int xi :: .ref ar :: st) h P = (mx_okr 103 ar h xi = true ∧ mx_R k_Law_law C 1113 [o0, o1, o2, o3] (.int (h.1 ar xi.toNatClampNeg) :: st) h P) := mx_xg rfl rfl
set_option maxRecDepth 100000 in
theorem x_Law_law_1113 (C : mx_C) (o1 : Option Value) (o2 : Option Value) (o3 : Option Value) (ar : Nat) (st : mx_S) (h : mx_H) (P : mx_P) : mx_R k_Law_law C 1113 [some (.ref ar), o1, o2, o3] st h P = (mx_R k_Law_law C 1114 [some (.ref ar), o1, o2, o3] (.ref ar :: st) h P) := mx_xf rfl rfl
set_option maxRecDepth 100000 in
theorem x_Law_law_1114 (C : mx_C) (o0 : Option Value) (o1 : Option Value) (o2 : Option Value) (xi : Int32) (st : mx_S) (h : mx_H) (P : mx_P) : mx_R k_Law_law C 1114 [o0, o1, o2, some (.int xi)] st h P = (mx_R k_Law_law C 1115 [o0, o1, o2, some (.int xi)] (.int xi :: st) h P) := mx_xf rfl rfl
set_option maxRecDepth 100000 in
theorem x_Law_law_1115 (C : mx_C) (o0 : Option Value) (o1 : Option Value) (o2 : Option Value) (o3 : Option Value) (st : mx_S) (h : mx_H) (P : mx_P) : mx_R k_Law_law C 1115 [o0, o1, o2, o3] st h P = (mx_R k_Law_law C 1116 [o0, o1, o2, o3] (.int 5 :: st) h P) := mx_xf rfl rfl
set_option maxRecDepth 100000 in
theorem x_Law_law_1116 (C : mx_C) (o0 : Option Value) (o1 : Option Value) (o2 : Option Value) (o3 : Option Value) (xi : Int32) (yi : Int32) (st : mx_S) (h : mx_H) (P : mx_P) : mx_R k_Law_law C 1116 [o0, o1, o2, o3] (.int yi :: .int xi :: st) h P = (mx_R k_Law_law C 1117 [o0, o1, o2, o3] (.int (xi + yi) :: st) h P) := mx_xf rfl rfl
set_option maxRecDepth 100000 in
theorem x_Law_law_1117 (C : mx_C) (o0 : Option Value) (o1 : Option Value) (o2 : Option Value) (o3 : Option Value) (xi : Int32) (ar : Nat) (st : mx_S) (h : mx_H) (P : mx_P) : mx_R k_Law_law C 1117 [o0, o1, o2, o3] (.int xi :: .ref ar :: st) h P = (mx_okr 103 ar h xi = true ∧ mx_R k_Law_law C 1118 [o0, o1, o2, o3] (.int (h.1 ar xi.toNatClampNeg) :: st) h P) := mx_xg rfl rfl
set_option maxRecDepth 100000 in
theorem x_Law_law_1118 (C : mx_C) (o0 : Option Value) (o1 : Option Value) (o2 : Option Value) (o3 : Option Value) (va0 : Value) (va1 : Value) (va2 : Value) (va3 : Value) (va4 : Value) (va5 : Value) (h : mx_H) (P : mx_P) : mx_R k_Law_law C 1118 [o0, o1, o2, o3] (va5 :: va4 :: va3 :: va2 :: va1 :: va0 :: []) h P = (∃ v h1, C 126 [va0, va1, va2, va3, va4, va5] h v h1 ∧ mx_R k_Law_law C 1121 [o0, o1, o2, o3] (v.toList ++ []) h1 P) := mx_xc rfl (Nat.le_of_ble_eq_true rfl) (Or.inl (Nat.le_of_ble_eq_true rfl)) rfl rfl
set_option maxRecDepth 100000 in
theorem x_Law_law_1121 (C : mx_C) (o0 : Option Value) (o1 : Option Value) (o3 : Option Value) (ar : Nat) (st : mx_S) (h : mx_H) (P : mx_P) : mx_R k_Law_law C 1121 [o0, o1, some (.ref ar), o3] st h P = (mx_R k_Law_law C 1122 [o0, o1, some (.ref ar), o3] (.ref ar :: st) h P) := mx_xf rfl rfl
set_option maxRecDepth 100000 in
theorem x_Law_law_1122 (C : mx_C) (o1 : Option Value) (o2 : Option Value) (o3 : Option Value) (ar : Nat) (st : mx_S) (h : mx_H) (P : mx_P) : mx_R k_Law_law C 1122 [some (.ref ar), o1, o2, o3] st h P = (mx_R k_Law_law C 1123 [some (.ref ar), o1, o2, o3] (.ref ar :: st) h P) := mx_xf rfl rfl
set_option maxRecDepth 100000 in
theorem x_Law_law_1123 (C : mx_C) (o0 : Option Value) (o1 : Option Value) (o2 : Option Value) (xi : Int32) (st : mx_S) (h : mx_H) (P : mx_P) : mx_R k_Law_law C 1123 [o0, o1, o2, some (.int xi)] st h P = (mx_R k_Law_law C 1124 [o0, o1, o2, some (.int xi)] (.int xi :: st) h P) := mx_xf rfl rfl
set_option maxRecDepth 100000 in
theorem x_Law_law_1124 (C : mx_C) (o0 : Option Value) (o1 : Option Value) (o2 : Option Value) (o3 : Option Value) (st : mx_S) (h : mx_H) (P : mx_P) : mx_R k_Law_law C 1124 [o0, o1, o2, o3] st h P = (mx_R k_Law_law C 1125 [o0, o1, o2, o3] (.int 1 :: st) h P) := mx_xf rfl rfl
set_option maxRecDepth 100000 in
theorem x_Law_law_1125 (C : mx_C) (o0 : Option Value) (o1 : Option Value) (o2 : Option Value) (o3 : Option Value) (xi : Int32) (yi : Int32) (st : mx_S) (h : mx_H) (P : mx_P) : mx_R k_Law_law C 1125 [o0, o1, o2, o3] (.int yi :: .int xi :: st) h P = (mx_R k_Law_law C 1126 [o0, o1, o2, o3] (.int (xi + yi) :: st) h P) := mx_xf rfl rfl
set_option maxRecDepth 100000 in
theorem x_Law_law_1126 (C : mx_C) (o0 : Option Value) (o1 : Option Value) (o2 : Option Value) (o3 : Option Value) (xi : Int32) (ar : Nat) (st : mx_S) (h : mx_H) (P : mx_P) : mx_R k_Law_law C 1126 [o0, o1, o2, o3] (.int xi :: .ref ar :: st) h P = (mx_okr 103 ar h xi = true ∧ mx_R k_Law_law C 1127 [o0, o1, o2, o3] (.int (h.1 ar xi.toNatClampNeg) :: st) h P) := mx_xg rfl rfl
set_option maxRecDepth 100000 in
theorem x_Law_law_1127 (C : mx_C) (o1 : Option Value) (o2 : Option Value) (o3 : Option Value) (ar : Nat) (st : mx_S) (h : mx_H) (P : mx_P) : mx_R k_Law_law C 1127 [some (.ref ar), o1, o2, o3] st h P = (mx_R k_Law_law C 1128 [some (.ref ar), o1, o2, o3] (.ref ar :: st) h P) := mx_xf rfl rfl
set_option maxRecDepth 100000 in
theorem x_Law_law_1128 (C : mx_C) (o0 : Option Value) (o1 : Option Value) (o2 : Option Value) (xi : Int32) (st : mx_S) (h : mx_H) (P : mx_P) : mx_R k_Law_law C 1128 [o0, o1, o2, some (.int xi)] st h P = (mx_R k_Law_law C 1129 [o0, o1, o2, some (.int xi)] (.int xi :: st) h P) := mx_xf rfl rfl
set_option maxRecDepth 100000 in
theorem x_Law_law_1129 (C : mx_C) (o0 : Option Value) (o1 : Option Value) (o2 : Option Value) (o3 : Option Value) (st : mx_S) (h : mx_H) (P : mx_P) : mx_R k_Law_law C 1129 [o0, o1, o2, o3] st h P = (mx_R k_Law_law C 1130 [o0, o1, o2, o3] (.int 2 :: st) h P) := mx_xf rfl rfl
set_option maxRecDepth 100000 in
theorem x_Law_law_1130 (C : mx_C) (o0 : Option Value) (o1 : Option Value) (o2 : Option Value) (o3 : Option Value) (xi : Int32) (yi : Int32) (st : mx_S) (h : mx_H) (P : mx_P) : mx_R k_Law_law C 1130 [o0, o1, o2, o3] (.int yi :: .int xi :: st) h P = (mx_R k_Law_law C 1131 [o0, o1, o2, o3] (.int (xi + yi) :: st) h P) := mx_xf rfl rfl
set_option maxRecDepth 100000 in
theorem x_Law_law_1131 (C : mx_C) (o0 : Option Value) (o1 : Option Value) (o2 : Option Value) (o3 : Option Value) (xi : Int32) (ar : Nat) (st : mx_S) (h : mx_H) (P : mx_P) : mx_R k_Law_law C 1131 [o0, o1, o2, o3] (.int xi :: .ref ar :: st) h P = (mx_okr 103 ar h xi = true ∧ mx_R k_Law_law C 1132 [o0, o1, o2, o3] (.int (h.1 ar xi.toNatClampNeg) :: st) h P) := mx_xg rfl rfl
set_option maxRecDepth 100000 in
theorem x_Law_law_1132 (C : mx_C) (o1 : Option Value) (o2 : Option Value) (o3 : Option Value) (ar : Nat) (st : mx_S) (h : mx_H) (P : mx_P) : mx_R k_Law_law C 1132 [some (.ref ar), o1, o2, o3] st h P = (mx_R k_Law_law C 1133 [some (.ref ar), o1, o2, o3] (.ref ar :: st) h P) := mx_xf rfl rfl
set_option maxRecDepth 100000 in
theorem x_Law_law_1133 (C : mx_C) (o0 : Option Value) (o1 : Option Value) (o2 : Option Value) (xi : Int32) (st : mx_S) (h : mx_H) (P : mx_P) : mx_R k_Law_law C 1133 [o0, o1, o2, some (.int xi)] st h P = (mx_R k_Law_law C 1134 [o0, o1, o2, some (.int xi)] (.int xi :: st) h P) := mx_xf rfl rfl
set_option maxRecDepth 100000 in
theorem x_Law_law_1134 (C : mx_C) (o0 : Option Value) (o1 : Option Value) (o2 : Option Value) (o3 : Option Value) (st : mx_S) (h : mx_H) (P : mx_P) : mx_R k_Law_law C 1134 [o0, o1, o2, o3] st h P = (mx_R k_Law_law C 1135 [o0, o1, o2, o3] (.int 3 :: st) h P) := mx_xf rfl rfl
set_option maxRecDepth 100000 in
theorem x_Law_law_1135 (C : mx_C) (o0 : Option Value) (o1 : Option Value) (o2 : Option Value) (o3 : Option Value) (xi : Int32) (yi : Int32) (st : mx_S) (h : mx_H) (P : mx_P) : mx_R k_Law_law C 1135 [o0, o1, o2, o3] (.int yi :: .int xi :: st) h P = (mx_R k_Law_law C 1136 [o0, o1, o2, o3] (.int (xi + yi) :: st) h P) := mx_xf rfl rfl
set_option maxRecDepth 100000 in
theorem x_Law_law_1136 (C : mx_C) (o0 : Option Value) (o1 : Option Value) (o2 : Option Value) (o3 : Option Value) (xi : Int32) (ar : Nat) (st : mx_S) (h : mx_H) (P : mx_P) : mx_R k_Law_law C 1136 [o0, o1, o2, o3] (.int xi :: .ref ar :: st) h P = (mx_okr 103 ar h xi = true ∧ mx_R k_Law_law C 1137 [o0, o1, o2, o3] (.int (h.1 ar xi.toNatClampNeg) :: st) h P) := mx_xg rfl rfl
set_option maxRecDepth 100000 in
theorem x_Law_law_1137 (C : mx_C) (o1 : Option Value) (o2 : Option Value) (o3 : Option Value) (ar : Nat) (st : mx_S) (h : mx_H) (P : mx_P) : mx_R k_Law_law C 1137 [some (.ref ar), o1, o2, o3] st h P = (mx_R k_Law_law C 1138 [some (.ref ar), o1, o2, o3] (.ref ar :: st) h P) := mx_xf rfl rfl
set_option maxRecDepth 100000 in
theorem x_Law_law_1138 (C : mx_C) (o0 : Option Value) (o1 : Option Value) (o2 : Option Value) (xi : Int32) (st : mx_S) (h : mx_H) (P : mx_P) : mx_R k_Law_law C 1138 [o0, o1, o2, some (.int xi)] st h P = (mx_R k_Law_law C 1139 [o0, o1, o2, some (.int xi)] (.int xi :: st) h P) := mx_xf rfl rfl
set_option maxRecDepth 100000 in
theorem x_Law_law_1139 (C : mx_C) (o0 : Option Value) (o1 : Option Value) (o2 : Option Value) (o3 : Option Value) (st : mx_S) (h : mx_H) (P : mx_P) : mx_R k_Law_law C 1139 [o0, o1, o2, o3] st h P = (mx_R k_Law_law C 1140 [o0, o1, o2, o3] (.int 4 :: st) h P) := mx_xf rfl rfl
set_option maxRecDepth 100000 in
theorem x_Law_law_1140 (C : mx_C) (o0 : Option Value) (o1 : Option Value) (o2 : Option Value) (o3 : Option Value) (xi : Int32) (yi : Int32) (st : mx_S) (h : mx_H) (P : mx_P) : mx_R k_Law_law C 1140 [o0, o1, o2, o3] (.int yi :: .int xi :: st) h P = (mx_R k_Law_law C 1141 [o0, o1, o2, o3] (.int (xi + yi) :: st) h P) := mx_xf rfl rfl
set_option maxRecDepth 100000 in
theorem x_Law_law_1141 (C : mx_C) (o0 : Option Value) (o1 : Option Value) (o2 : Option Value) (o3 : Option Value) (xi : Int32) (ar : Nat) (st : mx_S) (h : mx_H) (P : mx_P) : mx_R k_Law_law C 1141 [o0, o1, o2, o3] (.int xi :: .ref ar :: st) h P = (mx_okr 103 ar h xi = true ∧ mx_R k_Law_law C 1142 [o0, o1, o2, o3] (.int (h.1 ar xi.toNatClampNeg) :: st) h P) := mx_xg rfl rfl
set_option maxRecDepth 100000 in
theorem x_Law_law_1142 (C : mx_C) (o1 : Option Value) (o2 : Option Value) (o3 : Option Value) (ar : Nat) (st : mx_S) (h : mx_H) (P : mx_P) : mx_R k_Law_law C 1142 [some (.ref ar), o1, o2, o3] st h P = (mx_R k_Law_law C 1143 [some (.ref ar), o1, o2, o3] (.ref ar :: st) h P) := mx_xf rfl rfl
set_option maxRecDepth 100000 in
theorem x_Law_law_1143 (C : mx_C) (o0 : Option Value) (o1 : Option Value) (o2 : Option Value) (xi : Int32) (st : mx_S) (h : mx_H) (P : mx_P) : mx_R k_Law_law C 1143 [o0, o1, o2, some (.int xi)] st h P = (mx_R k_Law_law C 1144 [o0, o1, o2, some (.int xi)] (.int xi :: st) h P) := mx_xf rfl rfl
set_option maxRecDepth 100000 in
theorem x_Law_law_1144 (C : mx_C) (o0 : Option Value) (o1 : Option Value) (o2 : Option Value) (o3 : Option Value) (st : mx_S) (h : mx_H) (P : mx_P) : mx_R k_Law_law C 1144 [o0, o1, o2, o3] st h P = (mx_R k_Law_law C 1145 [o0, o1, o2, o3] (.int 5 :: st) h P) := mx_xf rfl rfl
set_option maxRecDepth 100000 in
theorem x_Law_law_1145 (C : mx_C) (o0 : Option Value) (o1 : Option Value) (o2 : Option Value) (o3 : Option Value) (xi : Int32) (yi : Int32) (st : mx_S) (h : mx_H) (P : mx_P) : mx_R k_Law_law C 1145 [o0, o1, o2, o3] (.int yi :: .int xi :: st) h P = (mx_R k_Law_law C 1146 [o0, o1, o2, o3] (.int (xi + yi) :: st) h P) := mx_xf rfl rfl
set_option maxRecDepth 100000 in
theorem x_Law_law_1146 (C : mx_C) (o0 : Option Value) (o1 : Option Value) (o2 : Option Value) (o3 : Option Value) (xi : Int32) (ar : Nat) (st : mx_S) (h : mx_H) (P : mx_P) : mx_R k_Law_law C 1146 [o0, o1, o2, o3] (.int xi :: .ref ar :: st) h P = (mx_okr 103 ar h xi = true ∧ mx_R k_Law_law C 1147 [o0, o1, o2, o3] (.int (h.1 ar xi.toNatClampNeg) :: st) h P) := mx_xg rfl rfl
set_option maxRecDepth 100000 in
theorem x_Law_law_1147 (C : mx_C) (o0 : Option Value) (o1 : Option Value) (o2 : Option Value) (o3 : Option Value) (va0 : Value) (va1 : Value) (va2 : Value) (va3 : Value) (va4 : Value) (va5 : Value) (vs0 : Value) (h : mx_H) (P : mx_P) : mx_R k_Law_law C 1147 [o0, o1, o2, o3] (va5 :: va4 :: va3 :: va2 :: va1 :: va0 :: [vs0]) h P = (∃ v h1, C 229 [va0, va1, va2, va3, va4, va5] h v h1 ∧ mx_R k_Law_law C 1150 [o0, o1, o2, o3] (v.toList ++ [vs0]) h1 P) := mx_xc rfl (Nat.le_of_ble_eq_true rfl) (Or.inl (Nat.le_of_ble_eq_true rfl)) rfl rfl
set_option maxRecDepth 100000 in
theorem x_Law_law_1150 (C : mx_C) (o0 : Option Value) (o1 : Option Value) (o2 : Option Value) (o3 : Option Value) (xi : Int32) (yi : Int32) (st : mx_S) (h : mx_H) (P : mx_P) : mx_R k_Law_law C 1150 [o0, o1, o2, o3] (.int yi :: .int xi :: st) h P = (if xi = yi then mx_R k_Law_law C 1309 [o0, o1, o2, o3] st h P else mx_R k_Law_law C 1153 [o0, o1, o2, o3] st h P) := mx_xb rfl rfl
set_option maxRecDepth 100000 in
theorem x_Law_law_1153 (C : mx_C) (o0 : Option Value) (o1 : Option Value) (o2 : Option Value) (o3 : Option Value) (st : mx_S) (h : mx_H) (P : mx_P) : mx_R k_Law_law C 1153 [o0, o1, o2, o3] st h P = (mx_R k_Law_law C 1154 [o0, o1, o2, o3] (.int 0 :: st) h P) := mx_xf rfl rfl
set_option maxRecDepth 100000 in
theorem x_Law_law_1154 (C : mx_C) (o0 : Option Value) (o1 : Option Value) (o2 : Option Value) (o3 : Option Value) (xi : Int32) (h : mx_H) (P : mx_P) : mx_R k_Law_law C 1154 [o0, o1, o2, o3] [.int xi] h P = ((xi = 0 ∨ xi = 1) ∧ P (some (.int xi)) h) := mx_xr2 rfl
set_option maxRecDepth 100000 in
theorem x_Law_law_1155 (C : mx_C) (o0 : Option Value) (o2 : Option Value) (o3 : Option Value) (ar : Nat) (st : mx_S) (h : mx_H) (P : mx_P) : mx_R k_Law_law C 1155 [o0, some (.ref ar), o2, o3] st h P = (mx_R k_Law_law C 1156 [o0, some (.ref ar), o2, o3] (.ref ar :: st) h P) := mx_xf rfl rfl
set_option maxRecDepth 100000 in
theorem x_Law_law_1156 (C : mx_C) (o1 : Option Value) (o2 : Option Value) (o3 : Option Value) (ar : Nat) (st : mx_S) (h : mx_H) (P : mx_P) : mx_R k_Law_law C 1156 [some (.ref ar), o1, o2, o3] st h P = (mx_R k_Law_law C 1157 [some (.ref ar), o1, o2, o3] (.ref ar :: st) h P) := mx_xf rfl rfl
set_option maxRecDepth 100000 in
theorem x_Law_law_1157 (C : mx_C) (o0 : Option Value) (o1 : Option Value) (o2 : Option Value) (xi : Int32) (st : mx_S) (h : mx_H) (P : mx_P) : mx_R k_Law_law C 1157 [o0, o1, o2, some (.int xi)] st h P = (mx_R k_Law_law C 1158 [o0, o1, o2, some (.int xi)] (.int xi :: st) h P) := mx_xf rfl rfl
set_option maxRecDepth 100000 in
theorem x_Law_law_1158 (C : mx_C) (o0 : Option Value) (o1 : Option Value) (o2 : Option Value) (o3 : Option Value) (st : mx_S) (h : mx_H) (P : mx_P) : mx_R k_Law_law C 1158 [o0, o1, o2, o3] st h P = (mx_R k_Law_law C 1159 [o0, o1, o2, o3] (.int 1 :: st) h P) := mx_xf rfl rfl
set_option maxRecDepth 100000 in
theorem x_Law_law_1159 (C : mx_C) (o0 : Option Value) (o1 : Option Value) (o2 : Option Value) (o3 : Option Value) (xi : Int32) (yi : Int32) (st : mx_S) (h : mx_H) (P : mx_P) : mx_R k_Law_law C 1159 [o0, o1, o2, o3] (.int yi :: .int xi :: st) h P = (mx_R k_Law_law C 1160 [o0, o1, o2, o3] (.int (xi + yi) :: st) h P) := mx_xf rfl rfl
set_option maxRecDepth 100000 in
theorem x_Law_law_1160 (C : mx_C) (o0 : Option Value) (o1 : Option Value) (o2 : Option Value) (o3 : Option Value) (xi : Int32) (ar : Nat) (st : mx_S) (h : mx_H) (P : mx_P) : mx_R k_Law_law C 1160 [o0, o1, o2, o3] (.int xi :: .ref ar :: st) h P = (mx_okr 103 ar h xi = true ∧ mx_R k_Law_law C 1161 [o0, o1, o2, o3] (.int (h.1 ar xi.toNatClampNeg) :: st) h P) := mx_xg rfl rfl
set_option maxRecDepth 100000 in
theorem x_Law_law_1161 (C : mx_C) (o0 : Option Value) (o1 : Option Value) (o2 : Option Value) (o3 : Option Value) (va0 : Value) (va1 : Value) (h : mx_H) (P : mx_P) : mx_R k_Law_law C 1161 [o0, o1, o2, o3] (va1 :: va0 :: []) h P = (∃ v h1, C 127 [va0, va1] h v h1 ∧ mx_R k_Law_law C 1164 [o0, o1, o2, o3] (v.toList ++ []) h1 P) := mx_xc rfl (Nat.le_of_ble_eq_true rfl) (Or.inl (Nat.le_of_ble_eq_true rfl)) rfl rfl
set_option maxRecDepth 100000 in
theorem x_Law_law_1164 (C : mx_C) (o0 : Option Value) (o1 : Option Value) (o3 : Option Value) (ar : Nat) (st : mx_S) (h : mx_H) (P : mx_P) : mx_R k_Law_law C 1164 [o0, o1, some (.ref ar), o3] st h P = (mx_R k_Law_law C 1165 [o0, o1, some (.ref ar), o3] (.ref ar :: st) h P) := mx_xf rfl rfl
set_option maxRecDepth 100000 in
theorem x_Law_law_1165 (C : mx_C) (o1 : Option Value) (o2 : Option Value) (o3 : Option Value) (ar : Nat) (st : mx_S) (h : mx_H) (P : mx_P) : mx_R k_Law_law C 1165 [some (.ref ar), o1, o2, o3] st h P = (mx_R k_Law_law C 1166 [some (.ref ar), o1, o2, o3] (.ref ar :: st) h P) := mx_xf rfl rfl
set_option maxRecDepth 100000 in
theorem x_Law_law_1166 (C : mx_C) (o0 : Option Value) (o1 : Option Value) (o2 : Option Value) (xi : Int32) (st : mx_S) (h : mx_H) (P : mx_P) : mx_R k_Law_law C 1166 [o0, o1, o2, some (.int xi)] st h P = (mx_R k_Law_law C 1167 [o0, o1, o2, some (.int xi)] (.int xi :: st) h P) := mx_xf rfl rfl
set_option maxRecDepth 100000 in
theorem x_Law_law_1167 (C : mx_C) (o0 : Option Value) (o1 : Option Value) (o2 : Option Value) (o3 : Option Value) (st : mx_S) (h : mx_H) (P : mx_P) : mx_R k_Law_law C 1167 [o0, o1, o2, o3] st h P = (mx_R k_Law_law C 1168 [o0, o1, o2, o3] (.int 1 :: st) h P) := mx_xf rfl rfl
set_option maxRecDepth 100000 in
theorem x_Law_law_1168 (C : mx_C) (o0 : Option Value) (o1 : Option Value) (o2 : Option Value) (o3 : Option Value) (xi : Int32) (yi : Int32) (st : mx_S) (h : mx_H) (P : mx_P) : mx_R k_Law_law C 1168 [o0, o1, o2, o3] (.int yi :: .int xi :: st) h P = (mx_R k_Law_law C 1169 [o0, o1, o2, o3] (.int (xi + yi) :: st) h P) := mx_xf rfl rfl
set_option maxRecDepth 100000 in
theorem x_Law_law_1169 (C : mx_C) (o0 : Option Value) (o1 : Option Value) (o2 : Option Value) (o3 : Option Value) (xi : Int32) (ar : Nat) (st : mx_S) (h : mx_H) (P : mx_P) : mx_R k_Law_law C 1169 [o0, o1, o2, o3] (.int xi :: .ref ar :: st) h P = (mx_okr 103 ar h xi = true ∧ mx_R k_Law_law C 1170 [o0, o1, o2, o3] (.int (h.1 ar xi.toNatClampNeg) :: st) h P) := mx_xg rfl rfl
set_option maxRecDepth 100000 in
theorem x_Law_law_1170 (C : mx_C) (o0 : Option Value) (o1 : Option Value) (o2 : Option Value) (o3 : Option Value) (va0 : Value) (va1 : Value) (vs0 : Value) (h : mx_H) (P : mx_P) : mx_R k_Law_law C 1170 [o0, o1, o2, o3] (va1 :: va0 :: [vs0]) h P = (∃ v h1, C 231 [va0, va1] h v h1 ∧ mx_R k_Law_law C 1173 [o0, o1, o2, o3] (v.toList ++ [vs0]) h1 P) := mx_xc rfl (Nat.le_of_ble_eq_true rfl) (Or.inl (Nat.le_of_ble_eq_true rfl)) rfl rfl
set_option maxRecDepth 100000 in
theorem x_Law_law_1173 (C : mx_C) (o0 : Option Value) (o1 : Option Value) (o2 : Option Value) (o3 : Option Value) (xi : Int32) (yi : Int32) (st : mx_S) (h : mx_H) (P : mx_P) : mx_R k_Law_law C 1173 [o0, o1, o2, o3] (.int yi :: .int xi :: st) h P = (if xi = yi then mx_R k_Law_law C 1309 [o0, o1, o2, o3] st h P else mx_R k_Law_law C 1176 [o0, o1, o2, o3] st h P) := mx_xb rfl rfl
set_option maxRecDepth 100000 in
theorem x_Law_law_1176 (C : mx_C) (o0 : Option Value) (o1 : Option Value) (o2 : Option Value) (o3 : Option Value) (st : mx_S) (h : mx_H) (P : mx_P) : mx_R k_Law_law C 1176 [o0, o1, o2, o3] st h P = (mx_R k_Law_law C 1177 [o0, o1, o2, o3] (.int 0 :: st) h P) := mx_xf rfl rfl
set_option maxRecDepth 100000 in
theorem x_Law_law_1177 (C : mx_C) (o0 : Option Value) (o1 : Option Value) (o2 : Option Value) (o3 : Option Value) (xi : Int32) (h : mx_H) (P : mx_P) : mx_R k_Law_law C 1177 [o0, o1, o2, o3] [.int xi] h P = ((xi = 0 ∨ xi = 1) ∧ P (some (.int xi)) h) := mx_xr2 rfl
set_option maxRecDepth 100000 in
theorem x_Law_law_1178 (C : mx_C) (o0 : Option Value) (o2 : Option Value) (o3 : Option Value) (ar : Nat) (st : mx_S) (h : mx_H) (P : mx_P) : mx_R k_Law_law C 1178 [o0, some (.ref ar), o2, o3] st h P = (mx_R k_Law_law C 1179 [o0, some (.ref ar), o2, o3] (.ref ar :: st) h P) := mx_xf rfl rfl
set_option maxRecDepth 100000 in
theorem x_Law_law_1179 (C : mx_C) (o1 : Option Value) (o2 : Option Value) (o3 : Option Value) (ar : Nat) (st : mx_S) (h : mx_H) (P : mx_P) : mx_R k_Law_law C 1179 [some (.ref ar), o1, o2, o3] st h P = (mx_R k_Law_law C 1180 [some (.ref ar), o1, o2, o3] (.ref ar :: st) h P) := mx_xf rfl rfl
set_option maxRecDepth 100000 in
theorem x_Law_law_1180 (C : mx_C) (o0 : Option Value) (o1 : Option Value) (o2 : Option Value) (xi : Int32) (st : mx_S) (h : mx_H) (P : mx_P) : mx_R k_Law_law C 1180 [o0, o1, o2, some (.int xi)] st h P = (mx_R k_Law_law C 1181 [o0, o1, o2, some (.int xi)] (.int xi :: st) h P) := mx_xf rfl rfl
set_option maxRecDepth 100000 in
theorem x_Law_law_1181 (C : mx_C) (o0 : Option Value) (o1 : Option Value) (o2 : Option Value) (o3 : Option Value) (st : mx_S) (h : mx_H) (P : mx_P) : mx_R k_Law_law C 1181 [o0, o1, o2, o3] st h P = (mx_R k_Law_law C 1182 [o0, o1, o2, o3] (.int 1 :: st) h P) := mx_xf rfl rfl
set_option maxRecDepth 100000 in
theorem x_Law_law_1182 (C : mx_C) (o0 : Option Value) (o1 : Option Value) (o2 : Option Value) (o3 : Option Value) (xi : Int32) (yi : Int32) (st : mx_S) (h : mx_H) (P : mx_P) : mx_R k_Law_law C 1182 [o0, o1, o2, o3] (.int yi :: .int xi :: st) h P = (mx_R k_Law_law C 1183 [o0, o1, o2, o3] (.int (xi + yi) :: st) h P) := mx_xf rfl rfl
set_option maxRecDepth 100000 in
theorem x_Law_law_1183 (C : mx_C) (o0 : Option Value) (o1 : Option Value) (o2 : Option Value) (o3 : Option Value) (xi : Int32) (ar : Nat) (st : mx_S) (h : mx_H) (P : mx_P) : mx_R k_Law_law C 1183 [o0, o1, o2, o3] (.int xi :: .ref ar :: st) h P = (mx_okr 103 ar h xi = true ∧ mx_R k_Law_law C 1184 [o0, o1, o2, o3] (.int (h.1 ar xi.toNatClampNeg) :: st) h P) := mx_xg rfl rfl
set_option maxRecDepth 100000 in
theorem x_Law_law_1184 (C : mx_C) (o0 : Option Value) (o1 : Option Value) (o2 : Option Value) (o3 : Option Value) (va0 : Value) (va1 : Value) (h : mx_H) (P : mx_P) : mx_R k_Law_law C 1184 [o0, o1, o2, o3] (va1 :: va0 :: []) h P = (∃ v h1, C 128 [va0, va1] h v h1 ∧ mx_R k_Law_law C 1187 [o0, o1, o2, o3] (v.toList ++ []) h1 P) := mx_xc rfl (Nat.le_of_ble_eq_true rfl) (Or.inl (Nat.le_of_ble_eq_true rfl)) rfl rfl
set_option maxRecDepth 100000 in
theorem x_Law_law_1187 (C : mx_C) (o0 : Option Value) (o1 : Option Value) (o3 : Option Value) (ar : Nat) (st : mx_S) (h : mx_H) (P : mx_P) : mx_R k_Law_law C 1187 [o0, o1, some (.ref ar), o3] st h P = (mx_R k_Law_law C 1188 [o0, o1, some (.ref ar), o3] (.ref ar :: st) h P) := mx_xf rfl rfl
set_option maxRecDepth 100000 in
theorem x_Law_law_1188 (C : mx_C) (o1 : Option Value) (o2 : Option Value) (o3 : Option Value) (ar : Nat) (st : mx_S) (h : mx_H) (P : mx_P) : mx_R k_Law_law C 1188 [some (.ref ar), o1, o2, o3] st h P = (mx_R k_Law_law C 1189 [some (.ref ar), o1, o2, o3] (.ref ar :: st) h P) := mx_xf rfl rfl
set_option maxRecDepth 100000 in
theorem x_Law_law_1189 (C : mx_C) (o0 : Option Value) (o1 : Option Value) (o2 : Option Value) (xi : Int32) (st : mx_S) (h : mx_H) (P : mx_P) : mx_R k_Law_law C 1189 [o0, o1, o2, some (.int xi)] st h P = (mx_R k_Law_law C 1190 [o0, o1, o2, some (.int xi)] (.int xi :: st) h P) := mx_xf rfl rfl
set_option maxRecDepth 100000 in
theorem x_Law_law_1190 (C : mx_C) (o0 : Option Value) (o1 : Option Value) (o2 : Option Value) (o3 : Option Value) (st : mx_S) (h : mx_H) (P : mx_P) : mx_R k_Law_law C 1190 [o0, o1, o2, o3] st h P = (mx_R k_Law_law C 1191 [o0, o1, o2, o3] (.int 1 :: st) h P) := mx_xf rfl rfl
set_option maxRecDepth 100000 in
theorem x_Law_law_1191 (C : mx_C) (o0 : Option Value) (o1 : Option Value) (o2 : Option Value) (o3 : Option Value) (xi : Int32) (yi : Int32) (st : mx_S) (h : mx_H) (P : mx_P) : mx_R k_Law_law C 1191 [o0, o1, o2, o3] (.int yi :: .int xi :: st) h P = (mx_R k_Law_law C 1192 [o0, o1, o2, o3] (.int (xi + yi) :: st) h P) := mx_xf rfl rfl
set_option maxRecDepth 100000 in
theorem x_Law_law_1192 (C : mx_C) (o0 : Option Value) (o1 : Option Value) (o2 : Option Value) (o3 : Option Value) (xi : Int32) (ar : Nat) (st : mx_S) (h : mx_H) (P : mx_P) : mx_R k_Law_law C 1192 [o0, o1, o2, o3] (.int xi :: .ref ar :: st) h P = (mx_okr 103 ar h xi = true ∧ mx_R k_Law_law C 1193 [o0, o1, o2, o3] (.int (h.1 ar xi.toNatClampNeg) :: st) h P) := mx_xg rfl rfl
set_option maxRecDepth 100000 in
theorem x_Law_law_1193 (C : mx_C) (o0 : Option Value) (o1 : Option Value) (o2 : Option Value) (o3 : Option Value) (va0 : Value) (va1 : Value) (vs0 : Value) (h : mx_H) (P : mx_P) : mx_R k_Law_law C 1193 [o0, o1, o2, o3] (va1 :: va0 :: [vs0]) h P = (∃ v h1, C 232 [va0, va1] h v h1 ∧ mx_R k_Law_law C 1196 [o0, o1, o2, o3] (v.toList ++ [vs0]) h1 P) := mx_xc rfl (Nat.le_of_ble_eq_true rfl) (Or.inl (Nat.le_of_ble_eq_true rfl)) rfl rfl
set_option maxRecDepth 100000 in
theorem x_Law_law_1196 (C : mx_C) (o0 : Option Value) (o1 : Option Value) (o2 : Option Value) (o3 : Option Value) (xi : Int32) (yi : Int32) (st : mx_S) (h : mx_H) (P : mx_P) : mx_R k_Law_law C 1196 [o0, o1, o2, o3] (.int yi :: .int xi :: st) h P = (if xi = yi then mx_R k_Law_law C 1309 [o0, o1, o2, o3] st h P else mx_R k_Law_law C 1199 [o0, o1, o2, o3] st h P) := mx_xb rfl rfl
set_option maxRecDepth 100000 in
theorem x_Law_law_1199 (C : mx_C) (o0 : Option Value) (o1 : Option Value) (o2 : Option Value) (o3 : Option Value) (st : mx_S) (h : mx_H) (P : mx_P) : mx_R k_Law_law C 1199 [o0, o1, o2, o3] st h P = (mx_R k_Law_law C 1200 [o0, o1, o2, o3] (.int 0 :: st) h P) := mx_xf rfl rfl
set_option maxRecDepth 100000 in
theorem x_Law_law_1200 (C : mx_C) (o0 : Option Value) (o1 : Option Value) (o2 : Option Value) (o3 : Option Value) (xi : Int32) (h : mx_H) (P : mx_P) : mx_R k_Law_law C 1200 [o0, o1, o2, o3] [.int xi] h P = ((xi = 0 ∨ xi = 1) ∧ P (some (.int xi)) h) := mx_xr2 rfl
set_option maxRecDepth 100000 in
theorem x_Law_law_1201 (C : mx_C) (o0 : Option Value) (o2 : Option Value) (o3 : Option Value) (ar : Nat) (st : mx_S) (h : mx_H) (P : mx_P) : mx_R k_Law_law C 1201 [o0, some (.ref ar), o2, o3] st h P = (mx_R k_Law_law C 1202 [o0, some (.ref ar), o2, o3] (.ref ar :: st) h P) := mx_xf rfl rfl
set_option maxRecDepth 100000 in
theorem x_Law_law_1202 (C : mx_C) (o0 : Option Value) (o1 : Option Value) (o2 : Option Value) (o3 : Option Value) (va0 : Value) (h : mx_H) (P : mx_P) : mx_R k_Law_law C 1202 [o0, o1, o2, o3] (va0 :: []) h P = (∃ v h1, C 129 [va0] h v h1 ∧ mx_R k_Law_law C 1205 [o0, o1, o2, o3] (v.toList ++ []) h1 P) := mx_xc rfl (Nat.le_of_ble_eq_true rfl) (Or.inl (Nat.le_of_ble_eq_true rfl)) rfl rfl
set_option maxRecDepth 100000 in
theorem x_Law_law_1205 (C : mx_C) (o0 : Option Value) (o1 : Option Value) (o3 : Option Value) (ar : Nat) (st : mx_S) (h : mx_H) (P : mx_P) : mx_R k_Law_law C 1205 [o0, o1, some (.ref ar), o3] st h P = (mx_R k_Law_law C 1206 [o0, o1, some (.ref ar), o3] (.ref ar :: st) h P) := mx_xf rfl rfl
set_option maxRecDepth 100000 in
theorem x_Law_law_1206 (C : mx_C) (o0 : Option Value) (o1 : Option Value) (o2 : Option Value) (o3 : Option Value) (va0 : Value) (vs0 : Value) (h : mx_H) (P : mx_P) : mx_R k_Law_law C 1206 [o0, o1, o2, o3] (va0 :: [vs0]) h P = (∃ v h1, C 233 [va0] h v h1 ∧ mx_R k_Law_law C 1209 [o0, o1, o2, o3] (v.toList ++ [vs0]) h1 P) := mx_xc rfl (Nat.le_of_ble_eq_true rfl) (Or.inl (Nat.le_of_ble_eq_true rfl)) rfl rfl
set_option maxRecDepth 100000 in
theorem x_Law_law_1209 (C : mx_C) (o0 : Option Value) (o1 : Option Value) (o2 : Option Value) (o3 : Option Value) (xi : Int32) (yi : Int32) (st : mx_S) (h : mx_H) (P : mx_P) : mx_R k_Law_law C 1209 [o0, o1, o2, o3] (.int yi :: .int xi :: st) h P = (if xi = yi then mx_R k_Law_law C 1309 [o0, o1, o2, o3] st h P else mx_R k_Law_law C 1212 [o0, o1, o2, o3] st h P) := mx_xb rfl rfl
set_option maxRecDepth 100000 in
theorem x_Law_law_1212 (C : mx_C) (o0 : Option Value) (o1 : Option Value) (o2 : Option Value) (o3 : Option Value) (st : mx_S) (h : mx_H) (P : mx_P) : mx_R k_Law_law C 1212 [o0, o1, o2, o3] st h P = (mx_R k_Law_law C 1213 [o0, o1, o2, o3] (.int 0 :: st) h P) := mx_xf rfl rfl
set_option maxRecDepth 100000 in
theorem x_Law_law_1213 (C : mx_C) (o0 : Option Value) (o1 : Option Value) (o2 : Option Value) (o3 : Option Value) (xi : Int32) (h : mx_H) (P : mx_P) : mx_R k_Law_law C 1213 [o0, o1, o2, o3] [.int xi] h P = ((xi = 0 ∨ xi = 1) ∧ P (some (.int xi)) h) := mx_xr2 rfl
set_option maxRecDepth 100000 in
theorem x_Law_law_1214 (C : mx_C) (o0 : Option Value) (o2 : Option Value) (o3 : Option Value) (ar : Nat) (st : mx_S) (h : mx_H) (P : mx_P) : mx_R k_Law_law C 1214 [o0, some (.ref ar), o2, o3] st h P = (mx_R k_Law_law C 1215 [o0, some (.ref ar), o2, o3] (.ref ar :: st) h P) := mx_xf rfl rfl
set_option maxRecDepth 100000 in
theorem x_Law_law_1215 (C : mx_C) (o0 : Option Value) (o1 : Option Value) (o2 : Option Value) (o3 : Option Value) (va0 : Value) (h : mx_H) (P : mx_P) : mx_R k_Law_law C 1215 [o0, o1, o2, o3] (va0 :: []) h P = (∃ v h1, C 130 [va0] h v h1 ∧ mx_R k_Law_law C 1218 [o0, o1, o2, o3] (v.toList ++ []) h1 P) := mx_xc rfl (Nat.le_of_ble_eq_true rfl) (Or.inl (Nat.le_of_ble_eq_true rfl)) rfl rfl
set_option maxRecDepth 100000 in
theorem x_Law_law_1218 (C : mx_C) (o0 : Option Value) (o1 : Option Value) (o3 : Option Value) (ar : Nat) (st : mx_S) (h : mx_H) (P : mx_P) : mx_R k_Law_law C 1218 [o0, o1, some (.ref ar), o3] st h P = (mx_R k_Law_law C 1219 [o0, o1, some (.ref ar), o3] (.ref ar :: st) h P) := mx_xf rfl rfl
set_option maxRecDepth 100000 in
theorem x_Law_law_1219 (C : mx_C) (o0 : Option Value) (o1 : Option Value) (o2 : Option Value) (o3 : Option Value) (va0 : Value) (vs0 : Value) (h : mx_H) (P : mx_P) : mx_R k_Law_law C 1219 [o0, o1, o2, o3] (va0 :: [vs0]) h P = (∃ v h1, C 234 [va0] h v h1 ∧ mx_R k_Law_law C 1222 [o0, o1, o2, o3] (v.toList ++ [vs0]) h1 P) := mx_xc rfl (Nat.le_of_ble_eq_true rfl) (Or.inl (Nat.le_of_ble_eq_true rfl)) rfl rfl
set_option maxRecDepth 100000 in
theorem x_Law_law_1222 (C : mx_C) (o0 : Option Value) (o1 : Option Value) (o2 : Option Value) (o3 : Option Value) (xi : Int32) (yi : Int32) (st : mx_S) (h : mx_H) (P : mx_P) : mx_R k_Law_law C 1222 [o0, o1, o2, o3] (.int yi :: .int xi :: st) h P = (if xi = yi then mx_R k_Law_law C 1309 [o0, o1, o2, o3] st h P else mx_R k_Law_law C 1225 [o0, o1, o2, o3] st h P) := mx_xb rfl rfl
set_option maxRecDepth 100000 in
theorem x_Law_law_1225 (C : mx_C) (o0 : Option Value) (o1 : Option Value) (o2 : Option Value) (o3 : Option Value) (st : mx_S) (h : mx_H) (P : mx_P) : mx_R k_Law_law C 1225 [o0, o1, o2, o3] st h P = (mx_R k_Law_law C 1226 [o0, o1, o2, o3] (.int 0 :: st) h P) := mx_xf rfl rfl
set_option maxRecDepth 100000 in
theorem x_Law_law_1226 (C : mx_C) (o0 : Option Value) (o1 : Option Value) (o2 : Option Value) (o3 : Option Value) (xi : Int32) (h : mx_H) (P : mx_P) : mx_R k_Law_law C 1226 [o0, o1, o2, o3] [.int xi] h P = ((xi = 0 ∨ xi = 1) ∧ P (some (.int xi)) h) := mx_xr2 rfl
set_option maxRecDepth 100000 in
theorem x_Law_law_1227 (C : mx_C) (o0 : Option Value) (o2 : Option Value) (o3 : Option Value) (ar : Nat) (st : mx_S) (h : mx_H) (P : mx_P) : mx_R k_Law_law C 1227 [o0, some (.ref ar), o2, o3] st h P = (mx_R k_Law_law C 1228 [o0, some (.ref ar), o2, o3] (.ref ar :: st) h P) := mx_xf rfl rfl
set_option maxRecDepth 100000 in
theorem x_Law_law_1228 (C : mx_C) (o1 : Option Value) (o2 : Option Value) (o3 : Option Value) (ar : Nat) (st : mx_S) (h : mx_H) (P : mx_P) : mx_R k_Law_law C 1228 [some (.ref ar), o1, o2, o3] st h P = (mx_R k_Law_law C 1229 [some (.ref ar), o1, o2, o3] (.ref ar :: st) h P) := mx_xf rfl rfl
set_option maxRecDepth 100000 in
theorem x_Law_law_1229 (C : mx_C) (o0 : Option Value) (o1 : Option Value) (o2 : Option Value) (xi : Int32) (st : mx_S) (h : mx_H) (P : mx_P) : mx_R k_Law_law C 1229 [o0, o1, o2, some (.int xi)] st h P = (mx_R k_Law_law C 1230 [o0, o1, o2, some (.int xi)] (.int xi :: st) h P) := mx_xf rfl rfl
set_option maxRecDepth 100000 in
theorem x_Law_law_1230 (C : mx_C) (o0 : Option Value) (o1 : Option Value) (o2 : Option Value) (o3 : Option Value) (st : mx_S) (h : mx_H) (P : mx_P) : mx_R k_Law_law C 1230 [o0, o1, o2, o3] st h P = (mx_R k_Law_law C 1231 [o0, o1, o2, o3] (.int 1 :: st) h P) := mx_xf rfl rfl
set_option maxRecDepth 100000 in
theorem x_Law_law_1231 (C : mx_C) (o0 : Option Value) (o1 : Option Value) (o2 : Option Value) (o3 : Option Value) (xi : Int32) (yi : Int32) (st : mx_S) (h : mx_H) (P : mx_P) : mx_R k_Law_law C 1231 [o0, o1, o2, o3] (.int yi :: .int xi :: st) h P = (mx_R k_Law_law C 1232 [o0, o1, o2, o3] (.int (xi + yi) :: st) h P) := mx_xf rfl rfl
set_option maxRecDepth 100000 in
theorem x_Law_law_1232 (C : mx_C) (o0 : Option Value) (o1 : Option Value) (o2 : Option Value) (o3 : Option Value) (xi : Int32) (ar : Nat) (st : mx_S) (h : mx_H) (P : mx_P) : mx_R k_Law_law C 1232 [o0, o1, o2, o3] (.int xi :: .ref ar :: st) h P = (mx_okr 103 ar h xi = true ∧ mx_R k_Law_law C 1233 [o0, o1, o2, o3] (.int (h.1 ar xi.toNatClampNeg) :: st) h P) := mx_xg rfl rfl
set_option maxRecDepth 100000 in
theorem x_Law_law_1233 (C : mx_C) (o0 : Option Value) (o1 : Option Value) (o2 : Option Value) (o3 : Option Value) (va0 : Value) (va1 : Value) (h : mx_H) (P : mx_P) : mx_R k_Law_law C 1233 [o0, o1, o2, o3] (va1 :: va0 :: []) h P = (∃ v h1, C 131 [va0, va1] h v h1 ∧ mx_R k_Law_law C 1236 [o0, o1, o2, o3] (v.toList ++ []) h1 P) := mx_xc rfl (Nat.le_of_ble_eq_true rfl) (Or.inl (Nat.le_of_ble_eq_true rfl)) rfl rfl
set_option maxRecDepth 100000 in
theorem x_Law_law_1236 (C : mx_C) (o0 : Option Value) (o1 : Option Value) (o3 : Option Value) (ar : Nat) (st : mx_S) (h : mx_H) (P : mx_P) : mx_R k_Law_law C 1236 [o0, o1, some (.ref ar), o3] st h P = (mx_R k_Law_law C 1237 [o0, o1, some (.ref ar), o3] (.ref ar :: st) h P) := mx_xf rfl rfl
set_option maxRecDepth 100000 in
theorem x_Law_law_1237 (C : mx_C) (o1 : Option Value) (o2 : Option Value) (o3 : Option Value) (ar : Nat) (st : mx_S) (h : mx_H) (P : mx_P) : mx_R k_Law_law C 1237 [some (.ref ar), o1, o2, o3] st h P = (mx_R k_Law_law C 1238 [some (.ref ar), o1, o2, o3] (.ref ar :: st) h P) := mx_xf rfl rfl
set_option maxRecDepth 100000 in
theorem x_Law_law_1238 (C : mx_C) (o0 : Option Value) (o1 : Option Value) (o2 : Option Value) (xi : Int32) (st : mx_S) (h : mx_H) (P : mx_P) : mx_R k_Law_law C 1238 [o0, o1, o2, some (.int xi)] st h P = (mx_R k_Law_law C 1239 [o0, o1, o2, some (.int xi)] (.int xi :: st) h P) := mx_xf rfl rfl
set_option maxRecDepth 100000 in
theorem x_Law_law_1239 (C : mx_C) (o0 : Option Value) (o1 : Option Value) (o2 : Option Value) (o3 : Option Value) (st : mx_S) (h : mx_H) (P : mx_P) : mx_R k_Law_law C 1239 [o0, o1, o2, o3] st h P = (mx_R k_Law_law C 1240 [o0, o1, o2, o3] (.int 1 :: st) h P) := mx_xf rfl rfl
set_option maxRecDepth 100000 in
theorem x_Law_law_1240 (C : mx_C) (o0 : Option Value) (o1 : Option Value) (o2 : Option Value) (o3 : Option Value) (xi : Int32) (yi : Int32) (st : mx_S) (h : mx_H) (P : mx_P) : mx_R k_Law_law C 1240 [o0, o1, o2, o3] (.int yi :: .int xi :: st) h P = (mx_R k_Law_law C 1241 [o0, o1, o2, o3] (.int (xi + yi) :: st) h P) := mx_xf rfl rfl
set_option maxRecDepth 100000 in
theorem x_Law_law_1241 (C : mx_C) (o0 : Option Value) (o1 : Option Value) (o2 : Option Value) (o3 : Option Value) (xi : Int32) (ar : Nat) (st : mx_S) (h : mx_H) (P : mx_P) : mx_R k_Law_law C 1241 [o0, o1, o2, o3] (.int xi :: .ref ar :: st) h P = (mx_okr 103 ar h xi = true ∧ mx_R k_Law_law C 1242 [o0, o1, o2, o3] (.int (h.1 ar xi.toNatClampNeg) :: st) h P) := mx_xg rfl rfl
set_option maxRecDepth 100000 in
theorem x_Law_law_1242 (C : mx_C) (o0 : Option Value) (o1 : Option Value) (o2 : Option Value) (o3 : Option Value) (va0 : Value) (va1 : Value) (vs0 : Value) (h : mx_H) (P : mx_P) : mx_R k_Law_law C 1242 [o0, o1, o2, o3] (va1 :: va0 :: [vs0]) h P = (∃ v h1, C 235 [va0, va1] h v h1 ∧ mx_R k_Law_law C 1245 [o0, o1, o2, o3] (v.toList ++ [vs0]) h1 P) := mx_xc rfl (Nat.le_of_ble_eq_true rfl) (Or.inl (Nat.le_of_ble_eq_true rfl)) rfl rfl
set_option maxRecDepth 100000 in
theorem x_Law_law_1245 (C : mx_C) (o0 : Option Value) (o1 : Option Value) (o2 : Option Value) (o3 : Option Value) (xi : Int32) (yi : Int32) (st : mx_S) (h : mx_H) (P : mx_P) : mx_R k_Law_law C 1245 [o0, o1, o2, o3] (.int yi :: .int xi :: st) h P = (if xi = yi then mx_R k_Law_law C 1309 [o0, o1, o2, o3] st h P else mx_R k_Law_law C 1248 [o0, o1, o2, o3] st h P) := mx_xb rfl rfl
set_option maxRecDepth 100000 in
theorem x_Law_law_1248 (C : mx_C) (o0 : Option Value) (o1 : Option Value) (o2 : Option Value) (o3 : Option Value) (st : mx_S) (h : mx_H) (P : mx_P) : mx_R k_Law_law C 1248 [o0, o1, o2, o3] st h P = (mx_R k_Law_law C 1249 [o0, o1, o2, o3] (.int 0 :: st) h P) := mx_xf rfl rfl
set_option maxRecDepth 100000 in
theorem x_Law_law_1249 (C : mx_C) (o0 : Option Value) (o1 : Option Value) (o2 : Option Value) (o3 : Option Value) (xi : Int32) (h : mx_H) (P : mx_P) : mx_R k_Law_law C 1249 [o0, o1, o2, o3] [.int xi] h P = ((xi = 0 ∨ xi = 1) ∧ P (some (.int xi)) h) := mx_xr2 rfl
set_option maxRecDepth 100000 in
theorem x_Law_law_1250 (C : mx_C) (o0 : Option Value) (o2 : Option Value) (o3 : Option Value) (ar : Nat) (st : mx_S) (h : mx_H) (P : mx_P) : mx_R k_Law_law C 1250 [o0, some (.ref ar), o2, o3] st h P = (mx_R k_Law_law C 1251 [o0, some (.ref ar), o2, o3] (.ref ar :: st) h P) := mx_xf rfl rfl
set_option maxRecDepth 100000 in
theorem x_Law_law_1251 (C : mx_C) (o0 : Option Value) (o1 : Option Value) (o2 : Option Value) (o3 : Option Value) (va0 : Value) (h : mx_H) (P : mx_P) : mx_R k_Law_law C 1251 [o0, o1, o2, o3] (va0 :: []) h P = (∃ v h1, C 132 [va0] h v h1 ∧ mx_R k_Law_law C 1254 [o0, o1, o2, o3] (v.toList ++ []) h1 P) := mx_xc rfl (Nat.le_of_ble_eq_true rfl) (Or.inl (Nat.le_of_ble_eq_true rfl)) rfl rfl
set_option maxRecDepth 100000 in
theorem x_Law_law_1254 (C : mx_C) (o0 : Option Value) (o1 : Option Value) (o3 : Option Value) (ar : Nat) (st : mx_S) (h : mx_H) (P : mx_P) : mx_R k_Law_law C 1254 [o0, o1, some (.ref ar), o3] st h P = (mx_R k_Law_law C 1255 [o0, o1, some (.ref ar), o3] (.ref ar :: st) h P) := mx_xf rfl rfl
set_option maxRecDepth 100000 in
theorem x_Law_law_1255 (C : mx_C) (o0 : Option Value) (o1 : Option Value) (o2 : Option Value) (o3 : Option Value) (va0 : Value) (vs0 : Value) (h : mx_H) (P : mx_P) : mx_R k_Law_law C 1255 [o0, o1, o2, o3] (va0 :: [vs0]) h P = (∃ v h1, C 236 [va0] h v h1 ∧ mx_R k_Law_law C 1258 [o0, o1, o2, o3] (v.toList ++ [vs0]) h1 P) := mx_xc rfl (Nat.le_of_ble_eq_true rfl) (Or.inl (Nat.le_of_ble_eq_true rfl)) rfl rfl
set_option maxRecDepth 100000 in
theorem x_Law_law_1258 (C : mx_C) (o0 : Option Value) (o1 : Option Value) (o2 : Option Value) (o3 : Option Value) (xi : Int32) (yi : Int32) (st : mx_S) (h : mx_H) (P : mx_P) : mx_R k_Law_law C 1258 [o0, o1, o2, o3] (.int yi :: .int xi :: st) h P = (if xi = yi then mx_R k_Law_law C 1309 [o0, o1, o2, o3] st h P else mx_R k_Law_law C 1261 [o0, o1, o2, o3] st h P) := mx_xb rfl rfl
set_option maxRecDepth 100000 in
theorem x_Law_law_1261 (C : mx_C) (o0 : Option Value) (o1 : Option Value) (o2 : Option Value) (o3 : Option Value) (st : mx_S) (h : mx_H) (P : mx_P) : mx_R k_Law_law C 1261 [o0, o1, o2, o3] st h P = (mx_R k_Law_law C 1262 [o0, o1, o2, o3] (.int 0 :: st) h P) := mx_xf rfl rfl
set_option maxRecDepth 100000 in
theorem x_Law_law_1262 (C : mx_C) (o0 : Option Value) (o1 : Option Value) (o2 : Option Value) (o3 : Option Value) (xi : Int32) (h : mx_H) (P : mx_P) : mx_R k_Law_law C 1262 [o0, o1, o2, o3] [.int xi] h P = ((xi = 0 ∨ xi = 1) ∧ P (some (.int xi)) h) := mx_xr2 rfl
set_option maxRecDepth 100000 in
theorem x_Law_law_1263 (C : mx_C) (o0 : Option Value) (o2 : Option Value) (o3 : Option Value) (ar : Nat) (st : mx_S) (h : mx_H) (P : mx_P) : mx_R k_Law_law C 1263 [o0, some (.ref ar), o2, o3] st h P = (mx_R k_Law_law C 1264 [o0, some (.ref ar), o2, o3] (.ref ar :: st) h P) := mx_xf rfl rfl
set_option maxRecDepth 100000 in
theorem x_Law_law_1264 (C : mx_C) (o1 : Option Value) (o2 : Option Value) (o3 : Option Value) (ar : Nat) (st : mx_S) (h : mx_H) (P : mx_P) : mx_R k_Law_law C 1264 [some (.ref ar), o1, o2, o3] st h P = (mx_R k_Law_law C 1265 [some (.ref ar), o1, o2, o3] (.ref ar :: st) h P) := mx_xf rfl rfl
set_option maxRecDepth 100000 in
theorem x_Law_law_1265 (C : mx_C) (o0 : Option Value) (o1 : Option Value) (o2 : Option Value) (xi : Int32) (st : mx_S) (h : mx_H) (P : mx_P) : mx_R k_Law_law C 1265 [o0, o1, o2, some (.int xi)] st h P = (mx_R k_Law_law C 1266 [o0, o1, o2, some (.int xi)] (.int xi :: st) h P) := mx_xf rfl rfl
set_option maxRecDepth 100000 in
theorem x_Law_law_1266 (C : mx_C) (o0 : Option Value) (o1 : Option Value) (o2 : Option Value) (o3 : Option Value) (st : mx_S) (h : mx_H) (P : mx_P) : mx_R k_Law_law C 1266 [o0, o1, o2, o3] st h P = (mx_R k_Law_law C 1267 [o0, o1, o2, o3] (.int 1 :: st) h P) := mx_xf rfl rfl
set_option maxRecDepth 100000 in
theorem x_Law_law_1267 (C : mx_C) (o0 : Option Value) (o1 : Option Value) (o2 : Option Value) (o3 : Option Value) (xi : Int32) (yi : Int32) (st : mx_S) (h : mx_H) (P : mx_P) : mx_R k_Law_law C 1267 [o0, o1, o2, o3] (.int yi :: .int xi :: st) h P = (mx_R k_Law_law C 1268 [o0, o1, o2, o3] (.int (xi + yi) :: st) h P) := mx_xf rfl rfl
set_option maxRecDepth 100000 in
theorem x_Law_law_1268 (C : mx_C) (o0 : Option Value) (o1 : Option Value) (o2 : Option Value) (o3 : Option Value) (xi : Int32) (ar : Nat) (st : mx_S) (h : mx_H) (P : mx_P) : mx_R k_Law_law C 1268 [o0, o1, o2, o3] (.int xi :: .ref ar :: st) h P = (mx_okr 103 ar h xi = true ∧ mx_R k_Law_law C 1269 [o0, o1, o2, o3] (.int (h.1 ar xi.toNatClampNeg) :: st) h P) := mx_xg rfl rfl
set_option maxRecDepth 100000 in
theorem x_Law_law_1269 (C : mx_C) (o0 : Option Value) (o1 : Option Value) (o2 : Option Value) (o3 : Option Value) (va0 : Value) (va1 : Value) (h : mx_H) (P : mx_P) : mx_R k_Law_law C 1269 [o0, o1, o2, o3] (va1 :: va0 :: []) h P = (∃ v h1, C 133 [va0, va1] h v h1 ∧ mx_R k_Law_law C 1272 [o0, o1, o2, o3] (v.toList ++ []) h1 P) := mx_xc rfl (Nat.le_of_ble_eq_true rfl) (Or.inl (Nat.le_of_ble_eq_true rfl)) rfl rfl
set_option maxRecDepth 100000 in
theorem x_Law_law_1272 (C : mx_C) (o0 : Option Value) (o1 : Option Value) (o3 : Option Value) (ar : Nat) (st : mx_S) (h : mx_H) (P : mx_P) : mx_R k_Law_law C 1272 [o0, o1, some (.ref ar), o3] st h P = (mx_R k_Law_law C 1273 [o0, o1, some (.ref ar), o3] (.ref ar :: st) h P) := mx_xf rfl rfl
set_option maxRecDepth 100000 in
theorem x_Law_law_1273 (C : mx_C) (o1 : Option Value) (o2 : Option Value) (o3 : Option Value) (ar : Nat) (st : mx_S) (h : mx_H) (P : mx_P) : mx_R k_Law_law C 1273 [some (.ref ar), o1, o2, o3] st h P = (mx_R k_Law_law C 1274 [some (.ref ar), o1, o2, o3] (.ref ar :: st) h P) := mx_xf rfl rfl
set_option maxRecDepth 100000 in
theorem x_Law_law_1274 (C : mx_C) (o0 : Option Value) (o1 : Option Value) (o2 : Option Value) (xi : Int32) (st : mx_S) (h : mx_H) (P : mx_P) : mx_R k_Law_law C 1274 [o0, o1, o2, some (.int xi)] st h P = (mx_R k_Law_law C 1275 [o0, o1, o2, some (.int xi)] (.int xi :: st) h P) := mx_xf rfl rfl
set_option maxRecDepth 100000 in
theorem x_Law_law_1275 (C : mx_C) (o0 : Option Value) (o1 : Option Value) (o2 : Option Value) (o3 : Option Value) (st : mx_S) (h : mx_H) (P : mx_P) : mx_R k_Law_law C 1275 [o0, o1, o2, o3] st h P = (mx_R k_Law_law C 1276 [o0, o1, o2, o3] (.int 1 :: st) h P) := mx_xf rfl rfl
set_option maxRecDepth 100000 in
theorem x_Law_law_1276 (C : mx_C) (o0 : Option Value) (o1 : Option Value) (o2 : Option Value) (o3 : Option Value) (xi : Int32) (yi : Int32) (st : mx_S) (h : mx_H) (P : mx_P) : mx_R k_Law_law C 1276 [o0, o1, o2, o3] (.int yi :: .int xi :: st) h P = (mx_R k_Law_law C 1277 [o0, o1, o2, o3] (.int (xi + yi) :: st) h P) := mx_xf rfl rfl
set_option maxRecDepth 100000 in
theorem x_Law_law_1277 (C : mx_C) (o0 : Option Value) (o1 : Option Value) (o2 : Option Value) (o3 : Option Value) (xi : Int32) (ar : Nat) (st : mx_S) (h : mx_H) (P : mx_P) : mx_R k_Law_law C 1277 [o0, o1, o2, o3] (.int xi :: .ref ar :: st) h P = (mx_okr 103 ar h xi = true ∧ mx_R k_Law_law C 1278 [o0, o1, o2, o3] (.int (h.1 ar xi.toNatClampNeg) :: st) h P) := mx_xg rfl rfl
set_option maxRecDepth 100000 in
theorem x_Law_law_1278 (C : mx_C) (o0 : Option Value) (o1 : Option Value) (o2 : Option Value) (o3 : Option Value) (va0 : Value) (va1 : Value) (vs0 : Value) (h : mx_H) (P : mx_P) : mx_R k_Law_law C 1278 [o0, o1, o2, o3] (va1 :: va0 :: [vs0]) h P = (∃ v h1, C 237 [va0, va1] h v h1 ∧ mx_R k_Law_law C 1281 [o0, o1, o2, o3] (v.toList ++ [vs0]) h1 P) := mx_xc rfl (Nat.le_of_ble_eq_true rfl) (Or.inl (Nat.le_of_ble_eq_true rfl)) rfl rfl
set_option maxRecDepth 100000 in
theorem x_Law_law_1281 (C : mx_C) (o0 : Option Value) (o1 : Option Value) (o2 : Option Value) (o3 : Option Value) (xi : Int32) (yi : Int32) (st : mx_S) (h : mx_H) (P : mx_P) : mx_R k_Law_law C 1281 [o0, o1, o2, o3] (.int yi :: .int xi :: st) h P = (if xi = yi then mx_R k_Law_law C 1309 [o0, o1, o2, o3] st h P else mx_R k_Law_law C 1284 [o0, o1, o2, o3] st h P) := mx_xb rfl rfl
set_option maxRecDepth 100000 in
theorem x_Law_law_1284 (C : mx_C) (o0 : Option Value) (o1 : Option Value) (o2 : Option Value) (o3 : Option Value) (st : mx_S) (h : mx_H) (P : mx_P) : mx_R k_Law_law C 1284 [o0, o1, o2, o3] st h P = (mx_R k_Law_law C 1285 [o0, o1, o2, o3] (.int 0 :: st) h P) := mx_xf rfl rfl
set_option maxRecDepth 100000 in
theorem x_Law_law_1285 (C : mx_C) (o0 : Option Value) (o1 : Option Value) (o2 : Option Value) (o3 : Option Value) (xi : Int32) (h : mx_H) (P : mx_P) : mx_R k_Law_law C 1285 [o0, o1, o2, o3] [.int xi] h P = ((xi = 0 ∨ xi = 1) ∧ P (some (.int xi)) h) := mx_xr2 rfl
set_option maxRecDepth 100000 in
theorem x_Law_law_1286 (C : mx_C) (o0 : Option Value) (o2 : Option Value) (o3 : Option Value) (ar : Nat) (st : mx_S) (h : mx_H) (P : mx_P) : mx_R k_Law_law C 1286 [o0, some (.ref ar), o2, o3] st h P = (mx_R k_Law_law C 1287 [o0, some (.ref ar), o2, o3] (.ref ar :: st) h P) := mx_xf rfl rfl
set_option maxRecDepth 100000 in
theorem x_Law_law_1287 (C : mx_C) (o1 : Option Value) (o2 : Option Value) (o3 : Option Value) (ar : Nat) (st : mx_S) (h : mx_H) (P : mx_P) : mx_R k_Law_law C 1287 [some (.ref ar), o1, o2, o3] st h P = (mx_R k_Law_law C 1288 [some (.ref ar), o1, o2, o3] (.ref ar :: st) h P) := mx_xf rfl rfl
set_option maxRecDepth 100000 in
theorem x_Law_law_1288 (C : mx_C) (o0 : Option Value) (o1 : Option Value) (o2 : Option Value) (xi : Int32) (st : mx_S) (h : mx_H) (P : mx_P) : mx_R k_Law_law C 1288 [o0, o1, o2, some (.int xi)] st h P = (mx_R k_Law_law C 1289 [o0, o1, o2, some (.int xi)] (.int xi :: st) h P) := mx_xf rfl rfl
set_option maxRecDepth 100000 in
theorem x_Law_law_1289 (C : mx_C) (o0 : Option Value) (o1 : Option Value) (o2 : Option Value) (o3 : Option Value) (st : mx_S) (h : mx_H) (P : mx_P) : mx_R k_Law_law C 1289 [o0, o1, o2, o3] st h P = (mx_R k_Law_law C 1290 [o0, o1, o2, o3] (.int 1 :: st) h P) := mx_xf rfl rfl
set_option maxRecDepth 100000 in
theorem x_Law_law_1290 (C : mx_C) (o0 : Option Value) (o1 : Option Value) (o2 : Option Value) (o3 : Option Value) (xi : Int32) (yi : Int32) (st : mx_S) (h : mx_H) (P : mx_P) : mx_R k_Law_law C 1290 [o0, o1, o2, o3] (.int yi :: .int xi :: st) h P = (mx_R k_Law_law C 1291 [o0, o1, o2, o3] (.int (xi + yi) :: st) h P) := mx_xf rfl rfl
set_option maxRecDepth 100000 in
theorem x_Law_law_1291 (C : mx_C) (o0 : Option Value) (o1 : Option Value) (o2 : Option Value) (o3 : Option Value) (xi : Int32) (ar : Nat) (st : mx_S) (h : mx_H) (P : mx_P) : mx_R k_Law_law C 1291 [o0, o1, o2, o3] (.int xi :: .ref ar :: st) h P = (mx_okr 103 ar h xi = true ∧ mx_R k_Law_law C 1292 [o0, o1, o2, o3] (.int (h.1 ar xi.toNatClampNeg) :: st) h P) := mx_xg rfl rfl
set_option maxRecDepth 100000 in
theorem x_Law_law_1292 (C : mx_C) (o0 : Option Value) (o1 : Option Value) (o2 : Option Value) (o3 : Option Value) (va0 : Value) (va1 : Value) (h : mx_H) (P : mx_P) : mx_R k_Law_law C 1292 [o0, o1, o2, o3] (va1 :: va0 :: []) h P = (∃ v h1, C 134 [va0, va1] h v h1 ∧ mx_R k_Law_law C 1295 [o0, o1, o2, o3] (v.toList ++ []) h1 P) := mx_xc rfl (Nat.le_of_ble_eq_true rfl) (Or.inl (Nat.le_of_ble_eq_true rfl)) rfl rfl
set_option maxRecDepth 100000 in
theorem x_Law_law_1295 (C : mx_C) (o0 : Option Value) (o1 : Option Value) (o3 : Option Value) (ar : Nat) (st : mx_S) (h : mx_H) (P : mx_P) : mx_R k_Law_law C 1295 [o0, o1, some (.ref ar), o3] st h P = (mx_R k_Law_law C 1296 [o0, o1, some (.ref ar), o3] (.ref ar :: st) h P) := mx_xf rfl rfl
set_option maxRecDepth 100000 in
theorem x_Law_law_1296 (C : mx_C) (o1 : Option Value) (o2 : Option Value) (o3 : Option Value) (ar : Nat) (st : mx_S) (h : mx_H) (P : mx_P) : mx_R k_Law_law C 1296 [some (.ref ar), o1, o2, o3] st h P = (mx_R k_Law_law C 1297 [some (.ref ar), o1, o2, o3] (.ref ar :: st) h P) := mx_xf rfl rfl
set_option maxRecDepth 100000 in
theorem x_Law_law_1297 (C : mx_C) (o0 : Option Value) (o1 : Option Value) (o2 : Option Value) (xi : Int32) (st : mx_S) (h : mx_H) (P : mx_P) : mx_R k_Law_law C 1297 [o0, o1, o2, some (.int xi)] st h P = (mx_R k_Law_law C 1298 [o0, o1, o2, some (.int xi)] (.int xi :: st) h P) := mx_xf rfl rfl
set_option maxRecDepth 100000 in
theorem x_Law_law_1298 (C : mx_C) (o0 : Option Value) (o1 : Option Value) (o2 : Option Value) (o3 : Option Value) (st : mx_S) (h : mx_H) (P : mx_P) : mx_R k_Law_law C 1298 [o0, o1, o2, o3] st h P = (mx_R k_Law_law C 1299 [o0, o1, o2, o3] (.int 1 :: st) h P) := mx_xf rfl rfl
set_option maxRecDepth 100000 in
theorem x_Law_law_1299 (C : mx_C) (o0 : Option Value) (o1 : Option Value) (o2 : Option Value) (o3 : Option Value) (xi : Int32) (yi : Int32) (st : mx_S) (h : mx_H) (P : mx_P) : mx_R k_Law_law C 1299 [o0, o1, o2, o3] (.int yi :: .int xi :: st) h P = (mx_R k_Law_law C 1300 [o0, o1, o2, o3] (.int (xi + yi) :: st) h P) := mx_xf rfl rfl
set_option maxRecDepth 100000 in
theorem x_Law_law_1300 (C : mx_C) (o0 : Option Value) (o1 : Option Value) (o2 : Option Value) (o3 : Option Value) (xi : Int32) (ar : Nat) (st : mx_S) (h : mx_H) (P : mx_P) : mx_R k_Law_law C 1300 [o0, o1, o2, o3] (.int xi :: .ref ar :: st) h P = (mx_okr 103 ar h xi = true ∧ mx_R k_Law_law C 1301 [o0, o1, o2, o3] (.int (h.1 ar xi.toNatClampNeg) :: st) h P) := mx_xg rfl rfl
set_option maxRecDepth 100000 in
theorem x_Law_law_1301 (C : mx_C) (o0 : Option Value) (o1 : Option Value) (o2 : Option Value) (o3 : Option Value) (va0 : Value) (va1 : Value) (vs0 : Value) (h : mx_H) (P : mx_P) : mx_R k_Law_law C 1301 [o0, o1, o2, o3] (va1 :: va0 :: [vs0]) h P = (∃ v h1, C 238 [va0, va1] h v h1 ∧ mx_R k_Law_law C 1304 [o0, o1, o2, o3] (v.toList ++ [vs0]) h1 P) := mx_xc rfl (Nat.le_of_ble_eq_true rfl) (Or.inl (Nat.le_of_ble_eq_true rfl)) rfl rfl
set_option maxRecDepth 100000 in
theorem x_Law_law_1304 (C : mx_C) (o0 : Option Value) (o1 : Option Value) (o2 : Option Value) (o3 : Option Value) (xi : Int32) (yi : Int32) (st : mx_S) (h : mx_H) (P : mx_P) : mx_R k_Law_law C 1304 [o0, o1, o2, o3] (.int yi :: .int xi :: st) h P = (if xi = yi then mx_R k_Law_law C 1309 [o0, o1, o2, o3] st h P else mx_R k_Law_law C 1307 [o0, o1, o2, o3] st h P) := mx_xb rfl rfl
set_option maxRecDepth 100000 in
theorem x_Law_law_1307 (C : mx_C) (o0 : Option Value) (o1 : Option Value) (o2 : Option Value) (o3 : Option Value) (st : mx_S) (h : mx_H) (P : mx_P) : mx_R k_Law_law C 1307 [o0, o1, o2, o3] st h P = (mx_R k_Law_law C 1308 [o0, o1, o2, o3] (.int 0 :: st) h P) := mx_xf rfl rfl
set_option maxRecDepth 100000 in
theorem x_Law_law_1308 (C : mx_C) (o0 : Option Value) (o1 : Option Value) (o2 : Option Value) (o3 : Option Value) (xi : Int32) (h : mx_H) (P : mx_P) : mx_R k_Law_law C 1308 [o0, o1, o2, o3] [.int xi] h P = ((xi = 0 ∨ xi = 1) ∧ P (some (.int xi)) h) := mx_xr2 rfl
set_option maxRecDepth 100000 in
theorem x_Law_law_1309 (C : mx_C) (o0 : Option Value) (o1 : Option Value) (xi : Int32) (br : Nat) (st : mx_S) (h : mx_H) (P : mx_P) : mx_R k_Law_law C 1309 [o0, o1, some (.ref br), some (.int xi)] st h P = (mx_R k_Law_law C 1312 [o0, o1, some (.ref br), some (.int (xi + 6))] st h P) := mx_xf rfl rfl
set_option maxRecDepth 100000 in
theorem x_Law_law_1312 (C : mx_C) (o0 : Option Value) (o1 : Option Value) (o2 : Option Value) (o3 : Option Value) (st : mx_S) (h : mx_H) (P : mx_P) : mx_R k_Law_law C 1312 [o0, o1, o2, o3] st h P = (mx_R k_Law_law C 18 [o0, o1, o2, o3] st h P) := mx_xf rfl rfl
set_option maxRecDepth 100000 in
theorem x_Law_law_1315 (C : mx_C) (o0 : Option Value) (o1 : Option Value) (o2 : Option Value) (o3 : Option Value) (st : mx_S) (h : mx_H) (P : mx_P) : mx_R k_Law_law C 1315 [o0, o1, o2, o3] st h P = (mx_R k_Law_law C 1316 [o0, o1, o2, o3] (.int 1 :: st) h P) := mx_xf rfl rfl
set_option maxRecDepth 100000 in
theorem x_Law_law_1316 (C : mx_C) (o0 : Option Value) (o1 : Option Value) (o2 : Option Value) (o3 : Option Value) (xi : Int32) (h : mx_H) (P : mx_P) : mx_R k_Law_law C 1316 [o0, o1, o2, o3] [.int xi] h P = ((xi = 0 ∨ xi = 1) ∧ P (some (.int xi)) h) := mx_xr2 rfl
