/-! what holds between the class's cells and the reference's, between two calls -/
def mx_svT : List (List Int32) := [[(-1), 0, 0, 0, 1, 2, 3], [107, 108, 112], [105, 112, 107], [10, 11, 12, 13, 20, 0, 0, 21, 0, 30, 0, 0, 0, 0, 40, 0, 50, 0, 51, 0, 0, 60, 0, 0, 70, 71, 0, 0]]
def mx_sv (L : Nat) (xs : Nat → Int32) : Nat → Nat → Int32 := fun j i => if j = 4 then xs i else if j = 5 then (if i = 0 then nI L else 0) else (mx_svT.getD j []).getD i 0
/-- how the class writes a step of a text -/
def nameC (u : Nat) (v : Int32) : Int32 := if u = 0 then (if v = 107 then -1 else if v = 108 then -2 else -3) else (if v = 105 then -1 else if v = 112 then -2 else -3)
def encC (u : Nat) (w v : Int32) : Int32 := if w = 0 then v else if w = 1 then nameC u v else if w = 2 then -33 else -v
def isSignC (v : Int32) : Prop := v = 124 ∨ v = 38 ∨ v = 60 ∨ v = 61 ∨ v = 62 ∨ v = 43 ∨ v = 45 ∨ v = 42 ∨ v = 47 ∨ v = 37
def isNameC (u : Nat) (v : Int32) : Prop := v = 107 ∨ v = 112 ∨ (u = 0 ∧ v = 108) ∨ (u ≠ 0 ∧ v = 105)
/-- how many values lie on the pile after k steps -/
def depC (f : Nat → Int32) : Nat → Int
  | 0 => 0
  | k + 1 => depC f k + (if f (2 * k) = 0 ∨ f (2 * k) = 1 then 1 else if f (2 * k) = 2 then 0 else -1)
/-- c steps f (what, value by turns) of a text of use u that can be worked -/
def WfC (u : Nat) (f : Nat → Int32) (c : Nat) : Prop := depC f c = 1 ∧ ∀ k, k < c → (f (2 * k) = 0 ∧ ∃ z, z ≤ 9999 ∧ f (2 * k + 1) = nI z) ∨ (f (2 * k) = 1 ∧ isNameC u (f (2 * k + 1))) ∨ (f (2 * k) = 2 ∧ f (2 * k + 1) = 0 ∧ 1 ≤ depC f k) ∨ (f (2 * k) = 3 ∧ isSignC (f (2 * k + 1)) ∧ 2 ≤ depC f k)
def TextR (I : mx_I) (u t mS b : Nat) : Prop := (∃ c, c ≤ 60 ∧ I (t + 1) 1 = nI c) ∧ ((I t 0 = 0 ∧ I mS b = 0) ∨ (I t 0 = 1 ∧ ∃ c, 1 ≤ c ∧ c ≤ 60 ∧ I mS b = nI c ∧ I (t + 1) 1 = nI c ∧ WfC u (fun k => I mS (b + 1 + k)) c ∧ ∀ k, k < c → I (t + 2) k = encC u (I mS (b + 1 + 2 * k)) (I mS (b + 1 + (2 * k + 1)))))
def ItemR (I : mx_I) (o mS i p : Nat) : Prop := ∃ k m t f : Nat, k < 7 ∧ m < 10 ∧ t < 1000 ∧ f < 3 ∧ I (4 + o) i = nI k ∧ I mS (8 + 5 * i) = nI k ∧ I (6 + o) i = nI m ∧ I mS (8 + 5 * i + 1) = nI m ∧ I (8 + o) i = nI t ∧ I mS (8 + 5 * i + 2) = nI t ∧ I (10 + o) i = nI f ∧ I mS (8 + 5 * i + 4) = nI f ∧ I (12 + o) p = nI i ∧ I mS (8 + 5 * i + 3) = nI p
/-- the order: pl the places, od the items by places -/
def OrdR (n : Nat) (pl od : Nat → Nat) : Prop := (∀ i, i < n → pl i < n ∧ od (pl i) = i) ∧ ∀ p, p < n → od p < n ∧ pl (od p) = p
def ItemsR (I : mx_I) (o mS n : Nat) (pl od : Nat → Nat) : Prop := n ≤ 9 ∧ I (2 + o) 0 = nI n ∧ I mS 6 = nI n ∧ OrdR n pl od ∧ (∀ i, i < n → ItemR I o mS i (pl i)) ∧ I (3 + o) 1 = 0 ∧ I (5 + o) 1 = 0 ∧ I (7 + o) 1 = 0 ∧ I (9 + o) 1 = 0 ∧ I (11 + o) 1 = 0
def ClockR (I : mx_I) (o mS : Nat) : Prop := I (1 + o) 4 = I mS 3 ∧ ∃ a b c : Nat, a ≤ 9999 ∧ b ≤ 9999 ∧ c ≤ 99 ∧ I (1 + o) 1 = nI a ∧ I mS 1 = nI a ∧ I (1 + o) 2 = nI b ∧ I mS 0 = nI b ∧ I (1 + o) 3 = nI c ∧ I mS 2 = nI c
def TapeR (I : mx_I) (o mS : Nat) : Prop := ∃ t, t ≤ 60 ∧ I (13 + o) 1 = nI t ∧ I mS 4 = nI t ∧ ∀ j, j < t → ∃ z, z < 256 ∧ I (14 + o) j = nI z ∧ I mS (303 + j) = nI z
def WaitR (I : mx_I) (o mS : Nat) : Prop := ∃ w, w ≤ 24 ∧ I (15 + o) 1 = nI w ∧ I mS 5 = nI w ∧ ∀ j, j < w → I (16 + o) j = I mS (363 + j)
def Snap (I : mx_I) (o mS : Nat) : Prop := (∃ n pl od, ItemsR I o mS n pl od) ∧ ClockR I o mS ∧ TapeR I o mS ∧ WaitR I o mS ∧ TextR I 0 (17 + o) mS 53 ∧ TextR I 1 (22 + o) mS 178
def ErrR (I : mx_I) : Prop := ∀ k, k < 7 → I 54 k = I 97 k
def ImgR (I : mx_I) : Prop := I 0 2 = I 94 2 ∧ (I 0 2 ≠ 0 → Snap I 26 96)
/-- the empty set's sums, never written -/
def SumR (I : mx_I) : Prop := ∀ a, 63 ≤ a → a ≤ 66 → I a 0 = 0
def TraceR (I : mx_I) : Prop := SumR I ∧ ∃ t, t ≤ 30 ∧ I 79 1 = nI t ∧ I 94 17 = nI t ∧ ∀ j, j < t → I 80 j = I 105 j
def SheetR (I : mx_I) (q : Nat) : Prop := I (82 + 3 * q) 0 = I 106 q ∧ (I 106 q = 0 ∨ I 106 q = 8 ∨ I 106 q = 16 ∨ I 106 q = 32) ∧ ∃ z, z ≤ 24 ∧ I (83 + 3 * q) 1 = nI z ∧ I 107 q = nI z ∧ ∀ j, j < z → I (84 + 3 * q) j = I 108 (24 * q + j)
def StatR (L : Nat) (xs : Nat → Int32) (I : mx_I) : Prop := ∀ a i, 1000 ≤ a → I a i = mx_sv L xs (a - 1000) i
def Inv (L : Nat) (xs : Nat → Int32) (I : mx_I) : Prop := Snap I 0 95 ∧ ImgR I ∧ ErrR I ∧ TraceR I ∧ (∀ q, q < 4 → SheetR I q) ∧ StatR L xs I
/-- both answer alike, and it holds again -/
def OpI (L : Nat) (xs : Nat → Int32) (I : mx_I) (gx gm : Nat) (args : List Value) : Prop := ∀ J, ∃ (v : Int32) (I1 I2 : mx_I) (J1 J2 : mx_J), mx_Cal mx_tab 300 gx (.ref 0 :: args) (mk I J) (some (.int v)) (mk I1 J1) ∧ mx_Cal mx_tab 300 gm (.ref 94 :: args) (mk I1 J1) (some (.int v)) (mk I2 J2) ∧ StatR L xs I1 ∧ Inv L xs I2
def OpJ (L : Nat) (xs : Nat → Int32) (I : mx_I) (gx gm : Nat) (args : List Value) : Prop := ∀ J, ∃ (v : Int64) (I1 I2 : mx_I) (J1 J2 : mx_J), mx_Cal mx_tab 300 gx (.ref 0 :: args) (mk I J) (some (.long v)) (mk I1 J1) ∧ mx_Cal mx_tab 300 gm (.ref 94 :: args) (mk I1 J1) (some (.long v)) (mk I2 J2) ∧ StatR L xs I1 ∧ Inv L xs I2
