/-! the instructions as functions, and what each step is in mx_R -/
def mx_get : mx_L → Nat → Option Value
  | [], _ => none
  | a :: _, 0 => a
  | _ :: l, k + 1 => mx_get l k
def mx_put : mx_L → Nat → Option Value → mx_L
  | [], _, _ => []
  | _ :: l, 0, v => v :: l
  | a :: l, k + 1, v => a :: mx_put l k v
def mx_clr (ls : mx_L) : Nat → mx_L
  | 0 => ls
  | k + 1 => match mx_get ls k with
    | some w => if w.category = 2 then mx_put ls k none else ls
    | none => ls
def mx_sw : List (Int32 × Nat) → Nat → Int32 → Nat
  | [], d, _ => d
  | (a, t) :: r, d, x => if x = a then t else mx_sw r d x
def mx_rf : Option Nat → Value
  | none => .null
  | some a => .ref a
def mf_push (n : Nat) (v : Value) : mx_F := fun ls st h => some (n, ls, v :: st, h.1, h.2.1, h.2.2.1)
def mf_goto (t : Nat) : mx_F := fun ls st h => some (t, ls, st, h.1, h.2.1, h.2.2.1)
def mf_iload (n k : Nat) : mx_F := fun ls st h => match mx_get ls k with
  | some (.int x) => some (n, ls, .int x :: st, h.1, h.2.1, h.2.2.1)
  | _ => none
def mf_lload (n k : Nat) : mx_F := fun ls st h => match mx_get ls k with
  | some (.long x) => some (n, ls, .long x :: st, h.1, h.2.1, h.2.2.1)
  | _ => none
def mf_aload (n k : Nat) : mx_F := fun ls st h => match mx_get ls k with
  | some (.ref x) => some (n, ls, .ref x :: st, h.1, h.2.1, h.2.2.1)
  | some .null => some (n, ls, .null :: st, h.1, h.2.1, h.2.2.1)
  | _ => none
def mf_istore (n k : Nat) : mx_F := fun ls st h => match st with
  | .int x :: r => some (n, mx_put (mx_clr ls k) k (some (.int x)), r, h.1, h.2.1, h.2.2.1)
  | _ => none
def mf_lstore (n k : Nat) : mx_F := fun ls st h => match st with
  | .long x :: r => some (n, mx_put (mx_put (mx_clr ls k) k (some (.long x))) (k + 1) none, r, h.1, h.2.1, h.2.2.1)
  | _ => none
def mf_astore (n k : Nat) : mx_F := fun ls st h => match st with
  | .ref x :: r => some (n, mx_put (mx_clr ls k) k (some (.ref x)), r, h.1, h.2.1, h.2.2.1)
  | .null :: r => some (n, mx_put (mx_clr ls k) k (some .null), r, h.1, h.2.1, h.2.2.1)
  | _ => none
def mf_iinc (n k : Nat) (z : Int32) : mx_F := fun ls st h => match mx_get ls k with
  | some (.int x) => some (n, mx_put (mx_clr ls k) k (some (.int (x + z))), st, h.1, h.2.1, h.2.2.1)
  | _ => none
def mf_ibin (n : Nat) (op : Int32 → Int32 → Int32) : mx_F := fun ls st h => match st with
  | .int y :: .int x :: r => some (n, ls, .int (op x y) :: r, h.1, h.2.1, h.2.2.1)
  | _ => none
def mf_idiv (n : Nat) : mx_F := fun ls st h => match st with
  | .int y :: .int x :: r => if y = 0 then none else some (n, ls, .int (x / y) :: r, h.1, h.2.1, h.2.2.1)
  | _ => none
def mf_irem (n : Nat) : mx_F := fun ls st h => match st with
  | .int y :: .int x :: r => if y = 0 then none else some (n, ls, .int (x - x / y * y) :: r, h.1, h.2.1, h.2.2.1)
  | _ => none
def mf_iun (n : Nat) (op : Int32 → Int32) : mx_F := fun ls st h => match st with
  | .int x :: r => some (n, ls, .int (op x) :: r, h.1, h.2.1, h.2.2.1)
  | _ => none
def mf_lbin (n : Nat) (op : Int64 → Int64 → Int64) : mx_F := fun ls st h => match st with
  | .long y :: .long x :: r => some (n, ls, .long (op x y) :: r, h.1, h.2.1, h.2.2.1)
  | _ => none
def mf_ldiv (n : Nat) : mx_F := fun ls st h => match st with
  | .long y :: .long x :: r => if y = 0 then none else some (n, ls, .long (x / y) :: r, h.1, h.2.1, h.2.2.1)
  | _ => none
def mf_lrem (n : Nat) : mx_F := fun ls st h => match st with
  | .long y :: .long x :: r => if y = 0 then none else some (n, ls, .long (x - x / y * y) :: r, h.1, h.2.1, h.2.2.1)
  | _ => none
def mf_lsh (n : Nat) (op : Int64 → Int32 → Int64) : mx_F := fun ls st h => match st with
  | .int y :: .long x :: r => some (n, ls, .long (op x y) :: r, h.1, h.2.1, h.2.2.1)
  | _ => none
def mf_i2l (n : Nat) : mx_F := fun ls st h => match st with
  | .int x :: r => some (n, ls, .long x.toInt64 :: r, h.1, h.2.1, h.2.2.1)
  | _ => none
def mf_l2i (n : Nat) : mx_F := fun ls st h => match st with
  | .long x :: r => some (n, ls, .int x.toInt32 :: r, h.1, h.2.1, h.2.2.1)
  | _ => none
def mf_lcmp (n : Nat) : mx_F := fun ls st h => match st with
  | .long y :: .long x :: r => some (n, ls, .int (lg_cmp x y) :: r, h.1, h.2.1, h.2.2.1)
  | _ => none
def mf_dup (n : Nat) : mx_F := fun ls st h => match st with
  | v :: r => if v.category = 1 then some (n, ls, v :: v :: r, h.1, h.2.1, h.2.2.1) else none
  | _ => none
def mf_dup2 (n : Nat) : mx_F := fun ls st h => match st with
  | v :: w :: r => if v.category = 1 ∧ w.category = 1 then some (n, ls, v :: w :: v :: w :: r, h.1, h.2.1, h.2.2.1) else none
  | _ => none
def mf_pop (n : Nat) : mx_F := fun ls st h => match st with
  | v :: r => if v.category = 1 then some (n, ls, r, h.1, h.2.1, h.2.2.1) else none
  | _ => none
def mf_if (n t : Nat) (c : Int32 → Bool) : mx_F := fun ls st h => match st with
  | .int x :: r => some (if c x = true then t else n, ls, r, h.1, h.2.1, h.2.2.1)
  | _ => none
def mf_icmp (n t : Nat) (c : Int32 → Int32 → Bool) : mx_F := fun ls st h => match st with
  | .int y :: .int x :: r => some (if c x y = true then t else n, ls, r, h.1, h.2.1, h.2.2.1)
  | _ => none
def mf_sw (d : Nat) (l : List (Int32 × Nat)) : mx_F := fun ls st h => match st with
  | .int x :: r => some (mx_sw l d x, ls, r, h.1, h.2.1, h.2.2.1)
  | _ => none
def mf_getI (n c k : Nat) : mx_F := fun ls st h => match st with
  | .ref a :: r => if mx_okc c a h = true then some (n, ls, .int (h.1 a k) :: r, h.1, h.2.1, h.2.2.1) else none
  | _ => none
def mf_getJ (n c k : Nat) : mx_F := fun ls st h => match st with
  | .ref a :: r => if mx_okc c a h = true then some (n, ls, .long (h.2.1 a k) :: r, h.1, h.2.1, h.2.2.1) else none
  | _ => none
def mf_getQ (n c k : Nat) : mx_F := fun ls st h => match st with
  | .ref a :: r => if mx_okc c a h = true then some (n, ls, mx_rf (h.2.2.1 a k) :: r, h.1, h.2.1, h.2.2.1) else none
  | _ => none
def mf_putI (n c k : Nat) : mx_F := fun ls st h => match st with
  | .int x :: .ref a :: r => if mx_okc c a h = true then some (n, ls, r, mx_ups h.1 a k x, h.2.1, h.2.2.1) else none
  | _ => none
def mf_putZ (n c k : Nat) : mx_F := fun ls st h => match st with
  | .int x :: .ref a :: r => if (mx_okc c a h && (decide (x = 0) || decide (x = 1))) = true then some (n, ls, r, mx_ups h.1 a k x, h.2.1, h.2.2.1) else none
  | _ => none
def mf_putJ (n c k : Nat) : mx_F := fun ls st h => match st with
  | .long x :: .ref a :: r => if mx_okc c a h = true then some (n, ls, r, h.1, mx_ups h.2.1 a k x, h.2.2.1) else none
  | _ => none
def mf_putQ (n c k : Nat) : mx_F := fun ls st h => match st with
  | .ref x :: .ref a :: r => if mx_okc c a h = true then some (n, ls, r, h.1, h.2.1, mx_ups h.2.2.1 a k (some x)) else none
  | _ => none
def mf_iald (n : Nat) : mx_F := fun ls st h => match st with
  | .int i :: .ref a :: r => if mx_okr 103 a h i = true then some (n, ls, .int (h.1 a i.toNatClampNeg) :: r, h.1, h.2.1, h.2.2.1) else none
  | _ => none
def mf_cald (n : Nat) : mx_F := fun ls st h => match st with
  | .int i :: .ref a :: r => if (decide ((mx_lay a).1 = 104) && mx_inb i (mx_lay a).2) = true then some (n, ls, .int (h.1 a i.toNatClampNeg) :: r, h.1, h.2.1, h.2.2.1) else none
  | _ => none
def mf_lald (n : Nat) : mx_F := fun ls st h => match st with
  | .int i :: .ref a :: r => if mx_oka 101 a h i = true then some (n, ls, .long (h.2.1 a i.toNatClampNeg) :: r, h.1, h.2.1, h.2.2.1) else none
  | _ => none
def mf_aald (n : Nat) : mx_F := fun ls st h => match st with
  | .int i :: .ref a :: r => if mx_oka 102 a h i = true then some (n, ls, mx_rf (h.2.2.1 a i.toNatClampNeg) :: r, h.1, h.2.1, h.2.2.1) else none
  | _ => none
def mf_iast (n : Nat) : mx_F := fun ls st h => match st with
  | .int x :: .int i :: .ref a :: r => if mx_oka 100 a h i = true then some (n, ls, r, mx_ups h.1 a i.toNatClampNeg x, h.2.1, h.2.2.1) else none
  | _ => none
def mf_last (n : Nat) : mx_F := fun ls st h => match st with
  | .long x :: .int i :: .ref a :: r => if mx_oka 101 a h i = true then some (n, ls, r, h.1, mx_ups h.2.1 a i.toNatClampNeg x, h.2.2.1) else none
  | _ => none
def mf_aast (n c : Nat) : mx_F := fun ls st h => match st with
  | .ref x :: .int i :: .ref a :: r => if (mx_oka 102 a h i && mx_okc c x h) = true then some (n, ls, r, h.1, h.2.1, mx_ups h.2.2.1 a i.toNatClampNeg (some x)) else none
  | _ => none
def mf_alen (n : Nat) : mx_F := fun ls st h => match st with
  | .ref a :: r => if ((decide (a < h.2.2.2) && decide (100 ≤ (mx_lay a).1) && decide ((mx_lay a).1 ≤ 102)) || decide ((mx_lay a).1 = 103) || decide ((mx_lay a).1 = 104)) = true then some (n, ls, .int (nI (mx_alen h a)) :: r, h.1, h.2.1, h.2.2.1) else none
  | _ => none
def mf_null (n t : Nat) : mx_F := fun ls st h => match st with
  | .ref _ :: r => some (n, ls, r, h.1, h.2.1, h.2.2.1)
  | .null :: r => some (t, ls, r, h.1, h.2.1, h.2.2.1)
  | _ => none
def mf_init (n : Nat) : mx_F := fun ls st h => match st with
  | .ref _ :: r => some (n, ls, r, h.1, h.2.1, h.2.2.1)
  | _ => none
def mf_copy (n : Nat) : mx_F := fun ls st h => match st with
  | .int z :: .int j :: .ref b :: .int i :: .ref a :: r => if (decide (mx_layL.length ≤ h.2.2.2) && decide (a < h.2.2.2) && decide ((mx_lay a).1 = 100) && (decide (b < h.2.2.2) && decide ((mx_lay b).1 = 100)) && (decide (0 ≤ i) && decide (0 ≤ j) && decide (0 ≤ z) && decide (i.toNatClampNeg + z.toNatClampNeg ≤ (mx_lay a).2) && decide (j.toNatClampNeg + z.toNatClampNeg ≤ (mx_lay b).2))) = true then some (n, ls, r, mx_row h.1 b (va_cpy (h.1 a) (h.1 b) i.toNatClampNeg j.toNatClampNeg z.toNatClampNeg), h.2.1, h.2.2.1) else none
  | _ => none
