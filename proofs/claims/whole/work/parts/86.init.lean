/-! the two objects are made; then the loop -/
def mx_h0 (L : Nat) (xs : Nat → Int32) : mx_H := (fun a i => if 1000 ≤ a then mx_sv L xs (a - 1000) i else 0, fun _ _ => 0, fun _ _ => none, 0)
theorem mx_law {L : Nat} {xs : Nat → Int32} (hL : L ≤ 3072) : mx_R k_Law_law (mx_Cal mx_tab 500) 0 [some (.ref 1004), none, none, none] [] (mx_h0 L xs) (fun v h => v = some (.int 1) ∧ h.2.2.2 ≤ 110) := by
  sorry
