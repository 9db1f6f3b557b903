theorem op_item {L : Nat} {xs : Nat → Int32} {I : mx_I} (hI : Inv L xs I) (x0 x1 : Int32) : OpI L xs I 95 180 [.int x0, .int x1] := by
  sorry
theorem op_itemIs {L : Nat} {xs : Nat → Int32} {I : mx_I} (hI : Inv L xs I) (x0 x1 : Int32) : OpI L xs I 96 181 [.int x0, .int x1] := by
  sorry
theorem op_become {L : Nat} {xs : Nat → Int32} {I : mx_I} (hI : Inv L xs I) (x0 x1 : Int32) : OpI L xs I 97 182 [.int x0, .int x1] := by
  sorry
theorem op_as {L : Nat} {xs : Nat → Int32} {I : mx_I} (hI : Inv L xs I) (x0 x1 : Int32) : OpI L xs I 98 183 [.int x0, .int x1] := by
  sorry
theorem op_truth {L : Nat} {xs : Nat → Int32} {I : mx_I} (hI : Inv L xs I) (x0 x1 : Int32) : OpI L xs I 99 184 [.int x0, .int x1] := by
  sorry
theorem op_shift {L : Nat} {xs : Nat → Int32} {I : mx_I} (hI : Inv L xs I) (x0 x1 : Int32) : OpI L xs I 100 185 [.int x0, .int x1] := by
  sorry
theorem op_clock {L : Nat} {xs : Nat → Int32} {I : mx_I} (hI : Inv L xs I) (x0 x1 : Int32) : OpI L xs I 101 186 [.int x0, .int x1] := by
  sorry
theorem op_feed {L : Nat} {xs : Nat → Int32} {I : mx_I} (hI : Inv L xs I) (w : Int64) (x0 : Int32) : OpI L xs I 102 152 [.long w, .int x0] := by
  sorry
theorem op_text {L : Nat} {xs : Nat → Int32} {I : mx_I} (hI : Inv L xs I) (x0 : Int32) : OpI L xs I 103 164 [.int x0] := by
  sorry
theorem op_untell {L : Nat} {xs : Nat → Int32} {I : mx_I} (hI : Inv L xs I) (x0 : Int32) : OpI L xs I 104 165 [.int x0] := by
  sorry
theorem op_law {L : Nat} {xs : Nat → Int32} {I : mx_I} (hI : Inv L xs I) (x0 x1 x2 x3 : Int32) : OpI L xs I 105 189 [.int x0, .int x1, .int x2, .int x3] := by
  sorry
theorem op_air {L : Nat} {xs : Nat → Int32} {I : mx_I} (hI : Inv L xs I) (x0 : Int32) : OpI L xs I 106 191 [.int x0] := by
  sorry
theorem op_breaks {L : Nat} {xs : Nat → Int32} {I : mx_I} (hI : Inv L xs I) (x0 : Int32) : OpI L xs I 107 192 [.int x0] := by
  sorry
theorem op_drop {L : Nat} {xs : Nat → Int32} {I : mx_I} (hI : Inv L xs I) (x0 : Int32) : OpI L xs I 108 193 [.int x0] := by
  sorry
theorem op_loose {L : Nat} {xs : Nat → Int32} {I : mx_I} (hI : Inv L xs I) (x0 : Int32) : OpI L xs I 109 195 [.int x0] := by
  sorry
theorem op_anew {L : Nat} {xs : Nat → Int32} {I : mx_I} (hI : Inv L xs I)  : OpI L xs I 110 196 [] := by
  sorry
theorem op_over {L : Nat} {xs : Nat → Int32} {I : mx_I} (hI : Inv L xs I)  : OpI L xs I 112 198 [] := by
  sorry
theorem op_fits {L : Nat} {xs : Nat → Int32} {I : mx_I} (hI : Inv L xs I)  : OpI L xs I 113 199 [] := by
  sorry
theorem op_spare {L : Nat} {xs : Nat → Int32} {I : mx_I} (hI : Inv L xs I)  : OpI L xs I 114 200 [] := by
  sorry
theorem op_plan {L : Nat} {xs : Nat → Int32} {I : mx_I} (hI : Inv L xs I) (x0 : Int32) : OpI L xs I 116 204 [.int x0] := by
  sorry
theorem op_begins {L : Nat} {xs : Nat → Int32} {I : mx_I} (hI : Inv L xs I) (x0 x1 : Int32) : OpI L xs I 117 205 [.int x0, .int x1] := by
  sorry
theorem op_drops {L : Nat} {xs : Nat → Int32} {I : mx_I} (hI : Inv L xs I) (x0 : Int32) : OpI L xs I 118 207 [.int x0] := by
  sorry
theorem op_row {L : Nat} {xs : Nat → Int32} {I : mx_I} (hI : Inv L xs I) (x0 : Int32) : OpI L xs I 119 209 [.int x0] := by
  sorry
theorem op_odds {L : Nat} {xs : Nat → Int32} {I : mx_I} (hI : Inv L xs I) (x0 : Int32) : OpJ L xs I 120 213 [.int x0] := by
  sorry
theorem op_sums {L : Nat} {xs : Nat → Int32} {I : mx_I} (hI : Inv L xs I) (x0 x1 : Int32) : OpI L xs I 121 215 [.int x0, .int x1] := by
  sorry
theorem op_voice {L : Nat} {xs : Nat → Int32} {I : mx_I} (hI : Inv L xs I) (x0 x1 x2 : Int32) : OpI L xs I 122 224 [.int x0, .int x1, .int x2] := by
  sorry
theorem op_body {L : Nat} {xs : Nat → Int32} {I : mx_I} (hI : Inv L xs I) (x0 : Int32) : OpI L xs I 123 225 [.int x0] := by
  sorry
theorem op_sheet {L : Nat} {xs : Nat → Int32} {I : mx_I} (hI : Inv L xs I) (x0 x1 x2 : Int32) : OpI L xs I 124 227 [.int x0, .int x1, .int x2] := by
  sorry
theorem op_put {L : Nat} {xs : Nat → Int32} {I : mx_I} (hI : Inv L xs I) (x0 x1 x2 : Int32) : OpI L xs I 125 228 [.int x0, .int x1, .int x2] := by
  sorry
theorem op_move {L : Nat} {xs : Nat → Int32} {I : mx_I} (hI : Inv L xs I) (x0 x1 x2 x3 x4 : Int32) : OpI L xs I 126 229 [.int x0, .int x1, .int x2, .int x3, .int x4] := by
  sorry
theorem op_truths {L : Nat} {xs : Nat → Int32} {I : mx_I} (hI : Inv L xs I) (x0 : Int32) : OpI L xs I 127 231 [.int x0] := by
  sorry
theorem op_judge {L : Nat} {xs : Nat → Int32} {I : mx_I} (hI : Inv L xs I) (x0 : Int32) : OpI L xs I 128 232 [.int x0] := by
  sorry
theorem op_image {L : Nat} {xs : Nat → Int32} {I : mx_I} (hI : Inv L xs I)  : OpI L xs I 129 233 [] := by
  sorry
theorem op_restore {L : Nat} {xs : Nat → Int32} {I : mx_I} (hI : Inv L xs I)  : OpI L xs I 130 234 [] := by
  sorry
theorem op_tell {L : Nat} {xs : Nat → Int32} {I : mx_I} (hI : Inv L xs I) (x0 : Int32) : OpI L xs I 131 235 [.int x0] := by
  sorry
theorem op_check {L : Nat} {xs : Nat → Int32} {I : mx_I} (hI : Inv L xs I)  : OpI L xs I 132 236 [] := by
  sorry
theorem op_count {L : Nat} {xs : Nat → Int32} {I : mx_I} (hI : Inv L xs I) (x0 : Int32) : OpI L xs I 133 237 [.int x0] := by
  sorry
theorem op_told {L : Nat} {xs : Nat → Int32} {I : mx_I} (hI : Inv L xs I) (x0 : Int32) : OpI L xs I 134 238 [.int x0] := by
  sorry
