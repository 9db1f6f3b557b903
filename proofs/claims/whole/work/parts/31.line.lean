/-! numbers; a row of numbers (Line) -/
theorem mx_Cal_in {tab : Nat → mx_M} {d f mL : Nat} {y : MethodName} {b : ByteArray} {ret : Option FieldType} {o : Option Nat} {cl : List (Nat × mx_N)} {a : List Value} {ls : mx_L} {h h' : mx_H} {v : Option Value} (htab : tab f = (y, b, mL, ret, o, cl)) (h1 : mx_rcv o a h) (h2 : (mx_args a).length ≤ mL) (hls : mx_ent mL a = ls) (h3 : mx_R cl (mx_Cal tab d) 0 ls [] h (fun v' h'' => v' = v ∧ h'' = h')) : mx_Cal tab (d + 1) f a h v h' := by
  subst hls
  refine ⟨?_, ?_, ?_⟩
  · rw [htab]; exact h1
  · rw [htab]; exact h2
  · rw [htab]; exact h3
def lc (r : Nat) : Nat := (mx_RT r 0).getD 0
def ln (r : Nat) : Nat := (mx_lay (lc r)).2
def isLn (r : Nat) : Bool := decide ((mx_lay r).1 = 1) && decide (r < 110) && decide (mx_RT r 0 = some (lc r)) && decide (lc r < 110) && decide ((mx_lay (lc r)).1 = 100) && decide (ln r ≤ 4096)
theorem isLn_of {r : Nat} (h : isLn r = true) : (mx_lay r).1 = 1 ∧ r < 110 ∧ mx_RT r 0 = some (lc r) ∧ lc r < 110 ∧ (mx_lay (lc r)).1 = 100 ∧ ln r ≤ 4096 := by
  simp only [isLn, Bool.and_eq_true, decide_eq_true_eq] at h
  exact ⟨h.1.1.1.1.1, h.1.1.1.1.2, h.1.1.1.2, h.1.1.2, h.1.2, h.2⟩
section LNF
variable {r : Nat} (hr : isLn r = true) (I : mx_I) (J : mx_J)
theorem ln_oc (hr : isLn r = true) (I : mx_I) (J : mx_J) : (mx_okc 1 r (mk I J) = true) = True := by
  obtain ⟨h1, h2, -⟩ := isLn_of hr
  simp [mx_okc, mk, h1, h2]
theorem ln_rt (hr : isLn r = true) : mx_rf (mx_RT r 0) = .ref (lc r) := by
  rw [(isLn_of hr).2.2.1]; rfl
theorem ln_oa (hr : isLn r = true) (I : mx_I) (J : mx_J) (i : Int32) : (mx_oka 100 (lc r) (mk I J) i = true) = (0 ≤ i ∧ i.toNatClampNeg < ln r) := by
  obtain ⟨-, -, -, h4, h5, -⟩ := isLn_of hr
  refine mk_oka ?_
  simp [h4, h5, ln]
theorem ln_or (hr : isLn r = true) (I : mx_I) (J : mx_J) (i : Int32) : (mx_okr 103 (lc r) (mk I J) i = true) = (0 ≤ i ∧ i.toNatClampNeg < ln r) := by
  obtain ⟨-, -, -, h4, h5, -⟩ := isLn_of hr
  refine mk_okr ?_ (by omega)
  simp [h4, h5, ln]
theorem ln_al (hr : isLn r = true) (I : mx_I) (J : mx_J) : mx_alen (mk I J) (lc r) = ln r := by
  obtain ⟨-, -, -, h4, h5, -⟩ := isLn_of hr
  unfold mx_alen ln
  rw [if_neg (by omega)]
theorem ln_ia (hr : isLn r = true) (I : mx_I) (J : mx_J) : (mx_isarr (lc r) (mk I J) = true) = True := by
  obtain ⟨-, -, -, h4, h5, -⟩ := isLn_of hr
  simp [mx_isarr, mk, h4, h5]
end LNF
/-- in Int32: toInt of a small number -/
theorem tn_c (x : Int32) : x.toNatClampNeg = x.toInt.toNat := rfl
theorem in_rng {i : Int32} {n : Nat} (hn : n < 2 ^ 31) (h1 : ¬ i < 0) (h2 : ¬ nI n ≤ i) : 0 ≤ i ∧ i.toNatClampNeg < n := by
  rw [Int32.lt_iff_toInt_lt] at h1
  rw [Int32.le_iff_toInt_le, nI_toInt hn] at h2
  rw [Int32.le_iff_toInt_le, tn_c]
  have : (0 : Int32).toInt = 0 := rfl
  omega
theorem nI_rng {k n : Nat} (hk : k < n) (hn : n ≤ 2 ^ 31) : 0 ≤ nI k ∧ (nI k).toNatClampNeg < n := by
  rw [nI_clamp (by omega)]
  exact ⟨nI_pos' (by omega), hk⟩
def at_ (I : mx_I) (r : Nat) (i : Int32) : Int32 := if i < 0 then 0 else if nI (ln r) ≤ i then 0 else I (lc r) i.toNatClampNeg
theorem at_nI {I : mx_I} {r k : Nat} (hk : k < ln r) (hn : ln r ≤ 4096) : at_ I r (nI k) = I (lc r) k := by
  unfold at_
  rw [if_neg (nI_pos (by omega)), if_neg (nI_ge hk (by omega)), nI_clamp (by omega)]
theorem q_Line_at {d r : Nat} (hr : isLn r = true) (I : mx_I) (J : mx_J) (i : Int32) : mx_Cal mx_tab (d + 1) 4 [.ref r, .int i] (mk I J) (some (.int (at_ I r i))) (mk I J) := by
  refine mx_Cal_in (ls := [some (.ref r), some (.int i)]) tab_4 (by rw [mx_rcv, ln_oc hr]; trivial) (Nat.le_of_ble_eq_true rfl) rfl ?_
  simp only [x_Line_at_0, x_Line_at_1, x_Line_at_4, x_Line_at_5, x_Line_at_6, x_Line_at_9, x_Line_at_10, x_Line_at_13, x_Line_at_14, x_Line_at_17, x_Line_at_18, x_Line_at_19, x_Line_at_22, x_Line_at_23, mk_I, mk_J, mk_Q, mk_n, mk_sI, mk_sJ, Option.toList_some, Option.toList_none, List.cons_append, List.nil_append, true_and, and_true, ln_oc hr, ln_rt hr, ln_or hr, ln_al hr, ln_ia hr]
  have hn := (isLn_of hr).2.2.2.2.2
  unfold at_
  by_cases h1 : i < 0
  · simp [h1]
  · by_cases h2 : nI (ln r) ≤ i
    · simp [h1, h2]
    · have h3 := in_rng (by omega) h1 h2
      simp [h1, h2, h3]
theorem ups_same {α : Type} (f : Nat → Nat → α) (a k : Nat) (x : α) : mx_ups f a k x a k = x := by simp [mx_ups]
theorem ups_k {α : Type} (f : Nat → Nat → α) {a k j : Nat} (x : α) (h : j ≠ k) : mx_ups f a k x a j = f a j := by simp [mx_ups, h]
theorem ups_a {α : Type} (f : Nat → Nat → α) {a b : Nat} (k j : Nat) (x : α) (h : b ≠ a) : mx_ups f a k x b j = f b j := by simp [mx_ups, h]
theorem row_same {α : Type} (f : Nat → Nat → α) (a : Nat) (g : Nat → α) : mx_row f a g a = g := by simp [mx_row]
theorem row_a {α : Type} (f : Nat → Nat → α) {a b : Nat} (g : Nat → α) (h : b ≠ a) : mx_row f a g b = f b := by simp [mx_row, h]
theorem ln_ne {r q : Nat} (hr : isLn r = true) (hq : isLn q = true) : r ≠ lc q := by
  intro h
  have h1 := (isLn_of hr).1
  have h2 := (isLn_of hq).2.2.2.2.1
  rw [h] at h1
  omega
theorem q_Line_hasRoom {d r : Nat} (hr : isLn r = true) (I : mx_I) (J : mx_J) (n : Int32) : mx_Cal mx_tab (d + 1) 2 [.ref r, .int n] (mk I J) (some (.int (if nI (ln r) - I r 1 < n then 0 else 1))) (mk I J) := by
  refine mx_Cal_in (ls := [some (.ref r), some (.int n)]) tab_2 (by rw [mx_rcv, ln_oc hr]; trivial) (Nat.le_of_ble_eq_true rfl) rfl ?_
  simp only [x_Line_hasRoom_0, x_Line_hasRoom_1, x_Line_hasRoom_2, x_Line_hasRoom_5, x_Line_hasRoom_6, x_Line_hasRoom_7, x_Line_hasRoom_10, x_Line_hasRoom_11, x_Line_hasRoom_14, x_Line_hasRoom_15, x_Line_hasRoom_18, x_Line_hasRoom_19, mk_I, mk_J, mk_Q, mk_n, mk_sI, mk_sJ, Option.toList_some, Option.toList_none, List.cons_append, List.nil_append, true_and, and_true, ln_oc hr, ln_rt hr, ln_or hr, ln_al hr, ln_ia hr]
  by_cases h1 : nI (ln r) - I r 1 < n <;> simp [h1]
theorem q_Line_spans {d r : Nat} (hr : isLn r = true) (I : mx_I) (J : mx_J) (f n : Int32) : mx_Cal mx_tab (d + 1) 3 [.ref r, .int f, .int n] (mk I J) (some (.int (if f < 0 ∨ n < 0 ∨ I r 1 < n ∨ I r 1 - n < f then 0 else 1))) (mk I J) := by
  refine mx_Cal_in (ls := [some (.ref r), some (.int f), some (.int n)]) tab_3 (by rw [mx_rcv, ln_oc hr]; trivial) (Nat.le_of_ble_eq_true rfl) rfl ?_
  simp only [x_Line_spans_0, x_Line_spans_1, x_Line_spans_4, x_Line_spans_5, x_Line_spans_8, x_Line_spans_9, x_Line_spans_10, x_Line_spans_13, x_Line_spans_16, x_Line_spans_17, x_Line_spans_18, x_Line_spans_21, x_Line_spans_22, x_Line_spans_23, x_Line_spans_26, x_Line_spans_27, x_Line_spans_30, x_Line_spans_31, mk_I, mk_J, mk_Q, mk_n, mk_sI, mk_sJ, Option.toList_some, Option.toList_none, List.cons_append, List.nil_append, true_and, and_true, ln_oc hr, ln_rt hr, ln_or hr, ln_al hr, ln_ia hr]
  by_cases h1 : f < 0
  · simp [h1]
  · by_cases h2 : n < 0
    · simp [h1, h2]
    · by_cases h3 : I r 1 < n
      · simp [h1, h2, h3]
      · by_cases h4 : I r 1 - n < f <;> simp [h1, h2, h3, h4]
theorem q_Line_set {d r : Nat} (hr : isLn r = true) (I : mx_I) (J : mx_J) {k : Nat} (hk : k < ln r) (v : Int32) : mx_Cal mx_tab (d + 1) 5 [.ref r, .int (nI k), .int v] (mk I J) none (mk (mx_ups I (lc r) k v) J) := by
  refine mx_Cal_in (ls := [some (.ref r), some (.int (nI k)), some (.int v)]) tab_5 (by rw [mx_rcv, ln_oc hr]; trivial) (Nat.le_of_ble_eq_true rfl) rfl ?_
  have hn := (isLn_of hr).2.2.2.2.2
  simp only [x_Line_set_0, x_Line_set_1, x_Line_set_4, x_Line_set_5, x_Line_set_6, x_Line_set_9, x_Line_set_10, x_Line_set_13, x_Line_set_14, x_Line_set_17, x_Line_set_18, x_Line_set_19, x_Line_set_20, mk_I, mk_J, mk_Q, mk_n, mk_sI, mk_sJ, Option.toList_some, Option.toList_none, List.cons_append, List.nil_append, true_and, and_true, ln_oc hr, ln_rt hr, ln_oa hr, ln_al hr, ln_ia hr]
  have h3 := nI_rng hk (by omega)
  have h1 : ¬ nI k < 0 := nI_pos (by omega)
  have h2 := nI_ge hk (by omega)
  rw [nI_clamp (by omega)] at h3 ⊢
  simp [h1, h2, h3]
theorem q_Line_append {d r n : Nat} (hr : isLn r = true) (I : mx_I) (J : mx_J) (hs : I r 1 = nI n) (hn : n < ln r) (v : Int32) : mx_Cal mx_tab (d + 1) 6 [.ref r, .int v] (mk I J) none (mk (mx_ups (mx_ups I (lc r) n v) r 1 (nI (n + 1))) J) := by
  refine mx_Cal_in (ls := [some (.ref r), some (.int v)]) tab_6 (by rw [mx_rcv, ln_oc hr]; trivial) (Nat.le_of_ble_eq_true rfl) rfl ?_
  have hl := (isLn_of hr).2.2.2.2.2
  have h3 := nI_rng hn (by omega)
  have h1 : ¬ nI n < 0 := nI_pos (by omega)
  have h2 := nI_ge hn (by omega)
  simp only [x_Line_append_0, x_Line_append_1, x_Line_append_4, x_Line_append_7, x_Line_append_8, x_Line_append_11, x_Line_append_12, x_Line_append_15, x_Line_append_16, x_Line_append_19, x_Line_append_20, x_Line_append_23, x_Line_append_24, x_Line_append_27, x_Line_append_28, x_Line_append_29, x_Line_append_30, x_Line_append_31, x_Line_append_34, x_Line_append_35, x_Line_append_36, x_Line_append_39, mk_I, mk_J, mk_Q, mk_n, mk_sI, mk_sJ, Option.toList_some, Option.toList_none, List.cons_append, List.nil_append, true_and, and_true, ln_oc hr, ln_rt hr, ln_oa hr, ln_al hr, ln_ia hr, hs]
  rw [nI_clamp (by omega)] at h3 ⊢
  rw [ups_a _ _ _ _ (ln_ne hr hr), hs, nI_1]
  simp [h1, h2, h3]
theorem q_Line_last {d r n : Nat} (hr : isLn r = true) (I : mx_I) (J : mx_J) (hs : I r 1 = nI n) (hn : n ≤ ln r) : mx_Cal mx_tab (d + 1) 7 [.ref r] (mk I J) (some (.int (if n = 0 then 0 else I (lc r) (n - 1)))) (mk I J) := by
  refine mx_Cal_in (ls := [some (.ref r)]) tab_7 (by rw [mx_rcv, ln_oc hr]; trivial) (Nat.le_of_ble_eq_true rfl) rfl ?_
  have hl := (isLn_of hr).2.2.2.2.2
  simp only [x_Line_last_0, x_Line_last_1, x_Line_last_4, x_Line_last_7, x_Line_last_8, x_Line_last_11, x_Line_last_12, x_Line_last_15, x_Line_last_16, x_Line_last_19, x_Line_last_20, x_Line_last_23, x_Line_last_24, x_Line_last_27, x_Line_last_28, x_Line_last_29, x_Line_last_30, x_Line_last_33, x_Line_last_34, mk_I, mk_J, mk_Q, mk_n, mk_sI, mk_sJ, Option.toList_some, Option.toList_none, List.cons_append, List.nil_append, true_and, and_true, ln_oc hr, ln_rt hr, ln_or hr, ln_al hr, ln_ia hr, hs]
  cases n with
  | zero => simp [nI_0]
  | succ n =>
    have h1 : ¬ nI (n + 1) ≤ 0 := nI_nle (by omega) (by omega)
    have h2 : ¬ nI (ln r) < nI (n + 1) := nI_nlt hn (by omega)
    have h3 := nI_rng (k := n) (n := ln r) (by omega) (by omega)
    rw [nI_pred]
    rw [nI_clamp (by omega)] at h3 ⊢
    simp [h1, h2, h3]
theorem q_Line_takeLast {d r n : Nat} (hr : isLn r = true) (I : mx_I) (J : mx_J) (hs : I r 1 = nI (n + 1)) (hn : n < ln r) : mx_Cal mx_tab (d + 1) 8 [.ref r] (mk I J) (some (.int (I (lc r) n))) (mk (mx_ups I r 1 (nI n)) J) := by
  refine mx_Cal_in (ls := [some (.ref r)]) tab_8 (by rw [mx_rcv, ln_oc hr]; trivial) (Nat.le_of_ble_eq_true rfl) rfl ?_
  have hl := (isLn_of hr).2.2.2.2.2
  have h1 : ¬ nI (n + 1) ≤ 0 := nI_nle (by omega) (by omega)
  have h2 : ¬ nI (ln r) < nI (n + 1) := nI_nlt hn (by omega)
  have h3 := nI_rng (k := n) (n := ln r) (by omega) (by omega)
  simp only [x_Line_takeLast_0, x_Line_takeLast_1, x_Line_takeLast_4, x_Line_takeLast_7, x_Line_takeLast_8, x_Line_takeLast_11, x_Line_takeLast_12, x_Line_takeLast_15, x_Line_takeLast_16, x_Line_takeLast_19, x_Line_takeLast_20, x_Line_takeLast_21, x_Line_takeLast_22, x_Line_takeLast_23, x_Line_takeLast_26, x_Line_takeLast_27, x_Line_takeLast_28, x_Line_takeLast_31, x_Line_takeLast_32, x_Line_takeLast_35, x_Line_takeLast_36, x_Line_takeLast_39, x_Line_takeLast_40, mk_I, mk_J, mk_Q, mk_n, mk_sI, mk_sJ, Option.toList_some, Option.toList_none, List.cons_append, List.nil_append, true_and, and_true, ln_oc hr, ln_rt hr, ln_or hr, ln_al hr, ln_ia hr, hs, ups_same, nI_pred]
  rw [ups_a _ _ _ _ (Ne.symm (ln_ne hr hr))]
  rw [nI_clamp (by omega)] at h3 ⊢
  simp [h1, h2, h3]
theorem q_Line_takeLast0 {d r : Nat} (hr : isLn r = true) (I : mx_I) (J : mx_J) (hs : I r 1 = 0) : mx_Cal mx_tab (d + 1) 8 [.ref r] (mk I J) (some (.int 0)) (mk I J) := by
  refine mx_Cal_in (ls := [some (.ref r)]) tab_8 (by rw [mx_rcv, ln_oc hr]; trivial) (Nat.le_of_ble_eq_true rfl) rfl ?_
  simp only [x_Line_takeLast_0, x_Line_takeLast_1, x_Line_takeLast_4, x_Line_takeLast_7, x_Line_takeLast_8, x_Line_takeLast_11, x_Line_takeLast_12, x_Line_takeLast_15, x_Line_takeLast_16, x_Line_takeLast_19, x_Line_takeLast_20, x_Line_takeLast_21, x_Line_takeLast_22, x_Line_takeLast_23, x_Line_takeLast_26, x_Line_takeLast_27, x_Line_takeLast_28, x_Line_takeLast_31, x_Line_takeLast_32, x_Line_takeLast_35, x_Line_takeLast_36, x_Line_takeLast_39, x_Line_takeLast_40, mk_I, mk_J, mk_Q, mk_n, mk_sI, mk_sJ, Option.toList_some, Option.toList_none, List.cons_append, List.nil_append, true_and, and_true, ln_oc hr, ln_rt hr, ln_or hr, ln_al hr, ln_ia hr, hs]
  simp
theorem q_Line_clear {d r : Nat} (hr : isLn r = true) (I : mx_I) (J : mx_J) : mx_Cal mx_tab (d + 1) 9 [.ref r] (mk I J) none (mk (mx_ups I r 1 0) J) := by
  refine mx_Cal_in (ls := [some (.ref r)]) tab_9 (by rw [mx_rcv, ln_oc hr]; trivial) (Nat.le_of_ble_eq_true rfl) rfl ?_
  simp only [x_Line_clear_0, x_Line_clear_1, x_Line_clear_2, x_Line_clear_5, mk_I, mk_J, mk_Q, mk_n, mk_sI, mk_sJ, Option.toList_some, Option.toList_none, List.cons_append, List.nil_append, true_and, and_true, ln_oc hr, ln_rt hr, ln_or hr, ln_al hr, ln_ia hr]
theorem l_Line_takeFrom {d r q : Nat} (hr : isLn r = true) (hq : isLn q = true) (hc : lc q ≠ lc r) (hl : ln q = ln r) (J : mx_J) (P : mx_P) : ∀ (k i : Nat) (I : mx_I), i + k = ln r → mx_R k_Line_takeFrom (mx_Cal mx_tab (d + 1)) 2 [some (.ref r), some (.ref q), some (.int (nI i))] [] (mk I J) P = mx_R k_Line_takeFrom (mx_Cal mx_tab (d + 1)) 28 [some (.ref r), some (.ref q), some (.int (nI (ln r)))] [] (mk (mx_row I (lc r) (fun j => if i ≤ j ∧ j < ln r then I (lc q) j else I (lc r) j)) J) P
  | 0, i, I, h => by
    have hn := (isLn_of hr).2.2.2.2.2
    have e : mx_row I (lc r) (fun j => if i ≤ j ∧ j < ln r then I (lc q) j else I (lc r) j) = I := by
      funext b j
      unfold mx_row
      by_cases hb : b = lc r
      · rw [if_pos hb, if_neg (by omega), hb]
      · rw [if_neg hb]
    rw [e, x_Line_takeFrom_2]
    simp only [x_Line_takeFrom_0, x_Line_takeFrom_1, x_Line_takeFrom_3, x_Line_takeFrom_4, x_Line_takeFrom_7, x_Line_takeFrom_8, x_Line_takeFrom_11, x_Line_takeFrom_12, x_Line_takeFrom_15, x_Line_takeFrom_16, x_Line_takeFrom_17, x_Line_takeFrom_18, x_Line_takeFrom_21, x_Line_takeFrom_22, x_Line_takeFrom_25, x_Line_takeFrom_29, x_Line_takeFrom_30, x_Line_takeFrom_33, x_Line_takeFrom_34, x_Line_takeFrom_37, x_Line_takeFrom_38, x_Line_takeFrom_41, x_Line_takeFrom_44, mk_I, mk_J, mk_Q, mk_n, mk_sI, mk_sJ, Option.toList_some, Option.toList_none, List.cons_append, List.nil_append, true_and, and_true, ln_oc hr, ln_rt hr, ln_al hr, ln_ia hr]
    have hi : i = ln r := by omega
    rw [if_pos (nI_le (by omega) (by omega)), hi]
  | k + 1, i, I, h => by
    have hn := (isLn_of hr).2.2.2.2.2
    rw [x_Line_takeFrom_2]
    simp only [x_Line_takeFrom_0, x_Line_takeFrom_1, x_Line_takeFrom_3, x_Line_takeFrom_4, x_Line_takeFrom_7, x_Line_takeFrom_8, x_Line_takeFrom_11, x_Line_takeFrom_12, x_Line_takeFrom_15, x_Line_takeFrom_16, x_Line_takeFrom_17, x_Line_takeFrom_18, x_Line_takeFrom_21, x_Line_takeFrom_22, x_Line_takeFrom_25, x_Line_takeFrom_29, x_Line_takeFrom_30, x_Line_takeFrom_33, x_Line_takeFrom_34, x_Line_takeFrom_37, x_Line_takeFrom_38, x_Line_takeFrom_41, x_Line_takeFrom_44, mk_I, mk_J, mk_Q, mk_n, mk_sI, mk_sJ, Option.toList_some, Option.toList_none, List.cons_append, List.nil_append, true_and, and_true, ln_oc hr, ln_rt hr, ln_al hr, ln_ia hr, ln_oa hr, mx_call (q_Line_at hq I J (nI i)) (Nat.le_refl (d + 1)), nI_1]
    rw [if_neg (nI_ge (by omega) (by omega)), at_nI (by omega) (by omega), nI_clamp (by omega), l_Line_takeFrom hr hq hc hl J P k (i + 1) _ (by omega)]
    have e : mx_row (mx_ups I (lc r) i (I (lc q) i)) (lc r) (fun j => if i + 1 ≤ j ∧ j < ln r then (mx_ups I (lc r) i (I (lc q) i)) (lc q) j else (mx_ups I (lc r) i (I (lc q) i)) (lc r) j) = mx_row I (lc r) (fun j => if i ≤ j ∧ j < ln r then I (lc q) j else I (lc r) j) := by
      funext b j
      unfold mx_row
      by_cases hb : b = lc r
      · rw [if_pos hb, if_pos hb]
        rw [ups_a _ _ _ _ hc]
        by_cases hj : j = i
        · subst hj
          rw [if_neg (by omega), ups_same, if_pos (by omega)]
        · rw [ups_k _ _ hj]
          by_cases h2 : i + 1 ≤ j ∧ j < ln r
          · rw [if_pos h2, if_pos (by omega)]
          · rw [if_neg h2, if_neg (by omega)]
      · rw [if_neg hb, if_neg hb, ups_a _ _ _ _ hb]
    rw [e]
    exact propext ⟨fun q => q.2, fun q => ⟨⟨nI_pos' (by omega), by omega⟩, q⟩⟩
def cpL (I : mx_I) (r q : Nat) : mx_I := mx_ups (mx_row I (lc r) (fun j => if j < ln r then I (lc q) j else I (lc r) j)) r 1 (I q 1)
theorem q_Line_takeFrom {d r q m : Nat} (hr : isLn r = true) (hq : isLn q = true) (hc : lc q ≠ lc r) (hl : ln q = ln r) (I : mx_I) (J : mx_J) (hm : I q 1 = nI m) (hml : m ≤ ln q) : mx_Cal mx_tab (d + 2) 10 [.ref r, .ref q] (mk I J) none (mk (cpL I r q) J) := by
  refine mx_Cal_in (ls := [some (.ref r), some (.ref q), none]) tab_10 (by rw [mx_rcv, ln_oc hr]; trivial) (Nat.le_of_ble_eq_true rfl) rfl ?_
  have hn := (isLn_of hr).2.2.2.2.2
  rw [x_Line_takeFrom_0, x_Line_takeFrom_1, ← nI_0, l_Line_takeFrom hr hq hc hl J _ (ln r) 0 I (by omega)]
  simp only [x_Line_takeFrom_0, x_Line_takeFrom_1, x_Line_takeFrom_3, x_Line_takeFrom_4, x_Line_takeFrom_7, x_Line_takeFrom_8, x_Line_takeFrom_11, x_Line_takeFrom_12, x_Line_takeFrom_15, x_Line_takeFrom_16, x_Line_takeFrom_17, x_Line_takeFrom_18, x_Line_takeFrom_21, x_Line_takeFrom_22, x_Line_takeFrom_25, x_Line_takeFrom_28, x_Line_takeFrom_29, x_Line_takeFrom_30, x_Line_takeFrom_33, x_Line_takeFrom_34, x_Line_takeFrom_37, x_Line_takeFrom_38, x_Line_takeFrom_41, x_Line_takeFrom_44, mk_I, mk_J, mk_Q, mk_n, mk_sI, mk_sJ, Option.toList_some, Option.toList_none, List.cons_append, List.nil_append, true_and, and_true, ln_oc hr, ln_rt hr, ln_al hr, ln_ia hr, ln_oc hq, row_a _ _ (ln_ne hq hr), Nat.zero_le]
  rw [hm, if_neg (nI_nlt (by omega) (by omega)), ← hm]
  rfl
