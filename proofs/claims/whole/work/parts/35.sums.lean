/-! sums of Int32 -/
def sm (f : Nat → Int32) : Nat → Int32
  | 0 => 0
  | n + 1 => sm f n + f n
theorem sm_congr {f g : Nat → Int32} : ∀ {n : Nat}, (∀ i, i < n → f i = g i) → sm f n = sm g n
  | 0, _ => rfl
  | n + 1, h => by
    unfold sm
    rw [sm_congr (fun i hi => h i (by omega)), h n (by omega)]
theorem sm_add (f g : Nat → Int32) : ∀ n, sm (fun i => f i + g i) n = sm f n + sm g n
  | 0 => by simp [sm]
  | n + 1 => by
    unfold sm
    rw [sm_add f g n]
    ac_rfl
theorem sm_zero : ∀ n, sm (fun _ => 0) n = 0
  | 0 => rfl
  | n + 1 => by unfold sm; rw [sm_zero n]; simp
theorem sm_one (f : Nat → Int32) (k : Nat) : ∀ n, sm (fun i => if i = k then f i else 0) n = if k < n then f k else 0
  | 0 => rfl
  | n + 1 => by
    unfold sm
    rw [sm_one f k n]
    by_cases h : n = k
    · subst h
      rw [if_neg (Nat.lt_irrefl _), if_pos rfl, if_pos (Nat.lt_succ_self _)]
      simp
    · rw [if_neg h]
      by_cases h2 : k < n
      · rw [if_pos h2, if_pos (by omega)]; simp
      · rw [if_neg h2, if_neg (by omega)]; simp
theorem sm_swap (F : Nat → Nat → Int32) (m : Nat) : ∀ n, sm (fun p => sm (fun i => F p i) m) n = sm (fun i => sm (fun p => F p i) n) m
  | 0 => by
    show (0 : Int32) = _
    exact (sm_zero m).symm
  | n + 1 => by
    show sm (fun p => sm (fun i => F p i) m) n + sm (fun i => F n i) m = _
    rw [sm_swap F m n, ← sm_add]
    rfl
theorem sm_perm {n : Nat} {pl od : Nat → Nat} (h : OrdR n pl od) (c : Nat → Bool) (g : Nat → Int32) : sm (fun p => if c p = true then g (od p) else 0) n = sm (fun i => if c (pl i) = true then g i else 0) n := by
  have e1 : sm (fun p => if c p = true then g (od p) else 0) n = sm (fun p => sm (fun i => if i = od p then (if c p = true then g i else 0) else 0) n) n :=
    sm_congr fun p hp => by
      rw [sm_one (fun i => if c p = true then g i else 0), if_pos (h.2 p hp).1]
  have e2 : sm (fun p => sm (fun i => if i = od p then (if c p = true then g i else 0) else 0) n) n = sm (fun p => sm (fun i => if p = pl i then (if c p = true then g i else 0) else 0) n) n :=
    sm_congr fun p hp => sm_congr fun i hi => by
      by_cases q : i = od p
      · rw [if_pos q, if_pos (show p = pl i by rw [q, (h.2 p hp).2])]
      · rw [if_neg q, if_neg (fun z : p = pl i => q (by rw [z, (h.1 i hi).2]))]
  rw [e1, e2, sm_swap]
  exact sm_congr fun i hi => by
    rw [sm_one (fun p => if c p = true then g i else 0), if_pos (h.1 i hi).1]
theorem minF (a b : Int32) : (if b < a then b else a) = if a < b then a else b := by
  by_cases h1 : b < a
  · rw [if_pos h1, if_neg (by rw [Int32.lt_iff_toInt_lt] at *; omega)]
  · by_cases h2 : a < b
    · rw [if_neg h1, if_pos h2]
    · rw [if_neg h1, if_neg h2]
      rw [Int32.lt_iff_toInt_lt] at *
      exact Int32.toInt_inj.mp (by omega)
def leastF (k m t : Int32) : Int32 := if k = 1 then (if t < 10 * m then t else 10 * m) else if k = 2 then 30 else if k = 3 then t + m else if k = 4 then 0 else if k = 5 then 30 - m else if k = 6 then t + m + 40 else t
def mostF (k m t : Int32) : Int32 := if k = 2 then 90 else if k = 3 then t + 4 * m else if k = 5 then 90 + 10 * m else if k = 6 then t + 4 * m + 40 else t
/-- LEAST, MOST of the i-th item as the class has it -/
def cL (I : mx_I) (i : Nat) : Int32 := leastF (I 4 i) (I 6 i) (I 8 i)
def cM (I : mx_I) (i : Nat) : Int32 := mostF (I 4 i) (I 6 i) (I 8 i)
theorem q_Items_least {d k : Nat} (I : mx_I) (J : mx_J) (hk : k < 9) : mx_Cal mx_tab (d + 2) 19 [.ref 2, .int (nI k)] (mk I J) (some (.int (cL I k))) (mk I J) := by
  refine mx_Cal_in (ls := [some (.ref 2), some (.int (nI k)), none, none]) tab_19 (by rw [mx_rcv, oc_2]; trivial) (Nat.le_of_ble_eq_true rfl) rfl ?_
  simp only [x_Items_least_0, x_Items_least_1, x_Items_least_4, x_Items_least_5, x_Items_least_8, x_Items_least_9, x_Items_least_10, x_Items_least_13, x_Items_least_14, x_Items_least_17, x_Items_least_18, x_Items_least_19, x_Items_least_22, x_Items_least_23, x_Items_least_26, x_Items_least_64, x_Items_least_65, x_Items_least_67, x_Items_least_68, x_Items_least_69, x_Items_least_72, x_Items_least_73, x_Items_least_75, x_Items_least_76, x_Items_least_77, x_Items_least_78, x_Items_least_79, x_Items_least_80, x_Items_least_81, x_Items_least_82, x_Items_least_84, x_Items_least_85, x_Items_least_86, x_Items_least_87, x_Items_least_88, x_Items_least_89, x_Items_least_90, x_Items_least_92, x_Items_least_93, x_Items_least_94, x_Items_least_95, mk_I, mk_J, mk_Q, mk_n, mk_sI, mk_sJ, Option.toList_some, Option.toList_none, List.cons_append, List.nil_append, true_and, and_true, oc_2, rt_2_1, rt_2_2, rt_2_3, rt_2_4, rt_2_5, mx_call (q_Line_at L3 _ _ _) (Nat.le_add_left 1 d), mx_call (q_Line_at L5 _ _ _) (Nat.le_add_left 1 d), mx_call (q_Line_at L7 _ _ _) (Nat.le_add_left 1 d), at3 I hk, at5 I hk, at7 I hk, cL, leastF, minF]
  repeat' split
  all_goals simp_all
theorem q_Items_most {d k : Nat} (I : mx_I) (J : mx_J) (hk : k < 9) : mx_Cal mx_tab (d + 2) 20 [.ref 2, .int (nI k)] (mk I J) (some (.int (cM I k))) (mk I J) := by
  refine mx_Cal_in (ls := [some (.ref 2), some (.int (nI k)), none, none]) tab_20 (by rw [mx_rcv, oc_2]; trivial) (Nat.le_of_ble_eq_true rfl) rfl ?_
  simp only [x_Items_most_0, x_Items_most_1, x_Items_most_4, x_Items_most_5, x_Items_most_8, x_Items_most_9, x_Items_most_10, x_Items_most_13, x_Items_most_14, x_Items_most_17, x_Items_most_18, x_Items_most_19, x_Items_most_22, x_Items_most_23, x_Items_most_26, x_Items_most_60, x_Items_most_62, x_Items_most_63, x_Items_most_64, x_Items_most_65, x_Items_most_66, x_Items_most_67, x_Items_most_68, x_Items_most_69, x_Items_most_71, x_Items_most_73, x_Items_most_74, x_Items_most_75, x_Items_most_76, x_Items_most_77, x_Items_most_78, x_Items_most_79, x_Items_most_80, x_Items_most_81, x_Items_most_82, x_Items_most_84, x_Items_most_85, x_Items_most_86, x_Items_most_87, mk_I, mk_J, mk_Q, mk_n, mk_sI, mk_sJ, Option.toList_some, Option.toList_none, List.cons_append, List.nil_append, true_and, and_true, oc_2, rt_2_1, rt_2_2, rt_2_3, rt_2_4, rt_2_5, mx_call (q_Line_at L3 _ _ _) (Nat.le_add_left 1 d), mx_call (q_Line_at L5 _ _ _) (Nat.le_add_left 1 d), mx_call (q_Line_at L7 _ _ _) (Nat.le_add_left 1 d), at3 I hk, at5 I hk, at7 I hk, cM, mostF]
  repeat' split
  all_goals simp_all
