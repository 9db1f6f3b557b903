/-! row: which row is liked most -/
def fm : Option (Int × List Nat) → Option (Int × List Nat) → Option (Int × List Nat)
  | none, y => y
  | some a, none => some a
  | some a, some b => if a.1 < b.1 then some b else some a
theorem fm_none (x : Option (Int × List Nat)) : fm x none = x := by cases x <;> rfl
theorem fm_ss (a b : Int × List Nat) : fm (some a) (some b) = if a.1 < b.1 then some b else some a := rfl
theorem fm_assoc (x y z : Option (Int × List Nat)) : fm (fm x y) z = fm x (fm y z) := by
  cases x with
  | none => rfl
  | some a =>
    cases y with
    | none => rfl
    | some b =>
      cases z with
      | none => rw [fm_none, fm_none]
      | some d =>
        by_cases h1 : a.1 < b.1
        · by_cases h2 : b.1 < d.1
          · have h3 : a.1 < d.1 := by omega
            rw [fm_ss a b, if_pos h1, fm_ss b d, if_pos h2, fm_ss a d, if_pos h3]
          · rw [fm_ss a b, if_pos h1, fm_ss b d, if_neg h2, fm_ss a b, if_pos h1]
        · by_cases h2 : b.1 < d.1
          · rw [fm_ss a b, if_neg h1, fm_ss b d, if_pos h2]
          · have h3 : ¬ a.1 < d.1 := by omega
            rw [fm_ss a b, if_neg h1, fm_ss b d, if_neg h2, fm_ss a b, if_neg h1, fm_ss a d, if_neg h3]
def fld (h : Nat → Option (Int × List Nat)) : Nat → Option (Int × List Nat)
  | 0 => none
  | i + 1 => fm (fld h i) (h i)
/-- all rows, one after another: k places are left, U lie already -/
def resN (G : Nat → Nat → Int) (F : Nat → Nat) (n : Nat) : Nat → Nat → List Nat → Int → Option (Int × List Nat)
  | 0, _, pre, acc => some (acc, pre)
  | k + 1, U, pre, acc => fld (fun i => if F i = 0 ∧ U.testBit i = false then resN G F n k (U ||| 2 ^ i) (pre ++ [i]) (acc + G i pre.length) else none) n
def amx (f : Nat → Option Int) : Nat → Option (Nat × Int)
  | 0 => none
  | j + 1 => match f j with
    | none => amx f j
    | some v => match amx f j with
      | none => some (j, v)
      | some p => if p.2 < v then some (j, v) else some p
theorem amx_n {f : Nat → Option Int} {j : Nat} (h : f j = none) : amx f (j + 1) = amx f j := by
  simp only [amx, h]
theorem amx_s0 {f : Nat → Option Int} {j : Nat} {v : Int} (h : f j = some v) (h2 : amx f j = none) : amx f (j + 1) = some (j, v) := by
  simp only [amx, h, h2]
theorem amx_s1 {f : Nat → Option Int} {j : Nat} {v : Int} {p : Nat × Int} (h : f j = some v) (h2 : amx f j = some p) : amx f (j + 1) = if p.2 < v then some (j, v) else some p := by
  simp only [amx, h, h2]
theorem amx_mem {f : Nat → Option Int} : ∀ {j : Nat} {p : Nat × Int}, amx f j = some p → p.1 < j ∧ f p.1 = some p.2
  | 0, p, h => by simp [amx] at h
  | j + 1, p, h => by
    cases hf : f j with
    | none =>
      rw [amx_n hf] at h
      obtain ⟨a, b⟩ := amx_mem h
      exact ⟨by omega, b⟩
    | some v =>
      cases ha : amx f j with
      | none =>
        rw [amx_s0 hf ha] at h
        have h := Option.some.inj h
        subst h
        exact ⟨Nat.lt_succ_self j, hf⟩
      | some q =>
        rw [amx_s1 hf ha] at h
        by_cases hq : q.2 < v
        · rw [if_pos hq] at h
          have h := Option.some.inj h
          subst h
          exact ⟨Nat.lt_succ_self j, hf⟩
        · rw [if_neg hq] at h
          have h := Option.some.inj h
          subst h
          obtain ⟨a, b⟩ := amx_mem ha
          exact ⟨by omega, b⟩
theorem amx_ne {f : Nat → Option Int} {i : Nat} {v : Int} (hf : f i = some v) : ∀ {j : Nat}, i < j → ∃ p, amx f j = some p
  | j + 1, h => by
    by_cases hi : i = j
    · subst hi
      cases ha : amx f i with
      | none => exact ⟨_, amx_s0 hf ha⟩
      | some q =>
        rw [amx_s1 hf ha]
        by_cases hq : q.2 < v
        · exact ⟨_, if_pos hq⟩
        · exact ⟨_, if_neg hq⟩
    · obtain ⟨p, hp⟩ := amx_ne hf (show i < j by omega)
      cases hj : f j with
      | none => exact ⟨p, by rw [amx_n hj]; exact hp⟩
      | some w =>
        rw [amx_s1 hj hp]
        by_cases hq : p.2 < w
        · exact ⟨_, if_pos hq⟩
        · exact ⟨_, if_neg hq⟩
def BV (g : Nat → Nat → Int) (c : Nat) : Nat → Nat → Int
  | 0, _ => 0
  | k + 1, s => match amx (fun j => if s.testBit j = true then some (g j (c - (k + 1)) + BV g c k (s - 2 ^ j)) else none) c with
    | none => 0
    | some p => p.2
def fK (g : Nat → Nat → Int) (c k s : Nat) : Nat → Option Int := fun j => if s.testBit j = true then some (g j (c - (k + 1)) + BV g c k (s - 2 ^ j)) else none
def BN (g : Nat → Nat → Int) (c k s : Nat) : Nat := match amx (fK g c k s) c with
  | none => 0
  | some p => p.1
def pathN (g : Nat → Nat → Int) (c : Nat) : Nat → Nat → List Nat
  | 0, _ => []
  | k + 1, s => BN g c k s :: pathN g c k (s - 2 ^ BN g c k s)
theorem BV_some {g : Nat → Nat → Int} {c k s : Nat} {p : Nat × Int} (h : amx (fK g c k s) c = some p) : BV g c (k + 1) s = p.2 := by
  show (match amx (fK g c k s) c with | none => 0 | some p => p.2) = p.2
  rw [h]
theorem BN_some {g : Nat → Nat → Int} {c k s : Nat} {p : Nat × Int} (h : amx (fK g c k s) c = some p) : BN g c k s = p.1 := by
  unfold BN
  rw [h]
theorem fK_t {g : Nat → Nat → Int} {c k s j : Nat} (h : s.testBit j = true) : fK g c k s j = some (g j (c - (k + 1)) + BV g c k (s - 2 ^ j)) := if_pos h
theorem fK_f {g : Nat → Nat → Int} {c k s j : Nat} (h : ¬ s.testBit j = true) : fK g c k s j = none := if_neg h
theorem s64 : ∀ s, s < 64 → ∀ j, j < 6 → s.testBit j = true → pcN (s - 2 ^ j) + 1 = pcN s ∧ s - 2 ^ j < s ∧ s &&& (511 - 2 ^ j) = s - 2 ^ j ∧ ∀ i, i < 6 → (s - 2 ^ j).testBit i = (s.testBit i && decide (i ≠ j)) := by decide +kernel
theorem p64 {c : Nat} (hc : c ≤ 6) : 2 ^ c ≤ 64 := Nat.pow_le_pow_right (n := 2) (by omega) hc
theorem s_bit {s c k : Nat} (hc : c ≤ 6) (hs : s < 2 ^ c) (hk : pcN s = k + 1) : ∃ j, j < c ∧ s.testBit j = true := by
  have h64 := p64 hc
  refine Classical.byContradiction fun hn => ?_
  have : s = 0 := eq512 (by omega) (by omega) (fun j _ => by
    rw [Nat.zero_testBit]
    cases h : s.testBit j with
    | false => rfl
    | true => exact absurd ⟨j, tb_n hs h, h⟩ hn)
  subst this
  have z : pcN 0 = 0 := by decide
  omega
theorem BN_ok {g : Nat → Nat → Int} {c k s : Nat} (hc : c ≤ 6) (hs : s < 2 ^ c) (hk : pcN s = k + 1) : ∃ p : Nat × Int, amx (fK g c k s) c = some p ∧ p.1 < c ∧ s.testBit p.1 = true ∧ p.2 = g p.1 (c - (k + 1)) + BV g c k (s - 2 ^ p.1) := by
  obtain ⟨j, hj, hb⟩ := s_bit hc hs hk
  obtain ⟨p, hp⟩ := amx_ne (fK_t (g := g) (c := c) (k := k) hb) hj
  obtain ⟨h1, h2⟩ := amx_mem hp
  refine ⟨p, hp, h1, ?_⟩
  by_cases hb2 : s.testBit p.1 = true
  · rw [fK_t hb2] at h2
    exact ⟨hb2, (Option.some.inj h2).symm⟩
  · rw [fK_f hb2] at h2
    exact absurd h2 (by simp)
theorem BV_le {g : Nat → Nat → Int} {c : Nat} (hg : ∀ j p, -99 ≤ g j p ∧ g j p ≤ 99) : ∀ k s : Nat, -(99 * (k : Int)) ≤ BV g c k s ∧ BV g c k s ≤ 99 * (k : Int)
  | 0, s => by
    show -(99 * ((0 : Nat) : Int)) ≤ 0 ∧ (0 : Int) ≤ 99 * ((0 : Nat) : Int)
    omega
  | k + 1, s => by
    cases ha : amx (fK g c k s) c with
    | none =>
      have e : BV g c (k + 1) s = 0 := by
        show (match amx (fK g c k s) c with | none => 0 | some p => p.2) = 0
        rw [ha]
      rw [e]
      omega
    | some p =>
      rw [BV_some ha]
      obtain ⟨h1, h2⟩ := amx_mem ha
      by_cases hb2 : s.testBit p.1 = true
      · rw [fK_t hb2] at h2
        have h3 := Option.some.inj h2
        have h4 := BV_le (c := c) hg k (s - 2 ^ p.1)
        have h5 := hg p.1 (c - (k + 1))
        omega
      · rw [fK_f hb2] at h2
        exact absurd h2 (by simp)
/-! those that are left, one after another -/
def cnN (F : Nat → Nat) : Nat → Nat
  | 0 => 0
  | i + 1 => cnN F i + (if F i = 0 then 1 else 0)
def memN (F : Nat → Nat) : Nat → Nat → Nat
  | 0, _ => 0
  | n + 1, j => if F n = 0 ∧ cnN F n = j then n else memN F n j
theorem cnN_mono (F : Nat → Nat) {i : Nat} : ∀ {n : Nat}, i ≤ n → cnN F i ≤ cnN F n
  | 0, h => by
    have : i = 0 := by omega
    subst this
    exact Nat.le_refl _
  | n + 1, h => by
    by_cases hi : i = n + 1
    · subst hi; exact Nat.le_refl _
    · have h1 := cnN_mono F (show i ≤ n by omega)
      show cnN F i ≤ cnN F n + (if F n = 0 then 1 else 0)
      omega
theorem cnN_t {F : Nat → Nat} {i : Nat} (h : F i = 0) : cnN F (i + 1) = cnN F i + 1 := by
  show cnN F i + (if F i = 0 then 1 else 0) = cnN F i + 1
  rw [if_pos h]
theorem cnN_f {F : Nat → Nat} {i : Nat} (h : ¬ F i = 0) : cnN F (i + 1) = cnN F i := by
  show cnN F i + (if F i = 0 then 1 else 0) = cnN F i
  rw [if_neg h, Nat.add_zero]
theorem cnN_lt {F : Nat → Nat} {i n : Nat} (hi : i < n) (h : F i = 0) : cnN F i < cnN F n := by
  have h1 := cnN_mono F (show i + 1 ≤ n by omega)
  rw [cnN_t h] at h1
  omega
theorem memN_cn {F : Nat → Nat} {i : Nat} (h : F i = 0) : ∀ {n : Nat}, i < n → memN F n (cnN F i) = i
  | n + 1, hi => by
    unfold memN
    by_cases hn : i = n
    · subst hn
      rw [if_pos ⟨h, rfl⟩]
    · have hl := cnN_lt (F := F) (show i < n by omega) h
      rw [if_neg (fun q => by omega)]
      exact memN_cn h (by omega)
theorem memN_ok {F : Nat → Nat} : ∀ {n j : Nat}, j < cnN F n → memN F n j < n ∧ F (memN F n j) = 0 ∧ cnN F (memN F n j) = j
  | 0, j, h => absurd h (Nat.not_lt_zero j)
  | n + 1, j, h => by
    unfold memN
    by_cases hq : F n = 0 ∧ cnN F n = j
    · rw [if_pos hq]
      exact ⟨Nat.lt_succ_self n, hq.1, hq.2⟩
    · rw [if_neg hq]
      have hl : j < cnN F n := by
        by_cases hF : F n = 0
        · rw [cnN_t hF] at h
          rcases Nat.lt_or_ge j (cnN F n) with g | g
          · exact g
          · exact absurd ⟨hF, by omega⟩ hq
        · rw [cnN_f hF] at h
          exact h
      obtain ⟨a, b, d⟩ := memN_ok hl
      exact ⟨by omega, b, d⟩
theorem pcN_cnN (F : Nat → Nat) {n : Nat} (h9 : n ≤ 9) : pcN (lfN F n) = cnN F n := by
  have e : ∀ m, sN (fun i => ((lfN F n).testBit i).toNat) m = cnN F (if m ≤ n then m else n) := by
    intro m
    induction m with
    | zero => rw [if_pos (Nat.zero_le n)]; rfl
    | succ m ih =>
      unfold sN
      rw [ih, lfN_bit]
      by_cases h1 : m + 1 ≤ n
      · rw [if_pos h1, if_pos (show m ≤ n by omega)]
        by_cases hF : F m = 0
        · rw [cnN_t hF]
          simp [hF, show m < n by omega]
        · rw [cnN_f hF]
          simp [hF]
      · by_cases h2 : m ≤ n
        · have : m = n := by omega
          rw [if_pos h2, if_neg h1, this]
          simp
        · rw [if_neg h2, if_neg h1]
          simp [show ¬ m < n by omega]
  have h := e 9
  unfold pcN
  rw [h]
  by_cases h2 : 9 ≤ n
  · rw [if_pos h2, show n = 9 by omega]
  · rw [if_neg h2]
theorem res_eq {G : Nat → Nat → Int} {F : Nat → Nat} {n c : Nat} (hc6 : c ≤ 6) (hc : cnN F n = c) : ∀ (k s U : Nat) (pre : List Nat) (acc : Int), s < 2 ^ c → pcN s = k → pre.length + k = c → (∀ j, j < c → U.testBit (memN F n j) = !s.testBit j) → resN G F n k U pre acc = some (acc + BV (fun j p => G (memN F n j) p) c k s, pre ++ (pathN (fun j p => G (memN F n j) p) c k s).map (memN F n))
  | 0, s, U, pre, acc, _, _, _, _ => by
    show some (acc, pre) = some (acc + 0, pre ++ [])
    rw [Int.add_zero, List.append_nil]
  | k + 1, s, U, pre, acc, hs, hk, hl, hU => by
    have h64 := p64 hc6
    have hp : c - (k + 1) = pre.length := by omega
    have key : ∀ i, i ≤ n → fld (fun i => if F i = 0 ∧ U.testBit i = false then resN G F n k (U ||| 2 ^ i) (pre ++ [i]) (acc + G i pre.length) else none) i = (amx (fK (fun j p => G (memN F n j) p) c k s) (cnN F i)).map (fun q => (acc + q.2, pre ++ memN F n q.1 :: (pathN (fun j p => G (memN F n j) p) c k (s - 2 ^ q.1)).map (memN F n))) := by
      intro i
      induction i with
      | zero => intro _; rfl
      | succ i ih =>
        intro hi
        have ih := ih (by omega)
        show fm (fld _ i) (if F i = 0 ∧ U.testBit i = false then resN G F n k (U ||| 2 ^ i) (pre ++ [i]) (acc + G i pre.length) else none) = _
        rw [ih]
        by_cases hF : F i = 0
        · have hm := memN_cn hF (show i < n by omega)
          have hlt := cnN_lt (show i < n by omega) hF
          rw [hc] at hlt
          have hUi := hU _ hlt
          rw [hm] at hUi
          rw [cnN_t hF]
          by_cases hb : s.testBit (cnN F i) = true
          · have hU0 : U.testBit i = false := by rw [hUi, hb]; rfl
            obtain ⟨z1, z2, z3, z4⟩ := s64 s (by omega) (cnN F i) (by omega) hb
            have hrec := res_eq (G := G) hc6 hc k (s - 2 ^ cnN F i) (U ||| 2 ^ i) (pre ++ [i]) (acc + G i pre.length) (by omega) (by omega) (by rw [List.length_append]; show pre.length + 1 + k = c; omega) (fun j hj => by
              rw [Nat.testBit_or, hU j hj, z4 j (by omega), Nat.testBit_two_pow]
              by_cases hj2 : j = cnN F i
              · subst hj2
                rw [hm]
                simp
              · have : i ≠ memN F n j := fun q => by
                  have := (memN_ok (F := F) (n := n) (j := j) (by omega)).2.2
                  rw [← q] at this
                  exact hj2 this.symm
                simp [this, hj2])
            rw [if_pos ⟨hF, hU0⟩, hrec]
            have ef := fK_t (g := fun j p => G (memN F n j) p) (c := c) (k := k) hb
            rw [hp, hm] at ef
            cases ha : amx (fK (fun j p => G (memN F n j) p) c k s) (cnN F i) with
            | none =>
              rw [amx_s0 ef ha]
              show some _ = some (acc + (G i pre.length + _), pre ++ memN F n (cnN F i) :: _)
              rw [hm, Int.add_assoc, List.append_assoc]
              rfl
            | some q =>
              rw [amx_s1 ef ha]
              show (if acc + q.2 < acc + G i pre.length + _ then some _ else some _) = _
              by_cases hq : q.2 < G i pre.length + BV (fun j p => G (memN F n j) p) c k (s - 2 ^ cnN F i)
              · rw [if_pos hq, if_pos (by omega)]
                show some _ = some (acc + (G i pre.length + _), pre ++ memN F n (cnN F i) :: _)
                rw [hm, Int.add_assoc, List.append_assoc]
                rfl
              · rw [if_neg hq, if_neg (by omega)]
                rfl
          · have ef := fK_f (g := fun j p => G (memN F n j) p) (c := c) (k := k) hb
            rw [amx_n ef, if_neg (fun q => by rw [hUi] at q; simp [hb] at q), fm_none]
        · rw [cnN_f hF, if_neg (fun q => hF q.1), fm_none]
    show fld _ n = _
    rw [key n (Nat.le_refl n), hc]
    obtain ⟨p, a1, a2, a3, a4⟩ := BN_ok (g := fun j p => G (memN F n j) p) hc6 hs hk
    rw [a1, BV_some a1]
    show some _ = some (_, pre ++ (BN _ c k s :: pathN _ c k (s - 2 ^ BN _ c k s)).map (memN F n))
    rw [BN_some a1]
    rfl
