/-! text: the class's reader -/
theorem gxL {α : Type} {L1 L2 : List α} {z : α} {j : Nat} (h : j < L1.length) : (L1 ++ L2).getD j z = L1.getD j z := by
  rw [List.getD_eq_getElem?_getD, List.getD_eq_getElem?_getD, List.getElem?_append_left h]
theorem gxR {α : Type} {L1 : List α} {b z : α} : (L1 ++ [b]).getD L1.length z = b := by
  rw [List.getD_eq_getElem?_getD, List.getElem?_append_right (Nat.le_refl _), Nat.sub_self]
  rfl
def RvR (I : mx_I) (P : List Nat) : Prop := I 58 1 = nI P.length ∧ ∀ j, j < P.length → I 59 j = nI (P.reverse.getD j 0)
def CdR (I : mx_I) (C : List Int) : Prop := I 56 1 = nI C.length ∧ ∀ j, j < C.length → I 57 j = Int32.ofInt (C.getD j 0)
def cnO : List Nat → Nat
  | [] => 0
  | s :: P => (if s = 33 ∨ s = 40 then 1 else 0) + cnO P
def okP (P : List Nat) : Prop := ∀ s, s ∈ P → s < 256 ∧ (s = 40 ∨ 1 ≤ pr_rank s)
/-- the reader's cells at q -/
def RdS (I : mx_I) (q : pr_S) : Prop := I 55 2 = (if q.1 = true then 1 else 0) ∧ RvR I q.2.1 ∧ CdR I q.2.2.1 ∧ I 55 3 = nI q.2.2.2.1 ∧ I 55 4 = nI q.2.2.2.2
def RdI (k : Nat) (q : pr_S) : Prop := q.2.1.length + q.2.2.1.length ≤ k ∧ okP q.2.1 ∧ cnO q.2.1 = q.2.2.2.1 ∧ q.2.2.2.2 ≤ 4
def FrR (I I' : mx_I) : Prop := ∀ a j, ¬ (55 ≤ a ∧ a ≤ 59) → I' a j = I a j
theorem FrR.trans {I I1 I2 : mx_I} (h1 : FrR I I1) (h2 : FrR I1 I2) : FrR I I2 := fun a j q => (h2 a j q).trans (h1 a j q)
theorem FrR.up {I : mx_I} {a j : Nat} (v : Int32) (h : 55 ≤ a ∧ a ≤ 59) : FrR I (mx_ups I a j v) := fun b k q => ups_ne _ _ (by omega)
theorem RvR.congr {I I' : mx_I} {P : List Nat} (h : RvR I P) (e : ∀ a j, (a = 58 ∧ j = 1) ∨ a = 59 → I' a j = I a j) : RvR I' P := ⟨(e _ _ (by omega)).trans h.1, fun j hj => (e _ _ (by omega)).trans (h.2 j hj)⟩
theorem CdR.congr {I I' : mx_I} {C : List Int} (h : CdR I C) (e : ∀ a j, (a = 56 ∧ j = 1) ∨ a = 57 → I' a j = I a j) : CdR I' C := ⟨(e _ _ (by omega)).trans h.1, fun j hj => (e _ _ (by omega)).trans (h.2 j hj)⟩
theorem CdR.app {I : mx_I} {C : List Int} (h : CdR I C) {v : Int32} {z : Int} (hv : v = Int32.ofInt z) : CdR (mx_ups (mx_ups I 57 C.length v) 56 1 (nI (C.length + 1))) (C ++ [z]) := by
  have hl : (C ++ [z]).length = C.length + 1 := by rw [List.length_append]; rfl
  refine ⟨by rw [hl]; exact ups_same _ _ _ _, fun j hj => ?_⟩
  rw [hl] at hj
  rw [ups_ne _ _ (by omega)]
  by_cases q : j = C.length
  · subst q
    rw [ups_same, gxR, hv]
  · rw [ups_ne _ _ (by omega), gxL (by omega)]
    exact h.2 j (by omega)
theorem RvR.app {I : mx_I} {P : List Nat} (h : RvR I P) (c : Nat) : RvR (mx_ups (mx_ups I 59 P.length (nI c)) 58 1 (nI (P.length + 1))) (c :: P) := by
  refine ⟨ups_same _ _ _ _, fun j hj => ?_⟩
  have hj : j < P.length + 1 := hj
  have hr : P.reverse.length = P.length := List.length_reverse
  rw [List.reverse_cons, ups_ne _ _ (by omega)]
  by_cases q : j = P.length
  · subst q
    rw [ups_same, ← hr, gxR]
  · rw [ups_ne _ _ (by omega), gxL (by omega)]
    exact h.2 j (by omega)
theorem RvR.tl {I : mx_I} {s : Nat} {P : List Nat} (h : RvR I (s :: P)) : I 59 P.length = nI s ∧ RvR (mx_ups I 58 1 (nI P.length)) P := by
  have hr : P.reverse.length = P.length := List.length_reverse
  refine ⟨?_, ups_same _ _ _ _, fun j hj => ?_⟩
  · have e := h.2 P.length (Nat.lt_succ_self _)
    rw [List.reverse_cons, ← hr, gxR, hr] at e
    exact e
  · have e := h.2 j (Nat.lt_succ_of_lt hj)
    rw [List.reverse_cons, gxL (by omega)] at e
    rw [ups_ne _ _ (by omega)]
    exact e
theorem L56 : isLn 56 = true := by decide +kernel
theorem L58 : isLn 58 = true := by decide +kernel
theorem q_apC {d k : Nat} (I : mx_I) (J : mx_J) (hk : k < 60) (hs : I 56 1 = nI k) (v : Int32) : mx_Cal mx_tab (d + 1) 6 [.ref 56, .int v] (mk I J) none (mk (mx_ups (mx_ups I 57 k v) 56 1 (nI (k + 1))) J) := q_Line_append L56 I J hs (show k < ln 56 from hk) v
theorem q_apP {d k : Nat} (I : mx_I) (J : mx_J) (hk : k < 60) (hs : I 58 1 = nI k) (v : Int32) : mx_Cal mx_tab (d + 1) 6 [.ref 58, .int v] (mk I J) none (mk (mx_ups (mx_ups I 59 k v) 58 1 (nI (k + 1))) J) := q_Line_append L58 I J hs (show k < ln 58 from hk) v
theorem q_tlC {d k : Nat} (I : mx_I) (J : mx_J) (hk : k < 60) (hs : I 56 1 = nI (k + 1)) : mx_Cal mx_tab (d + 1) 8 [.ref 56] (mk I J) (some (.int (I 57 k))) (mk (mx_ups I 56 1 (nI k)) J) := q_Line_takeLast L56 I J hs (show k < ln 56 from hk)
theorem q_tlC0 {d : Nat} (I : mx_I) (J : mx_J) (hs : I 56 1 = 0) : mx_Cal mx_tab (d + 1) 8 [.ref 56] (mk I J) (some (.int 0)) (mk I J) := q_Line_takeLast0 L56 I J hs
theorem q_tlP {d k : Nat} (I : mx_I) (J : mx_J) (hk : k < 60) (hs : I 58 1 = nI (k + 1)) : mx_Cal mx_tab (d + 1) 8 [.ref 58] (mk I J) (some (.int (I 59 k))) (mk (mx_ups I 58 1 (nI k)) J) := q_Line_takeLast L58 I J hs (show k < ln 58 from hk)
theorem q_laP {d : Nat} {P : List Nat} {I : mx_I} (h : RvR I P) (hl : P.length ≤ 60) (J : mx_J) : mx_Cal mx_tab (d + 1) 7 [.ref 58] (mk I J) (some (.int (nI (P.headD 0)))) (mk I J) := by
  have hq := q_Line_last (d := d) L58 I J h.1 (show P.length ≤ ln 58 from hl)
  cases P with
  | nil => exact hq
  | cons s P =>
    have e : (if (s :: P).length = 0 then (0 : Int32) else I (lc 58) ((s :: P).length - 1)) = nI s := by
      rw [if_neg (by simp)]
      exact h.tl.1
    rw [e] at hq
    exact hq
theorem top_head (P : List Nat) : pr_top P = pr_rank (P.headD 0) := by
  cases P with
  | nil => rfl
  | cons s P => rfl
theorem q_rankOf {d s : Nat} (h : mx_H) (hs : s < 256) : mx_Cal mx_tab (d + 1) 50 [.int (nI s)] h (some (.int (nI (pr_rank s)))) h := by
  refine mx_Cal_in (ls := [some (.int (nI s))]) tab_50 trivial (Nat.le_of_ble_eq_true rfl) rfl ?_
  by_cases e1 : s = 124
  · subst e1; simp (decide := true) only [x_Reader_rankOf_0, x_Reader_rankOf_1, x_Reader_rankOf_100, x_Reader_rankOf_101, x_Reader_rankOf_102, x_Reader_rankOf_103, x_Reader_rankOf_104, x_Reader_rankOf_105, x_Reader_rankOf_106, x_Reader_rankOf_107, x_Reader_rankOf_108, x_Reader_rankOf_109, x_Reader_rankOf_110, x_Reader_rankOf_112, x_Reader_rankOf_113, x_Reader_rankOf_114, if_true, if_false]
  by_cases e2 : s = 38
  · subst e2; simp (decide := true) only [x_Reader_rankOf_0, x_Reader_rankOf_1, x_Reader_rankOf_100, x_Reader_rankOf_101, x_Reader_rankOf_102, x_Reader_rankOf_103, x_Reader_rankOf_104, x_Reader_rankOf_105, x_Reader_rankOf_106, x_Reader_rankOf_107, x_Reader_rankOf_108, x_Reader_rankOf_109, x_Reader_rankOf_110, x_Reader_rankOf_112, x_Reader_rankOf_113, x_Reader_rankOf_114, if_true, if_false]
  by_cases e3 : s = 60
  · subst e3; simp (decide := true) only [x_Reader_rankOf_0, x_Reader_rankOf_1, x_Reader_rankOf_100, x_Reader_rankOf_101, x_Reader_rankOf_102, x_Reader_rankOf_103, x_Reader_rankOf_104, x_Reader_rankOf_105, x_Reader_rankOf_106, x_Reader_rankOf_107, x_Reader_rankOf_108, x_Reader_rankOf_109, x_Reader_rankOf_110, x_Reader_rankOf_112, x_Reader_rankOf_113, x_Reader_rankOf_114, if_true, if_false]
  by_cases e4 : s = 61
  · subst e4; simp (decide := true) only [x_Reader_rankOf_0, x_Reader_rankOf_1, x_Reader_rankOf_100, x_Reader_rankOf_101, x_Reader_rankOf_102, x_Reader_rankOf_103, x_Reader_rankOf_104, x_Reader_rankOf_105, x_Reader_rankOf_106, x_Reader_rankOf_107, x_Reader_rankOf_108, x_Reader_rankOf_109, x_Reader_rankOf_110, x_Reader_rankOf_112, x_Reader_rankOf_113, x_Reader_rankOf_114, if_true, if_false]
  by_cases e5 : s = 62
  · subst e5; simp (decide := true) only [x_Reader_rankOf_0, x_Reader_rankOf_1, x_Reader_rankOf_100, x_Reader_rankOf_101, x_Reader_rankOf_102, x_Reader_rankOf_103, x_Reader_rankOf_104, x_Reader_rankOf_105, x_Reader_rankOf_106, x_Reader_rankOf_107, x_Reader_rankOf_108, x_Reader_rankOf_109, x_Reader_rankOf_110, x_Reader_rankOf_112, x_Reader_rankOf_113, x_Reader_rankOf_114, if_true, if_false]
  by_cases e6 : s = 43
  · subst e6; simp (decide := true) only [x_Reader_rankOf_0, x_Reader_rankOf_1, x_Reader_rankOf_100, x_Reader_rankOf_101, x_Reader_rankOf_102, x_Reader_rankOf_103, x_Reader_rankOf_104, x_Reader_rankOf_105, x_Reader_rankOf_106, x_Reader_rankOf_107, x_Reader_rankOf_108, x_Reader_rankOf_109, x_Reader_rankOf_110, x_Reader_rankOf_112, x_Reader_rankOf_113, x_Reader_rankOf_114, if_true, if_false]
  by_cases e7 : s = 45
  · subst e7; simp (decide := true) only [x_Reader_rankOf_0, x_Reader_rankOf_1, x_Reader_rankOf_100, x_Reader_rankOf_101, x_Reader_rankOf_102, x_Reader_rankOf_103, x_Reader_rankOf_104, x_Reader_rankOf_105, x_Reader_rankOf_106, x_Reader_rankOf_107, x_Reader_rankOf_108, x_Reader_rankOf_109, x_Reader_rankOf_110, x_Reader_rankOf_112, x_Reader_rankOf_113, x_Reader_rankOf_114, if_true, if_false]
  by_cases e8 : s = 42
  · subst e8; simp (decide := true) only [x_Reader_rankOf_0, x_Reader_rankOf_1, x_Reader_rankOf_100, x_Reader_rankOf_101, x_Reader_rankOf_102, x_Reader_rankOf_103, x_Reader_rankOf_104, x_Reader_rankOf_105, x_Reader_rankOf_106, x_Reader_rankOf_107, x_Reader_rankOf_108, x_Reader_rankOf_109, x_Reader_rankOf_110, x_Reader_rankOf_112, x_Reader_rankOf_113, x_Reader_rankOf_114, if_true, if_false]
  by_cases e9 : s = 47
  · subst e9; simp (decide := true) only [x_Reader_rankOf_0, x_Reader_rankOf_1, x_Reader_rankOf_100, x_Reader_rankOf_101, x_Reader_rankOf_102, x_Reader_rankOf_103, x_Reader_rankOf_104, x_Reader_rankOf_105, x_Reader_rankOf_106, x_Reader_rankOf_107, x_Reader_rankOf_108, x_Reader_rankOf_109, x_Reader_rankOf_110, x_Reader_rankOf_112, x_Reader_rankOf_113, x_Reader_rankOf_114, if_true, if_false]
  by_cases e10 : s = 37
  · subst e10; simp (decide := true) only [x_Reader_rankOf_0, x_Reader_rankOf_1, x_Reader_rankOf_100, x_Reader_rankOf_101, x_Reader_rankOf_102, x_Reader_rankOf_103, x_Reader_rankOf_104, x_Reader_rankOf_105, x_Reader_rankOf_106, x_Reader_rankOf_107, x_Reader_rankOf_108, x_Reader_rankOf_109, x_Reader_rankOf_110, x_Reader_rankOf_112, x_Reader_rankOf_113, x_Reader_rankOf_114, if_true, if_false]
  by_cases e11 : s = 33
  · subst e11; simp (decide := true) only [x_Reader_rankOf_0, x_Reader_rankOf_1, x_Reader_rankOf_100, x_Reader_rankOf_101, x_Reader_rankOf_102, x_Reader_rankOf_103, x_Reader_rankOf_104, x_Reader_rankOf_105, x_Reader_rankOf_106, x_Reader_rankOf_107, x_Reader_rankOf_108, x_Reader_rankOf_109, x_Reader_rankOf_110, x_Reader_rankOf_112, x_Reader_rankOf_113, x_Reader_rankOf_114, if_true, if_false]
  have hr0 : pr_rank s = 0 := by
    unfold pr_rank
    rw [if_neg e1, if_neg e2, if_neg (by omega), if_neg (by omega), if_neg (by omega), if_neg e11]
  have n1 : (nI s = 124) = False := eqF (b := 124) e1 (by omega) (by omega)
  have n2 : (nI s = 38) = False := eqF (b := 38) e2 (by omega) (by omega)
  have n3 : (nI s = 60) = False := eqF (b := 60) e3 (by omega) (by omega)
  have n4 : (nI s = 61) = False := eqF (b := 61) e4 (by omega) (by omega)
  have n5 : (nI s = 62) = False := eqF (b := 62) e5 (by omega) (by omega)
  have n6 : (nI s = 43) = False := eqF (b := 43) e6 (by omega) (by omega)
  have n7 : (nI s = 45) = False := eqF (b := 45) e7 (by omega) (by omega)
  have n8 : (nI s = 42) = False := eqF (b := 42) e8 (by omega) (by omega)
  have n9 : (nI s = 47) = False := eqF (b := 47) e9 (by omega) (by omega)
  have n10 : (nI s = 37) = False := eqF (b := 37) e10 (by omega) (by omega)
  have n11 : (nI s = 33) = False := eqF (b := 33) e11 (by omega) (by omega)
  rw [hr0]
  simp only [x_Reader_rankOf_0, x_Reader_rankOf_1, x_Reader_rankOf_100, x_Reader_rankOf_101, x_Reader_rankOf_102, x_Reader_rankOf_103, x_Reader_rankOf_104, x_Reader_rankOf_105, x_Reader_rankOf_106, x_Reader_rankOf_107, x_Reader_rankOf_108, x_Reader_rankOf_109, x_Reader_rankOf_110, x_Reader_rankOf_112, x_Reader_rankOf_113, x_Reader_rankOf_114, if_false, n1, n2, n3, n4, n5, n6, n7, n8, n9, n10, n11]
  exact ⟨by trivial, by trivial⟩
theorem neg_nI (s : Nat) : -(nI s) = Int32.ofInt (-(s : Int)) := by
  rw [Int32.ofInt_neg]
  rfl
theorem settle_ok {r : Nat} (hr : 1 ≤ r) : ∀ (P : List Nat) (C : List Int) (o : Nat), okP P → cnO P = o → cnO (pr_settle r P C o).1 = (pr_settle r P C o).2.2 ∧ (pr_settle r P C o).1.length + (pr_settle r P C o).2.1.length = P.length + C.length ∧ okP (pr_settle r P C o).1 ∧ ∀ s P', (pr_settle r P C o).1 = s :: P' → pr_rank s < r
  | [], C, o, h, hc => ⟨hc, rfl, h, fun s P' e => by cases e⟩
  | s :: P, C, o, h, hc => by
    have hs := h s (List.mem_cons_self ..)
    have hP : okP P := fun t ht => h t (List.mem_cons_of_mem _ ht)
    by_cases hk : r ≤ pr_rank s
    · have h40 : s ≠ 40 := fun q => by subst q; have : pr_rank 40 = 0 := rfl; omega
      have hc : (if s = 33 ∨ s = 40 then 1 else 0) + cnO P = o := hc
      have e : pr_settle r (s :: P) C o = pr_settle r P (C ++ [-(s : Int)]) (if s = 33 then o - 1 else o) := by
        rw [pr_settle, if_pos hk]
      rw [e]
      obtain ⟨a1, a2, a3, a4⟩ := settle_ok hr P (C ++ [-(s : Int)]) (if s = 33 then o - 1 else o) hP (by
        by_cases q : s = 33
        · rw [if_pos q]
          rw [if_pos (Or.inl q)] at hc
          omega
        · rw [if_neg q]
          rw [if_neg (fun z => z.elim q h40)] at hc
          omega)
      refine ⟨a1, ?_, a3, a4⟩
      rw [a2, List.length_append]
      show P.length + (C.length + 1) = P.length + 1 + C.length
      omega
    · have e : pr_settle r (s :: P) C o = (s :: P, C, o) := by rw [pr_settle, if_neg hk]
      rw [e]
      refine ⟨hc, rfl, h, fun t P' q => ?_⟩
      cases q
      omega
theorem l_settle {d r : Nat} (hr1 : 1 ≤ r) (hr : r ≤ 6) (J : mx_J) : ∀ (P : List Nat) (C : List Int) (o : Nat) (I : mx_I) (w : Option Value), RvR I P → CdR I C → I 55 3 = nI o → cnO P = o → okP P → P.length + C.length ≤ 60 → ∃ I', RvR I' (pr_settle r P C o).1 ∧ CdR I' (pr_settle r P C o).2.1 ∧ I' 55 3 = nI (pr_settle r P C o).2.2 ∧ (∀ a j, ¬ (56 ≤ a ∧ a ≤ 59) → ¬ (a = 55 ∧ j = 3) → I' a j = I a j) ∧ ∀ Q : mx_P, Q none (mk I' J) → mx_R k_Reader_settle (mx_Cal mx_tab (d + 1)) 8 [some (.ref 55), some (.int (nI r)), some (.int (nI P.length)), w] [] (mk I J) Q
  | [], C, o, I, w, hP, hC, h3, hc, hok, hl => by
    refine ⟨I, hP, hC, h3, fun _ _ _ _ => rfl, fun Q hQ => ?_⟩
    rw [x_Reader_settle_8]
    simp (disch := omega) only [x_Reader_settle_9, x_Reader_settle_69, show (nI ([] : List Nat).length ≤ 0) = True from by decide, if_true]
    exact hQ
  | s :: P, C, o, I, w, hP, hC, h3, hc, hok, hl => by
    have hs := hok s (List.mem_cons_self ..)
    have hP' : okP P := fun t ht => hok t (List.mem_cons_of_mem _ ht)
    have hl' : P.length + 1 + C.length ≤ 60 := hl
    have hla := q_laP (d := 0) hP (by show P.length + 1 ≤ 60; omega) J
    have hra := q_rankOf (d := 0) (mk I J) hs.1
    have hz : (nI (P.length + 1) ≤ 0) = False := le0F (by omega) (by omega)
    have r256 : pr_rank s ≤ 6 := by
      unfold pr_rank
      repeat' split
      all_goals omega
    by_cases hk : r ≤ pr_rank s
    · have h40 : s ≠ 40 := fun q => by subst q; have : pr_rank 40 = 0 := rfl; omega
      have hc : (if s = 33 ∨ s = 40 then 1 else 0) + cnO P = o := hc
      have e : pr_settle r (s :: P) C o = pr_settle r P (C ++ [-(s : Int)]) (if s = 33 then o - 1 else o) := by
        rw [pr_settle, if_pos hk]
      rw [e]
      obtain ⟨t1, t2⟩ := hP.tl
      have htl := q_tlP (d := 0) I J (show P.length < 60 by omega) hP.1
      rw [t1] at htl
      have hC1 : CdR (mx_ups I 58 1 (nI P.length)) C := hC.congr (fun a j h => ups_ne _ _ (by omega))
      have hap := q_apC (d := 0) (mx_ups I 58 1 (nI P.length)) J (show C.length < 60 by omega) hC1.1 (-(nI s))
      have hC2 := hC1.app (neg_nI s)
      have e2 : nI (P.length + 1) + (-1) = nI P.length := by rw [add_m1, nI_s1]
      have hrk : (nI (pr_rank s) < nI r) = False := ltF hk (by omega)
      have hcn : cnO P = (if s = 33 then o - 1 else o) := by
        by_cases q : s = 33
        · rw [if_pos q]
          rw [if_pos (Or.inl q)] at hc
          omega
        · rw [if_neg q]
          rw [if_neg (fun z => z.elim q h40)] at hc
          omega
      have hlen : P.length + (C ++ [-(s : Int)]).length ≤ 60 := by
        rw [List.length_append]
        show P.length + (C.length + 1) ≤ 60
        omega
      obtain ⟨I', a1, a2, a3, a4, a5⟩ := l_settle hr1 hr J P (C ++ [-(s : Int)]) (if s = 33 then o - 1 else o) (mx_ups (mx_ups (mx_ups (mx_ups I 58 1 (nI P.length)) 57 C.length (-(nI s))) 56 1 (nI (C.length + 1))) 55 3 (nI (if s = 33 then o - 1 else o))) (some (.int (nI s))) (t2.congr (fun a j h => by simp (disch := omega) only [ups_ne])) (hC2.congr (fun a j h => ups_ne _ _ (by omega))) (ups_same _ _ _ _) hcn hP' hlen
      refine ⟨I', a1, a2, a3, fun a j h1 h2 => by rw [a4 a j h1 h2]; simp (disch := omega) only [ups_ne], fun Q hQ => ?_⟩
      have ih := a5 Q hQ
      show mx_R k_Reader_settle (mx_Cal mx_tab (d + 1)) 8 [some (.ref 55), some (.int (nI r)), some (.int (nI (P.length + 1))), w] [] (mk I J) Q
      rw [x_Reader_settle_8]
      by_cases q : s = 33
      · have q' : (nI s = 33) = True := by rw [q]; exact eq_true rfl
        have q'' : (s = 33) = True := eq_true q
        have ho : nI o - 1 = nI (o - 1) := by
          rw [if_pos (Or.inl q)] at hc
          obtain ⟨o1, rfl⟩ : ∃ o1, o = o1 + 1 := ⟨o - 1, by omega⟩
          rw [nI_s1]
          rfl
        simp only [q'', if_true] at ih
        simp (disch := omega) only [x_Reader_settle_9, x_Reader_settle_12, x_Reader_settle_13, x_Reader_settle_16, x_Reader_settle_19, x_Reader_settle_22, x_Reader_settle_23, x_Reader_settle_26, x_Reader_settle_27, x_Reader_settle_30, x_Reader_settle_33, x_Reader_settle_34, x_Reader_settle_35, x_Reader_settle_38, x_Reader_settle_39, x_Reader_settle_40, x_Reader_settle_43, x_Reader_settle_44, x_Reader_settle_45, x_Reader_settle_48, x_Reader_settle_49, x_Reader_settle_51, x_Reader_settle_54, x_Reader_settle_55, x_Reader_settle_58, x_Reader_settle_59, x_Reader_settle_60, x_Reader_settle_63, x_Reader_settle_66, x_Reader_settle_69, mk_I, mk_J, mk_Q, mk_n, mk_sI, mk_sJ, Option.toList_some, Option.toList_none, List.cons_append, List.nil_append, true_and, and_true, ↓reduceIte, leT, leF, ltT, ltF, eqF, lt0F, le0T, le0F, eq0F, natT, nI_clamp, nI_1, if_true, if_false, not_true_eq_false, not_false_eq_true, z_00, z_10, eq_self, true_or, or_true, or_false, false_or, oc_55, rt_55_0, rt_55_1, hz, mx_call hla _, List.headD_cons, mx_call hra _, hrk, mx_call htl _, mx_call hap _, q', ups_ne, h3, ho, e2]
        exact ih
      · have q' : (nI s = 33) = False := eqF (b := 33) q (by omega) (by omega)
        have q'' : (s = 33) = False := eq_false q
        simp only [q'', if_false] at ih
        simp (disch := omega) only [x_Reader_settle_9, x_Reader_settle_12, x_Reader_settle_13, x_Reader_settle_16, x_Reader_settle_19, x_Reader_settle_22, x_Reader_settle_23, x_Reader_settle_26, x_Reader_settle_27, x_Reader_settle_30, x_Reader_settle_33, x_Reader_settle_34, x_Reader_settle_35, x_Reader_settle_38, x_Reader_settle_39, x_Reader_settle_40, x_Reader_settle_43, x_Reader_settle_44, x_Reader_settle_45, x_Reader_settle_48, x_Reader_settle_49, x_Reader_settle_51, x_Reader_settle_54, x_Reader_settle_55, x_Reader_settle_58, x_Reader_settle_59, x_Reader_settle_60, x_Reader_settle_63, x_Reader_settle_66, x_Reader_settle_69, mk_I, mk_J, mk_Q, mk_n, mk_sI, mk_sJ, Option.toList_some, Option.toList_none, List.cons_append, List.nil_append, true_and, and_true, ↓reduceIte, leT, leF, ltT, ltF, eqF, lt0F, le0T, le0F, eq0F, natT, nI_clamp, nI_1, if_true, if_false, not_true_eq_false, not_false_eq_true, z_00, z_10, eq_self, true_or, or_true, or_false, false_or, oc_55, rt_55_0, rt_55_1, hz, mx_call hla _, List.headD_cons, mx_call hra _, hrk, mx_call htl _, mx_call hap _, q', ups_ne, h3, Int32.sub_zero, e2]
        exact ih
    · have e : pr_settle r (s :: P) C o = (s :: P, C, o) := by rw [pr_settle, if_neg hk]
      rw [e]
      have hrk : (nI (pr_rank s) < nI r) = True := ltT (by omega) (by omega)
      refine ⟨I, hP, hC, h3, fun _ _ _ _ => rfl, fun Q hQ => ?_⟩
      show mx_R k_Reader_settle (mx_Cal mx_tab (d + 1)) 8 [some (.ref 55), some (.int (nI r)), some (.int (nI (P.length + 1))), w] [] (mk I J) Q
      rw [x_Reader_settle_8]
      simp (disch := omega) only [x_Reader_settle_9, x_Reader_settle_12, x_Reader_settle_13, x_Reader_settle_16, x_Reader_settle_19, x_Reader_settle_22, x_Reader_settle_23, x_Reader_settle_26, x_Reader_settle_27, x_Reader_settle_30, x_Reader_settle_33, x_Reader_settle_34, x_Reader_settle_35, x_Reader_settle_38, x_Reader_settle_39, x_Reader_settle_40, x_Reader_settle_43, x_Reader_settle_44, x_Reader_settle_45, x_Reader_settle_48, x_Reader_settle_49, x_Reader_settle_51, x_Reader_settle_54, x_Reader_settle_55, x_Reader_settle_58, x_Reader_settle_59, x_Reader_settle_60, x_Reader_settle_63, x_Reader_settle_66, x_Reader_settle_69, mk_I, mk_J, mk_Q, mk_n, mk_sI, mk_sJ, Option.toList_some, Option.toList_none, List.cons_append, List.nil_append, true_and, and_true, ↓reduceIte, leT, leF, ltT, ltF, eqF, lt0F, le0T, le0F, eq0F, natT, nI_clamp, nI_1, if_true, if_false, not_true_eq_false, not_false_eq_true, z_00, z_10, eq_self, true_or, or_true, or_false, false_or, oc_55, rt_55_0, rt_55_1, hz, mx_call hla _, List.headD_cons, mx_call hra _, hrk]
      exact hQ
theorem q_settle {d r : Nat} {P : List Nat} {C : List Int} {o : Nat} {I : mx_I} (hr1 : 1 ≤ r) (hr : r ≤ 6) (J : mx_J) (hP : RvR I P) (hC : CdR I C) (h3 : I 55 3 = nI o) (hc : cnO P = o) (hok : okP P) (hl : P.length + C.length ≤ 60) : ∃ I', RvR I' (pr_settle r P C o).1 ∧ CdR I' (pr_settle r P C o).2.1 ∧ I' 55 3 = nI (pr_settle r P C o).2.2 ∧ (∀ a j, ¬ (56 ≤ a ∧ a ≤ 59) → ¬ (a = 55 ∧ j = 3) → I' a j = I a j) ∧ mx_Cal mx_tab (d + 2) 49 [.ref 55, .int (nI r)] (mk I J) none (mk I' J) := by
  obtain ⟨I', a1, a2, a3, a4, a5⟩ := l_settle (d := d) hr1 hr J P C o I none hP hC h3 hc hok hl
  refine ⟨I', a1, a2, a3, a4, ?_⟩
  have h1 := hP.1
  refine mx_Cal_in (ls := [some (.ref 55), some (.int (nI r)), none, none]) tab_49 (by rw [mx_rcv, oc_55]; trivial) (Nat.le_of_ble_eq_true rfl) rfl ?_
  simp (disch := omega) only [x_Reader_settle_0, x_Reader_settle_1, x_Reader_settle_4, x_Reader_settle_7, mk_I, mk_J, mk_Q, mk_n, mk_sI, mk_sJ, Option.toList_some, Option.toList_none, List.cons_append, List.nil_append, true_and, and_true, oc_55, oc_58, rt_55_0, rt_55_1, h1]
  exact a5 _ ⟨rfl, rfl⟩
/-! one byte -/
theorem tkF : ((0 : Int32) = 0 ∨ (0 : Int32) = 1) = True := eq_true (Or.inl rfl)
theorem tkT : ((1 : Int32) = 0 ∨ (1 : Int32) = 1) = True := eq_true (Or.inr rfl)
theorem bmp (z : Int) (g : Nat) : Int32.ofInt z * 10 + nI g = Int32.ofInt (z * 10 + (g : Int)) := by
  rw [Int32.ofInt_add, Int32.ofInt_mul]
  rfl
theorem q_takesDigit {d g : Nat} {wq : Bool} {P : List Nat} {C : List Int} {o dg : Nat} {I : mx_I} (J : mx_J) (hq : RdS I (wq, P, C, o, dg)) (hl : C.length < 60) (hd : dg ≤ 4) : ((dg = 4 ∨ (dg = 0 ∧ wq = false)) → mx_Cal mx_tab (d + 2) 44 [.ref 55, .int (nI g)] (mk I J) (some (.int 0)) (mk I J)) ∧ (¬ (dg = 4 ∨ (dg = 0 ∧ wq = false)) → ∃ I', RdS I' (false, P, (if dg = 0 then C ++ [(g : Int)] else pr_bump C g), o, dg + 1) ∧ FrR I I' ∧ mx_Cal mx_tab (d + 2) 44 [.ref 55, .int (nI g)] (mk I J) (some (.int 1)) (mk I' J)) := by
  obtain ⟨a1, a2, a3, a4, a5⟩ := hq
  have a1 : I 55 2 = (if wq = true then 1 else 0) := a1
  have a3 : CdR I C := a3
  have a4 : I 55 3 = nI o := a4
  have a5 : I 55 4 = nI dg := a5
  have l4 : (4 : Int32) = nI 4 := rfl
  refine ⟨fun h => ?_, fun h => ?_⟩
  · refine mx_Cal_in (ls := [some (.ref 55), some (.int (nI g)), none]) tab_44 (by rw [mx_rcv, oc_55]; trivial) (Nat.le_of_ble_eq_true rfl) rfl ?_
    rcases h with rfl | ⟨rfl, rfl⟩
    · simp (disch := omega) only [x_Reader_takesDigit_0, x_Reader_takesDigit_1, x_Reader_takesDigit_4, x_Reader_takesDigit_5, x_Reader_takesDigit_8, x_Reader_takesDigit_9, x_Reader_takesDigit_12, x_Reader_takesDigit_15, x_Reader_takesDigit_16, x_Reader_takesDigit_19, x_Reader_takesDigit_22, x_Reader_takesDigit_23, x_Reader_takesDigit_24, x_Reader_takesDigit_25, x_Reader_takesDigit_28, x_Reader_takesDigit_31, x_Reader_takesDigit_32, x_Reader_takesDigit_35, x_Reader_takesDigit_36, x_Reader_takesDigit_39, x_Reader_takesDigit_42, x_Reader_takesDigit_43, x_Reader_takesDigit_44, x_Reader_takesDigit_47, x_Reader_takesDigit_48, x_Reader_takesDigit_50, x_Reader_takesDigit_51, x_Reader_takesDigit_52, x_Reader_takesDigit_53, x_Reader_takesDigit_56, x_Reader_takesDigit_57, x_Reader_takesDigit_58, x_Reader_takesDigit_61, x_Reader_takesDigit_62, x_Reader_takesDigit_63, x_Reader_takesDigit_66, x_Reader_takesDigit_67, x_Reader_takesDigit_68, x_Reader_takesDigit_71, x_Reader_takesDigit_72, mk_I, mk_J, mk_Q, mk_n, mk_sI, mk_sJ, Option.toList_some, Option.toList_none, List.cons_append, List.nil_append, true_and, and_true, ↓reduceIte, leT, leF, ltT, ltF, eqF, lt0F, le0T, le0F, eq0F, natT, nI_clamp, nI_1, if_true, if_false, not_true_eq_false, not_false_eq_true, z_00, z_10, eq_self, true_or, or_true, or_false, false_or, oc_55, a5, show (nI 4 = 4) = True from eq_true rfl, tkF]
    · have a1' : I 55 2 = 0 := a1
      simp (disch := omega) only [x_Reader_takesDigit_0, x_Reader_takesDigit_1, x_Reader_takesDigit_4, x_Reader_takesDigit_5, x_Reader_takesDigit_8, x_Reader_takesDigit_9, x_Reader_takesDigit_12, x_Reader_takesDigit_15, x_Reader_takesDigit_16, x_Reader_takesDigit_19, x_Reader_takesDigit_22, x_Reader_takesDigit_23, x_Reader_takesDigit_24, x_Reader_takesDigit_25, x_Reader_takesDigit_28, x_Reader_takesDigit_31, x_Reader_takesDigit_32, x_Reader_takesDigit_35, x_Reader_takesDigit_36, x_Reader_takesDigit_39, x_Reader_takesDigit_42, x_Reader_takesDigit_43, x_Reader_takesDigit_44, x_Reader_takesDigit_47, x_Reader_takesDigit_48, x_Reader_takesDigit_50, x_Reader_takesDigit_51, x_Reader_takesDigit_52, x_Reader_takesDigit_53, x_Reader_takesDigit_56, x_Reader_takesDigit_57, x_Reader_takesDigit_58, x_Reader_takesDigit_61, x_Reader_takesDigit_62, x_Reader_takesDigit_63, x_Reader_takesDigit_66, x_Reader_takesDigit_67, x_Reader_takesDigit_68, x_Reader_takesDigit_71, x_Reader_takesDigit_72, mk_I, mk_J, mk_Q, mk_n, mk_sI, mk_sJ, Option.toList_some, Option.toList_none, List.cons_append, List.nil_append, true_and, and_true, ↓reduceIte, leT, leF, ltT, ltF, eqF, lt0F, le0T, le0F, eq0F, natT, nI_clamp, nI_1, if_true, if_false, not_true_eq_false, not_false_eq_true, z_00, z_10, eq_self, true_or, or_true, or_false, false_or, oc_55, a5, a1', show (nI 0 = 4) = False from by decide, show (nI 0 = 0) = True from eq_true rfl, tkF]
  · have n4 : (nI dg = 4) = False := eqF (b := 4) (fun q => h (Or.inl q)) (by omega) (by omega)
    by_cases hd0 : dg = 0
    · subst hd0
      have hw : wq = true := by
        cases wq with
        | true => rfl
        | false => exact absurd (Or.inr ⟨rfl, rfl⟩) h
      subst hw
      have a1' : I 55 2 = 1 := a1
      have hap := q_apC (d := 0) I J hl a3.1 (0 * 10 + nI g)
      have hv : (0 : Int32) * 10 + nI g = Int32.ofInt (g : Int) := by
        have e : (0 : Int32) * 10 = 0 := rfl
        rw [e, Int32.zero_add]
        rfl
      refine ⟨mx_ups (mx_ups (mx_ups (mx_ups I 57 C.length (0 * 10 + nI g)) 56 1 (nI (C.length + 1))) 55 4 (nI (0 + 1))) 55 2 0, ⟨ups_same _ _ _ _, a2.congr (fun a j h => by simp (disch := omega) only [ups_ne]), ?_, ?_, ?_⟩, fun a j h => by simp (disch := omega) only [ups_ne], ?_⟩
      · show CdR _ (C ++ [(g : Int)])
        exact (a3.app hv).congr (fun a j h => by simp (disch := omega) only [ups_ne])
      · simp (disch := omega) only [ups_ne]; exact a4
      · rw [ups_ne _ _ (by omega), ups_same]
      · refine mx_Cal_in (ls := [some (.ref 55), some (.int (nI g)), none]) tab_44 (by rw [mx_rcv, oc_55]; trivial) (Nat.le_of_ble_eq_true rfl) rfl ?_
        simp (disch := omega) only [x_Reader_takesDigit_0, x_Reader_takesDigit_1, x_Reader_takesDigit_4, x_Reader_takesDigit_5, x_Reader_takesDigit_8, x_Reader_takesDigit_9, x_Reader_takesDigit_12, x_Reader_takesDigit_15, x_Reader_takesDigit_16, x_Reader_takesDigit_19, x_Reader_takesDigit_22, x_Reader_takesDigit_23, x_Reader_takesDigit_24, x_Reader_takesDigit_25, x_Reader_takesDigit_28, x_Reader_takesDigit_31, x_Reader_takesDigit_32, x_Reader_takesDigit_35, x_Reader_takesDigit_36, x_Reader_takesDigit_39, x_Reader_takesDigit_42, x_Reader_takesDigit_43, x_Reader_takesDigit_44, x_Reader_takesDigit_47, x_Reader_takesDigit_48, x_Reader_takesDigit_50, x_Reader_takesDigit_51, x_Reader_takesDigit_52, x_Reader_takesDigit_53, x_Reader_takesDigit_56, x_Reader_takesDigit_57, x_Reader_takesDigit_58, x_Reader_takesDigit_61, x_Reader_takesDigit_62, x_Reader_takesDigit_63, x_Reader_takesDigit_66, x_Reader_takesDigit_67, x_Reader_takesDigit_68, x_Reader_takesDigit_71, x_Reader_takesDigit_72, mk_I, mk_J, mk_Q, mk_n, mk_sI, mk_sJ, Option.toList_some, Option.toList_none, List.cons_append, List.nil_append, true_and, and_true, ↓reduceIte, leT, leF, ltT, ltF, eqF, lt0F, le0T, le0F, eq0F, natT, nI_clamp, nI_1, if_true, if_false, not_true_eq_false, not_false_eq_true, z_00, z_10, eq_self, true_or, or_true, or_false, false_or, oc_55, rt_55_0, rt_55_1, a5, a1', n4, show (nI 0 = 0) = True from eq_true rfl, mx_call hap _, ups_ne, nI_1, decide_true, Bool.true_or, Bool.or_true, Bool.and_true, tkT]
    · have n0 : (nI dg = 0) = False := eq0F (by omega) (by omega)
      rcases List.eq_nil_or_concat C with hC | ⟨C0, z, hC⟩
      · subst hC
        have h1 : I 56 1 = 0 := a3.1
        have htl := q_tlC0 (d := 0) I J h1
        have hap := q_apC (d := 0) I J (show 0 < 60 by omega) a3.1 (0 * 10 + nI g)
        refine ⟨mx_ups (mx_ups (mx_ups (mx_ups I 57 0 (0 * 10 + nI g)) 56 1 (nI (0 + 1))) 55 4 (nI (dg + 1))) 55 2 0, ⟨ups_same _ _ _ _, a2.congr (fun a j h => by simp (disch := omega) only [ups_ne]), ?_, ?_, ?_⟩, fun a j h => by simp (disch := omega) only [ups_ne], ?_⟩
        · show CdR _ (if dg = 0 then [] ++ [(g : Int)] else pr_bump [] g)
          rw [if_neg hd0]
          have e0 : CdR (mx_ups (mx_ups I 57 0 (0 * 10 + nI g)) 56 1 (nI (0 + 1))) ([] ++ [0 * 10 + (g : Int)]) := a3.app (bmp 0 g)
          exact e0.congr (fun a j h => by simp (disch := omega) only [ups_ne])
        · simp (disch := omega) only [ups_ne]; exact a4
        · rw [ups_ne _ _ (by omega), ups_same]
        · refine mx_Cal_in (ls := [some (.ref 55), some (.int (nI g)), none]) tab_44 (by rw [mx_rcv, oc_55]; trivial) (Nat.le_of_ble_eq_true rfl) rfl ?_
          simp (disch := omega) only [x_Reader_takesDigit_0, x_Reader_takesDigit_1, x_Reader_takesDigit_4, x_Reader_takesDigit_5, x_Reader_takesDigit_8, x_Reader_takesDigit_9, x_Reader_takesDigit_12, x_Reader_takesDigit_15, x_Reader_takesDigit_16, x_Reader_takesDigit_19, x_Reader_takesDigit_22, x_Reader_takesDigit_23, x_Reader_takesDigit_24, x_Reader_takesDigit_25, x_Reader_takesDigit_28, x_Reader_takesDigit_31, x_Reader_takesDigit_32, x_Reader_takesDigit_35, x_Reader_takesDigit_36, x_Reader_takesDigit_39, x_Reader_takesDigit_42, x_Reader_takesDigit_43, x_Reader_takesDigit_44, x_Reader_takesDigit_47, x_Reader_takesDigit_48, x_Reader_takesDigit_50, x_Reader_takesDigit_51, x_Reader_takesDigit_52, x_Reader_takesDigit_53, x_Reader_takesDigit_56, x_Reader_takesDigit_57, x_Reader_takesDigit_58, x_Reader_takesDigit_61, x_Reader_takesDigit_62, x_Reader_takesDigit_63, x_Reader_takesDigit_66, x_Reader_takesDigit_67, x_Reader_takesDigit_68, x_Reader_takesDigit_71, x_Reader_takesDigit_72, mk_I, mk_J, mk_Q, mk_n, mk_sI, mk_sJ, Option.toList_some, Option.toList_none, List.cons_append, List.nil_append, true_and, and_true, ↓reduceIte, leT, leF, ltT, ltF, eqF, lt0F, le0T, le0F, eq0F, natT, nI_clamp, nI_1, if_true, if_false, not_true_eq_false, not_false_eq_true, z_00, z_10, eq_self, true_or, or_true, or_false, false_or, oc_55, rt_55_0, rt_55_1, a5, n4, n0, mx_call htl _, mx_call hap _, ups_ne, nI_1, decide_true, Bool.true_or, Bool.or_true, Bool.and_true, tkT]
      · have hC : C = C0 ++ [z] := by rw [hC]; simp
        subst hC
        have hln : (C0 ++ [z]).length = C0.length + 1 := by rw [List.length_append]; rfl
        rw [hln] at hl
        have s1 := a3.1
        rw [hln] at s1
        have ez := a3.2 C0.length (by omega)
        rw [gxR] at ez
        have htl := q_tlC (d := 0) I J (show C0.length < 60 by omega) s1
        rw [ez] at htl
        have hC0 : CdR (mx_ups I 56 1 (nI C0.length)) C0 := ⟨ups_same _ _ _ _, fun j hj => by
          rw [ups_ne _ _ (by omega)]
          have := a3.2 j (by omega)
          rw [gxL hj] at this
          exact this⟩
        have hap := q_apC (d := 0) (mx_ups I 56 1 (nI C0.length)) J (show C0.length < 60 by omega) hC0.1 (Int32.ofInt z * 10 + nI g)
        refine ⟨mx_ups (mx_ups (mx_ups (mx_ups (mx_ups I 56 1 (nI C0.length)) 57 C0.length (Int32.ofInt z * 10 + nI g)) 56 1 (nI (C0.length + 1))) 55 4 (nI (dg + 1))) 55 2 0, ⟨ups_same _ _ _ _, a2.congr (fun a j h => by simp (disch := omega) only [ups_ne]), ?_, ?_, ?_⟩, fun a j h => by simp (disch := omega) only [ups_ne], ?_⟩
        · show CdR _ (if dg = 0 then (C0 ++ [z]) ++ [(g : Int)] else pr_bump (C0 ++ [z]) g)
          rw [if_neg hd0]
          unfold pr_bump
          rw [List.dropLast_concat, List.getLastD_concat]
          exact (hC0.app (bmp z g)).congr (fun a j h => by simp (disch := omega) only [ups_ne])
        · simp (disch := omega) only [ups_ne]; exact a4
        · rw [ups_ne _ _ (by omega), ups_same]
        · refine mx_Cal_in (ls := [some (.ref 55), some (.int (nI g)), none]) tab_44 (by rw [mx_rcv, oc_55]; trivial) (Nat.le_of_ble_eq_true rfl) rfl ?_
          simp (disch := omega) only [x_Reader_takesDigit_0, x_Reader_takesDigit_1, x_Reader_takesDigit_4, x_Reader_takesDigit_5, x_Reader_takesDigit_8, x_Reader_takesDigit_9, x_Reader_takesDigit_12, x_Reader_takesDigit_15, x_Reader_takesDigit_16, x_Reader_takesDigit_19, x_Reader_takesDigit_22, x_Reader_takesDigit_23, x_Reader_takesDigit_24, x_Reader_takesDigit_25, x_Reader_takesDigit_28, x_Reader_takesDigit_31, x_Reader_takesDigit_32, x_Reader_takesDigit_35, x_Reader_takesDigit_36, x_Reader_takesDigit_39, x_Reader_takesDigit_42, x_Reader_takesDigit_43, x_Reader_takesDigit_44, x_Reader_takesDigit_47, x_Reader_takesDigit_48, x_Reader_takesDigit_50, x_Reader_takesDigit_51, x_Reader_takesDigit_52, x_Reader_takesDigit_53, x_Reader_takesDigit_56, x_Reader_takesDigit_57, x_Reader_takesDigit_58, x_Reader_takesDigit_61, x_Reader_takesDigit_62, x_Reader_takesDigit_63, x_Reader_takesDigit_66, x_Reader_takesDigit_67, x_Reader_takesDigit_68, x_Reader_takesDigit_71, x_Reader_takesDigit_72, mk_I, mk_J, mk_Q, mk_n, mk_sI, mk_sJ, Option.toList_some, Option.toList_none, List.cons_append, List.nil_append, true_and, and_true, ↓reduceIte, leT, leF, ltT, ltF, eqF, lt0F, le0T, le0F, eq0F, natT, nI_clamp, nI_1, if_true, if_false, not_true_eq_false, not_false_eq_true, z_00, z_10, eq_self, true_or, or_true, or_false, false_or, oc_55, rt_55_0, rt_55_1, a5, n4, n0, mx_call htl _, mx_call hap _, ups_ne, nI_1, decide_true, Bool.true_or, Bool.or_true, Bool.and_true, tkT]
