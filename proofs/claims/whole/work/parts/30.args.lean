theorem lt0I (p : Int32) : p < 0 ↔ p.toInt < 0 := Int32.lt_iff_toInt_lt
theorem ltI (p q : Int32) : p < q ↔ p.toInt < q.toInt := Int32.lt_iff_toInt_lt
theorem leI (p q : Int32) : p ≤ q ↔ p.toInt ≤ q.toInt := Int32.le_iff_toInt_le
theorem eqI (p q : Int32) : p = q ↔ p.toInt = q.toInt := Int32.toInt_inj.symm
theorem ofI {p : Int32} (h : 0 ≤ p.toInt) : ∃ k : Nat, p = nI k ∧ (k : Int) = p.toInt ∧ k < 2 ^ 31 := by
  obtain ⟨j, h1, h2⟩ := nI_of (x := p) (fun q => by have := (lt0I p).mp q; omega)
  exact ⟨j, h2, by rw [h2, nI_toInt h1], h1⟩
theorem i0n1 : ¬ (0 : Int32) = 1 := by decide
theorem in_yes {x : Int32} {y z : Int64} (h1 : y.toInt ≤ x.toInt) (h2 : x.toInt ≤ z.toInt) : X8_in (Int32.toInt64 x) y z = some 1 := by
  rw [in_ok, t64, if_pos ⟨h1, h2⟩]
theorem in_no {x : Int32} {y z : Int64} (h : ¬ (y.toInt ≤ x.toInt ∧ x.toInt ≤ z.toInt)) : X8_in (Int32.toInt64 x) y z = some 0 := by
  rw [in_ok, t64, if_neg h]
theorem tick_cases (p : Int32) : (X7_isTick p = some 0 ∧ X8_noTick p = some 1) ∨ ∃ t : Nat, t < 100 ∧ p = nI t ∧ X7_isTick p = some 1 ∧ X8_noTick p = some 0 := by
  unfold X7_isTick X8_noTick
  rw [zb_0, zb_1]
  have e100 : (100 : Int32).toInt = 100 := rfl
  have e0 : (0 : Int64).toInt = 0 := rfl
  have e99 : (99 : Int64).toInt = 99 := rfl
  by_cases h : 0 ≤ p.toInt ∧ p.toInt < 100
  · right
    obtain ⟨k, e, e2, -⟩ := ofI h.1
    refine ⟨k, by omega, e, ?_, ?_⟩
    · rw [if_neg (by rw [lt0I]; omega), if_neg (by rw [leI]; omega)]
    · rw [in_yes (by omega) (by omega), bd_some, if_neg i1n0]
  · left
    refine ⟨?_, ?_⟩
    · by_cases c : p < 0
      · rw [if_pos c]
      · rw [if_neg c, if_pos (by rw [lt0I] at c; rw [leI]; omega)]
    · rw [in_no (by omega), bd_some, if_pos rfl]
theorem hand_cases {N : Nat} {hands : Nat → Int32} (hN : N < 2 ^ 30) (h4 : hands 4 = nI N) (h1 : 1 ≤ N) (p : Int32) : (X7_isHand (nI N) p = some 0 ∧ X8_noHand hands p = some 1) ∨ ∃ a : Nat, a < N ∧ p = nI a ∧ X7_isHand (nI N) p = some 1 ∧ X8_noHand hands p = some 0 := by
  rw [isHand_ok (by omega)]
  unfold X8_noHand
  rw [rd_lit hands 5 4 (by decide) (by decide), h4, show nI N - 1 = nI (N - 1) from pk_sub (b := 1) h1, zb_1, zb_0]
  have e0 : (0 : Int64).toInt = 0 := rfl
  have eN : (Int32.toInt64 (nI (N - 1))).toInt = ((N - 1 : Nat) : Int) := by rw [t64, nI_toInt (by omega)]
  by_cases h : 0 ≤ p.toInt ∧ p.toInt < N
  · right
    obtain ⟨k, e, e2, -⟩ := ofI h.1
    refine ⟨k, by omega, e, ?_, ?_⟩
    · rw [if_pos h]
    · rw [in_yes (by omega) (by omega), bd_some, if_neg i1n0]
  · left
    refine ⟨?_, ?_⟩
    · rw [if_neg h]
    · rw [in_no (by omega), bd_some, if_pos rfl]
def colM (k : Nat) : Nat := if k < 7 then k else 3 + k
theorem col_cases {N : Nat} (hN : 1 ≤ N) (hN6 : N ≤ 6) (p : Int32) : (X7_columnOf p (nI N) = some (-1) ∧ X8_noWhat p (nI N) = some 1) ∨ ∃ k : Nat, (k < N ∨ k = 6 ∨ (7 ≤ k ∧ k < 7 + N)) ∧ p = nI (colM k) ∧ X7_columnOf p (nI N) = some (nI k) ∧ X8_noWhat p (nI N) = some 0 := by
  unfold X7_columnOf X7_columnOf_J17 X8_noWhat
  rw [zb_0, zb_1]
  rw [show nI N - 1 = nI (N - 1) from pk_sub (b := 1) hN, show (9 : Int32) + nI N = nI (9 + N) from nI_add 9 N, show (10 : Int32) + nI N = nI (10 + N) from nI_add 10 N]
  have e0 : (0 : Int64).toInt = 0 := rfl
  have e10 : (10 : Int64).toInt = 10 := rfl
  have eN : (Int32.toInt64 (nI (N - 1))).toInt = ((N - 1 : Nat) : Int) := by rw [t64, nI_toInt (by omega)]
  have e9N : (Int32.toInt64 (nI (9 + N))).toInt = ((9 + N : Nat) : Int) := by rw [t64, nI_toInt (by omega)]
  have k6 : (6 : Int32).toInt = 6 := rfl
  have k10 : (10 : Int32).toInt = 10 := rfl
  have kN : (nI N).toInt = N := nI_toInt (by omega)
  have k1N : (nI (10 + N)).toInt = ((10 + N : Nat) : Int) := nI_toInt (by omega)
  by_cases c6 : p = 6
  · right
    have d6 : p.toInt = 6 := by rw [c6]; rfl
    refine ⟨6, Or.inr (Or.inl rfl), by rw [c6]; rfl, ?_, ?_⟩
    · rw [if_pos c6, c6]
      rfl
    · rw [in_no (by omega), bd_some, if_pos rfl, if_pos c6]
  · have d6 : p.toInt ≠ 6 := fun h => c6 ((eqI p 6).mpr (by rw [h, k6]))
    rw [if_neg c6]
    by_cases cA : 0 ≤ p.toInt ∧ p.toInt < N
    · right
      obtain ⟨k, e, e2, -⟩ := ofI cA.1
      refine ⟨k, Or.inl (by omega), ?_, ?_, ?_⟩
      · unfold colM
        rw [if_pos (by omega)]
        exact e
      · rw [if_neg (by rw [lt0I]; omega), if_neg (by rw [leI]; omega), e]
      · rw [in_yes (by omega) (by omega), bd_some, if_neg i1n0]
    · rw [in_no (z := Int32.toInt64 (nI (N - 1))) (by omega), bd_some, if_pos (rfl : (0 : Int32) = 0), if_neg c6]
      have hJ : (if p < 0 then (if p < 10 then some (-1) else if nI (10 + N) ≤ p then some (-1) else some (p - 10 + 7)) else if nI N ≤ p then (if p < 10 then some (-1) else if nI (10 + N) ≤ p then some (-1) else some (p - 10 + 7)) else some p) = (if p < 10 then some (-1) else if nI (10 + N) ≤ p then some (-1) else some (p - 10 + 7 : Int32)) := by
        by_cases c0 : p < 0
        · rw [if_pos c0]
        · rw [if_neg c0, if_pos (by rw [lt0I] at c0; rw [leI]; omega)]
      rw [hJ]
      by_cases cB : 10 ≤ p.toInt ∧ p.toInt < 10 + N
      · right
        obtain ⟨k, e, e2, -⟩ := ofI (show 0 ≤ p.toInt by omega)
        refine ⟨k - 3, Or.inr (Or.inr (by omega)), ?_, ?_, ?_⟩
        · unfold colM
          rw [if_neg (by omega), e]
          congr 1
          omega
        · rw [if_neg (by rw [ltI]; omega), if_neg (by rw [leI]; omega), e, show nI k - 10 = nI (k - 10) from pk_sub (b := 10) (by omega), show nI (k - 10) + 7 = nI (k - 10 + 7) from nI_add _ 7]
          congr 2
          omega
        · rw [in_yes (by omega) (by omega), bd_some, if_neg i1n0]
      · left
        refine ⟨?_, ?_⟩
        · by_cases c1 : p < 10
          · rw [if_pos c1]
          · rw [if_neg c1, if_pos (by rw [ltI] at c1; rw [leI]; omega)]
        · rw [in_no (by omega), bd_some, if_pos rfl]
theorem told_ok {W H v : Nat} (hW9 : W ≤ 9) (hH9 : H ≤ 9) {k : Nat} (hk : k < 7) (hv : okp W H v) : X7_told (nI W) (nI v) (nI k) = some (nI (cl W v)) := by
  have := okp_lt hW9 hH9 hv
  unfold X7_told cl
  rw [if_neg (show ¬ (7 : Int32) ≤ nI k from nI_ge (b := 7) hk (by decide)), yOf_nI (by omega), bd_some, xOf_nI (by omega), bd_some, pk_mul, nI_add]
theorem told_pt {w v : Int32} {k : Nat} (hk : 7 ≤ k) (hk2 : k < 100) : X7_told w v (nI k) = some v := by
  unfold X7_told
  rw [if_pos (show (7 : Int32) ≤ nI k from nI_le (a := 7) hk (by omega))]
theorem seen_ok {W H N : Nat} {ball : Int32} {place points : Nat → Int32} {A : Nat → Nat} (hN6 : N ≤ 6) (hr : RepP W N ball place A) (hp : ∀ a, a < 6 → points a = nI (A (7 + a))) {k : Nat} (hk : k < N ∨ k = 6 ∨ (7 ≤ k ∧ k < 7 + N)) : X8_seen ball place points (nI (colM k)) = some (if k < 7 then nI (cl W (A k)) else nI (A k)) := by
  unfold X8_seen colM
  rcases hk with h | h | h
  · rw [if_pos (show k < 7 by omega), if_pos (show k < 7 by omega), if_neg (show ¬ (6 : Int32) ≤ nI k from nI_ge (b := 6) (by omega) (by decide)), rd_nI place (by omega) (by decide), hr.2.1 k h]
  · subst h
    rw [if_pos (by decide), if_pos (by decide), if_pos (by decide), hr.1]
  · rw [if_neg (show ¬ k < 7 by omega), if_neg (show ¬ k < 7 by omega), if_pos (show (6 : Int32) ≤ nI (3 + k) from nI_le (a := 6) (by omega) (by omega)), if_neg (show ¬ nI (3 + k) = (6 : Int32) from fun e => by have := nI_inj (b := 6) (by omega) (by decide) e; omega), show nI (3 + k) - 10 = nI (3 + k - 10) from pk_sub (b := 10) (by omega), rd_nI points (by omega) (by decide), hp _ (by omega)]
    congr 2
    congr 1
    omega
