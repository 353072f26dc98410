def allB (f : Nat → Bool) (n : Nat) : Bool := Nat.rec true (fun k ih => f k && ih) n
theorem allB_of {f : Nat → Bool} : ∀ n, allB f n = true → ∀ k, k < n → f k = true
  | 0, _, k, hk => by omega
  | n + 1, h, k, hk => by
    have h' : (f n && allB f n) = true := h
    rw [Bool.and_eq_true] at h'
    by_cases e : k = n
    · subst e
      exact h'.1
    · exact allB_of n h'.2 k (by omega)
def lwF : Nat → Nat → Nat
  | 0, _ => 0
  | f + 1, s => if s % 2 = 1 then 0 else lwF f (s / 2) + 1
def lw (s : Nat) : Nat := lwF 10 s
def odF : Nat → Nat → Bool
  | 0, _ => false
  | f + 1, s => Bool.xor (decide (s % 2 = 1)) (odF f (s / 2))
def od (s : Nat) : Bool := odF 10 s
def xbT (s q : Nat) : Bool := !Nat.testBit s q || (decide (nI s ^^^ ((1 : Int32) <<< (nI q &&& 31)) = nI (s ^^^ 2 ^ q)) && decide (nI s &&& (((1 : Int32) <<< (nI q &&& 31)) ^^^ (-1)) = nI (s ^^^ 2 ^ q)) && decide (s ^^^ 2 ^ q < s))
noncomputable def bcT (s : Nat) : Bool := match J6_bitCount_0f7a4 (nI s) with
  | some r => decide (r &&& 1 = if od s = true then 1 else 0)
  | none => false
def exT (s p : Nat) : Bool := od s || !allB (fun q => !(decide (p < q) && Nat.testBit s q)) 10
noncomputable def lwT (s : Nat) : Bool := decide (s = 0) || (decide (X8_lowest (nI s) = some (nI (lw s))) && decide (X1_firstOf (nI s) = some (nI (lw s))) && Nat.testBit s (lw s) && decide (lw s < 10) && allB (fun j => !Nat.testBit s j) (lw s) && exT s (lw s))
noncomputable def odT (s : Nat) : Bool := bcT s && decide (X8_isOdd (nI s) = some (if od s = true then 1 else 0))
set_option maxRecDepth 100000 in
theorem xb_all : allB (fun s => allB (fun q => xbT s q) 10) 1024 = true := by decide +kernel
set_option maxRecDepth 100000 in
theorem lw_all : allB lwT 1024 = true := by decide +kernel
set_option maxRecDepth 100000 in
theorem od_all : allB odT 1024 = true := by decide +kernel
theorem xb_ok {s q : Nat} (hs : s < 1024) (hq : q < 10) (h : s.testBit q = true) : nI s ^^^ ((1 : Int32) <<< (nI q &&& 31)) = nI (s ^^^ 2 ^ q) ∧ nI s &&& (((1 : Int32) <<< (nI q &&& 31)) ^^^ (-1)) = nI (s ^^^ 2 ^ q) ∧ s ^^^ 2 ^ q < s := by
  have h1 := allB_of 10 (allB_of 1024 xb_all s hs) q hq
  unfold xbT at h1
  rw [h] at h1
  simp only [Bool.not_true, Bool.false_or, Bool.and_eq_true, decide_eq_true_iff] at h1
  exact ⟨h1.1.1, h1.1.2, h1.2⟩
theorem od_ok {s : Nat} (hs : s < 1024) : (∃ r, J6_bitCount_0f7a4 (nI s) = some r ∧ r &&& 1 = if od s = true then 1 else 0) ∧ X8_isOdd (nI s) = some (if od s = true then 1 else 0) := by
  have h1 := allB_of 1024 od_all s hs
  unfold odT at h1
  rw [Bool.and_eq_true, decide_eq_true_iff] at h1
  refine ⟨?_, h1.2⟩
  have h2 := h1.1
  unfold bcT at h2
  split at h2
  · rename_i r hr
    exact ⟨r, hr, of_decide_eq_true h2⟩
  · cases h2
theorem lw_ok {s : Nat} (hs : s < 1024) (h0 : s ≠ 0) : X8_lowest (nI s) = some (nI (lw s)) ∧ X1_firstOf (nI s) = some (nI (lw s)) ∧ s.testBit (lw s) = true ∧ lw s < 10 ∧ (∀ j, j < lw s → s.testBit j = false) ∧ (od s = false → ∃ q, lw s < q ∧ q < 10 ∧ s.testBit q = true) := by
  have h1 := allB_of 1024 lw_all s hs
  unfold lwT at h1
  rw [decide_eq_false h0, Bool.false_or] at h1
  simp only [Bool.and_eq_true, decide_eq_true_iff] at h1
  obtain ⟨⟨⟨⟨⟨a1, a2⟩, a3⟩, a4⟩, a5⟩, a6⟩ := h1
  refine ⟨a1, a2, a3, a4, fun j hj => ?_, fun ho => ?_⟩
  · have := allB_of (lw s) a5 j hj
    simpa using this
  · unfold exT at a6
    rw [ho, Bool.false_or] at a6
    refine Classical.byContradiction (fun hne => ?_)
    have hall : allB (fun q => !(decide (lw s < q) && Nat.testBit s q)) 10 = true := by
      have key : ∀ q, q < 10 → (!(decide (lw s < q) && Nat.testBit s q)) = true := by
        intro q hq
        by_cases c : lw s < q ∧ s.testBit q = true
        · exact absurd ⟨q, c.1, hq, c.2⟩ hne
        · by_cases c1 : lw s < q
          · have c2 : s.testBit q = false := by
              cases hb : s.testBit q with
              | false => rfl
              | true => exact absurd ⟨c1, hb⟩ c
            rw [c2, Bool.and_false]
            rfl
          · rw [decide_eq_false c1, Bool.false_and]
            rfl
      have gen : ∀ n, n ≤ 10 → allB (fun q => !(decide (lw s < q) && Nat.testBit s q)) n = true := by
        intro n
        induction n with
        | zero => intro _; rfl
        | succ n ih =>
          intro hn
          show ((!(decide (lw s < n) && Nat.testBit s n)) && allB (fun q => !(decide (lw s < q) && Nat.testBit s q)) n) = true
          rw [key n (by omega), ih (by omega)]
          rfl
      exact gen 10 (by omega)
    rw [hall] at a6
    cases a6
theorem sh31 {q : Nat} (hq : q < 16) : ((nI q &&& (31 : Int32)).toBitVec.smod 32).toNat = q := by
  have key : allB (fun q => decide (((nI q &&& (31 : Int32)).toBitVec.smod 32).toNat = q)) 16 = true := by decide +kernel
  exact of_decide_eq_true (allB_of 16 key q hq)
theorem bit_ok {s q : Nat} (hs : s < 2 ^ 31) (hq : q < 16) : (nI s >>> (nI q &&& (31 : Int32))) &&& 1 = if s.testBit q = true then 1 else 0 := by
  rw [pk_shrN hs _ q (sh31 hq), pk_andN (by
    have : s / 2 ^ q ≤ s := Nat.div_le_self _ _
    omega) 1 (by decide), Nat.testBit_eq_decide_div_mod_eq]
  have hm : s / 2 ^ q % 2 < 2 := Nat.mod_lt _ (by decide)
  show nI (s / 2 ^ q % 2) = _
  by_cases c : s / 2 ^ q % 2 = 1
  · rw [c]
    rfl
  · have c0 : s / 2 ^ q % 2 = 0 := by omega
    rw [c0]
    rfl
theorem shl1 {q : Nat} (hq : q < 16) : (1 : Int32) <<< (nI q &&& (31 : Int32)) = nI (2 ^ q) := by
  have key : allB (fun q => decide ((1 : Int32) <<< (nI q &&& (31 : Int32)) = nI (2 ^ q))) 16 = true := by decide +kernel
  exact of_decide_eq_true (allB_of 16 key q hq)
theorem tb_x {s q r : Nat} : (s ^^^ 2 ^ q).testBit r = if q = r then !s.testBit r else s.testBit r := by
  rw [Nat.testBit_xor, Nat.testBit_two_pow]
  by_cases c : q = r
  · rw [decide_eq_true c, if_pos c]
    cases s.testBit r <;> rfl
  · rw [decide_eq_false c, if_neg c]
    cases s.testBit r <;> rfl
theorem tb_lt {s n q : Nat} (hs : s < 2 ^ n) (h : s.testBit q = true) : q < n := by
  refine Classical.byContradiction (fun hc => ?_)
  have h1 : 2 ^ n ≤ 2 ^ q := Nat.pow_le_pow_right (by decide) (by omega)
  rw [Nat.testBit_lt_two_pow (by omega)] at h
  cases h
theorem x_lt {s n q : Nat} (hs : s < 2 ^ n) (hq : q < n) : s ^^^ 2 ^ q < 2 ^ n := Nat.xor_lt_two_pow hs (Nat.pow_lt_pow_right (by decide) hq)
theorem p2_le {n : Nat} (h : n ≤ 10) : 2 ^ n ≤ 1024 := Nat.pow_le_pow_right (by decide) h
