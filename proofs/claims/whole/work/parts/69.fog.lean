theorem or_nI {a b : Nat} (ha : a < 2 ^ 32) (hb : b < 2 ^ 32) : nI a ||| nI b = nI (a ||| b) := by
  apply Int32.toBitVec_inj.mp
  apply BitVec.eq_of_toNat_eq
  rw [Int32.toBitVec_or, BitVec.toNat_or, pk_tn ha, pk_tn hb, pk_tn (Nat.or_lt_two_pow ha hb)]
theorem and_nI {a b : Nat} (ha : a < 2 ^ 32) (hb : b < 2 ^ 32) : nI a &&& nI b = nI (a &&& b) := by
  apply Int32.toBitVec_inj.mp
  apply BitVec.eq_of_toNat_eq
  rw [Int32.toBitVec_and, BitVec.toNat_and, pk_tn ha, pk_tn hb, pk_tn (Nat.and_lt_two_pow _ hb)]
theorem not_nI {k : Nat} (hk : k < 2 ^ 32) : nI k ^^^ (-1) = nI (2 ^ 32 - (k + 1)) := by
  apply Int32.toBitVec_inj.mp
  apply BitVec.eq_of_toNat_eq
  have e1 : ((-1 : Int32)).toBitVec.toNat = 2 ^ 32 - 1 := by decide
  rw [Int32.toBitVec_xor, BitVec.toNat_xor, pk_tn hk, e1, pk_tn (by omega)]
  refine Nat.eq_of_testBit_eq (fun i => ?_)
  rw [Nat.testBit_xor, Nat.testBit_two_pow_sub_one, Nat.testBit_two_pow_sub_succ hk]
  by_cases c : i < 32
  · rw [decide_eq_true c]
    cases k.testBit i <;> rfl
  · have : k.testBit i = false := Nat.testBit_lt_two_pow (Nat.lt_of_lt_of_le hk (Nat.pow_le_pow_right (by decide) (by omega)))
    rw [decide_eq_false c, this]
    rfl
def onG (p : Nat) : Nat → Bool := fun q => decide (q = p)
def nb (W H : Nat) (g : Nat → Bool) (p way : Nat) : Bool := decide (nx W H p way ≠ 999) && g (nx W H p way)
def spG (W H : Nat) (g : Nat → Bool) : Nat → Bool := fun p => g p || nb W H g p 1 || nb W H g p 2 || nb W H g p 3 || nb W H g p 4
def rmG (W H e si : Nat) (g : Nat → Bool) : Nat → Bool := fun p => spG W H g p && !decide (dst e p ≤ si)
def BM (W H : Nat) (M : Nat → Nat) (g : Nat → Bool) : Prop := ∀ y, y < H → M y < 2 ^ W ∧ ∀ x, x < W → (M y).testBit x = g (16 * y + x)
def CM (W H : Nat) (masks : Nat → Int32) (g : Nat → Bool) : Prop := ∃ M : Nat → Nat, (∀ y, y < H → masks y = nI (M y)) ∧ BM W H M g
theorem pw_lt {W : Nat} (h : W ≤ 9) : 2 ^ W ≤ 512 := Nat.pow_le_pow_right (by decide) h
theorem setOnly_ok {W H p : Nat} (hW : W ≤ 9) (hH : H ≤ 9) (hp : okp W H p) (masks : Nat → Int32) : ∃ masks', X3_setOnly masks (nI p) = some masks' ∧ CM W H masks' (onG p) := by
  have hlt := okp_lt hW hH hp
  unfold okp at hp
  unfold X3_setOnly
  obtain ⟨f, e, h1, -⟩ := fill_ok (n := 9) masks 0 (by decide)
  rw [e, bd_some, yOf_nI (by omega), bd_some, xOf_nI (by omega), bd_some, wrI_nI f (by omega) (by decide), shl1 (by omega)]
  refine ⟨_, rfl, upN (fun _ => 0) (p / 16) (2 ^ (p % 16)), fun y hy => ?_, fun y hy => ?_⟩
  · by_cases c : y = p / 16
    · subst c
      rw [upN_s, pk_us]
    · rw [upN_n _ _ c, pk_un c, h1 y (by omega)]
      rfl
  · by_cases c : y = p / 16
    · subst c
      rw [upN_s]
      refine ⟨Nat.pow_lt_pow_right (by decide) hp.1, fun x hx => ?_⟩
      unfold onG
      rw [Nat.testBit_two_pow]
      by_cases d : p % 16 = x
      · rw [decide_eq_true d, decide_eq_true (by omega)]
      · rw [decide_eq_false d, decide_eq_false (by omega)]
    · rw [upN_n _ _ c]
      refine ⟨Nat.two_pow_pos W, fun x hx => ?_⟩
      unfold onG
      rw [Nat.zero_testBit, decide_eq_false (by omega)]
theorem sp_bits {W H y x m a b : Nat} {g : Nat → Bool} (hy : y < 9) (hW : W ≤ 9) (hx : x < W) (hm : m < 2 ^ W) (h0 : ∀ x, x < W → m.testBit x = g (16 * y + x)) (ha : ∀ x, x < W → a.testBit x = (decide (0 < y) && g (16 * (y - 1) + x))) (hb : ∀ x, x < W → b.testBit x = (decide (y + 1 < H) && g (16 * (y + 1) + x))) : ((m ||| m * 2 ^ 1 ||| m / 2 ^ 1 ||| a ||| b) % 2 ^ W).testBit x = spG W H g (16 * y + x) := by
  have e1 : (16 * y + x) % 16 = x := by omega
  have e2 : (16 * y + x) / 16 = y := by omega
  rw [Nat.testBit_mod_two_pow, decide_eq_true hx, Bool.true_and, Nat.testBit_or, Nat.testBit_or, Nat.testBit_or, Nat.testBit_or, Nat.testBit_mul_two_pow, Nat.testBit_div_two_pow, ha x hx, hb x hx, h0 x hx]
  unfold spG nb
  rw [nx_1, nx_2, nx_3, nx_4, e1, e2]
  have k1 : (if x + 1 < W then 16 * y + x + 1 else 999) = 999 ∨ x + 1 < W := by
    by_cases c : x + 1 < W
    · exact Or.inr c
    · exact Or.inl (if_neg c)
  have t1 : (decide ((if x + 1 < W then 16 * y + x + 1 else 999) ≠ 999) && g (if x + 1 < W then 16 * y + x + 1 else 999)) = m.testBit (x + 1) := by
    by_cases c : x + 1 < W
    · rw [if_pos c, h0 (x + 1) c]
      by_cases d : 16 * y + x + 1 = 999
      · exfalso
        omega
      · rw [decide_eq_true d, Bool.true_and]
        rfl
    · rw [if_neg c, Nat.testBit_lt_two_pow (Nat.lt_of_lt_of_le hm (Nat.pow_le_pow_right (by decide) (by omega)))]
      rfl
  have t2 : (decide ((if y + 1 < H then 16 * y + x + 16 else 999) ≠ 999) && g (if y + 1 < H then 16 * y + x + 16 else 999)) = (decide (y + 1 < H) && g (16 * (y + 1) + x)) := by
    by_cases c : y + 1 < H
    · rw [if_pos c, decide_eq_true c, show 16 * y + x + 16 = 16 * (y + 1) + x by omega]
      by_cases d : 16 * (y + 1) + x = 999
      · exfalso
        omega
      · rw [decide_eq_true d]
    · rw [if_neg c, decide_eq_false c]
      rfl
  have t3 : (decide ((if 0 < x then 16 * y + x - 1 else 999) ≠ 999) && g (if 0 < x then 16 * y + x - 1 else 999)) = (decide (x ≥ 1) && m.testBit (x - 1)) := by
    by_cases c : 0 < x
    · rw [if_pos c, h0 (x - 1) (by omega), decide_eq_true (show x ≥ 1 from c), show 16 * y + x - 1 = 16 * y + (x - 1) by omega]
      by_cases d : 16 * y + (x - 1) = 999
      · exfalso
        omega
      · rw [decide_eq_true d]
    · rw [if_neg c, decide_eq_false (show ¬ x ≥ 1 from c)]
      rfl
  have t4 : (decide ((if 0 < y then 16 * y + x - 16 else 999) ≠ 999) && g (if 0 < y then 16 * y + x - 16 else 999)) = (decide (0 < y) && g (16 * (y - 1) + x)) := by
    by_cases c : 0 < y
    · rw [if_pos c, decide_eq_true c, show 16 * y + x - 16 = 16 * (y - 1) + x by omega]
      by_cases d : 16 * (y - 1) + x = 999
      · exfalso
        omega
      · rw [decide_eq_true d]
    · rw [if_neg c, decide_eq_false c]
      rfl
  rw [t1, t2, t3, t4]
  cases g (16 * y + x) <;> cases m.testBit (x + 1) <;> cases (decide (y + 1 < H) && g (16 * (y + 1) + x)) <;> cases (decide (x ≥ 1) && m.testBit (x - 1)) <;> cases (decide (0 < y) && g (16 * (y - 1) + x)) <;> rfl
