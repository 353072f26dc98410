def bin : Nat → Nat → Nat
  | _, 0 => 1
  | 0, _ + 1 => 0
  | n + 1, k + 1 => bin n k + bin n (k + 1)
theorem bin_0 (n : Nat) : bin n 0 = 1 := by cases n <;> rfl
theorem bin_gt : ∀ n k, n < k → bin n k = 0
  | _, 0, h => by omega
  | 0, _ + 1, _ => rfl
  | n + 1, k + 1, h => by rw [bin, bin_gt n k (by omega), bin_gt n (k + 1) (by omega)]
theorem bin_self : ∀ n, bin n n = 1
  | 0 => rfl
  | n + 1 => by rw [bin, bin_self n, bin_gt n (n + 1) (by omega)]
theorem bin_pos : ∀ n k, k ≤ n → 0 < bin n k
  | n, 0, _ => by rw [bin_0]; decide
  | 0, k + 1, h => by omega
  | n + 1, k + 1, h => by
    have := bin_pos n k (by omega)
    rw [bin]
    omega
theorem bin_le : ∀ n k, bin n k ≤ 2 ^ n
  | n, 0 => by
    rw [bin_0]
    exact Nat.one_le_two_pow
  | 0, _ + 1 => Nat.zero_le _
  | n + 1, k + 1 => by
    have h1 := bin_le n k
    have h2 := bin_le n (k + 1)
    have h3 : 2 ^ (n + 1) = 2 ^ n + 2 ^ n := by rw [Nat.pow_succ, Nat.mul_two]
    rw [bin, h3]
    omega
def Sg (f : Nat → Nat) : Nat → Nat
  | 0 => 0
  | n + 1 => Sg f n + f n
theorem Sg_congr {f g : Nat → Nat} : ∀ n, (∀ k, k < n → f k = g k) → Sg f n = Sg g n
  | 0, _ => rfl
  | n + 1, h => by rw [Sg, Sg, Sg_congr n (fun k hk => h k (by omega)), h n (by omega)]
theorem Sg_add (f g : Nat → Nat) : ∀ n, Sg (fun k => f k + g k) n = Sg f n + Sg g n
  | 0 => rfl
  | n + 1 => by
    rw [Sg, Sg, Sg, Sg_add f g n]
    omega
theorem Sg_first (f : Nat → Nat) : ∀ n, Sg f (n + 1) = f 0 + Sg (fun k => f (k + 1)) n
  | 0 => by
    show 0 + f 0 = f 0 + 0
    omega
  | n + 1 => by
    rw [Sg, Sg_first f n, Sg]
    omega
theorem Sg_ext (f : Nat → Nat) {a : Nat} : ∀ b, a ≤ b → (∀ k, a ≤ k → k < b → f k = 0) → Sg f b = Sg f a
  | 0, h, _ => by
    have : a = 0 := by omega
    rw [this]
  | b + 1, h, hz => by
    by_cases e : a = b + 1
    · rw [e]
    · rw [Sg, Sg_ext f b (by omega) (fun k h1 h2 => hz k h1 (by omega)), hz b (by omega) (by omega)]
      omega
theorem Sg_mono (f : Nat → Nat) {a : Nat} : ∀ b, a ≤ b → Sg f a ≤ Sg f b
  | 0, h => by
    have : a = 0 := by omega
    rw [this]
    exact Nat.le_refl _
  | b + 1, h => by
    by_cases e : a = b + 1
    · rw [e]
      exact Nat.le_refl _
    · have := Sg_mono f b (show a ≤ b by omega)
      rw [Sg]
      omega
theorem Sg_le {f g : Nat → Nat} : ∀ n, (∀ k, k < n → f k ≤ g k) → Sg f n ≤ Sg g n
  | 0, _ => Nat.le_refl _
  | n + 1, h => by
    have h1 := Sg_le n (fun k hk => h k (by omega))
    have h2 := h n (by omega)
    rw [Sg, Sg]
    omega
theorem vdm (m : Nat) : ∀ h l, Sg (fun k => bin h k * bin m (l - k)) (l + 1) = bin (h + m) l
  | 0, l => by
    rw [Sg_first]
    have : Sg (fun k => bin 0 (k + 1) * bin m (l - (k + 1))) l = 0 := by
      rw [Sg_ext (a := 0) _ l (by omega) (fun k _ _ => by
        show 0 * _ = 0
        rw [Nat.zero_mul])]
      rfl
    rw [this, bin_0, Nat.one_mul, Nat.sub_zero, Nat.zero_add, Nat.add_zero]
  | h + 1, 0 => by
    show 0 + bin (h + 1) 0 * bin m (0 - 0) = _
    rw [bin_0, bin_0, bin_0]
  | h + 1, l + 1 => by
    have e1 := vdm m h (l + 1)
    have e2 := vdm m h l
    rw [Sg_first] at e1
    rw [Sg_first]
    have e3 : Sg (fun k => bin (h + 1) (k + 1) * bin m (l + 1 - (k + 1))) (l + 1) = Sg (fun k => bin h k * bin m (l - k)) (l + 1) + Sg (fun k => bin h (k + 1) * bin m (l + 1 - (k + 1))) (l + 1) := by
      rw [← Sg_add]
      refine Sg_congr _ (fun k hk => ?_)
      show (bin h k + bin h (k + 1)) * bin m (l + 1 - (k + 1)) = bin h k * bin m (l - k) + bin h (k + 1) * bin m (l + 1 - (k + 1))
      rw [Nat.add_mul, show l + 1 - (k + 1) = l - k by omega]
    have e4 : bin (h + m + 1) (l + 1) = bin (h + m) l + bin (h + m) (l + 1) := rfl
    rw [e3, e2, show h + 1 + m = (h + m) + 1 by omega, e4, ← e1, bin_0, bin_0]
    omega
def fb : Nat → Nat
  | 0 => 0
  | 1 => 1
  | n + 2 => fb (n + 1) + fb n
theorem fb_mono (n : Nat) : fb (n + 1) ≤ fb (n + 2) := by
  rw [fb]
  omega
theorem fb_10 (n : Nat) : 89 * fb (n + 2) ≤ fb (n + 12) := by
  have h0 : fb (n + 2) ≤ fb (n + 3) := fb_mono (n + 1)
  have e4 : fb (n + 4) = fb (n + 3) + fb (n + 2) := rfl
  have e5 : fb (n + 5) = fb (n + 4) + fb (n + 3) := rfl
  have e6 : fb (n + 6) = fb (n + 5) + fb (n + 4) := rfl
  have e7 : fb (n + 7) = fb (n + 6) + fb (n + 5) := rfl
  have e8 : fb (n + 8) = fb (n + 7) + fb (n + 6) := rfl
  have e9 : fb (n + 9) = fb (n + 8) + fb (n + 7) := rfl
  have e10 : fb (n + 10) = fb (n + 9) + fb (n + 8) := rfl
  have e11 : fb (n + 11) = fb (n + 10) + fb (n + 9) := rfl
  have e12 : fb (n + 12) = fb (n + 11) + fb (n + 10) := rfl
  omega
theorem fb_big : 2 ^ 62 < fb 102 := by
  have h0 : fb 2 = 1 := rfl
  have h1 := fb_10 0
  have h2 := fb_10 10
  have h3 := fb_10 20
  have h4 := fb_10 30
  have h5 := fb_10 40
  have h6 := fb_10 50
  have h7 := fb_10 60
  have h8 := fb_10 70
  have h9 := fb_10 80
  have h10 := fb_10 90
  simp only [Nat.zero_add, Nat.reduceAdd] at h1 h2 h3 h4 h5 h6 h7 h8 h9 h10
  omega
theorem eu_step {r a b : Nat} (hb : b ≠ 0) (hab : b ≤ a) (h : a < fb (r + 3) ∨ b < fb (r + 2)) : b < fb (r + 2) ∨ a % b < fb (r + 1) := by
  by_cases c : b < fb (r + 2)
  · exact Or.inl c
  · have h1 := h.resolve_right c
    have e3 : fb (r + 3) = fb (r + 2) + fb (r + 1) := rfl
    have h2 : a % b ≤ a - b := by
      rw [Nat.mod_eq_sub_mod hab]
      exact Nat.mod_le _ _
    exact Or.inr (by omega)
theorem gcd_st (a b : Nat) : Nat.gcd b (a % b) = Nat.gcd a b := by
  rw [Nat.gcd_comm a b, Nat.gcd_rec b a, Nat.gcd_comm]
theorem cmp0 {b : Nat} (hb : b < 2 ^ 63) : lg_cmp (lN b) 0 = 0 ↔ b = 0 := by
  rw [lg_cmp_eq]
  show lN b = lN 0 ↔ _
  rw [pk_lEQ hb (by decide)]
theorem ceu : ∀ (r a b i fuel : Nat), (a < fb (r + 2) ∨ b < fb (r + 1)) → b ≤ a → a < 2 ^ 63 → i + r ≤ 100 → r < fuel → X2_commonOf_L9 fuel (lN a) (lN b) (nI i) = some (lN (Nat.gcd a b)) := by
  intro r
  induction r with
  | zero =>
    intro a b i fuel h hab ha hi hf
    obtain ⟨fuel, rfl⟩ : ∃ k, fuel = k + 1 := ⟨fuel - 1, by omega⟩
    have f2 : fb 2 = 1 := rfl
    have f1 : fb 1 = 1 := rfl
    rw [Nat.zero_add, Nat.zero_add, f2, f1] at h
    have b0 : b = 0 := by omega
    subst b0
    show X2_commonOf_L9_B _ (lN a) (lN 0) (nI i) = _
    unfold X2_commonOf_L9_B X2_commonOf_J44
    rw [Nat.gcd_zero_right]
    by_cases c : (100 : Int32) ≤ nI i
    · rw [if_pos c]
    · rw [if_neg c, if_pos ((cmp0 (by decide)).mpr rfl)]
  | succ r ih =>
    intro a b i fuel h hab ha hi hf
    obtain ⟨fuel, rfl⟩ : ∃ k, fuel = k + 1 := ⟨fuel - 1, by omega⟩
    show X2_commonOf_L9_B (X2_commonOf_L9 fuel) (lN a) (lN b) (nI i) = _
    unfold X2_commonOf_L9_B X2_commonOf_J44
    rw [if_neg (show ¬ (100 : Int32) ≤ nI i from nI_ge (b := 100) (by omega) (by decide))]
    by_cases c : b = 0
    · subst c
      rw [if_pos ((cmp0 (by decide)).mpr rfl), Nat.gcd_zero_right]
    · have hl : ¬ lN b = 0 := fun e => c ((pk_lEQ (b := 0) (by omega) (by decide)).mp e)
      rw [if_neg (fun e => c ((cmp0 (by omega)).mp e)), dvL_ne hl, nm_eq, nm_eq, pk_lRem ha (by omega) (by omega), show nI i + 1 = nI (i + 1) from nI_1 i, ← gcd_st]
      exact ih b (a % b) (i + 1) fuel (eu_step c hab h) (Nat.le_of_lt (Nat.mod_lt _ (by omega))) (by omega) (by omega) (by omega)
theorem meu (ways : Nat → Int64) (th l5 : Int32) (l6 l8 : Int64) : ∀ (r a b fuel : Nat), (a < fb (r + 2) ∨ b < fb (r + 1)) → b ≤ a → a < 2 ^ 63 → r < fuel → X8_odds_L171 ways fuel th l5 l6 l8 (lN a) (lN b) = X8_odds_J196 ways th l5 l6 l8 (lN (Nat.gcd a b)) := by
  intro r
  induction r with
  | zero =>
    intro a b fuel h hab ha hf
    obtain ⟨fuel, rfl⟩ : ∃ k, fuel = k + 1 := ⟨fuel - 1, by omega⟩
    have f2 : fb 2 = 1 := rfl
    have f1 : fb 1 = 1 := rfl
    rw [Nat.zero_add, Nat.zero_add, f2, f1] at h
    have b0 : b = 0 := by omega
    subst b0
    show X8_odds_L171_B ways _ th l5 l6 l8 (lN a) (lN 0) = _
    unfold X8_odds_L171_B
    rw [Nat.gcd_zero_right, if_pos ((cmp0 (by decide)).mpr rfl)]
  | succ r ih =>
    intro a b fuel h hab ha hf
    obtain ⟨fuel, rfl⟩ : ∃ k, fuel = k + 1 := ⟨fuel - 1, by omega⟩
    show X8_odds_L171_B ways (X8_odds_L171 ways fuel) th l5 l6 l8 (lN a) (lN b) = _
    unfold X8_odds_L171_B
    by_cases c : b = 0
    · subst c
      rw [if_pos ((cmp0 (by decide)).mpr rfl), Nat.gcd_zero_right]
    · have hl : ¬ lN b = 0 := fun e => c ((pk_lEQ (b := 0) (by omega) (by decide)).mp e)
      rw [if_neg (fun e => c ((cmp0 (by omega)).mp e)), dvL_ne hl, nm_eq, pk_lRem ha (by omega) (by omega), ← gcd_st]
      exact ih b (a % b) fuel (eu_step c hab h) (Nat.le_of_lt (Nat.mod_lt _ (by omega))) (by omega) (by omega)
