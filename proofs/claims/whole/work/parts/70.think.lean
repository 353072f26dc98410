def abv (M : Nat → Nat) (y : Nat) : Nat := if 0 < y then M (y - 1) else 0
def blw (H : Nat) (M : Nat → Nat) (y : Nat) : Nat := if y + 1 < H then M (y + 1) else 0
def nwM (W H : Nat) (M : Nat → Nat) (y : Nat) : Nat := (M y ||| M y * 2 ^ 1 ||| M y / 2 ^ 1 ||| abv M y ||| blw H M y) % 2 ^ W
theorem nwM_ok {W H : Nat} {M : Nat → Nat} {g : Nat → Bool} (hW : W ≤ 9) (hH : H ≤ 9) (h : BM W H M g) : BM W H (nwM W H M) (spG W H g) := by
  intro y hy
  refine ⟨Nat.mod_lt _ (Nat.two_pow_pos W), fun x hx => ?_⟩
  refine sp_bits (by omega) hW hx (h y hy).1 (h y hy).2 (fun x hx => ?_) (fun x hx => ?_)
  · unfold abv
    by_cases c : 0 < y
    · rw [if_pos c, decide_eq_true c, Bool.true_and]
      exact (h (y - 1) (by omega)).2 x hx
    · rw [if_neg c, decide_eq_false c, Nat.zero_testBit, Bool.false_and]
  · unfold blw
    by_cases c : y + 1 < H
    · rw [if_pos c, decide_eq_true c, Bool.true_and]
      exact (h (y + 1) c).2 x hx
    · rw [if_neg c, decide_eq_false c, Nat.zero_testBit, Bool.false_and]
theorem spread_L {W H : Nat} {M : Nat → Nat} {g : Nat → Bool} (hW : W ≤ 9) (hH : H ≤ 9) (h : BM W H M g) : ∀ (d i fuel : Nat) (masks : Nat → Int32), i + d = H → d < fuel → (∀ y, i ≤ y → y < H → masks y = nI (M y)) → (∀ y, y < i → masks y = nI (nwM W H M y)) → ∃ masks', X3_spread_L12 fuel masks (nI H) (nI (2 ^ W - 1)) (nI (abv M i)) (nI i) = some masks' ∧ ∀ y, y < H → masks' y = nI (nwM W H M y) := by
  have h512 := pw_lt hW
  intro d
  induction d with
  | zero =>
    intro i fuel masks hi hf h1 h2
    obtain ⟨fuel, rfl⟩ : ∃ k, fuel = k + 1 := ⟨fuel - 1, by omega⟩
    refine ⟨masks, ?_, fun y hy => h2 y (by omega)⟩
    show X3_spread_L12_B _ masks (nI H) (nI (2 ^ W - 1)) (nI (abv M i)) (nI i) = _
    unfold X3_spread_L12_B
    rw [if_pos (nI_le (by omega) (by omega))]
  | succ d ih =>
    intro i fuel masks hi hf h1 h2
    obtain ⟨fuel, rfl⟩ : ∃ k, fuel = k + 1 := ⟨fuel - 1, by omega⟩
    have m0 := (h i (by omega)).1
    have m1 : abv M i < 512 := by
      unfold abv
      split
      · have := (h (i - 1) (by omega)).1
        omega
      · decide
    have m2 : blw H M i < 512 := by
      unfold blw
      split
      · have := (h (i + 1) (by omega)).1
        omega
      · decide
    have hJ : X3_spread_J48 (X3_spread_L12 fuel) masks (nI H) (nI (2 ^ W - 1)) (nI (abv M i)) (nI i) (nI (M i)) (nI (blw H M i)) = X3_spread_L12 fuel (upd masks i (nI (nwM W H M i))) (nI H) (nI (2 ^ W - 1)) (nI (M i)) (nI (i + 1)) := by
      unfold X3_spread_J48
      have o1 : M i ||| M i * 2 ^ 1 < 2 ^ 10 := Nat.or_lt_two_pow (by omega) (by omega)
      have o2 : M i ||| M i * 2 ^ 1 ||| M i / 2 ^ 1 < 2 ^ 10 := Nat.or_lt_two_pow o1 (by omega)
      have o3 : M i ||| M i * 2 ^ 1 ||| M i / 2 ^ 1 ||| abv M i < 2 ^ 10 := Nat.or_lt_two_pow o2 (by omega)
      have o4 : M i ||| M i * 2 ^ 1 ||| M i / 2 ^ 1 ||| abv M i ||| blw H M i < 2 ^ 10 := Nat.or_lt_two_pow o3 (by omega)
      rw [pk_shlN ((1 : Int32) &&& 31) 1 (by decide) (by omega), pk_shrN (by omega) ((1 : Int32) &&& 31) 1 (by decide), or_nI (by omega) (by omega), or_nI (by omega) (by omega), or_nI (by omega) (by omega), or_nI (by omega) (by omega), pk_andN (by omega) W (pk_tn (by omega)), wrI_nI masks (by omega) (by decide), nm_eq, show nI i + 1 = nI (i + 1) from nI_1 i]
      rfl
    have hs : X3_spread_L12 (fuel + 1) masks (nI H) (nI (2 ^ W - 1)) (nI (abv M i)) (nI i) = X3_spread_L12 fuel (upd masks i (nI (nwM W H M i))) (nI H) (nI (2 ^ W - 1)) (nI (abv M (i + 1))) (nI (i + 1)) := by
      show X3_spread_L12_B (X3_spread_L12 fuel) masks (nI H) (nI (2 ^ W - 1)) (nI (abv M i)) (nI i) = _
      unfold X3_spread_L12_B
      have ea : abv M (i + 1) = M i := rfl
      rw [ea, ← hJ, if_neg (nI_ge (by omega) (by omega)), rd_nI masks (by omega) (by decide), h1 i (by omega) (by omega), show nI i + 1 = nI (i + 1) from nI_1 i]
      unfold blw
      by_cases c : i + 1 < H
      · rw [if_pos c, if_neg (nI_ge c (by omega)), rd_nI masks (by omega) (by decide), h1 (i + 1) (by omega) c]
      · rw [if_neg c, if_pos (nI_le (by omega) (by omega))]
        rfl
    rw [hs]
    refine ih (i + 1) fuel _ (by omega) (by omega) (fun y h3 h4 => ?_) (fun y hy => ?_)
    · rw [pk_un (by omega)]
      exact h1 y (by omega) h4
    · by_cases e : y = i
      · subst e
        rw [pk_us]
      · rw [pk_un e]
        exact h2 y (by omega)
theorem spread_ok {W H : Nat} {g : Nat → Bool} {masks : Nat → Int32} (hW : W ≤ 9) (hH : H ≤ 9) (h : CM W H masks g) : ∃ masks', X3_spread masks (nI W) (nI H) = some masks' ∧ CM W H masks' (spG W H g) := by
  obtain ⟨M, h1, h2⟩ := h
  unfold X3_spread
  rw [shl1 (by omega), show nI (2 ^ W) - 1 = nI (2 ^ W - 1) from pk_sub (b := 1) Nat.one_le_two_pow, nm_eq]
  obtain ⟨masks', e, h3⟩ := spread_L hW hH h2 H 0 FU masks (by omega) (FU_big (by omega)) (fun y _ hy => h1 y hy) (fun y hy => by omega)
  exact ⟨masks', e, nwM W H M, h3, nwM_ok hW hH h2⟩
theorem shl31 {q : Nat} (hq : q < 31) : (1 : Int32) <<< (nI q &&& (31 : Int32)) = nI (2 ^ q) := by
  have key : allB (fun q => decide ((1 : Int32) <<< (nI q &&& (31 : Int32)) = nI (2 ^ q))) 31 = true := by decide +kernel
  exact of_decide_eq_true (allB_of 31 key q hq)
theorem tb_run {f b x : Nat} (h : f ≤ b) : (2 ^ b - 2 ^ f).testBit x = (decide (f ≤ x) && decide (x < b)) := by
  have e : 2 ^ b - 2 ^ f = (2 ^ (b - f) - 1) * 2 ^ f := by
    rw [Nat.sub_mul, Nat.one_mul, ← Nat.pow_add, show b - f + f = b by omega]
  rw [e, Nat.testBit_mul_two_pow, Nat.testBit_two_pow_sub_one]
  by_cases c : f ≤ x
  · rw [decide_eq_true c]
    by_cases d : x < b
    · rw [decide_eq_true d, decide_eq_true (by omega)]
    · rw [decide_eq_false d, decide_eq_false (by omega)]
  · rw [decide_eq_false c]
    rfl
def rvM (ex ey si : Nat) (M : Nat → Nat) (y : Nat) : Nat := if adif ey y ≤ si then M y &&& (2 ^ 32 - (2 ^ (ex + (si - adif ey y) + 1) - 2 ^ (ex - (si - adif ey y)) + 1)) else M y
theorem rvM_ok {W H e si : Nat} {M : Nat → Nat} {g : Nat → Bool} (hW : W ≤ 9) (hH : H ≤ 9) (he : okp W H e) (hs : si ≤ 9) (h : BM W H M g) : BM W H (rvM (e % 16) (e / 16) si M) (fun p => g p && !decide (dst e p ≤ si)) := by
  unfold okp at he
  intro y hy
  obtain ⟨h1, h2⟩ := h y hy
  unfold rvM
  by_cases c : adif (e / 16) y ≤ si
  · rw [if_pos c]
    refine ⟨Nat.lt_of_le_of_lt Nat.and_le_left h1, fun x hx => ?_⟩
    have hk : 2 ^ (e % 16 + (si - adif (e / 16) y) + 1) - 2 ^ (e % 16 - (si - adif (e / 16) y)) < 2 ^ 32 := by
      have : 2 ^ (e % 16 + (si - adif (e / 16) y) + 1) ≤ 2 ^ 20 := Nat.pow_le_pow_right (by decide) (by omega)
      exact Nat.lt_of_le_of_lt (Nat.sub_le _ _) (Nat.lt_of_le_of_lt this (by decide))
    rw [Nat.testBit_and, Nat.testBit_two_pow_sub_succ hk, tb_run (by omega), h2 x hx, decide_eq_true (show x < 32 by omega), Bool.true_and]
    congr 2
    have e1 : (16 * y + x) % 16 = x := by omega
    have e2 : (16 * y + x) / 16 = y := by omega
    unfold dst
    rw [e1, e2, ← Bool.decide_and]
    clear hk
    generalize adif (e / 16) y = k at c ⊢
    apply decide_eq_decide.mpr
    unfold adif
    split <;> omega
  · rw [if_neg c]
    refine ⟨h1, fun x hx => ?_⟩
    have e1 : (16 * y + x) % 16 = x := by omega
    have e2 : (16 * y + x) / 16 = y := by omega
    rw [h2 x hx]
    show _ = (g (16 * y + x) && !decide (dst e (16 * y + x) ≤ si))
    unfold dst
    rw [e1, e2, decide_eq_false (by omega), Bool.not_false, Bool.and_true]
theorem remove_L {W H e si : Nat} {M : Nat → Nat} {g : Nat → Bool} (hW : W ≤ 9) (hH : H ≤ 9) (he : okp W H e) (hs : si ≤ 9) (h : BM W H M g) : ∀ (d i fuel : Nat) (masks : Nat → Int32), i + d = H → d < fuel → (∀ y, i ≤ y → y < H → masks y = nI (M y)) → (∀ y, y < i → masks y = nI (rvM (e % 16) (e / 16) si M y)) → ∃ masks', X3_removeSeen_L3 fuel masks (nI e) (nI si) (nI H) (nI i) = some masks' ∧ ∀ y, y < H → masks' y = nI (rvM (e % 16) (e / 16) si M y) := by
  have h512 := pw_lt hW
  have hlt := okp_lt hW hH he
  unfold okp at he
  intro d
  induction d with
  | zero =>
    intro i fuel masks hi hf h1 h2
    obtain ⟨fuel, rfl⟩ : ∃ k, fuel = k + 1 := ⟨fuel - 1, by omega⟩
    refine ⟨masks, ?_, fun y hy => h2 y (by omega)⟩
    show X3_removeSeen_L3_B _ masks (nI e) (nI si) (nI H) (nI i) = _
    unfold X3_removeSeen_L3_B
    rw [if_pos (nI_le (by omega) (by omega))]
  | succ d ih =>
    intro i fuel masks hi hf h1 h2
    obtain ⟨fuel, rfl⟩ : ∃ k, fuel = k + 1 := ⟨fuel - 1, by omega⟩
    have m0 := (h i (by omega)).1
    have ha9 : adif (e / 16) i ≤ 9 := by
      unfold adif
      split <;> omega
    have hnext : ∀ masks1 : Nat → Int32, masks1 i = nI (rvM (e % 16) (e / 16) si M i) → (∀ y, y ≠ i → masks1 y = masks y) → ∃ masks', X3_removeSeen_L3 fuel masks1 (nI e) (nI si) (nI H) (nI (i + 1)) = some masks' ∧ ∀ y, y < H → masks' y = nI (rvM (e % 16) (e / 16) si M y) := fun masks1 k1 k2 => by
      refine ih (i + 1) fuel _ (by omega) (by omega) (fun y h3 h4 => ?_) (fun y hy => ?_)
      · rw [k2 y (by omega)]
        exact h1 y (by omega) h4
      · by_cases q : y = i
        · subst q
          exact k1
        · rw [k2 y q]
          exact h2 y (by omega)
    show ∃ masks', X3_removeSeen_L3_B (X3_removeSeen_L3 fuel) masks (nI e) (nI si) (nI H) (nI i) = some masks' ∧ _
    unfold X3_removeSeen_L3_B X3_removeSeen_J73
    rw [if_neg (nI_ge (by omega) (by omega)), yOf_nI (by omega), bd_some, abs_sub (by omega) (by omega), xOf_nI (by omega)]
    simp only [nm_eq, bd_some]
    rw [show nI i + 1 = nI (i + 1) from nI_1 i]
    by_cases c : adif (e / 16) i ≤ si
    · rw [pk_sub c, if_neg (nI_pos (by omega))]
      have ef : (if (0 : Int32) < nI (e % 16) - nI (si - adif (e / 16) i) then nI (e % 16) - nI (si - adif (e / 16) i) else 0) = nI (e % 16 - (si - adif (e / 16) i)) := by
        by_cases q : si - adif (e / 16) i < e % 16
        · rw [pk_sub (by omega), if_pos (show (0 : Int32) < nI (e % 16 - (si - adif (e / 16) i)) from nI_lt (a := 0) (by omega) (by omega))]
        · by_cases q2 : si - adif (e / 16) i = e % 16
          · rw [q2, pk_sub (Nat.le_refl _), Nat.sub_self]
            rfl
          · rw [if_neg (fun z => by
              have z1 := pk_sneg (a := e % 16) (b := si - adif (e / 16) i) (by omega) (by omega)
              rw [lt0I] at z1
              rw [ltI] at z
              have z0 : (0 : Int32).toInt = 0 := rfl
              omega), show e % 16 - (si - adif (e / 16) i) = 0 by omega]
            rfl
      have hk : 2 ^ (e % 16 + (si - adif (e / 16) i) + 1) ≤ 2 ^ 20 := Nat.pow_le_pow_right (by decide) (by omega)
      have hk2 : 2 ^ (e % 16 - (si - adif (e / 16) i)) ≤ 2 ^ (e % 16 + (si - adif (e / 16) i) + 1) := Nat.pow_le_pow_right (by decide) (by omega)
      have hk3 : 2 ^ (e % 16 + (si - adif (e / 16) i) + 1) - 2 ^ (e % 16 - (si - adif (e / 16) i)) < 2 ^ 32 := Nat.lt_of_le_of_lt (Nat.sub_le _ _) (Nat.lt_of_le_of_lt hk (by decide))
      rw [ef, nI_add, show nI (e % 16 + (si - adif (e / 16) i)) + 1 = nI (e % 16 + (si - adif (e / 16) i) + 1) from nI_1 _, shl31 (by omega), shl31 (by omega), pk_sub hk2, not_nI hk3, rd_nI masks (by omega) (by decide), h1 i (by omega) (by omega), and_nI (by omega) (by omega), wrI_nI masks (by omega) (by decide)]
      refine hnext _ ?_ (fun y hy => pk_un hy)
      rw [pk_us]
      unfold rvM
      rw [if_pos c]
    · rw [if_pos (pk_sneg (by omega) (by omega))]
      refine hnext masks ?_ (fun y hy => rfl)
      rw [h1 i (by omega) (by omega)]
      unfold rvM
      rw [if_neg c]
theorem remove_ok {W H e si : Nat} {g : Nat → Bool} {masks : Nat → Int32} (hW : W ≤ 9) (hH : H ≤ 9) (he : okp W H e) (hs : si ≤ 9) (h : CM W H masks g) : ∃ masks', X3_removeSeen masks (nI e) (nI si) (nI H) = some masks' ∧ CM W H masks' (fun p => g p && !decide (dst e p ≤ si)) := by
  obtain ⟨M, h1, h2⟩ := h
  unfold X3_removeSeen
  obtain ⟨masks', q, h3⟩ := remove_L hW hH he hs h2 H 0 FU masks (by omega) (FU_big (by omega)) (fun y _ hy => h1 y hy) (fun y hy => by omega)
  exact ⟨masks', q, _, h3, rvM_ok hW hH he hs h2⟩
