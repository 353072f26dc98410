theorem wy_in {i : Nat} (hi : i < 61) {rec258 : (Nat → Int64) → Int32 → Option (Nat → Int64)} : ∀ (d j fuel : Nat) (wy : Nat → Int64), j + d = i + 1 → d < fuel → (∀ a b, a < i → b ≤ a → wy (61 * a + b) = lN (bin a b)) → (∀ b, b < j → wy (61 * i + b) = lN (bin i b)) → ∃ wy', X8_init_L266 rec258 fuel wy (nI i) (nI j) = rec258 wy' (nI (i + 1)) ∧ ∀ a b, a < i + 1 → b ≤ a → wy' (61 * a + b) = lN (bin a b) := by
  intro d
  induction d with
  | zero =>
    intro j fuel wy hj hf h1 h2
    obtain ⟨fuel, rfl⟩ : ∃ k, fuel = k + 1 := ⟨fuel - 1, by omega⟩
    refine ⟨wy, ?_, fun a b ha hb => ?_⟩
    · show X8_init_L266_B rec258 _ wy (nI i) (nI j) = _
      unfold X8_init_L266_B X8_init_J330
      rw [if_pos (nI_lt (by omega) (by omega)), nm_eq, show nI i + 1 = nI (i + 1) from nI_1 i]
    · by_cases e : a = i
      · subst e
        exact h2 b (by omega)
      · exact h1 a b (by omega) hb
  | succ d ih =>
    intro j fuel wy hj hf h1 h2
    obtain ⟨fuel, rfl⟩ : ∃ k, fuel = k + 1 := ⟨fuel - 1, by omega⟩
    have i1 : (61 : Int32) * nI i + nI j = nI (61 * i + j) := by
      show nI 61 * nI i + nI j = _
      rw [pk_mul, nI_add]
    have hs : X8_init_L266 rec258 (fuel + 1) wy (nI i) (nI j) = X8_init_L266 rec258 fuel (vp_updL wy (61 * i + j) (lN (bin i j))) (nI i) (nI (j + 1)) := by
      show X8_init_L266_B rec258 (X8_init_L266 rec258 fuel) wy (nI i) (nI j) = _
      unfold X8_init_L266_B X8_init_J290 X8_init_J323
      rw [if_neg (nI_nlt (by omega) (by omega)), i1, wrJ_nI wy (by omega) (by decide), nm_eq, show nI j + 1 = nI (j + 1) from nI_1 j]
      by_cases c0 : j = 0
      · subst c0
        rw [if_pos nI_0, bin_0]
        rfl
      · rw [if_neg (nI_ne0 (by omega) (by omega))]
        by_cases c1 : j = i
        · subst c1
          rw [if_pos rfl, bin_self]
          rfl
        · obtain ⟨i', rfl⟩ : ∃ k, i = k + 1 := ⟨i - 1, by omega⟩
          obtain ⟨j', rfl⟩ : ∃ k, j = k + 1 := ⟨j - 1, by omega⟩
          have i2 : (61 : Int32) * nI i' + nI (j' + 1) = nI (61 * i' + (j' + 1)) := by
            show nI 61 * nI i' + nI (j' + 1) = _
            rw [pk_mul, nI_add]
          have i3 : nI (61 * i' + (j' + 1)) - 1 = nI (61 * i' + j') := nI_pred _
          rw [if_neg (fun q => c1 (nI_inj (by omega) (by omega) q)), nI_pred, i2, i3, rd_nI wy (by omega) (by decide), rd_nI wy (by omega) (by decide), h1 i' j' (by omega) (by omega), h1 i' (j' + 1) (by omega) (by omega), wrJ_nI wy (by omega) (by decide), nm_eq, lN_add]
          rfl
    rw [hs]
    refine ih (j + 1) fuel _ (by omega) (by omega) (fun a b ha hb => ?_) (fun b hb => ?_)
    · rw [pk_uLn (by omega)]
      exact h1 a b ha hb
    · by_cases e : b = j
      · subst e
        rw [pk_uLs]
      · rw [pk_uLn (by omega)]
        exact h2 b (by omega)
theorem wy_out : ∀ (d i fuel : Nat) (wy : Nat → Int64), i + d = 61 → d < fuel → (∀ a b, a < i → b ≤ a → wy (61 * a + b) = lN (bin a b)) → ∃ wy', X8_init_L258 fuel wy (nI i) = some wy' ∧ ∀ a b, a < 61 → b ≤ a → wy' (61 * a + b) = lN (bin a b) := by
  intro d
  induction d with
  | zero =>
    intro i fuel wy hi hf h
    obtain ⟨fuel, rfl⟩ : ∃ k, fuel = k + 1 := ⟨fuel - 1, by omega⟩
    refine ⟨wy, ?_, fun a b ha hb => h a b (by omega) hb⟩
    show X8_init_L258_B _ wy (nI i) = _
    unfold X8_init_L258_B
    rw [if_pos (show (61 : Int32) ≤ nI i from nI_le (a := 61) (by omega) (by omega))]
  | succ d ih =>
    intro i fuel wy hi hf h
    obtain ⟨fuel, rfl⟩ : ∃ k, fuel = k + 1 := ⟨fuel - 1, by omega⟩
    obtain ⟨w1, e1, h1⟩ := wy_in (i := i) (by omega) (rec258 := X8_init_L258 fuel) (i + 1) 0 FU wy (by omega) (FU_big (by omega)) h (fun b hb => by omega)
    obtain ⟨w2, e2, h2⟩ := ih (i + 1) fuel w1 (by omega) (by omega) h1
    refine ⟨w2, ?_, h2⟩
    show X8_init_L258_B (X8_init_L258 fuel) wy (nI i) = _
    unfold X8_init_L258_B
    rw [if_neg (show ¬ (61 : Int32) ≤ nI i from nI_ge (b := 61) (by omega) (by decide))]
    exact e1.trans e2
theorem ways_ok : ∃ wy, X8_init (fun _ => 0) = some wy ∧ InvW wy := by
  obtain ⟨wy, e, h⟩ := wy_out 61 0 FU (fun _ => 0) (by omega) (FU_big (by omega)) (fun a b ha => by omega)
  exact ⟨wy, e, fun a b hb ha => h a b (by omega) hb⟩
