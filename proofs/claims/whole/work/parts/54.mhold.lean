theorem mhold_L {hands : Nat → Int32} {PR : Nat → Nat} {a v t0 t1 : Nat} (ha : a < 6) (hv : v ≤ 5) (h01 : t0 ≤ t1) (ht1 : t1 < 100) (hp5 : ∀ k, k < 600 → PR k ≤ 5) (th : Int32) : ∀ (d e fuel : Nat) (pressed : Nat → Int32), t0 + e + d = t1 + 1 → d < fuel → (∀ k, k < 600 → pressed (600 * 4 + k) = nI ((hdN PR a v t0 e).1 k)) → ∃ pressed', X8_hold_L56 hands fuel th pressed (nI a) (nI t1) (nI v) (nI (hdN PR a v t0 e).2) (nI (t0 + e)) = some (nI (hdN PR a v t0 (t1 + 1 - t0)).2, th, pressed') ∧ (∀ k, k < 600 → pressed' (600 * 4 + k) = nI ((hdN PR a v t0 (t1 + 1 - t0)).1 k)) ∧ LowEq pressed' pressed 2400 := by
  intro d
  induction d with
  | zero =>
    intro e fuel pressed he hf h
    obtain ⟨fuel, rfl⟩ : ∃ k, fuel = k + 1 := ⟨fuel - 1, by omega⟩
    have ee : t1 + 1 - t0 = e := by omega
    refine ⟨pressed, ?_, by rw [ee]; exact h, fun _ _ => rfl⟩
    show X8_hold_L56_B hands _ th pressed (nI a) (nI t1) (nI v) _ (nI (t0 + e)) = _
    unfold X8_hold_L56_B
    rw [if_pos (nI_lt (by omega) (by omega)), ee]
  | succ d ih =>
    intro e fuel pressed he hf h
    obtain ⟨fuel, rfl⟩ : ∃ k, fuel = k + 1 := ⟨fuel - 1, by omega⟩
    have g5 := hd_le (t := t0) (a := a) hv hp5 e (100 * a + (t0 + e)) (by omega)
    have e2 : (2400 : Int32) + 100 * nI a + nI (t0 + e) = nI (600 * 4 + (100 * a + (t0 + e))) := by
      show nI 2400 + nI 100 * nI a + nI (t0 + e) = _
      rw [pk_mul, nI_add, nI_add, Nat.add_assoc]
    have hstep : X8_hold_L56 hands (fuel + 1) th pressed (nI a) (nI t1) (nI v) (nI (hdN PR a v t0 e).2) (nI (t0 + e)) = X8_hold_L56 hands fuel th (upd pressed (600 * 4 + (100 * a + (t0 + e))) (nI v)) (nI a) (nI t1) (nI v) (nI (hdN PR a v t0 (e + 1)).2) (nI (t0 + (e + 1))) := by
      show X8_hold_L56_B hands (X8_hold_L56 hands fuel) th pressed (nI a) (nI t1) (nI v) _ (nI (t0 + e)) = _
      unfold X8_hold_L56_B X8_hold_J94
      rw [if_neg (nI_nlt (by omega) (by omega)), nm_eq, e2, rd_nI pressed (by omega) (by decide), h _ (by omega), hdN]
      simp only [nm_eq, wrI_nI pressed (show 600 * 4 + (100 * a + (t0 + e)) < 3000 by omega) (by decide), show nI (t0 + e) + 1 = nI (t0 + (e + 1)) from nI_1 _, show nI (hdN PR a v t0 e).2 + 1 = nI ((hdN PR a v t0 e).2 + 1) from nI_1 _, Int32.add_zero]
      by_cases c : (hdN PR a v t0 e).1 (100 * a + (t0 + e)) = v
      · rw [if_pos (by rw [c]), if_pos c]
      · rw [if_neg (fun q => c (nI_inj (by omega) (by omega) q)), if_neg c]
    rw [hstep]
    obtain ⟨p', q1, q2, q3⟩ := ih (e + 1) fuel (upd pressed (600 * 4 + (100 * a + (t0 + e))) (nI v)) (by omega) (by omega) (fun k hk => by
      rw [hdN]
      by_cases q : k = 100 * a + (t0 + e)
      · subst q
        rw [pk_us]
        split
        · rename_i c
          rw [c]
        · show nI v = nI (upN _ _ _ _)
          rw [upN_s]
      · rw [pk_un (by omega), h k hk]
        split
        · rfl
        · show _ = nI (upN _ _ _ _)
          rw [upN_n _ _ q])
    exact ⟨p', q1, q2, fun k hk => by rw [q3 k hk, pk_un (by omega)]⟩
