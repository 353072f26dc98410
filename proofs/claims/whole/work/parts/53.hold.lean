theorem setP_ok {pr : Nat → Int32} {a t : Nat} (ha : a < 6) (ht : t < 100) (v : Int32) : X5_setPress pr (nI a) (nI t) v = some (upd pr (100 * a + t) v) := by
  unfold X5_setPress
  rw [idx100', wrI_nI pr (by omega) (by decide)]
theorem hold_L {n ready : Int32} {PR : Nat → Nat} {a v t0 t1 R : Nat} (ha : a < 6) (hv : v ≤ 5) (h01 : t0 ≤ t1) (ht1 : t1 < 100) (eR : ready = nI R) (hR : R ≤ 100) (hp5 : ∀ k, k < 600 → PR k ≤ 5) : ∀ (d e fuel : Nat) (pr : Nat → Int32), t0 + e + d = t1 + 1 → d < fuel → (∀ k, k < 600 → pr k = nI ((hdN PR a v t0 e).1 k)) → ∃ pr', X7_hold_L46 n fuel pr ready (nI a) (nI t0) (nI t1) (nI v) (nI (hdN PR a v t0 e).2) (nI (t0 + e)) = some (nI (hdN PR a v t0 (t1 + 1 - t0)).2, pr', nI (if t0 < R then t0 else R)) ∧ ∀ k, k < 600 → pr' k = nI ((hdN PR a v t0 (t1 + 1 - t0)).1 k) := by
  intro d
  induction d with
  | zero =>
    intro e fuel pr he hf h
    obtain ⟨fuel, rfl⟩ : ∃ k, fuel = k + 1 := ⟨fuel - 1, by omega⟩
    have ee : t1 + 1 - t0 = e := by omega
    refine ⟨pr, ?_, by rw [ee]; exact h⟩
    show X7_hold_L46_B n _ pr ready (nI a) (nI t0) (nI t1) (nI v) _ (nI (t0 + e)) = _
    unfold X7_hold_L46_B
    rw [if_pos (nI_lt (by omega) (by omega))]
    unfold X7_hold_J88
    rw [eR, keep_ok hR (by omega), bd_some, ee]
  | succ d ih =>
    intro e fuel pr he hf h
    obtain ⟨fuel, rfl⟩ : ∃ k, fuel = k + 1 := ⟨fuel - 1, by omega⟩
    have g5 := hd_le (t := t0) (a := a) hv hp5 e (100 * a + (t0 + e)) (by omega)
    have hstep : X7_hold_L46 n (fuel + 1) pr ready (nI a) (nI t0) (nI t1) (nI v) (nI (hdN PR a v t0 e).2) (nI (t0 + e)) = X7_hold_L46 n fuel (if (hdN PR a v t0 e).1 (100 * a + (t0 + e)) = v then pr else upd pr (100 * a + (t0 + e)) (nI v)) ready (nI a) (nI t0) (nI t1) (nI v) (nI (hdN PR a v t0 (e + 1)).2) (nI (t0 + (e + 1))) := by
      show X7_hold_L46_B n (X7_hold_L46 n fuel) pr ready (nI a) (nI t0) (nI t1) (nI v) _ (nI (t0 + e)) = _
      unfold X7_hold_L46_B X7_hold_J82
      rw [if_neg (nI_nlt (by omega) (by omega)), pressOf_ok ha (by omega), bd_some, h _ (by omega), setP_ok ha (by omega), hdN]
      simp only [nm_eq, bd_some, show nI (t0 + e) + 1 = nI (t0 + (e + 1)) from nI_1 _, show nI (hdN PR a v t0 e).2 + 1 = nI ((hdN PR a v t0 e).2 + 1) from nI_1 _]
      by_cases c : (hdN PR a v t0 e).1 (100 * a + (t0 + e)) = v
      · rw [if_pos (by rw [c]), if_pos c, if_pos c]
      · rw [if_neg (fun q => c (nI_inj (by omega) (by omega) q)), if_neg c, if_neg c]
    rw [hstep]
    refine ih (e + 1) fuel _ (by omega) (by omega) (fun k hk => ?_)
    rw [hdN]
    by_cases c : (hdN PR a v t0 e).1 (100 * a + (t0 + e)) = v
    · rw [if_pos c, if_pos c]
      exact h k hk
    · rw [if_neg c, if_neg c]
      show upd pr (100 * a + (t0 + e)) (nI v) k = nI (upN (hdN PR a v t0 e).1 (100 * a + (t0 + e)) v k)
      by_cases q : k = 100 * a + (t0 + e)
      · subst q
        rw [pk_us, upN_s]
      · rw [pk_un q, upN_n _ _ q]
        exact h k hk
