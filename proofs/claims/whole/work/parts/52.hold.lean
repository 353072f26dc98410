def hdN (PR : Nat → Nat) (a v : Nat) : Nat → Nat → (Nat → Nat) × Nat
  | _, 0 => (PR, 0)
  | t, d + 1 => if (hdN PR a v t d).1 (100 * a + (t + d)) = v then hdN PR a v t d else (upN (hdN PR a v t d).1 (100 * a + (t + d)) v, (hdN PR a v t d).2 + 1)
theorem hd_out {PR : Nat → Nat} {a v t : Nat} {k : Nat} : ∀ d, (∀ i, i < d → k ≠ 100 * a + (t + i)) → (hdN PR a v t d).1 k = PR k
  | 0, _ => rfl
  | d + 1, h => by
    rw [hdN]
    split
    · exact hd_out d (fun i hi => h i (by omega))
    · show upN (hdN PR a v t d).1 (100 * a + (t + d)) v k = _
      rw [upN_n _ _ (h d (by omega))]
      exact hd_out d (fun i hi => h i (by omega))
theorem hd_le {PR : Nat → Nat} {a v t : Nat} (hv : v ≤ 5) (hp : ∀ k, k < 600 → PR k ≤ 5) : ∀ d k, k < 600 → (hdN PR a v t d).1 k ≤ 5
  | 0, k, hk => hp k hk
  | d + 1, k, hk => by
    rw [hdN]
    split
    · exact hd_le hv hp d k hk
    · show upN (hdN PR a v t d).1 (100 * a + (t + d)) v k ≤ 5
      by_cases e : k = 100 * a + (t + d)
      · subst e
        rw [upN_s]
        exact hv
      · rw [upN_n _ _ e]
        exact hd_le hv hp d k hk
theorem hd_cnt {PR : Nat → Nat} {a v t : Nat} : ∀ d, (hdN PR a v t d).2 ≤ d
  | 0 => Nat.le_refl 0
  | d + 1 => by
    have := hd_cnt (PR := PR) (a := a) (v := v) (t := t) d
    rw [hdN]
    split
    · omega
    · show (hdN PR a v t d).2 + 1 ≤ d + 1
      omega
