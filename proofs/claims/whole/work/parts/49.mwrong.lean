section MWRONG
variable {wide tall hands power spin seed pressed leftFrom leftTo wait isLost : Nat → Int32} {W H N pw sp sd : Nat} {WA LO LF LT PR : Nat → Nat}
theorem mwrong_L (hn : PlayN W H N pw sp sd LF LT PR) (hm : MP wide tall hands power spin seed pressed leftFrom leftTo 4 W H N pw sp sd LF LT PR) (hl : LinN wait isLost WA LO) {D g m : Nat} (hD : D ≤ 9) (hg : g < 6) (hm9 : m < 100) (th run : Int32) {ts : Nat → Int32} (hT : ∀ j, j ≤ m → TM W N ts (13 * j) (trj W H N pw sp sd LF LT (prT PR) (j + 1))) (f : Nat → Bool) (hf : ∀ c, f c = eqn (trj W H N pw sp sd LF LT (tkT WA LO LF LT PR D g c) (c + 1)) (trj W H N pw sp sd LF LT (prT PR) (c + 1)) 13) : ∀ (d c fuel : Nat) (ball w0 h0 n0 : Int32) (place points other takes : Nat → Int32), c + d = m + 1 → d < fuel → ∃ om, X8_wrong_L87 (nI D) wide tall hands power spin seed pressed leftFrom leftTo wait isLost fuel th ball w0 h0 n0 place points other takes ts (nI g) (nI m) run (nI (wrC f c).1) (nI (wrC f c).2.1) (nI (wrC f c).2.2) (nI c) = some om ∧ om.1 = (if run = 0 then nI (wrC f (m + 1)).1 else nI (wrC f (m + 1)).2.2) := by
  have hb := hn.1
  obtain ⟨b1, b2, b3, b4, b5, b6⟩ := hb
  intro d
  induction d with
  | zero =>
    intro c fuel ball w0 h0 n0 place points other takes hcm hfu
    obtain ⟨fuel, rfl⟩ : ∃ k, fuel = k + 1 := ⟨fuel - 1, by omega⟩
    have ec : c = m + 1 := by omega
    subst ec
    show ∃ om, X8_wrong_L87_B (nI D) wide tall hands power spin seed pressed leftFrom leftTo wait isLost _ th ball w0 h0 n0 place points other takes ts (nI g) (nI m) run _ _ _ (nI (m + 1)) = some om ∧ _
    unfold X8_wrong_L87_B
    rw [if_pos (nI_lt (by omega) (by omega))]
    unfold X8_wrong_J188
    by_cases q : run = 0
    · rw [if_pos q, if_pos q]
      exact ⟨_, rfl, rfl⟩
    · rw [if_neg q, if_neg q]
      exact ⟨_, rfl, rfl⟩
  | succ d ih =>
    intro c fuel ball w0 h0 n0 place points other takes hcm hfu
    obtain ⟨fuel, rfl⟩ : ∃ k, fuel = k + 1 := ⟨fuel - 1, by omega⟩
    obtain ⟨bl, pl, pt, rw', f1, f2, f3⟩ := mshow_ok hn hm hl hD hg (show c < 100 by omega) ball w0 h0 n0 place points takes
    obtain ⟨ot, g1, g2, -⟩ := write_ok (n1 := 13) (F := 0) b6 (by decide) (by omega) f2 f3 other
    have hlike := mlike_ok (n1 := 13) (n3 := 1300) (F := 0) (G := 13 * c) (by decide) (by decide) (by omega) (by omega) g2 (hT c (by omega)) b2 b4 (trj_ok hn.1 (c + 1)) (trj_ok hn.1 (c + 1)) (fun j hj => trj_lt hn.1 (by omega) hj) (fun j hj => trj_lt hn.1 (by omega) hj) (fun j q1 q2 => by rw [trj_mid q1 q2, trj_mid q1 q2])
    rw [← hf c] at hlike
    have hw := wrC_le f c
    have hs : X8_wrong_L87 (nI D) wide tall hands power spin seed pressed leftFrom leftTo wait isLost (fuel + 1) th ball w0 h0 n0 place points other takes ts (nI g) (nI m) run (nI (wrC f c).1) (nI (wrC f c).2.1) (nI (wrC f c).2.2) (nI c) = X8_wrong_L87 (nI D) wide tall hands power spin seed pressed leftFrom leftTo wait isLost fuel th bl (nI W) (nI H) (nI N) pl pt ot rw' ts (nI g) (nI m) run (nI (wrC f (c + 1)).1) (nI (wrC f (c + 1)).2.1) (nI (wrC f (c + 1)).2.2) (nI (c + 1)) := by
      show X8_wrong_L87_B (nI D) wide tall hands power spin seed pressed leftFrom leftTo wait isLost (X8_wrong_L87 (nI D) wide tall hands power spin seed pressed leftFrom leftTo wait isLost fuel) th ball w0 h0 n0 place points other takes ts (nI g) (nI m) run _ _ _ (nI c) = _
      unfold X8_wrong_L87_B
      rw [if_neg (nI_nlt (by omega) (by omega)), f1, bd_some, show (13 : Int32) * nI c = nI (13 * c) from pk_mul 13 c, show (0 : Int32) = nI 0 from rfl, g1, bd_some, hlike, bd_some]
      unfold X8_wrong_J134 X8_wrong_J148 X8_wrong_J164 X8_wrong_J180
      simp only [nm_eq, show nI c + 1 = nI (c + 1) from nI_1 c]
      rw [wrC]
      by_cases q : f c = true
      · rw [if_pos q, if_pos q, if_neg (by decide), if_pos (by decide), if_pos (by decide), if_pos (show (0 : Int32) ≤ nI (wrC f c).2.2 from nI_pos' (by omega))]
        show X8_wrong_L87 _ _ _ _ _ _ _ _ _ _ _ _ _ _ _ _ _ _ _ _ _ _ _ _ _ _ (nI (wrC f c).1 + 0) _ _ _ = _
        rw [Int32.add_zero]
        rfl
      · rw [if_neg q, if_neg q, if_pos (by decide), if_neg (by decide), if_neg (by decide), show nI (wrC f c).1 + 1 = nI ((wrC f c).1 + 1) from nI_1 _, show nI (wrC f c).2.1 + 1 = nI ((wrC f c).2.1 + 1) from nI_1 _]
        show _ = X8_wrong_L87 _ _ _ _ _ _ _ _ _ _ _ _ _ _ _ _ _ _ _ _ _ _ _ _ _ _ _ _ (nI (mx (wrC f c).2.2 ((wrC f c).2.1 + 1))) _
        unfold mx
        by_cases z : (wrC f c).2.2 < (wrC f c).2.1 + 1
        · rw [if_pos z, if_neg (nI_ge z (by omega))]
        · rw [if_neg z, if_pos (nI_le (by omega) (by omega))]
    rw [hs]
    exact ih (c + 1) fuel bl (nI W) (nI H) (nI N) pl pt ot rw' (by omega) (by omega)
end MWRONG
