section MWRONG2
variable {wide tall hands power spin seed pressed leftFrom leftTo wait isLost : Nat → Int32} {W H N pw sp sd : Nat} {WA LO LF LT PR : Nat → Nat}
theorem mwrong_T (hn : PlayN W H N pw sp sd LF LT PR) (hm : MP wide tall hands power spin seed pressed leftFrom leftTo 4 W H N pw sp sd LF LT PR) (hl : LinN wait isLost WA LO) {D g m : Nat} (hD : D ≤ 9) (hg : g < 6) (hm9 : m < 100) (th run : Int32) (f : Nat → Bool) (hf : ∀ c, f c = eqn (trj W H N pw sp sd LF LT (tkT WA LO LF LT PR D g c) (c + 1)) (trj W H N pw sp sd LF LT (prT PR) (c + 1)) 13) : ∀ (d t fuel : Nat) (ball : Int32) (place points other takes ts : Nat → Int32), t + d = m + 1 → d < fuel → RepP W N ball place (trj W H N pw sp sd LF LT (prT PR) t) → (∀ a, a < 6 → points a = nI (trj W H N pw sp sd LF LT (prT PR) t (7 + a))) → (∀ j, j < t → TM W N ts (13 * j) (trj W H N pw sp sd LF LT (prT PR) (j + 1))) → ∃ om, X8_wrong_L30 (nI D) wide tall hands power spin seed pressed leftFrom leftTo wait isLost fuel th ball (nI W) (nI H) (nI N) place points other takes ts (nI g) (nI m) run (nI t) = some om ∧ om.1 = (if run = 0 then nI (wrC f (m + 1)).1 else nI (wrC f (m + 1)).2.2) := by
  have hn' := hn
  obtain ⟨hb, ⟨p1, p5⟩, -, -, -, hPR⟩ := hn'
  have hm' := hm
  obtain ⟨-, -, -, e4, -, -, -, ep⟩ := hm'
  have hb' := hb
  obtain ⟨b1, b2, b3, b4, b5, b6⟩ := hb'
  intro d
  induction d with
  | zero =>
    intro t fuel ball place points other takes ts ht hfu hr hpt hT
    obtain ⟨fuel, rfl⟩ : ∃ k, fuel = k + 1 := ⟨fuel - 1, by omega⟩
    have et : t = m + 1 := by omega
    subst et
    show ∃ om, X8_wrong_L30_B (nI D) wide tall hands power spin seed pressed leftFrom leftTo wait isLost _ th ball (nI W) (nI H) (nI N) place points other takes ts (nI g) (nI m) run (nI (m + 1)) = some om ∧ _
    unfold X8_wrong_L30_B
    rw [if_pos (nI_lt (by omega) (by omega))]
    unfold X8_wrong_J75
    exact mwrong_L hn hm hl hD hg hm9 th run (fun j hj => hT j (by omega)) f hf (m + 1) 0 FU ball (nI W) (nI H) (nI N) place points other takes (by omega) (FU_big (by omega))
  | succ d ih =>
    intro t fuel ball place points other takes ts ht hfu hr hpt hT
    obtain ⟨fuel, rfl⟩ : ∃ k, fuel = k + 1 := ⟨fuel - 1, by omega⟩
    obtain ⟨bl, pl, pt, e, r1, q1⟩ := mstep_P hn hm (by decide) (n3 := 3000) (F := 2400) (pwr := pw) (t := t) (row := pressed) (prs := prT PR t) p5 (by omega) (by decide) (by omega) (fun a ha _ => ⟨by rw [Nat.add_assoc]; exact ep _ (by omega), hPR _ (by omega)⟩) (trj_ok hb t) hr hpt
    obtain ⟨ts', g1, g2, g3⟩ := write_ok (n1 := 1300) (F := 13 * t) b6 (by decide) (by omega) r1 q1 ts
    have hs : X8_wrong_L30 (nI D) wide tall hands power spin seed pressed leftFrom leftTo wait isLost (fuel + 1) th ball (nI W) (nI H) (nI N) place points other takes ts (nI g) (nI m) run (nI t) = X8_wrong_L30 (nI D) wide tall hands power spin seed pressed leftFrom leftTo wait isLost fuel th bl (nI W) (nI H) (nI N) pl pt other takes ts' (nI g) (nI m) run (nI (t + 1)) := by
      show X8_wrong_L30_B (nI D) wide tall hands power spin seed pressed leftFrom leftTo wait isLost (X8_wrong_L30 (nI D) wide tall hands power spin seed pressed leftFrom leftTo wait isLost fuel) th ball (nI W) (nI H) (nI N) place points other takes ts (nI g) (nI m) run (nI t) = _
      unfold X8_wrong_L30_B
      rw [if_neg (nI_nlt (by omega) (by omega)), rd_lit power 5 4 (by decide) (by decide), e4, show (4 : Int32) = nI 4 from rfl, show (2400 : Int32) = nI 2400 from rfl, e, bd_some, show (13 : Int32) * nI t = nI (13 * t) from pk_mul 13 t, g1, bd_some, nm_eq, show nI t + 1 = nI (t + 1) from nI_1 t]
    rw [hs]
    refine ih (t + 1) fuel bl pl pt other takes ts' (by omega) (by omega) r1 q1 (fun j hj => ?_)
    by_cases q : j = t
    · subst q
      exact g2
    · intro k hk
      rw [g3 _ (by omega)]
      exact hT j (by omega) k hk
end MWRONG2
