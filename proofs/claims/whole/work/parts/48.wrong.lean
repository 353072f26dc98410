def wrC (f : Nat → Bool) : Nat → Nat × Nat × Nat
  | 0 => (0, 0, 0)
  | c + 1 => if f c = true then ((wrC f c).1, 0, (wrC f c).2.2) else ((wrC f c).1 + 1, (wrC f c).2.1 + 1, mx (wrC f c).2.2 ((wrC f c).2.1 + 1))
theorem wrC_le (f : Nat → Bool) : ∀ c, (wrC f c).1 ≤ c ∧ (wrC f c).2.1 ≤ c ∧ (wrC f c).2.2 ≤ c
  | 0 => ⟨Nat.le_refl _, Nat.le_refl _, Nat.le_refl _⟩
  | c + 1 => by
    obtain ⟨h1, h2, h3⟩ := wrC_le f c
    rw [wrC]
    split
    · exact ⟨by show (wrC f c).1 ≤ c + 1; omega, by show 0 ≤ c + 1; omega, by show (wrC f c).2.2 ≤ c + 1; omega⟩
    · refine ⟨by show (wrC f c).1 + 1 ≤ c + 1; omega, by show (wrC f c).2.1 + 1 ≤ c + 1; omega, ?_⟩
      show mx (wrC f c).2.2 ((wrC f c).2.1 + 1) ≤ c + 1
      rcases mx_or (wrC f c).2.2 ((wrC f c).2.1 + 1) with q | q <;> omega
section WRONG
variable {w h n : Int32} {ru pr lf lt waits lostRow : Nat → Int32} {W H N pw sp sd : Nat} {WA LO LF LT PR : Nat → Nat}
theorem wrong_L (hn : PlayN W H N pw sp sd LF LT PR) (hc : CP w h n ru pr lf lt W H N pw sp sd LF LT PR) (hl : LinN waits lostRow WA LO) {D g m : Nat} (hD : D ≤ 9) (hd : ru 3 = nI D) (hg : g < 6) (hm : m < 100) (ready run : Int32) {rows : Nat → Int32} (hT : ∀ j, j ≤ m → TR rows j (trj W H N pw sp sd LF LT (prT PR) (j + 1))) (f : Nat → Bool) (hf : ∀ c, f c = eqn (trj W H N pw sp sd LF LT (tkT WA LO LF LT PR D g c) (c + 1)) (trj W H N pw sp sd LF LT (prT PR) (c + 1)) 13) : ∀ (d c fuel : Nat) (gt now ps : Nat → Int32), c + d = m + 1 → d < fuel → (1 ≤ c → ∀ j, j < c → TR gt j (trj W H N pw sp sd LF LT (tkT WA LO LF LT PR D g (c - 1)) (j + 1))) → ∃ gt' now' ps', X7_wrong_L34 w h n ru pr lf lt waits lostRow fuel ready rows gt now ps (nI g) (nI m) run (nI (wrC f c).1) (nI (wrC f c).2.1) (nI (wrC f c).2.2) (nI c) = some (if run = 0 then nI (wrC f (m + 1)).1 else nI (wrC f (m + 1)).2.2, ready, rows, gt', now', ps') := by
  have hn' := hn
  obtain ⟨hb, -, -, -, hlr, hp5⟩ := hn'
  have hc' := hc
  obtain ⟨-, -, en, -, -, -, hcl, hcp⟩ := hc'
  have hb' := hb
  obtain ⟨b1, b2, b3, b4, b5, b6⟩ := hb'
  intro d
  induction d with
  | zero =>
    intro c fuel gt now ps hcm hfu hG
    obtain ⟨fuel, rfl⟩ : ∃ k, fuel = k + 1 := ⟨fuel - 1, by omega⟩
    have ec : c = m + 1 := by omega
    subst ec
    refine ⟨gt, now, ps, ?_⟩
    show X7_wrong_L34_B w h n ru pr lf lt waits lostRow _ ready rows gt now ps (nI g) (nI m) run _ _ _ (nI (m + 1)) = _
    unfold X7_wrong_L34_B
    rw [if_pos (nI_lt (by omega) (by omega))]
    unfold X7_wrong_J112
    by_cases q : run = 0
    · rw [if_pos q, if_pos q]
    · rw [if_neg q, if_neg q]
  | succ d ih =>
    intro c fuel gt now ps hcm hfu hG
    obtain ⟨fuel, rfl⟩ : ∃ k, fuel = k + 1 := ⟨fuel - 1, by omega⟩
    obtain ⟨M, k1, k2, k3⟩ := goneBack_ok (WA := WA) (LO := LO) (LF := LF) (LT := LT) (PR := PR) en b6 hl hcl hlr hcp hp5 hD hg (show c < 100 by omega)
    have hMc : M ≤ c := by
      rcases k3.2 with q | ⟨a, ha, t, h1, h2⟩ <;> omega
    obtain ⟨gt1, now1, ps1, s1, s2⟩ := showFrom_ok hn hc hl hD hd hg (show c < 100 by omega) (show c - M ≤ c + 1 by omega) gt now ps (fun j hj => by
      have h1 := hG (by omega) j (by omega)
      rw [trj_congr (p := tkT WA LO LF LT PR D g c) (q := tkT WA LO LF LT PR D g (c - 1)) (j + 1) (fun i hi a ha => BK_stay (by omega) k3 (by omega) ha)]
      exact h1)
    have hlike := isLike_ok (show c < 100 by omega) (s2 c (Nat.le_refl c)) (hT c (by omega)) (fun j hj => trj_lt hb (by omega) hj) (fun j hj => trj_lt hb (by omega) hj)
    rw [← hf c] at hlike
    have hw := wrC_le f c
    have hs : X7_wrong_L34 w h n ru pr lf lt waits lostRow (fuel + 1) ready rows gt now ps (nI g) (nI m) run (nI (wrC f c).1) (nI (wrC f c).2.1) (nI (wrC f c).2.2) (nI c) = X7_wrong_L34 w h n ru pr lf lt waits lostRow fuel ready rows gt1 now1 ps1 (nI g) (nI m) run (nI (wrC f (c + 1)).1) (nI (wrC f (c + 1)).2.1) (nI (wrC f (c + 1)).2.2) (nI (c + 1)) := by
      show X7_wrong_L34_B w h n ru pr lf lt waits lostRow (X7_wrong_L34 w h n ru pr lf lt waits lostRow fuel) ready rows gt now ps (nI g) (nI m) run _ _ _ (nI c) = _
      unfold X7_wrong_L34_B X7_wrong_J106
      rw [if_neg (nI_nlt (by omega) (by omega)), rd_lit ru 7 3 (by decide) (by decide), hd, k2, bd_some, pk_sub hMc, s1, bd_some, hlike, bd_some]
      simp only [nm_eq, show nI c + 1 = nI (c + 1) from nI_1 c]
      rw [wrC]
      by_cases q : f c = true
      · rw [if_pos q, if_pos q, if_neg i1n0]
        rfl
      · rw [if_neg q, if_neg q, if_pos rfl, show nI (wrC f c).1 + 1 = nI ((wrC f c).1 + 1) from nI_1 _, show nI (wrC f c).2.1 + 1 = nI ((wrC f c).2.1 + 1) from nI_1 _, max_nI (by omega) (by omega)]
    rw [hs]
    exact ih (c + 1) fuel gt1 now1 ps1 (by omega) (by omega) (fun _ j hj => s2 j (by omega))
end WRONG
