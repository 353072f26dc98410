def ak (WA LO LF LT : Nat → Nat) (D g c t : Nat) : Nat → Bool
  | 0 => true
  | a + 1 => ak WA LO LF LT D g c t a && kn WA LO LF LT D g c a t
theorem ak_f {WA LO LF LT : Nat → Nat} {D g c t a : Nat} (h : ¬ kn WA LO LF LT D g c a t = true) : ∀ N, a < N → ¬ ak WA LO LF LT D g c t N = true
  | 0, hN => by omega
  | N + 1, hN => by
    rw [ak, Bool.and_eq_true]
    rintro ⟨q1, q2⟩
    by_cases e : a = N
    · subst e
      exact h q2
    · exact ak_f h N (by omega) q1
section AGR
variable {WA LO LF LT : Nat → Nat} {waits lostRow lf lt : Nat → Int32} {n : Int32} {N : Nat}
theorem allKnown_L (en : n = nI N) (hN : N ≤ 6) (hl : LinN waits lostRow WA LO) (hcl : ∀ a, a < 6 → lf a = nI (LF a) ∧ lt a = nI (LT a)) (hlr : ∀ a, a < 6 → LF a ≤ LT a ∧ LT a ≤ 100) {D g c t : Nat} (hD : D ≤ 9) (hg : g < 6) (hc : c < 100) (ht : t < 100) : ∀ (d a fuel : Nat), a + d = N → d < fuel → ak WA LO LF LT D g c t a = true → X4_allKnown_L3 n lf lt waits lostRow fuel (nI D) (nI g) (nI c) (nI t) (nI a) = some (if ak WA LO LF LT D g c t N = true then 1 else 0) := by
  subst en
  intro d
  induction d with
  | zero =>
    intro a fuel ha hf h
    obtain ⟨fuel, rfl⟩ : ∃ k, fuel = k + 1 := ⟨fuel - 1, by omega⟩
    have ea : a = N := by omega
    subst ea
    show X4_allKnown_L3_B (nI a) lf lt waits lostRow _ (nI D) (nI g) (nI c) (nI t) (nI a) = _
    unfold X4_allKnown_L3_B
    rw [if_pos (nI_le (by omega) (by omega)), zb_1, if_pos h]
  | succ d ih =>
    intro a fuel ha hf h
    obtain ⟨fuel, rfl⟩ : ∃ k, fuel = k + 1 := ⟨fuel - 1, by omega⟩
    show X4_allKnown_L3_B (nI N) lf lt waits lostRow (X4_allKnown_L3 (nI N) lf lt waits lostRow fuel) (nI D) (nI g) (nI c) (nI t) (nI a) = _
    unfold X4_allKnown_L3_B
    rw [if_neg (nI_ge (by omega) (by omega)), isKnown_ok hl hcl hlr hD hg hc (by omega) ht, bd_some]
    by_cases k : kn WA LO LF LT D g c a t = true
    · rw [if_pos k, if_neg i1n0, nm_eq, show nI a + 1 = nI (a + 1) from nI_1 a]
      refine ih (a + 1) fuel (by omega) (by omega) ?_
      rw [ak, h, k]
      rfl
    · rw [if_neg k, if_pos (rfl : (0 : Int32) = 0), zb_0, if_neg (ak_f k N (by omega))]
theorem kn_c {D g c a t : Nat} (hl : LinN waits lostRow WA LO) (hD : D ≤ 9) (hg : g < 6) (hc : c < 100) (ha : a < 6) (ht : t < 100) : (nI c < (if Lf LF LT a t = true then (-1000000000 : Int32) else nI t - nI D + nI (wtL WA LO g a t))) ↔ ¬ kn WA LO LF LT D g c a t = true := by
  have wl := wtL_le hl (g := g) (a := a) (t := t) hg ha
  unfold kn
  by_cases c1 : Lf LF LT a t = true
  · rw [if_pos c1, c1, ltI, nI_toInt (by omega)]
    have : (-1000000000 : Int32).toInt = -1000000000 := rfl
    simp
  · have c1' : Lf LF LT a t = false := by simpa using c1
    rw [if_neg c1, clk_lt hc ht hD wl, c1']
    simp
end AGR
section MAGR
variable {WA LO LF LT : Nat → Nat} {hands leftFrom leftTo wait isLost : Nat → Int32} {N : Nat}
theorem magr_in (e4 : hands 4 = nI N) (hN : N ≤ 6) (hl : LinN wait isLost WA LO) (hml : ∀ a, a < 6 → leftFrom (6 * 4 + a) = nI (LF a) ∧ leftTo (6 * 4 + a) = nI (LT a)) (hlr : ∀ a, a < 6 → LF a ≤ LT a ∧ LT a ≤ 100) {D g c t : Nat} (hD : D ≤ 9) (hg : g < 6) (hc : c < 100) (ht : t < 100) (th last : Int32) (rec31 : Int32 → Int32 → Int32 → Int32 → Int32 → Int32 → Option (Int32 × Int32)) : ∀ (d a fuel : Nat), a + d = N → d < fuel → X8_agreed_L45 (nI D) hands leftFrom leftTo wait isLost rec31 fuel th (nI g) (nI c) last (if ak WA LO LF LT D g c t a = true then 1 else 0) (nI t) (nI a) = if ak WA LO LF LT D g c t N = true then rec31 th (nI g) (nI c) (nI t) 1 (nI (t + 1)) else rec31 th (nI g) (nI c) last 0 (nI (t + 1)) := by
  intro d
  induction d with
  | zero =>
    intro a fuel ha hf
    obtain ⟨fuel, rfl⟩ : ∃ k, fuel = k + 1 := ⟨fuel - 1, by omega⟩
    have ea : a = N := by omega
    subst ea
    show X8_agreed_L45_B (nI D) hands leftFrom leftTo wait isLost rec31 _ th (nI g) (nI c) last _ (nI t) (nI a) = _
    unfold X8_agreed_L45_B X8_agreed_J91 X8_agreed_J102
    rw [rd_lit hands 5 4 (by decide) (by decide), e4, if_pos (nI_le (by omega) (by omega))]
    simp only [nm_eq, show nI t + 1 = nI (t + 1) from nI_1 t]
    by_cases k : ak WA LO LF LT D g c t a = true
    · rw [if_pos k, if_pos k, if_neg i1n0]
    · rw [if_neg k, if_neg k, if_pos rfl]
  | succ d ih =>
    intro a fuel ha hf
    obtain ⟨fuel, rfl⟩ : ∃ k, fuel = k + 1 := ⟨fuel - 1, by omega⟩
    rw [← ih (a + 1) fuel (by omega) (by omega)]
    show X8_agreed_L45_B (nI D) hands leftFrom leftTo wait isLost rec31 (X8_agreed_L45 (nI D) hands leftFrom leftTo wait isLost rec31 fuel) th (nI g) (nI c) last _ (nI t) (nI a) = _
    unfold X8_agreed_L45_B X8_agreed_J82 X8_agreed_J83
    rw [rd_lit hands 5 4 (by decide) (by decide), e4, if_neg (nI_ge (by omega) (by omega)), knownAt_ok hl hml hlr hg (by omega) ht, bd_some, ak]
    simp only [nm_eq, show nI a + 1 = nI (a + 1) from nI_1 a]
    have hk := kn_c (LF := LF) (LT := LT) hl hD hg hc (show a < 6 by omega) ht
    by_cases k : ak WA LO LF LT D g c t a = true
    · rw [if_pos k, if_neg i1n0, k, Bool.true_and]
      by_cases q : kn WA LO LF LT D g c a t = true
      · rw [if_neg (fun z => (hk.mp z) q), if_pos q]
      · rw [if_pos (hk.mpr q), if_neg q]
    · have k' : ak WA LO LF LT D g c t a = false := by simpa using k
      rw [if_neg k, if_pos (rfl : (0 : Int32) = 0), k', Bool.false_and, if_neg (by decide)]
end MAGR
section OPS10
variable {w h n ready : Int32} {ru pr lf lt rows wide tall hands power spin seed pressed leftFrom leftTo waits lostRow wait isLost : Nat → Int32} {delay feel turn sight : Int32}
theorem op_agreed (hI : InvP w h n ready ru pr lf lt rows wide tall hands power spin seed pressed leftFrom leftTo) (hQ : InvR ru delay feel turn sight) (hL : InvL waits lostRow wait isLost) (th p1 p2 : Int32) : ∃ oc om, X7_agreed n ru lf lt waits lostRow p1 p2 = some oc ∧ X8_agreed delay hands leftFrom leftTo wait isLost th p1 p2 = some om ∧ oc = om.1 := by
  obtain ⟨WA, LO, l1, l2⟩ := hL.lin
  obtain ⟨W, H, N, pw, sp, sd, R, LF, LT, PR, hn, hc, hm, eR, hR, hT⟩ := hI
  obtain ⟨b1, b2, b3, b4, b5, b6⟩ := hn.1
  have e4 : hands 4 = nI N := hm.2.2.1
  have en : n = nI N := hc.2.2.1
  have hlr := hn.2.2.2.2.1
  have hcl := hc.2.2.2.2.2.2.1
  have hml := hm.2.2.2.2.2.2.1
  obtain ⟨D, fe, tu, si, ⟨d1, d2, d3⟩, -⟩ := hQ
  unfold X7_agreed X8_agreed
  rcases hand_cases (N := N) (hands := hands) (by omega) e4 (by omega) p1 with ⟨t1, t2⟩ | ⟨g, hg, rfl, t1, t2⟩
  · rw [en, t1, t2, bd_some, bd_some, if_pos rfl, if_neg i1n0]
    exact ⟨_, _, rfl, rfl, rfl⟩
  · rw [en, t1, t2, bd_some, bd_some, if_neg i1n0, if_pos rfl]
    rcases tick_cases p2 with ⟨u1, u2⟩ | ⟨c, hcc, rfl, u1, u2⟩
    · rw [u1, u2, bd_some, bd_some, if_pos rfl, if_neg i1n0]
      exact ⟨_, _, rfl, rfl, rfl⟩
    · rw [u1, u2, bd_some, bd_some, if_neg i1n0, if_pos rfl, d2]
      have loop : ∀ (d t fuel : Nat) (last th : Int32), t + d = c + 1 → d + 1 < fuel → ∃ r th', X7_agreed_L23 (nI N) ru lf lt waits lostRow fuel (nI g) (nI c) last (nI t) = some r ∧ X8_agreed_L31 (nI D) hands leftFrom leftTo wait isLost fuel th (nI g) (nI c) last 1 (nI t) = some (r, th') := by
        intro d
        induction d with
        | zero =>
          intro t fuel last th ht hf
          obtain ⟨fuel, rfl⟩ : ∃ k, fuel = k + 1 := ⟨fuel - 1, by omega⟩
          refine ⟨last, th, ?_, ?_⟩
          · show X7_agreed_L23_B (nI N) ru lf lt waits lostRow _ (nI g) (nI c) last (nI t) = _
            unfold X7_agreed_L23_B
            rw [if_pos (nI_lt (by omega) (by omega))]
          · show X8_agreed_L31_B (nI D) hands leftFrom leftTo wait isLost _ th (nI g) (nI c) last 1 (nI t) = _
            unfold X8_agreed_L31_B
            rw [if_pos (nI_lt (by omega) (by omega))]
        | succ d ih =>
          intro t fuel last th ht hf
          obtain ⟨fuel, rfl⟩ : ∃ k, fuel = k + 1 := ⟨fuel - 1, by omega⟩
          have s1 : X7_agreed_L23 (nI N) ru lf lt waits lostRow (fuel + 1) (nI g) (nI c) last (nI t) = if ak WA LO LF LT D g c t N = true then X7_agreed_L23 (nI N) ru lf lt waits lostRow fuel (nI g) (nI c) (nI t) (nI (t + 1)) else some last := by
            show X7_agreed_L23_B (nI N) ru lf lt waits lostRow (X7_agreed_L23 (nI N) ru lf lt waits lostRow fuel) (nI g) (nI c) last (nI t) = _
            unfold X7_agreed_L23_B X4_allKnown
            rw [if_neg (nI_nlt (by omega) (by omega)), rd_lit ru 7 3 (by decide) (by decide), d1, show (0 : Int32) = nI 0 from rfl, allKnown_L rfl b6 l1 hcl hlr d3 (show g < 6 by omega) hcc (show t < 100 by omega) N 0 FU (by omega) (FU_big (by omega)) rfl, bd_some, nm_eq, show nI t + 1 = nI (t + 1) from nI_1 t]
            by_cases k : ak WA LO LF LT D g c t N = true
            · rw [if_pos k, if_pos k, if_neg (by decide)]
            · rw [if_neg k, if_neg k, if_pos (by decide)]
          have s2 : X8_agreed_L31 (nI D) hands leftFrom leftTo wait isLost (fuel + 1) th (nI g) (nI c) last 1 (nI t) = if ak WA LO LF LT D g c t N = true then X8_agreed_L31 (nI D) hands leftFrom leftTo wait isLost fuel th (nI g) (nI c) (nI t) 1 (nI (t + 1)) else X8_agreed_L31 (nI D) hands leftFrom leftTo wait isLost fuel th (nI g) (nI c) last 0 (nI (t + 1)) := by
            rw [← magr_in e4 b6 l2 hml hlr d3 (show g < 6 by omega) hcc (show t < 100 by omega) th last (X8_agreed_L31 (nI D) hands leftFrom leftTo wait isLost fuel) N 0 FU (by omega) (FU_big (by omega))]
            show X8_agreed_L31_B (nI D) hands leftFrom leftTo wait isLost (X8_agreed_L31 (nI D) hands leftFrom leftTo wait isLost fuel) th (nI g) (nI c) last 1 (nI t) = _
            unfold X8_agreed_L31_B
            rw [if_neg (nI_nlt (by omega) (by omega)), if_neg i1n0]
            rfl
          rw [s1, s2]
          by_cases k : ak WA LO LF LT D g c t N = true
          · rw [if_pos k, if_pos k]
            exact ih (t + 1) fuel (nI t) th (by omega) (by omega)
          · rw [if_neg k, if_neg k]
            obtain ⟨fuel, rfl⟩ : ∃ k, fuel = k + 1 := ⟨fuel - 1, by omega⟩
            refine ⟨last, th, rfl, ?_⟩
            show X8_agreed_L31_B (nI D) hands leftFrom leftTo wait isLost _ th (nI g) (nI c) last 0 (nI (t + 1)) = _
            unfold X8_agreed_L31_B
            by_cases z : nI c < nI (t + 1)
            · rw [if_pos z]
            · rw [if_neg z, if_pos rfl]
      obtain ⟨r, th', e1, e2⟩ := loop (c + 1) 0 FU (-9) 0 (by omega) (FU_big (by omega))
      exact ⟨r, (r, th'), e1, e2, rfl⟩
end OPS10
