section MBACK
variable {WA LO LF LT PR : Nat → Nat} {hands pressed leftFrom leftTo wait isLost : Nat → Int32} {N : Nat}
theorem mback_in (hb6 : N ≤ 6) (e4 : hands 4 = nI N) (hp5 : ∀ k, k < 600 → PR k ≤ 5) {D g c t : Nat} (hc : c < 100) (ht : t < c) {ta to : Nat → Int32} (h1 : ∀ b, b < N → ta (100 * b + t) = nI (tk WA LO LF LT PR D g c b t)) (h2 : ∀ b, b < N → to (100 * b + t) = nI (tk WA LO LF LT PR D g (c - 1) b t)) (rec33 : (Nat → Int32) → (Nat → Int32) → Int32 → Int32 → Option (Int32 × (Nat → Int32) × (Nat → Int32))) : ∀ (d a fuel : Nat), a + d = N → d < fuel → (∀ b, b < a → tk WA LO LF LT PR D g c b t = tk WA LO LF LT PR D g (c - 1) b t) → (X8_backOf_L42 hands pressed leftFrom leftTo wait isLost rec33 fuel ta to (nI c) (nI t) (nI a) = some (nI (c - t), ta, to) ∧ ∃ b, b < N ∧ tk WA LO LF LT PR D g c b t ≠ tk WA LO LF LT PR D g (c - 1) b t) ∨ (X8_backOf_L42 hands pressed leftFrom leftTo wait isLost rec33 fuel ta to (nI c) (nI t) (nI a) = rec33 ta to (nI c) (nI (t + 1)) ∧ ∀ b, b < N → tk WA LO LF LT PR D g c b t = tk WA LO LF LT PR D g (c - 1) b t) := by
  intro d
  induction d with
  | zero =>
    intro a fuel ha hf h
    obtain ⟨fuel, rfl⟩ : ∃ k, fuel = k + 1 := ⟨fuel - 1, by omega⟩
    right
    refine ⟨?_, fun b hb => h b (by omega)⟩
    show X8_backOf_L42_B hands pressed leftFrom leftTo wait isLost rec33 _ ta to (nI c) (nI t) (nI a) = _
    unfold X8_backOf_L42_B
    rw [rd_lit hands 5 4 (by decide) (by decide), e4, if_pos (nI_le (by omega) (by omega))]
    unfold X8_backOf_J93
    rw [nm_eq, show nI t + 1 = nI (t + 1) from nI_1 t]
  | succ d ih =>
    intro a fuel ha hf h
    obtain ⟨fuel, rfl⟩ : ∃ k, fuel = k + 1 := ⟨fuel - 1, by omega⟩
    have q1 := tk_le (WA := WA) (LO := LO) (LF := LF) (LT := LT) (D := D) (g := g) (c := c) (a := a) (t := t) (by omega) (by omega) hp5
    have q2 := tk_le (WA := WA) (LO := LO) (LF := LF) (LT := LT) (D := D) (g := g) (c := c - 1) (a := a) (t := t) (by omega) (by omega) hp5
    have hs : X8_backOf_L42 hands pressed leftFrom leftTo wait isLost rec33 (fuel + 1) ta to (nI c) (nI t) (nI a) = if tk WA LO LF LT PR D g c a t = tk WA LO LF LT PR D g (c - 1) a t then X8_backOf_L42 hands pressed leftFrom leftTo wait isLost rec33 fuel ta to (nI c) (nI t) (nI (a + 1)) else some (nI (c - t), ta, to) := by
      show X8_backOf_L42_B hands pressed leftFrom leftTo wait isLost rec33 (X8_backOf_L42 hands pressed leftFrom leftTo wait isLost rec33 fuel) ta to (nI c) (nI t) (nI a) = _
      unfold X8_backOf_L42_B
      rw [rd_lit hands 5 4 (by decide) (by decide), e4, if_neg (nI_ge (by omega) (by omega)), idx100, rd_nI ta (by omega) (by decide), rd_nI to (by omega) (by decide), h1 a (by omega), h2 a (by omega)]
      by_cases c1 : tk WA LO LF LT PR D g c a t = tk WA LO LF LT PR D g (c - 1) a t
      · rw [if_pos (by rw [c1]), if_pos c1, nm_eq, show nI a + 1 = nI (a + 1) from nI_1 a]
      · rw [if_neg (fun e => c1 (nI_inj (by omega) (by omega) e)), if_neg c1]
        unfold X8_backOf_J82
        rw [pk_sub (by omega)]
    by_cases c1 : tk WA LO LF LT PR D g c a t = tk WA LO LF LT PR D g (c - 1) a t
    · rw [hs, if_pos c1]
      refine ih (a + 1) fuel (by omega) (by omega) (fun b hb => ?_)
      by_cases e : b = a
      · subst e
        exact c1
      · exact h b (by omega)
    · left
      rw [hs, if_neg c1]
      exact ⟨rfl, a, by omega, c1⟩
theorem mback_L (hb6 : N ≤ 6) (e4 : hands 4 = nI N) (hp5 : ∀ k, k < 600 → PR k ≤ 5) {D g c : Nat} (hc1 : 1 ≤ c) (hc : c < 100) {ta to : Nat → Int32} (h1 : ∀ b, b < N → ∀ j, j ≤ c → ta (100 * b + j) = nI (tk WA LO LF LT PR D g c b j)) (h2 : ∀ b, b < N → ∀ j, j ≤ c - 1 → to (100 * b + j) = nI (tk WA LO LF LT PR D g (c - 1) b j)) : ∀ (d t fuel : Nat), t + d = c → d < fuel → (∀ j, j < t → ∀ b, b < N → tk WA LO LF LT PR D g c b j = tk WA LO LF LT PR D g (c - 1) b j) → ∃ M, M ≤ 100 ∧ X8_backOf_L33 hands pressed leftFrom leftTo wait isLost fuel ta to (nI c) (nI t) = some (nI M, ta, to) ∧ BK WA LO LF LT PR D g c N M := by
  intro d
  induction d with
  | zero =>
    intro t fuel ht hf h
    obtain ⟨fuel, rfl⟩ : ∃ k, fuel = k + 1 := ⟨fuel - 1, by omega⟩
    refine ⟨0, by omega, ?_, fun a ha u e => absurd (h u (by have := e.1; omega) a ha) (ev_chg e), Or.inl rfl⟩
    show X8_backOf_L33_B hands pressed leftFrom leftTo wait isLost _ ta to (nI c) (nI t) = _
    unfold X8_backOf_L33_B
    rw [if_pos (nI_le (by omega) (by omega))]
    rfl
  | succ d ih =>
    intro t fuel ht hf h
    obtain ⟨fuel, rfl⟩ : ∃ k, fuel = k + 1 := ⟨fuel - 1, by omega⟩
    have hs : X8_backOf_L33 hands pressed leftFrom leftTo wait isLost (fuel + 1) ta to (nI c) (nI t) = X8_backOf_L42 hands pressed leftFrom leftTo wait isLost (X8_backOf_L33 hands pressed leftFrom leftTo wait isLost fuel) FU ta to (nI c) (nI t) (nI 0) := by
      show X8_backOf_L33_B hands pressed leftFrom leftTo wait isLost (X8_backOf_L33 hands pressed leftFrom leftTo wait isLost fuel) ta to (nI c) (nI t) = _
      unfold X8_backOf_L33_B
      rw [if_neg (nI_ge (by omega) (by omega))]
      rfl
    rw [hs]
    rcases mback_in (hands := hands) (pressed := pressed) (leftFrom := leftFrom) (leftTo := leftTo) (wait := wait) (isLost := isLost) hb6 e4 hp5 hc (show t < c by omega) (fun b hb => h1 b hb t (by omega)) (fun b hb => h2 b hb t (by omega)) (X8_backOf_L33 hands pressed leftFrom leftTo wait isLost fuel) N 0 FU (by omega) (FU_big (by omega)) (fun b hb => by omega) with ⟨e, b, hb, hne⟩ | ⟨e, hall⟩
    · rw [e]
      refine ⟨c - t, by omega, rfl, fun a ha u hu => ?_, Or.inr ⟨b, hb, t, ?_, rfl⟩⟩
      · have : ¬ u < t := fun q => ev_chg hu (h u q a ha)
        omega
      · obtain ⟨u, hu, he⟩ := tk_chg hc1 (show t < c by omega) hne
        have : ¬ u < t := fun q => ev_chg he (h u q b hb)
        have eu : u = t := by omega
        rw [← eu]
        exact he
    · rw [e]
      refine ih (t + 1) fuel (by omega) (by omega) (fun j hj b hb => ?_)
      by_cases q : j = t
      · subst q
        exact hall b hb
      · exact h j (by omega) b hb
theorem mback_ok (hb6 : N ≤ 6) (e4 : hands 4 = nI N) (hl : LinN wait isLost WA LO) (hml : ∀ a, a < 6 → leftFrom (6 * 4 + a) = nI (LF a) ∧ leftTo (6 * 4 + a) = nI (LT a)) (hlr : ∀ a, a < 6 → LF a ≤ LT a ∧ LT a ≤ 100) (hpr : ∀ k, k < 600 → pressed (600 * 4 + k) = nI (PR k)) (hp5 : ∀ k, k < 600 → PR k ≤ 5) {D g c : Nat} (hD : D ≤ 9) (hg : g < 6) (hc : c < 100) (ta to : Nat → Int32) : ∃ M ta' to', M ≤ 100 ∧ X8_backOf hands pressed leftFrom leftTo wait isLost ta to (nI g) (nI c) (nI D) = some (nI M, ta', to') ∧ BK WA LO LF LT PR D g c N M := by
  unfold X8_backOf
  by_cases c0 : c = 0
  · subst c0
    rw [if_pos nI_0]
    exact ⟨0, ta, to, by omega, rfl, fun a ha u e => by have := e.1; omega, Or.inl rfl⟩
  · rw [if_neg (nI_ne0 (by omega) (by omega)), show nI c - 1 = nI (c - 1) from pk_sub (b := 1) (by omega)]
    obtain ⟨ta', r1, r2⟩ := mtake_ok (PR := PR) hb6 e4 hl hml hlr hpr hD hg hc ta
    obtain ⟨to', s1, s2⟩ := mtake_ok (PR := PR) hb6 e4 hl hml hlr hpr hD hg (show c - 1 < 100 by omega) to
    rw [r1, bd_some, s1, bd_some]
    obtain ⟨M, m1, m2, m3⟩ := mback_L (hands := hands) (pressed := pressed) (leftFrom := leftFrom) (leftTo := leftTo) (wait := wait) (isLost := isLost) hb6 e4 hp5 (show 1 ≤ c by omega) hc r2 s2 c 0 FU (by omega) (FU_big (by omega)) (fun j hj => by omega)
    exact ⟨M, ta', to', m1, m2, m3⟩
end MBACK
section OPS8
variable {w h n ready : Int32} {ru pr lf lt rows wide tall hands power spin seed pressed leftFrom leftTo : Nat → Int32}
theorem op_back {waits lostRow wait isLost : Nat → Int32} {delay feel turn sight : Int32} (hI : InvP w h n ready ru pr lf lt rows wide tall hands power spin seed pressed leftFrom leftTo) (hQ : InvR ru delay feel turn sight) (hL : InvL waits lostRow wait isLost) (th : Int32) (ta to : Nat → Int32) (p1 p2 : Int32) : ∃ oc om, X7_back n ru pr lf lt waits lostRow p1 p2 = some oc ∧ X8_back delay hands pressed leftFrom leftTo wait isLost th ta to p1 p2 = some om ∧ oc = om.1 := by
  obtain ⟨WA, LO, l1, l2⟩ := hL.lin
  obtain ⟨W, H, N, pw, sp, sd, R, LF, LT, PR, hn, hc, hm, eR, hR, hT⟩ := hI
  obtain ⟨b1, b2, b3, b4, b5, b6⟩ := hn.1
  have e4 : hands 4 = nI N := hm.2.2.1
  have en : n = nI N := hc.2.2.1
  have hlr := hn.2.2.2.2.1
  have hp5 := hn.2.2.2.2.2
  have hcl := hc.2.2.2.2.2.2.1
  have hml := hm.2.2.2.2.2.2.1
  have hcp := hc.2.2.2.2.2.2.2
  have hmp := hm.2.2.2.2.2.2.2
  obtain ⟨D, fe, tu, si, ⟨d1, d2, d3⟩, -⟩ := hQ
  unfold X7_back X8_back
  rcases hand_cases (N := N) (hands := hands) (by omega) e4 (by omega) p1 with ⟨t1, t2⟩ | ⟨g, hg, rfl, t1, t2⟩
  · rw [en, t1, t2, bd_some, bd_some, if_pos rfl, if_neg i1n0]
    exact ⟨_, _, rfl, rfl, rfl⟩
  · rw [en, t1, t2, bd_some, bd_some, if_neg i1n0, if_pos rfl]
    rcases tick_cases p2 with ⟨u1, u2⟩ | ⟨c, hcc, rfl, u1, u2⟩
    · rw [u1, u2, bd_some, bd_some, if_pos rfl, if_neg i1n0]
      exact ⟨_, _, rfl, rfl, rfl⟩
    · rw [u1, u2, bd_some, bd_some, if_neg i1n0, if_pos rfl, rd_lit ru 7 3 (by decide) (by decide), d1, d2]
      obtain ⟨M, m1, m2, m3⟩ := goneBack_ok (n := nI N) rfl b6 l1 hcl hlr hcp hp5 d3 (show g < 6 by omega) hcc
      obtain ⟨M', ta', to', k1, k2, k3⟩ := mback_ok b6 e4 l2 hml hlr hmp hp5 d3 (show g < 6 by omega) hcc ta to
      rw [m2, bd_some, k2, bd_some, BK_one m3 k3]
      exact ⟨_, _, rfl, rfl, rfl⟩
end OPS8
