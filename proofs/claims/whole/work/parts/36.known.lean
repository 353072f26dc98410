def wtL (WA LO : Nat → Nat) (g a t : Nat) : Nat := if g = a then 0 else if LO (100 * a + t) = 0 then WA (6 * g + a) else 3 * WA (6 * g + a) + 1
theorem idx6 (a b : Nat) : (6 : Int32) * nI a + nI b = nI (6 * a + b) := by
  show nI 6 * nI a + nI b = _
  rw [pk_mul, nI_add]
theorem idx6' (a b : Nat) : nI a * 6 + nI b = nI (6 * a + b) := by
  show nI a * nI 6 + nI b = _
  rw [pk_mul, nI_add, Nat.mul_comm]
theorem idx100 (a b : Nat) : (100 : Int32) * nI a + nI b = nI (100 * a + b) := by
  show nI 100 * nI a + nI b = _
  rw [pk_mul, nI_add]
theorem idx100' (a b : Nat) : nI a * 100 + nI b = nI (100 * a + b) := by
  show nI a * nI 100 + nI b = _
  rw [pk_mul, nI_add, Nat.mul_comm]
def LinN (waits lostRow : Nat → Int32) (WA LO : Nat → Nat) : Prop := (∀ k, k < 36 → waits k = nI (WA k) ∧ WA k ≤ 9) ∧ ∀ k, k < 600 → lostRow k = nI (LO k) ∧ LO k ≤ 1
theorem clockOf_ok {waits lostRow : Nat → Int32} {WA LO : Nat → Nat} (hl : LinN waits lostRow WA LO) {D g a t : Nat} (hg : g < 6) (ha : a < 6) (ht : t < 100) : X4_clockOf waits lostRow (nI D) (nI g) (nI a) (nI t) = some (nI t - nI D + nI (wtL WA LO g a t)) := by
  unfold X4_clockOf X4_clockOf_J55 wtL
  rw [nm_eq]
  by_cases c : g = a
  · subst c
    rw [if_pos rfl, if_pos rfl]
    show some (nI t - nI D) = some (nI t - nI D + 0)
    rw [Int32.add_zero]
  · rw [if_neg (fun e => c (nI_inj (by omega) (by omega) e)), if_neg c, idx6', idx100', rd_nI waits (by omega) (by decide), rd_nI lostRow (by omega) (by decide), (hl.1 _ (by omega)).1, (hl.2 _ (by omega)).1]
    have h1 := (hl.2 (100 * a + t) (by omega)).2
    by_cases c2 : LO (100 * a + t) = 0
    · rw [c2, if_pos nI_0, if_pos rfl]
    · rw [if_neg (nI_ne0 (by omega) (by omega)), if_neg c2, show (3 : Int32) * nI (WA (6 * g + a)) = nI (3 * WA (6 * g + a)) from pk_mul 3 _, show nI (3 * WA (6 * g + a)) + 1 = nI (3 * WA (6 * g + a) + 1) from nI_1 _]
theorem knownAt_ok {leftFrom leftTo wait isLost : Nat → Int32} {WA LO LF LT : Nat → Nat} (hl : LinN wait isLost WA LO) (hf : ∀ a, a < 6 → leftFrom (6 * 4 + a) = nI (LF a) ∧ leftTo (6 * 4 + a) = nI (LT a)) (hb : ∀ a, a < 6 → LF a ≤ LT a ∧ LT a ≤ 100) {D g a t : Nat} (hg : g < 6) (ha : a < 6) (ht : t < 100) : X8_knownAt leftFrom leftTo wait isLost (nI g) (nI a) (nI t) (nI D) = some (if Lf LF LT a t = true then (-1000000000) else nI t - nI D + nI (wtL WA LO g a t)) := by
  have h1 := hb a ha
  unfold X8_knownAt X8_knownAt_J64 wtL
  rw [show (4 : Int32) = nI 4 from rfl, mLeft_ok (lfa := LF a) (lta := LT a) (by decide) ha (by omega) (hf a ha).1 (hf a ha).2 (by omega) (by omega), bd_some]
  by_cases c0 : Lf LF LT a t = true
  · have c1 : LF a ≤ t ∧ t < LT a := by simpa [Lf] using c0
    rw [if_pos c1, if_neg i1n0, if_pos c0]
  · have c1 : ¬ (LF a ≤ t ∧ t < LT a) := by simpa [Lf] using c0
    rw [if_neg c1, if_pos (rfl : (0 : Int32) = 0), if_neg c0, idx6, idx100, rd_nI wait (by omega) (by decide), (hl.1 _ (by omega)).1]
    by_cases c : g = a
    · subst c
      rw [if_pos rfl, if_pos rfl]
      rfl
    · rw [if_neg (fun e => c (nI_inj (by omega) (by omega) e)), if_neg c, rd_nI isLost (by omega) (by decide), (hl.2 _ (by omega)).1]
      have h1 := (hl.2 (100 * a + t) (by omega)).2
      by_cases c2 : LO (100 * a + t) = 0
      · rw [c2, if_pos nI_0, if_pos rfl]
      · rw [if_neg (nI_ne0 (by omega) (by omega)), if_neg c2, show (3 : Int32) * nI (WA (6 * g + a)) = nI (3 * WA (6 * g + a)) from pk_mul 3 _, show nI (3 * WA (6 * g + a)) + 1 = nI (3 * WA (6 * g + a) + 1) from nI_1 _]
def loB (f : Nat → Int32) (k : Nat) : Nat := if f k = 0 then 0 else 1
theorem loB_ok {f : Nat → Int32} {k : Nat} (h : f k = 0 ∨ f k = 1) : f k = nI (loB f k) ∧ loB f k ≤ 1 := by
  unfold loB
  rcases h with h | h
  · rw [if_pos h, h]
    exact ⟨rfl, by omega⟩
  · rw [if_neg (by rw [h]; decide), h]
    exact ⟨rfl, by omega⟩
theorem InvL.lin {waits lostRow wait isLost : Nat → Int32} (h : InvL waits lostRow wait isLost) : ∃ WA LO : Nat → Nat, LinN waits lostRow WA LO ∧ LinN wait isLost WA LO := by
  obtain ⟨WA, hw, hl⟩ := h
  refine ⟨WA, loB isLost, ⟨fun k hk => ⟨(hw k hk).1, (hw k hk).2.2⟩, fun k hk => ?_⟩, fun k hk => ⟨(hw k hk).2.1, (hw k hk).2.2⟩, fun k hk => loB_ok (hl k hk).2⟩
  rw [(hl k hk).1]
  exact loB_ok (hl k hk).2
theorem wtL_le {WA LO : Nat → Nat} {waits lostRow : Nat → Int32} (hl : LinN waits lostRow WA LO) {g a t : Nat} (hg : g < 6) (ha : a < 6) : wtL WA LO g a t ≤ 28 := by
  have := (hl.1 (6 * g + a) (by omega)).2
  unfold wtL
  split
  · omega
  · split <;> omega
theorem clk_toInt {t D x : Nat} (ht : t < 100) (hD : D ≤ 9) (hx : x ≤ 28) : (nI t - nI D + nI x).toInt = (t : Int) - D + x := by
  rw [Int32.toInt_add, pk_sub_toInt (by omega) (by omega), nI_toInt (by omega)]
  exact Int.bmod_eq_of_le (by omega) (by omega)
section OPS5
variable {w h n ready : Int32} {ru pr lf lt rows wide tall hands power spin seed pressed leftFrom leftTo : Nat → Int32}
theorem op_known {waits lostRow wait isLost : Nat → Int32} {delay feel turn sight : Int32} (hI : InvP w h n ready ru pr lf lt rows wide tall hands power spin seed pressed leftFrom leftTo) (hQ : InvR ru delay feel turn sight) (hL : InvL waits lostRow wait isLost) (th p1 p2 p3 : Int32) : ∃ oc om, X7_known n ru lf lt waits lostRow p1 p2 p3 = some oc ∧ X8_known delay hands leftFrom leftTo wait isLost th p1 p2 p3 = some om ∧ oc = om.1 := by
  obtain ⟨WA, LO, l1, l2⟩ := hL.lin
  obtain ⟨W, H, N, pw, sp, sd, R, LF, LT, PR, hn, hc, hm, eR, hR, hT⟩ := hI
  obtain ⟨b1, b2, b3, b4, b5, b6⟩ := hn.1
  have e4 : hands 4 = nI N := hm.2.2.1
  have en : n = nI N := hc.2.2.1
  have hlr := hn.2.2.2.2.1
  have hcl := hc.2.2.2.2.2.2.1
  have hml := hm.2.2.2.2.2.2.1
  obtain ⟨D, fe, tu, si, ⟨d1, d2, d3⟩, -⟩ := hQ
  unfold X7_known X8_known
  rcases hand_cases (N := N) (hands := hands) (by omega) e4 (by omega) p1 with ⟨t1, t2⟩ | ⟨g, hg, rfl, t1, t2⟩
  · rw [en, t1, t2, bd_some, bd_some, if_pos rfl, if_neg i1n0]
    exact ⟨_, _, rfl, rfl, rfl⟩
  · rw [en, t1, t2, bd_some, bd_some, if_neg i1n0, if_pos rfl]
    rcases hand_cases (N := N) (hands := hands) (by omega) e4 (by omega) p2 with ⟨q1, q2⟩ | ⟨a, ha, rfl, q1, q2⟩
    · rw [q1, q2, bd_some, bd_some, if_pos rfl, if_neg i1n0]
      exact ⟨_, _, rfl, rfl, rfl⟩
    · rw [q1, q2, bd_some, bd_some, if_neg i1n0, if_pos rfl]
      rcases tick_cases p3 with ⟨u1, u2⟩ | ⟨t, ht, rfl, u1, u2⟩
      · rw [u1, u2, bd_some, bd_some, if_pos rfl, if_neg i1n0]
        exact ⟨_, _, rfl, rfl, rfl⟩
      · have r1 := hlr a (by omega)
        rw [u1, u2, bd_some, bd_some, if_neg i1n0, if_pos rfl, d2, knownAt_ok l2 hml hlr (by omega) (by omega) ht, bd_some, isLeft_ok (lf := LF) (lt := LT) (by omega) (by omega) (hcl a (by omega)).1 (hcl a (by omega)).2 (by omega) (by omega), bd_some]
        by_cases c : Lf LF LT a t = true
        · rw [if_pos c, if_pos c, if_neg i1n0, if_pos rfl]
          exact ⟨_, _, rfl, rfl, rfl⟩
        · rw [if_neg c, if_neg c, if_pos (rfl : (0 : Int32) = 0), rd_lit ru 7 3 (by decide) (by decide), d1, clockOf_ok l1 (by omega) (by omega) ht, bd_some, if_neg]
          · exact ⟨_, _, rfl, rfl, rfl⟩
          · intro e
            have q := clk_toInt ht d3 (wtL_le l1 (g := g) (a := a) (t := t) (by omega) (by omega))
            rw [e] at q
            have : (-1000000000 : Int32).toInt = -1000000000 := rfl
            omega
end OPS5
