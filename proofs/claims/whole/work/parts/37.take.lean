def kn (WA LO LF LT : Nat → Nat) (D g c a t : Nat) : Bool := Lf LF LT a t || decide (t + wtL WA LO g a t ≤ c + D)
def gs (WA LO LF LT PR : Nat → Nat) (D g c a : Nat) : Nat → Nat
  | 0 => 0
  | t + 1 => if kn WA LO LF LT D g c a t = true then (if Lf LF LT a t = true then 0 else PR (100 * a + t)) else gs WA LO LF LT PR D g c a t
def tk (WA LO LF LT PR : Nat → Nat) (D g c a t : Nat) : Nat := if kn WA LO LF LT D g c a t = true then PR (100 * a + t) else gs WA LO LF LT PR D g c a t
section TAKE
variable {WA LO LF LT PR : Nat → Nat} {waits lostRow lf lt pr : Nat → Int32}
theorem clk_lt {c t D x : Nat} (hc : c < 100) (ht : t < 100) (hD : D ≤ 9) (hx : x ≤ 28) : nI c < nI t - nI D + nI x ↔ c + D < t + x := by
  rw [ltI, clk_toInt ht hD hx, nI_toInt (by omega)]
  omega
theorem isKnown_ok (hl : LinN waits lostRow WA LO) (hcl : ∀ a, a < 6 → lf a = nI (LF a) ∧ lt a = nI (LT a)) (hlr : ∀ a, a < 6 → LF a ≤ LT a ∧ LT a ≤ 100) {D g c a t : Nat} (hD : D ≤ 9) (hg : g < 6) (hc : c < 100) (ha : a < 6) (ht : t < 100) : X4_isKnown lf lt waits lostRow (nI D) (nI g) (nI c) (nI a) (nI t) = some (if kn WA LO LF LT D g c a t = true then 1 else 0) := by
  have r1 := hlr a ha
  have wl := wtL_le hl (g := g) (a := a) (t := t) hg ha
  unfold X4_isKnown kn
  rw [zb_0, zb_1, isLeft_ok (lf := LF) (lt := LT) ha (by omega) (hcl a ha).1 (hcl a ha).2 (by omega) (by omega), bd_some]
  by_cases c1 : Lf LF LT a t = true
  · rw [if_pos c1, if_neg i1n0, if_pos (by rw [c1]; rfl)]
  · have c1' : Lf LF LT a t = false := by simpa using c1
    rw [if_neg c1, if_pos (rfl : (0 : Int32) = 0), clockOf_ok hl hg ha ht, bd_some, c1', Bool.false_or]
    by_cases c2 : t + wtL WA LO g a t ≤ c + D
    · rw [if_neg (by rw [clk_lt hc ht hD wl]; omega), if_pos (by simpa using c2)]
    · rw [if_pos (by rw [clk_lt hc ht hD wl]; omega), if_neg (by simpa using c2)]
theorem guessed_L (hl : LinN waits lostRow WA LO) (hcl : ∀ a, a < 6 → lf a = nI (LF a) ∧ lt a = nI (LT a)) (hlr : ∀ a, a < 6 → LF a ≤ LT a ∧ LT a ≤ 100) (hpr : ∀ k, k < 600 → pr k = nI (PR k)) {D g c a : Nat} (hD : D ≤ 9) (hg : g < 6) (hc : c < 100) (ha : a < 6) : ∀ (t fuel : Nat), t ≤ 100 → t < fuel → X4_guessed_L6 pr lf lt waits lostRow fuel (nI D) (nI g) (nI c) (nI a) (nI t - 1) = some (nI (gs WA LO LF LT PR D g c a t)) := by
  have r1 := hlr a ha
  intro t
  induction t with
  | zero =>
    intro fuel _ hf
    obtain ⟨fuel, rfl⟩ : ∃ k, fuel = k + 1 := ⟨fuel - 1, by omega⟩
    show X4_guessed_L6_B pr lf lt waits lostRow _ (nI D) (nI g) (nI c) (nI a) (nI 0 - 1) = _
    unfold X4_guessed_L6_B
    rw [if_pos (by decide)]
    rfl
  | succ t ih =>
    intro fuel ht hf
    obtain ⟨fuel, rfl⟩ : ∃ k, fuel = k + 1 := ⟨fuel - 1, by omega⟩
    rw [show nI (t + 1) - 1 = nI t from nI_pred t]
    show X4_guessed_L6_B pr lf lt waits lostRow (X4_guessed_L6 pr lf lt waits lostRow fuel) (nI D) (nI g) (nI c) (nI a) (nI t) = _
    unfold X4_guessed_L6_B
    rw [if_neg (nI_pos (by omega)), isKnown_ok hl hcl hlr hD hg hc ha (by omega), bd_some, gs]
    by_cases k : kn WA LO LF LT D g c a t = true
    · rw [if_pos k, if_neg i1n0, if_pos k]
      unfold X4_guessed_J25
      rw [isLeft_ok (lf := LF) (lt := LT) ha (by omega) (hcl a ha).1 (hcl a ha).2 (by omega) (by omega), bd_some]
      by_cases c1 : Lf LF LT a t = true
      · rw [if_pos c1, if_neg i1n0, if_pos c1]
        rfl
      · rw [if_neg c1, if_pos (rfl : (0 : Int32) = 0), if_neg c1, pressOf_ok ha (by omega), bd_some, hpr _ (by omega)]
    · rw [if_neg k, if_pos (rfl : (0 : Int32) = 0), if_neg k, nm_eq, show nI t + (-1) = nI t - 1 from (Int32.sub_eq_add_neg _ _).symm]
      exact ih fuel (by omega) (by omega)
theorem taken_ok (hl : LinN waits lostRow WA LO) (hcl : ∀ a, a < 6 → lf a = nI (LF a) ∧ lt a = nI (LT a)) (hlr : ∀ a, a < 6 → LF a ≤ LT a ∧ LT a ≤ 100) (hpr : ∀ k, k < 600 → pr k = nI (PR k)) {D g c a t : Nat} (hD : D ≤ 9) (hg : g < 6) (hc : c < 100) (ha : a < 6) (ht : t < 100) : X4_taken pr lf lt waits lostRow (nI D) (nI g) (nI c) (nI a) (nI t) = some (nI (tk WA LO LF LT PR D g c a t)) := by
  unfold X4_taken tk
  rw [isKnown_ok hl hcl hlr hD hg hc ha ht, bd_some]
  by_cases k : kn WA LO LF LT D g c a t = true
  · rw [if_pos k, if_neg i1n0, if_pos k, pressOf_ok ha ht, bd_some, hpr _ (by omega)]
  · rw [if_neg k, if_pos (rfl : (0 : Int32) = 0), if_neg k]
    unfold X4_guessed
    rw [nm_eq, guessed_L hl hcl hlr hpr hD hg hc ha t FU (by omega) (FU_big (by omega)), bd_some]
theorem guessed_ok (hl : LinN waits lostRow WA LO) (hcl : ∀ a, a < 6 → lf a = nI (LF a) ∧ lt a = nI (LT a)) (hlr : ∀ a, a < 6 → LF a ≤ LT a ∧ LT a ≤ 100) (hpr : ∀ k, k < 600 → pr k = nI (PR k)) {D g c a t : Nat} (hD : D ≤ 9) (hg : g < 6) (hc : c < 100) (ha : a < 6) (ht : t < 100) : X4_guessed pr lf lt waits lostRow (nI D) (nI g) (nI c) (nI a) (nI t) = some (nI (gs WA LO LF LT PR D g c a t)) := by
  unfold X4_guessed
  rw [nm_eq, guessed_L hl hcl hlr hpr hD hg hc ha t FU (by omega) (FU_big (by omega))]
end TAKE
section MTAKE
variable {WA LO LF LT PR : Nat → Nat} {hands pressed leftFrom leftTo wait isLost : Nat → Int32} {N : Nat}
theorem mtake_in (hl : LinN wait isLost WA LO) (hml : ∀ a, a < 6 → leftFrom (6 * 4 + a) = nI (LF a) ∧ leftTo (6 * 4 + a) = nI (LT a)) (hlr : ∀ a, a < 6 → LF a ≤ LT a ∧ LT a ≤ 100) (hpr : ∀ k, k < 600 → pressed (600 * 4 + k) = nI (PR k)) {D g c a : Nat} (hD : D ≤ 9) (hg : g < 6) (hc : c < 100) (ha : a < 6) (rec3 : (Nat → Int32) → Int32 → Int32 → Int32 → Int32 → Option (Nat → Int32)) : ∀ (d t fuel : Nat) (row : Nat → Int32), t + d = c + 1 → d < fuel → (∀ j, j < t → row (100 * a + j) = nI (tk WA LO LF LT PR D g c a j)) → ∃ row', X8_take_L20 600 hands pressed leftFrom leftTo wait isLost rec3 fuel row (nI g) (nI c) (nI D) (nI a) (nI (gs WA LO LF LT PR D g c a t)) (nI t) = rec3 row' (nI g) (nI c) (nI D) (nI (a + 1)) ∧ (∀ j, j ≤ c → row' (100 * a + j) = nI (tk WA LO LF LT PR D g c a j)) ∧ ∀ k, (k < 100 * a ∨ 100 * a + 100 ≤ k) → row' k = row k := by
  have r1 := hlr a ha
  intro d
  induction d with
  | zero =>
    intro t fuel row ht hf h
    obtain ⟨fuel, rfl⟩ : ∃ k, fuel = k + 1 := ⟨fuel - 1, by omega⟩
    have et : t = c + 1 := by omega
    subst et
    refine ⟨row, ?_, fun j hj => h j (by omega), fun k _ => rfl⟩
    show X8_take_L20_B 600 hands pressed leftFrom leftTo wait isLost rec3 _ row (nI g) (nI c) (nI D) (nI a) _ (nI (c + 1)) = _
    unfold X8_take_L20_B
    rw [if_pos (nI_lt (by omega) (by omega))]
    unfold X8_take_J125
    rw [nm_eq, show nI a + 1 = nI (a + 1) from nI_1 a]
  | succ d ih =>
    intro t fuel row ht hf h
    obtain ⟨fuel, rfl⟩ : ∃ k, fuel = k + 1 := ⟨fuel - 1, by omega⟩
    have wl := wtL_le hl (g := g) (a := a) (t := t) hg ha
    have hstep : X8_take_L20 600 hands pressed leftFrom leftTo wait isLost rec3 (fuel + 1) row (nI g) (nI c) (nI D) (nI a) (nI (gs WA LO LF LT PR D g c a t)) (nI t) = X8_take_L20 600 hands pressed leftFrom leftTo wait isLost rec3 fuel (upd row (100 * a + t) (nI (tk WA LO LF LT PR D g c a t))) (nI g) (nI c) (nI D) (nI a) (nI (gs WA LO LF LT PR D g c a (t + 1))) (nI (t + 1)) := by
      show X8_take_L20_B 600 hands pressed leftFrom leftTo wait isLost rec3 (X8_take_L20 600 hands pressed leftFrom leftTo wait isLost rec3 fuel) row (nI g) (nI c) (nI D) (nI a) _ (nI t) = _
      unfold X8_take_L20_B
      rw [if_neg (nI_nlt (by omega) (by omega)), knownAt_ok hl hml hlr hg ha (by omega), bd_some]
      have e2 : (2400 : Int32) + 100 * nI a + nI t = nI (600 * 4 + (100 * a + t)) := by
        show nI 2400 + nI 100 * nI a + nI t = _
        rw [pk_mul, nI_add, nI_add, Nat.add_assoc]
      have hcond : (nI c < (if Lf LF LT a t = true then (-1000000000 : Int32) else nI t - nI D + nI (wtL WA LO g a t))) ↔ ¬ kn WA LO LF LT D g c a t = true := by
        unfold kn
        by_cases c1 : Lf LF LT a t = true
        · rw [if_pos c1, c1, ltI, nI_toInt (by omega)]
          have : (-1000000000 : Int32).toInt = -1000000000 := rfl
          simp
        · have c1' : Lf LF LT a t = false := by simpa using c1
          rw [if_neg c1, clk_lt hc (by omega) hD wl, c1']
          simp
      unfold X8_take_J45 X8_take_J88 X8_take_J117
      simp only [nm_eq, show nI t + 1 = nI (t + 1) from nI_1 t, e2, idx100, rd_nI pressed (show 600 * 4 + (100 * a + t) < 3000 by omega) (by decide), hpr (100 * a + t) (by omega), wrI_nI row (show 100 * a + t < 600 by omega) (by decide)]
      rw [show (4 : Int32) = nI 4 from rfl, mLeft_ok (lfa := LF a) (lta := LT a) (by decide) ha (by omega) (hml a ha).1 (hml a ha).2 (by omega) (by omega)]
      simp only [bd_some]
      unfold tk
      rw [gs]
      by_cases k : kn WA LO LF LT D g c a t = true
      · rw [if_neg (fun q => (hcond.mp q) k), if_pos k, if_pos k, if_neg i1n0, if_neg i1n0]
        by_cases c1 : Lf LF LT a t = true
        · have c2 : LF a ≤ t ∧ t < LT a := by simpa [Lf] using c1
          rw [if_pos c2, if_neg i1n0, if_pos c1]
          rfl
        · have c2 : ¬ (LF a ≤ t ∧ t < LT a) := by simpa [Lf] using c1
          rw [if_neg c2, if_pos (rfl : (0 : Int32) = 0), if_neg c1]
      · rw [if_pos (hcond.mpr k), if_neg k, if_neg k, if_pos trivial, if_pos trivial]
    rw [hstep]
    obtain ⟨row', e, h1, h2⟩ := ih (t + 1) fuel (upd row (100 * a + t) (nI (tk WA LO LF LT PR D g c a t))) (by omega) (by omega) (fun j hj => by
      by_cases q : j = t
      · subst q
        exact pk_us
      · rw [pk_un (by omega)]
        exact h j (by omega))
    exact ⟨row', e, h1, fun k hk => by rw [h2 k hk, pk_un (by omega)]⟩
theorem mtake_out (hb6 : N ≤ 6) (e4 : hands 4 = nI N) (hl : LinN wait isLost WA LO) (hml : ∀ a, a < 6 → leftFrom (6 * 4 + a) = nI (LF a) ∧ leftTo (6 * 4 + a) = nI (LT a)) (hlr : ∀ a, a < 6 → LF a ≤ LT a ∧ LT a ≤ 100) (hpr : ∀ k, k < 600 → pressed (600 * 4 + k) = nI (PR k)) {D g c : Nat} (hD : D ≤ 9) (hg : g < 6) (hc : c < 100) : ∀ (d a fuel : Nat) (row : Nat → Int32), a + d = N → d < fuel → (∀ b, b < a → ∀ j, j ≤ c → row (100 * b + j) = nI (tk WA LO LF LT PR D g c b j)) → ∃ row', X8_take_L3 600 hands pressed leftFrom leftTo wait isLost fuel row (nI g) (nI c) (nI D) (nI a) = some row' ∧ ∀ b, b < N → ∀ j, j ≤ c → row' (100 * b + j) = nI (tk WA LO LF LT PR D g c b j) := by
  intro d
  induction d with
  | zero =>
    intro a fuel row ha hf h
    obtain ⟨fuel, rfl⟩ : ∃ k, fuel = k + 1 := ⟨fuel - 1, by omega⟩
    refine ⟨row, ?_, fun b hb => h b (by omega)⟩
    show X8_take_L3_B 600 hands pressed leftFrom leftTo wait isLost _ row (nI g) (nI c) (nI D) (nI a) = _
    unfold X8_take_L3_B
    rw [rd_lit hands 5 4 (by decide) (by decide), e4, if_pos (nI_le (by omega) (by omega))]
  | succ d ih =>
    intro a fuel row ha hf h
    obtain ⟨fuel, rfl⟩ : ∃ k, fuel = k + 1 := ⟨fuel - 1, by omega⟩
    obtain ⟨row', e, h1, h2⟩ := mtake_in (hands := hands) hl hml hlr hpr hD hg hc (a := a) (by omega) (X8_take_L3 600 hands pressed leftFrom leftTo wait isLost fuel) (c + 1) 0 FU row (by omega) (FU_big (by omega)) (fun j hj => by omega)
    have hs : X8_take_L3 600 hands pressed leftFrom leftTo wait isLost (fuel + 1) row (nI g) (nI c) (nI D) (nI a) = X8_take_L3 600 hands pressed leftFrom leftTo wait isLost fuel row' (nI g) (nI c) (nI D) (nI (a + 1)) := by
      rw [← e]
      show X8_take_L3_B 600 hands pressed leftFrom leftTo wait isLost _ row (nI g) (nI c) (nI D) (nI a) = _
      unfold X8_take_L3_B
      rw [rd_lit hands 5 4 (by decide) (by decide), e4, if_neg (nI_ge (by omega) (by omega))]
      rfl
    rw [hs]
    refine ih (a + 1) fuel row' (by omega) (by omega) (fun b hb j hj => ?_)
    by_cases q : b = a
    · subst q
      exact h1 j hj
    · rw [h2 _ (by omega)]
      exact h b (by omega) j hj
theorem mtake_ok (hb6 : N ≤ 6) (e4 : hands 4 = nI N) (hl : LinN wait isLost WA LO) (hml : ∀ a, a < 6 → leftFrom (6 * 4 + a) = nI (LF a) ∧ leftTo (6 * 4 + a) = nI (LT a)) (hlr : ∀ a, a < 6 → LF a ≤ LT a ∧ LT a ≤ 100) (hpr : ∀ k, k < 600 → pressed (600 * 4 + k) = nI (PR k)) {D g c : Nat} (hD : D ≤ 9) (hg : g < 6) (hc : c < 100) (row : Nat → Int32) : ∃ row', X8_take 600 hands pressed leftFrom leftTo wait isLost row (nI g) (nI c) (nI D) = some row' ∧ ∀ b, b < N → ∀ j, j ≤ c → row' (100 * b + j) = nI (tk WA LO LF LT PR D g c b j) := by
  unfold X8_take
  exact mtake_out hb6 e4 hl hml hlr hpr hD hg hc N 0 FU row (by omega) (FU_big (by omega)) (fun b hb => by omega)
end MTAKE
section OPS6
variable {w h n ready : Int32} {ru pr lf lt rows wide tall hands power spin seed pressed leftFrom leftTo : Nat → Int32}
theorem op_takes {waits lostRow wait isLost : Nat → Int32} {delay feel turn sight : Int32} (hI : InvP w h n ready ru pr lf lt rows wide tall hands power spin seed pressed leftFrom leftTo) (hQ : InvR ru delay feel turn sight) (hL : InvL waits lostRow wait isLost) (th : Int32) (row : Nat → Int32) (p1 p2 p3 p4 : Int32) : ∃ oc om, X7_takes n ru pr lf lt waits lostRow p1 p2 p3 p4 = some oc ∧ X8_takes delay hands pressed leftFrom leftTo wait isLost th row p1 p2 p3 p4 = some om ∧ oc = om.1 := by
  obtain ⟨WA, LO, l1, l2⟩ := hL.lin
  obtain ⟨W, H, N, pw, sp, sd, R, LF, LT, PR, hn, hc, hm, eR, hR, hT⟩ := hI
  obtain ⟨b1, b2, b3, b4, b5, b6⟩ := hn.1
  have e4 : hands 4 = nI N := hm.2.2.1
  have en : n = nI N := hc.2.2.1
  have hlr := hn.2.2.2.2.1
  have hcl := hc.2.2.2.2.2.2.1
  have hml := hm.2.2.2.2.2.2.1
  have hcp := hc.2.2.2.2.2.2.2
  have hmp := hm.2.2.2.2.2.2.2
  obtain ⟨D, fe, tu, si, ⟨d1, d2, d3⟩, -⟩ := hQ
  have k0 : (0 : Int64).toInt = 0 := rfl
  unfold X7_takes X8_takes
  rcases hand_cases (N := N) (hands := hands) (by omega) e4 (by omega) p1 with ⟨t1, t2⟩ | ⟨g, hg, rfl, t1, t2⟩
  · rw [en, t1, t2, bd_some, bd_some, if_pos rfl, if_neg i1n0]
    exact ⟨_, _, rfl, rfl, rfl⟩
  · rw [en, t1, t2, bd_some, bd_some, if_neg i1n0, if_pos rfl]
    rcases hand_cases (N := N) (hands := hands) (by omega) e4 (by omega) p3 with ⟨q1, q2⟩ | ⟨a, ha, rfl, q1, q2⟩
    · rw [q1, q2, bd_some, bd_some, if_pos rfl, if_neg i1n0]
      exact ⟨_, _, rfl, rfl, rfl⟩
    · rw [q1, q2, bd_some, bd_some, if_neg i1n0, if_pos rfl]
      rcases tick_cases p2 with ⟨u1, u2⟩ | ⟨c, hcc, rfl, u1, u2⟩
      · rw [u1, u2, bd_some, bd_some, if_pos rfl, if_neg i1n0]
        exact ⟨_, _, rfl, rfl, rfl⟩
      · rw [u1, u2, bd_some, bd_some, if_neg i1n0, if_pos rfl]
        have kc : (nI c).toInt = c := nI_toInt (by omega)
        by_cases hv : 0 ≤ p4.toInt ∧ p4.toInt ≤ c
        · obtain ⟨t, et, et2, -⟩ := ofI hv.1
          rw [in_yes (by rw [k0]; exact hv.1) (by rw [t64, kc]; exact hv.2), bd_some, if_neg i1n0, if_neg (by rw [lt0I]; omega), if_pos (by rw [leI, kc]; exact hv.2)]
          subst et
          obtain ⟨row', r1, r2⟩ := mtake_ok b6 e4 l2 hml hlr hmp d3 (show g < 6 by omega) hcc row
          rw [rd_lit ru 7 3 (by decide) (by decide), d1, taken_ok l1 hcl hlr hcp d3 (by omega) hcc (by omega) (by omega), bd_some, d2, r1, bd_some, idx100, rd_nI row' (by omega) (by decide), r2 a ha t (by omega)]
          exact ⟨_, _, rfl, rfl, rfl⟩
        · rw [in_no (by rw [k0, t64, kc]; exact hv), bd_some, if_pos rfl]
          by_cases z : p4 < 0
          · rw [if_pos z]
            exact ⟨_, _, rfl, rfl, rfl⟩
          · rw [if_neg z, if_neg (by rw [lt0I] at z; rw [leI, kc]; omega)]
            exact ⟨_, _, rfl, rfl, rfl⟩
end OPS6
