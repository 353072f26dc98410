def ev (WA LO LF LT PR : Nat → Nat) (D g c a t : Nat) : Prop := t < c ∧ Lf LF LT a t = false ∧ t + wtL WA LO g a t = c + D ∧ PR (100 * a + t) ≠ gs WA LO LF LT PR D g (c - 1) a t
def BK (WA LO LF LT PR : Nat → Nat) (D g c N M : Nat) : Prop := (∀ a, a < N → ∀ t, ev WA LO LF LT PR D g c a t → c - t ≤ M) ∧ (M = 0 ∨ ∃ a, a < N ∧ ∃ t, ev WA LO LF LT PR D g c a t ∧ M = c - t)
theorem BK_one {WA LO LF LT PR : Nat → Nat} {D g c N M M' : Nat} (h : BK WA LO LF LT PR D g c N M) (h' : BK WA LO LF LT PR D g c N M') : M = M' := by
  obtain ⟨h1, h2⟩ := h
  obtain ⟨h3, h4⟩ := h'
  have l1 : M ≤ M' := by
    rcases h2 with h2 | ⟨a, ha, t, e, q⟩
    · omega
    · have := h3 a ha t e
      omega
  have l2 : M' ≤ M := by
    rcases h4 with h4 | ⟨a, ha, t, e, q⟩
    · omega
    · have := h1 a ha t e
      omega
  omega
theorem kn_new {WA LO LF LT : Nat → Nat} {D g c a t : Nat} (hc : 1 ≤ c) (h1 : kn WA LO LF LT D g c a t = true) (h2 : ¬ kn WA LO LF LT D g (c - 1) a t = true) : Lf LF LT a t = false ∧ t + wtL WA LO g a t = c + D := by
  unfold kn at h1 h2
  rw [Bool.or_eq_true, decide_eq_true_iff] at h1 h2
  have h3 : ¬ Lf LF LT a t = true := fun q => h2 (Or.inl q)
  have h4 : ¬ t + wtL WA LO g a t ≤ c - 1 + D := fun q => h2 (Or.inr q)
  have h5 := h1.resolve_left h3
  exact ⟨by simpa using h3, by omega⟩
theorem kn_mono {WA LO LF LT : Nat → Nat} {D g c a t : Nat} (h1 : ¬ kn WA LO LF LT D g c a t = true) : ¬ kn WA LO LF LT D g (c - 1) a t = true := by
  unfold kn at h1 ⊢
  rw [Bool.or_eq_true, decide_eq_true_iff] at h1 ⊢
  rintro (q | q)
  · exact h1 (Or.inl q)
  · exact h1 (Or.inr (by omega))
theorem gs_chg {WA LO LF LT PR : Nat → Nat} {D g c a : Nat} (hc : 1 ≤ c) : ∀ t, t ≤ c → gs WA LO LF LT PR D g c a t ≠ gs WA LO LF LT PR D g (c - 1) a t → ∃ u, u < t ∧ ev WA LO LF LT PR D g c a u
  | 0, _, h => absurd rfl h
  | t + 1, ht, h => by
    rw [gs, gs] at h
    by_cases k1 : kn WA LO LF LT D g c a t = true
    · rw [if_pos k1] at h
      by_cases k2 : kn WA LO LF LT D g (c - 1) a t = true
      · rw [if_pos k2] at h
        exact absurd rfl h
      · rw [if_neg k2] at h
        obtain ⟨n1, n2⟩ := kn_new hc k1 k2
        rw [if_neg (by rw [n1]; decide)] at h
        exact ⟨t, by omega, by omega, n1, n2, h⟩
    · rw [if_neg k1, if_neg (kn_mono k1)] at h
      obtain ⟨u, hu, e⟩ := gs_chg hc t (by omega) h
      exact ⟨u, by omega, e⟩
theorem tk_chg {WA LO LF LT PR : Nat → Nat} {D g c a t : Nat} (hc : 1 ≤ c) (ht : t < c) (h : tk WA LO LF LT PR D g c a t ≠ tk WA LO LF LT PR D g (c - 1) a t) : ∃ u, u ≤ t ∧ ev WA LO LF LT PR D g c a u := by
  unfold tk at h
  by_cases k1 : kn WA LO LF LT D g c a t = true
  · rw [if_pos k1] at h
    by_cases k2 : kn WA LO LF LT D g (c - 1) a t = true
    · rw [if_pos k2] at h
      exact absurd rfl h
    · rw [if_neg k2] at h
      obtain ⟨n1, n2⟩ := kn_new hc k1 k2
      exact ⟨t, Nat.le_refl t, ht, n1, n2, h⟩
  · rw [if_neg k1, if_neg (kn_mono k1)] at h
    obtain ⟨u, hu, e⟩ := gs_chg hc t (by omega) h
    exact ⟨u, by omega, e⟩
theorem ev_chg {WA LO LF LT PR : Nat → Nat} {D g c a t : Nat} (h : ev WA LO LF LT PR D g c a t) : tk WA LO LF LT PR D g c a t ≠ tk WA LO LF LT PR D g (c - 1) a t := by
  obtain ⟨h1, h2, h3, h4⟩ := h
  have k1 : kn WA LO LF LT D g c a t = true := by
    unfold kn
    rw [Bool.or_eq_true, decide_eq_true_iff]
    exact Or.inr (by omega)
  have k2 : ¬ kn WA LO LF LT D g (c - 1) a t = true := by
    unfold kn
    rw [Bool.or_eq_true, decide_eq_true_iff, h2]
    rintro (q | q)
    · cases q
    · omega
  unfold tk
  rw [if_pos k1, if_neg k2]
  exact h4
section BACK
variable {WA LO LF LT PR : Nat → Nat} {waits lostRow lf lt pr : Nat → Int32}
theorem backBy_ok (hl : LinN waits lostRow WA LO) (hcl : ∀ a, a < 6 → lf a = nI (LF a) ∧ lt a = nI (LT a)) (hlr : ∀ a, a < 6 → LF a ≤ LT a ∧ LT a ≤ 100) (hpr : ∀ k, k < 600 → pr k = nI (PR k)) (hp5 : ∀ k, k < 600 → PR k ≤ 5) {D g c a : Nat} (hD : D ≤ 9) (hg : g < 6) (hc : c < 100) (ha : a < 6) (x : Int32) : ∃ M, M ≤ 100 ∧ X4_backBy pr lf lt waits lostRow (nI D) (nI g) (nI c) (nI a) x = some (nI M) ∧ (M = 0 ∨ ∃ t, ev WA LO LF LT PR D g c a t ∧ M = c - t) ∧ ∀ t, x = nI t → ev WA LO LF LT PR D g c a t → M = c - t := by
  have r1 := hlr a ha
  unfold X4_backBy
  by_cases c1 : x < 0
  · refine ⟨0, by omega, by rw [if_pos c1]; rfl, Or.inl rfl, fun t e h => ?_⟩
    have := h.1
    rw [e] at c1
    exact absurd c1 (nI_pos (by omega))
  · rw [if_neg c1]
    by_cases c2 : nI c ≤ x
    · refine ⟨0, by omega, by rw [if_pos c2]; rfl, Or.inl rfl, fun t e h => ?_⟩
      have := h.1
      rw [e] at c2
      exact absurd c2 (nI_ge this (by omega))
    · rw [if_neg c2]
      obtain ⟨t, et, et2, -⟩ := ofI (p := x) (by rw [lt0I] at c1; omega)
      have htc : t < c := by
        rw [leI, nI_toInt (show c < 2 ^ 31 by omega)] at c2
        omega
      subst et
      have inj : ∀ u, nI t = nI u → ev WA LO LF LT PR D g c a u → u = t := fun u e h => (nI_inj (by omega) (by have := h.1; omega) e).symm
      rw [isLeft_ok (lf := LF) (lt := LT) ha (by omega) (hcl a ha).1 (hcl a ha).2 (by omega) (by omega), bd_some]
      by_cases c3 : Lf LF LT a t = true
      · rw [if_pos c3, if_neg i1n0]
        refine ⟨0, by omega, rfl, Or.inl rfl, fun u e h => ?_⟩
        have := inj u e h
        subst this
        have h21 := h.2.1
        rw [c3] at h21
        cases h21
      · have c3' : Lf LF LT a t = false := by simpa using c3
        rw [if_neg c3, if_pos (rfl : (0 : Int32) = 0), clockOf_ok hl hg ha (by omega), bd_some]
        have wl := wtL_le hl (g := g) (a := a) (t := t) hg ha
        have hck := clk_toInt (t := t) (D := D) (by omega) hD wl
        by_cases c4 : t + wtL WA LO g a t = c + D
        · have e4 : nI t - nI D + nI (wtL WA LO g a t) = nI c := by
            rw [eqI, hck, nI_toInt (by omega)]
            omega
          rw [if_pos e4, show nI c - 1 = nI (c - 1) from pk_sub (b := 1) (by omega), guessed_ok hl hcl hlr hpr hD hg (by omega) ha (by omega), bd_some, pressOf_ok ha (by omega), bd_some, hpr _ (by omega)]
          have g5 := gs_le (WA := WA) (LO := LO) (LF := LF) (LT := LT) (D := D) (g := g) (c := c - 1) ha hp5 t (by omega)
          have p5 := hp5 (100 * a + t) (by omega)
          by_cases c5 : gs WA LO LF LT PR D g (c - 1) a t = PR (100 * a + t)
          · rw [if_pos (by rw [c5])]
            refine ⟨0, by omega, rfl, Or.inl rfl, fun u e h => ?_⟩
            have := inj u e h
            subst this
            exact absurd c5.symm h.2.2.2
          · rw [if_neg (fun e => c5 (nI_inj (by omega) (by omega) e)), pk_sub (by omega)]
            refine ⟨c - t, by omega, rfl, Or.inr ⟨t, ⟨htc, c3', c4, fun e => c5 e.symm⟩, rfl⟩, fun u e h => ?_⟩
            rw [inj u e h]
        · have e4 : ¬ nI t - nI D + nI (wtL WA LO g a t) = nI c := fun e => by
            rw [eqI, hck, nI_toInt (by omega)] at e
            omega
          rw [if_neg e4]
          refine ⟨0, by omega, rfl, Or.inl rfl, fun u e h => ?_⟩
          have := inj u e h
          subst this
          exact absurd h.2.2.1 c4
def mx (a b : Nat) : Nat := if a < b then b else a
theorem mx_l (a b : Nat) : a ≤ mx a b := by unfold mx; split <;> omega
theorem mx_r (a b : Nat) : b ≤ mx a b := by unfold mx; split <;> omega
theorem mx_or (a b : Nat) : mx a b = a ∨ mx a b = b := by unfold mx; split <;> omega
theorem max_nI {a b : Nat} (ha : a < 2 ^ 31) (hb : b < 2 ^ 31) : (if nI a < nI b then nI b else nI a) = nI (mx a b) := by
  unfold mx
  by_cases c : a < b
  · rw [if_pos c, if_pos (nI_lt c hb)]
  · rw [if_neg c, if_neg (nI_nlt (by omega) ha)]
theorem goneBack_L {n : Int32} {N : Nat} (hnN : n = nI N) (hN : N ≤ 6) (hl : LinN waits lostRow WA LO) (hcl : ∀ a, a < 6 → lf a = nI (LF a) ∧ lt a = nI (LT a)) (hlr : ∀ a, a < 6 → LF a ≤ LT a ∧ LT a ≤ 100) (hpr : ∀ k, k < 600 → pr k = nI (PR k)) (hp5 : ∀ k, k < 600 → PR k ≤ 5) {D g c : Nat} (hD : D ≤ 9) (hg : g < 6) (hc : c < 100) : ∀ (d i fuel m : Nat), i + d = N → d < fuel → m ≤ 100 → BK WA LO LF LT PR D g c i m → ∃ M, M ≤ 100 ∧ X4_goneBack_L6 n pr lf lt waits lostRow fuel (nI D) (nI g) (nI c) (nI m) (nI i) = some (nI M) ∧ BK WA LO LF LT PR D g c N M := by
  subst hnN
  intro d
  induction d with
  | zero =>
    intro i fuel m hi hf hm hB
    obtain ⟨fuel, rfl⟩ : ∃ k, fuel = k + 1 := ⟨fuel - 1, by omega⟩
    have ei : i = N := by omega
    subst ei
    refine ⟨m, hm, ?_, hB⟩
    show X4_goneBack_L6_B (nI i) pr lf lt waits lostRow _ (nI D) (nI g) (nI c) (nI m) (nI i) = _
    unfold X4_goneBack_L6_B
    rw [if_pos (nI_le (by omega) (by omega))]
  | succ d ih =>
    intro i fuel m hi hf hm hB
    obtain ⟨fuel, rfl⟩ : ∃ k, fuel = k + 1 := ⟨fuel - 1, by omega⟩
    have w9 := (hl.1 (6 * g + i) (by omega))
    obtain ⟨M1, l1, e1, q1, z1⟩ := backBy_ok hl hcl hlr hpr hp5 hD hg hc (show i < 6 by omega) (nI (c + D) - nI (WA (6 * g + i)))
    obtain ⟨M2, l2, e2, q2, z2⟩ := backBy_ok hl hcl hlr hpr hp5 hD hg hc (show i < 6 by omega) (nI (c + D) - 3 * nI (WA (6 * g + i)) - 1)
    have hs : X4_goneBack_L6 (nI N) pr lf lt waits lostRow (fuel + 1) (nI D) (nI g) (nI c) (nI m) (nI i) = X4_goneBack_L6 (nI N) pr lf lt waits lostRow fuel (nI D) (nI g) (nI c) (nI (mx (mx m M1) M2)) (nI (i + 1)) := by
      show X4_goneBack_L6_B (nI N) pr lf lt waits lostRow (X4_goneBack_L6 (nI N) pr lf lt waits lostRow fuel) (nI D) (nI g) (nI c) (nI m) (nI i) = _
      unfold X4_goneBack_L6_B X4_waitOf
      have hm1 : mx m M1 < 2 ^ 31 := by rcases mx_or m M1 with q | q <;> omega
      rw [if_neg (nI_ge (by omega) (by omega)), idx6', rd_nI waits (by omega) (by decide), bd_some, nm_eq, nI_add, w9.1, e1, bd_some, nm_eq, max_nI (by omega) (by omega), e2, bd_some, nm_eq, max_nI hm1 (by omega), nm_eq, show nI i + 1 = nI (i + 1) from nI_1 i]
    rw [hs]
    have g1 := mx_l m M1
    have g2 := mx_r m M1
    have g3 := mx_l (mx m M1) M2
    have g4 := mx_r (mx m M1) M2
    refine ih (i + 1) fuel _ (by omega) (by omega) (by rcases mx_or m M1 with q | q <;> rcases mx_or (mx m M1) M2 with q' | q' <;> omega) ⟨fun a ha t h => ?_, ?_⟩
    · by_cases ea : a = i
      · subst ea
        have hcase : c - t ≤ M1 ∨ c - t ≤ M2 := by
          obtain ⟨h1, h2, h3, h4⟩ := h
          have h3' := h3
          unfold wtL at h3'
          by_cases s1 : g = a
          · rw [if_pos s1] at h3'
            omega
          · rw [if_neg s1] at h3'
            by_cases s2 : LO (100 * a + t) = 0
            · rw [if_pos s2] at h3'
              left
              have := z1 t (by rw [pk_sub (by omega)]; congr 1; omega) ⟨h1, h2, h3, h4⟩
              omega
            · rw [if_neg s2] at h3'
              right
              have := z2 t (by
                rw [show (3 : Int32) * nI (WA (6 * g + a)) = nI (3 * WA (6 * g + a)) from pk_mul 3 _, pk_sub (by omega), show nI (c + D - 3 * WA (6 * g + a)) - 1 = nI (c + D - 3 * WA (6 * g + a) - 1) from pk_sub (b := 1) (by omega)]
                congr 1
                omega) ⟨h1, h2, h3, h4⟩
              omega
        rcases hcase with q | q <;> omega
      · have := hB.1 a (by omega) t h
        omega
    · have hor : mx (mx m M1) M2 = m ∨ mx (mx m M1) M2 = M1 ∨ mx (mx m M1) M2 = M2 := by
        rcases mx_or m M1 with q | q <;> rcases mx_or (mx m M1) M2 with q' | q' <;> omega
      rcases hor with e | e | e
      · rw [e]
        rcases hB.2 with q | ⟨a, ha, t, h1, h2⟩
        · exact Or.inl q
        · exact Or.inr ⟨a, by omega, t, h1, h2⟩
      · rw [e]
        rcases q1 with q | ⟨t, h1, h2⟩
        · exact Or.inl q
        · exact Or.inr ⟨i, by omega, t, h1, h2⟩
      · rw [e]
        rcases q2 with q | ⟨t, h1, h2⟩
        · exact Or.inl q
        · exact Or.inr ⟨i, by omega, t, h1, h2⟩
theorem goneBack_ok {n : Int32} {N : Nat} (hnN : n = nI N) (hN : N ≤ 6) (hl : LinN waits lostRow WA LO) (hcl : ∀ a, a < 6 → lf a = nI (LF a) ∧ lt a = nI (LT a)) (hlr : ∀ a, a < 6 → LF a ≤ LT a ∧ LT a ≤ 100) (hpr : ∀ k, k < 600 → pr k = nI (PR k)) (hp5 : ∀ k, k < 600 → PR k ≤ 5) {D g c : Nat} (hD : D ≤ 9) (hg : g < 6) (hc : c < 100) : ∃ M, M ≤ 100 ∧ X4_goneBack n pr lf lt waits lostRow (nI D) (nI g) (nI c) = some (nI M) ∧ BK WA LO LF LT PR D g c N M := by
  unfold X4_goneBack
  exact goneBack_L hnN hN hl hcl hlr hpr hp5 hD hg hc N 0 FU 0 (by omega) (FU_big (by omega)) (by omega) ⟨fun a ha => by omega, Or.inl rfl⟩
end BACK
