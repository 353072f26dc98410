def sI (f : Nat → Nat) : Nat → Nat
  | 0 => 0
  | c + 1 => sI f c + f c
def sO (B : Nat → Nat → Nat) (m : Nat) : Nat → Nat
  | 0 => 0
  | g + 1 => sO B m g + sI (B g) (m + 1)
section COST
variable {n : Int32} {ru pr lf lt waits lostRow : Nat → Int32} {N D fe tu m : Nat} {B : Nat → Nat → Nat}
theorem cost_L (en : n = nI N) (hN : N ≤ 6) (hm : m < 100) (h4 : ru 4 = nI fe) (h5 : ru 5 = nI tu) (hB : ∀ g, g < N → ∀ c, c < 100 → X4_goneBack n pr lf lt waits lostRow (nI D) (nI g) (nI c) = some (nI (B g c))) : ∀ (d g fuel : Nat), g + d = N → d < fuel → X7_costOf_L5 n ru pr lf lt waits lostRow fuel (nI D) (nI m) (nI (sO B m g)) (nI g) = some (nI (fe * D * N * (m + 1) + tu * sO B m N)) := by
  intro d
  induction d with
  | zero =>
    intro g fuel hg hf
    obtain ⟨fuel, rfl⟩ : ∃ k, fuel = k + 1 := ⟨fuel - 1, by omega⟩
    have eg : g = N := by omega
    subst eg
    show X7_costOf_L5_B n ru pr lf lt waits lostRow _ (nI D) (nI m) _ (nI g) = _
    unfold X7_costOf_L5_B
    rw [if_pos (by rw [en]; exact nI_le (by omega) (by omega))]
    unfold X7_costOf_J53
    rw [rd_lit ru 7 4 (by decide) (by decide), rd_lit ru 7 5 (by decide) (by decide), h4, h5, en, show nI m + 1 = nI (m + 1) from nI_1 m, pk_mul, pk_mul, pk_mul, pk_mul, nI_add]
  | succ d ih =>
    intro g fuel hg hf
    obtain ⟨fuel, rfl⟩ : ∃ k, fuel = k + 1 := ⟨fuel - 1, by omega⟩
    have inner : ∀ (e c f2 s : Nat), c + e = m + 1 → e < f2 → X7_costOf_L20 n ru pr lf lt waits lostRow (X7_costOf_L5 n ru pr lf lt waits lostRow fuel) f2 (nI D) (nI m) (nI (s + sI (B g) c)) (nI g) (nI c) = X7_costOf_L5 n ru pr lf lt waits lostRow fuel (nI D) (nI m) (nI (s + sI (B g) (m + 1))) (nI (g + 1)) := by
      intro e
      induction e with
      | zero =>
        intro c f2 s hc hf2
        obtain ⟨f2, rfl⟩ : ∃ k, f2 = k + 1 := ⟨f2 - 1, by omega⟩
        have ec : c = m + 1 := by omega
        subst ec
        show X7_costOf_L20_B n ru pr lf lt waits lostRow _ _ (nI D) (nI m) _ (nI g) (nI (m + 1)) = _
        unfold X7_costOf_L20_B
        rw [if_pos (nI_lt (by omega) (by omega))]
        unfold X7_costOf_J47
        rw [nm_eq, show nI g + 1 = nI (g + 1) from nI_1 g]
      | succ e ihe =>
        intro c f2 s hc hf2
        obtain ⟨f2, rfl⟩ : ∃ k, f2 = k + 1 := ⟨f2 - 1, by omega⟩
        rw [← ihe (c + 1) f2 s (by omega) (by omega)]
        show X7_costOf_L20_B n ru pr lf lt waits lostRow _ (X7_costOf_L20 n ru pr lf lt waits lostRow (X7_costOf_L5 n ru pr lf lt waits lostRow fuel) f2) (nI D) (nI m) _ (nI g) (nI c) = _
        unfold X7_costOf_L20_B
        rw [if_neg (nI_nlt (by omega) (by omega)), hB g (by omega) c (by omega), bd_some, nm_eq, nm_eq, nI_add, show nI c + 1 = nI (c + 1) from nI_1 c, sI, Nat.add_assoc]
    rw [← ih (g + 1) fuel (by omega) (by omega), sO, ← inner (m + 1) 0 FU (sO B m g) (by omega) (FU_big (by omega))]
    show X7_costOf_L5_B n ru pr lf lt waits lostRow (X7_costOf_L5 n ru pr lf lt waits lostRow fuel) (nI D) (nI m) _ (nI g) = _
    unfold X7_costOf_L5_B
    rw [if_neg (by rw [en]; exact nI_ge (by omega) (by omega))]
    rfl
theorem cost_ok (en : n = nI N) (hN : N ≤ 6) (hm : m < 100) (h4 : ru 4 = nI fe) (h5 : ru 5 = nI tu) (hB : ∀ g, g < N → ∀ c, c < 100 → X4_goneBack n pr lf lt waits lostRow (nI D) (nI g) (nI c) = some (nI (B g c))) : X7_costOf n ru pr lf lt waits lostRow (nI D) (nI m) = some (nI (fe * D * N * (m + 1) + tu * sO B m N)) := by
  unfold X7_costOf
  exact cost_L en hN hm h4 h5 hB N 0 FU (by omega) (FU_big (by omega))
end COST
section MCOST
variable {hands pressed leftFrom leftTo wait isLost : Nat → Int32} {N D fe tu m : Nat} {B : Nat → Nat → Nat}
theorem mcost_L (e4 : hands 4 = nI N) (hN : N ≤ 6) (hm : m < 100) (hB : ∀ g, g < N → ∀ c, c < 100 → ∀ ta to, ∃ ta' to', X8_backOf hands pressed leftFrom leftTo wait isLost ta to (nI g) (nI c) (nI D) = some (nI (B g c), ta', to')) : ∀ (d g fuel b : Nat) (ta to : Nat → Int32), g + d = N → d < fuel → ∃ ta' to', X8_priceOf_L21 (nI fe) (nI tu) hands pressed leftFrom leftTo wait isLost fuel ta to (nI D) (nI m) (nI (b + tu * sO B m g)) (nI g) = some (nI (b + tu * sO B m N), ta', to') := by
  intro d
  induction d with
  | zero =>
    intro g fuel b ta to hg hf
    obtain ⟨fuel, rfl⟩ : ∃ k, fuel = k + 1 := ⟨fuel - 1, by omega⟩
    have eg : g = N := by omega
    subst eg
    refine ⟨ta, to, ?_⟩
    show X8_priceOf_L21_B (nI fe) (nI tu) hands pressed leftFrom leftTo wait isLost _ ta to (nI D) (nI m) _ (nI g) = _
    unfold X8_priceOf_L21_B
    rw [rd_lit hands 5 4 (by decide) (by decide), e4, if_pos (nI_le (by omega) (by omega))]
  | succ d ih =>
    intro g fuel b ta to hg hf
    obtain ⟨fuel, rfl⟩ : ∃ k, fuel = k + 1 := ⟨fuel - 1, by omega⟩
    have inner : ∀ (e c f2 s : Nat) (ta to : Nat → Int32), c + e = m + 1 → e < f2 → ∃ ta' to', X8_priceOf_L35 (nI fe) (nI tu) hands pressed leftFrom leftTo wait isLost (X8_priceOf_L21 (nI fe) (nI tu) hands pressed leftFrom leftTo wait isLost fuel) f2 ta to (nI D) (nI m) (nI (s + tu * sI (B g) c)) (nI g) (nI c) = X8_priceOf_L21 (nI fe) (nI tu) hands pressed leftFrom leftTo wait isLost fuel ta' to' (nI D) (nI m) (nI (s + tu * sI (B g) (m + 1))) (nI (g + 1)) := by
      intro e
      induction e with
      | zero =>
        intro c f2 s ta to hc hf2
        obtain ⟨f2, rfl⟩ : ∃ k, f2 = k + 1 := ⟨f2 - 1, by omega⟩
        have ec : c = m + 1 := by omega
        subst ec
        refine ⟨ta, to, ?_⟩
        show X8_priceOf_L35_B (nI fe) (nI tu) hands pressed leftFrom leftTo wait isLost _ _ ta to (nI D) (nI m) _ (nI g) (nI (m + 1)) = _
        unfold X8_priceOf_L35_B
        rw [if_pos (nI_lt (by omega) (by omega))]
        unfold X8_priceOf_J64
        rw [nm_eq, show nI g + 1 = nI (g + 1) from nI_1 g]
      | succ e ihe =>
        intro c f2 s ta to hc hf2
        obtain ⟨f2, rfl⟩ : ∃ k, f2 = k + 1 := ⟨f2 - 1, by omega⟩
        obtain ⟨ta1, to1, e1⟩ := hB g (by omega) c (by omega) ta to
        obtain ⟨ta2, to2, e2⟩ := ihe (c + 1) f2 s ta1 to1 (by omega) (by omega)
        refine ⟨ta2, to2, ?_⟩
        rw [← e2]
        show X8_priceOf_L35_B (nI fe) (nI tu) hands pressed leftFrom leftTo wait isLost _ (X8_priceOf_L35 (nI fe) (nI tu) hands pressed leftFrom leftTo wait isLost (X8_priceOf_L21 (nI fe) (nI tu) hands pressed leftFrom leftTo wait isLost fuel) f2) ta to (nI D) (nI m) _ (nI g) (nI c) = _
        unfold X8_priceOf_L35_B
        rw [if_neg (nI_nlt (by omega) (by omega)), e1, bd_some, nm_eq, nm_eq, pk_mul, nI_add, show nI c + 1 = nI (c + 1) from nI_1 c, sI, Nat.mul_add, Nat.add_assoc]
    obtain ⟨ta1, to1, e1⟩ := inner (m + 1) 0 FU (b + tu * sO B m g) ta to (by omega) (FU_big (by omega))
    obtain ⟨ta2, to2, e2⟩ := ih (g + 1) fuel b ta1 to1 (by omega) (by omega)
    refine ⟨ta2, to2, ?_⟩
    rw [← e2, sO, Nat.mul_add, ← Nat.add_assoc, ← e1]
    show X8_priceOf_L21_B (nI fe) (nI tu) hands pressed leftFrom leftTo wait isLost (X8_priceOf_L21 (nI fe) (nI tu) hands pressed leftFrom leftTo wait isLost fuel) ta to (nI D) (nI m) _ (nI g) = _
    unfold X8_priceOf_L21_B
    rw [rd_lit hands 5 4 (by decide) (by decide), e4, if_neg (nI_ge (by omega) (by omega))]
    rfl
theorem mcost_ok (e4 : hands 4 = nI N) (hN : N ≤ 6) (hm : m < 100) (hB : ∀ g, g < N → ∀ c, c < 100 → ∀ ta to, ∃ ta' to', X8_backOf hands pressed leftFrom leftTo wait isLost ta to (nI g) (nI c) (nI D) = some (nI (B g c), ta', to')) (ta to : Nat → Int32) : ∃ ta' to', X8_priceOf (nI fe) (nI tu) hands pressed leftFrom leftTo wait isLost ta to (nI D) (nI m) = some (nI (fe * D * N * (m + 1) + tu * sO B m N), ta', to') := by
  unfold X8_priceOf
  rw [rd_lit hands 5 4 (by decide) (by decide), e4, nm_eq, show nI m + 1 = nI (m + 1) from nI_1 m, pk_mul, pk_mul, pk_mul]
  exact mcost_L e4 hN hm hB N 0 FU (fe * D * N * (m + 1)) ta to (by omega) (FU_big (by omega))
end MCOST
