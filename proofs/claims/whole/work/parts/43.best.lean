section OPS9
variable {w h n ready : Int32} {ru pr lf lt rows wide tall hands power spin seed pressed leftFrom leftTo waits lostRow wait isLost : Nat → Int32} {delay feel turn sight : Int32}
theorem bk_both {W H N pw sp sd : Nat} {WA LO LF LT PR : Nat → Nat} (hn : PlayN W H N pw sp sd LF LT PR) (hc : CP w h n ru pr lf lt W H N pw sp sd LF LT PR) (hm : MP wide tall hands power spin seed pressed leftFrom leftTo 4 W H N pw sp sd LF LT PR) (l1 : LinN waits lostRow WA LO) (l2 : LinN wait isLost WA LO) : ∃ B : Nat → Nat → Nat → Nat, ∀ D, D ≤ 9 → ∀ g, g < N → ∀ c, c < 100 → X4_goneBack n pr lf lt waits lostRow (nI D) (nI g) (nI c) = some (nI (B D g c)) ∧ ∀ ta to, ∃ ta' to', X8_backOf hands pressed leftFrom leftTo wait isLost ta to (nI g) (nI c) (nI D) = some (nI (B D g c), ta', to') := by
  obtain ⟨b1, b2, b3, b4, b5, b6⟩ := hn.1
  refine ⟨fun D g c => ((X4_goneBack n pr lf lt waits lostRow (nI D) (nI g) (nI c)).getD 0).toNatClampNeg, fun D hD g hg c hcc => ?_⟩
  obtain ⟨M, m1, m2, m3⟩ := goneBack_ok (WA := WA) (LO := LO) (LF := LF) (LT := LT) (PR := PR) hc.2.2.1 b6 l1 hc.2.2.2.2.2.2.1 hn.2.2.2.2.1 hc.2.2.2.2.2.2.2 hn.2.2.2.2.2 hD (show g < 6 by omega) hcc
  have eM : ((X4_goneBack n pr lf lt waits lostRow (nI D) (nI g) (nI c)).getD 0).toNatClampNeg = M := by
    rw [m2]
    exact nI_clamp (by omega)
  show _ = some (nI (((X4_goneBack n pr lf lt waits lostRow (nI D) (nI g) (nI c)).getD 0).toNatClampNeg)) ∧ _
  refine ⟨by rw [eM]; exact m2, fun ta to => ?_⟩
  obtain ⟨M', ta', to', k1, k2, k3⟩ := mback_ok b6 hm.2.2.1 l2 hm.2.2.2.2.2.2.1 hn.2.2.2.2.1 hm.2.2.2.2.2.2.2 hn.2.2.2.2.2 hD (show g < 6 by omega) hcc ta to
  refine ⟨ta', to', ?_⟩
  rw [k2]
  show some (nI M', ta', to') = some (nI (((X4_goneBack n pr lf lt waits lostRow (nI D) (nI g) (nI c)).getD 0).toNatClampNeg), ta', to')
  rw [eM, BK_one m3 k3]
theorem costs_both (hI : InvP w h n ready ru pr lf lt rows wide tall hands power spin seed pressed leftFrom leftTo) (hQ : InvR ru delay feel turn sight) (hL : InvL waits lostRow wait isLost) : ∃ K : Nat → Nat → Int32, ∀ D, D ≤ 9 → ∀ m, m < 100 → X7_costOf n ru pr lf lt waits lostRow (nI D) (nI m) = some (K D m) ∧ ∀ ta to, ∃ ta' to', X8_priceOf feel turn hands pressed leftFrom leftTo wait isLost ta to (nI D) (nI m) = some (K D m, ta', to') := by
  obtain ⟨WA, LO, l1, l2⟩ := hL.lin
  obtain ⟨W, H, N, pw, sp, sd, R, LF, LT, PR, hn, hc, hm, eR, hR, hT⟩ := hI
  obtain ⟨D0, fe, tu, si, -, ⟨f1, f2, f3⟩, ⟨t1, t2, t3⟩, -⟩ := hQ
  obtain ⟨B, hB⟩ := bk_both hn hc hm l1 l2
  have b6 := hn.1.2.2.2.2.2
  refine ⟨fun D m => nI (fe * D * N * (m + 1) + tu * sO (B D) m N), fun D hD m hm2 => ⟨?_, fun ta to => ?_⟩⟩
  · exact cost_ok hc.2.2.1 b6 hm2 f1 t1 (fun g hg c hcc => (hB D hD g hg c hcc).1)
  · rw [f2, t2]
    exact mcost_ok hm.2.2.1 b6 hm2 (fun g hg c hcc => (hB D hD g hg c hcc).2) ta to
theorem op_price (hI : InvP w h n ready ru pr lf lt rows wide tall hands power spin seed pressed leftFrom leftTo) (hQ : InvR ru delay feel turn sight) (hL : InvL waits lostRow wait isLost) (th : Int32) (ta to : Nat → Int32) (p1 p2 : Int32) : ∃ oc om, X7_price n ru pr lf lt waits lostRow p1 p2 = some oc ∧ X8_price feel turn hands pressed leftFrom leftTo wait isLost th ta to p1 p2 = some om ∧ oc = om.1 := by
  obtain ⟨K, hK⟩ := costs_both hI hQ hL
  have k0 : (0 : Int64).toInt = 0 := rfl
  have k9 : (9 : Int64).toInt = 9 := rfl
  have k99 : (9 : Int32).toInt = 9 := rfl
  unfold X7_price X8_price
  by_cases hv : 0 ≤ p1.toInt ∧ p1.toInt ≤ 9
  · obtain ⟨D, eD, eD2, -⟩ := ofI hv.1
    rw [in_yes (by rw [k0]; exact hv.1) (by rw [k9]; exact hv.2), bd_some, if_neg i1n0, if_neg (by rw [lt0I]; omega), if_pos (by rw [leI, k99]; exact hv.2)]
    subst eD
    rcases tick_cases p2 with ⟨u1, u2⟩ | ⟨m, hm, rfl, u1, u2⟩
    · rw [u1, u2, bd_some, bd_some, if_pos rfl, if_neg i1n0]
      exact ⟨_, _, rfl, rfl, rfl⟩
    · rw [u1, u2, bd_some, bd_some, if_neg i1n0, if_pos rfl]
      obtain ⟨c1, c2⟩ := hK D (by omega) m hm
      obtain ⟨ta', to', c3⟩ := c2 ta to
      rw [c1, bd_some, c3, bd_some]
      exact ⟨_, _, rfl, rfl, rfl⟩
  · rw [in_no (by rw [k0, k9]; exact hv), bd_some, if_pos rfl]
    by_cases z : p1 < 0
    · rw [if_pos z]
      exact ⟨_, _, rfl, rfl, rfl⟩
    · rw [if_neg z, if_neg (by rw [lt0I] at z; rw [leI, k99]; omega)]
      exact ⟨_, _, rfl, rfl, rfl⟩
theorem op_best (hI : InvP w h n ready ru pr lf lt rows wide tall hands power spin seed pressed leftFrom leftTo) (hQ : InvR ru delay feel turn sight) (hL : InvL waits lostRow wait isLost) (th : Int32) (ta to : Nat → Int32) (p1 : Int32) : ∃ oc om, X7_best n ru pr lf lt waits lostRow p1 = some oc ∧ X8_best feel turn hands pressed leftFrom leftTo wait isLost th ta to p1 = some om ∧ oc = om.1 := by
  obtain ⟨K, hK⟩ := costs_both hI hQ hL
  unfold X7_best X8_best
  rcases tick_cases p1 with ⟨u1, u2⟩ | ⟨m, hm, rfl, u1, u2⟩
  · rw [u1, u2, bd_some, bd_some, if_pos rfl, if_neg i1n0]
    exact ⟨_, _, rfl, rfl, rfl⟩
  · have loop : ∀ (d D fuel : Nat) (th best cost : Int32) (ta to : Nat → Int32), D + d = 10 → d < fuel → ∃ r th' ta' to', X7_best_L21 n ru pr lf lt waits lostRow fuel (nI m) best cost (nI D) = some r ∧ X8_best_L26 feel turn hands pressed leftFrom leftTo wait isLost fuel th ta to (nI m) best cost (nI D) = some (r, th', ta', to') := by
      intro d
      induction d with
      | zero =>
        intro D fuel th best cost ta to hD hf
        obtain ⟨fuel, rfl⟩ : ∃ k, fuel = k + 1 := ⟨fuel - 1, by omega⟩
        have eD : D = 10 := by omega
        subst eD
        refine ⟨best, th, ta, to, ?_, ?_⟩
        · show X7_best_L21_B n ru pr lf lt waits lostRow _ (nI m) best cost (nI 10) = _
          unfold X7_best_L21_B
          rw [if_pos (by decide)]
        · show X8_best_L26_B feel turn hands pressed leftFrom leftTo wait isLost _ th ta to (nI m) best cost (nI 10) = _
          unfold X8_best_L26_B
          rw [if_pos (by decide)]
      | succ d ih =>
        intro D fuel th best cost ta to hD hf
        obtain ⟨fuel, rfl⟩ : ∃ k, fuel = k + 1 := ⟨fuel - 1, by omega⟩
        obtain ⟨c1, c2⟩ := hK D (by omega) m hm
        obtain ⟨ta1, to1, c3⟩ := c2 ta to
        have s1 : X7_best_L21 n ru pr lf lt waits lostRow (fuel + 1) (nI m) best cost (nI D) = if cost ≤ K D m then X7_best_L21 n ru pr lf lt waits lostRow fuel (nI m) best cost (nI (D + 1)) else X7_best_L21 n ru pr lf lt waits lostRow fuel (nI m) (nI D) (K D m) (nI (D + 1)) := by
          show X7_best_L21_B n ru pr lf lt waits lostRow (X7_best_L21 n ru pr lf lt waits lostRow fuel) (nI m) best cost (nI D) = _
          unfold X7_best_L21_B X7_best_J49
          rw [if_neg (show ¬ (9 : Int32) < nI D from nI_nlt (a := 9) (by omega) (by decide)), c1, bd_some]
          simp only [nm_eq, show nI D + 1 = nI (D + 1) from nI_1 D]
        have s2 : X8_best_L26 feel turn hands pressed leftFrom leftTo wait isLost (fuel + 1) th ta to (nI m) best cost (nI D) = if cost ≤ K D m then X8_best_L26 feel turn hands pressed leftFrom leftTo wait isLost fuel th ta1 to1 (nI m) best cost (nI (D + 1)) else X8_best_L26 feel turn hands pressed leftFrom leftTo wait isLost fuel th ta1 to1 (nI m) (nI D) (K D m) (nI (D + 1)) := by
          show X8_best_L26_B feel turn hands pressed leftFrom leftTo wait isLost (X8_best_L26 feel turn hands pressed leftFrom leftTo wait isLost fuel) th ta to (nI m) best cost (nI D) = _
          unfold X8_best_L26_B X8_best_J54
          rw [if_neg (show ¬ (10 : Int32) ≤ nI D from nI_ge (b := 10) (by omega) (by decide)), c3, bd_some]
          simp only [nm_eq, show nI D + 1 = nI (D + 1) from nI_1 D]
        rw [s1, s2]
        by_cases q : cost ≤ K D m
        · rw [if_pos q, if_pos q]
          exact ih (D + 1) fuel th best cost ta1 to1 (by omega) (by omega)
        · rw [if_neg q, if_neg q]
          exact ih (D + 1) fuel th (nI D) (K D m) ta1 to1 (by omega) (by omega)
    rw [u1, u2, bd_some, bd_some, if_neg i1n0, if_pos rfl]
    obtain ⟨c1, c2⟩ := hK 0 (by omega) m hm
    obtain ⟨ta1, to1, c3⟩ := c2 ta to
    rw [show (0 : Int32) = nI 0 from rfl, c1, bd_some, c3, bd_some]
    obtain ⟨r, th', ta', to', e1, e2⟩ := loop 9 1 FU (nI 0) (nI 0) (K 0 m) ta1 to1 (by omega) (FU_big (by omega))
    exact ⟨r, _, e1, e2, rfl⟩
end OPS9
