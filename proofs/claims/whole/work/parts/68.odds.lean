theorem fillJ_L {n : Nat} {v : Int64} (hn : n < 2 ^ 31) : ∀ (d i fuel : Nat) (f : Nat → Int64), i + d = n → d < fuel → (∀ k, k < i → f k = v) → ∃ f', J7_fill_d0a16_L6 n fuel f v (nI i) (nI n) = some f' ∧ ∀ k, k < n → f' k = v := by
  intro d
  induction d with
  | zero =>
    intro i fuel f hi hf h
    obtain ⟨fuel, rfl⟩ : ∃ k, fuel = k + 1 := ⟨fuel - 1, by omega⟩
    refine ⟨f, ?_, fun k hk => h k (by omega)⟩
    show J7_fill_d0a16_L6_B n _ f v (nI i) (nI n) = _
    unfold J7_fill_d0a16_L6_B
    rw [if_pos (nI_le (by omega) (by omega))]
  | succ d ih =>
    intro i fuel f hi hf h
    obtain ⟨fuel, rfl⟩ : ∃ k, fuel = k + 1 := ⟨fuel - 1, by omega⟩
    have hs : J7_fill_d0a16_L6 n (fuel + 1) f v (nI i) (nI n) = J7_fill_d0a16_L6 n fuel (vp_updL f i v) v (nI (i + 1)) (nI n) := by
      show J7_fill_d0a16_L6_B n (J7_fill_d0a16_L6 n fuel) f v (nI i) (nI n) = _
      unfold J7_fill_d0a16_L6_B
      rw [if_neg (nI_ge (by omega) (by omega)), wrJ_nI f (by omega) hn, nm_eq, show nI i + 1 = nI (i + 1) from nI_1 i]
    rw [hs]
    refine ih (i + 1) fuel _ (by omega) (by omega) (fun k hk => ?_)
    by_cases e : k = i
    · subst e
      rw [pk_uLs]
    · rw [pk_uLn e]
      exact h k (by omega)
theorem ch_in {c i : Nat} (hi : i ≤ 60) {rec11 : (Nat → Int64) → Int32 → Int32 → Option (Nat → Int64)} : ∀ (k fuel : Nat) (row : Nat → Int64), k ≤ i + 1 → k < fuel → (∀ j, j < 61 → row j = lN (if j ≤ k then bin i j else bin (i + 1) j)) → k ≤ 60 → ∃ row', X2_fillChoices_L18 61 rec11 fuel row (nI c) (nI (i + 1)) (nI k) = rec11 row' (nI c) (nI (i + 1 + 1)) ∧ ∀ j, j < 61 → row' j = lN (bin (i + 1) j) := by
  intro k
  induction k with
  | zero =>
    intro fuel row hk hf h _
    obtain ⟨fuel, rfl⟩ : ∃ k, fuel = k + 1 := ⟨fuel - 1, by omega⟩
    refine ⟨row, ?_, fun j hj => ?_⟩
    · show X2_fillChoices_L18_B 61 rec11 _ row (nI c) (nI (i + 1)) (nI 0) = _
      unfold X2_fillChoices_L18_B X2_fillChoices_J39
      rw [if_pos (by decide), nm_eq, show nI (i + 1) + 1 = nI (i + 1 + 1) from nI_1 _]
    · rw [h j hj]
      by_cases e : j ≤ 0
      · have : j = 0 := by omega
        subst this
        rw [if_pos e, bin_0, bin_0]
      · rw [if_neg e]
  | succ k ih =>
    intro fuel row hk hf h h60
    obtain ⟨fuel, rfl⟩ : ∃ k, fuel = k + 1 := ⟨fuel - 1, by omega⟩
    have hs : X2_fillChoices_L18 61 rec11 (fuel + 1) row (nI c) (nI (i + 1)) (nI (k + 1)) = X2_fillChoices_L18 61 rec11 fuel (vp_updL row (k + 1) (row (k + 1) + row k)) (nI c) (nI (i + 1)) (nI k) := by
      show X2_fillChoices_L18_B 61 rec11 (X2_fillChoices_L18 61 rec11 fuel) row (nI c) (nI (i + 1)) (nI (k + 1)) = _
      unfold X2_fillChoices_L18_B
      rw [if_neg (nI_nle (by omega) (by omega)), rd_nI row (by omega) (by decide), nI_pred, rd_nI row (by omega) (by decide), wrJ_nI row (by omega) (by decide), nm_eq, pk_m1]
    rw [hs]
    refine ih fuel _ (by omega) (by omega) (fun j hj => ?_) (by omega)
    by_cases e : j = k + 1
    · subst e
      rw [pk_uLs, h _ hj, h k (by omega), if_pos (by omega), if_pos (by omega), if_neg (by omega), lN_add]
      congr 1
      rw [bin]
      omega
    · rw [pk_uLn e, h j hj]
      by_cases c2 : j ≤ k
      · rw [if_pos (by omega), if_pos c2]
      · rw [if_neg (by omega), if_neg c2]
theorem ch_out {c : Nat} (hc : c ≤ 60) : ∀ (d i fuel : Nat) (row : Nat → Int64), i + d = c → d < fuel → (∀ j, j < 61 → row j = lN (bin i j)) → ∃ row', X2_fillChoices_L11 61 fuel row (nI c) (nI (i + 1)) = some row' ∧ ∀ j, j < 61 → row' j = lN (bin c j) := by
  intro d
  induction d with
  | zero =>
    intro i fuel row hi hf h
    obtain ⟨fuel, rfl⟩ : ∃ k, fuel = k + 1 := ⟨fuel - 1, by omega⟩
    have ei : i = c := by omega
    subst ei
    refine ⟨row, ?_, h⟩
    show X2_fillChoices_L11_B 61 _ row (nI i) (nI (i + 1)) = _
    unfold X2_fillChoices_L11_B
    rw [if_pos (nI_lt (by omega) (by omega))]
  | succ d ih =>
    intro i fuel row hi hf h
    obtain ⟨fuel, rfl⟩ : ∃ k, fuel = k + 1 := ⟨fuel - 1, by omega⟩
    obtain ⟨row1, e1, h1⟩ := ch_in (c := c) (i := i) (by omega) (rec11 := X2_fillChoices_L11 61 fuel) (i + 1) FU row (by omega) (FU_big (by omega)) (fun j hj => by
      rw [h j hj]
      by_cases e : j ≤ i + 1
      · rw [if_pos e]
      · rw [if_neg e, bin_gt i j (by omega), bin_gt (i + 1) j (by omega)]) (by omega)
    obtain ⟨row2, e2, h2⟩ := ih (i + 1) fuel row1 (by omega) (by omega) h1
    refine ⟨row2, ?_, h2⟩
    show X2_fillChoices_L11_B 61 (X2_fillChoices_L11 61 fuel) row (nI c) (nI (i + 1)) = _
    unfold X2_fillChoices_L11_B
    rw [if_neg (nI_nlt (by omega) (by omega)), e1, e2]
theorem ch_ok {c : Nat} (hc : c ≤ 60) (f : Nat → Int64) : ∃ row, X2_fillChoices 61 f (nI c) = some row ∧ ∀ j, j < 61 → row j = lN (bin c j) := by
  unfold X2_fillChoices J7_fill_d0a16
  obtain ⟨f', e1, h1⟩ := fillJ_L (n := 61) (v := 0) (by decide) 61 0 FU f (by omega) (FU_big (by omega)) (fun k hk => by omega)
  rw [nm_eq, show (0 : Int32) = nI 0 from rfl, show Int32.ofNat 61 = nI 61 from rfl, e1, bd_some, wrJ_nI f' (by decide) (by decide)]
  obtain ⟨row, e2, h2⟩ := ch_out hc c 0 FU (vp_updL f' 0 1) (by omega) (FU_big (by omega)) (fun j hj => by
    by_cases e : j = 0
    · subst e
      rw [pk_uLs, bin_0]
      rfl
    · rw [pk_uLn e, h1 j hj, bin_gt 0 j (by omega)]
      rfl)
  exact ⟨row, e2, h2⟩
def gO (n L H k : Nat) : Nat := bin H k * bin (n - H) (L - k)
def gB (n L H b k : Nat) : Nat := if k < b then 0 else gO n L H k
theorem sum_all {n L H : Nat} (hH : H ≤ n) : Sg (gO n L H) (L + 1) = bin n L := by
  have := vdm (n - H) H L
  rw [show H + (n - H) = n by omega] at this
  exact this
theorem gO_hi {n L H k : Nat} (h : H < k) : gO n L H k = 0 := by
  unfold gO
  rw [bin_gt H k h, Nat.zero_mul]
theorem gO_lo {n L H k : Nat} (h : n - H < L - k) : gO n L H k = 0 := by
  unfold gO
  rw [bin_gt _ _ h, Nat.mul_zero]
def hiO (L H : Nat) : Nat := if H < L then H else L
theorem sum_hi {n L H : Nat} (hH : H ≤ n) : Sg (gO n L H) (hiO L H + 1) = bin n L := by
  rw [← sum_all hH]
  unfold hiO
  by_cases c : H < L
  · rw [if_pos c]
    exact (Sg_ext _ (L + 1) (by omega) (fun k h1 h2 => gO_hi (by omega))).symm
  · rw [if_neg c]
theorem sumB_le (n L H b k : Nat) : Sg (gB n L H b) k ≤ Sg (gO n L H) k := Sg_le k (fun j _ => by
  unfold gB
  split
  · exact Nat.zero_le _
  · exact Nat.le_refl _)
theorem rk_L {n L H b : Nat} (hn : n ≤ 60) (hL : L ≤ n) (hH : H ≤ n) {ab bl : Int64} {r1 r2 : Nat → Int64} (h1 : ∀ j, j < 61 → r1 j = lN (bin H j)) (h2 : ∀ j, j < 61 → r2 j = lN (bin (n - H) j)) (hb : b ≤ 60) : ∀ (d k fuel : Nat), k + d = hiO L H + 1 → d < fuel → X2_reckon_L35 fuel ab bl r1 r2 (nI L) (nI H) (nI b) (lN (Sg (gB n L H b) k)) (lN (Sg (gO n L H) k)) (nI k) = X2_reckon_J91 ab bl r1 r2 (lN (Sg (gB n L H b) (hiO L H + 1))) (lN (Sg (gO n L H) (hiO L H + 1))) := by
  have hm : (if nI H < nI L then nI H else nI L) = nI (hiO L H) := by
    unfold hiO
    by_cases c : H < L
    · rw [if_pos c, if_pos (nI_lt c (by omega))]
    · rw [if_neg c, if_neg (nI_nlt (by omega) (by omega))]
  have hhi : hiO L H ≤ L := by
    unfold hiO
    split <;> omega
  intro d
  induction d with
  | zero =>
    intro k fuel hk hf
    obtain ⟨fuel, rfl⟩ : ∃ k, fuel = k + 1 := ⟨fuel - 1, by omega⟩
    have ek : k = hiO L H + 1 := by omega
    subst ek
    show X2_reckon_L35_B _ ab bl r1 r2 (nI L) (nI H) (nI b) _ _ _ = _
    unfold X2_reckon_L35_B
    rw [hm, if_pos (nI_lt (by omega) (by omega))]
  | succ d ih =>
    intro k fuel hk hf
    obtain ⟨fuel, rfl⟩ : ∃ k, fuel = k + 1 := ⟨fuel - 1, by omega⟩
    show X2_reckon_L35_B (X2_reckon_L35 fuel) ab bl r1 r2 (nI L) (nI H) (nI b) _ _ _ = _
    unfold X2_reckon_L35_B X2_reckon_J85
    have hi := ih (k + 1) fuel (by omega) (by omega)
    rw [hm, if_neg (nI_nlt (by omega) (by omega)), rd_nI r1 (by omega) (by decide), pk_sub (show k ≤ L by omega), rd_nI r2 (by omega) (by decide), h1 k (by omega), h2 _ (by omega), nm_eq, nm_eq, nm_eq, nm_eq, nm_eq, lN_mul, lN_add, lN_add, show nI k + 1 = nI (k + 1) from nI_1 k]
    rw [Sg, Sg] at hi
    by_cases c : k < b
    · rw [if_pos (nI_lt c (by omega))]
      have e : gB n L H b k = 0 := by
        unfold gB
        rw [if_pos c]
      rw [e, Nat.add_zero] at hi
      exact hi
    · rw [if_neg (nI_nlt (by omega) (by omega))]
      have e : gB n L H b k = gO n L H k := by
        unfold gB
        rw [if_neg c]
      rw [e] at hi
      exact hi
def InvW (ways : Nat → Int64) : Prop := ∀ a b, b ≤ a → a ≤ 60 → ways (61 * a + b) = lN (bin a b)
theorem mo_L {n L H b : Nat} (hn : n ≤ 60) (hL : L ≤ n) (hH : H ≤ n) {ways : Nat → Int64} (hw : InvW ways) (th l5 : Int32) : ∀ (d k fuel : Nat), k + d = hiO L H + 1 → d < fuel → b ≤ k → X8_odds_L72 ways fuel th (nI n) (nI L) (nI H) l5 (lN (Sg (gB n L H b) k)) (nI k) = X8_odds_J150 ways th (nI n) (nI L) l5 (lN (Sg (gB n L H b) (hiO L H + 1))) := by
  intro d
  induction d with
  | zero =>
    intro k fuel hk hf hb
    obtain ⟨fuel, rfl⟩ : ∃ k, fuel = k + 1 := ⟨fuel - 1, by omega⟩
    have ek : k = hiO L H + 1 := by omega
    subst ek
    show X8_odds_L72_B ways _ th (nI n) (nI L) (nI H) l5 _ _ = _
    unfold X8_odds_L72_B
    by_cases c : H < L
    · have e : hiO L H = H := by
        unfold hiO
        rw [if_pos c]
      rw [e]
      by_cases c2 : L < H + 1
      · rw [if_pos (nI_lt c2 (by omega))]
      · rw [if_neg (nI_nlt (by omega) (by omega)), if_pos (nI_lt (by omega) (by omega))]
    · have e : hiO L H = L := by
        unfold hiO
        rw [if_neg c]
      rw [e, if_pos (nI_lt (by omega) (by omega))]
  | succ d ih =>
    intro k fuel hk hf hb
    obtain ⟨fuel, rfl⟩ : ∃ k, fuel = k + 1 := ⟨fuel - 1, by omega⟩
    have hkL : k ≤ L ∧ k ≤ H := by
      unfold hiO at hk
      split at hk <;> omega
    show X8_odds_L72_B ways (X8_odds_L72 ways fuel) th (nI n) (nI L) (nI H) l5 _ _ = _
    unfold X8_odds_L72_B X8_odds_J99 X8_odds_J141
    have hi := ih (k + 1) fuel (by omega) (by omega) (by omega)
    rw [Sg] at hi
    have eB : gB n L H b k = gO n L H k := by
      unfold gB
      rw [if_neg (by omega)]
    rw [eB] at hi
    rw [if_neg (nI_nlt hkL.1 (by omega)), if_neg (nI_nlt hkL.2 (by omega)), pk_sub hH, pk_sub hkL.1]
    by_cases c : n - H < L - k
    · rw [if_pos (nI_lt c (by omega)), if_pos rfl, nm_eq, nm_eq, show nI k + 1 = nI (k + 1) from nI_1 k, show lN (Sg (gB n L H b) k) + 0 = lN (Sg (gB n L H b) k + 0) from lN_add _ 0]
      rw [gO_lo c] at hi
      exact hi
    · have i1 : (61 : Int32) * nI H + nI k = nI (61 * H + k) := by
        show nI 61 * nI H + nI k = _
        rw [pk_mul, nI_add]
      have i2 : (61 : Int32) * nI (n - H) + nI L - nI k = nI (61 * (n - H) + (L - k)) := by
        show nI 61 * nI (n - H) + nI L - nI k = _
        rw [pk_mul, nI_add, pk_sub (by omega)]
        congr 1
        omega
      rw [if_neg (nI_nlt (by omega) (by omega)), if_neg i1n0, i1, rd_nI ways (by omega) (by decide), i2, rd_nI ways (by omega) (by decide), hw H k hkL.2 (by omega), hw (n - H) (L - k) (by omega) (by omega), nm_eq, nm_eq, lN_mul, lN_add, show nI k + 1 = nI (k + 1) from nI_1 k]
      exact hi
theorem sumB_0 {n L H b : Nat} {k : Nat} (h : k ≤ b) : Sg (gB n L H b) k = 0 := by
  rw [Sg_ext (a := 0) _ k (by omega) (fun j _ hj => by unfold gB; rw [if_pos (by omega)])]
  rfl
theorem op_odds {ways : Nat → Int64} (hw : InvW ways) (ab bl : Int64) (ah ao : Nat → Int64) (th p1 p2 p3 p4 p5 : Int32) : ∃ oc om, X7_odds ab bl ah ao p1 p2 p3 p4 p5 = some oc ∧ X8_odds ways th p1 p2 p3 p4 p5 = some om ∧ oc.1 = om.1 := by
  have hno : ∃ oc om, X7_odds_J29 ab bl ah ao = some oc ∧ X8_odds_J61 ways 0 = some om ∧ oc.1 = om.1 := ⟨_, _, rfl, rfl, rfl⟩
  have k1 : (1 : Int32).toInt = 1 := rfl
  have k60 : (60 : Int32).toInt = 60 := rfl
  have f1 : (1 : Int64).toInt = 1 := rfl
  have f60 : (60 : Int64).toInt = 60 := rfl
  have f0 : (0 : Int64).toInt = 0 := rfl
  have u2 : (Int32.toInt64 p2).toInt = p2.toInt := t64 p2
  have u1 : (Int32.toInt64 p1).toInt = p1.toInt := t64 p1
  have u3 : (Int32.toInt64 p3).toInt = p3.toInt := t64 p3
  unfold X7_odds X8_odds
  by_cases c1 : 1 ≤ p1.toInt ∧ p1.toInt ≤ 60
  · rw [in_yes (by omega) (by omega), bd_some, if_neg i1n0, if_neg (show ¬ p1 < 1 by rw [ltI]; omega), if_neg (show ¬ 60 < p1 by rw [ltI]; omega)]
    by_cases c2 : 0 ≤ p2.toInt ∧ p2.toInt ≤ p1.toInt
    · rw [in_yes (x := p2) (by omega) (by omega), bd_some, if_neg i1n0, if_neg (show ¬ p2 < 0 by rw [lt0I]; omega), if_neg (show ¬ p1 < p2 by rw [ltI]; omega)]
      by_cases c3 : 0 ≤ p3.toInt ∧ p3.toInt ≤ p1.toInt
      · rw [in_yes (x := p3) (by omega) (by omega), bd_some, if_neg i1n0, if_neg (show ¬ p3 < 0 by rw [lt0I]; omega), if_pos (show p3 ≤ p1 by rw [leI]; omega)]
        obtain ⟨n, en, en2, -⟩ := ofI (p := p1) (by omega)
        obtain ⟨L, eL, eL2, -⟩ := ofI (p := p2) (by omega)
        obtain ⟨H, eH, eH2, -⟩ := ofI (p := p3) (by omega)
        have hm : (if p3 < p2 then p3 else p2) = nI (hiO L H) := by
          unfold hiO
          rw [eL, eH]
          by_cases c : H < L
          · rw [if_pos c, if_pos (nI_lt c (by omega))]
          · rw [if_neg c, if_neg (nI_nlt (by omega) (by omega))]
        have hmM : (if p3 ≤ p2 then X8_odds_J55 ways 0 p1 p2 p3 p4 p5 (Int32.toInt64 p4) 0 (Int32.toInt64 p3) else X8_odds_J55 ways 0 p1 p2 p3 p4 p5 (Int32.toInt64 p4) 0 (Int32.toInt64 p2)) = X8_odds_J55 ways 0 p1 p2 p3 p4 p5 (Int32.toInt64 p4) 0 (Int32.toInt64 (nI (hiO L H))) := by
          unfold hiO
          by_cases c : H < L
          · rw [if_pos c, if_pos (by rw [eL, eH]; exact nI_le (by omega) (by omega)), ← eH]
          · rw [if_neg c]
            by_cases c4 : H = L
            · rw [if_pos (by rw [eL, eH, c4]; exact nI_le (by omega) (by omega)), eH, c4]
            · rw [if_neg (by rw [eL, eH]; exact nI_ge (by omega) (by omega)), ← eL]
        rw [hm, hmM]
        unfold X8_odds_J55
        have hhi : hiO L H ≤ L ∧ hiO L H ≤ H := by
          unfold hiO
          split <;> omega
        have uh : (Int32.toInt64 (nI (hiO L H))).toInt = hiO L H := by rw [t64, nI_toInt (by omega)]
        have vh : (nI (hiO L H)).toInt = hiO L H := nI_toInt (by omega)
        by_cases c4 : 0 ≤ p4.toInt ∧ p4.toInt ≤ hiO L H
        · obtain ⟨b, eb, eb2, -⟩ := ofI (p := p4) (by omega)
          rw [in_yes (x := p4) (by omega) (by omega), bd_some, if_neg i1n0, if_neg (show ¬ p4 < 0 by rw [lt0I]; omega), if_pos (show p4 ≤ nI (hiO L H) by rw [leI]; omega)]
          have q1 : n ≤ 60 := by omega
          have q2 : L ≤ n := by omega
          have q3 : H ≤ n := by omega
          rw [en, eL, eH, eb]
          obtain ⟨r1, e1, h1⟩ := ch_ok (c := H) (by omega) ah
          obtain ⟨r2, e2, h2⟩ := ch_ok (c := n - H) (by omega) ao
          unfold X2_reckon
          rw [e1, bd_some, pk_sub q3, e2, bd_some, nm_eq]
          have elo : (if (0 : Int32) < nI L + nI H - nI n then nI L + nI H - nI n else 0) = nI (L + H - n) := by
            rw [nI_add]
            by_cases c : n < L + H
            · rw [pk_sub (by omega), if_pos (show (0 : Int32) < nI (L + H - n) from nI_lt (a := 0) (by omega) (by omega))]
            · by_cases c5 : n = L + H
              · rw [c5, pk_sub (Nat.le_refl _), Nat.sub_self]
                rfl
              · rw [if_neg (fun q => by
                  have q1 := pk_sneg (a := L + H) (b := n) (by omega) (by omega)
                  rw [lt0I] at q1
                  rw [ltI] at q
                  have z : (0 : Int32).toInt = 0 := rfl
                  omega), show L + H - n = 0 by omega]
                rfl
          rw [elo]
          have s1 : Sg (gO n L H) (L + H - n) = 0 := by
            rw [Sg_ext (a := 0) _ (L + H - n) (by omega) (fun j _ hj => gO_lo (by omega))]
            rfl
          have s2 : Sg (gB n L H b) (L + H - n) = 0 := by
            have := sumB_le n L H b (L + H - n)
            omega
          have hr := rk_L q1 q2 q3 (ab := ab) (bl := bl) h1 h2 (b := b) (by omega) (hiO L H + 1 - (L + H - n)) (L + H - n) FU (by unfold hiO; split <;> omega) (FU_big (by omega))
          rw [s1, s2] at hr
          have hmo := mo_L q1 q2 q3 hw 0 p5 (b := b) (hiO L H + 1 - b) b FU (by omega) (FU_big (by omega)) (Nat.le_refl _)
          rw [sumB_0 (Nat.le_refl _)] at hmo
          rw [show (0 : Int64) = lN 0 from rfl, hr, hmo, sum_hi q3]
          unfold X2_reckon_J91 X8_odds_J150 X2_commonOf
          have hpos := bin_pos n L q2
          have hle := bin_le n L
          have h260 : 2 ^ n ≤ 2 ^ 60 := Nat.pow_le_pow_right (by decide) q1
          have hsm := sumB_le n L H b (hiO L H + 1)
          rw [sum_hi q3] at hsm
          have hfb : 2 ^ 62 < fb (100 + 2) := fb_big
          have hb1 : bin n L < 2 ^ 61 := Nat.lt_of_le_of_lt (Nat.le_trans hle h260) (by decide)
          have i1 : (61 : Int32) * nI n + nI L = nI (61 * n + L) := by
            show nI 61 * nI n + nI L = _
            rw [pk_mul, nI_add]
          rw [i1, rd_nI ways (by omega) (by decide), hw n L q2 q1, show X2_commonOf_L9 FU (lN (bin n L)) (lN (Sg (gB n L H b) (hiO L H + 1))) 0 = _ from ceu 100 _ _ 0 FU (Or.inl (by omega)) hsm (by omega) (by omega) (FU_big (by omega)), bd_some]
          generalize Sg (gB n L H b) (hiO L H + 1) = x at hsm ⊢
          generalize bin n L = y at hsm hpos hb1 ⊢
          have hg : 0 < Nat.gcd y x := Nat.gcd_pos_of_pos_left _ hpos
          have hg2 : Nat.gcd y x ≤ y := Nat.gcd_le_left _ hpos
          have ln0 : ¬ lN (Nat.gcd y x) = 0 := fun e => by
            have := (pk_lEQ (b := 0) (by omega) (by decide)).mp e
            omega
          have hmd : x % y ≤ y := Nat.le_of_lt (Nat.mod_lt _ hpos)
          have hstep : X8_odds_L171 ways FU 0 p5 (lN x) (lN y) (lN x) (lN y) = X8_odds_J196 ways 0 p5 (lN x) (lN y) (lN (Nat.gcd y x)) := by
            show X8_odds_L171_B ways (X8_odds_L171 ways 4095) 0 p5 (lN x) (lN y) (lN x) (lN y) = _
            unfold X8_odds_L171_B
            have hl : ¬ lN y = 0 := fun e => by
              have := (pk_lEQ (b := 0) (by omega) (by decide)).mp e
              omega
            rw [if_neg (fun e => by have := (cmp0 (by omega)).mp e; omega), dvL_ne hl, nm_eq, pk_lRem (by omega) hpos (by omega), meu ways 0 p5 (lN x) (lN y) 100 y (x % y) 4095 (Or.inl (by omega)) hmd (by omega) (by omega), gcd_st, Nat.gcd_comm]
          rw [hstep, if_neg (fun e => ln0 (by
            rw [lg_cmp_le] at e
            have := (pk_lLE (b := 0) (by omega) (by decide)).mp e
            omega)), dvL_ne ln0, dvL_ne ln0]
          unfold X8_odds_J196
          rw [bd_some, dvL_ne ln0, dvL_ne ln0]
          by_cases c5 : p5 = 0
          · rw [if_pos c5, if_pos c5]
            exact ⟨_, _, rfl, rfl, rfl⟩
          · rw [if_neg c5, if_neg c5]
            exact ⟨_, _, rfl, rfl, rfl⟩
        · rw [in_no (x := p4) (by omega), bd_some, if_pos rfl]
          by_cases d : p4 < 0
          · rw [if_pos d]
            exact hno
          · rw [if_neg d, if_neg (by rw [lt0I] at d; rw [leI]; omega)]
            exact hno
      · rw [in_no (x := p3) (by omega), bd_some, if_pos rfl]
        by_cases d : p3 < 0
        · rw [if_pos d]
          exact hno
        · rw [if_neg d, if_neg (by rw [lt0I] at d; rw [leI]; omega)]
          exact hno
    · rw [in_no (x := p2) (by omega), bd_some, if_pos rfl]
      by_cases d : p2 < 0
      · rw [if_pos d]
        exact hno
      · rw [if_neg d, if_pos (by rw [lt0I] at d; rw [ltI]; omega)]
        exact hno
  · rw [in_no (by omega), bd_some, if_pos rfl]
    by_cases d : p1 < 1
    · rw [if_pos d]
      exact hno
    · rw [if_neg d, if_pos (by rw [ltI] at d; rw [ltI]; omega)]
      exact hno
