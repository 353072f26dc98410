section MMATCH
variable {n : Nat} {SK SH FA : Nat → Nat} {skill shore fars : Nat → Int32}
theorem mm_q (h : CrN n SK SH FA skill shore fars) {s p : Nat} {T : Nat → Nat} {least mates : Nat → Int32} {all : Int32} {rec11 : (Nat → Int32) → (Nat → Int32) → Int32 → Int32 → Option (Int32 × (Nat → Int32) × (Nat → Int32))} (hs : s < 2 ^ n) (h0 : s ≠ 0) (hp : s.testBit p = true) (hT : ∀ k, k < s → least k = nI (T k) ∧ T k ≤ 1998 * k) : ∀ (d q fuel b : Nat), q + d = n → p < q → d < fuel → b < 2 ^ 31 → X8_match_L47 (nI n) skill shore fars rec11 fuel least mates all (nI s) (nI b) (nI p) (nI q) = X8_match_J120 (nI n) skill shore fars rec11 least mates all (nI s) (nI (bsF (ck SK SH FA) T s p d q b)) (nI p) := by
  have hn := h.1
  have h10 := p2_le hn
  have hpn := tb_lt hs hp
  obtain ⟨-, w1, x1⟩ := xb_ok (by omega) (by omega) hp
  intro d
  induction d with
  | zero =>
    intro q fuel b hq hpq hf hb
    obtain ⟨fuel, rfl⟩ : ∃ k, fuel = k + 1 := ⟨fuel - 1, by omega⟩
    show X8_match_L47_B (nI n) skill shore fars rec11 _ least mates all (nI s) (nI b) (nI p) (nI q) = _
    unfold X8_match_L47_B
    rw [if_pos (nI_le (by omega) (by omega))]
    rfl
  | succ d ih =>
    intro q fuel b hq hpq hf hb
    obtain ⟨fuel, rfl⟩ : ∃ k, fuel = k + 1 := ⟨fuel - 1, by omega⟩
    show X8_match_L47_B (nI n) skill shore fars rec11 (X8_match_L47 (nI n) skill shore fars rec11 fuel) least mates all (nI s) (nI b) (nI p) (nI q) = _
    unfold X8_match_L47_B X8_match_J113 X8_match_J114
    have htb : (s ^^^ 2 ^ p).testBit q = s.testBit q := by rw [tb_x, if_neg (by omega)]
    rw [if_neg (nI_ge (by omega) (by omega)), if_neg (nI_nle (by omega) (by omega)), bit_ok (by omega) (by omega), bsF]
    by_cases c : s.testBit q = true
    · obtain ⟨-, x2, x3⟩ := xb_ok (s := s ^^^ 2 ^ p) (q := q) (by omega) (by omega) (by rw [htb]; exact c)
      obtain ⟨t1, t2⟩ := hT (s ^^^ 2 ^ p ^^^ 2 ^ q) (by omega)
      have hck := ck_le h hpn (show q < n by omega)
      have t3 : ck SK SH FA p q + T (s ^^^ 2 ^ p ^^^ 2 ^ q) < 2 ^ 31 := by omega
      rw [if_pos c, if_pos rfl, if_pos c, cost_M h hpn (by omega), bd_some, w1, x2, rd_nI least (by omega) (by decide), t1, nI_add, nm_eq, nm_eq, nm_eq, show nI q + 1 = nI (q + 1) from nI_1 q]
      have hi := ih (q + 1) fuel (mnN (ck SK SH FA p q + T (s ^^^ 2 ^ p ^^^ 2 ^ q)) b) (by omega) (by omega) (by omega) (Nat.lt_of_le_of_lt (mnN_r _ _) hb)
      rw [← hi]
      by_cases e : b ≤ ck SK SH FA p q + T (s ^^^ 2 ^ p ^^^ 2 ^ q)
      · rw [if_pos (nI_le e t3)]
        have : mnN (ck SK SH FA p q + T (s ^^^ 2 ^ p ^^^ 2 ^ q)) b = b := by unfold mnN; rw [if_neg (by omega)]
        rw [this]
      · rw [if_neg (nI_ge (by omega) hb)]
        have : mnN (ck SK SH FA p q + T (s ^^^ 2 ^ p ^^^ 2 ^ q)) b = ck SK SH FA p q + T (s ^^^ 2 ^ p ^^^ 2 ^ q) := by unfold mnN; rw [if_pos (by omega)]
        rw [this]
    · rw [if_neg c, if_neg (by decide), if_neg c, nm_eq, show nI q + 1 = nI (q + 1) from nI_1 q]
      exact ih (q + 1) fuel b (by omega) (by omega) (by omega) hb
theorem mm_s (h : CrN n SK SH FA skill shore fars) {s : Nat} {T : Nat → Nat} {least mates : Nat → Int32} (hs : s < 2 ^ n) (h0 : s ≠ 0) (hT : ∀ k, k < s → least k = nI (T k) ∧ T k ≤ 1998 * k) (fuel : Nat) : X8_match_L11 (nI n) skill shore fars (fuel + 1) least mates (nI (2 ^ n - 1)) (nI s) = X8_match_L11 (nI n) skill shore fars fuel (upd least s (nI (vl (ck SK SH FA) n T s))) mates (nI (2 ^ n - 1)) (nI (s + 1)) := by
  have hn := h.1
  have h10 := p2_le hn
  obtain ⟨a1, a2, a3, a4, a5, a6⟩ := lw_ok (s := s) (by omega) h0
  obtain ⟨-, o3⟩ := od_ok (s := s) (by omega)
  have hpn := tb_lt hs a3
  obtain ⟨-, w1, x3⟩ := xb_ok (by omega) a4 a3
  obtain ⟨t1, t2⟩ := hT _ x3
  show X8_match_L11_B (nI n) skill shore fars (X8_match_L11 (nI n) skill shore fars fuel) least mates (nI (2 ^ n - 1)) (nI s) = _
  unfold X8_match_L11_B X8_match_J26 X8_match_J39
  rw [if_neg (nI_nlt (by omega) (by omega)), if_neg (nI_ne0 (by omega) (by omega)), if_neg (nI_ne0 (by omega) (by omega)), a1, bd_some, nm_eq, show nI (lw s) + 1 = nI (lw s + 1) from nI_1 _, show (1000000000 : Int32) = nI 1000000000 from rfl, mm_q h hs h0 a3 hT (n - (lw s + 1)) (lw s + 1) FU 1000000000 (by omega) (by omega) (FU_big (by omega)) (by omega)]
  unfold X8_match_J120 X8_match_J158 X8_match_J159
  have hb : bsF (ck SK SH FA) T s (lw s) (n - (lw s + 1)) (lw s + 1) 1000000000 ≤ 1000000000 := bsF_le _ _ _ _ _ _ _
  rw [if_neg (nI_nle (by omega) (by omega)), o3, bd_some, wrI_nI least (by omega) (by decide), nm_eq, show nI s + 1 = nI (s + 1) from nI_1 s]
  unfold vl
  by_cases c : od s = true
  · rw [if_pos c, if_neg i1n0, if_pos c, w1, rd_nI least (by omega) (by decide), t1, wrI_nI least (by omega) (by decide), nm_eq]
    have e1 : bsF (ck SK SH FA) T s (lw s) (n - (lw s + 1)) (lw s + 1) (T (s ^^^ 2 ^ lw s)) = mnN (T (s ^^^ 2 ^ lw s)) (bsF (ck SK SH FA) T s (lw s) (n - (lw s + 1)) (lw s + 1) 1000000000) := by
      rw [← bsF_min, mnN_s (by omega)]
    rw [e1]
    by_cases e : bsF (ck SK SH FA) T s (lw s) (n - (lw s + 1)) (lw s + 1) 1000000000 ≤ T (s ^^^ 2 ^ lw s)
    · rw [if_pos (nI_le e (by omega))]
      have : mnN (T (s ^^^ 2 ^ lw s)) (bsF (ck SK SH FA) T s (lw s) (n - (lw s + 1)) (lw s + 1) 1000000000) = bsF (ck SK SH FA) T s (lw s) (n - (lw s + 1)) (lw s + 1) 1000000000 := by
        unfold mnN
        rw [if_neg (by omega)]
      rw [this]
    · rw [if_neg (nI_ge (by omega) (by omega))]
      have : mnN (T (s ^^^ 2 ^ lw s)) (bsF (ck SK SH FA) T s (lw s) (n - (lw s + 1)) (lw s + 1) 1000000000) = T (s ^^^ 2 ^ lw s) := by
        unfold mnN
        rw [if_pos (by omega)]
      rw [this]
  · rw [if_neg c, if_pos rfl, if_neg c]
    obtain ⟨q, q1, q2, q3⟩ := a6 (by simpa using c)
    have hqn := tb_lt hs q3
    have hle := bsF_at (ck SK SH FA) T s (lw s) q3 (n - (lw s + 1)) (lw s + 1) 2147483647 (by omega) (by omega)
    have hbq : (s ^^^ 2 ^ lw s).testBit q = true := by
      rw [tb_x, if_neg (by omega)]
      exact q3
    obtain ⟨-, -, x2⟩ := xb_ok (s := s ^^^ 2 ^ lw s) (by omega) q2 hbq
    obtain ⟨-, u2⟩ := hT (s ^^^ 2 ^ lw s ^^^ 2 ^ q) (by omega)
    have hck := ck_le h hpn hqn
    have e1 : bsF (ck SK SH FA) T s (lw s) (n - (lw s + 1)) (lw s + 1) 1000000000 = bsF (ck SK SH FA) T s (lw s) (n - (lw s + 1)) (lw s + 1) 2147483647 := by
      have := bsF_min (ck SK SH FA) T s (lw s) 1000000000 (n - (lw s + 1)) (lw s + 1) 2147483647
      rw [mnN_s (by omega)] at this
      rw [this]
      unfold mnN
      rw [if_neg (by omega)]
    rw [e1]
theorem mm_0 (h : CrN n SK SH FA skill shore fars) {least mates : Nat → Int32} (fuel : Nat) : X8_match_L11 (nI n) skill shore fars (fuel + 1) least mates (nI (2 ^ n - 1)) (nI 0) = X8_match_L11 (nI n) skill shore fars fuel (upd least 0 0) mates (nI (2 ^ n - 1)) (nI 1) := by
  have hn := h.1
  have h10 := p2_le hn
  have hJ : ∀ rec11, X8_match_J120 (nI n) skill shore fars rec11 least mates (nI (2 ^ n - 1)) (nI 0) 0 0 = rec11 (upd least 0 0) mates (nI (2 ^ n - 1)) (nI 1) := by
    intro rec11
    unfold X8_match_J120 X8_match_J159
    rw [if_pos (by decide), wrI_nI least (by decide) (by decide), nm_eq]
    rfl
  show X8_match_L11_B (nI n) skill shore fars (X8_match_L11 (nI n) skill shore fars fuel) least mates (nI (2 ^ n - 1)) (nI 0) = _
  unfold X8_match_L11_B X8_match_J26 X8_match_J39
  rw [if_neg (nI_nlt (by omega) (by omega)), if_pos nI_0, if_pos nI_0, nm_eq]
  show X8_match_L47 (nI n) skill shore fars _ (4095 + 1) least mates (nI (2 ^ n - 1)) (nI 0) 0 0 (nI 1) = _
  show X8_match_L47_B (nI n) skill shore fars _ _ least mates (nI (2 ^ n - 1)) (nI 0) 0 0 (nI 1) = _
  unfold X8_match_L47_B
  by_cases c : nI n ≤ nI 1
  · rw [if_pos c]
    exact hJ _
  · rw [if_neg c, if_pos (by decide)]
    exact hJ _
theorem mm_all (h : CrN n SK SH FA skill shore fars) (mates : Nat → Int32) : ∀ (d i fuel : Nat) (least : Nat → Int32), i + d = 2 ^ n - 1 → d < fuel → (∀ k, k ≤ i → least k = nI (Tab (ck SK SH FA) n i k)) → ∃ least', X8_match_L11 (nI n) skill shore fars fuel least mates (nI (2 ^ n - 1)) (nI (i + 1)) = X8_match_J172 (nI n) skill shore fars least' mates (nI (2 ^ n - 1)) ∧ ∀ k, k < 2 ^ n → least' k = nI (Tab (ck SK SH FA) n (2 ^ n - 1) k) := by
  have hn := h.1
  have h10 := p2_le hn
  have h1 : 1 ≤ 2 ^ n := Nat.one_le_two_pow
  intro d
  induction d with
  | zero =>
    intro i fuel least hi hf hl
    obtain ⟨fuel, rfl⟩ : ∃ k, fuel = k + 1 := ⟨fuel - 1, by omega⟩
    have ei : i = 2 ^ n - 1 := by omega
    subst ei
    refine ⟨least, ?_, fun k hk => hl k (by omega)⟩
    show X8_match_L11_B (nI n) skill shore fars _ least mates (nI (2 ^ n - 1)) (nI (2 ^ n - 1 + 1)) = _
    unfold X8_match_L11_B
    rw [if_pos (nI_lt (by omega) (by omega))]
  | succ d ih =>
    intro i fuel least hi hf hl
    obtain ⟨fuel, rfl⟩ : ∃ k, fuel = k + 1 := ⟨fuel - 1, by omega⟩
    have hle := Tab_le (C := ck SK SH FA) hn (fun p q hp hq => ck_le h hp hq) i (by omega)
    rw [mm_s h (s := i + 1) (T := Tab (ck SK SH FA) n i) (by omega) (by omega) (fun k hk => ⟨hl k (by omega), hle k (by omega)⟩)]
    refine ih (i + 1) fuel _ (by omega) (by omega) (fun k hk => ?_)
    rw [Tab]
    by_cases e : k = i + 1
    · subst e
      rw [pk_us, upN_s]
    · rw [pk_un e, upN_n _ _ e]
      exact hl k (by omega)
theorem mm_f (h : CrN n SK SH FA skill shore fars) {s p : Nat} {T : Nat → Nat} {least M : Nat → Int32} {all : Int32} {rec174 : (Nat → Int32) → (Nat → Int32) → Int32 → Int32 → Option (Int32 × (Nat → Int32) × (Nat → Int32))} (hs : s < 2 ^ n) (hp : s.testBit p = true) (hT : ∀ k, k < 2 ^ n → least k = nI (T k) ∧ T k ≤ 1998 * k) : ∀ (e fuel : Nat), p + e < n → e < fuel → X8_match_L195 (nI n) skill shore fars rec174 fuel least M all (nI s) (nI p) (fE (fN (cnd (ck SK SH FA) T s p) (n - (p + e + 1)) (p + e + 1))) (nI (p + e)) = X8_match_J266 (nI n) skill shore fars rec174 least M all (nI s) (nI p) (fE (fN (cnd (ck SK SH FA) T s p) (n - (p + 1)) (p + 1))) := by
  have hn := h.1
  have h10 := p2_le hn
  have hpn := tb_lt hs hp
  obtain ⟨-, w1, x1⟩ := xb_ok (by omega) (by omega) hp
  intro e
  induction e with
  | zero =>
    intro fuel he hf
    obtain ⟨fuel, rfl⟩ : ∃ k, fuel = k + 1 := ⟨fuel - 1, by omega⟩
    show X8_match_L195_B (nI n) skill shore fars rec174 _ least M all (nI s) (nI p) _ (nI p) = _
    unfold X8_match_L195_B
    rw [if_pos (nI_le (by omega) (by omega))]
  | succ e ih =>
    intro fuel he hf
    obtain ⟨fuel, rfl⟩ : ∃ k, fuel = k + 1 := ⟨fuel - 1, by omega⟩
    show X8_match_L195_B (nI n) skill shore fars rec174 (X8_match_L195 (nI n) skill shore fars rec174 fuel) least M all (nI s) (nI p) _ (nI (p + (e + 1))) = _
    unfold X8_match_L195_B X8_match_J256 X8_match_J258
    have htb : (s ^^^ 2 ^ p).testBit (p + (e + 1)) = s.testBit (p + (e + 1)) := by rw [tb_x, if_neg (by omega)]
    rw [if_neg (nI_ge (by omega) (by omega)), nm_eq, bit_ok (by omega) (by omega), ← ih fuel (by omega) (by omega)]
    have hfn : fN (cnd (ck SK SH FA) T s p) (n - (p + e + 1)) (p + e + 1) = if cnd (ck SK SH FA) T s p (p + (e + 1)) = true then p + (e + 1) else fN (cnd (ck SK SH FA) T s p) (n - (p + (e + 1) + 1)) (p + (e + 1) + 1) := by
      have : n - (p + e + 1) = (n - (p + (e + 1) + 1)) + 1 := by omega
      rw [this, fN]
      rfl
    have hm1 : nI (p + (e + 1)) + (-1) = nI (p + e) := pk_m1 (p + e)
    by_cases c : s.testBit (p + (e + 1)) = true
    · obtain ⟨-, x2, x3⟩ := xb_ok (s := s ^^^ 2 ^ p) (q := p + (e + 1)) (by omega) (by omega) (by rw [htb]; exact c)
      obtain ⟨t1, t2⟩ := hT (s ^^^ 2 ^ p ^^^ 2 ^ (p + (e + 1))) (by omega)
      obtain ⟨u1, u2⟩ := hT s hs
      have hck := ck_le h hpn (show p + (e + 1) < n by omega)
      rw [if_pos c, if_pos rfl, cost_M h hpn (by omega), bd_some, w1, x2, rd_nI least (by omega) (by decide), rd_nI least (by omega) (by decide), t1, u1, nI_add, nm_eq, nm_eq, hm1, hfn]
      have hcn : cnd (ck SK SH FA) T s p (p + (e + 1)) = decide (ck SK SH FA p (p + (e + 1)) + T (s ^^^ 2 ^ p ^^^ 2 ^ (p + (e + 1))) = T s) := by
        unfold cnd
        rw [c, Bool.true_and]
      by_cases ee : ck SK SH FA p (p + (e + 1)) + T (s ^^^ 2 ^ p ^^^ 2 ^ (p + (e + 1))) = T s
      · rw [if_pos (by rw [ee]), if_pos (by rw [hcn, decide_eq_true ee])]
        unfold fE
        rw [if_neg (show ¬ p + (e + 1) = 99 by omega)]
      · rw [if_neg (fun q => ee (nI_inj (by omega) (by omega) q)), if_neg (by rw [hcn, decide_eq_false ee]; decide)]
    · rw [if_neg c, if_neg (by decide), nm_eq, hm1, hfn, if_neg (by unfold cnd; simp [c])]
theorem mm_m (h : CrN n SK SH FA skill shore fars) {T : Nat → Nat} {least : Nat → Int32} {all : Int32} (hT : ∀ k, k < 2 ^ n → least k = nI (T k) ∧ T k ≤ 1998 * k) : ∀ (d i fuel s : Nat) (M : Nat → Int32), i + d = n → d < fuel → s < 2 ^ n → (∀ j, j < i → s.testBit j = false) → X8_match_L174 (nI n) skill shore fars fuel least M all (nI s) = X8_match_J309 (nI n) skill shore fars least (mtS (ck SK SH FA) T n d i s M) all := by
  have hn := h.1
  have h10 := p2_le hn
  intro d
  induction d with
  | zero =>
    intro i fuel s M hi hf hs hlo
    obtain ⟨fuel, rfl⟩ : ∃ k, fuel = k + 1 := ⟨fuel - 1, by omega⟩
    have es : s = 0 := by
      refine Nat.eq_of_testBit_eq (fun j => ?_)
      rw [Nat.zero_testBit]
      by_cases c : j < n
      · exact hlo j (by omega)
      · exact Nat.testBit_lt_two_pow (Nat.lt_of_lt_of_le hs (Nat.pow_le_pow_right (by decide) (by omega)))
    subst es
    show X8_match_L174_B (nI n) skill shore fars _ least M all (nI 0) = _
    unfold X8_match_L174_B
    rw [if_pos (by decide)]
    rfl
  | succ d ih =>
    intro i fuel s M hi hf hs hlo
    rw [mtS]
    by_cases c : s.testBit i = true
    · obtain ⟨fuel, rfl⟩ : ∃ k, fuel = k + 1 := ⟨fuel - 1, by omega⟩
      have h0 : s ≠ 0 := fun e => by
        subst e
        rw [Nat.zero_testBit] at c
        cases c
      obtain ⟨a1, a2, a3, a4, a5, a6⟩ := lw_ok (s := s) (by omega) h0
      have el : lw s = i := by
        rcases Nat.lt_trichotomy (lw s) i with q | q | q
        · rw [hlo _ q] at a3
          cases a3
        · exact q
        · rw [a5 _ q] at c
          cases c
      obtain ⟨-, w1, x3⟩ := xb_ok (s := s) (q := i) (by omega) (by omega) c
      show X8_match_L174_B (nI n) skill shore fars (X8_match_L174 (nI n) skill shore fars fuel) least M all (nI s) = _
      unfold X8_match_L174_B
      rw [if_neg (nI_nle (by omega) (by omega)), a1, bd_some, nm_eq, el, show nI n - 1 = nI (i + (n - 1 - i)) from by rw [show nI n - 1 = nI (n - 1) from pk_sub (b := 1) (by omega)]; congr 1; omega]
      have hff := mm_f h (M := M) (all := all) (rec174 := X8_match_L174 (nI n) skill shore fars fuel) hs c hT (n - 1 - i) FU (by omega) (FU_big (by omega))
      have e0 : n - (i + (n - 1 - i) + 1) = 0 := by omega
      rw [e0] at hff
      refine Eq.trans hff ?_
      unfold X8_match_J266 X8_match_J306
      rw [if_pos c, wrI_nI M (by omega) (by decide), nm_eq, w1]
      rcases fN_cases (cnd (ck SK SH FA) T s i) (n - (i + 1)) (i + 1) with e | ⟨e1, e2, e3⟩
      · rw [e]
        show (if (-9 : Int32) = (-9) then _ else _) = _
        rw [if_pos rfl, if_pos rfl]
        exact ih (i + 1) fuel _ _ (by omega) (by omega) (by omega) (lo_x hlo c)
      · have hf9 : fE (fN (cnd (ck SK SH FA) T s i) (n - (i + 1)) (i + 1)) = nI (fN (cnd (ck SK SH FA) T s i) (n - (i + 1)) (i + 1)) := by
          unfold fE
          rw [if_neg (by omega)]
        have hb : (s ^^^ 2 ^ i).testBit (fN (cnd (ck SK SH FA) T s i) (n - (i + 1)) (i + 1)) = true := by
          rw [tb_x, if_neg (by omega)]
          unfold cnd at e3
          rw [Bool.and_eq_true] at e3
          exact e3.1
        obtain ⟨-, y1, y3⟩ := xb_ok (s := s ^^^ 2 ^ i) (by omega) (by omega) hb
        rw [hf9, if_neg (nI_n9 (by omega)), if_neg (by omega), wrI_nI _ (by omega) (by decide), nm_eq, y1]
        exact ih (i + 1) fuel _ _ (by omega) (by omega) (by omega) (lo_y (lo_x hlo c) e1)
    · rw [if_neg c]
      refine ih (i + 1) fuel s M (by omega) (by omega) hs (fun j hj => ?_)
      by_cases e : j = i
      · subst e
        simpa using c
      · exact hlo j (by omega)
end MMATCH
