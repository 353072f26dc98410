def CrN (n : Nat) (SK SH FA : Nat → Nat) (skills shores fars : Nat → Int32) : Prop := n ≤ 10 ∧ (∀ k, k < n → skills k = nI (SK k) ∧ SK k ≤ 999 ∧ shores k = nI (SH k) ∧ SH k ≤ 3) ∧ ∀ k, k < 16 → fars k = nI (FA k) ∧ FA k ≤ 999
def ck (SK SH FA : Nat → Nat) (p q : Nat) : Nat := adif (SK p) (SK q) + FA (4 * SH p + SH q)
theorem ck_le {n : Nat} {SK SH FA : Nat → Nat} {skills shores fars : Nat → Int32} (h : CrN n SK SH FA skills shores fars) {p q : Nat} (hp : p < n) (hq : q < n) : ck SK SH FA p q ≤ 1998 := by
  obtain ⟨h1, h2, h3⟩ := h
  have a1 := (h2 p hp).2
  have a2 := (h2 q hq).2
  have a3 := (h3 (4 * SH p + SH q) (by omega)).2
  unfold ck adif
  split <;> omega
theorem cost_C {n : Nat} {SK SH FA : Nat → Nat} {skills shores fars : Nat → Int32} (h : CrN n SK SH FA skills shores fars) {p q : Nat} (hp : p < n) (hq : q < n) : X1_costOfPair skills shores fars (nI p) (nI q) = some (nI (ck SK SH FA p q)) := by
  obtain ⟨h1, h2, h3⟩ := h
  obtain ⟨a1, a2, a3, a4⟩ := h2 p hp
  obtain ⟨b1, b2, b3, b4⟩ := h2 q hq
  have c1 := h3 (4 * SH p + SH q) (by omega)
  unfold X1_costOfPair
  rw [rd_nI skills (by omega) (by decide), rd_nI skills (by omega) (by decide), rd_nI shores (by omega) (by decide), rd_nI shores (by omega) (by decide), a1, b1, a3, b3, abs_sub (by omega) (by omega), show nI (SH p) * 4 + nI (SH q) = nI (4 * SH p + SH q) from by
    show nI (SH p) * nI 4 + nI (SH q) = _
    rw [pk_mul, nI_add, Nat.mul_comm], rd_nI fars (by omega) (by decide), c1.1, nI_add, adif_comm]
  rfl
theorem cost_M {n : Nat} {SK SH FA : Nat → Nat} {skills shores fars : Nat → Int32} (h : CrN n SK SH FA skills shores fars) {p q : Nat} (hp : p < n) (hq : q < n) : X8_costs skills shores fars (nI p) (nI q) = some (nI (ck SK SH FA p q)) := by
  obtain ⟨h1, h2, h3⟩ := h
  obtain ⟨a1, a2, a3, a4⟩ := h2 p hp
  obtain ⟨b1, b2, b3, b4⟩ := h2 q hq
  have c1 := h3 (4 * SH p + SH q) (by omega)
  unfold X8_costs
  rw [rd_nI skills (by omega) (by decide), rd_nI skills (by omega) (by decide), a1, b1, size_sub (by omega) (by omega), bd_some, rd_nI shores (by omega) (by decide), rd_nI shores (by omega) (by decide), a3, b3, show (4 : Int32) * nI (SH p) + nI (SH q) = nI (4 * SH p + SH q) from by
    show nI 4 * nI (SH p) + nI (SH q) = _
    rw [pk_mul, nI_add], rd_nI fars (by omega) (by decide), c1.1, nI_add]
  rfl
def mnN (a b : Nat) : Nat := if a < b then a else b
theorem mnN_c (x a b : Nat) : mnN x (mnN a b) = mnN a (mnN x b) := by
  unfold mnN
  repeat' split
  all_goals omega
theorem mnN_l (a b : Nat) : mnN a b ≤ a := by
  unfold mnN
  split <;> omega
theorem mnN_r (a b : Nat) : mnN a b ≤ b := by
  unfold mnN
  split <;> omega
theorem mnN_s {a b : Nat} (h : a ≤ b) : mnN a b = a := by
  unfold mnN
  split <;> omega
theorem mn_nI {a b : Nat} (ha : a < 2 ^ 31) (hb : b < 2 ^ 31) : (if nI a < nI b then nI a else nI b) = nI (mnN a b) := by
  unfold mnN
  by_cases c : a < b
  · rw [if_pos c, if_pos (nI_lt c hb)]
  · rw [if_neg c, if_neg (nI_nlt (by omega) ha)]
def bsF (C : Nat → Nat → Nat) (T : Nat → Nat) (s p : Nat) : Nat → Nat → Nat → Nat
  | 0, _, b => b
  | d + 1, q, b => bsF C T s p d (q + 1) (if s.testBit q = true then mnN (C p q + T (s ^^^ 2 ^ p ^^^ 2 ^ q)) b else b)
theorem bsF_min (C : Nat → Nat → Nat) (T : Nat → Nat) (s p a : Nat) : ∀ d q b, bsF C T s p d q (mnN a b) = mnN a (bsF C T s p d q b)
  | 0, _, _ => rfl
  | d + 1, q, b => by
    rw [bsF, bsF]
    by_cases c : s.testBit q = true
    · rw [if_pos c, if_pos c, mnN_c, bsF_min C T s p a d]
    · rw [if_neg c, if_neg c, bsF_min C T s p a d]
theorem bsF_le (C : Nat → Nat → Nat) (T : Nat → Nat) (s p : Nat) : ∀ d q b, bsF C T s p d q b ≤ b
  | 0, _, _ => Nat.le_refl _
  | d + 1, q, b => by
    rw [bsF]
    refine Nat.le_trans (bsF_le C T s p d _ _) ?_
    split
    · exact mnN_r _ _
    · exact Nat.le_refl _
theorem bsF_at (C : Nat → Nat → Nat) (T : Nat → Nat) (s p : Nat) {r : Nat} (hr : s.testBit r = true) : ∀ d q b, q ≤ r → r < q + d → bsF C T s p d q b ≤ C p r + T (s ^^^ 2 ^ p ^^^ 2 ^ r)
  | 0, _, _, h1, h2 => by omega
  | d + 1, q, b, h1, h2 => by
    rw [bsF]
    by_cases e : r = q
    · subst e
      rw [if_pos hr]
      exact Nat.le_trans (bsF_le C T s p d _ _) (mnN_l _ _)
    · exact bsF_at C T s p hr d (q + 1) _ (by omega) (by omega)
def vl (C : Nat → Nat → Nat) (n : Nat) (T : Nat → Nat) (s : Nat) : Nat := bsF C T s (lw s) (n - (lw s + 1)) (lw s + 1) (if od s = true then T (s ^^^ 2 ^ lw s) else 2147483647)
def Tab (C : Nat → Nat → Nat) (n : Nat) : Nat → Nat → Nat
  | 0 => fun _ => 0
  | i + 1 => upN (Tab C n i) (i + 1) (vl C n (Tab C n i) (i + 1))
theorem Tab_lo (C : Nat → Nat → Nat) (n : Nat) {k : Nat} : ∀ i j, k ≤ i → i ≤ j → Tab C n j k = Tab C n i k := by
  intro i j hk hij
  induction j with
  | zero =>
    have : i = 0 := by omega
    subst this
    rfl
  | succ j ih =>
    by_cases e : i = j + 1
    · subst e
      rfl
    · rw [Tab, upN_n _ _ (by omega)]
      exact ih (by omega)
theorem Tab_0 (C : Nat → Nat → Nat) (n i : Nat) : Tab C n i 0 = 0 := by
  rw [Tab_lo C n 0 i (by omega) (by omega)]
  rfl
theorem vl_le {C : Nat → Nat → Nat} {n s : Nat} {T : Nat → Nat} (hn : n ≤ 10) (hC : ∀ p q, p < n → q < n → C p q ≤ 1998) (hs : s < 2 ^ n) (h0 : s ≠ 0) (hT : ∀ k, k < s → T k ≤ 1998 * k) : vl C n T s ≤ 1998 * s := by
  have h10 := p2_le hn
  obtain ⟨-, -, a3, a4, a5, a6⟩ := lw_ok (s := s) (by omega) h0
  have hpn := tb_lt hs a3
  obtain ⟨-, -, x1⟩ := xb_ok (by omega) a4 a3
  unfold vl
  by_cases c : od s = true
  · rw [if_pos c]
    refine Nat.le_trans (bsF_le _ _ _ _ _ _ _) ?_
    have := hT _ x1
    omega
  · rw [if_neg c]
    obtain ⟨q, q1, q2, q3⟩ := a6 (by simpa using c)
    have hqn := tb_lt hs q3
    refine Nat.le_trans (bsF_at C T s (lw s) q3 _ _ _ (by omega) (by omega)) ?_
    have hb : (s ^^^ 2 ^ lw s).testBit q = true := by
      rw [tb_x, if_neg (by omega)]
      exact q3
    obtain ⟨-, -, x2⟩ := xb_ok (s := s ^^^ 2 ^ lw s) (by omega) q2 hb
    have h1 := hT (s ^^^ 2 ^ lw s ^^^ 2 ^ q) (by omega)
    have h2 := hC (lw s) q hpn hqn
    omega
theorem Tab_le {C : Nat → Nat → Nat} {n : Nat} (hn : n ≤ 10) (hC : ∀ p q, p < n → q < n → C p q ≤ 1998) : ∀ i, i < 2 ^ n → ∀ k, k ≤ i → Tab C n i k ≤ 1998 * k := by
  intro i
  induction i with
  | zero =>
    intro _ k hk
    exact Nat.zero_le _
  | succ i ih =>
    intro hi k hk
    rw [Tab]
    by_cases e : k = i + 1
    · subst e
      rw [upN_s]
      exact vl_le hn hC hi (by omega) (fun k hk => ih (by omega) k (by omega))
    · rw [upN_n _ _ e]
      exact ih (by omega) k (by omega)
section CPAIR
variable {n : Nat} {SK SH FA : Nat → Nat} {skills shores fars : Nat → Int32}
theorem leastOf_L (h : CrN n SK SH FA skills shores fars) {s p : Nat} {T : Nat → Nat} {least : Nat → Int32} (hs : s < 2 ^ n) (hp : s.testBit p = true) (hT : ∀ k, k < s → least k = nI (T k) ∧ T k ≤ 1998 * k) : ∀ (d q fuel b : Nat), q + d = n → p < q → d < fuel → b < 2 ^ 31 → X1_leastOf_L52 (nI n) skills shores fars least fuel (nI p) (nI (s ^^^ 2 ^ p)) (nI b) (nI q) = some (nI (bsF (ck SK SH FA) T s p d q b)) := by
  have hn := h.1
  have h10 := p2_le hn
  have hpn := tb_lt hs hp
  obtain ⟨-, -, x1⟩ := xb_ok (by omega) (by omega) hp
  intro d
  induction d with
  | zero =>
    intro q fuel b hq hpq hf hb
    obtain ⟨fuel, rfl⟩ : ∃ k, fuel = k + 1 := ⟨fuel - 1, by omega⟩
    show X1_leastOf_L52_B (nI n) skills shores fars least _ (nI p) (nI (s ^^^ 2 ^ p)) (nI b) (nI q) = _
    unfold X1_leastOf_L52_B
    rw [if_pos (nI_le (by omega) (by omega))]
    rfl
  | succ d ih =>
    intro q fuel b hq hpq hf hb
    obtain ⟨fuel, rfl⟩ : ∃ k, fuel = k + 1 := ⟨fuel - 1, by omega⟩
    show X1_leastOf_L52_B (nI n) skills shores fars least (X1_leastOf_L52 (nI n) skills shores fars least fuel) (nI p) (nI (s ^^^ 2 ^ p)) (nI b) (nI q) = _
    unfold X1_leastOf_L52_B X1_leastOf_J97
    have htb : (s ^^^ 2 ^ p).testBit q = s.testBit q := by rw [tb_x, if_neg (by omega)]
    rw [if_neg (nI_ge (by omega) (by omega)), bit_ok (by omega) (by omega), htb, bsF]
    by_cases c : s.testBit q = true
    · obtain ⟨x2, -, x3⟩ := xb_ok (s := s ^^^ 2 ^ p) (q := q) (by omega) (by omega) (by rw [htb]; exact c)
      obtain ⟨t1, t2⟩ := hT (s ^^^ 2 ^ p ^^^ 2 ^ q) (by omega)
      have hck := ck_le h hpn (show q < n by omega)
      have t3 : ck SK SH FA p q + T (s ^^^ 2 ^ p ^^^ 2 ^ q) < 2 ^ 31 := by omega
      rw [if_pos c, if_pos c, if_pos rfl, cost_C h hpn (by omega), bd_some, x2, rd_nI least (by omega) (by decide), t1, nI_add, mn_nI t3 hb, nm_eq, nm_eq, show nI q + 1 = nI (q + 1) from nI_1 q]
      exact ih (q + 1) fuel _ (by omega) (by omega) (by omega) (Nat.lt_of_le_of_lt (mnN_r _ _) hb)
    · rw [if_neg c, if_neg c, if_neg (by decide), nm_eq, show nI q + 1 = nI (q + 1) from nI_1 q]
      exact ih (q + 1) fuel b (by omega) (by omega) (by omega) hb
theorem leastOf_ok (h : CrN n SK SH FA skills shores fars) {s : Nat} {T : Nat → Nat} {least : Nat → Int32} (hs : s < 2 ^ n) (h0 : s ≠ 0) (hT : ∀ k, k < s → least k = nI (T k) ∧ T k ≤ 1998 * k) : X1_leastOf (nI n) skills shores fars least (nI s) = some (nI (vl (ck SK SH FA) n T s)) := by
  have hn := h.1
  have h10 := p2_le hn
  obtain ⟨a1, a2, a3, a4, a5, a6⟩ := lw_ok (s := s) (by omega) h0
  obtain ⟨⟨r, o1, o2⟩, o3⟩ := od_ok (s := s) (by omega)
  have hpn := tb_lt hs a3
  obtain ⟨x1, -, x3⟩ := xb_ok (by omega) a4 a3
  unfold X1_leastOf
  rw [a2, bd_some, nm_eq, x1, o1, bd_some, o2]
  unfold X1_leastOf_J27 X1_leastOf_J45 vl
  obtain ⟨t1, t2⟩ := hT _ x3
  by_cases c : od s = true
  · rw [if_pos c, if_pos c, if_pos rfl, if_neg i1n0, rd_nI least (by omega) (by decide), t1, nm_eq, show nI (lw s) + 1 = nI (lw s + 1) from nI_1 _]
    exact leastOf_L h hs a3 hT _ _ FU _ (by omega) (by omega) (FU_big (by omega)) (by omega)
  · rw [if_neg c, if_neg c, if_neg (by decide), if_pos rfl, nm_eq, show nI (lw s) + 1 = nI (lw s + 1) from nI_1 _]
    exact leastOf_L h hs a3 hT _ _ FU 2147483647 (by omega) (by omega) (FU_big (by omega)) (by omega)
theorem pairUp_1 (h : CrN n SK SH FA skills shores fars) (paired : Int32) (mates : Nat → Int32) : ∀ (d i fuel : Nat) (least : Nat → Int32), i + d = 2 ^ n - 1 → d < fuel → (∀ k, k ≤ i → least k = nI (Tab (ck SK SH FA) n i k)) → ∃ least', X1_pairUp_L10 (nI n) skills shores fars fuel paired mates least (nI (i + 1)) = X1_pairUp_J37 (nI n) skills shores fars paired mates least' ∧ ∀ k, k < 2 ^ n → least' k = nI (Tab (ck SK SH FA) n (2 ^ n - 1) k) := by
  have hn := h.1
  have h10 := p2_le hn
  have h1 : 1 ≤ 2 ^ n := Nat.one_le_two_pow
  intro d
  induction d with
  | zero =>
    intro i fuel least hi hf hl
    obtain ⟨fuel, rfl⟩ : ∃ k, fuel = k + 1 := ⟨fuel - 1, by omega⟩
    have ei : i = 2 ^ n - 1 := by omega
    subst ei
    refine ⟨least, ?_, fun k hk => hl k (by omega)⟩
    show X1_pairUp_L10_B (nI n) skills shores fars _ paired mates least (nI (2 ^ n - 1 + 1)) = _
    unfold X1_pairUp_L10_B
    rw [shl1 (by omega), if_pos (nI_le (by omega) (by omega))]
  | succ d ih =>
    intro i fuel least hi hf hl
    obtain ⟨fuel, rfl⟩ : ∃ k, fuel = k + 1 := ⟨fuel - 1, by omega⟩
    have hle := Tab_le (C := ck SK SH FA) hn (fun p q hp hq => ck_le h hp hq) i (by omega)
    have hs : X1_pairUp_L10 (nI n) skills shores fars (fuel + 1) paired mates least (nI (i + 1)) = X1_pairUp_L10 (nI n) skills shores fars fuel paired mates (upd least (i + 1) (nI (vl (ck SK SH FA) n (Tab (ck SK SH FA) n i) (i + 1)))) (nI (i + 1 + 1)) := by
      show X1_pairUp_L10_B (nI n) skills shores fars (X1_pairUp_L10 (nI n) skills shores fars fuel) paired mates least (nI (i + 1)) = _
      unfold X1_pairUp_L10_B
      rw [shl1 (by omega), if_neg (nI_ge (by omega) (by omega)), leastOf_ok h (s := i + 1) (T := Tab (ck SK SH FA) n i) (by omega) (by omega) (fun k hk => ⟨hl k (by omega), hle k (by omega)⟩), bd_some, wrI_nI least (by omega) (by decide), nm_eq, show nI (i + 1) + 1 = nI (i + 1 + 1) from nI_1 _]
    rw [hs]
    refine ih (i + 1) fuel _ (by omega) (by omega) (fun k hk => ?_)
    rw [Tab]
    by_cases e : k = i + 1
    · subst e
      rw [pk_us, upN_s]
    · rw [pk_un e, upN_n _ _ e]
      exact hl k (by omega)
end CPAIR
