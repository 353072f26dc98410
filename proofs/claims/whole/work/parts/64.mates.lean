def cnd (C : Nat → Nat → Nat) (T : Nat → Nat) (s p q : Nat) : Bool := s.testBit q && decide (C p q + T (s ^^^ 2 ^ p ^^^ 2 ^ q) = T s)
def fN (f : Nat → Bool) : Nat → Nat → Nat
  | 0, _ => 99
  | d + 1, q => if f q = true then q else fN f d (q + 1)
def fE (r : Nat) : Int32 := if r = 99 then (-9) else nI r
theorem fN_cases (f : Nat → Bool) : ∀ d q, fN f d q = 99 ∨ (q ≤ fN f d q ∧ fN f d q < q + d ∧ f (fN f d q) = true)
  | 0, _ => Or.inl rfl
  | d + 1, q => by
    rw [fN]
    by_cases c : f q = true
    · rw [if_pos c]
      exact Or.inr ⟨by omega, by omega, c⟩
    · rw [if_neg c]
      rcases fN_cases f d (q + 1) with h | ⟨h1, h2, h3⟩
      · exact Or.inl h
      · exact Or.inr ⟨by omega, by omega, h3⟩
def mtS (C : Nat → Nat → Nat) (T : Nat → Nat) (n : Nat) : Nat → Nat → Nat → (Nat → Int32) → Nat → Int32
  | 0, _, _, M => M
  | d + 1, i, s, M => if s.testBit i = true then (if fN (cnd C T s i) (n - (i + 1)) (i + 1) = 99 then mtS C T n d (i + 1) (s ^^^ 2 ^ i) (upd M i (-9)) else mtS C T n d (i + 1) (s ^^^ 2 ^ i ^^^ 2 ^ (fN (cnd C T s i) (n - (i + 1)) (i + 1))) (upd (upd M i (nI (fN (cnd C T s i) (n - (i + 1)) (i + 1)))) (fN (cnd C T s i) (n - (i + 1)) (i + 1)) (nI i))) else mtS C T n d (i + 1) s M
theorem lo_x {s i : Nat} (h : ∀ j, j < i → s.testBit j = false) (hb : s.testBit i = true) : ∀ j, j < i + 1 → (s ^^^ 2 ^ i).testBit j = false := by
  intro j hj
  rw [tb_x]
  by_cases e : i = j
  · subst e
    rw [if_pos rfl, hb]
    rfl
  · rw [if_neg e]
    exact h j (by omega)
theorem lo_y {s i q : Nat} (h : ∀ j, j < i → s.testBit j = false) (hq : i ≤ q) : ∀ j, j < i → (s ^^^ 2 ^ q).testBit j = false := by
  intro j hj
  rw [tb_x, if_neg (by omega)]
  exact h j hj
theorem mtS_congr (C : Nat → Nat → Nat) (T : Nat → Nat) {n : Nat} (hn : n ≤ 10) : ∀ (d i s : Nat) (M M' : Nat → Int32), i + d = n → (∀ j, j < i → s.testBit j = false) → (∀ k, k < n → s.testBit k = false → M k = M' k) → ∀ k, k < n → mtS C T n d i s M k = mtS C T n d i s M' k := by
  intro d
  induction d with
  | zero =>
    intro i s M M' hi hlo h k hk
    exact h k hk (hlo k (by omega))
  | succ d ih =>
    intro i s M M' hi hlo h k hk
    rw [mtS, mtS]
    by_cases c : s.testBit i = true
    · rw [if_pos c, if_pos c]
      rcases fN_cases (cnd C T s i) (n - (i + 1)) (i + 1) with e | ⟨e1, e2, e3⟩
      · rw [if_pos e, if_pos e]
        refine ih (i + 1) _ _ _ (by omega) (lo_x hlo c) (fun k hk hb => ?_) k hk
        by_cases ek : k = i
        · subst ek
          rw [pk_us, pk_us]
        · rw [pk_un ek, pk_un ek]
          rw [tb_x, if_neg (fun q => ek q.symm)] at hb
          exact h k hk hb
      · rw [if_neg (by omega), if_neg (by omega)]
        refine ih (i + 1) _ _ _ (by omega) (lo_y (lo_x hlo c) e1) (fun k hk hb => ?_) k hk
        by_cases ek2 : k = fN (cnd C T s i) (n - (i + 1)) (i + 1)
        · rw [← ek2, pk_us, pk_us]
        · rw [pk_un ek2, pk_un ek2]
          by_cases ek : k = i
          · subst ek
            rw [pk_us, pk_us]
          · rw [pk_un ek, pk_un ek]
            rw [tb_x, if_neg (fun q => ek2 q.symm), tb_x, if_neg (fun q => ek q.symm)] at hb
            exact h k hk hb
    · rw [if_neg c, if_neg c]
      refine ih (i + 1) s M M' (by omega) (fun j hj => ?_) h k hk
      by_cases e : j = i
      · subst e
        simpa using c
      · exact hlo j (by omega)
section CMATE
variable {n : Nat} {SK SH FA : Nat → Nat} {skills shores fars : Nat → Int32}
theorem leastMate_L (h : CrN n SK SH FA skills shores fars) {s p : Nat} {T : Nat → Nat} {least : Nat → Int32} (hs : s < 2 ^ n) (hp : s.testBit p = true) (hT : ∀ k, k < 2 ^ n → least k = nI (T k) ∧ T k ≤ 1998 * k) : ∀ (d q fuel : Nat), q + d = n → p < q → d < fuel → X1_leastMate_L11 (nI n) skills shores fars least fuel (nI s) (nI p) (nI (s ^^^ 2 ^ p)) (nI q) = some (fE (fN (cnd (ck SK SH FA) T s p) d q)) := by
  have hn := h.1
  have h10 := p2_le hn
  have hpn := tb_lt hs hp
  obtain ⟨-, -, x1⟩ := xb_ok (by omega) (by omega) hp
  intro d
  induction d with
  | zero =>
    intro q fuel hq hpq hf
    obtain ⟨fuel, rfl⟩ : ∃ k, fuel = k + 1 := ⟨fuel - 1, by omega⟩
    show X1_leastMate_L11_B (nI n) skills shores fars least _ (nI s) (nI p) (nI (s ^^^ 2 ^ p)) (nI q) = _
    unfold X1_leastMate_L11_B
    rw [if_pos (nI_le (by omega) (by omega))]
    rfl
  | succ d ih =>
    intro q fuel hq hpq hf
    obtain ⟨fuel, rfl⟩ : ∃ k, fuel = k + 1 := ⟨fuel - 1, by omega⟩
    show X1_leastMate_L11_B (nI n) skills shores fars least (X1_leastMate_L11 (nI n) skills shores fars least fuel) (nI s) (nI p) (nI (s ^^^ 2 ^ p)) (nI q) = _
    unfold X1_leastMate_L11_B X1_leastMate_J61
    have htb : (s ^^^ 2 ^ p).testBit q = s.testBit q := by rw [tb_x, if_neg (by omega)]
    rw [if_neg (nI_ge (by omega) (by omega)), bit_ok (by omega) (by omega), htb, fN]
    by_cases c : s.testBit q = true
    · obtain ⟨x2, -, x3⟩ := xb_ok (s := s ^^^ 2 ^ p) (q := q) (by omega) (by omega) (by rw [htb]; exact c)
      obtain ⟨t1, t2⟩ := hT (s ^^^ 2 ^ p ^^^ 2 ^ q) (by omega)
      obtain ⟨u1, u2⟩ := hT s hs
      have hck := ck_le h hpn (show q < n by omega)
      rw [if_pos c, if_pos rfl, cost_C h hpn (by omega), bd_some, x2, rd_nI least (by omega) (by decide), rd_nI least (by omega) (by decide), t1, u1, nI_add]
      have hcn : cnd (ck SK SH FA) T s p q = decide (ck SK SH FA p q + T (s ^^^ 2 ^ p ^^^ 2 ^ q) = T s) := by
        unfold cnd
        rw [c, Bool.true_and]
      by_cases e : ck SK SH FA p q + T (s ^^^ 2 ^ p ^^^ 2 ^ q) = T s
      · rw [if_pos (by rw [e]), if_pos (by rw [hcn, decide_eq_true e])]
        unfold fE
        rw [if_neg (by omega)]
      · rw [if_neg (fun q => e (nI_inj (by omega) (by omega) q)), if_neg (by rw [hcn, decide_eq_false e]; decide), nm_eq, show nI q + 1 = nI (q + 1) from nI_1 q]
        exact ih (q + 1) fuel (by omega) (by omega) (by omega)
    · rw [if_neg c, if_neg (by decide), if_neg (by unfold cnd; simp [c]), nm_eq, show nI q + 1 = nI (q + 1) from nI_1 q]
      exact ih (q + 1) fuel (by omega) (by omega) (by omega)
theorem leastMate_ok (h : CrN n SK SH FA skills shores fars) {s p : Nat} {T : Nat → Nat} {least : Nat → Int32} (hs : s < 2 ^ n) (hp : s.testBit p = true) (hT : ∀ k, k < 2 ^ n → least k = nI (T k) ∧ T k ≤ 1998 * k) : X1_leastMate (nI n) skills shores fars least (nI s) (nI p) = some (fE (fN (cnd (ck SK SH FA) T s p) (n - (p + 1)) (p + 1))) := by
  have hn := h.1
  have h10 := p2_le hn
  have hpn := tb_lt hs hp
  obtain ⟨x1, -, -⟩ := xb_ok (by omega) (by omega) hp
  unfold X1_leastMate
  rw [nm_eq, nm_eq, x1, show nI p + 1 = nI (p + 1) from nI_1 p]
  exact leastMate_L h hs hp hT _ _ FU (by omega) (by omega) (FU_big (by omega))
theorem pairUp_2 (h : CrN n SK SH FA skills shores fars) {T : Nat → Nat} {least : Nat → Int32} (hT : ∀ k, k < 2 ^ n → least k = nI (T k) ∧ T k ≤ 1998 * k) (paired : Int32) : ∀ (d i fuel s : Nat) (M : Nat → Int32), i + d = n → d < fuel → s < 2 ^ n → (∀ j, j < i → s.testBit j = false) → X1_pairUp_L48 (nI n) skills shores fars fuel paired M least (nI s) (nI i) = some (1, mtS (ck SK SH FA) T n d i s M, least) := by
  have hn := h.1
  have h10 := p2_le hn
  intro d
  induction d with
  | zero =>
    intro i fuel s M hi hf hs hlo
    obtain ⟨fuel, rfl⟩ : ∃ k, fuel = k + 1 := ⟨fuel - 1, by omega⟩
    show X1_pairUp_L48_B (nI n) skills shores fars _ paired M least (nI s) (nI i) = _
    unfold X1_pairUp_L48_B
    rw [if_pos (nI_le (by omega) (by omega))]
    rfl
  | succ d ih =>
    intro i fuel s M hi hf hs hlo
    obtain ⟨fuel, rfl⟩ : ∃ k, fuel = k + 1 := ⟨fuel - 1, by omega⟩
    show X1_pairUp_L48_B (nI n) skills shores fars (X1_pairUp_L48 (nI n) skills shores fars fuel) paired M least (nI s) (nI i) = _
    unfold X1_pairUp_L48_B X1_pairUp_J104
    rw [if_neg (nI_ge (by omega) (by omega)), bit_ok (by omega) (by omega), mtS]
    by_cases c : s.testBit i = true
    · obtain ⟨x1, -, x3⟩ := xb_ok (s := s) (q := i) (by omega) (by omega) c
      rw [if_pos c, if_pos rfl, if_pos c, leastMate_ok h hs c hT, bd_some, wrI_nI M (by omega) (by decide), nm_eq, x1]
      rcases fN_cases (cnd (ck SK SH FA) T s i) (n - (i + 1)) (i + 1) with e | ⟨e1, e2, e3⟩
      · rw [e]
        show (if (-9 : Int32) = (-9) then _ else _) = _
        rw [if_pos rfl, if_pos rfl, nm_eq, show nI i + 1 = nI (i + 1) from nI_1 i]
        exact ih (i + 1) fuel _ _ (by omega) (by omega) (by omega) (lo_x hlo c)
      · have hf9 : fE (fN (cnd (ck SK SH FA) T s i) (n - (i + 1)) (i + 1)) = nI (fN (cnd (ck SK SH FA) T s i) (n - (i + 1)) (i + 1)) := by
          unfold fE
          rw [if_neg (by omega)]
        have hb : (s ^^^ 2 ^ i).testBit (fN (cnd (ck SK SH FA) T s i) (n - (i + 1)) (i + 1)) = true := by
          rw [tb_x, if_neg (by omega)]
          unfold cnd at e3
          rw [Bool.and_eq_true] at e3
          exact e3.1
        obtain ⟨y1, -, y3⟩ := xb_ok (s := s ^^^ 2 ^ i) (by omega) (by omega) hb
        rw [hf9, if_neg (nI_n9 (by omega)), if_neg (by omega), wrI_nI _ (by omega) (by decide), nm_eq, y1, nm_eq, show nI i + 1 = nI (i + 1) from nI_1 i]
        exact ih (i + 1) fuel _ _ (by omega) (by omega) (by omega) (lo_y (lo_x hlo c) e1)
    · rw [if_neg c, if_neg (by decide), if_neg c, nm_eq, show nI i + 1 = nI (i + 1) from nI_1 i]
      refine ih (i + 1) fuel s M (by omega) (by omega) hs (fun j hj => ?_)
      by_cases e : j = i
      · subst e
        simpa using c
      · exact hlo j (by omega)
end CMATE
