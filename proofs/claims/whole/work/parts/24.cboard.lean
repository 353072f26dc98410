def Lf (lf lt : Nat → Nat) (a t : Nat) : Bool := decide (lf a ≤ t ∧ t < lt a)
theorem isLeft_ok {f g : Nat → Int32} {lf lt : Nat → Nat} {a t : Nat} (ha : a < 6) (ht : t < 2 ^ 31) (h1 : f a = nI (lf a)) (h2 : g a = nI (lt a)) (k1 : lf a < 2 ^ 31) (k2 : lt a < 2 ^ 31) : X5_isLeft f g (nI a) (nI t) = some (if Lf lf lt a t = true then 1 else 0) := by
  unfold X5_isLeft Lf
  rw [zb_0, zb_1, rd_nI f ha (by decide), rd_nI g ha (by decide), h1, h2]
  by_cases c1 : lf a ≤ t
  · rw [if_neg (nI_nlt c1 ht)]
    by_cases c2 : t < lt a
    · rw [if_neg (nI_ge c2 k2), if_pos (by simp [c1, c2])]
    · rw [if_pos (nI_le (by omega) ht), if_neg (by simp [c2])]
  · rw [if_pos (nI_lt (by omega) k1), if_neg (by simp [c1])]
theorem fill_L {n : Nat} {v : Int32} (hn : n < 2 ^ 31) : ∀ (d i fuel : Nat) (f : Nat → Int32), i + d = n → d < fuel → ∃ f', J7_fill_53178_L5 n fuel f v (nI i) (nI n) = some f' ∧ (∀ k, i ≤ k → k < n → f' k = v) ∧ ∀ k, (k < i ∨ n ≤ k) → f' k = f k := by
  intro d
  induction d with
  | zero =>
    intro i fuel f hi hf
    obtain ⟨fuel, rfl⟩ : ∃ k, fuel = k + 1 := ⟨fuel - 1, by omega⟩
    refine ⟨f, ?_, fun k h1 h2 => by omega, fun k _ => rfl⟩
    show J7_fill_53178_L5_B n _ f v (nI i) (nI n) = _
    unfold J7_fill_53178_L5_B
    rw [if_pos (nI_le (by omega) (by omega))]
  | succ d ih =>
    intro i fuel f hi hf
    obtain ⟨fuel, rfl⟩ : ∃ k, fuel = k + 1 := ⟨fuel - 1, by omega⟩
    obtain ⟨f', e, h1, h2⟩ := ih (i + 1) fuel (upd f i v) (by omega) (by omega)
    refine ⟨f', ?_, fun k q1 q2 => ?_, fun k q => ?_⟩
    · rw [← e]
      show J7_fill_53178_L5_B n (J7_fill_53178_L5 n fuel) f v (nI i) (nI n) = _
      unfold J7_fill_53178_L5_B
      rw [if_neg (nI_ge (by omega) hn), wrI_nI f (by omega) hn, nm_eq, show nI i + 1 = nI (i + 1) from nI_1 i]
    · by_cases hk : k = i
      · subst hk
        rw [h2 k (by omega), pk_us]
      · exact h1 k (by omega) q2
    · rw [h2 k (by omega), pk_un (by omega)]
theorem fill_ok {n : Nat} (f : Nat → Int32) (v : Int32) (hn : n < 4096) : ∃ f', J7_fill_53178 n f v = some f' ∧ (∀ k, k < n → f' k = v) ∧ ∀ k, n ≤ k → f' k = f k := by
  unfold J7_fill_53178
  rw [nm_eq]
  obtain ⟨f', e, h1, h2⟩ := fill_L (n := n) (v := v) (by omega) n 0 FU f (by omega) (FU_big hn)
  exact ⟨f', e, fun k hk => h1 k (by omega) hk, fun k hk => h2 k (by omega)⟩
theorem spotOf_L {W : Nat} (hW : 3 ≤ W) (hW9 : W ≤ 9) : ∀ (d x y i fuel : Nat), d = 9 - i → x < 100 → i ≤ 9 → x < W * (10 - i) → d < fuel → X7_spotOf_L7 fuel (nI W) (nI x) (nI y) (nI i) = some (nI (16 * (y + x / W) + x % W)) := by
  intro d
  induction d with
  | zero =>
    intro x y i fuel hd hx hi hxw hf
    obtain ⟨fuel, rfl⟩ : ∃ k, fuel = k + 1 := ⟨fuel - 1, by omega⟩
    have e9 : i = 9 := by omega
    subst e9
    have hlt : x < W := by omega
    show X7_spotOf_L7_B _ (nI W) (nI x) (nI y) (nI 9) = _
    unfold X7_spotOf_L7_B
    rw [if_pos (by decide)]
    unfold X7_spotOf_J32
    rw [Nat.div_eq_of_lt hlt, Nat.mod_eq_of_lt hlt, show (16 : Int32) * nI y = nI (16 * y) from pk_mul 16 y, nI_add, Nat.add_zero]
  | succ d ih =>
    intro x y i fuel hd hx hi hxw hf
    obtain ⟨fuel, rfl⟩ : ∃ k, fuel = k + 1 := ⟨fuel - 1, by omega⟩
    show X7_spotOf_L7_B (X7_spotOf_L7 fuel) (nI W) (nI x) (nI y) (nI i) = _
    unfold X7_spotOf_L7_B
    rw [if_neg (show ¬ (9 : Int32) ≤ nI i from nI_ge (b := 9) (by omega) (by decide))]
    by_cases hlt : x < W
    · rw [if_pos (nI_lt hlt (by omega))]
      unfold X7_spotOf_J32
      rw [Nat.div_eq_of_lt hlt, Nat.mod_eq_of_lt hlt, show (16 : Int32) * nI y = nI (16 * y) from pk_mul 16 y, nI_add, Nat.add_zero]
    · rw [if_neg (nI_nlt (by omega) (by omega)), nm_eq, nm_eq, nm_eq, pk_sub (by omega), show nI y + 1 = nI (y + 1) from nI_1 y, show nI i + 1 = nI (i + 1) from nI_1 i]
      have hmul : W * (10 - i) = W * (10 - (i + 1)) + W := by
        have : 10 - i = (10 - (i + 1)) + 1 := by omega
        rw [this, Nat.mul_add, Nat.mul_one]
      have e1 : x / W = (x - W) / W + 1 := by
        rw [Nat.div_eq x W, if_pos ⟨by omega, by omega⟩]
      have e2 : x % W = (x - W) % W := by
        rw [Nat.mod_eq x W, if_pos ⟨by omega, by omega⟩]
      rw [ih (x - W) (y + 1) (i + 1) fuel (by omega) (by omega) (by omega) (by omega) (by omega), e1, e2]
      congr 2
      omega
theorem spotOf_ok {W x : Nat} (hW : 3 ≤ W) (hW9 : W ≤ 9) (hx : x < W * 10) : X7_spotOf (nI x) (nI W) = some (nI (16 * (x / W) + x % W)) := by
  unfold X7_spotOf
  show X7_spotOf_L7 FU (nI W) (nI x) (nI 0) (nI 0) = _
  rw [spotOf_L hW hW9 9 x 0 0 FU (by omega) (by omega) (by omega) (by omega) (FU_big (by omega)), Nat.zero_add]
theorem start_L {W H N : Nat} (hb : bnd W H N) : ∀ (d i fuel : Nat) (now : Nat → Int32), i + d = N → d < fuel → (∀ k, k < i → now k = nI (16 * (k / W) + k % W)) → (∀ k, i ≤ k → k < 13 → now k = nI 0) → ∃ now', X0_start_L10 (nI W) (nI H) (nI N) fuel now (nI i) = some now' ∧ Rep now' (startA W H N) := by
  obtain ⟨b1, b2, b3, b4, b5, b6⟩ := hb
  intro d
  induction d with
  | zero =>
    intro i fuel now hi hf h1 h2
    obtain ⟨fuel, rfl⟩ : ∃ k, fuel = k + 1 := ⟨fuel - 1, by omega⟩
    show ∃ now', X0_start_L10_B (nI W) (nI H) (nI N) _ now (nI i) = some now' ∧ _
    unfold X0_start_L10_B
    rw [if_pos (nI_le (by omega) (by omega))]
    unfold X0_start_J38
    rw [wrI_lit now 13 6 (by decide) (by decide)]
    have e : ((16 : Int32) * (nI H - 1) + nI W - 1) = nI (16 * (H - 1) + (W - 1)) := by
      show (nI 16 * (nI H - nI 1) + nI W - nI 1) = _
      rw [pk_sub (by omega), pk_mul, nI_add, pk_sub (by omega)]
      congr 1
      omega
    refine ⟨_, rfl, fun k hk => ?_⟩
    rw [e]
    unfold startA
    by_cases k6 : k = 6
    · subst k6
      rw [pk_us, if_neg (by omega), if_pos rfl]
    · rw [pk_un k6, if_neg k6]
      by_cases hkN : k < N
      · rw [if_pos hkN, h1 k (by omega)]
      · rw [if_neg hkN, h2 k (by omega) hk]
  | succ d ih =>
    intro i fuel now hi hf h1 h2
    obtain ⟨fuel, rfl⟩ : ∃ k, fuel = k + 1 := ⟨fuel - 1, by omega⟩
    have hs : X0_start_L10 (nI W) (nI H) (nI N) (fuel + 1) now (nI i) = X0_start_L10 (nI W) (nI H) (nI N) fuel (upd now i (nI (16 * (i / W) + i % W))) (nI (i + 1)) := by
      show X0_start_L10_B (nI W) (nI H) (nI N) (X0_start_L10 (nI W) (nI H) (nI N) fuel) now (nI i) = _
      unfold X0_start_L10_B
      rw [if_neg (nI_ge (by omega) (by omega)), spotOf_ok b1 b2 (by omega), bd_some, wrI_nI now (by omega) (by decide), nm_eq, show nI i + 1 = nI (i + 1) from nI_1 i]
    rw [hs]
    refine ih (i + 1) fuel _ (by omega) (by omega) (fun k hk => ?_) (fun k hk hk2 => ?_)
    · by_cases e : k = i
      · subst e
        rw [pk_us]
      · rw [pk_un e]
        exact h1 k (by omega)
    · rw [pk_un (by omega)]
      exact h2 k (by omega) hk2
theorem start_ok {W H N : Nat} (hb : bnd W H N) (now : Nat → Int32) : ∃ now', X0_start (nI W) (nI H) (nI N) now = some now' ∧ Rep now' (startA W H N) := by
  unfold X0_start
  obtain ⟨f', e, h1, -⟩ := fill_ok (n := 13) now 0 (by decide)
  rw [e, bd_some]
  have hb' := hb
  obtain ⟨b1, b2, b3, b4, b5, b6⟩ := hb'
  exact start_L hb N 0 FU f' (by omega) (FU_big (by omega)) (fun k hk => by omega) (fun k _ hk => h1 k hk)
theorem advance_L {W H N power spin seed t : Nat} {rules f g row : Nat → Int32} {lf lt press : Nat → Nat} {n4 : Nat} (hb : bnd W H N) (hn4 : N ≤ n4) (hn4' : n4 < 2 ^ 31) (h1 : rules 1 = nI spin) (h2 : rules 2 = nI seed) (hs : spin ≤ 9) (hd : seed ≤ 999) (ht : t < 100) (hpw : power < 100)
    (hf : ∀ a, a < N → f a = nI (lf a)) (hg : ∀ a, a < N → g a = nI (lt a)) (hlf : ∀ a, a < N → lf a ≤ 100) (hlt : ∀ a, a < N → lt a ≤ 100) (hrow : ∀ a, a < N → Lf lf lt a t = false → row a = nI (press a)) (hpr : ∀ a, a < N → Lf lf lt a t = false → press a ≤ 5) :
    ∀ (d i fuel : Nat) (now : Nat → Int32) (A0 : Nat → Nat), i + d = N → d < fuel → okS W H N A0 → Rep now (allA W H N power (fun a => Lf lf lt a t) press i A0) → ∃ now', X0_advance_L3 n4 (nI W) (nI H) (nI N) rules f g row fuel now (nI power) (nI t) (nI i) = some now' ∧ Rep now' (advA W H N power spin seed t (fun a => Lf lf lt a t) press A0) := by
  obtain ⟨b1, b2, b3, b4, b5, b6⟩ := hb
  intro d
  induction d with
  | zero =>
    intro i fuel now A0 hi hfu hA0 hr
    obtain ⟨fuel, rfl⟩ : ∃ k, fuel = k + 1 := ⟨fuel - 1, by omega⟩
    have ei : i = N := by omega
    subst ei
    show ∃ now', X0_advance_L3_B n4 (nI W) (nI H) (nI i) rules f g row _ now (nI power) (nI t) (nI i) = some now' ∧ _
    unfold X0_advance_L3_B
    rw [if_pos (nI_le (by omega) (by omega))]
    unfold X0_advance_J75
    have hAok := allA_ok (power := power) (left := fun a => Lf lf lt a t) (press := press) b2 b4 b6 hA0 i (Nat.le_refl i)
    obtain ⟨n1, e1, r1⟩ := spinBall_ok hr b2 b4 b6 hAok h1 h2 hs hd ht
    rw [e1, bd_some]
    obtain ⟨n2, e2, r2⟩ := givePoint_ok r1 b2 b4 b6 b5 (spA_ok b2 b4 b6 hAok)
    rw [e2, bd_some]
    exact ⟨n2, rfl, r2⟩
  | succ d ih =>
    intro i fuel now A0 hi hfu hA0 hr
    obtain ⟨fuel, rfl⟩ : ∃ k, fuel = k + 1 := ⟨fuel - 1, by omega⟩
    have hAok := allA_ok (power := power) (left := fun a => Lf lf lt a t) (press := press) b2 b4 b6 hA0 i (by omega)
    have key : ∀ v : Nat, v ≤ 5 → v = (if Lf lf lt i t = true then mpA W H (allA W H N power (fun a => Lf lf lt a t) press i A0) i else press i) → ∃ now', X0_advance_J36 n4 (nI W) (nI H) (nI N) rules f g row (X0_advance_L3 n4 (nI W) (nI H) (nI N) rules f g row fuel) now (nI power) (nI t) (nI i) (nI v) = some now' ∧ Rep now' (advA W H N power spin seed t (fun a => Lf lf lt a t) press A0) := by
      intro v hv ev
      have hall : allA W H N power (fun a => Lf lf lt a t) press (i + 1) A0 = actA W H N (allA W H N power (fun a => Lf lf lt a t) press i A0) i v power := by
        rw [allA, ev]
      unfold X0_advance_J36
      by_cases c5 : v = 5
      · subst c5
        rw [if_pos (show nI 5 = (5 : Int32) from rfl)]
        obtain ⟨n1, e1, r1⟩ := kick_ok (a := i) hr b2 b4 b6 hAok (show i < N by omega) hpw
        rw [e1, bd_some]
        unfold X0_advance_J69
        rw [nm_eq, show nI i + 1 = nI (i + 1) from nI_1 i]
        refine ih (i + 1) fuel n1 A0 (by omega) (by omega) hA0 ?_
        rw [hall]
        unfold actA
        rw [if_pos rfl]
        exact r1
      · rw [if_neg (show ¬ nI v = 5 from fun e => c5 (nI_inj (b := 5) (by omega) (by decide) e))]
        by_cases c0 : v = 0
        · subst c0
          rw [if_pos (show nI 0 ≤ 0 by decide)]
          unfold X0_advance_J69
          rw [nm_eq, show nI i + 1 = nI (i + 1) from nI_1 i]
          refine ih (i + 1) fuel now A0 (by omega) (by omega) hA0 ?_
          rw [hall]
          unfold actA
          rw [if_neg (by decide), if_pos rfl]
          exact hr
        · rw [if_neg (nI_nle (by omega) (by omega))]
          obtain ⟨n1, e1, r1⟩ := go_ok (way := v) hr b2 b4 b6 hAok (show i < N by omega) (by omega)
          rw [e1, bd_some]
          unfold X0_advance_J69
          rw [nm_eq, show nI i + 1 = nI (i + 1) from nI_1 i]
          refine ih (i + 1) fuel n1 A0 (by omega) (by omega) hA0 ?_
          rw [hall]
          unfold actA
          rw [if_neg c5, if_neg c0]
          exact r1
    show ∃ now', X0_advance_L3_B n4 (nI W) (nI H) (nI N) rules f g row (X0_advance_L3 n4 (nI W) (nI H) (nI N) rules f g row fuel) now (nI power) (nI t) (nI i) = some now' ∧ _
    unfold X0_advance_L3_B
    have q1 := hlf i (by omega)
    have q2 := hlt i (by omega)
    rw [if_neg (nI_ge (by omega) (by omega)), isLeft_ok (lf := lf) (lt := lt) (by omega) (by omega) (hf i (by omega)) (hg i (by omega)) (by omega) (by omega), bd_some]
    by_cases hl : Lf lf lt i t = true
    · rw [if_pos hl, if_neg i1n0, machinePress_ok hr b2 b4 b6 hAok (by omega), bd_some]
      refine key _ ?_ ?_
      · unfold mpA
        split
        · split
          · split <;> omega
          · split <;> omega
        · omega
      · rw [if_pos hl]
    · have hl' : Lf lf lt i t = false := by simpa using hl
      rw [if_neg hl, if_pos (rfl : (0 : Int32) = 0), rd_nI row (by omega) hn4', hrow i (by omega) hl']
      refine key _ (hpr i (by omega) hl') ?_
      rw [if_neg hl]
theorem advance_ok {W H N power spin seed t : Nat} {rules f g row now : Nat → Int32} {lf lt press A : Nat → Nat} {n4 : Nat} (hb : bnd W H N) (hn4 : N ≤ n4) (hn4' : n4 < 2 ^ 31) (h1 : rules 1 = nI spin) (h2 : rules 2 = nI seed) (hs : spin ≤ 9) (hd : seed ≤ 999) (ht : t < 100) (hpw : power < 100)
    (hf : ∀ a, a < N → f a = nI (lf a)) (hg : ∀ a, a < N → g a = nI (lt a)) (hlf : ∀ a, a < N → lf a ≤ 100) (hlt : ∀ a, a < N → lt a ≤ 100) (hrow : ∀ a, a < N → Lf lf lt a t = false → row a = nI (press a)) (hpr : ∀ a, a < N → Lf lf lt a t = false → press a ≤ 5) (hA : okS W H N A) (hr : Rep now A) :
    ∃ now', X0_advance n4 (nI W) (nI H) (nI N) rules f g row now (nI power) (nI t) = some now' ∧ Rep now' (advA W H N power spin seed t (fun a => Lf lf lt a t) press A) := by
  have hb' := hb
  obtain ⟨b1, b2, b3, b4, b5, b6⟩ := hb'
  exact advance_L hb hn4 hn4' h1 h2 hs hd ht hpw hf hg hlf hlt hrow hpr N 0 FU now A (by omega) (FU_big (by omega)) hA hr
