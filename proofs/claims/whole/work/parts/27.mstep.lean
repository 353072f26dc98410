def whoE (A : Nat → Nat) (i : Nat) : Int32 := if (nrst A i).2.2 = true then nI (nrst A i).1 else (-9)
theorem nrst_d {W H N : Nat} {A : Nat → Nat} (hW : W ≤ 9) (hH : H ≤ 9) (hA : okS W H N A) : ∀ j, j < N → (nrst A j).2.1 < 100 := by
  intro j
  induction j with
  | zero => intro h; exact dst_lt hW hH (hA.1 0 h) hA.2
  | succ j ihj =>
    intro h
    have := ihj (by omega)
    rw [nrst]
    split
    · exact dst_lt hW hH (hA.1 (j + 1) h) hA.2
    · split
      · exact this
      · exact this
section NEAR
variable {n3 W H N : Nat} {spin seed lf lt row : Nat → Int32}
theorem near_1 {ball : Int32} {place points : Nat → Int32} {A : Nat → Nat} (hb : bnd W H N) (hA : okS W H N A) (hr : RepP W N ball place A) (fuel i : Nat) (near who : Int32) (hi : i < N) : X8_step_L141 n3 (nI W) (nI H) (nI N) spin seed lf lt row (fuel + 1) ball place points near who (nI i) = X8_step_L141 n3 (nI W) (nI H) (nI N) spin seed lf lt row fuel ball place points (if near ≤ nI (dst (A i) (A 6)) then near else nI (dst (A i) (A 6))) (if near ≤ nI (dst (A i) (A 6)) then (if nI (dst (A i) (A 6)) = near then (-9) else who) else nI i) (nI (i + 1)) := by
  obtain ⟨b1, b2, b3, b4, b5, b6⟩ := hb
  have hpa := hA.1 i hi
  have hp6 := hA.2
  have l1 := cl_lt b2 b4 hpa
  have l6 := cl_lt b2 b4 hp6
  have m1 := okp_lt b2 b4 hpa
  have m6 := okp_lt b2 b4 hp6
  have hw0 : ¬ nI W = 0 := nI_ne0 (by omega) (by omega)
  have ed : nI (adif (A 6 % 16) (A i % 16)) + nI (adif (A 6 / 16) (A i / 16)) = nI (dst (A i) (A 6)) := by
    rw [nI_add, adif_comm (A 6 % 16), adif_comm (A 6 / 16)]
    rfl
  show X8_step_L141_B n3 (nI W) (nI H) (nI N) spin seed lf lt row (X8_step_L141 n3 (nI W) (nI H) (nI N) spin seed lf lt row fuel) ball place points near who (nI i) = _
  unfold X8_step_L141_B
  rw [if_neg (nI_ge hi (by omega)), dvI_ne hw0, rd_nI place (by omega) (by decide), dvI_ne hw0, hr.1, hr.2.1 i hi]
  rw [pk_rem (by omega) (by omega) (by omega), pk_rem (by omega) (by omega) (by omega), cl_mod hp6.1, cl_mod hpa.1, size_sub (by omega) (by omega), bd_some]
  rw [dvI_ne hw0, rd_nI place (by omega) (by decide), dvI_ne hw0, hr.2.1 i hi, pk_div (by omega) (by omega) (by omega), pk_div (by omega) (by omega) (by omega), cl_div hp6.1, cl_div hpa.1, size_sub (by omega) (by omega), bd_some, nm_eq, ed]
  unfold X8_step_J229 X8_step_J245
  simp only [nm_eq, show nI i + 1 = nI (i + 1) from nI_1 i]
  by_cases c : near ≤ nI (dst (A i) (A 6))
  · simp only [if_pos c]
    by_cases c2 : nI (dst (A i) (A 6)) = near
    · simp only [if_pos c2]
    · simp only [if_neg c2]
  · simp only [if_neg c]
theorem near_L {ball : Int32} {place points : Nat → Int32} {A : Nat → Nat} (hb : bnd W H N) (hA : okS W H N A) (hr : RepP W N ball place A) (hpt : ∀ a, a < 6 → points a = nI (A (7 + a))) : ∀ (d i fuel : Nat), i + 1 + d = N → d < fuel → ∃ points', X8_step_L141 n3 (nI W) (nI H) (nI N) spin seed lf lt row fuel ball place points (nI (nrst A i).2.1) (whoE A i) (nI (i + 1)) = some (ball, place, points') ∧ ∀ a, a < 6 → points' a = nI (gpA N A (7 + a)) := by
  have hb' := hb
  obtain ⟨b1, b2, b3, b4, b5, b6⟩ := hb'
  intro d
  induction d with
  | zero =>
    intro i fuel hi hf
    obtain ⟨fuel, rfl⟩ : ∃ k, fuel = k + 1 := ⟨fuel - 1, by omega⟩
    have hl := nrst_lt A i
    show ∃ points', X8_step_L141_B n3 (nI W) (nI H) (nI N) spin seed lf lt row _ ball place points _ (whoE A i) (nI (i + 1)) = some (ball, place, points') ∧ _
    unfold X8_step_L141_B
    rw [if_pos (nI_le (by omega) (by omega))]
    unfold X8_step_J253 gpA whoE
    have ei : N - 1 = i := by omega
    rw [ei]
    by_cases h2 : (nrst A i).2.2 = true
    · rw [if_pos h2, if_pos h2, if_neg (nI_n9 (by omega)), rd_nI points (by omega) (by decide), wrI_nI points (by omega) (by decide), hpt _ (by omega), show nI (A (7 + (nrst A i).1)) + 1 = nI (A (7 + (nrst A i).1) + 1) from nI_1 _]
      refine ⟨_, rfl, fun a ha => ?_⟩
      by_cases e : a = (nrst A i).1
      · subst e
        rw [pk_us, upN_s]
      · rw [pk_un e, upN_n _ _ (by omega)]
        exact hpt a ha
    · rw [if_neg h2, if_neg h2, if_pos rfl]
      exact ⟨points, rfl, hpt⟩
  | succ d ih =>
    intro i fuel hi hf
    obtain ⟨fuel, rfl⟩ : ∃ k, fuel = k + 1 := ⟨fuel - 1, by omega⟩
    have kd := dst_lt b2 b4 (hA.1 (i + 1) (by omega)) hA.2
    have kn := nrst_d b2 b4 hA i (by omega)
    rw [near_1 hb hA hr fuel (i + 1) _ _ (by omega)]
    obtain ⟨points', e, hp'⟩ := ih (i + 1) fuel (by omega) (by omega)
    refine ⟨points', ?_, hp'⟩
    rw [← e]
    by_cases h1 : dst (A (i + 1)) (A 6) < (nrst A i).2.1
    · have en : nrst A (i + 1) = (i + 1, dst (A (i + 1)) (A 6), true) := by rw [nrst, if_pos h1]
      rw [if_neg (nI_ge h1 (by omega)), if_neg (nI_ge h1 (by omega))]
      unfold whoE
      rw [en]
      rfl
    · rw [if_pos (nI_le (by omega) (by omega)), if_pos (nI_le (by omega) (by omega))]
      by_cases h2 : dst (A (i + 1)) (A 6) = (nrst A i).2.1
      · have en : nrst A (i + 1) = ((nrst A i).1, (nrst A i).2.1, false) := by rw [nrst, if_neg h1, if_pos h2]
        rw [if_pos (by rw [h2])]
        unfold whoE
        rw [en]
        rfl
      · have en : nrst A (i + 1) = nrst A i := by rw [nrst, if_neg h1, if_neg h2]
        rw [if_neg (fun e => h2 (nI_inj (by omega) (by omega) e)), en]
        unfold whoE
        rw [en]
theorem J130_ok {ball : Int32} {place points : Nat → Int32} {A : Nat → Nat} (hb : bnd W H N) (hA : okS W H N A) (hr : RepP W N ball place A) (hpt : ∀ a, a < 6 → points a = nI (A (7 + a))) : ∃ points', X8_step_J130 n3 (nI W) (nI H) (nI N) spin seed lf lt row ball place points = some (ball, place, points') ∧ ∀ a, a < 6 → points' a = nI (gpA N A (7 + a)) := by
  have hb' := hb
  obtain ⟨b1, b2, b3, b4, b5, b6⟩ := hb'
  unfold X8_step_J130
  show ∃ points', X8_step_L141 n3 (nI W) (nI H) (nI N) spin seed lf lt row (4095 + 1) ball place points (nI 1000000000) (-9) (nI 0) = _ ∧ _
  have kd := dst_lt b2 b4 (hA.1 0 (by omega)) hA.2
  rw [near_1 hb hA hr 4095 0 _ _ (by omega), if_neg (nI_ge (by omega) (by omega)), if_neg (nI_ge (by omega) (by omega))]
  exact near_L hb hA hr hpt (N - 1) 0 4095 (by omega) (by omega)
end NEAR
theorem gpA_lo {N : Nat} {A : Nat → Nat} {k : Nat} (hk : k < 7) : gpA N A k = A k := by
  unfold gpA
  split
  · exact upN_n _ _ (by omega)
  · rfl
theorem RepP.gp {W N : Nat} {ball : Int32} {place : Nat → Int32} {A : Nat → Nat} (hN : N ≤ 6) (h : RepP W N ball place A) : RepP W N ball place (gpA N A) := ⟨by rw [gpA_lo (by omega)]; exact h.1, fun a ha => by rw [gpA_lo (by omega)]; exact h.2.1 a ha, h.2.2⟩
theorem mbA_hi {W H N : Nat} {A : Nat → Nat} {way k : Nat} (hk : 7 ≤ k) : mbA W H N A way k = A k := by
  unfold mbA
  split
  · exact upN_n _ _ (by omega)
  · rfl
theorem kickN_hi {W H N way : Nat} {k : Nat} (hk : 7 ≤ k) : ∀ (d : Nat) (A : Nat → Nat), kickN W H N way d A k = A k
  | 0, _ => rfl
  | d + 1, A => by
    rw [kickN]
    split
    · rw [kickN_hi hk d, upN_n _ _ (by omega)]
    · rfl
theorem actA_hi {W H N : Nat} {A : Nat → Nat} {a v power k : Nat} (ha : a < 6) (hk : 7 ≤ k) : actA W H N A a v power k = A k := by
  unfold actA
  split
  · unfold kickA
    split
    · rfl
    · exact kickN_hi hk _ _
  · split
    · rfl
    · unfold goA
      split
      · split
        · split
          · rw [upN_n _ _ (by omega), upN_n _ _ (by omega)]
          · rfl
        · rw [upN_n _ _ (by omega)]
      · rfl
theorem allA_hi {W H N power : Nat} {left : Nat → Bool} {press A : Nat → Nat} {k : Nat} (hk : 7 ≤ k) : ∀ a, a ≤ 6 → allA W H N power left press a A k = A k
  | 0, _ => rfl
  | a + 1, ha => by
    rw [allA, actA_hi (by omega) hk]
    exact allA_hi hk a (by omega)
theorem mLeft_ok {f g : Nat → Int32} {P a t lfa lta : Nat} (hP : P ≤ 4) (ha : a < 6) (ht : t < 2 ^ 31) (h1 : f (6 * P + a) = nI lfa) (h2 : g (6 * P + a) = nI lta) (k1 : lfa < 2 ^ 31) (k2 : lta < 2 ^ 31) : X8_isLeft f g (nI P) (nI a) (nI t) = some (if lfa ≤ t ∧ t < lta then 1 else 0) := by
  unfold X8_isLeft
  have e : (6 : Int32) * nI P + nI a = nI (6 * P + a) := by
    show nI 6 * nI P + nI a = _
    rw [pk_mul, nI_add]
  rw [zb_0, zb_1, e, rd_nI f (by omega) (by decide), rd_nI g (by omega) (by decide), h1, h2]
  by_cases c1 : lfa ≤ t
  · rw [if_neg (nI_nlt c1 ht)]
    by_cases c2 : t < lta
    · rw [if_neg (nI_ge c2 k2), if_pos ⟨c1, c2⟩]
    · rw [if_pos (nI_le (by omega) ht), if_neg (fun h => c2 h.2)]
  · rw [if_pos (nI_lt (by omega) k1), if_neg (fun h => c1 h.1)]
theorem mstep_L {n3 W H N P F t power spn sd : Nat} {spin seed f g row : Nat → Int32} {lf lt press : Nat → Nat} (hb : bnd W H N) (hP : P ≤ 4) (hs : spin P = nI spn) (hs9 : spn ≤ 9) (hd : seed P = nI sd) (hd9 : sd ≤ 999) (ht : t < 100) (hpw : power < 100) (hn3 : n3 < 2 ^ 31) (hF : F + 100 * N ≤ n3)
    (hf : ∀ a, a < N → f (6 * P + a) = nI (lf a)) (hg : ∀ a, a < N → g (6 * P + a) = nI (lt a)) (hlf : ∀ a, a < N → lf a ≤ 100) (hlt : ∀ a, a < N → lt a ≤ 100) (hrow : ∀ a, a < N → Lf lf lt a t = false → row (F + 100 * a + t) = nI (press a)) (hpr : ∀ a, a < N → Lf lf lt a t = false → press a ≤ 5) :
    ∀ (d i fuel : Nat) (ball : Int32) (place points : Nat → Int32) (A0 : Nat → Nat), i + d = N → d < fuel → okS W H N A0 → RepP W N ball place (allA W H N power (fun a => Lf lf lt a t) press i A0) → (∀ a, a < 6 → points a = nI (A0 (7 + a))) →
      ∃ ball' place' points', X8_step_L3 n3 (nI W) (nI H) (nI N) spin seed f g row fuel ball place points (nI P) (nI t) (nI F) (nI power) (nI i) = some (ball', place', points') ∧ RepP W N ball' place' (advA W H N power spn sd t (fun a => Lf lf lt a t) press A0) ∧ ∀ a, a < 6 → points' a = nI (advA W H N power spn sd t (fun a => Lf lf lt a t) press A0 (7 + a)) := by
  have hb' := hb
  obtain ⟨b1, b2, b3, b4, b5, b6⟩ := hb'
  intro d
  induction d with
  | zero =>
    intro i fuel ball place points A0 hi hfu hA0 hr hpt
    obtain ⟨fuel, rfl⟩ : ∃ k, fuel = k + 1 := ⟨fuel - 1, by omega⟩
    have ei : i = N := by omega
    subst ei
    show ∃ ball' place' points', X8_step_L3_B n3 (nI W) (nI H) (nI i) spin seed f g row _ ball place points (nI P) (nI t) (nI F) (nI power) (nI i) = _ ∧ _
    unfold X8_step_L3_B
    rw [if_pos (nI_le (by omega) (by omega))]
    have hAok := allA_ok (power := power) (left := fun a => Lf lf lt a t) (press := press) b2 b4 b6 hA0 i (Nat.le_refl i)
    have hpt1 : ∀ a, a < 6 → points a = nI (allA W H i power (fun a => Lf lf lt a t) press i A0 (7 + a)) := fun a ha => by rw [allA_hi (by omega) i b6]; exact hpt a ha
    unfold X8_step_J58
    rw [rd_nI spin (by omega) (by decide), hs]
    unfold advA spA
    by_cases h0 : spn = 0
    · subst h0
      rw [if_pos (show nI 0 ≤ 0 by decide), if_neg (by omega)]
      obtain ⟨pt', e, hp'⟩ := J130_ok (n3 := n3) (spin := spin) (seed := seed) (lf := f) (lt := g) (row := row) hb hAok hr hpt1
      exact ⟨ball, place, pt', e, hr.gp b6, hp'⟩
    · rw [if_neg (nI_nle (by omega) (by omega)), rd_nI spin (by omega) (by decide), hs, dvI_ne (nI_ne0 (by omega) (by omega)), show nI t + 1 = nI (t + 1) from nI_1 t, pk_rem (by omega) (by omega) (by omega)]
      by_cases h3 : (t + 1) % spn = 0
      · rw [h3, if_pos nI_0, if_pos ⟨by omega, rfl⟩, rd_nI seed (by omega) (by decide), hd, dvI_ne (by decide)]
        have e1 : (31 : Int32) * nI sd + 17 * nI t = nI (31 * sd + 17 * t) := by
          show nI 31 * nI sd + nI 17 * nI t = _
          rw [pk_mul, pk_mul, nI_add]
        have e2 : (31 * nI sd + 17 * nI t - (31 * nI sd + 17 * nI t) / 4 * 4 + 1 : Int32) = nI ((31 * sd + 17 * t) % 4 + 1) := by
          rw [e1]
          show nI (31 * sd + 17 * t) - nI (31 * sd + 17 * t) / nI 4 * nI 4 + nI 1 = _
          rw [pk_rem (by omega) (by omega) (by omega), nI_add]
        have hw : 1 ≤ (31 * sd + 17 * t) % 4 + 1 ∧ (31 * sd + 17 * t) % 4 + 1 ≤ 4 := by omega
        have hmb := mbA_ok (way := (31 * sd + 17 * t) % 4 + 1) b2 b4 b6 hAok
        rw [e2, hr.1, by_ok b1 b2 b3 b4 hAok.2 hw, bd_some, mFree_ok b2 b4 b6 hAok.1 (nx_cases b2 b4 hAok.2) hr.2.1, bd_some, ← hr.1]
        have key : ∀ ball2 : Int32, RepP W i ball2 place (mbA W H i (allA W H i power (fun a => Lf lf lt a t) press i A0) ((31 * sd + 17 * t) % 4 + 1)) → ∃ ball' place' points', X8_step_J127 n3 (nI W) (nI H) (nI i) spin seed f g row ball place points ball2 = some (ball', place', points') ∧ RepP W i ball' place' (gpA i (mbA W H i (allA W H i power (fun a => Lf lf lt a t) press i A0) ((31 * sd + 17 * t) % 4 + 1))) ∧ ∀ a, a < 6 → points' a = nI (gpA i (mbA W H i (allA W H i power (fun a => Lf lf lt a t) press i A0) ((31 * sd + 17 * t) % 4 + 1)) (7 + a)) := by
          intro ball2 hr2
          unfold X8_step_J127
          obtain ⟨pt', e, hp'⟩ := J130_ok (n3 := n3) (spin := spin) (seed := seed) (lf := f) (lt := g) (row := row) hb hmb hr2 (points := points) (fun a ha => by rw [mbA_hi (by omega)]; exact hpt1 a ha)
          exact ⟨ball2, place, pt', e, hr2.gp b6, hp'⟩
        by_cases hfr : fr (allA W H i power (fun a => Lf lf lt a t) press i A0) i (nx W H (allA W H i power (fun a => Lf lf lt a t) press i A0 6) ((31 * sd + 17 * t) % 4 + 1)) = true
        · have hok := (fr_ok b2 b4 hAok.2 hfr).1
          have l := okp_lt b2 b4 hok
          rw [if_pos hfr, if_neg i1n0, mE_n (by omega)]
          refine key _ ?_
          unfold mbA
          rw [if_pos hfr]
          exact hr.up6 b6 _
        · rw [if_neg hfr, if_pos rfl]
          refine key _ ?_
          unfold mbA
          rw [if_neg hfr]
          exact hr
      · have h4 : (t + 1) % spn < spn := Nat.mod_lt _ (by omega)
        rw [if_neg (nI_ne0 (by omega) (by omega)), if_neg (fun h => h3 h.2)]
        obtain ⟨pt', e, hp'⟩ := J130_ok (n3 := n3) (spin := spin) (seed := seed) (lf := f) (lt := g) (row := row) hb hAok hr hpt1
        exact ⟨ball, place, pt', e, hr.gp b6, hp'⟩
  | succ d ih =>
    intro i fuel ball place points A0 hi hfu hA0 hr hpt
    obtain ⟨fuel, rfl⟩ : ∃ k, fuel = k + 1 := ⟨fuel - 1, by omega⟩
    have hAok := allA_ok (power := power) (left := fun a => Lf lf lt a t) (press := press) b2 b4 b6 hA0 i (by omega)
    have key : ∀ v : Nat, v ≤ 5 → v = (if Lf lf lt i t = true then mpA W H (allA W H N power (fun a => Lf lf lt a t) press i A0) i else press i) → ∃ ball' place' points', X8_step_J47 n3 (nI W) (nI H) (nI N) spin seed f g row (X8_step_L3 n3 (nI W) (nI H) (nI N) spin seed f g row fuel) ball place points (nI P) (nI t) (nI F) (nI power) (nI i) (nI i) (nI v) = some (ball', place', points') ∧ RepP W N ball' place' (advA W H N power spn sd t (fun a => Lf lf lt a t) press A0) ∧ ∀ a, a < 6 → points' a = nI (advA W H N power spn sd t (fun a => Lf lf lt a t) press A0 (7 + a)) := by
      intro v hv ev
      obtain ⟨bl, pl, e1, r1⟩ := act_ok (a := i) hb hAok hr (show i < N by omega) hv hpw
      unfold X8_step_J47
      rw [e1, bd_some, nm_eq, show nI i + 1 = nI (i + 1) from nI_1 i]
      refine ih (i + 1) fuel bl pl points A0 (by omega) (by omega) hA0 ?_ hpt
      rw [allA, ← ev]
      exact r1
    show ∃ ball' place' points', X8_step_L3_B n3 (nI W) (nI H) (nI N) spin seed f g row (X8_step_L3 n3 (nI W) (nI H) (nI N) spin seed f g row fuel) ball place points (nI P) (nI t) (nI F) (nI power) (nI i) = _ ∧ _
    unfold X8_step_L3_B
    have q1 := hlf i (by omega)
    have q2 := hlt i (by omega)
    rw [if_neg (nI_ge (by omega) (by omega)), mLeft_ok hP (by omega) (by omega) (hf i (by omega)) (hg i (by omega)) (by omega) (by omega), bd_some]
    by_cases hl : Lf lf lt i t = true
    · have hl2 : lf i ≤ t ∧ t < lt i := by simpa [Lf] using hl
      rw [if_pos hl2, if_neg i1n0, thinks_ok hb hAok hr (by omega), bd_some]
      refine key _ ?_ ?_
      · unfold mpA
        split
        · split
          · split <;> omega
          · split <;> omega
        · omega
      · rw [if_pos hl]
    · have hl' : Lf lf lt i t = false := by simpa using hl
      have hl2 : ¬ (lf i ≤ t ∧ t < lt i) := by simpa [Lf] using hl'
      have ei : nI F + 100 * nI i + nI t = nI (F + 100 * i + t) := by
        show nI F + nI 100 * nI i + nI t = _
        rw [pk_mul, nI_add, nI_add]
      rw [if_neg hl2, if_pos (rfl : (0 : Int32) = 0), ei, rd_nI row (by omega) hn3, hrow i (by omega) hl']
      refine key _ (hpr i (by omega) hl') ?_
      rw [if_neg hl]
