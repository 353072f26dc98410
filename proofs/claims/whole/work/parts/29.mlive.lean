theorem mstart_L {W H N : Nat} {wide tall hands : Nat → Int32} (hb : bnd W H N) (bl : Int32) : ∀ (d i fuel : Nat) (place points : Nat → Int32), i + d = 6 → d < fuel → (∀ a, a < i → place a = (if a < N then nI a else (-9)) ∧ points a = nI 0) → ∃ place' points', X8_start_L32 wide tall hands fuel bl (nI W) (nI H) (nI N) place points (nI i) = some (nI (W * H - 1), nI W, nI H, nI N, place', points') ∧ ∀ a, a < 6 → place' a = (if a < N then nI a else (-9)) ∧ points' a = nI 0 := by
  obtain ⟨b1, b2, b3, b4, b5, b6⟩ := hb
  intro d
  induction d with
  | zero =>
    intro i fuel place points hi hf h
    obtain ⟨fuel, rfl⟩ : ∃ k, fuel = k + 1 := ⟨fuel - 1, by omega⟩
    have ei : i = 6 := by omega
    subst ei
    refine ⟨place, points, ?_, h⟩
    show X8_start_L32_B wide tall hands _ bl (nI W) (nI H) (nI N) place points (nI 6) = _
    unfold X8_start_L32_B
    rw [if_pos (by decide)]
    unfold X8_start_J71
    have : 3 ≤ W * H := Nat.le_trans (by omega) (Nat.mul_le_mul b1 b3)
    rw [pk_mul, show nI (W * H) - 1 = nI (W * H - 1) from pk_sub (b := 1) (by omega)]
  | succ d ih =>
    intro i fuel place points hi hf h
    obtain ⟨fuel, rfl⟩ : ∃ k, fuel = k + 1 := ⟨fuel - 1, by omega⟩
    have hs : X8_start_L32 wide tall hands (fuel + 1) bl (nI W) (nI H) (nI N) place points (nI i) = X8_start_L32 wide tall hands fuel bl (nI W) (nI H) (nI N) (upd place i (if i < N then nI i else (-9))) (upd points i (nI 0)) (nI (i + 1)) := by
      show X8_start_L32_B wide tall hands (X8_start_L32 wide tall hands fuel) bl (nI W) (nI H) (nI N) place points (nI i) = _
      unfold X8_start_L32_B
      rw [if_neg (show ¬ (6 : Int32) ≤ nI i from nI_ge (b := 6) (by omega) (by decide))]
      unfold X8_start_J57
      simp only [wrI_nI place (show i < 6 by omega) (by decide), wrI_nI points (show i < 6 by omega) (by decide), nm_eq, show nI i + 1 = nI (i + 1) from nI_1 i]
      by_cases c : i < N
      · rw [if_neg (nI_ge c (by omega)), if_pos c]
        rfl
      · rw [if_pos (nI_le (by omega) (by omega)), if_neg c]
        rfl
    rw [hs]
    refine ih (i + 1) fuel _ _ (by omega) (by omega) (fun a ha => ?_)
    by_cases e : a = i
    · subst e
      rw [pk_us, pk_us]
      exact ⟨rfl, rfl⟩
    · rw [pk_un e, pk_un e]
      exact h a (by omega)
theorem mstart_ok {W H N P : Nat} {wide tall hands : Nat → Int32} (hb : bnd W H N) (hP : P ≤ 4) (h1 : wide P = nI W) (h2 : tall P = nI H) (h3 : hands P = nI N) (bl w0 h0 n0 : Int32) (place points : Nat → Int32) : ∃ ball' place' points', X8_start wide tall hands bl w0 h0 n0 place points (nI P) = some (ball', nI W, nI H, nI N, place', points') ∧ RepP W N ball' place' (startA W H N) ∧ ∀ a, a < 6 → points' a = nI (startA W H N (7 + a)) := by
  have hb' := hb
  obtain ⟨b1, b2, b3, b4, b5, b6⟩ := hb'
  unfold X8_start
  rw [rd_nI wide (by omega) (by decide), rd_nI tall (by omega) (by decide), rd_nI hands (by omega) (by decide), h1, h2, h3]
  obtain ⟨place', points', e, hh⟩ := mstart_L (wide := wide) (tall := tall) (hands := hands) hb bl 6 0 FU place points (by omega) (FU_big (by omega)) (fun a ha => by omega)
  refine ⟨_, place', points', e, ⟨?_, fun a ha => ?_, fun a q1 q2 => ?_⟩, fun a ha => ?_⟩
  · congr 1
    unfold startA cl
    rw [if_neg (by omega), if_pos rfl]
    have e1 : (16 * (H - 1) + (W - 1)) / 16 = H - 1 := by omega
    have e2 : (16 * (H - 1) + (W - 1)) % 16 = W - 1 := by omega
    rw [e1, e2]
    have : W * H = (H - 1) * W + W := by
      have hh : H = (H - 1) + 1 := by omega
      calc W * H = W * ((H - 1) + 1) := by rw [← hh]
        _ = W * (H - 1) + W := by rw [Nat.mul_add, Nat.mul_one]
        _ = (H - 1) * W + W := by rw [Nat.mul_comm]
    omega
  · rw [(hh a (by omega)).1, if_pos ha]
    congr 1
    unfold startA cl
    rw [if_pos ha]
    have m1 : a % W < 16 := Nat.lt_of_lt_of_le (Nat.mod_lt a (by omega)) (by omega)
    have e1 : (16 * (a / W) + a % W) / 16 = a / W := by omega
    have e2 : (16 * (a / W) + a % W) % 16 = a % W := by omega
    rw [e1, e2, Nat.mul_comm]
    exact (Nat.div_add_mod a W).symm
  · rw [(hh a q2).1, if_neg (by omega)]
  · rw [(hh a ha).2]
    congr 1
    unfold startA
    rw [if_neg (by omega), if_neg (by omega)]
section LIVE
variable {wide tall hands power spin seed pressed leftFrom leftTo : Nat → Int32} {P W H N pw sp sd : Nat} {LF LT PR : Nat → Nat}
theorem mstep_P (hn : PlayN W H N pw sp sd LF LT PR) (hm : MP wide tall hands power spin seed pressed leftFrom leftTo P W H N pw sp sd LF LT PR) (hP : P ≤ 4) {n3 F pwr t : Nat} {row : Nat → Int32} {ball : Int32} {place points : Nat → Int32} {A prs : Nat → Nat} (hpw : pwr ≤ 5) (ht : t < 100) (hn3 : n3 < 2 ^ 31) (hF : F + 600 ≤ n3) (hrow : ∀ a, a < N → Lf LF LT a t = false → row (F + 100 * a + t) = nI (prs a) ∧ prs a ≤ 5) (hA : okS W H N A) (hr : RepP W N ball place A) (hpt : ∀ a, a < 6 → points a = nI (A (7 + a))) :
    ∃ ball' place' points', X8_step n3 (nI W) (nI H) (nI N) spin seed leftFrom leftTo row ball place points (nI P) (nI t) (nI F) (nI pwr) = some (ball', place', points') ∧ RepP W N ball' place' (advA W H N pwr sp sd t (fun a => Lf LF LT a t) prs A) ∧ ∀ a, a < 6 → points' a = nI (advA W H N pwr sp sd t (fun a => Lf LF LT a t) prs A (7 + a)) := by
  obtain ⟨hb, -, h1, h2, h3, -⟩ := hn
  obtain ⟨-, -, -, -, e1, e2, e3, -⟩ := hm
  have hb' := hb
  obtain ⟨b1, b2, b3, b4, b5, b6⟩ := hb'
  unfold X8_step
  exact mstep_L hb hP e1 h1 e2 h2 ht (by omega) hn3 (by omega) (fun a ha => (e3 a (by omega)).1) (fun a ha => (e3 a (by omega)).2) (fun a ha => by have := h3 a (by omega); omega) (fun a ha => by have := h3 a (by omega); omega) (fun a ha hl => (hrow a ha hl).1) (fun a ha hl => (hrow a ha hl).2) N 0 FU ball place points A (by omega) (FU_big (by omega)) hA hr hpt
theorem live_L (hn : PlayN W H N pw sp sd LF LT PR) (hm : MP wide tall hands power spin seed pressed leftFrom leftTo P W H N pw sp sd LF LT PR) (hP : P ≤ 4) {pwr t : Nat} (hpw : pwr ≤ 5) (ht : t < 100) : ∀ (d i fuel : Nat) (ball : Int32) (place points : Nat → Int32), i + d = t + 1 → d < fuel → RepP W N ball place (trj W H N pwr sp sd LF LT (prT PR) i) → (∀ a, a < 6 → points a = nI (trj W H N pwr sp sd LF LT (prT PR) i (7 + a))) →
    ∃ ball' place' points', X8_live_L8 wide tall hands spin seed pressed leftFrom leftTo fuel ball (nI W) (nI H) (nI N) place points (nI P) (nI t) (nI pwr) (nI i) = some (ball', nI W, nI H, nI N, place', points') ∧ RepP W N ball' place' (trj W H N pwr sp sd LF LT (prT PR) (t + 1)) ∧ ∀ a, a < 6 → points' a = nI (trj W H N pwr sp sd LF LT (prT PR) (t + 1) (7 + a)) := by
  have hn' := hn
  obtain ⟨hb, -, -, -, -, hPR⟩ := hn'
  have hm' := hm
  obtain ⟨-, -, -, -, -, -, -, ep⟩ := hm'
  have hb' := hb
  obtain ⟨b1, b2, b3, b4, b5, b6⟩ := hb'
  intro d
  induction d with
  | zero =>
    intro i fuel ball place points hi hf hr hpt
    obtain ⟨fuel, rfl⟩ : ∃ k, fuel = k + 1 := ⟨fuel - 1, by omega⟩
    have ei : i = t + 1 := by omega
    subst ei
    refine ⟨ball, place, points, ?_, hr, hpt⟩
    show X8_live_L8_B wide tall hands spin seed pressed leftFrom leftTo _ ball (nI W) (nI H) (nI N) place points (nI P) (nI t) (nI pwr) (nI (t + 1)) = _
    unfold X8_live_L8_B
    rw [if_pos (nI_lt (by omega) (by omega))]
  | succ d ih =>
    intro i fuel ball place points hi hf hr hpt
    obtain ⟨fuel, rfl⟩ : ∃ k, fuel = k + 1 := ⟨fuel - 1, by omega⟩
    obtain ⟨bl, pl, pt, e, r1, p1⟩ := mstep_P hn hm hP (n3 := 3000) (F := 600 * P) (pwr := pwr) (t := i) (row := pressed) (prs := prT PR i) hpw (by omega) (by decide) (by omega) (fun a ha _ => ⟨by rw [Nat.add_assoc, ep _ (by omega)]; rfl, hPR _ (by omega)⟩) (trj_ok hb i) hr hpt
    have hs : X8_live_L8 wide tall hands spin seed pressed leftFrom leftTo (fuel + 1) ball (nI W) (nI H) (nI N) place points (nI P) (nI t) (nI pwr) (nI i) = X8_live_L8 wide tall hands spin seed pressed leftFrom leftTo fuel bl (nI W) (nI H) (nI N) pl pt (nI P) (nI t) (nI pwr) (nI (i + 1)) := by
      show X8_live_L8_B wide tall hands spin seed pressed leftFrom leftTo (X8_live_L8 wide tall hands spin seed pressed leftFrom leftTo fuel) ball (nI W) (nI H) (nI N) place points (nI P) (nI t) (nI pwr) (nI i) = _
      unfold X8_live_L8_B
      rw [if_neg (nI_nlt (by omega) (by omega)), show (600 : Int32) * nI P = nI (600 * P) from pk_mul 600 P, e, bd_some, nm_eq, show nI i + 1 = nI (i + 1) from nI_1 i]
    rw [hs]
    exact ih (i + 1) fuel bl pl pt (by omega) (by omega) r1 p1
theorem live_ok (hn : PlayN W H N pw sp sd LF LT PR) (hm : MP wide tall hands power spin seed pressed leftFrom leftTo P W H N pw sp sd LF LT PR) (hP : P ≤ 4) {pwr t : Nat} (hpw : pwr ≤ 5) (ht : t < 100) (bl w0 h0 n0 : Int32) (place points : Nat → Int32) : ∃ ball' place' points', X8_live wide tall hands spin seed pressed leftFrom leftTo bl w0 h0 n0 place points (nI P) (nI t) (nI pwr) = some (ball', nI W, nI H, nI N, place', points') ∧ RepP W N ball' place' (trj W H N pwr sp sd LF LT (prT PR) (t + 1)) ∧ ∀ a, a < 6 → points' a = nI (trj W H N pwr sp sd LF LT (prT PR) (t + 1) (7 + a)) := by
  have hm' := hm
  obtain ⟨e1, e2, e3, -⟩ := hm'
  unfold X8_live
  obtain ⟨b1, p1, q1, e, r, pt⟩ := mstart_ok hn.1 hP e1 e2 e3 bl w0 h0 n0 place points
  rw [e, bd_some]
  exact live_L hn hm hP hpw ht (t + 1) 0 FU b1 p1 q1 (by omega) (FU_big (by omega)) r pt
theorem liveNow_ok (hn : PlayN W H N pw sp sd LF LT PR) (hm : MP wide tall hands power spin seed pressed leftFrom leftTo 4 W H N pw sp sd LF LT PR) {t : Nat} (ht : t < 100) (bl w0 h0 n0 : Int32) (place points : Nat → Int32) : ∃ ball' place' points', X8_liveNow wide tall hands power spin seed pressed leftFrom leftTo bl w0 h0 n0 place points (nI t) = some (ball', nI W, nI H, nI N, place', points') ∧ RepP W N ball' place' (trj W H N pw sp sd LF LT (prT PR) (t + 1)) ∧ ∀ a, a < 6 → points' a = nI (trj W H N pw sp sd LF LT (prT PR) (t + 1) (7 + a)) := by
  have hm' := hm
  obtain ⟨-, -, -, e4, -⟩ := hm'
  unfold X8_liveNow
  obtain ⟨b1, p1, q1, e, r, pt⟩ := live_ok hn hm (by decide) (pwr := pw) hn.2.1.2 ht bl w0 h0 n0 place points
  rw [rd_lit power 5 4 (by decide) (by decide), e4, show (4 : Int32) = nI 4 from rfl, e, bd_some]
  exact ⟨b1, p1, q1, rfl, r, pt⟩
end LIVE
