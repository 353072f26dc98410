section GUESS2
variable {wide tall hands power spin seed pressed leftFrom leftTo : Nat → Int32} {W H N pw sp sd si : Nat} {LF LT PR : Nat → Nat}
theorem mg_0 {sight : Int32} (hb : bnd W H N) {p b : Nat} (hbN : b < N) {place : Nat → Int32} (hpl : place b = nI (cl W p)) (hp : okp W H p) (ball : Int32) (points thn : Nat → Int32) (l1 l3 : Int32) : ∀ (d i fuel : Nat) (may : Nat → Int32), i + d = 81 → d < fuel → (∀ c, c < i → may c = if c = cl W p then 1 else 0) → ∃ may', X8_guess_L8 sight wide tall hands power spin seed pressed leftFrom leftTo fuel ball (nI W) (nI H) (nI N) place points may thn l1 (nI b) l3 (nI i) = X8_guess_J44 sight wide tall hands power spin seed pressed leftFrom leftTo ball (nI W) (nI H) (nI N) place points may' thn l1 (nI b) l3 ∧ ∀ c, c < 81 → may' c = if c = cl W p then 1 else 0 := by
  obtain ⟨b1, b2, b3, b4, b5, b6⟩ := hb
  have hcl := cl_lt b2 b4 hp
  intro d
  induction d with
  | zero =>
    intro i fuel may hi hf h
    obtain ⟨fuel, rfl⟩ : ∃ k, fuel = k + 1 := ⟨fuel - 1, by omega⟩
    refine ⟨may, ?_, fun c hc => h c (by omega)⟩
    show X8_guess_L8_B sight wide tall hands power spin seed pressed leftFrom leftTo _ ball (nI W) (nI H) (nI N) place points may thn l1 (nI b) l3 (nI i) = _
    unfold X8_guess_L8_B
    rw [if_pos (show (81 : Int32) ≤ nI i from nI_le (a := 81) (by omega) (by omega))]
  | succ d ih =>
    intro i fuel may hi hf h
    obtain ⟨fuel, rfl⟩ : ∃ k, fuel = k + 1 := ⟨fuel - 1, by omega⟩
    have hs : X8_guess_L8 sight wide tall hands power spin seed pressed leftFrom leftTo (fuel + 1) ball (nI W) (nI H) (nI N) place points may thn l1 (nI b) l3 (nI i) = X8_guess_L8 sight wide tall hands power spin seed pressed leftFrom leftTo fuel ball (nI W) (nI H) (nI N) place points (upd may i (if i = cl W p then 1 else 0)) thn l1 (nI b) l3 (nI (i + 1)) := by
      show X8_guess_L8_B sight wide tall hands power spin seed pressed leftFrom leftTo (X8_guess_L8 sight wide tall hands power spin seed pressed leftFrom leftTo fuel) ball (nI W) (nI H) (nI N) place points may thn l1 (nI b) l3 (nI i) = _
      unfold X8_guess_L8_B X8_guess_J37
      rw [if_neg (show ¬ (81 : Int32) ≤ nI i from nI_ge (b := 81) (by omega) (by decide)), rd_nI place (by omega) (by decide), hpl, wrZ_nI may (by omega) (by decide), wrZ_nI may (by omega) (by decide), nm_eq, nm_eq, nar0, nar1, show nI i + 1 = nI (i + 1) from nI_1 i]
      by_cases e : i = cl W p
      · rw [if_pos e, if_pos (by rw [e])]
      · rw [if_neg e, if_neg (fun q => e (nI_inj (by omega) (by omega) q))]
    rw [hs]
    refine ih (i + 1) fuel _ (by omega) (by omega) (fun c hc => ?_)
    by_cases e : c = i
    · subst e
      rw [pk_us]
    · rw [pk_un e]
      exact h c (by omega)
theorem mg_t (hn : PlayN W H N pw sp sd LF LT PR) (hm : MP wide tall hands power spin seed pressed leftFrom leftTo 4 W H N pw sp sd LF LT PR) (hs : si ≤ 9) {a b t : Nat} (ha : a < N) (hbN : b < N) (ht : t < 100) : ∀ (d i fuel : Nat) (ball : Int32) (place points may thn : Nat → Int32), i + d = t + 1 → d < fuel → RepP W N ball place (trj W H N pw sp sd LF LT (prT PR) i) → (∀ a, a < 6 → points a = nI (trj W H N pw sp sd LF LT (prT PR) i (7 + a))) → RM W H may (gT W H a b si (trj W H N pw sp sd LF LT (prT PR)) i) → ∃ ball' place' points' may' thn', X8_guess_L47 (nI si) wide tall hands power spin seed pressed leftFrom leftTo fuel ball (nI W) (nI H) (nI N) place points may thn (nI a) (nI b) (nI t) (nI i) = some (ball', nI W, nI H, nI N, place', points', may', thn') ∧ RM W H may' (gT W H a b si (trj W H N pw sp sd LF LT (prT PR)) (t + 1)) := by
  have hn' := hn
  obtain ⟨hb, ⟨p1, p5⟩, -, -, -, hPR⟩ := hn'
  have hm' := hm
  obtain ⟨-, -, -, e4, -, -, -, ep⟩ := hm'
  have hb' := hb
  obtain ⟨b1, b2, b3, b4, b5, b6⟩ := hb'
  have h81 : W * H ≤ 81 := Nat.mul_le_mul b2 b4
  intro d
  induction d with
  | zero =>
    intro i fuel ball place points may thn hi hf hr hpt hM
    obtain ⟨fuel, rfl⟩ : ∃ k, fuel = k + 1 := ⟨fuel - 1, by omega⟩
    have ei : i = t + 1 := by omega
    subst ei
    refine ⟨ball, place, points, may, thn, ?_, hM⟩
    show X8_guess_L47_B (nI si) wide tall hands power spin seed pressed leftFrom leftTo _ ball (nI W) (nI H) (nI N) place points may thn (nI a) (nI b) (nI t) (nI (t + 1)) = _
    unfold X8_guess_L47_B
    rw [if_pos (nI_lt (by omega) (by omega))]
  | succ d ih =>
    intro i fuel ball place points may thn hi hf hr hpt hM
    obtain ⟨fuel, rfl⟩ : ∃ k, fuel = k + 1 := ⟨fuel - 1, by omega⟩
    obtain ⟨bl, pl, pt, e, r1, q1⟩ := mstep_P hn hm (by decide) (n3 := 3000) (F := 2400) (pwr := pw) (t := i) (row := pressed) (prs := prT PR i) p5 (by omega) (by decide) (by omega) (fun a ha _ => ⟨by rw [Nat.add_assoc]; exact ep _ (by omega), hPR _ (by omega)⟩) (trj_ok hb i) hr hpt
    have hok := trj_ok (pw := pw) (sp := sp) (sd := sd) (LF := LF) (LT := LT) (prs := prT PR) hb (i + 1)
    obtain ⟨th1, g1, g2⟩ := mg_c (sight := nI si) (wide := wide) (tall := tall) (hands := hands) (power := power) (spin := spin) (seed := seed) (pressed := pressed) (leftFrom := leftFrom) (leftTo := leftTo) hb h81 hM (rec47 := X8_guess_L47 (nI si) wide tall hands power spin seed pressed leftFrom leftTo fuel) bl pl pt (nI a) (nI b) (nI t) (nI i) (W * H) 0 FU thn (by omega) (FU_big (by omega)) (fun c hc => by omega)
    obtain ⟨my1, g3, g4⟩ := mg_m (sight := nI si) (wide := wide) (tall := tall) (hands := hands) (power := power) (spin := spin) (seed := seed) (pressed := pressed) (leftFrom := leftFrom) (leftTo := leftTo) hb h81 rfl hs ha hbN hok r1 g2 (rec47 := X8_guess_L47 (nI si) wide tall hands power spin seed pressed leftFrom leftTo fuel) pt (nI t) (nI i) (W * H) 0 FU may (by omega) (FU_big (by omega)) (fun c hc => by omega)
    have hseen := isSeen_ok (si := si) b1 b2 b4 ha b6 hok (hok.1 b hbN) hs r1
    have hs1 : X8_guess_L47 (nI si) wide tall hands power spin seed pressed leftFrom leftTo (fuel + 1) ball (nI W) (nI H) (nI N) place points may thn (nI a) (nI b) (nI t) (nI i) = X8_guess_L47 (nI si) wide tall hands power spin seed pressed leftFrom leftTo fuel bl (nI W) (nI H) (nI N) pl pt my1 th1 (nI a) (nI b) (nI t) (nI (i + 1)) := by
      show X8_guess_L47_B (nI si) wide tall hands power spin seed pressed leftFrom leftTo (X8_guess_L47 (nI si) wide tall hands power spin seed pressed leftFrom leftTo fuel) ball (nI W) (nI H) (nI N) place points may thn (nI a) (nI b) (nI t) (nI i) = _
      unfold X8_guess_L47_B
      rw [if_neg (nI_nlt (by omega) (by omega)), rd_lit power 5 4 (by decide) (by decide), e4, show (4 : Int32) = nI 4 from rfl, show (2400 : Int32) = nI 2400 from rfl, e, bd_some]
      refine Eq.trans g1 ?_
      unfold X8_guess_J168
      rw [rd_nI pl (by omega) (by decide), r1.2.1 b hbN]
      refine Eq.trans (congrArg (fun z => bd z _) hseen) ?_
      rw [bd_some]
      refine Eq.trans g3 ?_
      unfold X8_guess_J260
      rw [nm_eq, show nI i + 1 = nI (i + 1) from nI_1 i]
    rw [hs1]
    exact ih (i + 1) fuel bl pl pt my1 th1 (by omega) (by omega) r1 q1 g4
theorem guess_ok (hn : PlayN W H N pw sp sd LF LT PR) (hm : MP wide tall hands power spin seed pressed leftFrom leftTo 4 W H N pw sp sd LF LT PR) (hs : si ≤ 9) {a b t : Nat} (ha : a < N) (hbN : b < N) (ht : t < 100) (ball w0 h0 n0 : Int32) (place points may thn : Nat → Int32) : ∃ ball' place' points' may' thn', X8_guess (nI si) wide tall hands power spin seed pressed leftFrom leftTo ball w0 h0 n0 place points may thn (nI a) (nI b) (nI t) = some (ball', nI W, nI H, nI N, place', points', may', thn') ∧ RM W H may' (gT W H a b si (trj W H N pw sp sd LF LT (prT PR)) (t + 1)) := by
  have hb := hn.1
  have hb' := hb
  obtain ⟨b1, b2, b3, b4, b5, b6⟩ := hb'
  have h81 : W * H ≤ 81 := Nat.mul_le_mul b2 b4
  obtain ⟨bl, pl, pt, e1, r1, q1⟩ := mstart_ok hb (by decide : 4 ≤ 4) hm.1 hm.2.1 hm.2.2.1 ball w0 h0 n0 place points
  have hok := (startA_ok hb).1 b hbN
  obtain ⟨my, e2, h2⟩ := mg_0 (sight := nI si) (wide := wide) (tall := tall) (hands := hands) (power := power) (spin := spin) (seed := seed) (pressed := pressed) (leftFrom := leftFrom) (leftTo := leftTo) hb hbN (r1.2.1 b hbN) hok bl pt thn (nI a) (nI t) 81 0 FU may (by omega) (FU_big (by omega)) (fun c hc => by omega)
  obtain ⟨bl2, pl2, pt2, my2, th2, e3, h3⟩ := mg_t hn hm hs ha hbN ht (t + 1) 0 FU bl pl pt my thn (by omega) (FU_big (by omega)) r1 q1 (fun c hc => by
    obtain ⟨s1, s2⟩ := sc_ok (W := W) (H := H) (c := c) b1 b2 hc
    rw [h2 c (by omega)]
    show _ = b01 (decide (sc W c = startA W H N b))
    by_cases e : c = cl W (startA W H N b)
    · rw [if_pos e, decide_eq_true (by rw [e]; exact sc_cl b2 hok)]
      rfl
    · rw [if_neg e, decide_eq_false (fun q => e (by rw [← q]; exact s2.symm))]
      rfl)
  refine ⟨bl2, pl2, pt2, my2, th2, ?_, h3⟩
  unfold X8_guess
  rw [show (4 : Int32) = nI 4 from rfl, e1, bd_some]
  refine Eq.trans e2 ?_
  unfold X8_guess_J44
  exact e3
end GUESS2
theorem cz_add (g : Nat → Int32) (a : Nat) : ∀ b, cz g (a + b) = cz g a + cz (fun k => g (a + k)) b
  | 0 => rfl
  | b + 1 => by
    show cz g (a + b) + (if g (a + b) = 0 then 0 else 1) = cz g a + (cz (fun k => g (a + k)) b + (if g (a + b) = 0 then 0 else 1))
    rw [cz_add g a b]
    omega
def pcw (m W : Nat) : Nat := cz (fun x => b01 (m.testBit x)) W
noncomputable def pcT (m : Nat) : Bool := decide (J6_bitCount_0f7a4 (nI m) = some (nI (pcw m 9)))
set_option maxRecDepth 100000 in
theorem pc_all : allB pcT 512 = true := by decide +kernel
theorem pc_ok {m W : Nat} (hW : W ≤ 9) (hm : m < 2 ^ W) : J6_bitCount_0f7a4 (nI m) = some (nI (pcw m W)) := by
  have h512 := pw_lt hW
  have h1 := of_decide_eq_true (allB_of 512 pc_all m (by omega))
  rw [h1]
  congr 2
  unfold pcw
  have : 9 = W + (9 - W) := by omega
  rw [this, cz_add]
  have hz : cz (fun k => b01 (m.testBit (W + k))) (9 - W) = 0 := by
    have : ∀ n, cz (fun k => b01 (m.testBit (W + k))) n = 0 := by
      intro n
      induction n with
      | zero => rfl
      | succ n ih =>
        rw [cz, ih, Nat.testBit_lt_two_pow (Nat.lt_of_lt_of_le hm (Nat.pow_le_pow_right (by decide) (by omega)))]
        rfl
    exact this _
  rw [hz, Nat.add_zero]
theorem size_L {W H : Nat} {M : Nat → Nat} {g : Nat → Bool} {masks may : Nat → Int32} (hW3 : 3 ≤ W) (hW : W ≤ 9) (hH : H ≤ 9) (h1 : ∀ y, y < H → masks y = nI (M y)) (h2 : BM W H M g) (hm : RM W H may g) : ∀ (d i fuel : Nat), i + d = H → d < fuel → X3_size_L4 masks fuel (nI H) (nI (cz may (i * W))) (nI i) = some (nI (cz may (H * W))) := by
  intro d
  induction d with
  | zero =>
    intro i fuel hi hf
    obtain ⟨fuel, rfl⟩ : ∃ k, fuel = k + 1 := ⟨fuel - 1, by omega⟩
    have ei : i = H := by omega
    subst ei
    show X3_size_L4_B masks _ _ _ _ = _
    unfold X3_size_L4_B
    rw [if_pos (nI_le (by omega) (by omega))]
  | succ d ih =>
    intro i fuel hi hf
    obtain ⟨fuel, rfl⟩ : ∃ k, fuel = k + 1 := ⟨fuel - 1, by omega⟩
    show X3_size_L4_B masks (X3_size_L4 masks fuel) _ _ _ = _
    unfold X3_size_L4_B
    obtain ⟨m1, m2⟩ := h2 i (by omega)
    rw [if_neg (nI_ge (by omega) (by omega)), rd_nI masks (by omega) (by decide), h1 i (by omega), pc_ok hW m1, bd_some, nm_eq, nm_eq, nI_add, show nI i + 1 = nI (i + 1) from nI_1 i]
    have hrow : cz may (i * W) + pcw (M i) W = cz may ((i + 1) * W) := by
      rw [Nat.add_mul, Nat.one_mul, cz_add]
      congr 1
      unfold pcw
      refine cz_congr _ (fun x hx => ?_)
      have hlt : i * W + x < W * H := by
        have : (i + 1) * W ≤ H * W := Nat.mul_le_mul_right W (by omega)
        rw [Nat.add_mul, Nat.one_mul] at this
        rw [Nat.mul_comm W H]
        omega
      have hsc : sc W (i * W + x) = 16 * i + x := by
        unfold sc
        rw [Nat.mul_comm i W, Nat.mul_add_div (by omega), Nat.mul_add_mod, Nat.div_eq_of_lt hx, Nat.mod_eq_of_lt hx, Nat.add_zero]
      rw [hm _ hlt, hsc, m2 x hx]
    rw [hrow]
    exact ih (i + 1) fuel (by omega) (by omega)
theorem mcould_L {sight : Int32} {wide tall hands power spin seed pressed leftFrom leftTo : Nat → Int32} {W H N : Nat} (h81 : W * H ≤ 81) {may : Nat → Int32} (th ball : Int32) (place points thn : Nat → Int32) : ∀ (d i fuel : Nat), i + d = W * H → d < fuel → ∃ om, X8_could_L43 sight wide tall hands power spin seed pressed leftFrom leftTo fuel th ball (nI W) (nI H) (nI N) place points may thn (nI (cz may i)) (nI i) = some om ∧ om.1 = nI (cz may (W * H)) := by
  intro d
  induction d with
  | zero =>
    intro i fuel hi hf
    obtain ⟨fuel, rfl⟩ : ∃ k, fuel = k + 1 := ⟨fuel - 1, by omega⟩
    have ei : i = W * H := by omega
    subst ei
    show ∃ om, X8_could_L43_B sight wide tall hands power spin seed pressed leftFrom leftTo _ th ball (nI W) (nI H) (nI N) place points may thn _ _ = some om ∧ _
    unfold X8_could_L43_B
    rw [pk_mul, if_pos (nI_le (by omega) (by omega))]
    exact ⟨_, rfl, rfl⟩
  | succ d ih =>
    intro i fuel hi hf
    obtain ⟨fuel, rfl⟩ : ∃ k, fuel = k + 1 := ⟨fuel - 1, by omega⟩
    show ∃ om, X8_could_L43_B sight wide tall hands power spin seed pressed leftFrom leftTo (X8_could_L43 sight wide tall hands power spin seed pressed leftFrom leftTo fuel) th ball (nI W) (nI H) (nI N) place points may thn _ _ = some om ∧ _
    unfold X8_could_L43_B X8_could_J74
    have h := ih (i + 1) fuel (by omega) (by omega)
    rw [cz] at h
    rw [pk_mul, if_neg (nI_ge (by omega) (by omega)), rd_nI may (by omega) (by decide)]
    simp only [nm_eq]
    rw [show nI i + 1 = nI (i + 1) from nI_1 i]
    by_cases c : may i = 0
    · rw [if_pos c, show nI (cz may i) + 0 = nI (cz may i + 0) from nI_add _ 0]
      rw [if_pos c] at h
      exact h
    · rw [if_neg c, show nI (cz may i) + 1 = nI (cz may i + 1) from nI_1 _]
      rw [if_neg c] at h
      exact h
section OPS19
variable {w h n ready : Int32} {ru pr lf lt rows wide tall hands power spin seed pressed leftFrom leftTo : Nat → Int32} {delay feel turn sight : Int32}
theorem op_could (hI : InvP w h n ready ru pr lf lt rows wide tall hands power spin seed pressed leftFrom leftTo) (hQ : InvR ru delay feel turn sight) (now ps masks : Nat → Int32) (th ball w0 h0 n0 : Int32) (place points may thn : Nat → Int32) (p1 p2 p3 : Int32) : ∃ oc om, X7_could w h n ru pr lf lt ready rows now ps masks p1 p2 p3 = some oc ∧ X8_could sight wide tall hands power spin seed pressed leftFrom leftTo th ball w0 h0 n0 place points may thn p1 p2 p3 = some om ∧ oc.1 = om.1 ∧ InvP w h n oc.2.1 ru pr lf lt oc.2.2.1 wide tall hands power spin seed pressed leftFrom leftTo := by
  have hI0 := hI
  obtain ⟨W, H, N, pw, sp, sd, R, LF, LT, PR, hn, hc, hm, eR, hR, hT⟩ := hI
  have hb := hn.1
  have hb' := hb
  obtain ⟨b1, b2, b3, b4, b5, b6⟩ := hb'
  have h81 : W * H ≤ 81 := Nat.mul_le_mul b2 b4
  have e4 : hands 4 = nI N := hm.2.2.1
  have en : n = nI N := hc.2.2.1
  obtain ⟨D, fe, tu, si, -, -, -, s1, s2, s3⟩ := hQ
  unfold X7_could X8_could
  rcases hand_cases (N := N) (hands := hands) (by omega) e4 (by omega) p1 with ⟨t1, t2⟩ | ⟨a, ha, rfl, t1, t2⟩
  · rw [en, t1, t2, bd_some, bd_some, if_pos rfl, if_neg i1n0]
    exact ⟨_, _, rfl, rfl, rfl, by rw [← en]; exact hI0⟩
  · rw [en, t1, t2, bd_some, bd_some, if_neg i1n0, if_pos rfl]
    rcases hand_cases (N := N) (hands := hands) (by omega) e4 (by omega) p2 with ⟨q1, q2⟩ | ⟨b, hbN, rfl, q1, q2⟩
    · rw [q1, q2, bd_some, bd_some, if_pos rfl, if_neg i1n0]
      exact ⟨_, _, rfl, rfl, rfl, by rw [← en]; exact hI0⟩
    · rw [q1, q2, bd_some, bd_some, if_neg i1n0, if_pos rfl]
      rcases tick_cases p3 with ⟨u1, u2⟩ | ⟨t, ht, rfl, u1, u2⟩
      · rw [u1, u2, bd_some, bd_some, if_pos rfl, if_neg i1n0]
        exact ⟨_, _, rfl, rfl, rfl, by rw [← en]; exact hI0⟩
      · rw [u1, u2, bd_some, bd_some, if_neg i1n0, if_pos rfl, ← en, eR, s2]
        obtain ⟨R', rows', now', ps', e1, h1, h2, h3⟩ := playTruly_ok hn hc ht hR rows now ps hT
        obtain ⟨now2, mk, e2, M, k1, k2⟩ := think_ok (A := trj W H N pw sp sd LF LT (prT PR)) (rows := rows') hb ha hbN ht (fun i => trj_ok hb i) s1 s3 rfl (fun j hj => h3 j (by omega)) now' masks
        obtain ⟨bl, pl, pt, my, th2, e3, k3⟩ := guess_ok hn hm s3 ha hbN ht ball w0 h0 n0 place points may thn
        obtain ⟨om, o1, o2⟩ := mcould_L (sight := nI si) (wide := wide) (tall := tall) (hands := hands) (power := power) (spin := spin) (seed := seed) (pressed := pressed) (leftFrom := leftFrom) (leftTo := leftTo) (W := W) (H := H) (N := N) h81 (may := my) 0 bl pl pt th2 (W * H) 0 FU (by omega) (FU_big (by omega))
        have hsz : X3_size mk h = some (nI (cz my (H * W))) := by
          rw [hc.2.1]
          have := size_L b1 b2 b4 k1 k2 k3 H 0 FU (by omega) (FU_big (by omega))
          rw [Nat.zero_mul] at this
          exact this
        have e2' : X7_thinkTo w h n ru rows' now' masks (nI a) (nI b) (nI t) = some (now2, mk) := by
          rw [hc.1, hc.2.1, en]
          exact e2
        rw [e1, bd_some, e3, bd_some]
        show ∃ oc om, (bd (X7_thinkTo w h n ru rows' now' masks (nI a) (nI b) (nI t)) fun r34 => bd (X3_size r34.2 h) fun r48 => some (r48, nI R', rows', r34.1, ps', r34.2)) = some oc ∧ X8_could_L43 (nI si) wide tall hands power spin seed pressed leftFrom leftTo FU 0 bl (nI W) (nI H) (nI N) pl pt my th2 0 0 = some om ∧ _
        rw [e2', bd_some]
        show ∃ oc om, (bd (X3_size mk h) fun r48 => some (r48, nI R', rows', now2, ps', mk)) = some oc ∧ _
        rw [hsz, bd_some]
        refine ⟨_, om, rfl, o1, ?_, W, H, N, pw, sp, sd, R', LF, LT, PR, hn, hc, hm, rfl, h2, h3⟩
        rw [o2, Nat.mul_comm]
theorem op_couldBe (hI : InvP w h n ready ru pr lf lt rows wide tall hands power spin seed pressed leftFrom leftTo) (hQ : InvR ru delay feel turn sight) (now ps masks : Nat → Int32) (th ball w0 h0 n0 : Int32) (place points may thn : Nat → Int32) (p1 p2 p3 p4 : Int32) : ∃ oc om, X7_couldBe w h n ru pr lf lt ready rows now ps masks p1 p2 p3 p4 = some oc ∧ X8_couldBe sight wide tall hands power spin seed pressed leftFrom leftTo th ball w0 h0 n0 place points may thn p1 p2 p3 p4 = some om ∧ oc.1 = om.1 ∧ InvP w h n oc.2.1 ru pr lf lt oc.2.2.1 wide tall hands power spin seed pressed leftFrom leftTo := by
  have hI0 := hI
  obtain ⟨W, H, N, pw, sp, sd, R, LF, LT, PR, hn, hc, hm, eR, hR, hT⟩ := hI
  have hb := hn.1
  have hb' := hb
  obtain ⟨b1, b2, b3, b4, b5, b6⟩ := hb'
  have h81 : W * H ≤ 81 := Nat.mul_le_mul b2 b4
  have h9 : 9 ≤ W * H := Nat.mul_le_mul b1 b3
  have e4 : hands 4 = nI N := hm.2.2.1
  have en : n = nI N := hc.2.2.1
  obtain ⟨D, fe, tu, si, -, -, -, s1, s2, s3⟩ := hQ
  unfold X7_couldBe X8_couldBe
  rcases hand_cases (N := N) (hands := hands) (by omega) e4 (by omega) p1 with ⟨t1, t2⟩ | ⟨a, ha, rfl, t1, t2⟩
  · rw [en, t1, t2, bd_some, bd_some, if_pos rfl, if_neg i1n0]
    exact ⟨_, _, rfl, rfl, rfl, by rw [← en]; exact hI0⟩
  · rw [en, t1, t2, bd_some, bd_some, if_neg i1n0, if_pos rfl]
    rcases hand_cases (N := N) (hands := hands) (by omega) e4 (by omega) p2 with ⟨q1, q2⟩ | ⟨b, hbN, rfl, q1, q2⟩
    · rw [q1, q2, bd_some, bd_some, if_pos rfl, if_neg i1n0]
      exact ⟨_, _, rfl, rfl, rfl, by rw [← en]; exact hI0⟩
    · rw [q1, q2, bd_some, bd_some, if_neg i1n0, if_pos rfl]
      rcases tick_cases p3 with ⟨u1, u2⟩ | ⟨t, ht, rfl, u1, u2⟩
      · rw [u1, u2, bd_some, bd_some, if_pos rfl, if_neg i1n0]
        exact ⟨_, _, rfl, rfl, rfl, by rw [← en]; exact hI0⟩
      · rw [u1, u2, bd_some, bd_some, if_neg i1n0, if_pos rfl, ← en, eR, s2, rd_lit wide 5 4 (by decide) (by decide), rd_lit tall 5 4 (by decide) (by decide), hm.1, hm.2.1, pk_mul, show nI (W * H) - 1 = nI (W * H - 1) from pk_sub (b := 1) (by omega)]
        have u0 : (0 : Int64).toInt = 0 := rfl
        have uWH : (Int32.toInt64 (nI (W * H - 1))).toInt = ((W * H - 1 : Nat) : Int) := by rw [t64, nI_toInt (by omega)]
        have ewh : w * h = nI (W * H) := by rw [hc.1, hc.2.1, pk_mul]
        have vWH : (nI (W * H)).toInt = ((W * H : Nat) : Int) := nI_toInt (by omega)
        rw [ewh]
        by_cases c : 0 ≤ p4.toInt ∧ p4.toInt < (W * H : Nat)
        · obtain ⟨k, ek, ek2, -⟩ := ofI c.1
          rw [in_yes (x := p4) (by omega) (by omega), bd_some, if_neg i1n0, if_neg (show ¬ p4 < 0 by rw [lt0I]; omega), if_pos (show p4 < nI (W * H) by rw [ltI]; omega)]
          obtain ⟨R', rows', now', ps', e1, h1, h2, h3⟩ := playTruly_ok hn hc ht hR rows now ps hT
          obtain ⟨now2, mk, e2, M, k1, k2⟩ := think_ok (A := trj W H N pw sp sd LF LT (prT PR)) (rows := rows') hb ha hbN ht (fun i => trj_ok hb i) s1 s3 rfl (fun j hj => h3 j (by omega)) now' masks
          obtain ⟨bl, pl, pt, my, th2, e3, k3⟩ := guess_ok hn hm s3 ha hbN ht ball w0 h0 n0 place points may thn
          have e2' : X7_thinkTo w h n ru rows' now' masks (nI a) (nI b) (nI t) = some (now2, mk) := by
            rw [hc.1, hc.2.1, en]
            exact e2
          have hkc : k < W * H := by omega
          obtain ⟨z1, z2⟩ := sc_ok (W := W) (H := H) (c := k) b1 b2 hkc
          have hsp : X7_spotOf p4 w = some (nI (sc W k)) := by
            rw [ek, hc.1]
            exact spotOf_ok b1 b2 (by
              have : W * H ≤ W * 10 := Nat.mul_le_mul_left W (by omega)
              omega)
          have hlt := okp_lt b2 b4 z1
          have hz := z1
          unfold okp at hz
          obtain ⟨m1, m2⟩ := k2 (sc W k / 16) hz.2
          have h512 := pw_lt b2
          have hhas : X3_has mk (nI (sc W k)) = some (b01 (gT W H a b si (trj W H N pw sp sd LF LT (prT PR)) (t + 1) (sc W k))) := by
            unfold X3_has
            rw [yOf_nI (by omega), bd_some, rd_nI mk (by omega) (by decide), xOf_nI (by omega), bd_some, k1 _ hz.2, bit_ok (by omega) (by omega), m2 _ hz.1, show 16 * (sc W k / 16) + sc W k % 16 = sc W k by omega, zb_0, zb_1]
            cases gT W H a b si (trj W H N pw sp sd LF LT (prT PR)) (t + 1) (sc W k) <;> rfl
          rw [e1, bd_some, e3, bd_some]
          show ∃ oc om, (bd (X7_thinkTo w h n ru rows' now' masks (nI a) (nI b) (nI t)) fun r59 => bd (X7_spotOf p4 w) fun r75 => bd (X3_has r59.2 r75) fun r78 => if r78 = 0 then some ((0 : Int32), nI R', rows', r59.1, ps', r59.2) else some (1, nI R', rows', r59.1, ps', r59.2)) = some oc ∧ (rd my 81 p4 fun v69 => if v69 = 0 then some ((0 : Int32), (0 : Int32), bl, nI W, nI H, nI N, pl, pt, my, th2) else some (1, 0, bl, nI W, nI H, nI N, pl, pt, my, th2)) = some om ∧ _
          rw [e2', bd_some, hsp, bd_some, hhas, bd_some, ek, rd_nI my (by omega) (by decide), k3 k hkc]
          have hfin : InvP w h n (nI R') ru pr lf lt rows' wide tall hands power spin seed pressed leftFrom leftTo := ⟨W, H, N, pw, sp, sd, R', LF, LT, PR, hn, hc, hm, rfl, h2, h3⟩
          by_cases c5 : b01 (gT W H a b si (trj W H N pw sp sd LF LT (prT PR)) (t + 1) (sc W k)) = 0
          · rw [if_pos c5, if_pos c5]
            exact ⟨_, _, rfl, rfl, rfl, hfin⟩
          · rw [if_neg c5, if_neg c5]
            exact ⟨_, _, rfl, rfl, rfl, hfin⟩
        · rw [in_no (x := p4) (by omega), bd_some, if_pos rfl]
          by_cases d : p4 < 0
          · rw [if_pos d]
            exact ⟨_, _, rfl, rfl, rfl, by rw [← eR]; exact hI0⟩
          · rw [if_neg d, if_neg (by rw [lt0I] at d; rw [ltI]; omega)]
            exact ⟨_, _, rfl, rfl, rfl, by rw [← eR]; exact hI0⟩
end OPS19
