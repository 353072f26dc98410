def gT (W H a b si : Nat) (A : Nat → Nat → Nat) : Nat → Nat → Bool
  | 0 => onG (A 0 b)
  | t + 1 => if dst (A (t + 1) a) (A (t + 1) b) ≤ si then onG (A (t + 1) b) else rmG W H (A (t + 1) a) si (gT W H a b si A t)
theorem think_L {W H N a b t si : Nat} {ru rows : Nat → Int32} {A : Nat → Nat → Nat} (hb : bnd W H N) (ha : a < N) (hbN : b < N) (ht : t < 100) (hA : ∀ i, okS W H N (A i)) (h6 : ru 6 = nI si) (hs : si ≤ 9) (hT : ∀ j, j < t + 1 → TR rows j (A (j + 1))) : ∀ (d i fuel : Nat) (now masks : Nat → Int32), i + d = t + 1 → d < fuel → CM W H masks (gT W H a b si A i) → ∃ masks', X7_thinkTo_L30 (nI W) (nI H) (nI N) ru rows fuel now masks (nI a) (nI b) (nI t) (nI i) = some (now, masks') ∧ CM W H masks' (gT W H a b si A (t + 1)) := by
  obtain ⟨b1, b2, b3, b4, b5, b6⟩ := hb
  intro d
  induction d with
  | zero =>
    intro i fuel now masks hi hf hm
    obtain ⟨fuel, rfl⟩ : ∃ k, fuel = k + 1 := ⟨fuel - 1, by omega⟩
    have ei : i = t + 1 := by omega
    subst ei
    refine ⟨masks, ?_, hm⟩
    show X7_thinkTo_L30_B (nI W) (nI H) (nI N) ru rows _ now masks (nI a) (nI b) (nI t) (nI (t + 1)) = _
    unfold X7_thinkTo_L30_B
    rw [if_pos (nI_lt (by omega) (by omega))]
  | succ d ih =>
    intro i fuel now masks hi hf hm
    obtain ⟨fuel, rfl⟩ : ∃ k, fuel = k + 1 := ⟨fuel - 1, by omega⟩
    have hTi := hT i (by omega)
    have hAi := hA (i + 1)
    show ∃ masks', X7_thinkTo_L30_B (nI W) (nI H) (nI N) ru rows (X7_thinkTo_L30 (nI W) (nI H) (nI N) ru rows fuel) now masks (nI a) (nI b) (nI t) (nI i) = some (now, masks') ∧ _
    unfold X7_thinkTo_L30_B X7_thinkTo_J122
    rw [if_neg (nI_nlt (by omega) (by omega)), seesThen_ok b2 b4 (by omega) ha hbN b6 hAi h6 hs hTi, bd_some, at_ok (by omega) (by omega) hTi, at_ok (by omega) (by omega) hTi, bd_some]
    simp only [nm_eq, bd_some]
    rw [show nI i + 1 = nI (i + 1) from nI_1 i]
    by_cases c : dst (A (i + 1) a) (A (i + 1) b) ≤ si
    · rw [if_pos c, if_neg i1n0]
      obtain ⟨m1, e1, h1⟩ := setOnly_ok b2 b4 (hAi.1 b hbN) masks
      rw [e1, bd_some]
      refine ih (i + 1) fuel now m1 (by omega) (by omega) ?_
      rw [gT, if_pos c]
      exact h1
    · rw [if_neg c, if_pos rfl]
      obtain ⟨m1, e1, h1⟩ := spread_ok b2 b4 hm
      obtain ⟨m2, e2, h2⟩ := remove_ok b2 b4 (hAi.1 a ha) hs h1
      rw [e1, bd_some, rd_lit ru 7 6 (by decide) (by decide), h6, e2, bd_some]
      refine ih (i + 1) fuel now m2 (by omega) (by omega) ?_
      rw [gT, if_neg c]
      exact h2
theorem think_ok {W H N a b t si : Nat} {ru rows : Nat → Int32} {A : Nat → Nat → Nat} (hb : bnd W H N) (ha : a < N) (hbN : b < N) (ht : t < 100) (hA : ∀ i, okS W H N (A i)) (h6 : ru 6 = nI si) (hs : si ≤ 9) (h0 : A 0 = startA W H N) (hT : ∀ j, j < t + 1 → TR rows j (A (j + 1))) (now masks : Nat → Int32) : ∃ now' masks', X7_thinkTo (nI W) (nI H) (nI N) ru rows now masks (nI a) (nI b) (nI t) = some (now', masks') ∧ CM W H masks' (gT W H a b si A (t + 1)) := by
  have hb' := hb
  obtain ⟨b1, b2, b3, b4, b5, b6⟩ := hb'
  unfold X7_thinkTo
  obtain ⟨n1, e1, r1⟩ := start_ok hb now
  have hok := (hA 0).1 b hbN
  obtain ⟨m1, e2, h2⟩ := setOnly_ok b2 b4 hok masks
  rw [e1, bd_some, rd_nI n1 (by omega) (by decide), r1 b (by omega), ← h0, e2, bd_some]
  obtain ⟨m2, e3, h3⟩ := think_L hb ha hbN ht hA h6 hs hT (t + 1) 0 FU n1 m1 (by omega) (FU_big (by omega)) h2
  exact ⟨n1, m2, e3, h3⟩
def sc (W c : Nat) : Nat := 16 * (c / W) + c % W
theorem sc_ok {W H c : Nat} (hW : 3 ≤ W) (hW9 : W ≤ 9) (hc : c < W * H) : okp W H (sc W c) ∧ cl W (sc W c) = c := by
  have h1 : c % W < W := Nat.mod_lt _ (by omega)
  have h2 : c / W < H := Nat.div_lt_of_lt_mul hc
  have e1 : sc W c % 16 = c % W := by
    unfold sc
    omega
  have e2 : sc W c / 16 = c / W := by
    unfold sc
    omega
  unfold okp cl
  rw [e1, e2]
  refine ⟨⟨h1, h2⟩, ?_⟩
  rw [Nat.mul_comm]
  exact Nat.div_add_mod c W
theorem sc_cl {W H p : Nat} (hW9 : W ≤ 9) (hp : okp W H p) : sc W (cl W p) = p := by
  unfold sc
  rw [cl_mod hp.1, cl_div hp.1]
  unfold okp at hp
  omega
theorem cl_lt2 {W H p : Nat} (hp : okp W H p) : cl W p < W * H := by
  unfold okp at hp
  unfold cl
  have h1 : (p / 16 + 1) * W ≤ H * W := Nat.mul_le_mul_right W hp.2
  rw [Nat.add_mul, Nat.one_mul] at h1
  rw [Nat.mul_comm W H]
  omega
def b01 (v : Bool) : Int32 := if v = true then 1 else 0
theorem b01_0 (v : Bool) : b01 v = 0 ↔ v = false := by cases v <;> decide
theorem b01_nar (v : Bool) : vp_nar .boolean (b01 v) = b01 v := by cases v <;> rfl
def RM (W H : Nat) (may : Nat → Int32) (g : Nat → Bool) : Prop := ∀ c, c < W * H → may c = b01 (g (sc W c))
section GUESS
variable {sight : Int32} {wide tall hands power spin seed pressed leftFrom leftTo : Nat → Int32} {W H N : Nat}
theorem mg_w (hb : bnd W H N) (h81 : W * H ≤ 81) {may : Nat → Int32} {g : Nat → Bool} (hm : RM W H may g) {p way : Nat} (hp : okp W H p) (hw : 1 ≤ way ∧ way ≤ 4) {rec47 rec76} (v : Bool) (fuel : Nat) (ball : Int32) (place points thn : Nat → Int32) (l1 l2 l3 l4 : Int32) : X8_guess_L102 sight wide tall hands power spin seed pressed leftFrom leftTo rec47 rec76 (fuel + 1) ball (nI W) (nI H) (nI N) place points may thn l1 l2 l3 l4 (nI (cl W p)) (b01 v) (nI way) = X8_guess_L102 sight wide tall hands power spin seed pressed leftFrom leftTo rec47 rec76 fuel ball (nI W) (nI H) (nI N) place points may thn l1 l2 l3 l4 (nI (cl W p)) (b01 (v || nb W H g p way)) (nI (way + 1)) := by
  have hb' := hb
  obtain ⟨b1, b2, b3, b4, b5, b6⟩ := hb'
  show X8_guess_L102_B sight wide tall hands power spin seed pressed leftFrom leftTo rec47 rec76 (X8_guess_L102 sight wide tall hands power spin seed pressed leftFrom leftTo rec47 rec76 fuel) ball (nI W) (nI H) (nI N) place points may thn l1 l2 l3 l4 (nI (cl W p)) (b01 v) (nI way) = _
  unfold X8_guess_L102_B X8_guess_J144 X8_guess_J140 X8_guess_J145
  simp only [nm_eq]
  rw [if_neg (show ¬ (5 : Int32) ≤ nI way from nI_ge (b := 5) (by omega) (by decide)), by_ok b1 b2 b3 b4 hp hw, bd_some, show nI way + 1 = nI (way + 1) from nI_1 way]
  cases v with
  | true =>
    rw [if_neg (by decide), Bool.true_or]
    rfl
  | false =>
    rw [if_pos (show b01 false = 0 from rfl), Bool.false_or]
    unfold nb
    rcases nx_cases (way := way) b2 b4 hp with e | hq
    · rw [e, mE_9, if_pos rfl]
      rfl
    · have hne : nx W H p way ≠ 999 := fun e => by
        have := okp_lt b2 b4 hq
        omega
      have hlt := cl_lt2 hq
      rw [mE_n hne, if_neg (nI_n9 (by omega)), rd_nI may (by omega) (by decide), hm _ hlt, sc_cl b2 hq, decide_eq_true hne, Bool.true_and]
      cases g (nx W H p way) with
      | true =>
        rw [if_neg (by decide)]
        rfl
      | false =>
        rw [if_pos (by decide)]
        rfl
theorem mg_4 (hb : bnd W H N) (h81 : W * H ≤ 81) {may : Nat → Int32} {g : Nat → Bool} (hm : RM W H may g) {p : Nat} (hp : okp W H p) {rec47 rec76} (ball : Int32) (place points thn : Nat → Int32) (l1 l2 l3 l4 : Int32) : X8_guess_L102 sight wide tall hands power spin seed pressed leftFrom leftTo rec47 rec76 FU ball (nI W) (nI H) (nI N) place points may thn l1 l2 l3 l4 (nI (cl W p)) (b01 (g p)) (nI 1) = X8_guess_J153 sight wide tall hands power spin seed pressed leftFrom leftTo rec47 rec76 ball (nI W) (nI H) (nI N) place points may thn l1 l2 l3 l4 (nI (cl W p)) (b01 (spG W H g p)) := by
  show X8_guess_L102 sight wide tall hands power spin seed pressed leftFrom leftTo rec47 rec76 (4095 + 1) ball (nI W) (nI H) (nI N) place points may thn l1 l2 l3 l4 (nI (cl W p)) (b01 (g p)) (nI 1) = _
  rw [mg_w hb h81 hm hp (by omega)]
  show X8_guess_L102 sight wide tall hands power spin seed pressed leftFrom leftTo rec47 rec76 (4094 + 1) ball (nI W) (nI H) (nI N) place points may thn l1 l2 l3 l4 (nI (cl W p)) _ (nI 2) = _
  rw [mg_w hb h81 hm hp (by omega)]
  show X8_guess_L102 sight wide tall hands power spin seed pressed leftFrom leftTo rec47 rec76 (4093 + 1) ball (nI W) (nI H) (nI N) place points may thn l1 l2 l3 l4 (nI (cl W p)) _ (nI 3) = _
  rw [mg_w hb h81 hm hp (by omega)]
  show X8_guess_L102 sight wide tall hands power spin seed pressed leftFrom leftTo rec47 rec76 (4092 + 1) ball (nI W) (nI H) (nI N) place points may thn l1 l2 l3 l4 (nI (cl W p)) _ (nI 4) = _
  rw [mg_w hb h81 hm hp (by omega)]
  show X8_guess_L102_B sight wide tall hands power spin seed pressed leftFrom leftTo rec47 rec76 _ ball (nI W) (nI H) (nI N) place points may thn l1 l2 l3 l4 (nI (cl W p)) _ (nI 5) = _
  unfold X8_guess_L102_B
  rw [if_pos (by decide)]
  rfl
theorem mg_c (hb : bnd W H N) (h81 : W * H ≤ 81) {may : Nat → Int32} {g : Nat → Bool} (hm : RM W H may g) {rec47} (ball : Int32) (place points : Nat → Int32) (l1 l2 l3 l4 : Int32) : ∀ (d i fuel : Nat) (thn : Nat → Int32), i + d = W * H → d < fuel → (∀ c, c < i → thn c = b01 (spG W H g (sc W c))) → ∃ thn', X8_guess_L76 sight wide tall hands power spin seed pressed leftFrom leftTo rec47 fuel ball (nI W) (nI H) (nI N) place points may thn l1 l2 l3 l4 (nI i) = X8_guess_J168 sight wide tall hands power spin seed pressed leftFrom leftTo rec47 ball (nI W) (nI H) (nI N) place points may thn' l1 l2 l3 l4 ∧ RM W H thn' (spG W H g) := by
  have hb' := hb
  obtain ⟨b1, b2, b3, b4, b5, b6⟩ := hb'
  intro d
  induction d with
  | zero =>
    intro i fuel thn hi hf h
    obtain ⟨fuel, rfl⟩ : ∃ k, fuel = k + 1 := ⟨fuel - 1, by omega⟩
    refine ⟨thn, ?_, fun c hc => h c (by omega)⟩
    show X8_guess_L76_B sight wide tall hands power spin seed pressed leftFrom leftTo rec47 _ ball (nI W) (nI H) (nI N) place points may thn l1 l2 l3 l4 (nI i) = _
    unfold X8_guess_L76_B
    rw [pk_mul, if_pos (nI_le (by omega) (by omega))]
  | succ d ih =>
    intro i fuel thn hi hf h
    obtain ⟨fuel, rfl⟩ : ∃ k, fuel = k + 1 := ⟨fuel - 1, by omega⟩
    obtain ⟨s1, s2⟩ := sc_ok (W := W) (H := H) (c := i) b1 b2 (by omega)
    have hs : X8_guess_L76 sight wide tall hands power spin seed pressed leftFrom leftTo rec47 (fuel + 1) ball (nI W) (nI H) (nI N) place points may thn l1 l2 l3 l4 (nI i) = X8_guess_L76 sight wide tall hands power spin seed pressed leftFrom leftTo rec47 fuel ball (nI W) (nI H) (nI N) place points may (upd thn i (b01 (spG W H g (sc W i)))) l1 l2 l3 l4 (nI (i + 1)) := by
      show X8_guess_L76_B sight wide tall hands power spin seed pressed leftFrom leftTo rec47 (X8_guess_L76 sight wide tall hands power spin seed pressed leftFrom leftTo rec47 fuel) ball (nI W) (nI H) (nI N) place points may thn l1 l2 l3 l4 (nI i) = _
      unfold X8_guess_L76_B
      have h4 := mg_4 (sight := sight) (wide := wide) (tall := tall) (hands := hands) (power := power) (spin := spin) (seed := seed) (pressed := pressed) (leftFrom := leftFrom) (leftTo := leftTo) hb h81 hm s1 (rec47 := rec47) (rec76 := X8_guess_L76 sight wide tall hands power spin seed pressed leftFrom leftTo rec47 fuel) ball place points thn l1 l2 l3 l4
      rw [s2] at h4
      rw [pk_mul, if_neg (nI_ge (by omega) (by omega)), rd_nI may (by omega) (by decide), hm i (by omega), show (1 : Int32) = nI 1 from rfl, h4]
      unfold X8_guess_J153
      rw [wrZ_nI thn (by omega) (by decide), nm_eq, b01_nar, show nI i + 1 = nI (i + 1) from nI_1 i]
    rw [hs]
    refine ih (i + 1) fuel _ (by omega) (by omega) (fun c hc => ?_)
    by_cases e : c = i
    · subst e
      rw [pk_us]
    · rw [pk_un e]
      exact h c (by omega)
theorem mg_m (hb : bnd W H N) (h81 : W * H ≤ 81) {si a b : Nat} (hsg : sight = nI si) (hs : si ≤ 9) (ha : a < N) (hbN : b < N) {A : Nat → Nat} (hA : okS W H N A) {ball : Int32} {place : Nat → Int32} (hr : RepP W N ball place A) {thn : Nat → Int32} {g : Nat → Bool} (ht : RM W H thn (spG W H g)) {rec47} (points : Nat → Int32) (l3 l4 : Int32) : ∀ (d i fuel : Nat) (may : Nat → Int32), i + d = W * H → d < fuel → (∀ c, c < i → may c = b01 ((if dst (A a) (A b) ≤ si then onG (A b) else rmG W H (A a) si g) (sc W c))) → ∃ may', X8_guess_L184 sight wide tall hands power spin seed pressed leftFrom leftTo rec47 fuel ball (nI W) (nI H) (nI N) place points may thn (nI a) (nI b) l3 l4 (if dst (A a) (A b) ≤ si then 1 else 0) (nI i) = X8_guess_J260 sight wide tall hands power spin seed pressed leftFrom leftTo rec47 ball (nI W) (nI H) (nI N) place points may' thn (nI a) (nI b) l3 l4 ∧ RM W H may' (if dst (A a) (A b) ≤ si then onG (A b) else rmG W H (A a) si g) := by
  have hb' := hb
  obtain ⟨b1, b2, b3, b4, b5, b6⟩ := hb'
  intro d
  induction d with
  | zero =>
    intro i fuel may hi hf h
    obtain ⟨fuel, rfl⟩ : ∃ k, fuel = k + 1 := ⟨fuel - 1, by omega⟩
    refine ⟨may, ?_, fun c hc => h c (by omega)⟩
    show X8_guess_L184_B sight wide tall hands power spin seed pressed leftFrom leftTo rec47 _ ball (nI W) (nI H) (nI N) place points may thn (nI a) (nI b) l3 l4 _ (nI i) = _
    unfold X8_guess_L184_B
    rw [pk_mul, if_pos (nI_le (by omega) (by omega))]
  | succ d ih =>
    intro i fuel may hi hf h
    obtain ⟨fuel, rfl⟩ : ∃ k, fuel = k + 1 := ⟨fuel - 1, by omega⟩
    obtain ⟨s1, s2⟩ := sc_ok (W := W) (H := H) (c := i) b1 b2 (by omega)
    have hs' : X8_guess_L184 sight wide tall hands power spin seed pressed leftFrom leftTo rec47 (fuel + 1) ball (nI W) (nI H) (nI N) place points may thn (nI a) (nI b) l3 l4 (if dst (A a) (A b) ≤ si then 1 else 0) (nI i) = X8_guess_L184 sight wide tall hands power spin seed pressed leftFrom leftTo rec47 fuel ball (nI W) (nI H) (nI N) place points (upd may i (b01 ((if dst (A a) (A b) ≤ si then onG (A b) else rmG W H (A a) si g) (sc W i)))) thn (nI a) (nI b) l3 l4 (if dst (A a) (A b) ≤ si then 1 else 0) (nI (i + 1)) := by
      show X8_guess_L184_B sight wide tall hands power spin seed pressed leftFrom leftTo rec47 (X8_guess_L184 sight wide tall hands power spin seed pressed leftFrom leftTo rec47 fuel) ball (nI W) (nI H) (nI N) place points may thn (nI a) (nI b) l3 l4 _ (nI i) = _
      unfold X8_guess_L184_B X8_guess_J252 X8_guess_J253
      have hseen := isSeen_ok (si := si) b1 b2 b4 ha b6 hA s1 hs hr
      rw [s2] at hseen
      rw [pk_mul, if_neg (nI_ge (by omega) (by omega)), rd_nI thn (by omega) (by decide), ht i (by omega), rd_nI place (by omega) (by decide), hr.2.1 b hbN, wrZ_nI may (by omega) (by decide), wrZ_nI may (by omega) (by decide), nm_eq, nm_eq, nar0, nar1, show nI i + 1 = nI (i + 1) from nI_1 i, hsg, hseen, bd_some]
      by_cases c : dst (A a) (A b) ≤ si
      · rw [if_pos c, if_pos c, if_neg i1n0]
        unfold onG
        by_cases e : i = cl W (A b)
        · rw [if_pos (by rw [← e]), decide_eq_true (by rw [e]; exact sc_cl b2 (hA.1 b hbN))]
          rfl
        · rw [if_neg (fun q => e (nI_inj (by omega) (by have := cl_lt b2 b4 (hA.1 b hbN); omega) q)), decide_eq_false (fun q => e (by rw [← q]; exact s2.symm))]
          rfl
      · rw [if_neg c, if_neg c, if_pos rfl]
        unfold rmG
        by_cases e2 : dst (A a) (sc W i) ≤ si
        · rw [if_pos e2, if_neg i1n0, decide_eq_true e2, Bool.not_true, Bool.and_false, ite_self]
          rfl
        · rw [if_neg e2, if_pos rfl, decide_eq_false e2, Bool.not_false, Bool.and_true]
          cases spG W H g (sc W i) with
          | true =>
            rw [if_neg (by decide)]
            rfl
          | false =>
            rw [if_pos (by decide)]
            rfl
    rw [hs']
    refine ih (i + 1) fuel _ (by omega) (by omega) (fun c hc => ?_)
    by_cases e : c = i
    · subst e
      rw [pk_us]
    · rw [pk_un e]
      exact h c (by omega)
end GUESS
