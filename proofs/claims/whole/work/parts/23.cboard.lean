theorem abs_sub {a b : Nat} (ha : a < 2 ^ 30) (hb : b < 2 ^ 30) : (if (0 : Int32) ≤ nI a - nI b then nI a - nI b else (0 : Int32) - (nI a - nI b)) = nI (adif b a) := by
  unfold adif
  by_cases h : b ≤ a
  · rw [pk_sub h, if_pos (nI_pos' (by omega))]
    by_cases h2 : b < a
    · rw [if_pos h2]
    · rw [if_neg h2]
      congr 1
      omega
  · have h1 : nI a - nI b < 0 := pk_sneg hb (by omega)
    have h2 : ¬ (0 : Int32) ≤ nI a - nI b := fun q => by
      have q1 := Int32.lt_iff_toInt_lt.mp h1
      have q2 := Int32.le_iff_toInt_le.mp q
      omega
    rw [if_neg h2, if_neg (by omega)]
    have e : nI b - nI a = nI (b - a) := pk_sub (by omega)
    rw [← e]
    apply Int32.toInt_inj.mp
    have t1 := pk_sub_toInt ha hb
    have t2 := pk_sub_toInt hb ha
    rw [Int32.toInt_sub, t1, t2]
    show ((0 : Int) - ((a : Int) - b)).bmod (2 ^ 32) = _
    rw [Int.bmod_eq_of_le (by omega) (by omega)]
    omega
theorem adif_comm (a b : Nat) : adif a b = adif b a := by
  unfold adif
  split <;> split <;> omega
theorem sub_le0 {a b : Nat} (ha : a < 2 ^ 30) (hb : b < 2 ^ 30) : nI a - nI b ≤ 0 ↔ a ≤ b := by
  rw [Int32.le_iff_toInt_le, pk_sub_toInt ha hb]
  show ((a : Int) - b ≤ 0) ↔ _
  omega
theorem machinePress_ok {now : Nat → Int32} {A : Nat → Nat} {W H N a : Nat} (hr : Rep now A) (hW : W ≤ 9) (hH : H ≤ 9) (hN : N ≤ 6) (hA : okS W H N A) (ha : a < N) : X0_machinePress now (nI a) = some (nI (mpA W H A a)) := by
  have l1 := okp_lt hW hH (hA.1 a ha)
  have l2 := okp_lt hW hH hA.2
  unfold X0_machinePress mpA
  rw [wayToBall_ok hr hW hH hN hA ha, bd_some]
  have hw4 : wtb W H A a ≤ 4 := by
    unfold wtb
    split
    · omega
    · split
      · omega
      · split
        · omega
        · split <;> omega
  by_cases h0 : wtb W H A a = 0
  · rw [if_pos h0, h0, if_pos (show nI 0 ≤ 0 by decide)]
    rw [rd_lit now 13 6 (by decide) (by decide), hr 6 (by decide), xOf_nI (by omega), bd_some, rd_nI now (by omega) (by decide), hr a (by omega), xOf_nI (by omega), bd_some, nm_eq, rd_lit now 13 6 (by decide) (by decide), hr 6 (by decide), yOf_nI (by omega), bd_some, rd_nI now (by omega) (by decide), hr a (by omega), yOf_nI (by omega), bd_some, nm_eq]
    rw [abs_sub (by omega) (by omega), abs_sub (by omega) (by omega), adif_comm (A a % 16), adif_comm (A a / 16)]
    have k1 : adif (A 6 % 16) (A a % 16) < 100 := by unfold adif; split <;> omega
    have k2 : adif (A 6 / 16) (A a / 16) < 100 := by unfold adif; split <;> omega
    by_cases h1 : adif (A 6 % 16) (A a % 16) < adif (A 6 / 16) (A a / 16)
    · rw [if_pos h1, if_pos (nI_lt h1 (by omega))]
      by_cases h2 : A a / 16 < A 6 / 16
      · rw [if_pos h2, if_neg (fun e => by have := (sub_le0 (by omega) (by omega)).mp e; omega)]
        rfl
      · rw [if_neg h2, if_pos ((sub_le0 (by omega) (by omega)).mpr (by omega))]
        rfl
    · rw [if_neg h1, if_neg (nI_nlt (by omega) (by omega))]
      by_cases h2 : A a % 16 < A 6 % 16
      · rw [if_pos h2, if_neg (fun e => by have := (sub_le0 (by omega) (by omega)).mp e; omega)]
        rfl
      · rw [if_neg h2, if_pos ((sub_le0 (by omega) (by omega)).mpr (by omega))]
        rfl
  · rw [if_neg h0, if_neg (nI_nle (by omega) (by omega))]
    rfl
theorem kick_L {W H N way power : Nat} (hW : W ≤ 9) (hH : H ≤ 9) (hN : N ≤ 6) (hw : 1 ≤ way ∧ way ≤ 4) (hp : power < 100) : ∀ (d i fuel : Nat) (now : Nat → Int32) (A : Nat → Nat), i + d = power → d < fuel → Rep now A → okS W H N A → ∃ now', X0_kick_L22 (nI W) (nI H) (nI N) fuel now (nI power) (nI way) 1 (nI i) = some now' ∧ Rep now' (kickN W H N way d A) := by
  intro d
  induction d with
  | zero =>
    intro i fuel now A hi hf hr hA
    obtain ⟨fuel, rfl⟩ : ∃ k, fuel = k + 1 := ⟨fuel - 1, by omega⟩
    refine ⟨now, ?_, hr⟩
    show X0_kick_L22_B (nI W) (nI H) (nI N) _ now (nI power) (nI way) 1 (nI i) = _
    unfold X0_kick_L22_B
    rw [if_pos (nI_le (by omega) (by omega))]
  | succ d ih =>
    intro i fuel now A hi hf hr hA
    obtain ⟨fuel, rfl⟩ : ∃ k, fuel = k + 1 := ⟨fuel - 1, by omega⟩
    obtain ⟨now1, e1, hr1⟩ := moveBall_ok hr hW hH hN hA hw
    have hu : X0_kick_L22 (nI W) (nI H) (nI N) (fuel + 1) now (nI power) (nI way) 1 (nI i) = X0_kick_L22 (nI W) (nI H) (nI N) fuel now1 (nI power) (nI way) (if fr A N (nx W H (A 6) way) = true then 1 else 0) (nI (i + 1)) := by
      show X0_kick_L22_B (nI W) (nI H) (nI N) (X0_kick_L22 (nI W) (nI H) (nI N) fuel) now (nI power) (nI way) 1 (nI i) = _
      unfold X0_kick_L22_B
      rw [if_neg (nI_ge (by omega) (by omega)), if_neg i1n0, e1, bd_some, nm_eq, show nI i + 1 = nI (i + 1) from nI_1 i]
    rw [hu, kickN]
    unfold mbA at hr1
    by_cases hfr : fr A N (nx W H (A 6) way) = true
    · rw [if_pos hfr] at hr1
      rw [if_pos hfr, if_pos hfr]
      exact ih (i + 1) fuel now1 _ (by omega) (by omega) hr1 (hA.up6 hN (fr_ok hW hH hA.2 hfr).1)
    · rw [if_neg hfr] at hr1
      rw [if_neg hfr, if_neg hfr]
      obtain ⟨fuel, rfl⟩ : ∃ k, fuel = k + 1 := ⟨fuel - 1, by omega⟩
      refine ⟨now1, ?_, hr1⟩
      show X0_kick_L22_B (nI W) (nI H) (nI N) _ now1 (nI power) (nI way) 0 (nI (i + 1)) = _
      unfold X0_kick_L22_B
      by_cases hle : nI power ≤ nI (i + 1)
      · rw [if_pos hle]
      · rw [if_neg hle, if_pos rfl]
theorem wtb_le (W H : Nat) (A : Nat → Nat) (a : Nat) : wtb W H A a ≤ 4 := by
  unfold wtb
  split
  · omega
  · split
    · omega
    · split
      · omega
      · split <;> omega
theorem kick_ok {now : Nat → Int32} {A : Nat → Nat} {W H N a power : Nat} (hr : Rep now A) (hW : W ≤ 9) (hH : H ≤ 9) (hN : N ≤ 6) (hA : okS W H N A) (ha : a < N) (hp : power < 100) : ∃ now', X0_kick (nI W) (nI H) (nI N) now (nI a) (nI power) = some now' ∧ Rep now' (kickA W H N A a power) := by
  have h4 := wtb_le W H A a
  unfold X0_kick kickA
  rw [wayToBall_ok hr hW hH hN hA ha, bd_some]
  by_cases h0 : wtb W H A a = 0
  · rw [if_pos h0, h0, if_pos (show nI 0 ≤ 0 by decide)]
    unfold X0_kick_J17
    refine ⟨now, ?_, hr⟩
    show X0_kick_L22_B (nI W) (nI H) (nI N) _ now (nI power) (nI 0) 0 0 = _
    unfold X0_kick_L22_B
    by_cases hle : nI power ≤ 0
    · rw [if_pos hle]
    · rw [if_neg hle, if_pos rfl]
  · rw [if_neg h0, if_neg (nI_nle (by omega) (by omega))]
    unfold X0_kick_J17
    exact kick_L hW hH hN (by omega) hp power 0 FU now A (by omega) (FU_big (by omega)) hr hA
theorem spinBall_ok {now rules : Nat → Int32} {A : Nat → Nat} {W H N spin seed t : Nat} (hr : Rep now A) (hW : W ≤ 9) (hH : H ≤ 9) (hN : N ≤ 6) (hA : okS W H N A) (h1 : rules 1 = nI spin) (h2 : rules 2 = nI seed) (hs : spin ≤ 9) (hd : seed ≤ 999) (ht : t < 100) : ∃ now', X0_spinBall (nI W) (nI H) (nI N) rules now (nI t) = some now' ∧ Rep now' (spA W H N spin seed t A) := by
  unfold X0_spinBall spA
  rw [rd_lit rules 7 1 (by decide) (by decide), h1]
  by_cases h0 : spin = 0
  · subst h0
    rw [if_pos (show nI 0 ≤ 0 by decide), if_neg (by omega)]
    exact ⟨now, rfl, hr⟩
  · rw [if_neg (nI_nle (by omega) (by omega)), dvI_ne (nI_ne0 (by omega) (by omega)), show nI t + 1 = nI (t + 1) from nI_1 t, pk_rem (by omega) (by omega) (by omega)]
    by_cases h3 : (t + 1) % spin = 0
    · rw [h3, if_pos nI_0, if_pos ⟨by omega, rfl⟩, rd_lit rules 7 2 (by decide) (by decide), h2, dvI_ne (by decide)]
      have e1 : (31 : Int32) * nI seed + 17 * nI t = nI (31 * seed + 17 * t) := by
        show nI 31 * nI seed + nI 17 * nI t = _
        rw [pk_mul, pk_mul, nI_add]
      have e2 : (31 * nI seed + 17 * nI t - (31 * nI seed + 17 * nI t) / 4 * 4 + 1 : Int32) = nI ((31 * seed + 17 * t) % 4 + 1) := by
        rw [e1]
        show nI (31 * seed + 17 * t) - nI (31 * seed + 17 * t) / nI 4 * nI 4 + nI 1 = _
        rw [pk_rem (by omega) (by omega) (by omega), nI_add]
      rw [e2]
      obtain ⟨now1, e3, hr1⟩ := moveBall_ok (way := (31 * seed + 17 * t) % 4 + 1) hr hW hH hN hA (by omega)
      rw [e3, bd_some]
      exact ⟨now1, rfl, hr1⟩
    · have h4 : (t + 1) % spin < spin := Nat.mod_lt _ (by omega)
      rw [if_neg (nI_ne0 (by omega) (by omega)), if_neg (fun h => h3 h.2)]
      exact ⟨now, rfl, hr⟩
theorem distance_ok {p q : Nat} (hp : p < 2 ^ 20) (hq : q < 2 ^ 20) : X7_distance (nI p) (nI q) = some (nI (dst p q)) := by
  unfold X7_distance dst
  simp only [xOf_nI (show p < 2 ^ 31 by omega), xOf_nI (show q < 2 ^ 31 by omega), yOf_nI (show p < 2 ^ 31 by omega), yOf_nI (show q < 2 ^ 31 by omega), bd_some]
  rw [abs_sub (by omega) (by omega), abs_sub (by omega) (by omega), nI_add, adif_comm (q % 16), adif_comm (q / 16)]
theorem dst_lt {W H p q : Nat} (hW : W ≤ 9) (hH : H ≤ 9) (hp : okp W H p) (hq : okp W H q) : dst p q < 100 := by
  unfold okp at hp hq
  unfold dst adif
  split <;> split <;> omega
theorem givePoint_L {now : Nat → Int32} {A : Nat → Nat} {W H N : Nat} (hr : Rep now A) (hW : W ≤ 9) (hH : H ≤ 9) (hN : N ≤ 6) (hA : okS W H N A) : ∀ (d i fuel : Nat), i + 1 + d = N → d < fuel → ∃ now', X0_givePoint_L25 (nI N) fuel now (nI (nrst A i).1) (nI (nrst A i).2.1) (if (nrst A i).2.2 = true then 1 else 0) (nI (i + 1)) = some now' ∧ Rep now' (gpA N A) := by
  intro d
  induction d with
  | zero =>
    intro i fuel hi hf
    obtain ⟨fuel, rfl⟩ : ∃ k, fuel = k + 1 := ⟨fuel - 1, by omega⟩
    have hl := nrst_lt A i
    have hlast : X0_givePoint_L25 (nI N) (fuel + 1) now (nI (nrst A i).1) (nI (nrst A i).2.1) (if (nrst A i).2.2 = true then 1 else 0) (nI (i + 1)) = X0_givePoint_J86 (nI N) now (nI (nrst A i).1) (if (nrst A i).2.2 = true then 1 else 0) := by
      show X0_givePoint_L25_B (nI N) _ now _ _ _ (nI (i + 1)) = _
      unfold X0_givePoint_L25_B
      rw [if_pos (nI_le (by omega) (by omega))]
    rw [hlast]
    unfold X0_givePoint_J86 gpA
    have ei : N - 1 = i := by omega
    rw [ei]
    by_cases hb : (nrst A i).2.2 = true
    · rw [if_pos hb, if_pos hb, if_neg i1n0]
      have e7 : (7 : Int32) + nI (nrst A i).1 = nI (7 + (nrst A i).1) := nI_add 7 _
      rw [e7, rd_nI now (by omega) (by decide), wrI_nI now (by omega) (by decide), hr _ (by omega), show nI (A (7 + (nrst A i).1)) + 1 = nI (A (7 + (nrst A i).1) + 1) from nI_1 _]
      exact ⟨_, rfl, hr.up _ _⟩
    · rw [if_neg hb, if_neg hb, if_pos rfl]
      exact ⟨now, rfl, hr⟩
  | succ d ih =>
    intro i fuel hi hf
    obtain ⟨fuel, rfl⟩ : ∃ k, fuel = k + 1 := ⟨fuel - 1, by omega⟩
    have k1 := okp_lt hW hH (hA.1 (i + 1) (by omega))
    have k6 := okp_lt hW hH hA.2
    have kd := dst_lt hW hH (hA.1 (i + 1) (by omega)) hA.2
    have kn : (nrst A i).2.1 < 100 := by
      have : ∀ j, j < N → (nrst A j).2.1 < 100 := by
        intro j
        induction j with
        | zero => intro h; exact dst_lt hW hH (hA.1 0 h) hA.2
        | succ j ihj =>
          intro h
          have := ihj (by omega)
          rw [nrst]
          split
          · exact dst_lt hW hH (hA.1 (j + 1) h) hA.2
          · split
            · exact this
            · exact this
      exact this i (by omega)
    have hstep : X0_givePoint_L25 (nI N) (fuel + 1) now (nI (nrst A i).1) (nI (nrst A i).2.1) (if (nrst A i).2.2 = true then 1 else 0) (nI (i + 1)) = X0_givePoint_L25 (nI N) fuel now (nI (nrst A (i + 1)).1) (nI (nrst A (i + 1)).2.1) (if (nrst A (i + 1)).2.2 = true then 1 else 0) (nI (i + 1 + 1)) := by
      show X0_givePoint_L25_B (nI N) (X0_givePoint_L25 (nI N) fuel) now _ _ _ (nI (i + 1)) = _
      unfold X0_givePoint_L25_B
      rw [if_neg (nI_ge (by omega) (by omega)), rd_nI now (by omega) (by decide), rd_lit now 13 6 (by decide) (by decide), hr (i + 1) (by omega), hr 6 (by decide), distance_ok (by omega) (by omega), bd_some]
      rw [nrst]
      by_cases h1 : dst (A (i + 1)) (A 6) < (nrst A i).2.1
      · rw [if_neg (nI_ge h1 (by omega)), if_pos h1]
        unfold X0_givePoint_J80
        rw [nm_eq, show nI (i + 1) + 1 = nI (i + 1 + 1) from nI_1 _]
        rfl
      · rw [if_pos (nI_le (by omega) (by omega)), if_neg h1]
        by_cases h2 : dst (A (i + 1)) (A 6) = (nrst A i).2.1
        · rw [if_pos (by rw [h2]), if_pos h2]
          unfold X0_givePoint_J80
          rw [nm_eq, show nI (i + 1) + 1 = nI (i + 1 + 1) from nI_1 _]
          rfl
        · rw [if_neg (fun e => h2 (nI_inj (by omega) (by omega) e)), if_neg h2]
          unfold X0_givePoint_J80
          rw [nm_eq, show nI (i + 1) + 1 = nI (i + 1 + 1) from nI_1 _]
    rw [hstep]
    exact ih (i + 1) fuel (by omega) (by omega)
theorem givePoint_ok {now : Nat → Int32} {A : Nat → Nat} {W H N : Nat} (hr : Rep now A) (hW : W ≤ 9) (hH : H ≤ 9) (hN : N ≤ 6) (h2 : 2 ≤ N) (hA : okS W H N A) : ∃ now', X0_givePoint (nI N) now = some now' ∧ Rep now' (gpA N A) := by
  have k1 := okp_lt hW hH (hA.1 0 (by omega))
  have k6 := okp_lt hW hH hA.2
  unfold X0_givePoint
  rw [rd_lit now 13 0 (by decide) (by decide), rd_lit now 13 6 (by decide) (by decide), hr 0 (by decide), hr 6 (by decide), distance_ok (by omega) (by omega), bd_some]
  exact givePoint_L hr hW hH hN hA (N - 1) 0 FU (by omega) (FU_big (by omega))
