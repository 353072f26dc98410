theorem t64 (v : Int32) : (Int32.toInt64 v).toInt = v.toInt := Int32.toInt_toInt64 v
theorem in_ok (x y z : Int64) : X8_in x y z = some (if y.toInt ≤ x.toInt ∧ x.toInt ≤ z.toInt then 1 else 0) := by
  unfold X8_in
  rw [zb_0, zb_1]
  by_cases h1 : y.toInt ≤ x.toInt
  · have c1 : ¬ lg_cmp x y < 0 := by
      unfold lg_cmp
      by_cases q1 : x > y
      · rw [if_pos q1]; decide
      · rw [if_neg q1]
        have q2 : ¬ y.toInt < x.toInt := fun h => q1 (Int64.lt_iff_toInt_lt.mpr h)
        rw [if_pos (Int64.toInt_inj.mp (by omega))]
        decide
    rw [if_neg c1]
    by_cases h2 : x.toInt ≤ z.toInt
    · have c2 : ¬ 0 < lg_cmp x z := by
        unfold lg_cmp
        rw [if_neg (fun q => by have := Int64.lt_iff_toInt_lt.mp q; omega)]
        split <;> decide
      rw [if_neg c2, if_pos ⟨h1, h2⟩]
    · have c2 : 0 < lg_cmp x z := by
        unfold lg_cmp
        rw [if_pos (Int64.lt_iff_toInt_lt.mpr (by omega))]
        decide
      rw [if_pos c2, if_neg (fun h => h2 h.2)]
  · have c1 : lg_cmp x y < 0 := by
      unfold lg_cmp
      rw [if_neg (fun q => h1 (by have := Int64.lt_iff_toInt_lt.mp q; omega)), if_neg (fun q => h1 (by rw [q]; omega))]
      decide
    rw [if_pos c1, if_neg (fun h => h1 h.1)]
theorem in_nI {a b : Nat} (ha : a < 2 ^ 31) (hb : b < 2 ^ 31) : X8_in (Int32.toInt64 (nI a)) 0 (Int32.toInt64 (nI b)) = some (if a ≤ b then 1 else 0) := by
  rw [in_ok, t64, t64, nI_toInt ha, nI_toInt hb]
  show some (if (0 : Int) ≤ (a : Int) ∧ (a : Int) ≤ b then (1 : Int32) else 0) = _
  by_cases h : a ≤ b
  · rw [if_pos h, if_pos (by omega)]
  · rw [if_neg h, if_neg (by omega)]
theorem in_neg {x : Int32} {z : Int64} (h : x < 0) : X8_in (Int32.toInt64 x) 0 z = some 0 := by
  rw [in_ok, t64]
  have := Int32.lt_iff_toInt_lt.mp h
  have e0 : (0 : Int32).toInt = 0 := rfl
  show some (if (0 : Int) ≤ x.toInt ∧ _ then (1 : Int32) else 0) = _
  rw [if_neg (by omega)]
def cl (W p : Nat) : Nat := p / 16 * W + p % 16
theorem cl_mod {W p : Nat} (h : p % 16 < W) : cl W p % W = p % 16 := by
  unfold cl
  rw [Nat.mul_comm, Nat.mul_add_mod, Nat.mod_eq_of_lt h]
theorem cl_div {W p : Nat} (h : p % 16 < W) : cl W p / W = p / 16 := by
  unfold cl
  rw [Nat.mul_comm, Nat.mul_add_div (by omega), Nat.div_eq_of_lt h, Nat.add_zero]
theorem cl_lt {W H p : Nat} (hW : W ≤ 9) (hH : H ≤ 9) (h : okp W H p) : cl W p < 100 := by
  unfold okp at h
  unfold cl
  have : p / 16 * W ≤ 8 * 9 := Nat.mul_le_mul (by omega) hW
  omega
theorem cl_inj {W H p q : Nat} (hp : okp W H p) (hq : okp W H q) (h : cl W p = cl W q) : p = q := by
  have e1 := cl_mod hp.1
  have e2 := cl_mod hq.1
  have e3 := cl_div hp.1
  have e4 := cl_div hq.1
  rw [h] at e1 e3
  omega
def mE (W q : Nat) : Int32 := if q = 999 then (-9) else nI (cl W q)
theorem J52_ok {W H x y : Nat} {s0 s1 : Int32} (hW : 3 ≤ W) (hW9 : W ≤ 9) (hH : 3 ≤ H) (hH9 : H ≤ 9) (hx : x < 100) (hy : y < 100) (e : s0 + s1 = nI y) : X8_by_J52 (nI W) (nI H) (nI x) s0 s1 = some (if x < W ∧ y < H then nI (y * W + x) else (-9)) := by
  unfold X8_by_J52
  rw [nm_eq, e, show nI W - 1 = nI (W - 1) from pk_sub (b := 1) (by omega), show nI H - 1 = nI (H - 1) from pk_sub (b := 1) (by omega), in_nI (by omega) (by omega), bd_some, in_nI (by omega) (by omega)]
  by_cases c1 : x ≤ W - 1
  · rw [if_pos c1, if_neg i1n0, bd_some]
    by_cases c2 : y ≤ H - 1
    · rw [if_pos c2, if_neg i1n0, if_pos (by omega), pk_mul, nI_add]
    · rw [if_neg c2, if_pos rfl, if_neg (by omega)]
  · rw [if_neg c1, if_pos rfl, if_neg (by omega)]
theorem J52_nx {W H : Nat} {x s0 s1 : Int32} (hx : x < 0) : X8_by_J52 (nI W) (nI H) x s0 s1 = some (-9) := by
  unfold X8_by_J52
  rw [nm_eq, in_neg hx, bd_some, if_pos rfl]
theorem J52_ny {W H x : Nat} {s0 s1 : Int32} (hW : 3 ≤ W) (hW9 : W ≤ 9) (hx : x < 100) (hs : s0 + s1 < 0) : X8_by_J52 (nI W) (nI H) (nI x) s0 s1 = some (-9) := by
  unfold X8_by_J52
  rw [nm_eq, show nI W - 1 = nI (W - 1) from pk_sub (b := 1) (by omega), in_nI (by omega) (by omega), bd_some, in_neg hs, bd_some]
  split
  · rfl
  · rw [if_pos rfl]
theorem nI_a0 (n : Nat) : nI n + 0 = nI n := Int32.add_zero _
theorem nx_1 (W H p : Nat) : nx W H p 1 = if p % 16 + 1 < W then p + 1 else 999 := rfl
theorem nx_2 (W H p : Nat) : nx W H p 2 = if p / 16 + 1 < H then p + 16 else 999 := rfl
theorem nx_3 (W H p : Nat) : nx W H p 3 = if 0 < p % 16 then p - 1 else 999 := rfl
theorem nx_4 (W H p : Nat) : nx W H p 4 = if 0 < p / 16 then p - 16 else 999 := rfl
theorem mE_9 (W : Nat) : mE W 999 = (-9) := if_pos rfl
theorem mE_n {W q : Nat} (h : q ≠ 999) : mE W q = nI (cl W q) := if_neg h
theorem by_ok {W H p way : Nat} (hW : 3 ≤ W) (hW9 : W ≤ 9) (hH : 3 ≤ H) (hH9 : H ≤ 9) (hp : okp W H p) (hw : 1 ≤ way ∧ way ≤ 4) : X8_by (nI W) (nI H) (nI (cl W p)) (nI way) = some (mE W (nx W H p way)) := by
  have hl := cl_lt hW9 hH9 hp
  have hp2 := hp
  unfold okp at hp2
  have e1 : nI (cl W p) - nI (cl W p) / nI W * nI W = nI (p % 16) := by rw [pk_rem (by omega) (by omega) (by omega), cl_mod hp.1]
  have e2 : nI (cl W p) / nI W = nI (p / 16) := by rw [pk_div (by omega) (by omega) (by omega), cl_div hp.1]
  have hw0 : ¬ nI W = 0 := nI_ne0 (by omega) (by omega)
  unfold X8_by
  rw [dvI_ne hw0, e1]
  rcases (show way = 1 ∨ way = 2 ∨ way = 3 ∨ way = 4 by omega) with rfl | rfl | rfl | rfl
  · rw [if_pos (show nI 1 = (1 : Int32) from rfl), nx_1]
    unfold X8_by_J25
    rw [nm_eq, dvI_ne hw0, e2, if_neg (show ¬ nI 1 = (2 : Int32) by decide), if_neg (show ¬ nI 1 = (4 : Int32) by decide), show nI (p % 16) + 1 = nI (p % 16 + 1) from nI_1 _, J52_ok (y := p / 16) hW hW9 hH hH9 (by omega) (by omega) (nI_a0 _)]
    by_cases c : p % 16 + 1 < W
    · rw [if_pos ⟨c, hp.2⟩, if_pos c, mE_n (by omega)]
      unfold cl
      rw [show (p + 1) / 16 = p / 16 by omega, show (p + 1) % 16 = p % 16 + 1 by omega]
    · rw [if_neg (fun h => c h.1), if_neg c, mE_9]
  · rw [if_neg (show ¬ nI 2 = (1 : Int32) by decide), if_neg (show ¬ nI 2 = (3 : Int32) by decide), nx_2]
    unfold X8_by_J25
    rw [nm_eq, dvI_ne hw0, e2, if_pos (show nI 2 = (2 : Int32) from rfl), nI_a0, J52_ok (y := p / 16 + 1) hW hW9 hH hH9 (by omega) (by omega) (nI_1 _)]
    by_cases c : p / 16 + 1 < H
    · rw [if_pos ⟨hp.1, c⟩, if_pos c, mE_n (by omega)]
      unfold cl
      rw [show (p + 16) / 16 = p / 16 + 1 by omega, show (p + 16) % 16 = p % 16 by omega]
    · rw [if_neg (fun h => c h.2), if_neg c, mE_9]
  · rw [if_neg (show ¬ nI 3 = (1 : Int32) by decide), if_pos (show nI 3 = (3 : Int32) from rfl), nx_3]
    unfold X8_by_J25
    rw [nm_eq, dvI_ne hw0, e2, if_neg (show ¬ nI 3 = (2 : Int32) by decide), if_neg (show ¬ nI 3 = (4 : Int32) by decide)]
    by_cases c : 0 < p % 16
    · rw [sb_m1 c, J52_ok (y := p / 16) hW hW9 hH hH9 (by omega) (by omega) (nI_a0 _), if_pos ⟨by omega, hp.2⟩, if_pos c, mE_n (by omega)]
      unfold cl
      rw [show (p - 1) / 16 = p / 16 by omega, show (p - 1) % 16 = p % 16 - 1 by omega]
    · have e0 : p % 16 = 0 := by omega
      rw [if_neg c, e0, J52_nx (by decide), mE_9]
  · rw [if_neg (show ¬ nI 4 = (1 : Int32) by decide), if_neg (show ¬ nI 4 = (3 : Int32) by decide), nx_4]
    unfold X8_by_J25
    rw [nm_eq, dvI_ne hw0, e2, if_neg (show ¬ nI 4 = (2 : Int32) by decide), if_pos (show nI 4 = (4 : Int32) from rfl), nI_a0]
    by_cases c : 0 < p / 16
    · rw [J52_ok (y := p / 16 - 1) hW hW9 hH hH9 (by omega) (by omega) (sb_m1 c), if_pos ⟨hp.1, by omega⟩, if_pos c, mE_n (by omega)]
      unfold cl
      rw [show (p - 16) / 16 = p / 16 - 1 by omega, show (p - 16) % 16 = p % 16 by omega]
    · have e0 : p / 16 = 0 := by omega
      rw [if_neg c, e0, J52_ny hW hW9 (by omega) (by decide), mE_9]
def RepM (W N : Nat) (ball : Int32) (place points : Nat → Int32) (A : Nat → Nat) : Prop := ball = nI (cl W (A 6)) ∧ (∀ a, a < N → place a = nI (cl W (A a))) ∧ (∀ a, N ≤ a → a < 6 → place a = (-9)) ∧ ∀ a, a < 6 → points a = nI (A (7 + a))
theorem mFree_L0 {n l1 : Int32} {N : Nat} {place : Nat → Int32} (hn : n = nI N) (hN : N ≤ 6) : ∀ (d i fuel : Nat), i + d = N → d < fuel → X8_isFree_L14 n place fuel l1 0 (nI i) = some 0 := by
  subst hn
  intro d
  induction d with
  | zero =>
    intro i fuel hi hf
    obtain ⟨fuel, rfl⟩ : ∃ k, fuel = k + 1 := ⟨fuel - 1, by omega⟩
    show X8_isFree_L14_B (nI N) place _ l1 0 (nI i) = _
    unfold X8_isFree_L14_B
    rw [if_pos (nI_le (by omega) (by omega)), zb_0]
  | succ d ih =>
    intro i fuel hi hf
    obtain ⟨fuel, rfl⟩ : ∃ k, fuel = k + 1 := ⟨fuel - 1, by omega⟩
    show X8_isFree_L14_B (nI N) place (X8_isFree_L14 (nI N) place fuel) l1 0 (nI i) = _
    unfold X8_isFree_L14_B
    rw [if_neg (nI_ge (by omega) (by omega)), if_pos rfl]
    unfold X8_isFree_J40 X8_isFree_J41
    rw [nm_eq, show nI i + 1 = nI (i + 1) from nI_1 i]
    exact ih (i + 1) fuel (by omega) (by omega)
theorem mFree_L1 {W H N q : Nat} {A : Nat → Nat} {place : Nat → Int32} (hW9 : W ≤ 9) (hH9 : H ≤ 9) (hN : N ≤ 6) (hA : ∀ a, a < N → okp W H (A a)) (hq : okp W H q) (hpl : ∀ a, a < N → place a = nI (cl W (A a))) : ∀ (d i fuel : Nat), i + d = N → d < fuel → (∀ j, j < i → A j ≠ q) → X8_isFree_L14 (nI N) place fuel (nI (cl W q)) 1 (nI i) = some (if occ A N q = true then 0 else 1) := by
  have lq := cl_lt hW9 hH9 hq
  intro d
  induction d with
  | zero =>
    intro i fuel hi hf hj
    obtain ⟨fuel, rfl⟩ : ∃ k, fuel = k + 1 := ⟨fuel - 1, by omega⟩
    show X8_isFree_L14_B (nI N) place _ (nI (cl W q)) 1 (nI i) = _
    unfold X8_isFree_L14_B
    have : ¬ occ A N q = true := fun hc => by
      obtain ⟨j, h1, h2⟩ := (occ_iff A q N).mp hc
      exact hj j (by omega) h2
    rw [if_pos (nI_le (by omega) (by omega)), zb_1, if_neg this]
  | succ d ih =>
    intro i fuel hi hf hj
    obtain ⟨fuel, rfl⟩ : ∃ k, fuel = k + 1 := ⟨fuel - 1, by omega⟩
    have li := cl_lt hW9 hH9 (hA i (by omega))
    show X8_isFree_L14_B (nI N) place (X8_isFree_L14 (nI N) place fuel) (nI (cl W q)) 1 (nI i) = _
    unfold X8_isFree_L14_B
    rw [if_neg (nI_ge (by omega) (by omega)), if_neg i1n0, rd_nI place (by omega) (by decide), hpl i (by omega)]
    by_cases hc : A i = q
    · rw [if_pos (by rw [hc]), if_pos ((occ_iff A q N).mpr ⟨i, by omega, hc⟩)]
      unfold X8_isFree_J40 X8_isFree_J41
      rw [nm_eq, show nI i + 1 = nI (i + 1) from nI_1 i]
      exact mFree_L0 rfl hN d (i + 1) fuel (by omega) (by omega)
    · rw [if_neg (fun e => hc (cl_inj (hA i (by omega)) hq (nI_inj (by omega) (by omega) e)))]
      unfold X8_isFree_J41
      rw [nm_eq, show nI i + 1 = nI (i + 1) from nI_1 i]
      exact ih (i + 1) fuel (by omega) (by omega) (fun j h1 => by
        by_cases h2 : j = i
        · subst h2
          exact hc
        · exact hj j (by omega))
theorem nI_n9 {n : Nat} (h : n < 2 ^ 31) : ¬ nI n = (-9) := fun e => by
  have h1 := nI_toInt h
  rw [e] at h1
  have h2 : (-9 : Int32).toInt = -9 := rfl
  omega
theorem mFree_ok {W H N q : Nat} {A : Nat → Nat} {place : Nat → Int32} (hW9 : W ≤ 9) (hH9 : H ≤ 9) (hN : N ≤ 6) (hA : ∀ a, a < N → okp W H (A a)) (hq : q = 999 ∨ okp W H q) (hpl : ∀ a, a < N → place a = nI (cl W (A a))) : X8_isFree (nI N) place (mE W q) = some (if fr A N q = true then 1 else 0) := by
  unfold X8_isFree mE
  rcases hq with hq | hq
  · subst hq
    rw [if_pos rfl, if_pos rfl]
    unfold X8_isFree_J11
    show X8_isFree_L14 (nI N) place FU (-9) 0 (nI 0) = _
    rw [mFree_L0 rfl hN N 0 FU (by omega) (FU_big (by omega)), if_neg]
    unfold fr
    simp
  · have lq := cl_lt hW9 hH9 hq
    have l3 := okp_lt hW9 hH9 hq
    rw [if_neg (show ¬ q = 999 by omega), if_neg (nI_n9 (by omega))]
    unfold X8_isFree_J11
    show X8_isFree_L14 (nI N) place FU (nI (cl W q)) 1 (nI 0) = _
    rw [mFree_L1 hW9 hH9 hN hA hq hpl N 0 FU (by omega) (FU_big (by omega)) (fun j hj => by omega)]
    unfold fr
    by_cases ho : occ A N q = true
    · rw [if_pos ho, if_neg (by rw [ho]; simp)]
    · have ho' : occ A N q = false := by simpa using ho
      rw [if_neg ho, if_pos (by rw [ho']; simp; omega)]
