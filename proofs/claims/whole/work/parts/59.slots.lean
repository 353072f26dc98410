def cz (g : Nat → Int32) : Nat → Nat
  | 0 => 0
  | n + 1 => cz g n + (if g n = 0 then 0 else 1)
theorem cz_le (g : Nat → Int32) : ∀ n, cz g n ≤ n
  | 0 => Nat.le_refl 0
  | n + 1 => by
    have := cz_le g n
    rw [cz]
    split <;> omega
theorem cz_congr {f g : Nat → Int32} : ∀ n, (∀ k, k < n → f k = g k) → cz f n = cz g n
  | 0, _ => rfl
  | n + 1, h => by rw [cz, cz, cz_congr n (fun k hk => h k (by omega)), h n (by omega)]
theorem pressed_L {N : Nat} {pr : Nat → Int32} (hN : N ≤ 6) : ∀ (d i fuel : Nat), i + d = 100 * N → d < fuel → X5_pressed_L4 (nI N) pr fuel (nI (cz pr i)) (nI i) = some (nI (cz pr (100 * N))) := by
  intro d
  have e100 : nI N * 100 = nI (100 * N) := by
    show nI N * nI 100 = _
    rw [pk_mul, Nat.mul_comm]
  induction d with
  | zero =>
    intro i fuel hi hf
    obtain ⟨fuel, rfl⟩ : ∃ k, fuel = k + 1 := ⟨fuel - 1, by omega⟩
    have ei : i = 100 * N := by omega
    subst ei
    show X5_pressed_L4_B (nI N) pr _ _ _ = _
    unfold X5_pressed_L4_B
    rw [e100, if_pos (nI_le (by omega) (by omega))]
  | succ d ih =>
    intro i fuel hi hf
    obtain ⟨fuel, rfl⟩ : ∃ k, fuel = k + 1 := ⟨fuel - 1, by omega⟩
    show X5_pressed_L4_B (nI N) pr (X5_pressed_L4 (nI N) pr fuel) _ _ = _
    unfold X5_pressed_L4_B X5_pressed_J27
    rw [e100, if_neg (nI_ge (by omega) (by omega)), rd_nI pr (by omega) (by decide), nm_eq, nm_eq, nm_eq, show nI i + 1 = nI (i + 1) from nI_1 i, show nI (cz pr i) + 1 = nI (cz pr i + 1) from nI_1 _]
    have h := ih (i + 1) fuel (by omega) (by omega)
    rw [cz] at h
    by_cases c : pr i = 0
    · rw [if_pos c]
      rw [if_pos c] at h
      exact h
    · rw [if_neg c]
      rw [if_neg c] at h
      exact h
theorem pressed_ok {N : Nat} {pr : Nat → Int32} (hN : N ≤ 6) : X5_pressed (nI N) pr = some (nI (cz pr (100 * N))) := by
  unfold X5_pressed
  exact pressed_L hN (100 * N) 0 FU (by omega) (FU_big (by omega))
theorem mpress_L {N : Nat} {hands pressed : Nat → Int32} (hN : N ≤ 6) (h4 : hands 4 = nI N) : ∀ (d i fuel : Nat), i + d = 100 * N → d < fuel → X8_presses_L4 hands pressed fuel (nI (cz (fun k => pressed (2400 + k)) i)) (nI i) = some (nI (cz (fun k => pressed (2400 + k)) (100 * N))) := by
  intro d
  have e100 : (100 : Int32) * nI N = nI (100 * N) := pk_mul 100 N
  induction d with
  | zero =>
    intro i fuel hi hf
    obtain ⟨fuel, rfl⟩ : ∃ k, fuel = k + 1 := ⟨fuel - 1, by omega⟩
    have ei : i = 100 * N := by omega
    subst ei
    show X8_presses_L4_B hands pressed _ _ _ = _
    unfold X8_presses_L4_B
    rw [rd_lit hands 5 4 (by decide) (by decide), h4, e100, if_pos (nI_le (by omega) (by omega))]
  | succ d ih =>
    intro i fuel hi hf
    obtain ⟨fuel, rfl⟩ : ∃ k, fuel = k + 1 := ⟨fuel - 1, by omega⟩
    show X8_presses_L4_B hands pressed (X8_presses_L4 hands pressed fuel) _ _ = _
    unfold X8_presses_L4_B X8_presses_J36
    rw [rd_lit hands 5 4 (by decide) (by decide), h4, e100, if_neg (nI_ge (by omega) (by omega)), show (2400 : Int32) + nI i = nI (2400 + i) from nI_add 2400 i, rd_nI pressed (by omega) (by decide), nm_eq, nm_eq, nm_eq, nm_eq, show nI i + 1 = nI (i + 1) from nI_1 i]
    have h := ih (i + 1) fuel (by omega) (by omega)
    rw [cz] at h
    by_cases c : pressed (2400 + i) = 0
    · rw [if_pos c, show nI (cz (fun k => pressed (2400 + k)) i) + 0 = nI (cz (fun k => pressed (2400 + k)) i + 0) from nI_add _ 0]
      rw [if_pos c] at h
      exact h
    · rw [if_neg c]
      rw [if_neg c] at h
      rw [show nI (cz (fun k => pressed (2400 + k)) i) + 1 = nI (cz (fun k => pressed (2400 + k)) i + 1) from nI_1 _]
      exact h
theorem mpress_ok {N : Nat} {hands pressed : Nat → Int32} (hN : N ≤ 6) (h4 : hands 4 = nI N) : X8_presses hands pressed = some (nI (cz (fun k => pressed (2400 + k)) (100 * N))) := by
  unfold X8_presses
  exact mpress_L hN h4 (100 * N) 0 FU (by omega) (FU_big (by omega))
theorem slot_cases (p : Int32) : (X7_isSlot p = some 0 ∧ X8_noSlot p = some 1) ∨ ∃ s : Nat, s < 4 ∧ p = nI s ∧ X7_isSlot p = some 1 ∧ X8_noSlot p = some 0 := by
  unfold X7_isSlot X8_noSlot
  rw [zb_0, zb_1]
  have e4 : (4 : Int32).toInt = 4 := rfl
  have f0 : (0 : Int64).toInt = 0 := rfl
  have f3 : (3 : Int64).toInt = 3 := rfl
  by_cases h : 0 ≤ p.toInt ∧ p.toInt ≤ 3
  · right
    obtain ⟨k, e, e2, -⟩ := ofI h.1
    refine ⟨k, by omega, e, ?_, ?_⟩
    · rw [if_neg (by rw [lt0I]; omega), if_neg (by rw [leI]; omega)]
    · rw [in_yes (by omega) (by omega), bd_some, if_neg i1n0]
  · left
    refine ⟨?_, ?_⟩
    · by_cases c : p < 0
      · rw [if_pos c]
      · rw [if_neg c, if_pos (by rw [lt0I] at c; rw [leI]; omega)]
    · rw [in_no (by omega), bd_some, if_pos rfl]
theorem power_cases (p : Int32) : (X7_isPower p = some 0 ∧ X8_in (Int32.toInt64 p) 1 5 = some 0) ∨ ∃ v : Nat, 1 ≤ v ∧ v ≤ 5 ∧ p = nI v ∧ X7_isPower p = some 1 ∧ X8_in (Int32.toInt64 p) 1 5 = some 1 := by
  unfold X7_isPower
  rw [zb_0, zb_1, rd_lit st_least 7 0 (by decide) (by decide), rd_lit st_most 7 0 (by decide) (by decide)]
  have e1 : (st_least 0).toInt = 1 := rfl
  have e5 : (st_most 0).toInt = 5 := rfl
  have f1 : (1 : Int64).toInt = 1 := rfl
  have f5 : (5 : Int64).toInt = 5 := rfl
  by_cases h : 1 ≤ p.toInt ∧ p.toInt ≤ 5
  · right
    obtain ⟨k, e, e2, -⟩ := ofI (p := p) (by omega)
    refine ⟨k, by omega, by omega, e, ?_, in_yes (by omega) (by omega)⟩
    rw [if_neg (by rw [ltI]; omega), if_neg (by rw [ltI]; omega)]
  · left
    refine ⟨?_, in_no (by omega)⟩
    by_cases c : p < st_least 0
    · rw [if_pos c]
    · rw [if_neg c, if_pos (by rw [ltI] at c; rw [ltI]; omega)]
theorem copyP_ok (w h n : Int32) (ru pr lf lt : Nat → Int32) (w1 h1 n1 : Int32) (ru1 pr1 lf1 lt1 : Nat → Int32) : X5_copyFrom w h n ru pr lf lt w1 h1 n1 ru1 pr1 lf1 lt1 = some (w, h, n, va_cpy ru ru1 0 0 3, va_cpy pr pr1 0 0 600, va_cpy lf lf1 0 0 6, va_cpy lt lt1 0 0 6) := by
  unfold X5_copyFrom
  show cpI ru ru1 7 7 (nI 0) (nI 0) (nI 3) (fun w35 => cpI pr pr1 600 600 (nI 0) (nI 0) (nI 600) fun w53 => cpI lf lf1 6 6 (nI 0) (nI 0) (nI 6) fun w71 => cpI lt lt1 6 6 (nI 0) (nI 0) (nI 6) fun w89 => some (w, h, n, w35, w53, w71, w89)) = _
  rw [cpI_nI ru ru1 (by decide) (by decide) (by omega) (by omega), cpI_nI pr pr1 (by decide) (by decide) (by omega) (by omega), cpI_nI lf lf1 (by decide) (by decide) (by omega) (by omega), cpI_nI lt lt1 (by decide) (by decide) (by omega) (by omega)]
theorem cpy0 {α : Type} {f g : Nat → α} {n j : Nat} (h : j < n) : va_cpy f g 0 0 n j = f j := by
  rw [pk_cpy_in (by omega) (by omega)]
  congr 1
  omega
theorem CP_copy {w h n : Int32} {ru pr lf lt ru1 pr1 lf1 lt1 : Nat → Int32} {W H N pw sp sd : Nat} {LF LT PR : Nat → Nat} (hc : CP w h n ru pr lf lt W H N pw sp sd LF LT PR) : CP w h n (va_cpy ru ru1 0 0 3) (va_cpy pr pr1 0 0 600) (va_cpy lf lf1 0 0 6) (va_cpy lt lt1 0 0 6) W H N pw sp sd LF LT PR := by
  obtain ⟨c1, c2, c3, c4, c5, c6, c7, c8⟩ := hc
  refine ⟨c1, c2, c3, ?_, ?_, ?_, fun a ha => ?_, fun k hk => ?_⟩
  · rw [cpy0 (by decide)]; exact c4
  · rw [cpy0 (by decide)]; exact c5
  · rw [cpy0 (by decide)]; exact c6
  · rw [cpy0 ha, cpy0 ha]; exact c7 a ha
  · rw [cpy0 hk]; exact c8 k hk
section COPY
variable {wi ta ha po sp se : Nat → Int32}
theorem mcopy_2 {f t : Nat} (hf : f ≤ 4) (ht : t ≤ 4) (hne : f ≠ t) {pr lf0 lt0 : Nat → Int32} : ∀ (d i fuel : Nat) (lf lt : Nat → Int32), i + d = 6 → d < fuel → (∀ k, k < i → lf (6 * t + k) = lf0 (6 * f + k) ∧ lt (6 * t + k) = lt0 (6 * f + k)) → (∀ j, (j < 6 * t ∨ 6 * t + 6 ≤ j) → lf j = lf0 j ∧ lt j = lt0 j) → ∃ lf' lt', X8_copy_L113 fuel wi ta ha po sp se pr lf lt (nI f) (nI t) (nI i) = some (wi, ta, ha, po, sp, se, pr, lf', lt') ∧ (∀ k, k < 6 → lf' (6 * t + k) = lf0 (6 * f + k) ∧ lt' (6 * t + k) = lt0 (6 * f + k)) ∧ ∀ j, (j < 6 * t ∨ 6 * t + 6 ≤ j) → lf' j = lf0 j ∧ lt' j = lt0 j := by
  intro d
  induction d with
  | zero =>
    intro i fuel lf lt hi hfu h1 h2
    obtain ⟨fuel, rfl⟩ : ∃ k, fuel = k + 1 := ⟨fuel - 1, by omega⟩
    refine ⟨lf, lt, ?_, fun k hk => h1 k (by omega), h2⟩
    show X8_copy_L113_B _ wi ta ha po sp se pr lf lt (nI f) (nI t) (nI i) = _
    unfold X8_copy_L113_B
    rw [if_pos (show (6 : Int32) ≤ nI i from nI_le (a := 6) (by omega) (by omega))]
  | succ d ih =>
    intro i fuel lf lt hi hfu h1 h2
    obtain ⟨fuel, rfl⟩ : ∃ k, fuel = k + 1 := ⟨fuel - 1, by omega⟩
    have hs : X8_copy_L113 (fuel + 1) wi ta ha po sp se pr lf lt (nI f) (nI t) (nI i) = X8_copy_L113 fuel wi ta ha po sp se pr (upd lf (6 * t + i) (lf (6 * f + i))) (upd lt (6 * t + i) (lt (6 * f + i))) (nI f) (nI t) (nI (i + 1)) := by
      show X8_copy_L113_B (X8_copy_L113 fuel) wi ta ha po sp se pr lf lt (nI f) (nI t) (nI i) = _
      unfold X8_copy_L113_B
      rw [if_neg (show ¬ (6 : Int32) ≤ nI i from nI_ge (b := 6) (by omega) (by decide)), idx6, idx6, rd_nI lf (by omega) (by decide), wrI_nI lf (by omega) (by decide), rd_nI lt (by omega) (by decide), wrI_nI lt (by omega) (by decide), nm_eq, show nI i + 1 = nI (i + 1) from nI_1 i]
    rw [hs]
    refine ih (i + 1) fuel _ _ (by omega) (by omega) (fun k hk => ?_) (fun j hj => ?_)
    · by_cases e : k = i
      · subst e
        rw [pk_us, pk_us]
        exact h2 _ (by omega)
      · rw [pk_un (by omega), pk_un (by omega)]
        exact h1 k (by omega)
    · rw [pk_un (by omega), pk_un (by omega)]
      exact h2 j hj
theorem mcopy_1 {f t : Nat} (hf : f ≤ 4) (ht : t ≤ 4) (hne : f ≠ t) {pr0 lf lt : Nat → Int32} : ∀ (d i fuel : Nat) (pr : Nat → Int32), i + d = 600 → d < fuel → (∀ k, k < i → pr (600 * t + k) = pr0 (600 * f + k)) → (∀ j, (j < 600 * t ∨ 600 * t + 600 ≤ j) → pr j = pr0 j) → ∃ pr', X8_copy_L74 fuel wi ta ha po sp se pr lf lt (nI f) (nI t) (nI i) = X8_copy_J111 wi ta ha po sp se pr' lf lt (nI f) (nI t) ∧ (∀ k, k < 600 → pr' (600 * t + k) = pr0 (600 * f + k)) ∧ ∀ j, (j < 600 * t ∨ 600 * t + 600 ≤ j) → pr' j = pr0 j := by
  intro d
  induction d with
  | zero =>
    intro i fuel pr hi hfu h1 h2
    obtain ⟨fuel, rfl⟩ : ∃ k, fuel = k + 1 := ⟨fuel - 1, by omega⟩
    refine ⟨pr, ?_, fun k hk => h1 k (by omega), h2⟩
    show X8_copy_L74_B _ wi ta ha po sp se pr lf lt (nI f) (nI t) (nI i) = _
    unfold X8_copy_L74_B
    rw [if_pos (show (600 : Int32) ≤ nI i from nI_le (a := 600) (by omega) (by omega))]
  | succ d ih =>
    intro i fuel pr hi hfu h1 h2
    obtain ⟨fuel, rfl⟩ : ∃ k, fuel = k + 1 := ⟨fuel - 1, by omega⟩
    have ea : ∀ a : Nat, (600 : Int32) * nI a + nI i = nI (600 * a + i) := fun a => by
      show nI 600 * nI a + nI i = _
      rw [pk_mul, nI_add]
    have hs : X8_copy_L74 (fuel + 1) wi ta ha po sp se pr lf lt (nI f) (nI t) (nI i) = X8_copy_L74 fuel wi ta ha po sp se (upd pr (600 * t + i) (pr (600 * f + i))) lf lt (nI f) (nI t) (nI (i + 1)) := by
      show X8_copy_L74_B (X8_copy_L74 fuel) wi ta ha po sp se pr lf lt (nI f) (nI t) (nI i) = _
      unfold X8_copy_L74_B
      rw [if_neg (show ¬ (600 : Int32) ≤ nI i from nI_ge (b := 600) (by omega) (by decide)), ea, ea, rd_nI pr (by omega) (by decide), wrI_nI pr (by omega) (by decide), nm_eq, show nI i + 1 = nI (i + 1) from nI_1 i]
    rw [hs]
    refine ih (i + 1) fuel _ (by omega) (by omega) (fun k hk => ?_) (fun j hj => ?_)
    · by_cases e : k = i
      · subst e
        rw [pk_us]
        exact h2 _ (by omega)
      · rw [pk_un (by omega)]
        exact h1 k (by omega)
    · rw [pk_un (by omega)]
      exact h2 j hj
end COPY
def SameS (wi ta ha po sp se pr lf lt wi' ta' ha' po' sp' se' pr' lf' lt' : Nat → Int32) (s : Nat) : Prop := wi' s = wi s ∧ ta' s = ta s ∧ ha' s = ha s ∧ po' s = po s ∧ sp' s = sp s ∧ se' s = se s ∧ (∀ a, a < 6 → lf' (6 * s + a) = lf (6 * s + a) ∧ lt' (6 * s + a) = lt (6 * s + a)) ∧ ∀ k, k < 600 → pr' (600 * s + k) = pr (600 * s + k)
theorem MP_same {wi ta ha po spi se pr lf lt wi' ta' ha' po' spi' se' pr' lf' lt' : Nat → Int32} {s : Nat} {W H N pw sp sd : Nat} {LF LT PR : Nat → Nat} (h : SameS wi ta ha po spi se pr lf lt wi' ta' ha' po' spi' se' pr' lf' lt' s) (hm : MP wi ta ha po spi se pr lf lt s W H N pw sp sd LF LT PR) : MP wi' ta' ha' po' spi' se' pr' lf' lt' s W H N pw sp sd LF LT PR := by
  obtain ⟨m1, m2, m3, m4, m5, m6, m7, m8⟩ := hm
  obtain ⟨a1, a2, a3, a4, a5, a6, a7, a8⟩ := h
  exact ⟨a1.trans m1, a2.trans m2, a3.trans m3, a4.trans m4, a5.trans m5, a6.trans m6, fun a ha => ⟨(a7 a ha).1.trans (m7 a ha).1, (a7 a ha).2.trans (m7 a ha).2⟩, fun k hk => (a8 k hk).trans (m8 k hk)⟩
theorem mcopy_ok {f t : Nat} (hf : f ≤ 4) (ht : t ≤ 4) (hne : f ≠ t) (wi ta ha po spi se pr lf lt : Nat → Int32) : ∃ wi' ta' ha' po' spi' se' pr' lf' lt', X8_copy wi ta ha po spi se pr lf lt (nI f) (nI t) = some (wi', ta', ha', po', spi', se', pr', lf', lt') ∧ (∀ s, s ≤ 4 → s ≠ t → SameS wi ta ha po spi se pr lf lt wi' ta' ha' po' spi' se' pr' lf' lt' s) ∧ ∀ {W H N pw sp sd : Nat} {LF LT PR : Nat → Nat}, MP wi ta ha po spi se pr lf lt f W H N pw sp sd LF LT PR → MP wi' ta' ha' po' spi' se' pr' lf' lt' t W H N pw sp sd LF LT PR := by
  unfold X8_copy
  rw [rd_nI wi (by omega) (by decide), wrI_nI wi (by omega) (by decide), rd_nI ta (by omega) (by decide), wrI_nI ta (by omega) (by decide), rd_nI ha (by omega) (by decide), wrI_nI ha (by omega) (by decide), rd_nI po (by omega) (by decide), wrI_nI po (by omega) (by decide), rd_nI spi (by omega) (by decide), wrI_nI spi (by omega) (by decide), rd_nI se (by omega) (by decide), wrI_nI se (by omega) (by decide)]
  obtain ⟨pr', e1, h1, h2⟩ := mcopy_1 (wi := upd wi t (wi f)) (ta := upd ta t (ta f)) (ha := upd ha t (ha f)) (po := upd po t (po f)) (sp := upd spi t (spi f)) (se := upd se t (se f)) hf ht hne (pr0 := pr) (lf := lf) (lt := lt) 600 0 FU pr (by omega) (FU_big (by omega)) (fun k hk => by omega) (fun _ _ => rfl)
  obtain ⟨lf', lt', e2, h3, h4⟩ := mcopy_2 (wi := upd wi t (wi f)) (ta := upd ta t (ta f)) (ha := upd ha t (ha f)) (po := upd po t (po f)) (sp := upd spi t (spi f)) (se := upd se t (se f)) hf ht hne (pr := pr') (lf0 := lf) (lt0 := lt) 6 0 FU lf lt (by omega) (FU_big (by omega)) (fun k hk => by omega) (fun _ _ => ⟨rfl, rfl⟩)
  refine ⟨_, _, _, _, _, _, pr', lf', lt', e1.trans (by unfold X8_copy_J111; exact e2), fun s hs hst => ⟨pk_un hst, pk_un hst, pk_un hst, pk_un hst, pk_un hst, pk_un hst, fun a ha => h4 _ (by omega), fun k hk => h2 _ (by omega)⟩, ?_⟩
  rintro W H N pw sp sd LF LT PR ⟨m1, m2, m3, m4, m5, m6, m7, m8⟩
  exact ⟨pk_us.trans m1, pk_us.trans m2, pk_us.trans m3, pk_us.trans m4, pk_us.trans m5, pk_us.trans m6, fun a ha => ⟨(h3 a ha).1.trans (m7 a ha).1, (h3 a ha).2.trans (m7 a ha).2⟩, fun k hk => (h1 k hk).trans (m8 k hk)⟩
def KP (w h n : Int32) (ru pr lf lt wide tall hands power spin seed pressed leftFrom leftTo : Nat → Int32) (s : Nat) : Prop := ∃ (W H N pw sp sd : Nat) (LF LT PR : Nat → Nat), PlayN W H N pw sp sd LF LT PR ∧ CP w h n ru pr lf lt W H N pw sp sd LF LT PR ∧ MP wide tall hands power spin seed pressed leftFrom leftTo s W H N pw sp sd LF LT PR
