def trj (W H N pw sp sd : Nat) (LF LT : Nat → Nat) (prs : Nat → Nat → Nat) : Nat → (Nat → Nat)
  | 0 => startA W H N
  | t + 1 => advA W H N pw sp sd t (fun a => Lf LF LT a t) (prs t) (trj W H N pw sp sd LF LT prs t)
theorem trj_ok {W H N pw sp sd : Nat} {LF LT : Nat → Nat} {prs : Nat → Nat → Nat} (hb : bnd W H N) : ∀ t, okS W H N (trj W H N pw sp sd LF LT prs t)
  | 0 => startA_ok hb
  | t + 1 => by
    rw [trj]
    exact advA_ok hb.2.1 hb.2.2.2.1 hb.2.2.2.2.2 (trj_ok hb t)
def prT (PR : Nat → Nat) : Nat → Nat → Nat := fun t a => PR (100 * a + t)
def PlayN (W H N pw sp sd : Nat) (LF LT PR : Nat → Nat) : Prop := bnd W H N ∧ (1 ≤ pw ∧ pw ≤ 5) ∧ sp ≤ 9 ∧ sd ≤ 999 ∧ (∀ a, a < 6 → LF a ≤ LT a ∧ LT a ≤ 100) ∧ ∀ k, k < 600 → PR k ≤ 5
def CP (w h n : Int32) (ru pr lf lt : Nat → Int32) (W H N pw sp sd : Nat) (LF LT PR : Nat → Nat) : Prop := w = nI W ∧ h = nI H ∧ n = nI N ∧ ru 0 = nI pw ∧ ru 1 = nI sp ∧ ru 2 = nI sd ∧ (∀ a, a < 6 → lf a = nI (LF a) ∧ lt a = nI (LT a)) ∧ ∀ k, k < 600 → pr k = nI (PR k)
def MP (wide tall hands power spin seed pressed leftFrom leftTo : Nat → Int32) (P W H N pw sp sd : Nat) (LF LT PR : Nat → Nat) : Prop := wide P = nI W ∧ tall P = nI H ∧ hands P = nI N ∧ power P = nI pw ∧ spin P = nI sp ∧ seed P = nI sd ∧ (∀ a, a < 6 → leftFrom (6 * P + a) = nI (LF a) ∧ leftTo (6 * P + a) = nI (LT a)) ∧ ∀ k, k < 600 → pressed (600 * P + k) = nI (PR k)
theorem cpI_nI {β : Type} (f g : Nat → Int32) {n0 n1 a b c : Nat} (h0 : n0 < 2 ^ 31) (h1 : n1 < 2 ^ 31) (ha : a + c ≤ n0) (hb : b + c ≤ n1) (k : (Nat → Int32) → Option β) : cpI f g n0 n1 (nI a) (nI b) (nI c) k = k (va_cpy f g a b c) := by
  unfold cpI
  rw [if_pos ⟨nI_pos (by omega), nI_pos (by omega), nI_pos (by omega), by rw [nI_clamp (by omega), nI_clamp (by omega)]; exact ha, by rw [nI_clamp (by omega), nI_clamp (by omega)]; exact hb⟩, nI_clamp (by omega), nI_clamp (by omega), nI_clamp (by omega)]
def TR (rows : Nat → Int32) (k : Nat) (A : Nat → Nat) : Prop := ∀ j, j < 13 → rows (13 * k + j) = nI (A j)
theorem save_ok {now rows : Nat → Int32} {A : Nat → Nat} {t : Nat} (ht : t < 100) (hr : Rep now A) : ∃ rows', X6_save now rows (nI t) = some rows' ∧ TR rows' t A ∧ ∀ k B, k ≠ t → TR rows k B → TR rows' k B := by
  unfold X6_save
  rw [show nI t * 13 = nI (t * 13) from pk_mul t 13]
  show ∃ rows', cpI now rows 13 1300 (nI 0) (nI (t * 13)) (nI 13) (fun w15 => some w15) = some rows' ∧ _
  rw [cpI_nI now rows (by decide) (by decide) (by omega) (by omega)]
  refine ⟨_, rfl, fun j hj => ?_, fun k B hk h j hj => ?_⟩
  · rw [pk_cpy_in (by omega) (by omega)]
    have : 0 + (13 * t + j - t * 13) = j := by omega
    rw [this]
    exact hr j hj
  · rw [pk_cpy_out (by omega)]
    exact h j hj
theorem load_ok {now rows : Nat → Int32} {A : Nat → Nat} {t : Nat} (ht : t < 100) (h : TR rows t A) : ∃ now', X6_load rows now (nI t) = some now' ∧ Rep now' A := by
  unfold X6_load
  rw [show nI t * 13 = nI (t * 13) from pk_mul t 13]
  show ∃ now', cpI rows now 1300 13 (nI (t * 13)) (nI 0) (nI 13) (fun w15 => some w15) = some now' ∧ _
  rw [cpI_nI rows now (by decide) (by decide) (by omega) (by omega)]
  refine ⟨_, rfl, fun j hj => ?_⟩
  rw [pk_cpy_in (by omega) (by omega)]
  have : t * 13 + (j - 0) = 13 * t + j := by omega
  rw [this]
  exact h j hj
theorem at_ok {rows : Nat → Int32} {A : Nat → Nat} {t j : Nat} (ht : t < 100) (hj : j < 13) (h : TR rows t A) : X6_at rows (nI t) (nI j) = some (nI (A j)) := by
  unfold X6_at
  have e : nI t * 13 + nI j = nI (13 * t + j) := by
    show nI t * nI 13 + nI j = _
    rw [pk_mul, nI_add, Nat.mul_comm]
  rw [e, rd_nI rows (by omega) (by decide), h j hj]
theorem pressOf_ok {pr : Nat → Int32} {a t : Nat} (ha : a < 6) (ht : t < 100) : X5_pressOf pr (nI a) (nI t) = some (pr (100 * a + t)) := by
  unfold X5_pressOf
  have e : nI a * 100 + nI t = nI (100 * a + t) := by
    show nI a * nI 100 + nI t = _
    rw [pk_mul, nI_add, Nat.mul_comm]
  rw [e, rd_nI pr (by omega) (by decide)]
theorem fillP_L {N t : Nat} {pr : Nat → Int32} (hN : N ≤ 6) (ht : t < 100) : ∀ (d i fuel : Nat) (f : Nat → Int32), i + d = N → d < fuel → (∀ a, a < i → f a = pr (100 * a + t)) → ∃ f', X5_fillPresses_L2 6 (nI N) pr fuel f (nI t) (nI i) = some f' ∧ ∀ a, a < N → f' a = pr (100 * a + t) := by
  intro d
  induction d with
  | zero =>
    intro i fuel f hi hf h
    obtain ⟨fuel, rfl⟩ : ∃ k, fuel = k + 1 := ⟨fuel - 1, by omega⟩
    refine ⟨f, ?_, fun a ha => h a (by omega)⟩
    show X5_fillPresses_L2_B 6 (nI N) pr _ f (nI t) (nI i) = _
    unfold X5_fillPresses_L2_B
    rw [if_pos (nI_le (by omega) (by omega))]
  | succ d ih =>
    intro i fuel f hi hf h
    obtain ⟨fuel, rfl⟩ : ∃ k, fuel = k + 1 := ⟨fuel - 1, by omega⟩
    have hs : X5_fillPresses_L2 6 (nI N) pr (fuel + 1) f (nI t) (nI i) = X5_fillPresses_L2 6 (nI N) pr fuel (upd f i (pr (100 * i + t))) (nI t) (nI (i + 1)) := by
      show X5_fillPresses_L2_B 6 (nI N) pr (X5_fillPresses_L2 6 (nI N) pr fuel) f (nI t) (nI i) = _
      unfold X5_fillPresses_L2_B
      rw [if_neg (nI_ge (by omega) (by omega)), pressOf_ok (by omega) ht, bd_some, wrI_nI f (by omega) (by decide), nm_eq, show nI i + 1 = nI (i + 1) from nI_1 i]
    rw [hs]
    refine ih (i + 1) fuel _ (by omega) (by omega) (fun a ha => ?_)
    by_cases e : a = i
    · subst e
      rw [pk_us]
    · rw [pk_un e]
      exact h a (by omega)
theorem fillP_ok {N t : Nat} {pr : Nat → Int32} (hN : N ≤ 6) (ht : t < 100) (f : Nat → Int32) : ∃ f', X5_fillPresses 6 (nI N) pr f (nI t) = some f' ∧ ∀ a, a < N → f' a = pr (100 * a + t) := by
  unfold X5_fillPresses
  exact fillP_L hN ht N 0 FU f (by omega) (FU_big (by omega)) (fun a ha => by omega)
theorem ahead_ok {W H N k : Nat} {rows now : Nat → Int32} {T : Nat → Nat → Nat} (hb : bnd W H N) (hk : k ≤ 100) (h0 : T 0 = startA W H N) (hT : ∀ j, j < k → TR rows j (T (j + 1))) : ∃ now', X7_setBoardAhead (nI W) (nI H) (nI N) rows now (nI k) = some now' ∧ Rep now' (T k) := by
  unfold X7_setBoardAhead
  by_cases c : k = 0
  · subst c
    rw [if_pos (show nI 0 ≤ 0 by decide)]
    obtain ⟨n1, e1, r1⟩ := start_ok hb now
    rw [e1, bd_some, h0]
    exact ⟨n1, rfl, r1⟩
  · rw [if_neg (nI_nle (by omega) (by omega)), show nI k - 1 = nI (k - 1) from pk_sub (b := 1) (by omega)]
    obtain ⟨n1, e1, r1⟩ := load_ok (now := now) (t := k - 1) (by omega) (hT (k - 1) (by omega))
    rw [e1, bd_some]
    have : k - 1 + 1 = k := by omega
    rw [this] at r1
    exact ⟨n1, rfl, r1⟩
section TRUE
variable {w h n : Int32} {ru pr lf lt : Nat → Int32} {W H N pw sp sd : Nat} {LF LT PR : Nat → Nat}
theorem adv_P (hn : PlayN W H N pw sp sd LF LT PR) (hc : CP w h n ru pr lf lt W H N pw sp sd LF LT PR) {power t : Nat} {row now : Nat → Int32} {A prs : Nat → Nat} (hpw : power ≤ 5) (ht : t < 100) (hrow : ∀ a, a < N → Lf LF LT a t = false → row a = nI (prs a) ∧ prs a ≤ 5) (hA : okS W H N A) (hr : Rep now A) : ∃ now', X0_advance 6 w h n ru lf lt row now (nI power) (nI t) = some now' ∧ Rep now' (advA W H N power sp sd t (fun a => Lf LF LT a t) prs A) := by
  obtain ⟨hb, -, h1, h2, h3, -⟩ := hn
  obtain ⟨rfl, rfl, rfl, -, e1, e2, e3, -⟩ := hc
  have hb' := hb
  obtain ⟨b1, b2, b3, b4, b5, b6⟩ := hb'
  exact advance_ok hb (by omega) (by decide) e1 e2 h1 h2 ht (by omega) (fun a ha => (e3 a (by omega)).1) (fun a ha => (e3 a (by omega)).2) (fun a ha => by have := h3 a (by omega); omega) (fun a ha => by have := h3 a (by omega); omega) (fun a ha hl => (hrow a ha hl).1) (fun a ha hl => (hrow a ha hl).2) hA hr
theorem truly_L (hn : PlayN W H N pw sp sd LF LT PR) (hc : CP w h n ru pr lf lt W H N pw sp sd LF LT PR) {t : Nat} (ht : t < 100) (rd0 : Int32) : ∀ (d i fuel : Nat) (rows now ps : Nat → Int32), i + d = t + 1 → d < fuel → Rep now (trj W H N pw sp sd LF LT (prT PR) i) → (∀ j, j < i → TR rows j (trj W H N pw sp sd LF LT (prT PR) (j + 1))) → ∃ rows' now' ps', X7_playTrulyTo_L25 w h n ru pr lf lt fuel rd0 rows now ps (nI t) (nI i) = some (nI (t + 1), rows', now', ps') ∧ Rep now' (trj W H N pw sp sd LF LT (prT PR) (t + 1)) ∧ ∀ j, j < t + 1 → TR rows' j (trj W H N pw sp sd LF LT (prT PR) (j + 1)) := by
  have hn' := hn
  obtain ⟨hb, ⟨p1, p5⟩, -, -, -, hPR⟩ := hn'
  have hc' := hc
  obtain ⟨ew, eh, en, e0, -, -, -, ep⟩ := hc'
  have hb' := hb
  obtain ⟨b1, b2, b3, b4, b5, b6⟩ := hb'
  intro d
  induction d with
  | zero =>
    intro i fuel rows now ps hi hf hr hT
    obtain ⟨fuel, rfl⟩ : ∃ k, fuel = k + 1 := ⟨fuel - 1, by omega⟩
    have ei : i = t + 1 := by omega
    subst ei
    refine ⟨rows, now, ps, ?_, hr, hT⟩
    show X7_playTrulyTo_L25_B w h n ru pr lf lt _ rd0 rows now ps (nI t) (nI (t + 1)) = _
    unfold X7_playTrulyTo_L25_B
    rw [if_pos (nI_lt (by omega) (by omega))]
    unfold X7_playTrulyTo_J85
    rw [show nI t + 1 = nI (t + 1) from nI_1 t]
  | succ d ih =>
    intro i fuel rows now ps hi hf hr hT
    obtain ⟨fuel, rfl⟩ : ∃ k, fuel = k + 1 := ⟨fuel - 1, by omega⟩
    obtain ⟨ps1, f1, f2⟩ := fillP_ok (pr := pr) (t := i) b6 (by omega) ps
    obtain ⟨now1, a1, a2⟩ := adv_P hn hc (power := pw) (t := i) (row := ps1) (prs := prT PR i) p5 (by omega) (fun a ha _ => ⟨by rw [f2 a ha, ep _ (by omega)]; rfl, hPR _ (by omega)⟩) (trj_ok hb i) hr
    obtain ⟨rows1, s1, s2, s3⟩ := save_ok (rows := rows) (t := i) (by omega) a2
    have hs : X7_playTrulyTo_L25 w h n ru pr lf lt (fuel + 1) rd0 rows now ps (nI t) (nI i) = X7_playTrulyTo_L25 w h n ru pr lf lt fuel rd0 rows1 now1 ps1 (nI t) (nI (i + 1)) := by
      show X7_playTrulyTo_L25_B w h n ru pr lf lt (X7_playTrulyTo_L25 w h n ru pr lf lt fuel) rd0 rows now ps (nI t) (nI i) = _
      unfold X7_playTrulyTo_L25_B
      rw [if_neg (nI_nlt (by omega) (by omega)), en, f1, bd_some, rd_lit ru 7 0 (by decide) (by decide), e0, ← en, a1, bd_some, s1, bd_some, nm_eq, show nI i + 1 = nI (i + 1) from nI_1 i]
    rw [hs]
    refine ih (i + 1) fuel rows1 now1 ps1 (by omega) (by omega) a2 (fun j hj => ?_)
    by_cases e : j = i
    · subst e
      exact s2
    · exact s3 j _ e (hT j (by omega))
theorem playTruly_ok (hn : PlayN W H N pw sp sd LF LT PR) (hc : CP w h n ru pr lf lt W H N pw sp sd LF LT PR) {t R : Nat} (ht : t < 100) (hR : R ≤ 100) (rows now ps : Nat → Int32) (hT : ∀ j, j < R → TR rows j (trj W H N pw sp sd LF LT (prT PR) (j + 1))) : ∃ R' rows' now' ps', X7_playTrulyTo w h n ru pr lf lt (nI R) rows now ps (nI t) = some (nI R', rows', now', ps') ∧ t < R' ∧ R' ≤ 100 ∧ ∀ j, j < R' → TR rows' j (trj W H N pw sp sd LF LT (prT PR) (j + 1)) := by
  have hc' := hc
  obtain ⟨ew, eh, en, -, -, -, -, -⟩ := hc'
  unfold X7_playTrulyTo
  by_cases c : R ≤ t
  · rw [if_pos (nI_le c (by omega))]
    obtain ⟨n1, e1, r1⟩ := ahead_ok (now := now) (T := trj W H N pw sp sd LF LT (prT PR)) hn.1 hR rfl hT
    rw [ew, eh, en, e1, bd_some, ← ew, ← eh, ← en]
    obtain ⟨rows', now', ps', e2, -, hT'⟩ := truly_L hn hc ht (nI R) (t + 1 - R) R FU rows n1 ps (by omega) (FU_big (by omega)) r1 hT
    exact ⟨t + 1, rows', now', ps', e2, by omega, by omega, hT'⟩
  · rw [if_neg (nI_ge (by omega) (by omega))]
    exact ⟨R, rows, now, ps, rfl, by omega, hR, hT⟩
end TRUE
