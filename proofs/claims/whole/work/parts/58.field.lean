theorem nar0 : vp_nar .boolean 0 = 0 := rfl
theorem nar1 : vp_nar .boolean 1 = 1 := rfl
theorem side_cases (p : Int32) : (X7_isSide p = some 0 ∧ X8_in (Int32.toInt64 p) 3 9 = some 0) ∨ ∃ v : Nat, 3 ≤ v ∧ v ≤ 9 ∧ p = nI v ∧ X7_isSide p = some 1 ∧ X8_in (Int32.toInt64 p) 3 9 = some 1 := by
  unfold X7_isSide
  rw [zb_0, zb_1]
  have e3 : (3 : Int32).toInt = 3 := rfl
  have e9 : (9 : Int32).toInt = 9 := rfl
  have f3 : (3 : Int64).toInt = 3 := rfl
  have f9 : (9 : Int64).toInt = 9 := rfl
  by_cases h : 3 ≤ p.toInt ∧ p.toInt ≤ 9
  · right
    obtain ⟨k, e, e2, -⟩ := ofI (p := p) (by omega)
    refine ⟨k, by omega, by omega, e, ?_, in_yes (by omega) (by omega)⟩
    rw [if_neg (by rw [ltI]; omega), if_neg (by rw [ltI]; omega)]
  · left
    refine ⟨?_, in_no (by omega)⟩
    by_cases c : p < 3
    · rw [if_pos c]
    · rw [if_neg c, if_pos (by rw [ltI] at c; rw [ltI]; omega)]
theorem clearL_L : ∀ (d i fuel : Nat) (wa f : Nat → Int32), i + d = 600 → d < fuel → (∀ k, k < i → f k = 0) → ∃ f', X4_clear_L10 fuel wa f (nI i) = some (wa, f') ∧ ∀ k, k < 600 → f' k = 0 := by
  intro d
  induction d with
  | zero =>
    intro i fuel wa f hi hf h
    obtain ⟨fuel, rfl⟩ : ∃ k, fuel = k + 1 := ⟨fuel - 1, by omega⟩
    refine ⟨f, ?_, fun k hk => h k (by omega)⟩
    show X4_clear_L10_B _ wa f (nI i) = _
    unfold X4_clear_L10_B
    rw [if_pos (show Int32.ofNat 600 ≤ nI i from nI_le (a := 600) (by omega) (by omega))]
  | succ d ih =>
    intro i fuel wa f hi hf h
    obtain ⟨fuel, rfl⟩ : ∃ k, fuel = k + 1 := ⟨fuel - 1, by omega⟩
    have hs : X4_clear_L10 (fuel + 1) wa f (nI i) = X4_clear_L10 fuel wa (upd f i 0) (nI (i + 1)) := by
      show X4_clear_L10_B (X4_clear_L10 fuel) wa f (nI i) = _
      unfold X4_clear_L10_B
      rw [if_neg (show ¬ Int32.ofNat 600 ≤ nI i from nI_ge (b := 600) (by omega) (by omega)), wrZ_nI f (by omega) (by decide), nm_eq, nar0, show nI i + 1 = nI (i + 1) from nI_1 i]
    rw [hs]
    refine ih (i + 1) fuel wa _ (by omega) (by omega) (fun a ha => ?_)
    by_cases e : a = i
    · subst e
      rw [pk_us]
    · rw [pk_un e]
      exact h a (by omega)
theorem clearL_ok (wa f : Nat → Int32) : ∃ wa' f', X4_clear wa f = some (wa', f') ∧ (∀ k, k < 36 → wa' k = 0) ∧ ∀ k, k < 600 → f' k = 0 := by
  unfold X4_clear
  obtain ⟨wa', e1, h1, -⟩ := fill_ok (n := 36) wa 0 (by decide)
  obtain ⟨f', e2, h2⟩ := clearL_L 600 0 FU wa' f (by omega) (FU_big (by omega)) (fun k hk => by omega)
  exact ⟨wa', f', by rw [e1, bd_some]; exact e2, h1, h2⟩
theorem clearP_ok (w h n : Int32) (pr lf lt : Nat → Int32) (p1 p2 p3 : Int32) : ∃ pr' lf' lt', X5_clear w h n pr lf lt p1 p2 p3 = some (p1, p2, p3, pr', lf', lt') ∧ (∀ k, k < 600 → pr' k = 0) ∧ ∀ k, k < 6 → lf' k = 0 ∧ lt' k = 0 := by
  unfold X5_clear
  obtain ⟨f1, e1, h1, -⟩ := fill_ok (n := 600) pr 0 (by decide)
  obtain ⟨f2, e2, h2, -⟩ := fill_ok (n := 6) lf 0 (by decide)
  obtain ⟨f3, e3, h3, -⟩ := fill_ok (n := 6) lt 0 (by decide)
  rw [e1, bd_some, e2, bd_some, e3, bd_some]
  exact ⟨f1, f2, f3, rfl, h1, fun k hk => ⟨h2 k hk, h3 k hk⟩⟩
section MFIELD
variable {th p1 p2 : Int32} {wi ta ha pr lf lt lo : Nat → Int32}
theorem mfield_3 : ∀ (d i fuel : Nat) (wa : Nat → Int32), i + d = 36 → d < fuel → (∀ k, k < i → wa k = 0) → ∃ wa', X8_field_L149 fuel th wi ta ha pr lf lt wa lo p1 p2 (nI i) = some (p1 * p2, th, wi, ta, ha, pr, lf, lt, wa', lo) ∧ ∀ k, k < 36 → wa' k = 0 := by
  intro d
  induction d with
  | zero =>
    intro i fuel wa hi hf h
    obtain ⟨fuel, rfl⟩ : ∃ k, fuel = k + 1 := ⟨fuel - 1, by omega⟩
    refine ⟨wa, ?_, fun k hk => h k (by omega)⟩
    show X8_field_L149_B _ th wi ta ha pr lf lt wa lo p1 p2 (nI i) = _
    unfold X8_field_L149_B
    rw [if_pos (show (36 : Int32) ≤ nI i from nI_le (a := 36) (by omega) (by omega))]
    rfl
  | succ d ih =>
    intro i fuel wa hi hf h
    obtain ⟨fuel, rfl⟩ : ∃ k, fuel = k + 1 := ⟨fuel - 1, by omega⟩
    have hs : X8_field_L149 (fuel + 1) th wi ta ha pr lf lt wa lo p1 p2 (nI i) = X8_field_L149 fuel th wi ta ha pr lf lt (upd wa i 0) lo p1 p2 (nI (i + 1)) := by
      show X8_field_L149_B (X8_field_L149 fuel) th wi ta ha pr lf lt wa lo p1 p2 (nI i) = _
      unfold X8_field_L149_B
      rw [if_neg (show ¬ (36 : Int32) ≤ nI i from nI_ge (b := 36) (by omega) (by decide)), wrI_nI wa (by omega) (by decide), nm_eq, show nI i + 1 = nI (i + 1) from nI_1 i]
    rw [hs]
    refine ih (i + 1) fuel _ (by omega) (by omega) (fun a ha => ?_)
    by_cases e : a = i
    · subst e
      rw [pk_us]
    · rw [pk_un e]
      exact h a (by omega)
theorem mfield_2 {lf0 lt0 : Nat → Int32} {wa : Nat → Int32} : ∀ (d i fuel : Nat) (lf lt : Nat → Int32), i + d = 6 → d < fuel → (∀ k, k < i → lf (24 + k) = 0 ∧ lt (24 + k) = 0) → LowEq lf lf0 24 → LowEq lt lt0 24 → ∃ lf' lt', X8_field_L111 fuel th wi ta ha pr lf lt wa lo p1 p2 (nI i) = X8_field_J146 th wi ta ha pr lf' lt' wa lo p1 p2 ∧ (∀ k, k < 6 → lf' (24 + k) = 0 ∧ lt' (24 + k) = 0) ∧ LowEq lf' lf0 24 ∧ LowEq lt' lt0 24 := by
  intro d
  induction d with
  | zero =>
    intro i fuel lf lt hi hf h q1 q2
    obtain ⟨fuel, rfl⟩ : ∃ k, fuel = k + 1 := ⟨fuel - 1, by omega⟩
    refine ⟨lf, lt, ?_, fun k hk => h k (by omega), q1, q2⟩
    show X8_field_L111_B _ th wi ta ha pr lf lt wa lo p1 p2 (nI i) = _
    unfold X8_field_L111_B
    rw [if_pos (show (6 : Int32) ≤ nI i from nI_le (a := 6) (by omega) (by omega))]
  | succ d ih =>
    intro i fuel lf lt hi hf h q1 q2
    obtain ⟨fuel, rfl⟩ : ∃ k, fuel = k + 1 := ⟨fuel - 1, by omega⟩
    have hs : X8_field_L111 (fuel + 1) th wi ta ha pr lf lt wa lo p1 p2 (nI i) = X8_field_L111 fuel th wi ta ha pr (upd lf (24 + i) 0) (upd lt (24 + i) 0) wa lo p1 p2 (nI (i + 1)) := by
      show X8_field_L111_B (X8_field_L111 fuel) th wi ta ha pr lf lt wa lo p1 p2 (nI i) = _
      unfold X8_field_L111_B
      rw [if_neg (show ¬ (6 : Int32) ≤ nI i from nI_ge (b := 6) (by omega) (by decide)), show (24 : Int32) + nI i = nI (24 + i) from nI_add 24 i, wrI_nI lf (by omega) (by decide), wrI_nI lt (by omega) (by decide), nm_eq, show nI i + 1 = nI (i + 1) from nI_1 i]
    rw [hs]
    refine ih (i + 1) fuel _ _ (by omega) (by omega) (fun a ha => ?_) (fun k hk => ?_) (fun k hk => ?_)
    · by_cases e : a = i
      · subst e
        rw [pk_us, pk_us]
        exact ⟨rfl, rfl⟩
      · rw [pk_un (by omega), pk_un (by omega)]
        exact h a (by omega)
    · rw [pk_un (by omega)]
      exact q1 k hk
    · rw [pk_un (by omega)]
      exact q2 k hk
theorem mfield_1 {pr0 : Nat → Int32} {lf lt wa : Nat → Int32} : ∀ (d i fuel : Nat) (pr lo : Nat → Int32), i + d = 600 → d < fuel → (∀ k, k < i → pr (2400 + k) = 0 ∧ lo k = 0) → LowEq pr pr0 2400 → ∃ pr' lo', X8_field_L74 fuel th wi ta ha pr lf lt wa lo p1 p2 (nI i) = X8_field_J108 th wi ta ha pr' lf lt wa lo' p1 p2 ∧ (∀ k, k < 600 → pr' (2400 + k) = 0 ∧ lo' k = 0) ∧ LowEq pr' pr0 2400 := by
  intro d
  induction d with
  | zero =>
    intro i fuel pr lo hi hf h q1
    obtain ⟨fuel, rfl⟩ : ∃ k, fuel = k + 1 := ⟨fuel - 1, by omega⟩
    refine ⟨pr, lo, ?_, fun k hk => h k (by omega), q1⟩
    show X8_field_L74_B _ th wi ta ha pr lf lt wa lo p1 p2 (nI i) = _
    unfold X8_field_L74_B
    rw [if_pos (show (600 : Int32) ≤ nI i from nI_le (a := 600) (by omega) (by omega))]
  | succ d ih =>
    intro i fuel pr lo hi hf h q1
    obtain ⟨fuel, rfl⟩ : ∃ k, fuel = k + 1 := ⟨fuel - 1, by omega⟩
    have hs : X8_field_L74 (fuel + 1) th wi ta ha pr lf lt wa lo p1 p2 (nI i) = X8_field_L74 fuel th wi ta ha (upd pr (2400 + i) 0) lf lt wa (upd lo i 0) p1 p2 (nI (i + 1)) := by
      show X8_field_L74_B (X8_field_L74 fuel) th wi ta ha pr lf lt wa lo p1 p2 (nI i) = _
      unfold X8_field_L74_B
      rw [if_neg (show ¬ (600 : Int32) ≤ nI i from nI_ge (b := 600) (by omega) (by decide)), show (2400 : Int32) + nI i = nI (2400 + i) from nI_add 2400 i, wrI_nI pr (by omega) (by decide), wrZ_nI lo (by omega) (by decide), nm_eq, nar0, show nI i + 1 = nI (i + 1) from nI_1 i]
    rw [hs]
    refine ih (i + 1) fuel _ _ (by omega) (by omega) (fun a ha => ?_) (fun k hk => ?_)
    · by_cases e : a = i
      · subst e
        rw [pk_us, pk_us]
        exact ⟨rfl, rfl⟩
      · rw [pk_un (by omega), pk_un e]
        exact h a (by omega)
    · rw [pk_un (by omega)]
      exact q1 k hk
end MFIELD
theorem mfield_ok (th : Int32) (wi ta ha pr lf lt wa lo : Nat → Int32) (p1 p2 : Int32) : ∃ pr' lf' lt' wa' lo', X8_field_L74 FU th wi ta ha pr lf lt wa lo p1 p2 0 = some (p1 * p2, th, wi, ta, ha, pr', lf', lt', wa', lo') ∧ (∀ k, k < 600 → pr' (2400 + k) = 0 ∧ lo' k = 0) ∧ LowEq pr' pr 2400 ∧ (∀ k, k < 6 → lf' (24 + k) = 0 ∧ lt' (24 + k) = 0) ∧ LowEq lf' lf 24 ∧ LowEq lt' lt 24 ∧ ∀ k, k < 36 → wa' k = 0 := by
  obtain ⟨pr', lo', e1, h1, h2⟩ := mfield_1 (th := th) (p1 := p1) (p2 := p2) (wi := wi) (ta := ta) (ha := ha) (lf := lf) (lt := lt) (wa := wa) (pr0 := pr) 600 0 FU pr lo (by omega) (FU_big (by omega)) (fun k hk => by omega) (fun _ _ => rfl)
  obtain ⟨lf', lt', e2, h3, h4, h5⟩ := mfield_2 (th := th) (p1 := p1) (p2 := p2) (wi := wi) (ta := ta) (ha := ha) (pr := pr') (lo := lo') (wa := wa) (lf0 := lf) (lt0 := lt) 6 0 FU lf lt (by omega) (FU_big (by omega)) (fun k hk => by omega) (fun _ _ => rfl) (fun _ _ => rfl)
  obtain ⟨wa', e3, h6⟩ := mfield_3 (th := th) (p1 := p1) (p2 := p2) (wi := wi) (ta := ta) (ha := ha) (pr := pr') (lf := lf') (lt := lt') (lo := lo') 36 0 FU wa (by omega) (FU_big (by omega)) (fun k hk => by omega)
  refine ⟨pr', lf', lt', wa', lo', ?_, h1, h2, h3, h4, h5, h6⟩
  refine e1.trans ?_
  unfold X8_field_J108
  refine e2.trans ?_
  unfold X8_field_J146
  exact e3
section OPS14
variable {w h n ready : Int32} {ru pr lf lt rows wide tall hands power spin seed pressed leftFrom leftTo : Nat → Int32}
theorem op_field {waits lostRow wait isLost : Nat → Int32} (hI : InvP w h n ready ru pr lf lt rows wide tall hands power spin seed pressed leftFrom leftTo) (hL : InvL waits lostRow wait isLost) (th p1 p2 p3 : Int32) : ∃ oc om, X7_field w h n pr lf lt waits lostRow ready p1 p2 p3 = some oc ∧ X8_field th wide tall hands pressed leftFrom leftTo wait isLost p1 p2 p3 = some om ∧ oc.1 = om.1 ∧ InvP oc.2.1 oc.2.2.1 oc.2.2.2.1 oc.2.2.2.2.2.2.2.2.2 ru oc.2.2.2.2.1 oc.2.2.2.2.2.1 oc.2.2.2.2.2.2.1 rows om.2.2.1 om.2.2.2.1 om.2.2.2.2.1 power spin seed om.2.2.2.2.2.1 om.2.2.2.2.2.2.1 om.2.2.2.2.2.2.2.1 ∧ InvL oc.2.2.2.2.2.2.2.1 oc.2.2.2.2.2.2.2.2.1 om.2.2.2.2.2.2.2.2.1 om.2.2.2.2.2.2.2.2.2 ∧ LowEq om.2.2.1 wide 4 ∧ LowEq om.2.2.2.1 tall 4 ∧ LowEq om.2.2.2.2.1 hands 4 ∧ LowEq om.2.2.2.2.2.1 pressed 2400 ∧ LowEq om.2.2.2.2.2.2.1 leftFrom 24 ∧ LowEq om.2.2.2.2.2.2.2.1 leftTo 24 := by
  have hno : ∃ oc om, some ((-2 : Int32), w, h, n, pr, lf, lt, waits, lostRow, ready) = some oc ∧ some ((-2 : Int32), (0 : Int32), wide, tall, hands, pressed, leftFrom, leftTo, wait, isLost) = some om ∧ oc.1 = om.1 ∧ InvP oc.2.1 oc.2.2.1 oc.2.2.2.1 oc.2.2.2.2.2.2.2.2.2 ru oc.2.2.2.2.1 oc.2.2.2.2.2.1 oc.2.2.2.2.2.2.1 rows om.2.2.1 om.2.2.2.1 om.2.2.2.2.1 power spin seed om.2.2.2.2.2.1 om.2.2.2.2.2.2.1 om.2.2.2.2.2.2.2.1 ∧ InvL oc.2.2.2.2.2.2.2.1 oc.2.2.2.2.2.2.2.2.1 om.2.2.2.2.2.2.2.2.1 om.2.2.2.2.2.2.2.2.2 ∧ LowEq om.2.2.1 wide 4 ∧ LowEq om.2.2.2.1 tall 4 ∧ LowEq om.2.2.2.2.1 hands 4 ∧ LowEq om.2.2.2.2.2.1 pressed 2400 ∧ LowEq om.2.2.2.2.2.2.1 leftFrom 24 ∧ LowEq om.2.2.2.2.2.2.2.1 leftTo 24 := ⟨_, _, rfl, rfl, rfl, hI, hL, fun _ _ => rfl, fun _ _ => rfl, fun _ _ => rfl, fun _ _ => rfl, fun _ _ => rfl, fun _ _ => rfl⟩
  have hI0 := hI
  obtain ⟨W, H, N, pw, sp, sd, R, LF, LT, PR, hn, hc, hm, eR, hR, hT⟩ := hI
  obtain ⟨hb, n1, n2, n3, n4, n5⟩ := hn
  obtain ⟨c1, c2, en, c4, c5, c6, c7, c8⟩ := hc
  obtain ⟨m1, m2, e4, m4, m5, m6, m7, m8⟩ := hm
  unfold X7_field X8_field
  rcases side_cases p1 with ⟨t1, t2⟩ | ⟨W', v1, v2, rfl, t1, t2⟩
  · rw [t1, t2, bd_some, bd_some, if_pos rfl, if_pos rfl]
    exact hno
  · rw [t1, t2, bd_some, bd_some, if_neg i1n0, if_neg i1n0]
    rcases side_cases p2 with ⟨q1, q2⟩ | ⟨H', v3, v4, rfl, q1, q2⟩
    · rw [q1, q2, bd_some, bd_some, if_pos rfl, if_pos rfl]
      exact hno
    · rw [q1, q2, bd_some, bd_some, if_neg i1n0, if_neg i1n0]
      have f2 : (2 : Int64).toInt = 2 := rfl
      have f6 : (6 : Int64).toInt = 6 := rfl
      have g2 : (2 : Int32).toInt = 2 := rfl
      have g6 : (6 : Int32).toInt = 6 := rfl
      by_cases c : 2 ≤ p3.toInt ∧ p3.toInt ≤ 6
      · rw [in_yes (by omega) (by omega), bd_some, if_neg i1n0, if_neg (by rw [ltI]; omega), if_pos (by rw [leI]; omega)]
        obtain ⟨N', ek, e2, -⟩ := ofI (p := p3) (by omega)
        subst ek
        obtain ⟨pr', lf', lt', a1, a2, a3⟩ := clearP_ok w h n pr lf lt (nI W') (nI H') (nI N')
        obtain ⟨wa', f', b1, b2, b3⟩ := clearL_ok waits lostRow
        rw [a1, bd_some, b1, bd_some, eR, show (0 : Int32) = nI 0 from rfl, keep_ok hR (by decide), bd_some, wrI_lit wide 5 4 (by decide) (by decide), wrI_lit tall 5 4 (by decide) (by decide), wrI_lit hands 5 4 (by decide) (by decide)]
        obtain ⟨xp, xf, xt, xw, xl, d1, d2, d3, d4, d5, d6, d7⟩ := mfield_ok 0 (upd wide 4 (nI W')) (upd tall 4 (nI H')) (upd hands 4 (nI N')) pressed leftFrom leftTo wait isLost (nI W') (nI H')
        refine ⟨_, _, rfl, d1, rfl, ⟨W', H', N', pw, sp, sd, 0, fun _ => 0, fun _ => 0, fun _ => 0, ⟨⟨v1, v2, v3, v4, by omega, by omega⟩, n1, n2, n3, fun _ _ => ⟨Nat.le_refl 0, Nat.zero_le _⟩, fun _ _ => Nat.zero_le _⟩, ⟨rfl, rfl, rfl, c4, c5, c6, fun k hk => a3 k hk, fun k hk => a2 k hk⟩, ⟨(pk_us : upd wide 4 (nI W') 4 = nI W'), (pk_us : upd tall 4 (nI H') 4 = nI H'), (pk_us : upd hands 4 (nI N') 4 = nI N'), m4, m5, m6, fun k hk => d4 k hk, fun k hk => (d2 k hk).1⟩, ?_, by omega, fun j hj => by omega⟩, ⟨fun _ => 0, fun k hk => ⟨b2 k hk, d7 k hk, Nat.zero_le _⟩, fun k hk => ⟨(b3 k hk).trans (d2 k hk).2.symm, Or.inl (d2 k hk).2⟩⟩, fun k hk => pk_un (by omega), fun k hk => pk_un (by omega), fun k hk => pk_un (by omega), d3, d5, d6⟩
        exact congrArg nI (show (if 0 < R then 0 else R) = 0 from by split <;> omega)
      · rw [in_no (by omega), bd_some, if_pos rfl]
        by_cases d : p3 < 2
        · rw [if_pos d]
          exact hno
        · rw [if_neg d, if_neg (by rw [ltI] at d; rw [leI]; omega)]
          exact hno
end OPS14
