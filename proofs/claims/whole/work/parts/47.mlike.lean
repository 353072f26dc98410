theorem mlike_0 {n1 n3 : Nat} {a1 a3 : Nat → Int32} {l1 l3 : Int32} : ∀ (d i fuel : Nat), i + d = 13 → d < fuel → X8_isLike_L6 n1 n3 a1 a3 fuel l1 l3 0 (nI i) = some 0 := by
  intro d
  induction d with
  | zero =>
    intro i fuel hi hf
    obtain ⟨fuel, rfl⟩ : ∃ k, fuel = k + 1 := ⟨fuel - 1, by omega⟩
    have ei : i = 13 := by omega
    subst ei
    show X8_isLike_L6_B n1 n3 a1 a3 _ l1 l3 0 (nI 13) = _
    unfold X8_isLike_L6_B
    rw [if_pos (by decide), zb_0]
  | succ d ih =>
    intro i fuel hi hf
    obtain ⟨fuel, rfl⟩ : ∃ k, fuel = k + 1 := ⟨fuel - 1, by omega⟩
    show X8_isLike_L6_B n1 n3 a1 a3 (X8_isLike_L6 n1 n3 a1 a3 fuel) l1 l3 0 (nI i) = _
    unfold X8_isLike_L6_B X8_isLike_J37 X8_isLike_J38
    rw [if_neg (show ¬ (13 : Int32) ≤ nI i from nI_ge (b := 13) (by omega) (by decide)), if_pos rfl, nm_eq, show nI i + 1 = nI (i + 1) from nI_1 i]
    exact ih (i + 1) fuel (by omega) (by omega)
theorem mlike_L {W H N n1 n3 F G : Nat} {a1 a3 : Nat → Int32} {A B : Nat → Nat} (hn1 : n1 < 2 ^ 31) (hn3 : n3 < 2 ^ 31) (hF : F + 13 ≤ n1) (hG : G + 13 ≤ n3) (t1 : TM W N a1 F A) (t3 : TM W N a3 G B) (hW : W ≤ 9) (hH : H ≤ 9) (hA : okS W H N A) (hB : okS W H N B) (h1 : ∀ j, j < 13 → A j < 2 ^ 31) (h2 : ∀ j, j < 13 → B j < 2 ^ 31) (hm : ∀ j, N ≤ j → j < 6 → A j = B j) : ∀ (d i fuel : Nat), i + d = 13 → d < fuel → (∀ j, j < i → A j = B j) → X8_isLike_L6 n1 n3 a1 a3 fuel (nI F) (nI G) 1 (nI i) = some (if eqn A B 13 = true then 1 else 0) := by
  intro d
  induction d with
  | zero =>
    intro i fuel hi hf h
    obtain ⟨fuel, rfl⟩ : ∃ k, fuel = k + 1 := ⟨fuel - 1, by omega⟩
    have ei : i = 13 := by omega
    subst ei
    show X8_isLike_L6_B n1 n3 a1 a3 _ (nI F) (nI G) 1 (nI 13) = _
    unfold X8_isLike_L6_B
    rw [if_pos (by decide), zb_1, if_pos ((eqn_iff A B 13).mpr h)]
  | succ d ih =>
    intro i fuel hi hf h
    obtain ⟨fuel, rfl⟩ : ∃ k, fuel = k + 1 := ⟨fuel - 1, by omega⟩
    show X8_isLike_L6_B n1 n3 a1 a3 (X8_isLike_L6 n1 n3 a1 a3 fuel) (nI F) (nI G) 1 (nI i) = _
    unfold X8_isLike_L6_B X8_isLike_J37 X8_isLike_J38
    rw [if_neg (show ¬ (13 : Int32) ≤ nI i from nI_ge (b := 13) (by omega) (by decide)), if_neg i1n0, nI_add, nI_add, rd_nI a1 (by omega) hn1, rd_nI a3 (by omega) hn3, t1 i (by omega), t3 i (by omega)]
    simp only [nm_eq, show nI i + 1 = nI (i + 1) from nI_1 i]
    have hq := mI_eq hW hH hA hB h1 h2 hm (show i < 13 by omega)
    by_cases c : A i = B i
    · rw [if_pos (hq.mpr c)]
      exact ih (i + 1) fuel (by omega) (by omega) (fun j hj => by
        by_cases e : j = i
        · subst e
          exact c
        · exact h j (by omega))
    · rw [if_neg (fun e => c (hq.mp e)), mlike_0 d (i + 1) fuel (by omega) (by omega), if_neg (fun q => c ((eqn_iff A B 13).mp q i (by omega)))]
theorem mlike_ok {W H N n1 n3 F G : Nat} {a1 a3 : Nat → Int32} {A B : Nat → Nat} (hn1 : n1 < 2 ^ 31) (hn3 : n3 < 2 ^ 31) (hF : F + 13 ≤ n1) (hG : G + 13 ≤ n3) (t1 : TM W N a1 F A) (t3 : TM W N a3 G B) (hW : W ≤ 9) (hH : H ≤ 9) (hA : okS W H N A) (hB : okS W H N B) (h1 : ∀ j, j < 13 → A j < 2 ^ 31) (h2 : ∀ j, j < 13 → B j < 2 ^ 31) (hm : ∀ j, N ≤ j → j < 6 → A j = B j) : X8_isLike n1 n3 a1 a3 (nI F) (nI G) = some (if eqn A B 13 = true then 1 else 0) := by
  unfold X8_isLike
  exact mlike_L hn1 hn3 hF hG t1 t3 hW hH hA hB h1 h2 hm 13 0 FU (by omega) (FU_big (by omega)) (fun j hj => by omega)
theorem BK_stay {WA LO LF LT PR : Nat → Nat} {D g c N M : Nat} (hc : 1 ≤ c) (h : BK WA LO LF LT PR D g c N M) {t a : Nat} (ht : t < c - M) (ha : a < N) : tk WA LO LF LT PR D g c a t = tk WA LO LF LT PR D g (c - 1) a t := by
  by_cases e : tk WA LO LF LT PR D g c a t = tk WA LO LF LT PR D g (c - 1) a t
  · exact e
  · exfalso
    obtain ⟨u, hu, he⟩ := tk_chg hc (by omega) e
    have := h.1 a ha u he
    have := he.1
    omega
