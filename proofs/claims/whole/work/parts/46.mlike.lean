def mI (W N : Nat) (A : Nat → Nat) (j : Nat) : Int32 := if j < N then nI (cl W (A j)) else if j < 6 then (-9) else if j = 6 then nI (cl W (A 6)) else nI (A j)
def TM (W N : Nat) (rows : Nat → Int32) (F : Nat) (A : Nat → Nat) : Prop := ∀ j, j < 13 → rows (F + j) = mI W N A j
theorem write_L {W N n1 F : Nat} {A : Nat → Nat} {ball : Int32} {place points : Nat → Int32} (hN : N ≤ 6) (hn1 : n1 < 2 ^ 31) (hF : F + 13 ≤ n1) (hr : RepP W N ball place A) (hp : ∀ a, a < 6 → points a = nI (A (7 + a))) : ∀ (d i fuel : Nat) (row : Nat → Int32), i + d = 6 → d < fuel → (∀ j, j < i → row (F + j) = mI W N A j ∧ row (F + 7 + j) = mI W N A (7 + j)) → ∃ row', X8_write_L2 n1 ball place points fuel row (nI F) (nI i) = some row' ∧ TM W N row' F A ∧ ∀ k, (k < F ∨ F + 13 ≤ k) → row' k = row k := by
  have e6 : nI F + 6 = nI (F + 6) := nI_add F 6
  have e7 : nI F + 7 = nI (F + 7) := nI_add F 7
  have m6 : mI W N A 6 = ball := by
    unfold mI
    rw [if_neg (by omega), if_neg (by omega), if_pos rfl]
    exact hr.1.symm
  have mlo : ∀ i, i < 6 → place i = mI W N A i := by
    intro i hi
    unfold mI
    by_cases c : i < N
    · rw [if_pos c]
      exact hr.2.1 i c
    · rw [if_neg c, if_pos hi]
      exact hr.2.2 i (by omega) hi
  have mhi : ∀ i, i < 6 → points i = mI W N A (7 + i) := by
    intro i hi
    unfold mI
    rw [if_neg (by omega), if_neg (by omega), if_neg (by omega)]
    exact hp i hi
  intro d
  induction d with
  | zero =>
    intro i fuel row hi hf h
    obtain ⟨fuel, rfl⟩ : ∃ k, fuel = k + 1 := ⟨fuel - 1, by omega⟩
    have ei : i = 6 := by omega
    subst ei
    refine ⟨upd row (F + 6) ball, ?_, fun j hj => ?_, fun k hk => pk_un (by omega)⟩
    · show X8_write_L2_B n1 ball place points _ row (nI F) (nI 6) = _
      unfold X8_write_L2_B
      rw [if_pos (by decide)]
      unfold X8_write_J39
      rw [e6, wrI_nI row (by omega) hn1]
    · by_cases c6 : j = 6
      · subst c6
        rw [m6]
        exact pk_us
      · rw [pk_un (by omega)]
        by_cases c : j < 6
        · exact (h j c).1
        · have := (h (j - 7) (by omega)).2
          have e1 : F + 7 + (j - 7) = F + j := by omega
          have e2 : 7 + (j - 7) = j := by omega
          rw [e1, e2] at this
          exact this
  | succ d ih =>
    intro i fuel row hi hf h
    obtain ⟨fuel, rfl⟩ : ∃ k, fuel = k + 1 := ⟨fuel - 1, by omega⟩
    have hs : X8_write_L2 n1 ball place points (fuel + 1) row (nI F) (nI i) = X8_write_L2 n1 ball place points fuel (upd (upd row (F + i) (place i)) (F + 7 + i) (points i)) (nI F) (nI (i + 1)) := by
      show X8_write_L2_B n1 ball place points (X8_write_L2 n1 ball place points fuel) row (nI F) (nI i) = _
      unfold X8_write_L2_B
      rw [if_neg (show ¬ (6 : Int32) ≤ nI i from nI_ge (b := 6) (by omega) (by decide)), e7, nI_add, nI_add, rd_nI place (by omega) (by decide), wrI_nI row (by omega) hn1, rd_nI points (by omega) (by decide), wrI_nI _ (by omega) hn1, nm_eq, show nI i + 1 = nI (i + 1) from nI_1 i]
    rw [hs]
    obtain ⟨row', e, h1, h2⟩ := ih (i + 1) fuel (upd (upd row (F + i) (place i)) (F + 7 + i) (points i)) (by omega) (by omega) (fun j hj => by
      by_cases c : j = i
      · subst c
        refine ⟨?_, ?_⟩
        · rw [pk_un (by omega), pk_us]
          exact mlo j (by omega)
        · rw [pk_us]
          exact mhi j (by omega)
      · refine ⟨?_, ?_⟩
        · rw [pk_un (by omega), pk_un (by omega)]
          exact (h j (by omega)).1
        · rw [pk_un (by omega), pk_un (by omega)]
          exact (h j (by omega)).2)
    exact ⟨row', e, h1, fun k hk => by rw [h2 k hk, pk_un (by omega), pk_un (by omega)]⟩
theorem write_ok {W N n1 F : Nat} {A : Nat → Nat} {ball : Int32} {place points : Nat → Int32} (hN : N ≤ 6) (hn1 : n1 < 2 ^ 31) (hF : F + 13 ≤ n1) (hr : RepP W N ball place A) (hp : ∀ a, a < 6 → points a = nI (A (7 + a))) (row : Nat → Int32) : ∃ row', X8_write n1 ball place points row (nI F) = some row' ∧ TM W N row' F A ∧ ∀ k, (k < F ∨ F + 13 ≤ k) → row' k = row k := by
  unfold X8_write
  exact write_L hN hn1 hF hr hp 6 0 FU row (by omega) (FU_big (by omega)) (fun j hj => by omega)
theorem mI_eq {W H N : Nat} {A B : Nat → Nat} (hW : W ≤ 9) (hH : H ≤ 9) (hA : okS W H N A) (hB : okS W H N B) (h1 : ∀ j, j < 13 → A j < 2 ^ 31) (h2 : ∀ j, j < 13 → B j < 2 ^ 31) (hm : ∀ j, N ≤ j → j < 6 → A j = B j) {j : Nat} (hj : j < 13) : mI W N A j = mI W N B j ↔ A j = B j := by
  unfold mI
  by_cases c1 : j < N
  · rw [if_pos c1, if_pos c1]
    have l1 := cl_lt hW hH (hA.1 j c1)
    have l2 := cl_lt hW hH (hB.1 j c1)
    constructor
    · intro e
      exact cl_inj (hA.1 j c1) (hB.1 j c1) (nI_inj (by omega) (by omega) e)
    · intro e
      rw [e]
  · rw [if_neg c1, if_neg c1]
    by_cases c2 : j < 6
    · rw [if_pos c2, if_pos c2]
      exact ⟨fun _ => hm j (by omega) c2, fun _ => rfl⟩
    · rw [if_neg c2, if_neg c2]
      by_cases c3 : j = 6
      · subst c3
        rw [if_pos rfl, if_pos rfl]
        have l1 := cl_lt hW hH hA.2
        have l2 := cl_lt hW hH hB.2
        constructor
        · intro e
          exact cl_inj hA.2 hB.2 (nI_inj (by omega) (by omega) e)
        · intro e
          rw [e]
      · rw [if_neg c3, if_neg c3]
        constructor
        · intro e
          exact nI_inj (h1 j hj) (h2 j hj) e
        · intro e
          rw [e]
