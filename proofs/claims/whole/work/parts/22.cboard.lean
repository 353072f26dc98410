theorem st_nx {W H p way : Nat} (hW : W ≤ 9) (hH : H ≤ 9) (hp : okp W H p) (h : nx W H p way ≠ 999) : nI p + st_step way = nI (nx W H p way) := by
  have hlt := okp_lt hW hH hp
  unfold nx at h ⊢
  by_cases h1 : way = 1
  · subst h1
    rw [if_pos rfl] at h ⊢
    split at h
    · rename_i hc
      rw [if_pos hc]
      exact nI_1 p
    · exact absurd rfl h
  · rw [if_neg h1] at h ⊢
    by_cases h2 : way = 2
    · subst h2
      rw [if_pos rfl] at h ⊢
      split at h
      · rename_i hc
        rw [if_pos hc]
        exact nI_add p 16
      · exact absurd rfl h
    · rw [if_neg h2] at h ⊢
      by_cases h3 : way = 3
      · subst h3
        rw [if_pos rfl] at h ⊢
        split at h
        · rename_i hc
          rw [if_pos hc]
          exact sb_m1 (by omega)
        · exact absurd rfl h
      · rw [if_neg h3] at h ⊢
        by_cases h4 : way = 4
        · subst h4
          rw [if_pos rfl] at h ⊢
          split at h
          · rename_i hc
            rw [if_pos hc]
            have e : nI p - nI 16 = nI (p - 16) := pk_sub (by omega)
            rw [← e]
            show nI p + (-(nI 16)) = nI p - nI 16
            rw [Int32.sub_eq_add_neg]
          · exact absurd rfl h
        · rw [if_neg h4] at h
          exact absurd rfl h
theorem isFree_neg {now : Nat → Int32} {w h n s : Int32} (hs : s < 0) : X0_isFree now w h n s = some 0 := by
  unfold X0_isFree
  rw [if_pos hs, zb_0]
theorem isFree_L {now : Nat → Int32} {A : Nat → Nat} {w h : Int32} {N q : Nat} (hr : Rep now A) (hN : N ≤ 6) (hA : ∀ k, k < N → A k < 2 ^ 31) (hq : q < 2 ^ 31) : ∀ (d i fuel : Nat), i + d = N → d < fuel → (∀ j, j < i → A j ≠ q) → X0_isFree_L30 now w h (nI N) fuel (nI q) (nI i) = some (if occ A N q = true then 0 else 1) := by
  intro d
  induction d with
  | zero =>
    intro i fuel hi hf hj
    obtain ⟨fuel, rfl⟩ : ∃ k, fuel = k + 1 := ⟨fuel - 1, by omega⟩
    show X0_isFree_L30_B now w h (nI N) _ (nI q) (nI i) = _
    unfold X0_isFree_L30_B
    rw [if_pos (nI_le (by omega) (by omega)), zb_1]
    have : ¬ occ A N q = true := fun hc => by
      obtain ⟨j, h1, h2⟩ := (occ_iff A q N).mp hc
      exact hj j (by omega) h2
    rw [if_neg this]
  | succ d ih =>
    intro i fuel hi hf hj
    obtain ⟨fuel, rfl⟩ : ∃ k, fuel = k + 1 := ⟨fuel - 1, by omega⟩
    show X0_isFree_L30_B now w h (nI N) (X0_isFree_L30 now w h (nI N) fuel) (nI q) (nI i) = _
    unfold X0_isFree_L30_B
    rw [if_neg (nI_ge (by omega) (by omega)), rd_nI now (by omega) (by decide), hr i (by omega), zb_0]
    by_cases hc : A i = q
    · rw [if_pos (by rw [hc]), if_pos ((occ_iff A q N).mpr ⟨i, by omega, hc⟩)]
    · rw [if_neg (fun e => hc (nI_inj (hA i (by omega)) hq e))]
      show X0_isFree_L30 now w h (nI N) fuel (nI q) (nI i + nI 1) = _
      rw [nI_add]
      exact ih (i + 1) fuel (by omega) (by omega) (fun j h1 => by
        by_cases h2 : j = i
        · subst h2
          exact hc
        · exact hj j (by omega))
theorem isFree_nI {now : Nat → Int32} {A : Nat → Nat} {W H N q : Nat} (hr : Rep now A) (hW : W ≤ 9) (hH : H ≤ 9) (hN : N ≤ 6) (hA : ∀ k, k < N → A k < 2 ^ 31) (hq : q < 2 ^ 31) : X0_isFree now (nI W) (nI H) (nI N) (nI q) = some (if q % 16 < W ∧ q / 16 < H ∧ occ A N q = false then 1 else 0) := by
  unfold X0_isFree
  rw [if_neg (nI_pos hq), xOf_nI hq, bd_some, yOf_nI hq, bd_some, zb_0]
  by_cases h1 : q % 16 < W
  · rw [if_neg (nI_ge h1 (by omega))]
    by_cases h2 : q / 16 < H
    · rw [if_pos (nI_lt h2 (by omega))]
      show X0_isFree_L30 now (nI W) (nI H) (nI N) FU (nI q) (nI 0) = _
      rw [isFree_L hr hN hA hq N 0 FU (by omega) (FU_big (by omega)) (fun j hj => by omega)]
      by_cases h3 : occ A N q = true
      · rw [if_pos h3, if_neg (fun h => by rw [h3] at h; cases h.2.2)]
      · rw [if_neg h3, if_pos ⟨h1, h2, by simpa using h3⟩]
    · rw [if_neg (nI_nlt (by omega) (by omega)), if_neg (fun h => h2 h.2.1)]
  · rw [if_pos (nI_le (by omega) (by omega)), if_neg (fun h => h1 h.1)]
theorem okS_lt {W H N : Nat} {A : Nat → Nat} (hW : W ≤ 9) (hH : H ≤ 9) (h : okS W H N A) : ∀ k, k < N → A k < 2 ^ 31 := fun k hk => by
  have := okp_lt hW hH (h.1 k hk)
  omega
theorem isFree_st {now : Nat → Int32} {A : Nat → Nat} {W H N p way : Nat} (hr : Rep now A) (hW : W ≤ 9) (hH : H ≤ 9) (hN : N ≤ 6) (hA : okS W H N A) (hp : okp W H p) (hw : 1 ≤ way ∧ way ≤ 4) : X0_isFree now (nI W) (nI H) (nI N) (nI p + st_step way) = some (if fr A N (nx W H p way) = true then 1 else 0) := by
  have hlt := okp_lt hW hH hp
  have hAl := okS_lt hW hH hA
  by_cases h9 : nx W H p way = 999
  · have hfr : ¬ fr A N (nx W H p way) = true := by
      unfold fr
      rw [h9]
      simp
    rw [if_neg hfr]
    have hp2 := hp
    unfold okp at hp2
    unfold nx at h9
    rcases (show way = 1 ∨ way = 2 ∨ way = 3 ∨ way = 4 by omega) with rfl | rfl | rfl | rfl
    · rw [if_pos rfl] at h9
      show X0_isFree now (nI W) (nI H) (nI N) (nI p + nI 1) = _
      rw [nI_add, isFree_nI hr hW hH hN hAl (by omega), if_neg]
      split at h9
      · omega
      · rintro ⟨h1, h2, -⟩
        omega
    · rw [if_neg (by decide), if_pos rfl] at h9
      show X0_isFree now (nI W) (nI H) (nI N) (nI p + nI 16) = _
      rw [nI_add, isFree_nI hr hW hH hN hAl (by omega), if_neg]
      split at h9
      · omega
      · rintro ⟨h1, h2, -⟩
        omega
    · rw [if_neg (by decide), if_neg (by decide), if_pos rfl] at h9
      split at h9
      · omega
      · show X0_isFree now (nI W) (nI H) (nI N) (nI p + (-1)) = _
        by_cases h0 : p = 0
        · subst h0
          exact isFree_neg (by decide)
        · rw [sb_m1 (by omega), isFree_nI hr hW hH hN hAl (by omega), if_neg]
          rintro ⟨h1, h2, -⟩
          omega
    · rw [if_neg (by decide), if_neg (by decide), if_neg (by decide), if_pos rfl] at h9
      split at h9
      · omega
      · have hs : nI p + st_step 4 < 0 := by
          have : nI p - nI 16 < 0 := pk_sneg (by decide) (by omega)
          rw [Int32.sub_eq_add_neg] at this
          exact this
        exact isFree_neg hs
  · rw [st_nx hW hH hp h9]
    have hok := (nx_cases hW hH hp).resolve_left h9
    have hl2 := okp_lt hW hH hok
    rw [isFree_nI hr hW hH hN hAl (by omega)]
    unfold fr
    unfold okp at hok
    by_cases ho : occ A N (nx W H p way) = true
    · rw [if_neg (fun h => by rw [ho] at h; cases h.2.2), if_neg]
      rw [ho]
      simp
    · have ho' : occ A N (nx W H p way) = false := by simpa using ho
      rw [if_pos ⟨hok.1, hok.2, ho'⟩, if_pos]
      rw [ho']
      simp [h9]
theorem moveBall_ok {now : Nat → Int32} {A : Nat → Nat} {W H N way : Nat} (hr : Rep now A) (hW : W ≤ 9) (hH : H ≤ 9) (hN : N ≤ 6) (hA : okS W H N A) (hw : 1 ≤ way ∧ way ≤ 4) : ∃ now', X0_moveBall (nI W) (nI H) (nI N) now (nI way) = some (if fr A N (nx W H (A 6) way) = true then 1 else 0, now') ∧ Rep now' (mbA W H N A way) := by
  unfold X0_moveBall mbA
  rw [rd_lit now 13 6 (by decide) (by decide), rd_nI st_step (by omega) (by decide), nm_eq, hr 6 (by decide), isFree_st hr hW hH hN hA hA.2 hw, bd_some]
  by_cases hf : fr A N (nx W H (A 6) way) = true
  · rw [if_pos hf, if_pos hf, if_neg i1n0, wrI_lit now 13 6 (by decide) (by decide)]
    have h9 : nx W H (A 6) way ≠ 999 := by
      intro e
      unfold fr at hf
      rw [e] at hf
      simp at hf
    rw [st_nx hW hH hA.2 h9]
    exact ⟨_, zb_1 _, hr.up 6 _⟩
  · rw [if_neg hf, if_neg hf, if_pos (rfl : (0 : Int32) = 0)]
    exact ⟨_, zb_0 _, hr⟩
theorem go_ok {now : Nat → Int32} {A : Nat → Nat} {W H N a way : Nat} (hr : Rep now A) (hW : W ≤ 9) (hH : H ≤ 9) (hN : N ≤ 6) (hA : okS W H N A) (ha : a < N) (hw : 1 ≤ way ∧ way ≤ 4) : ∃ now', X0_go (nI W) (nI H) (nI N) now (nI a) (nI way) = some now' ∧ Rep now' (goA W H N A a way) := by
  unfold X0_go goA
  have hp := hA.1 a ha
  rw [rd_nI now (by omega) (by decide), rd_nI st_step (by omega) (by decide), nm_eq, hr a (by omega), isFree_st hr hW hH hN hA hp hw, bd_some]
  by_cases hf : fr A N (nx W H (A a) way) = true
  · have h9 : nx W H (A a) way ≠ 999 := by
      intro e
      unfold fr at hf
      rw [e] at hf
      simp at hf
    have hok := (nx_cases hW hH hp).resolve_left h9
    have l1 := okp_lt hW hH hok
    have l2 := okp_lt hW hH hA.2
    rw [if_pos hf, if_pos hf, if_neg i1n0, rd_lit now 13 6 (by decide) (by decide), hr 6 (by decide), st_nx hW hH hp h9]
    by_cases hb : nx W H (A a) way = A 6
    · rw [if_pos (by rw [hb]), if_pos hb]
      obtain ⟨now', e1, hr'⟩ := moveBall_ok hr hW hH hN hA hw
      rw [e1, bd_some]
      unfold mbA at hr'
      by_cases hg : fr A N (nx W H (A 6) way) = true
      · rw [if_pos hg] at hr' ⊢
        rw [if_pos hg]
        show ∃ now'_1, (if (1 : Int32) = 0 then some now' else X0_go_J47 (nI W) (nI H) (nI N) now' (nI a) (nI (nx W H (A a) way))) = some now'_1 ∧ _
        rw [if_neg i1n0]
        unfold X0_go_J47
        rw [wrI_nI _ (by omega) (by decide)]
        exact ⟨_, rfl, hr'.up a _⟩
      · rw [if_neg hg] at hr' ⊢
        rw [if_neg hg]
        exact ⟨now', if_pos rfl, hr'⟩
    · rw [if_neg (fun e => hb (nI_inj (by omega) (by omega) e)), if_neg hb]
      unfold X0_go_J47
      rw [wrI_nI _ (by omega) (by decide)]
      exact ⟨_, rfl, hr.up a _⟩
  · rw [if_neg hf, if_neg hf, if_pos (rfl : (0 : Int32) = 0)]
    exact ⟨_, rfl, hr⟩
theorem st_eq {W H p q way : Nat} (hW : W ≤ 9) (hH : H ≤ 9) (hp : okp W H p) (hq : okp W H q) (hw : 1 ≤ way ∧ way ≤ 4) : nI p + st_step way = nI q ↔ nx W H p way = q := by
  have l1 := okp_lt hW hH hp
  have l2 := okp_lt hW hH hq
  constructor
  · intro e
    by_cases h9 : nx W H p way = 999
    · exfalso
      unfold okp at hp hq
      unfold nx at h9
      rcases (show way = 1 ∨ way = 2 ∨ way = 3 ∨ way = 4 by omega) with rfl | rfl | rfl | rfl
      · rw [if_pos rfl] at h9
        have e2 : nI (p + 1) = nI q := by rw [← e]; exact (nI_add p 1).symm
        have := nI_inj (by omega) (by omega) e2
        split at h9 <;> omega
      · rw [if_neg (by decide), if_pos rfl] at h9
        have e2 : nI (p + 16) = nI q := by rw [← e]; exact (nI_add p 16).symm
        have := nI_inj (by omega) (by omega) e2
        split at h9 <;> omega
      · rw [if_neg (by decide), if_neg (by decide), if_pos rfl] at h9
        have e2 : nI p = nI (q + 1) := by
          have h := congrArg (fun z => z + (1 : Int32)) e
          have h3 : nI p + (-1) + 1 = nI p := by rw [Int32.add_assoc]; show nI p + 0 = nI p; exact Int32.add_zero _
          have h4 : nI q + 1 = nI (q + 1) := nI_1 q
          rw [← h3, ← h4]
          exact h
        have := nI_inj (by omega) (by omega) e2
        split at h9 <;> omega
      · rw [if_neg (by decide), if_neg (by decide), if_neg (by decide), if_pos rfl] at h9
        have e2 : nI p = nI (q + 16) := by
          have h := congrArg (fun z => z + (16 : Int32)) e
          have h3 : nI p + (-16) + 16 = nI p := by rw [Int32.add_assoc]; show nI p + 0 = nI p; exact Int32.add_zero _
          have h4 : nI q + 16 = nI (q + 16) := nI_add q 16
          rw [← h3, ← h4]
          exact h
        have := nI_inj (by omega) (by omega) e2
        split at h9 <;> omega
    · rw [st_nx hW hH hp h9] at e
      have l3 := okp_lt hW hH ((nx_cases hW hH hp).resolve_left h9)
      exact nI_inj (by omega) (by omega) e
  · intro e
    rw [st_nx hW hH hp (by rw [e]; unfold okp at hq; omega), e]
theorem wayToBall_ok {now : Nat → Int32} {A : Nat → Nat} {W H N a : Nat} (hr : Rep now A) (hW : W ≤ 9) (hH : H ≤ 9) (hN : N ≤ 6) (hA : okS W H N A) (ha : a < N) : X0_wayToBall now (nI a) = some (nI (wtb W H A a)) := by
  have hp := hA.1 a ha
  have step : ∀ (way fuel : Nat), 1 ≤ way ∧ way ≤ 4 → X0_wayToBall_L2 now (fuel + 1) (nI a) (nI way) = if nx W H (A a) way = A 6 then some (nI way) else X0_wayToBall_L2 now fuel (nI a) (nI (way + 1)) := by
    intro way fuel hw
    show X0_wayToBall_L2_B now (X0_wayToBall_L2 now fuel) (nI a) (nI way) = _
    unfold X0_wayToBall_L2_B
    rw [if_neg (show ¬ (4 : Int32) < nI way from nI_nlt (a := 4) (by omega) (by decide)), rd_nI now (by omega) (by decide), rd_nI st_step (by omega) (by decide), rd_lit now 13 6 (by decide) (by decide), hr a (by omega), hr 6 (by decide), nm_eq, show nI way + 1 = nI (way + 1) from nI_1 way]
    by_cases h : nx W H (A a) way = A 6
    · rw [if_pos h, if_pos ((st_eq hW hH hp hA.2 hw).mpr h)]
    · rw [if_neg h, if_neg (fun e => h ((st_eq hW hH hp hA.2 hw).mp e))]
  have last : ∀ fuel : Nat, X0_wayToBall_L2 now (fuel + 1) (nI a) (nI 5) = some (nI 0) := by
    intro fuel
    show X0_wayToBall_L2_B now (X0_wayToBall_L2 now fuel) (nI a) (nI 5) = _
    unfold X0_wayToBall_L2_B
    rw [if_pos (by decide)]
    rfl
  unfold X0_wayToBall
  show X0_wayToBall_L2 now (4091 + 1 + 1 + 1 + 1 + 1) (nI a) (nI 1) = _
  rw [step 1 _ (by decide), step 2 _ (by decide), step 3 _ (by decide), step 4 _ (by decide), last]
  unfold wtb
  split
  · rfl
  · split
    · rfl
    · split
      · rfl
      · split <;> rfl
