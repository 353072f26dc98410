def RepP (W N : Nat) (ball : Int32) (place : Nat → Int32) (A : Nat → Nat) : Prop := ball = nI (cl W (A 6)) ∧ (∀ a, a < N → place a = nI (cl W (A a))) ∧ ∀ a, N ≤ a → a < 6 → place a = (-9)
theorem RepP.up6 {W N : Nat} {ball : Int32} {place : Nat → Int32} {A : Nat → Nat} (h : RepP W N ball place A) (hN : N ≤ 6) (q : Nat) : RepP W N (nI (cl W q)) place (upN A 6 q) := by
  refine ⟨by rw [upN_s], fun a ha => ?_, h.2.2⟩
  rw [upN_n A q (by omega)]
  exact h.2.1 a ha
theorem RepP.upa {W N : Nat} {ball : Int32} {place : Nat → Int32} {A : Nat → Nat} (h : RepP W N ball place A) (hN : N ≤ 6) {b : Nat} (hb : b < N) (q : Nat) : RepP W N ball (upd place b (nI (cl W q))) (upN A b q) := by
  refine ⟨?_, fun a ha => ?_, fun a h1 h2 => ?_⟩
  · rw [upN_n A q (by omega)]
    exact h.1
  · by_cases e : a = b
    · subst e
      rw [pk_us, upN_s]
    · rw [pk_un e, upN_n A q e]
      exact h.2.1 a ha
  · rw [pk_un (by omega)]
    exact h.2.2 a h1 h2
theorem mE_eq {W H q b : Nat} (hW9 : W ≤ 9) (hH9 : H ≤ 9) (hq : q = 999 ∨ okp W H q) (hb : okp W H b) : mE W q = nI (cl W b) ↔ q = b := by
  have l1 := cl_lt hW9 hH9 hb
  have l2 := okp_lt hW9 hH9 hb
  rcases hq with rfl | hq
  · rw [mE_9]
    constructor
    · intro e
      exact absurd e.symm (nI_n9 (by omega))
    · intro e
      omega
  · have l3 := cl_lt hW9 hH9 hq
    have l4 := okp_lt hW9 hH9 hq
    rw [mE_n (by omega)]
    constructor
    · intro e
      exact cl_inj hq hb (nI_inj (by omega) (by omega) e)
    · intro e
      rw [e]
theorem beside_ok {W H N a : Nat} {ball : Int32} {place : Nat → Int32} {A : Nat → Nat} (hb : bnd W H N) (hA : okS W H N A) (hr : RepP W N ball place A) (ha : a < N) : X8_besideBall ball (nI W) (nI H) place (nI a) = some (if wtb W H A a = 0 then (-9) else nI (wtb W H A a)) := by
  obtain ⟨b1, b2, b3, b4, b5, b6⟩ := hb
  have hp := hA.1 a ha
  have step : ∀ (way fuel : Nat) (found : Int32), 1 ≤ way ∧ way ≤ 4 → X8_besideBall_L5 ball (nI W) (nI H) place (fuel + 1) (nI a) found (nI way) = X8_besideBall_L5 ball (nI W) (nI H) place fuel (nI a) (if nx W H (A a) way = A 6 then nI way else found) (nI (way - 1)) := by
    intro way fuel found hw
    show X8_besideBall_L5_B ball (nI W) (nI H) place (X8_besideBall_L5 ball (nI W) (nI H) place fuel) (nI a) found (nI way) = _
    unfold X8_besideBall_L5_B
    rw [if_neg (show ¬ nI way < (1 : Int32) from nI_nlt (b := 1) (by omega) (by omega)), rd_nI place (by omega) (by decide), hr.2.1 a ha, by_ok b1 b2 b3 b4 hp hw, bd_some]
    unfold X8_besideBall_J33
    simp only [nm_eq, sb_m1 (show 0 < way by omega)]
    by_cases h : nx W H (A a) way = A 6
    · rw [if_pos h, if_pos (by rw [hr.1]; exact (mE_eq b2 b4 (nx_cases b2 b4 hp) hA.2).mpr h)]
    · rw [if_neg h, if_neg (fun e => h ((mE_eq b2 b4 (nx_cases b2 b4 hp) hA.2).mp (by rw [← hr.1]; exact e)))]
  have last : ∀ (fuel : Nat) (found : Int32), X8_besideBall_L5 ball (nI W) (nI H) place (fuel + 1) (nI a) found (nI 0) = some found := by
    intro fuel found
    show X8_besideBall_L5_B ball (nI W) (nI H) place (X8_besideBall_L5 ball (nI W) (nI H) place fuel) (nI a) found (nI 0) = _
    unfold X8_besideBall_L5_B
    rw [if_pos (by decide)]
  unfold X8_besideBall
  show X8_besideBall_L5 ball (nI W) (nI H) place (4091 + 1 + 1 + 1 + 1 + 1) (nI a) (-9) (nI 4) = _
  rw [step 4 _ _ (by decide), step 3 _ _ (by decide), step 2 _ _ (by decide), step 1 _ _ (by decide), last]
  unfold wtb
  by_cases c1 : nx W H (A a) 1 = A 6
  · rw [if_pos c1, if_pos c1, if_neg (by decide)]
  · rw [if_neg c1, if_neg c1]
    by_cases c2 : nx W H (A a) 2 = A 6
    · rw [if_pos c2, if_pos c2, if_neg (by decide)]
    · rw [if_neg c2, if_neg c2]
      by_cases c3 : nx W H (A a) 3 = A 6
      · rw [if_pos c3, if_pos c3, if_neg (by decide)]
      · rw [if_neg c3, if_neg c3]
        by_cases c4 : nx W H (A a) 4 = A 6
        · rw [if_pos c4, if_pos c4, if_neg (by decide)]
        · rw [if_neg c4, if_neg c4, if_pos rfl]
theorem size_sub {a b : Nat} (ha : a < 2 ^ 30) (hb : b < 2 ^ 30) : X8_size (nI a - nI b) = some (nI (adif a b)) := by
  unfold X8_size
  rw [adif_comm, ← abs_sub ha hb]
  split
  · rfl
  · rw [Int32.zero_sub]
theorem thinks_ok {W H N a : Nat} {ball : Int32} {place : Nat → Int32} {A : Nat → Nat} (hb : bnd W H N) (hA : okS W H N A) (hr : RepP W N ball place A) (ha : a < N) : X8_thinks ball (nI W) (nI H) place (nI a) = some (nI (mpA W H A a)) := by
  have hbe := beside_ok hb hA hr ha
  obtain ⟨b1, b2, b3, b4, b5, b6⟩ := hb
  have h4 := wtb_le W H A a
  have hpa := hA.1 a ha
  have hp6 := hA.2
  have l1 := cl_lt b2 b4 hpa
  have l6 := cl_lt b2 b4 hp6
  have m1 := okp_lt b2 b4 hpa
  have m6 := okp_lt b2 b4 hp6
  have hw0 : ¬ nI W = 0 := nI_ne0 (by omega) (by omega)
  unfold X8_thinks mpA
  rw [hbe, bd_some]
  by_cases h0 : wtb W H A a = 0
  · rw [if_pos h0, if_pos h0, if_pos rfl]
    rw [dvI_ne hw0, rd_nI place (by omega) (by decide), dvI_ne hw0, nm_eq, dvI_ne hw0, rd_nI place (by omega) (by decide), dvI_ne hw0, nm_eq, hr.1, hr.2.1 a ha]
    rw [pk_rem (by omega) (by omega) (by omega), pk_rem (by omega) (by omega) (by omega), pk_div (by omega) (by omega) (by omega), pk_div (by omega) (by omega) (by omega), cl_mod hp6.1, cl_mod hpa.1, cl_div hp6.1, cl_div hpa.1]
    rw [size_sub (by omega) (by omega), bd_some, size_sub (by omega) (by omega), bd_some]
    have k1 : adif (A 6 % 16) (A a % 16) < 100 := by unfold adif; split <;> omega
    have k2 : adif (A 6 / 16) (A a / 16) < 100 := by unfold adif; split <;> omega
    by_cases h1 : adif (A 6 % 16) (A a % 16) < adif (A 6 / 16) (A a / 16)
    · rw [if_pos h1, if_pos (nI_lt h1 (by omega))]
      by_cases h2 : A a / 16 < A 6 / 16
      · rw [if_pos h2, if_neg (fun e => by have := (sub_le0 (by omega) (by omega)).mp e; omega)]
        rfl
      · rw [if_neg h2, if_pos ((sub_le0 (by omega) (by omega)).mpr (by omega))]
        rfl
    · rw [if_neg h1, if_neg (nI_nlt (by omega) (by omega))]
      by_cases h2 : A a % 16 < A 6 % 16
      · rw [if_pos h2, if_neg (fun e => by have := (sub_le0 (by omega) (by omega)).mp e; omega)]
        rfl
      · rw [if_neg h2, if_pos ((sub_le0 (by omega) (by omega)).mpr (by omega))]
        rfl
  · rw [if_neg h0, if_neg h0, if_neg (nI_n9 (by omega))]
    rfl
theorem kickN_stop {W H N way : Nat} {A : Nat → Nat} (h : ¬ fr A N (nx W H (A 6) way) = true) : ∀ d, kickN W H N way d A = A
  | 0 => rfl
  | d + 1 => by rw [kickN, if_neg h]
theorem mkick_L {W H N way power : Nat} (hb : bnd W H N) (hw : 1 ≤ way ∧ way ≤ 4) (hp : power < 100) : ∀ (d i fuel : Nat) (ball : Int32) (place : Nat → Int32) (A : Nat → Nat), i + d = power → d < fuel → RepP W N ball place A → okS W H N A → ∃ ball', X8_act_L135 (nI W) (nI H) (nI N) fuel ball place (nI power) (nI way) (nI i) = some (ball', place) ∧ RepP W N ball' place (kickN W H N way d A) := by
  have hb' := hb
  obtain ⟨b1, b2, b3, b4, b5, b6⟩ := hb'
  intro d
  induction d with
  | zero =>
    intro i fuel ball place A hi hf hr hA
    obtain ⟨fuel, rfl⟩ : ∃ k, fuel = k + 1 := ⟨fuel - 1, by omega⟩
    refine ⟨ball, ?_, hr⟩
    show X8_act_L135_B (nI W) (nI H) (nI N) _ ball place (nI power) (nI way) (nI i) = _
    unfold X8_act_L135_B
    rw [if_pos (nI_le (by omega) (by omega))]
  | succ d ih =>
    intro i fuel ball place A hi hf hr hA
    obtain ⟨fuel, rfl⟩ : ∃ k, fuel = k + 1 := ⟨fuel - 1, by omega⟩
    have hu : X8_act_L135 (nI W) (nI H) (nI N) (fuel + 1) ball place (nI power) (nI way) (nI i) = X8_act_L135 (nI W) (nI H) (nI N) fuel (if fr A N (nx W H (A 6) way) = true then mE W (nx W H (A 6) way) else ball) place (nI power) (nI way) (nI (i + 1)) := by
      show X8_act_L135_B (nI W) (nI H) (nI N) (X8_act_L135 (nI W) (nI H) (nI N) fuel) ball place (nI power) (nI way) (nI i) = _
      unfold X8_act_L135_B
      rw [if_neg (nI_ge (by omega) (by omega)), if_neg (nI_n9 (by omega)), hr.1, by_ok b1 b2 b3 b4 hA.2 hw, bd_some, mFree_ok b2 b4 b6 hA.1 (nx_cases b2 b4 hA.2) hr.2.1, bd_some]
      unfold X8_act_J179
      simp only [nm_eq, show nI i + 1 = nI (i + 1) from nI_1 i]
      by_cases hfr : fr A N (nx W H (A 6) way) = true
      · rw [if_pos hfr, if_pos hfr, if_neg i1n0]
      · rw [if_neg hfr, if_neg hfr, if_pos rfl]
    rw [hu, kickN]
    by_cases hfr : fr A N (nx W H (A 6) way) = true
    · have hok := (fr_ok b2 b4 hA.2 hfr).1
      have l := okp_lt b2 b4 hok
      rw [if_pos hfr, if_pos hfr, mE_n (by omega)]
      exact ih (i + 1) fuel _ place _ (by omega) (by omega) (hr.up6 b6 _) (hA.up6 b6 hok)
    · rw [if_neg hfr, if_neg hfr]
      obtain ⟨ball', e, hr'⟩ := ih (i + 1) fuel ball place A (by omega) (by omega) hr hA
      rw [kickN_stop hfr] at hr'
      exact ⟨ball', e, hr'⟩
theorem in_v {v : Nat} (hv : v < 2 ^ 31) : X8_in (Int32.toInt64 (nI v)) 1 4 = some (if 1 ≤ v ∧ v ≤ 4 then 1 else 0) := by
  rw [in_ok, t64, nI_toInt hv]
  show some (if (1 : Int) ≤ (v : Int) ∧ (v : Int) ≤ 4 then (1 : Int32) else 0) = _
  by_cases h : 1 ≤ v ∧ v ≤ 4
  · rw [if_pos h, if_pos (by omega)]
  · rw [if_neg h, if_neg (by omega)]
theorem act_ok {W H N a v power : Nat} {ball : Int32} {place : Nat → Int32} {A : Nat → Nat} (hb : bnd W H N) (hA : okS W H N A) (hr : RepP W N ball place A) (ha : a < N) (hv : v ≤ 5) (hp : power < 100) : ∃ ball' place', X8_act (nI W) (nI H) (nI N) ball place (nI a) (nI v) (nI power) = some (ball', place') ∧ RepP W N ball' place' (actA W H N A a v power) := by
  have hb' := hb
  obtain ⟨b1, b2, b3, b4, b5, b6⟩ := hb'
  unfold X8_act actA
  rw [in_v (by omega), bd_some]
  by_cases c5 : v = 5
  · subst c5
    rw [if_neg (show ¬ (1 ≤ 5 ∧ 5 ≤ 4) by decide), if_pos (rfl : (0 : Int32) = 0), if_pos (show nI 5 = (5 : Int32) from rfl), if_pos (rfl : 5 = 5), beside_ok hb hA hr ha, bd_some]
    unfold kickA
    have h4 := wtb_le W H A a
    by_cases h0 : wtb W H A a = 0
    · rw [if_pos h0, if_pos h0]
      refine ⟨ball, place, ?_, hr⟩
      show X8_act_L135_B (nI W) (nI H) (nI N) _ ball place (nI power) (-9) 0 = _
      unfold X8_act_L135_B
      by_cases hle : nI power ≤ 0
      · rw [if_pos hle]
      · rw [if_neg hle, if_pos rfl]
    · rw [if_neg h0, if_neg h0]
      obtain ⟨ball', e, hr'⟩ := mkick_L (way := wtb W H A a) hb (by omega) hp power 0 FU ball place A (by omega) (FU_big (by omega)) hr hA
      exact ⟨ball', place, e, hr'⟩
  · rw [if_neg c5]
    by_cases c0 : v = 0
    · subst c0
      rw [if_neg (show ¬ (1 ≤ 0 ∧ 0 ≤ 4) by decide), if_pos (rfl : (0 : Int32) = 0), if_neg (show ¬ nI 0 = (5 : Int32) by decide), if_pos (rfl : 0 = 0)]
      exact ⟨ball, place, rfl, hr⟩
    · have hw : 1 ≤ v ∧ v ≤ 4 := by omega
      rw [if_pos hw, if_neg i1n0, if_neg c0, rd_nI place (by omega) (by decide), hr.2.1 a ha, by_ok b1 b2 b3 b4 (hA.1 a ha) hw, bd_some, mFree_ok b2 b4 b6 hA.1 (nx_cases b2 b4 (hA.1 a ha)) hr.2.1, bd_some]
      unfold goA
      by_cases hf : fr A N (nx W H (A a) v) = true
      · have hok := (fr_ok b2 b4 (hA.1 a ha) hf).1
        have l := okp_lt b2 b4 hok
        rw [if_pos hf, if_pos hf, if_neg i1n0, mE_n (show nx W H (A a) v ≠ 999 by omega), by_ok b1 b2 b3 b4 hok hw, bd_some]
        by_cases he : nx W H (A a) v = A 6
        · rw [if_pos he, he, if_pos hr.1.symm, mFree_ok b2 b4 b6 hA.1 (nx_cases b2 b4 hA.2) hr.2.1, bd_some]
          by_cases hg : fr A N (nx W H (A 6) v) = true
          · have hok2 := (fr_ok b2 b4 hA.2 hg).1
            have l2 := okp_lt b2 b4 hok2
            rw [if_pos hg, if_pos hg, if_neg i1n0, mE_n (show nx W H (A 6) v ≠ 999 by omega)]
            unfold X8_act_J61 X8_act_J66
            rw [if_pos hr.1.symm, if_neg i1n0]
            unfold X8_act_J92
            rw [if_neg i1n0]
            unfold X8_act_J116
            rw [wrI_nI place (by omega) (by decide)]
            refine ⟨_, _, rfl, ?_⟩
            exact (hr.up6 b6 _).upa b6 ha _
          · rw [if_neg hg, if_neg hg, if_pos rfl]
            unfold X8_act_J66
            rw [if_pos hr.1.symm, if_pos rfl]
            unfold X8_act_J88 X8_act_J92
            rw [if_pos rfl, rd_nI place (by omega) (by decide)]
            unfold X8_act_J116
            rw [wrI_nI place (by omega) (by decide)]
            refine ⟨_, _, rfl, ?_⟩
            have : upd place a (place a) = place := by
              funext j
              by_cases e : j = a
              · subst e
                rw [pk_us]
              · rw [pk_un e]
            rw [this]
            exact hr
        · rw [if_neg he]
          have hne : ¬ nI (cl W (nx W H (A a) v)) = ball := fun e => he ((mE_eq b2 b4 (Or.inr hok) hA.2).mp (by rw [mE_n (show nx W H (A a) v ≠ 999 by omega), ← hr.1]; exact e))
          rw [if_neg hne]
          unfold X8_act_J61 X8_act_J66
          rw [if_neg hne]
          unfold X8_act_J88 X8_act_J92
          rw [if_neg i1n0]
          unfold X8_act_J116
          rw [wrI_nI place (by omega) (by decide)]
          exact ⟨_, _, rfl, hr.upa b6 ha _⟩
      · rw [if_neg hf, if_neg hf, if_pos rfl]
        exact ⟨ball, place, rfl, hr⟩
