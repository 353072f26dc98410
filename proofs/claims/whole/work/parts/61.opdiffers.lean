theorem likeB_L {a b : Nat → Int32} {A B : Nat → Nat} (h1 : Rep a A) (h2 : Rep b B) (hA : ∀ j, j < 13 → A j < 2 ^ 31) (hB : ∀ j, j < 13 → B j < 2 ^ 31) : ∀ (d i fuel : Nat), i + d = 13 → d < fuel → (∀ j, j < i → A j = B j) → X0_isLike_L2 a b fuel (nI i) = some (if eqn A B 13 = true then 1 else 0) := by
  intro d
  induction d with
  | zero =>
    intro i fuel hi hf h
    obtain ⟨fuel, rfl⟩ : ∃ k, fuel = k + 1 := ⟨fuel - 1, by omega⟩
    show X0_isLike_L2_B a b _ (nI i) = _
    unfold X0_isLike_L2_B
    rw [if_pos (show (13 : Int32) ≤ nI i from nI_le (a := 13) (by omega) (by omega)), zb_1, if_pos ((eqn_iff A B 13).mpr (fun j hj => h j (by omega)))]
  | succ d ih =>
    intro i fuel hi hf h
    obtain ⟨fuel, rfl⟩ : ∃ k, fuel = k + 1 := ⟨fuel - 1, by omega⟩
    show X0_isLike_L2_B a b (X0_isLike_L2 a b fuel) (nI i) = _
    unfold X0_isLike_L2_B
    rw [if_neg (show ¬ (13 : Int32) ≤ nI i from nI_ge (b := 13) (by omega) (by decide)), rd_nI a (by omega) (by decide), rd_nI b (by omega) (by decide), h1 i (by omega), h2 i (by omega)]
    by_cases c : A i = B i
    · rw [if_pos (by rw [c]), nm_eq, show nI i + 1 = nI (i + 1) from nI_1 _]
      exact ih (i + 1) fuel (by omega) (by omega) (fun j hj => by
        by_cases e : j = i
        · subst e
          exact c
        · exact h j (by omega))
    · rw [if_neg (fun e => c (nI_inj (hA i (by omega)) (hB i (by omega)) e)), zb_0, if_neg (fun q => c ((eqn_iff A B 13).mp q i (by omega)))]
theorem likeB_ok {a b : Nat → Int32} {A B : Nat → Nat} (h1 : Rep a A) (h2 : Rep b B) (hA : ∀ j, j < 13 → A j < 2 ^ 31) (hB : ∀ j, j < 13 → B j < 2 ^ 31) : X0_isLike a b = some (if eqn A B 13 = true then 1 else 0) := by
  unfold X0_isLike
  exact likeB_L h1 h2 hA hB 13 0 FU (by omega) (FU_big (by omega)) (fun j hj => by omega)
theorem eqn_sym (A B : Nat → Nat) (n : Nat) : eqn A B n = eqn B A n := by
  rw [Bool.eq_iff_iff, eqn_iff, eqn_iff]
  exact ⟨fun h j hj => (h j hj).symm, fun h j hj => (h j hj).symm⟩
section DIFF
variable {w h n : Int32} {ru pr lf lt wide tall hands power spin seed pressed leftFrom leftTo kept isKept : Nat → Int32} {P W H N pw sp sd : Nat} {LF LT PR : Nat → Nat}
theorem differs_both (hn : PlayN W H N pw sp sd LF LT PR) (hc : CP w h n ru pr lf lt W H N pw sp sd LF LT PR) (hm : MP wide tall hands power spin seed pressed leftFrom leftTo P W H N pw sp sd LF LT PR) (hP : P ≤ 4) {v : Nat} (hv : v ≤ 5) (th : Int32) {ts : Nat → Int32} (hts : ∀ j, j < 100 → TM W N ts (13 * j) (trj W H N pw sp sd LF LT (prT PR) (j + 1))) : ∀ (d i fuel fuel' : Nat) (now oth ps : Nat → Int32) (ball : Int32) (place points other : Nat → Int32), i + d = 100 → d < fuel → d < fuel' → Rep now (trj W H N pw sp sd LF LT (prT PR) i) → Rep oth (trj W H N v sp sd LF LT (prT PR) i) → RepP W N ball place (trj W H N v sp sd LF LT (prT PR) i) → (∀ a, a < 6 → points a = nI (trj W H N v sp sd LF LT (prT PR) i (7 + a))) → ∃ oc om, X7_differs_L57 w h n ru pr lf lt kept fuel now oth ps (nI v) (nI i) = some oc ∧ X8_differs_L100 wide tall hands power spin seed pressed leftFrom leftTo isKept fuel' th ball (nI W) (nI H) (nI N) place points other ts (nI P) (nI v) (nI i) = some om ∧ oc.1 = om.1 := by
  have hn' := hn
  obtain ⟨hb, ⟨p1, p5⟩, -, -, -, hPR⟩ := hn'
  have hc' := hc
  obtain ⟨ew, eh, en, e0, -, -, -, ep⟩ := hc'
  have hm' := hm
  obtain ⟨-, -, -, -, -, -, -, mp⟩ := hm'
  have hb' := hb
  obtain ⟨b1, b2, b3, b4, b5, b6⟩ := hb'
  intro d
  induction d with
  | zero =>
    intro i fuel fuel' now oth ps ball place points other hi hf hf' r1 r2 r3 q3
    obtain ⟨fuel, rfl⟩ : ∃ k, fuel = k + 1 := ⟨fuel - 1, by omega⟩
    obtain ⟨fuel', rfl⟩ : ∃ k, fuel' = k + 1 := ⟨fuel' - 1, by omega⟩
    show ∃ oc om, X7_differs_L57_B w h n ru pr lf lt kept _ now oth ps (nI v) (nI i) = some oc ∧ X8_differs_L100_B wide tall hands power spin seed pressed leftFrom leftTo isKept _ th ball (nI W) (nI H) (nI N) place points other ts (nI P) (nI v) (nI i) = some om ∧ _
    unfold X7_differs_L57_B X8_differs_L100_B
    rw [if_pos (show (100 : Int32) ≤ nI i from nI_le (a := 100) (by omega) (by omega)), if_pos (show (100 : Int32) ≤ nI i from nI_le (a := 100) (by omega) (by omega))]
    exact ⟨_, _, rfl, rfl, rfl⟩
  | succ d ih =>
    intro i fuel fuel' now oth ps ball place points other hi hf hf' r1 r2 r3 q3
    obtain ⟨fuel, rfl⟩ : ∃ k, fuel = k + 1 := ⟨fuel - 1, by omega⟩
    obtain ⟨fuel', rfl⟩ : ∃ k, fuel' = k + 1 := ⟨fuel' - 1, by omega⟩
    obtain ⟨ps1, f1, f2⟩ := fillP_ok (pr := pr) (t := i) b6 (by omega) ps
    obtain ⟨now1, a1, a2⟩ := adv_P hn hc (power := pw) (t := i) (row := ps1) (prs := prT PR i) p5 (by omega) (fun a ha _ => ⟨by rw [f2 a ha, ep _ (by omega)]; rfl, hPR _ (by omega)⟩) (trj_ok hb i) r1
    have f1' : X5_fillPresses 6 n pr ps (nI i) = some ps1 := by
      rw [en]
      exact f1
    obtain ⟨oth1, o1, o2⟩ := adv_P hn hc (power := v) (t := i) (row := ps1) (prs := prT PR i) hv (by omega) (fun a ha _ => ⟨by rw [f2 a ha, ep _ (by omega)]; rfl, hPR _ (by omega)⟩) (trj_ok hb i) r2
    obtain ⟨bl, pl, pt, e, r5, q5⟩ := mstep_P hn hm hP (n3 := 3000) (F := 600 * P) (pwr := v) (t := i) (row := pressed) (prs := prT PR i) hv (by omega) (by decide) (by omega) (fun a ha _ => ⟨by rw [Nat.add_assoc, mp _ (by omega)]; rfl, hPR _ (by omega)⟩) (trj_ok hb i) r3 q3
    obtain ⟨ot', g1, g2, g3⟩ := write_ok (n1 := 13) (F := 0) b6 (by decide) (by omega) r5 q5 other
    have lA : ∀ j, j < 13 → trj W H N v sp sd LF LT (prT PR) (i + 1) j < 2 ^ 31 := fun j hj => trj_lt hb (by omega) hj
    have lB : ∀ j, j < 13 → trj W H N pw sp sd LF LT (prT PR) (i + 1) j < 2 ^ 31 := fun j hj => trj_lt hb (by omega) hj
    have k1 : X0_isLike now1 oth1 = some (if eqn (trj W H N pw sp sd LF LT (prT PR) (i + 1)) (trj W H N v sp sd LF LT (prT PR) (i + 1)) 13 = true then 1 else 0) := likeB_ok a2 o2 lB lA
    have k2 := mlike_ok (W := W) (H := H) (N := N) (n1 := 13) (n3 := 1300) (F := 0) (G := 13 * i) (a1 := ot') (a3 := ts) (A := trj W H N v sp sd LF LT (prT PR) (i + 1)) (B := trj W H N pw sp sd LF LT (prT PR) (i + 1)) (by decide) (by decide) (by omega) (by omega) g2 (hts i (by omega)) b2 b4 (trj_ok hb (i + 1)) (trj_ok hb (i + 1)) lA lB (fun j j1 j2 => by rw [trj_mid j1 j2, trj_mid j1 j2])
    show ∃ oc om, X7_differs_L57_B w h n ru pr lf lt kept (X7_differs_L57 w h n ru pr lf lt kept fuel) now oth ps (nI v) (nI i) = some oc ∧ X8_differs_L100_B wide tall hands power spin seed pressed leftFrom leftTo isKept (X8_differs_L100 wide tall hands power spin seed pressed leftFrom leftTo isKept fuel') th ball (nI W) (nI H) (nI N) place points other ts (nI P) (nI v) (nI i) = some om ∧ _
    unfold X7_differs_L57_B X8_differs_L100_B
    rw [if_neg (show ¬ (100 : Int32) ≤ nI i from nI_ge (b := 100) (by omega) (by decide)), if_neg (show ¬ (100 : Int32) ≤ nI i from nI_ge (b := 100) (by omega) (by decide)), f1', bd_some, rd_lit ru 7 0 (by decide) (by decide), e0, a1, bd_some, o1, bd_some, k1, bd_some, show (600 : Int32) * nI P = nI (600 * P) from pk_mul 600 P, e, bd_some]
    show ∃ oc om, _ ∧ (bd (X8_write 13 bl pl pt other (nI 0)) fun r128 => bd (X8_isLike 13 1300 r128 ts (nI 0) ((13 : Int32) * nI i)) fun r144 => if r144 = 0 then some (nI i, th, bl, nI W, nI H, nI N, pl, pt, r128, ts) else nm (nI i + 1) fun v152 => X8_differs_L100 wide tall hands power spin seed pressed leftFrom leftTo isKept fuel' th bl (nI W) (nI H) (nI N) pl pt r128 ts (nI P) (nI v) v152) = some om ∧ _
    rw [g1, bd_some, show (13 : Int32) * nI i = nI (13 * i) from pk_mul 13 i, k2, bd_some, eqn_sym]
    by_cases c : eqn (trj W H N v sp sd LF LT (prT PR) (i + 1)) (trj W H N pw sp sd LF LT (prT PR) (i + 1)) 13 = true
    · rw [if_pos c, if_neg i1n0, if_neg i1n0, nm_eq, nm_eq, show nI i + 1 = nI (i + 1) from nI_1 i]
      exact ih (i + 1) fuel fuel' now1 oth1 ps1 bl pl pt ot' (by omega) (by omega) (by omega) a2 o2 r5 q5
    · rw [if_neg c, if_pos rfl, if_pos rfl]
      exact ⟨_, _, rfl, rfl, rfl⟩
theorem mdiff_1 (hn : PlayN W H N pw sp sd LF LT PR) (hm : MP wide tall hands power spin seed pressed leftFrom leftTo P W H N pw sp sd LF LT PR) (hP : P ≤ 4) (th v : Int32) (other : Nat → Int32) : ∀ (d i fuel : Nat) (ball : Int32) (place points ts : Nat → Int32), i + d = 100 → d < fuel → RepP W N ball place (trj W H N pw sp sd LF LT (prT PR) i) → (∀ a, a < 6 → points a = nI (trj W H N pw sp sd LF LT (prT PR) i (7 + a))) → (∀ j, j < i → TM W N ts (13 * j) (trj W H N pw sp sd LF LT (prT PR) (j + 1))) → ∃ ball' place' points' ts', X8_differs_L48 wide tall hands power spin seed pressed leftFrom leftTo isKept fuel th ball (nI W) (nI H) (nI N) place points other ts (nI P) v (nI i) = X8_differs_J93 wide tall hands power spin seed pressed leftFrom leftTo isKept th ball' (nI W) (nI H) (nI N) place' points' other ts' (nI P) v ∧ ∀ j, j < 100 → TM W N ts' (13 * j) (trj W H N pw sp sd LF LT (prT PR) (j + 1)) := by
  have hn' := hn
  obtain ⟨hb, ⟨p1, p5⟩, -, -, -, hPR⟩ := hn'
  have hm' := hm
  obtain ⟨-, -, -, e4, -, -, -, mp⟩ := hm'
  have hb' := hb
  obtain ⟨b1, b2, b3, b4, b5, b6⟩ := hb'
  intro d
  induction d with
  | zero =>
    intro i fuel ball place points ts hi hf hr hpt hT
    obtain ⟨fuel, rfl⟩ : ∃ k, fuel = k + 1 := ⟨fuel - 1, by omega⟩
    refine ⟨ball, place, points, ts, ?_, fun j hj => hT j (by omega)⟩
    show X8_differs_L48_B wide tall hands power spin seed pressed leftFrom leftTo isKept _ th ball (nI W) (nI H) (nI N) place points other ts (nI P) v (nI i) = _
    unfold X8_differs_L48_B
    rw [if_pos (show (100 : Int32) ≤ nI i from nI_le (a := 100) (by omega) (by omega))]
  | succ d ih =>
    intro i fuel ball place points ts hi hf hr hpt hT
    obtain ⟨fuel, rfl⟩ : ∃ k, fuel = k + 1 := ⟨fuel - 1, by omega⟩
    obtain ⟨bl, pl, pt, e, r1, q1⟩ := mstep_P hn hm hP (n3 := 3000) (F := 600 * P) (pwr := pw) (t := i) (row := pressed) (prs := prT PR i) p5 (by omega) (by decide) (by omega) (fun a ha _ => ⟨by rw [Nat.add_assoc, mp _ (by omega)]; rfl, hPR _ (by omega)⟩) (trj_ok hb i) hr hpt
    obtain ⟨ts', g1, g2, g3⟩ := write_ok (n1 := 1300) (F := 13 * i) b6 (by decide) (by omega) r1 q1 ts
    have hs : X8_differs_L48 wide tall hands power spin seed pressed leftFrom leftTo isKept (fuel + 1) th ball (nI W) (nI H) (nI N) place points other ts (nI P) v (nI i) = X8_differs_L48 wide tall hands power spin seed pressed leftFrom leftTo isKept fuel th bl (nI W) (nI H) (nI N) pl pt other ts' (nI P) v (nI (i + 1)) := by
      show X8_differs_L48_B wide tall hands power spin seed pressed leftFrom leftTo isKept (X8_differs_L48 wide tall hands power spin seed pressed leftFrom leftTo isKept fuel) th ball (nI W) (nI H) (nI N) place points other ts (nI P) v (nI i) = _
      unfold X8_differs_L48_B
      rw [if_neg (show ¬ (100 : Int32) ≤ nI i from nI_ge (b := 100) (by omega) (by decide)), rd_nI power (by omega) (by decide), e4, show (600 : Int32) * nI P = nI (600 * P) from pk_mul 600 P, e, bd_some, show (13 : Int32) * nI i = nI (13 * i) from pk_mul 13 i, g1, bd_some, nm_eq, show nI i + 1 = nI (i + 1) from nI_1 i]
    rw [hs]
    refine ih (i + 1) fuel bl pl pt ts' (by omega) (by omega) r1 q1 (fun j hj => ?_)
    by_cases q : j = i
    · subst q
      exact g2
    · intro k hk
      rw [g3 _ (by omega)]
      exact hT j (by omega) k hk
end DIFF
section OPS17
variable {w1 h1 n1 : Int32} {ru1 pr1 lf1 lt1 kept isKept wide tall hands power spin seed pressed leftFrom leftTo : Nat → Int32}
theorem op_differs (th ball w0 h0 n0 : Int32) (now oth ps place points other ts : Nat → Int32) (p1 p2 : Int32) (hK : ∀ s, s < 4 → p1 = nI s → kept s = isKept s ∧ (isKept s = 0 ∨ KP w1 h1 n1 ru1 pr1 lf1 lt1 wide tall hands power spin seed pressed leftFrom leftTo s)) : ∃ oc om, X7_differs w1 h1 n1 ru1 pr1 lf1 lt1 kept now oth ps p1 p2 = some oc ∧ X8_differs wide tall hands power spin seed pressed leftFrom leftTo isKept th ball w0 h0 n0 place points other ts p1 p2 = some om ∧ oc.1 = om.1 := by
  unfold X7_differs X8_differs
  rcases slot_cases p1 with ⟨t1, t2⟩ | ⟨s, hs, rfl, t1, t2⟩
  · rw [t1, t2, bd_some, bd_some, if_pos rfl, if_neg i1n0]
    exact ⟨_, _, rfl, rfl, rfl⟩
  · obtain ⟨k1, k2⟩ := hK s hs rfl
    rw [t1, t2, bd_some, bd_some, if_neg i1n0, if_pos rfl, rd_nI kept hs (by decide), rd_nI isKept hs (by decide), k1]
    by_cases c : isKept s = 0
    · rw [if_pos c, if_pos c]
      exact ⟨_, _, rfl, rfl, rfl⟩
    · obtain ⟨W, H, N, pw, sp, sd, LF, LT, PR, hn, hc, hm⟩ := k2.resolve_left c
      have e1 : wide s = nI W := hm.1
      have e2 : tall s = nI H := hm.2.1
      have e3 : hands s = nI N := hm.2.2.1
      have en : n1 = nI N := hc.2.2.1
      have ew : w1 = nI W := hc.1
      have eh : h1 = nI H := hc.2.1
      rw [if_neg c, if_neg c]
      rcases power_cases p2 with ⟨q1, q2⟩ | ⟨v, v1, v5, rfl, q1, q2⟩
      · rw [q1, q2, bd_some, bd_some, if_pos rfl, if_pos rfl]
        exact ⟨_, _, rfl, rfl, rfl⟩
      · rw [q1, q2, bd_some, bd_some, if_neg i1n0, if_neg i1n0, gdp_nI hs (by decide)]
        obtain ⟨nw, s1, s2⟩ := start_ok hn.1 now
        obtain ⟨no, s3, s4⟩ := start_ok hn.1 oth
        obtain ⟨bl, pl, pt, f1, f2, f3⟩ := mstart_ok hn.1 (by omega : s ≤ 4) e1 e2 e3 ball w0 h0 n0 place points
        rw [ew, eh, en, s1, bd_some, s3, bd_some, ← ew, ← eh, ← en, f1, bd_some]
        obtain ⟨bl', pl', pt', ts', g1, g2⟩ := mdiff_1 (isKept := isKept) hn hm (by omega) (0 : Int32) (nI v) other 100 0 FU bl pl pt ts (by omega) (FU_big (by omega)) f2 f3 (fun j hj => by omega)
        obtain ⟨bl2, pl2, pt2, i1, i2, i3⟩ := mstart_ok hn.1 (by omega : s ≤ 4) e1 e2 e3 bl' (nI W) (nI H) (nI N) pl' pt'
        obtain ⟨oc, om, d1, d2, d3⟩ := differs_both (kept := kept) (isKept := isKept) hn hc hm (by omega) v5 (0 : Int32) g2 100 0 FU FU nw no ps bl2 pl2 pt2 other (by omega) (FU_big (by omega)) (FU_big (by omega)) s2 s4 i2 i3
        refine ⟨oc, om, d1, ?_, d3⟩
        refine Eq.trans g1 ?_
        unfold X8_differs_J93
        rw [i1, bd_some]
        exact d2
end OPS17
theorem lost_L {N : Nat} {lr : Nat → Int32} (hN : N ≤ 6) : ∀ (d i fuel : Nat), i + d = 100 * N → d < fuel → X4_lostOnes_L4 (nI N) lr fuel (nI (cz lr i)) (nI i) = some (nI (cz lr (100 * N))) := by
  intro d
  have e100 : nI N * 100 = nI (100 * N) := by
    show nI N * nI 100 = _
    rw [pk_mul, Nat.mul_comm]
  induction d with
  | zero =>
    intro i fuel hi hf
    obtain ⟨fuel, rfl⟩ : ∃ k, fuel = k + 1 := ⟨fuel - 1, by omega⟩
    have ei : i = 100 * N := by omega
    subst ei
    show X4_lostOnes_L4_B (nI N) lr _ _ _ = _
    unfold X4_lostOnes_L4_B
    rw [e100, if_pos (nI_le (by omega) (by omega))]
  | succ d ih =>
    intro i fuel hi hf
    obtain ⟨fuel, rfl⟩ : ∃ k, fuel = k + 1 := ⟨fuel - 1, by omega⟩
    show X4_lostOnes_L4_B (nI N) lr (X4_lostOnes_L4 (nI N) lr fuel) _ _ = _
    unfold X4_lostOnes_L4_B X4_lostOnes_J30
    rw [e100, if_neg (nI_ge (by omega) (by omega)), rd_nI lr (by omega) (by decide), nm_eq, nm_eq, nm_eq, show nI i + 1 = nI (i + 1) from nI_1 i, show nI (cz lr i) + 1 = nI (cz lr i + 1) from nI_1 _]
    have h := ih (i + 1) fuel (by omega) (by omega)
    rw [cz] at h
    by_cases c : lr i = 0
    · rw [if_pos c]
      rw [if_pos c] at h
      exact h
    · rw [if_neg c]
      rw [if_neg c] at h
      exact h
theorem kept_L {kp : Nat → Int32} : ∀ (d i fuel : Nat), i + d = 4 → d < fuel → X7_slotsKept_L4 kp fuel (nI (cz kp i)) (nI i) = some (nI (cz kp 4)) := by
  intro d
  induction d with
  | zero =>
    intro i fuel hi hf
    obtain ⟨fuel, rfl⟩ : ∃ k, fuel = k + 1 := ⟨fuel - 1, by omega⟩
    have ei : i = 4 := by omega
    subst ei
    show X7_slotsKept_L4_B kp _ _ _ = _
    unfold X7_slotsKept_L4_B
    rw [if_pos (by decide)]
  | succ d ih =>
    intro i fuel hi hf
    obtain ⟨fuel, rfl⟩ : ∃ k, fuel = k + 1 := ⟨fuel - 1, by omega⟩
    show X7_slotsKept_L4_B kp (X7_slotsKept_L4 kp fuel) _ _ = _
    unfold X7_slotsKept_L4_B X7_slotsKept_J21
    rw [if_neg (show ¬ (4 : Int32) ≤ nI i from nI_ge (b := 4) (by omega) (by decide)), rd_nI kp (by omega) (by decide), nm_eq, nm_eq, nm_eq, show nI i + 1 = nI (i + 1) from nI_1 i, show nI (cz kp i) + 1 = nI (cz kp i + 1) from nI_1 _]
    have h := ih (i + 1) fuel (by omega) (by omega)
    rw [cz] at h
    by_cases c : kp i = 0
    · rw [if_pos c]
      rw [if_pos c] at h
      exact h
    · rw [if_neg c]
      rw [if_neg c] at h
      exact h
def sl (f g : Nat → Int32) : Nat → Int32
  | 0 => 0
  | n + 1 => sl f g n + (g n - f n)
theorem sl_congr {f g f' g' : Nat → Int32} : ∀ n, (∀ k, k < n → f k = f' k ∧ g k = g' k) → sl f g n = sl f' g' n
  | 0, _ => rfl
  | n + 1, h => by rw [sl, sl, sl_congr n (fun k hk => h k (by omega)), (h n (by omega)).1, (h n (by omega)).2]
theorem left_L {N : Nat} {lf lt : Nat → Int32} (hN : N ≤ 6) : ∀ (d i fuel : Nat), i + d = N → d < fuel → X5_leftTicks_L4 (nI N) lf lt fuel (sl lf lt i) (nI i) = some (sl lf lt N) := by
  intro d
  induction d with
  | zero =>
    intro i fuel hi hf
    obtain ⟨fuel, rfl⟩ : ∃ k, fuel = k + 1 := ⟨fuel - 1, by omega⟩
    have ei : i = N := by omega
    subst ei
    show X5_leftTicks_L4_B (nI i) lf lt _ _ _ = _
    unfold X5_leftTicks_L4_B
    rw [if_pos (nI_le (by omega) (by omega))]
  | succ d ih =>
    intro i fuel hi hf
    obtain ⟨fuel, rfl⟩ : ∃ k, fuel = k + 1 := ⟨fuel - 1, by omega⟩
    show X5_leftTicks_L4_B (nI N) lf lt (X5_leftTicks_L4 (nI N) lf lt fuel) _ _ = _
    unfold X5_leftTicks_L4_B
    rw [if_neg (nI_ge (by omega) (by omega)), rd_nI lt (by omega) (by decide), rd_nI lf (by omega) (by decide), nm_eq, nm_eq, show nI i + 1 = nI (i + 1) from nI_1 i]
    exact ih (i + 1) fuel (by omega) (by omega)
section MCOUNT
variable {pl th p1 : Int32} {wide tall hands pressed leftFrom leftTo isKept isLost : Nat → Int32} {N : Nat}
theorem mcount_3 (l2 l3 : Int32) : ∀ (d i fuel : Nat), i + d = 4 → d < fuel → X8_count_L100 pl wide tall hands pressed leftFrom leftTo isKept isLost fuel th p1 l2 l3 (nI (cz isKept i)) (nI i) = X8_count_J132 pl wide tall hands pressed leftFrom leftTo isKept isLost th p1 l2 l3 (nI (cz isKept 4)) := by
  intro d
  induction d with
  | zero =>
    intro i fuel hi hf
    obtain ⟨fuel, rfl⟩ : ∃ k, fuel = k + 1 := ⟨fuel - 1, by omega⟩
    have ei : i = 4 := by omega
    subst ei
    show X8_count_L100_B pl wide tall hands pressed leftFrom leftTo isKept isLost _ th p1 l2 l3 (nI (cz isKept 4)) (nI 4) = _
    unfold X8_count_L100_B
    rw [if_pos (by decide)]
  | succ d ih =>
    intro i fuel hi hf
    obtain ⟨fuel, rfl⟩ : ∃ k, fuel = k + 1 := ⟨fuel - 1, by omega⟩
    show X8_count_L100_B pl wide tall hands pressed leftFrom leftTo isKept isLost (X8_count_L100 pl wide tall hands pressed leftFrom leftTo isKept isLost fuel) th p1 l2 l3 (nI (cz isKept i)) (nI i) = _
    unfold X8_count_L100_B X8_count_J123
    rw [if_neg (show ¬ (4 : Int32) ≤ nI i from nI_ge (b := 4) (by omega) (by decide)), rd_nI isKept (by omega) (by decide), nm_eq, nm_eq, nm_eq, nm_eq, show nI i + 1 = nI (i + 1) from nI_1 i]
    have h := ih (i + 1) fuel (by omega) (by omega)
    rw [cz] at h
    by_cases c : isKept i = 0
    · rw [if_pos c, show nI (cz isKept i) + 0 = nI (cz isKept i + 0) from nI_add _ 0]
      rw [if_pos c] at h
      exact h
    · rw [if_neg c, show nI (cz isKept i) + 1 = nI (cz isKept i + 1) from nI_1 _]
      rw [if_neg c] at h
      exact h
theorem mcount_2 (hN : N ≤ 6) (h4 : hands 4 = nI N) (l2 l4 : Int32) : ∀ (d i fuel : Nat), i + d = N → d < fuel → X8_count_L56 pl wide tall hands pressed leftFrom leftTo isKept isLost fuel th p1 l2 (sl (fun k => leftFrom (24 + k)) (fun k => leftTo (24 + k)) i) l4 (nI i) = X8_count_J97 pl wide tall hands pressed leftFrom leftTo isKept isLost th p1 l2 (sl (fun k => leftFrom (24 + k)) (fun k => leftTo (24 + k)) N) l4 := by
  intro d
  induction d with
  | zero =>
    intro i fuel hi hf
    obtain ⟨fuel, rfl⟩ : ∃ k, fuel = k + 1 := ⟨fuel - 1, by omega⟩
    have ei : i = N := by omega
    subst ei
    show X8_count_L56_B pl wide tall hands pressed leftFrom leftTo isKept isLost _ th p1 l2 _ l4 (nI i) = _
    unfold X8_count_L56_B
    rw [rd_lit hands 5 4 (by decide) (by decide), h4, if_pos (nI_le (by omega) (by omega))]
  | succ d ih =>
    intro i fuel hi hf
    obtain ⟨fuel, rfl⟩ : ∃ k, fuel = k + 1 := ⟨fuel - 1, by omega⟩
    show X8_count_L56_B pl wide tall hands pressed leftFrom leftTo isKept isLost (X8_count_L56 pl wide tall hands pressed leftFrom leftTo isKept isLost fuel) th p1 l2 _ l4 (nI i) = _
    unfold X8_count_L56_B
    rw [rd_lit hands 5 4 (by decide) (by decide), h4, if_neg (nI_ge (by omega) (by omega)), show (24 : Int32) + nI i = nI (24 + i) from nI_add 24 i, rd_nI leftTo (by omega) (by decide), rd_nI leftFrom (by omega) (by decide), nm_eq, nm_eq, show nI i + 1 = nI (i + 1) from nI_1 i]
    exact ih (i + 1) fuel (by omega) (by omega)
theorem mcount_1 (hN : N ≤ 6) (h4 : hands 4 = nI N) (l3 l4 : Int32) : ∀ (d i fuel : Nat), i + d = 100 * N → d < fuel → X8_count_L15 pl wide tall hands pressed leftFrom leftTo isKept isLost fuel th p1 (nI (cz isLost i)) l3 l4 (nI i) = X8_count_J53 pl wide tall hands pressed leftFrom leftTo isKept isLost th p1 (nI (cz isLost (100 * N))) l3 l4 := by
  have e100 : (100 : Int32) * nI N = nI (100 * N) := pk_mul 100 N
  intro d
  induction d with
  | zero =>
    intro i fuel hi hf
    obtain ⟨fuel, rfl⟩ : ∃ k, fuel = k + 1 := ⟨fuel - 1, by omega⟩
    have ei : i = 100 * N := by omega
    subst ei
    show X8_count_L15_B pl wide tall hands pressed leftFrom leftTo isKept isLost _ th p1 _ l3 l4 _ = _
    unfold X8_count_L15_B
    rw [rd_lit hands 5 4 (by decide) (by decide), h4, e100, if_pos (nI_le (by omega) (by omega))]
  | succ d ih =>
    intro i fuel hi hf
    obtain ⟨fuel, rfl⟩ : ∃ k, fuel = k + 1 := ⟨fuel - 1, by omega⟩
    show X8_count_L15_B pl wide tall hands pressed leftFrom leftTo isKept isLost (X8_count_L15 pl wide tall hands pressed leftFrom leftTo isKept isLost fuel) th p1 _ l3 l4 _ = _
    unfold X8_count_L15_B X8_count_J45
    rw [rd_lit hands 5 4 (by decide) (by decide), h4, e100, if_neg (nI_ge (by omega) (by omega)), rd_nI isLost (by omega) (by decide), nm_eq, nm_eq, nm_eq, nm_eq, show nI i + 1 = nI (i + 1) from nI_1 i]
    have h := ih (i + 1) fuel (by omega) (by omega)
    rw [cz] at h
    by_cases c : isLost i = 0
    · rw [if_pos c, show nI (cz isLost i) + 0 = nI (cz isLost i + 0) from nI_add _ 0]
      rw [if_pos c] at h
      exact h
    · rw [if_neg c, show nI (cz isLost i) + 1 = nI (cz isLost i + 1) from nI_1 _]
      rw [if_neg c] at h
      exact h
end MCOUNT
section OPS18
variable {w h n ready : Int32} {ru pr lf lt rows wide tall hands power spin seed pressed leftFrom leftTo : Nat → Int32}
theorem op_count {waits lostRow wait isLost : Nat → Int32} (hI : InvP w h n ready ru pr lf lt rows wide tall hands power spin seed pressed leftFrom leftTo) (hL : InvL waits lostRow wait isLost) {size players : Int32} (hC : size = players) {kept isKept : Nat → Int32} (hK : ∀ s, s < 4 → kept s = isKept s) (th p1 : Int32) : ∃ oc om, X7_count w h n pr lf lt lostRow size kept p1 = some oc ∧ X8_count players wide tall hands pressed leftFrom leftTo isKept isLost th p1 = some om ∧ oc = om.1 := by
  obtain ⟨W, H, N, pw, sp, sd, R, LF, LT, PR, hn, hc, hm, eR, hR, hT⟩ := hI
  obtain ⟨b1, b2, b3, b4, b5, b6⟩ := hn.1
  obtain ⟨WA, hw, hl⟩ := hL
  have e4 : hands 4 = nI N := hm.2.2.1
  have em : X8_count players wide tall hands pressed leftFrom leftTo isKept isLost th p1 = X8_count_J132 players wide tall hands pressed leftFrom leftTo isKept isLost 0 p1 (nI (cz isLost (100 * N))) (sl (fun k => leftFrom (24 + k)) (fun k => leftTo (24 + k)) N) (nI (cz isKept 4)) := by
    unfold X8_count
    refine (mcount_1 (pl := players) (th := 0) (p1 := p1) (wide := wide) (tall := tall) (pressed := pressed) (leftFrom := leftFrom) (leftTo := leftTo) (isKept := isKept) (isLost := isLost) b6 e4 0 0 (100 * N) 0 FU (by omega) (FU_big (by omega))).trans ?_
    unfold X8_count_J53
    refine (mcount_2 b6 e4 _ _ N 0 FU (by omega) (FU_big (by omega))).trans ?_
    unfold X8_count_J97
    exact mcount_3 _ _ 4 0 FU (by omega) (FU_big (by omega))
  rw [em]
  unfold X7_count X8_count_J132
  have en : n = nI N := hc.2.2.1
  rw [rd_lit hands 5 4 (by decide) (by decide), rd_lit wide 5 4 (by decide) (by decide), rd_lit tall 5 4 (by decide) (by decide), hm.1, hm.2.1, e4, en, hc.1, hc.2.1, pressed_ok b6, mpress_ok b6 e4, bd_some, bd_some, hC]
  have g1 : X4_lostOnes (nI N) lostRow = some (nI (cz lostRow (100 * N))) := lost_L b6 (100 * N) 0 FU (by omega) (FU_big (by omega))
  have g2 : X5_leftTicks (nI N) lf lt = some (sl lf lt N) := left_L b6 N 0 FU (by omega) (FU_big (by omega))
  have g3 : X7_slotsKept kept = some (nI (cz kept 4)) := kept_L 4 0 FU (by omega) (FU_big (by omega))
  have k1 : cz pr (100 * N) = cz (fun k => pressed (2400 + k)) (100 * N) := cz_congr _ (fun k hk => by
    rw [hc.2.2.2.2.2.2.2 k (by omega)]
    exact (hm.2.2.2.2.2.2.2 k (by omega)).symm)
  have k2 : cz lostRow (100 * N) = cz isLost (100 * N) := cz_congr _ (fun k hk => (hl k (by omega)).1)
  have k3 : cz kept 4 = cz isKept 4 := cz_congr _ (fun k hk => hK k hk)
  have k4 : sl lf lt N = sl (fun k => leftFrom (24 + k)) (fun k => leftTo (24 + k)) N := sl_congr _ (fun k hk => by
    rw [(hc.2.2.2.2.2.2.1 k (by omega)).1, (hc.2.2.2.2.2.2.1 k (by omega)).2]
    exact ⟨(hm.2.2.2.2.2.2.1 k (by omega)).1.symm, (hm.2.2.2.2.2.2.1 k (by omega)).2.symm⟩)
  rw [g1, g2, g3, bd_some, bd_some, bd_some, k1, k2, k3, k4]
  by_cases c0 : p1 = 0
  · rw [if_pos c0, if_pos c0]
    exact ⟨_, _, rfl, rfl, rfl⟩
  rw [if_neg c0, if_neg c0]
  by_cases c1 : p1 = 1
  · rw [if_pos c1, if_pos c1]
    exact ⟨_, _, rfl, rfl, rfl⟩
  rw [if_neg c1, if_neg c1]
  by_cases c2 : p1 = 2
  · rw [if_pos c2, if_pos c2]
    exact ⟨_, _, rfl, rfl, rfl⟩
  rw [if_neg c2, if_neg c2]
  by_cases c3 : p1 = 3
  · rw [if_pos c3, if_pos c3]
    exact ⟨_, _, rfl, rfl, rfl⟩
  rw [if_neg c3, if_neg c3]
  by_cases c4 : p1 = 4
  · rw [if_pos c4, if_pos c4]
    exact ⟨_, _, rfl, rfl, rfl⟩
  rw [if_neg c4, if_neg c4]
  by_cases c5 : p1 = 5
  · rw [if_pos c5, if_pos c5]
    exact ⟨_, _, rfl, rfl, rfl⟩
  rw [if_neg c5, if_neg c5]
  by_cases c6 : p1 = 6
  · rw [if_pos c6, if_pos c6]
    exact ⟨_, _, rfl, rfl, rfl⟩
  rw [if_neg c6, if_neg c6]
  by_cases c7 : p1 = 7
  · rw [if_pos c7, if_pos c7]
    exact ⟨_, _, rfl, rfl, rfl⟩
  · rw [if_neg c7, if_neg c7]
    exact ⟨_, _, rfl, rfl, rfl⟩
end OPS18
