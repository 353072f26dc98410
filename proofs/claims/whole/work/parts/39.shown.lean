section MSHOW
variable {wide tall hands power spin seed pressed leftFrom leftTo wait isLost : Nat → Int32} {W H N pw sp sd : Nat} {WA LO LF LT PR : Nat → Nat}
theorem mshow_L (hn : PlayN W H N pw sp sd LF LT PR) (hm : MP wide tall hands power spin seed pressed leftFrom leftTo 4 W H N pw sp sd LF LT PR) {D g c : Nat} (delay : Int32) (hcc : c < 100) {row : Nat → Int32} (hrow : ∀ b, b < N → ∀ j, j ≤ c → row (100 * b + j) = nI (tk WA LO LF LT PR D g c b j)) : ∀ (d i fuel : Nat) (ball : Int32) (place points : Nat → Int32), i + d = c + 1 → d < fuel → RepP W N ball place (trj W H N pw sp sd LF LT (tkT WA LO LF LT PR D g c) i) → (∀ a, a < 6 → points a = nI (trj W H N pw sp sd LF LT (tkT WA LO LF LT PR D g c) i (7 + a))) →
    ∃ ball' place' points', X8_show_L21 delay wide tall hands power spin seed pressed leftFrom leftTo wait isLost fuel ball (nI W) (nI H) (nI N) place points row (nI c) (nI i) = some (ball', nI W, nI H, nI N, place', points', row) ∧ RepP W N ball' place' (trj W H N pw sp sd LF LT (tkT WA LO LF LT PR D g c) (c + 1)) ∧ ∀ a, a < 6 → points' a = nI (trj W H N pw sp sd LF LT (tkT WA LO LF LT PR D g c) (c + 1) (7 + a)) := by
  have hn' := hn
  obtain ⟨hb, ⟨p1, p5⟩, -, -, -, hPR⟩ := hn'
  have hm' := hm
  obtain ⟨-, -, -, e4, -⟩ := hm'
  have hb' := hb
  obtain ⟨b1, b2, b3, b4, b5, b6⟩ := hb'
  intro d
  induction d with
  | zero =>
    intro i fuel ball place points hi hf hr hpt
    obtain ⟨fuel, rfl⟩ : ∃ k, fuel = k + 1 := ⟨fuel - 1, by omega⟩
    have ei : i = c + 1 := by omega
    subst ei
    refine ⟨ball, place, points, ?_, hr, hpt⟩
    show X8_show_L21_B delay wide tall hands power spin seed pressed leftFrom leftTo wait isLost _ ball (nI W) (nI H) (nI N) place points row (nI c) (nI (c + 1)) = _
    unfold X8_show_L21_B
    rw [if_pos (nI_lt (by omega) (by omega))]
  | succ d ih =>
    intro i fuel ball place points hi hf hr hpt
    obtain ⟨fuel, rfl⟩ : ∃ k, fuel = k + 1 := ⟨fuel - 1, by omega⟩
    obtain ⟨bl, pl, pt, e, r1, q1⟩ := mstep_P hn hm (by decide) (n3 := 600) (F := 0) (pwr := pw) (t := i) (row := row) (prs := tkT WA LO LF LT PR D g c i) p5 (by omega) (by decide) (by omega) (fun a ha _ => ⟨by rw [Nat.zero_add]; exact hrow a ha i (by omega), tk_le (by omega) (by omega) hPR⟩) (trj_ok hb i) hr hpt
    have hs : X8_show_L21 delay wide tall hands power spin seed pressed leftFrom leftTo wait isLost (fuel + 1) ball (nI W) (nI H) (nI N) place points row (nI c) (nI i) = X8_show_L21 delay wide tall hands power spin seed pressed leftFrom leftTo wait isLost fuel bl (nI W) (nI H) (nI N) pl pt row (nI c) (nI (i + 1)) := by
      show X8_show_L21_B delay wide tall hands power spin seed pressed leftFrom leftTo wait isLost (X8_show_L21 delay wide tall hands power spin seed pressed leftFrom leftTo wait isLost fuel) ball (nI W) (nI H) (nI N) place points row (nI c) (nI i) = _
      unfold X8_show_L21_B
      rw [if_neg (nI_nlt (by omega) (by omega)), rd_lit power 5 4 (by decide) (by decide), e4, show (4 : Int32) = nI 4 from rfl, show (0 : Int32) = nI 0 from rfl, e, bd_some, nm_eq, show nI i + 1 = nI (i + 1) from nI_1 i]
    rw [hs]
    exact ih (i + 1) fuel bl pl pt (by omega) (by omega) r1 q1
theorem mshow_ok (hn : PlayN W H N pw sp sd LF LT PR) (hm : MP wide tall hands power spin seed pressed leftFrom leftTo 4 W H N pw sp sd LF LT PR) (hl : LinN wait isLost WA LO) {D g c : Nat} (hD : D ≤ 9) (hg : g < 6) (hcc : c < 100) (bl w0 h0 n0 : Int32) (place points row : Nat → Int32) : ∃ ball' place' points' row', X8_show (nI D) wide tall hands power spin seed pressed leftFrom leftTo wait isLost bl w0 h0 n0 place points row (nI g) (nI c) = some (ball', nI W, nI H, nI N, place', points', row') ∧ RepP W N ball' place' (trj W H N pw sp sd LF LT (tkT WA LO LF LT PR D g c) (c + 1)) ∧ ∀ a, a < 6 → points' a = nI (trj W H N pw sp sd LF LT (tkT WA LO LF LT PR D g c) (c + 1) (7 + a)) := by
  have hm' := hm
  obtain ⟨e1, e2, e3, -, -, -, hml, hmp⟩ := hm'
  unfold X8_show
  obtain ⟨row', r1, r2⟩ := mtake_ok (PR := PR) hn.1.2.2.2.2.2 e3 hl hml hn.2.2.2.2.1 hmp hD hg hcc row
  obtain ⟨b1, p1, q1, e, r, pt⟩ := mstart_ok hn.1 (P := 4) (by decide) e1 e2 e3 bl w0 h0 n0 place points
  rw [r1, bd_some, show (4 : Int32) = nI 4 from rfl, e, bd_some]
  obtain ⟨b2, p2, q2, f1, f2, f3⟩ := mshow_L (wait := wait) (isLost := isLost) hn hm (nI D) hcc r2 (c + 1) 0 FU b1 p1 q1 (by omega) (FU_big (by omega)) r pt
  exact ⟨b2, p2, q2, row', f1, f2, f3⟩
end MSHOW
section OPS7
variable {w h n ready : Int32} {ru pr lf lt rows wide tall hands power spin seed pressed leftFrom leftTo : Nat → Int32}
theorem op_shown {waits lostRow wait isLost : Nat → Int32} {delay feel turn sight : Int32} (hI : InvP w h n ready ru pr lf lt rows wide tall hands power spin seed pressed leftFrom leftTo) (hQ : InvR ru delay feel turn sight) (hL : InvL waits lostRow wait isLost) (gt now ps : Nat → Int32) (th ball w0 h0 n0 : Int32) (place points row : Nat → Int32) (p1 p2 p3 : Int32) : ∃ oc om, X7_shown w h n ru pr lf lt waits lostRow gt now ps p1 p2 p3 = some oc ∧ X8_shown delay wide tall hands power spin seed pressed leftFrom leftTo wait isLost th ball w0 h0 n0 place points row p1 p2 p3 = some om ∧ oc.1 = om.1 := by
  obtain ⟨WA, LO, l1, l2⟩ := hL.lin
  obtain ⟨W, H, N, pw, sp, sd, R, LF, LT, PR, hn, hc, hm, eR, hR, hT⟩ := hI
  obtain ⟨b1, b2, b3, b4, b5, b6⟩ := hn.1
  have e4 : hands 4 = nI N := hm.2.2.1
  have en : n = nI N := hc.2.2.1
  have ew : w = nI W := hc.1
  obtain ⟨D, fe, tu, si, ⟨d1, d2, d3⟩, -⟩ := hQ
  unfold X7_shown X8_shown
  rcases hand_cases (N := N) (hands := hands) (by omega) e4 (by omega) p1 with ⟨t1, t2⟩ | ⟨g, hg, rfl, t1, t2⟩
  · rw [en, t1, t2, bd_some, bd_some, if_pos rfl, if_neg i1n0]
    exact ⟨_, _, rfl, rfl, rfl⟩
  · rw [en, t1, t2, bd_some, bd_some, if_neg i1n0, if_pos rfl]
    rcases tick_cases p2 with ⟨u1, u2⟩ | ⟨c, hcc, rfl, u1, u2⟩
    · rw [u1, u2, bd_some, bd_some, if_pos rfl, if_neg i1n0]
      exact ⟨_, _, rfl, rfl, rfl⟩
    · rw [u1, u2, bd_some, bd_some, if_neg i1n0, if_pos rfl, rd_lit hands 5 4 (by decide) (by decide), e4]
      rcases col_cases (N := N) (by omega) b6 p3 with ⟨c1, c2⟩ | ⟨k, hk, rfl, c1, c2⟩
      · rw [c2, bd_some, if_neg i1n0, c1, bd_some, if_neg (by decide)]
        exact ⟨_, _, rfl, rfl, rfl⟩
      · rw [c2, bd_some, if_pos rfl, c1, bd_some, if_pos (show (0 : Int32) ≤ nI k from nI_pos' (by omega)), ← en]
        obtain ⟨gt', now', ps', s1, s2⟩ := showFrom_ok hn hc l1 d3 d1 (show g < 6 by omega) hcc (show 0 ≤ c + 1 by omega) gt now ps (fun j hj => by omega)
        obtain ⟨bl, pl, pt, rw', f1, f2, f3⟩ := mshow_ok hn hm l2 d3 (show g < 6 by omega) hcc ball w0 h0 n0 place points row
        rw [show (0 : Int32) = nI 0 from rfl, s1, bd_some, d2, f1, bd_some]
        show ∃ oc om, (bd (X6_at gt' (nI c) (nI k)) fun r56 => bd (X7_told w r56 (nI k)) fun r61 => some (r61, gt', now', ps')) = some oc ∧ (bd (X8_seen bl pl pt (nI (colM k))) fun r47 => some (r47, (0 : Int32), bl, nI W, nI H, nI N, pl, pt, rw')) = some om ∧ _
        rw [at_ok hcc (by omega) (s2 c (Nat.le_refl c)), bd_some, seen_ok b6 f2 f3 hk (H := H), bd_some]
        by_cases k7 : k < 7
        · have hok : okp W H (trj W H N pw sp sd LF LT (tkT WA LO LF LT PR D g c) (c + 1) k) := by
            rcases hk with q | q | q
            · exact (trj_ok hn.1 (c + 1)).1 k q
            · subst q
              exact (trj_ok hn.1 (c + 1)).2
            · omega
          rw [if_pos k7, ew, told_ok b2 b4 k7 hok, bd_some]
          exact ⟨_, _, rfl, rfl, rfl⟩
        · rw [if_neg k7, told_pt (by omega) (by omega), bd_some]
          exact ⟨_, _, rfl, rfl, rfl⟩
end OPS7
