section OPS15
variable {w h n ready : Int32} {ru pr lf lt rows wide tall hands power spin seed pressed leftFrom leftTo : Nat → Int32}
theorem op_keep (hI : InvP w h n ready ru pr lf lt rows wide tall hands power spin seed pressed leftFrom leftTo) (w1 h1 n1 : Int32) (ru1 pr1 lf1 lt1 kept isKept : Nat → Int32) (th p1 : Int32) : ∃ oc om, X7_keep w h n ru pr lf lt w1 h1 n1 ru1 pr1 lf1 lt1 kept p1 = some oc ∧ X8_keep th wide tall hands power spin seed pressed leftFrom leftTo isKept p1 = some om ∧ oc.1 = om.1 ∧ InvP w h n ready ru pr lf lt rows om.2.2.1 om.2.2.2.1 om.2.2.2.2.1 om.2.2.2.2.2.1 om.2.2.2.2.2.2.1 om.2.2.2.2.2.2.2.1 om.2.2.2.2.2.2.2.2.1 om.2.2.2.2.2.2.2.2.2.1 om.2.2.2.2.2.2.2.2.2.2.1 ∧
    (((∀ s, s < 4 → p1 ≠ nI s) ∧ oc.2 = (w1, h1, n1, ru1, pr1, lf1, lt1, kept) ∧ om.2.2 = (wide, tall, hands, power, spin, seed, pressed, leftFrom, leftTo, isKept)) ∨
     ∃ s, s < 4 ∧ p1 = nI s ∧ oc.2.2.2.2.2.2.2.2 = upd kept s 1 ∧ om.2.2.2.2.2.2.2.2.2.2.2 = upd isKept s 1 ∧ KP oc.2.1 oc.2.2.1 oc.2.2.2.1 oc.2.2.2.2.1 oc.2.2.2.2.2.1 oc.2.2.2.2.2.2.1 oc.2.2.2.2.2.2.2.1 om.2.2.1 om.2.2.2.1 om.2.2.2.2.1 om.2.2.2.2.2.1 om.2.2.2.2.2.2.1 om.2.2.2.2.2.2.2.1 om.2.2.2.2.2.2.2.2.1 om.2.2.2.2.2.2.2.2.2.1 om.2.2.2.2.2.2.2.2.2.2.1 s ∧ ∀ j, j ≤ 4 → j ≠ s → SameS wide tall hands power spin seed pressed leftFrom leftTo om.2.2.1 om.2.2.2.1 om.2.2.2.2.1 om.2.2.2.2.2.1 om.2.2.2.2.2.2.1 om.2.2.2.2.2.2.2.1 om.2.2.2.2.2.2.2.2.1 om.2.2.2.2.2.2.2.2.2.1 om.2.2.2.2.2.2.2.2.2.2.1 j) := by
  have hI0 := hI
  obtain ⟨W, H, N, pw, sp, sd, R, LF, LT, PR, hn, hc, hm, eR, hR, hT⟩ := hI
  have hb := hn.1
  obtain ⟨b1, b2, b3, b4, b5, b6⟩ := hb
  unfold X7_keep X8_keep
  rcases slot_cases p1 with ⟨t1, t2⟩ | ⟨s, hs, rfl, t1, t2⟩
  · rw [t1, t2, bd_some, bd_some, if_pos rfl, if_neg i1n0]
    refine ⟨_, _, rfl, rfl, rfl, hI0, Or.inl ⟨fun s hs e => ?_, rfl, rfl⟩⟩
    subst e
    rcases (show s = 0 ∨ s = 1 ∨ s = 2 ∨ s = 3 by omega) with rfl | rfl | rfl | rfl <;> exact absurd t1 (by unfold X7_isSlot; decide)
  · rw [t1, t2, bd_some, bd_some, if_neg i1n0, if_pos rfl, gdp_nI hs (by decide), copyP_ok, bd_some, wrZ_nI kept hs (by decide)]
    obtain ⟨x1, x2, x3, x4, x5, x6, x7, x8, x9, e, hS, hM⟩ := mcopy_ok (f := 4) (t := s) (by omega) (by omega) (by omega) wide tall hands power spin seed pressed leftFrom leftTo
    have hm4 := MP_same (hS 4 (by omega) (by omega)) hm
    have en : n = nI N := hc.2.2.1
    rw [show (4 : Int32) = nI 4 from rfl, e, bd_some, wrZ_nI isKept hs (by decide), nar1]
    show ∃ oc om, (bd (X5_pressed n pr) fun r33 => some (r33, w, h, n, va_cpy ru ru1 0 0 3, va_cpy pr pr1 0 0 600, va_cpy lf lf1 0 0 6, va_cpy lt lt1 0 0 6, upd kept s 1)) = some oc ∧ (bd (X8_presses x3 x7) fun r28 => some (r28, (0 : Int32), x1, x2, x3, x4, x5, x6, x7, x8, x9, upd isKept s 1)) = some om ∧ _
    rw [mpress_ok b6 hm4.2.2.1, bd_some, en, pressed_ok b6, bd_some]
    refine ⟨_, _, rfl, rfl, ?_, ?_, Or.inr ⟨s, hs, rfl, rfl, rfl, ?_, hS⟩⟩
    · show nI (cz pr (100 * N)) = nI (cz (fun k => x7 (2400 + k)) (100 * N))
      congr 1
      refine cz_congr _ (fun k hk => ?_)
      rw [hc.2.2.2.2.2.2.2 k (by omega)]
      exact (hm4.2.2.2.2.2.2.2 k (by omega)).symm
    · rw [← en]
      exact ⟨W, H, N, pw, sp, sd, R, LF, LT, PR, hn, hc, hm4, eR, hR, hT⟩
    · rw [← en]
      exact ⟨W, H, N, pw, sp, sd, LF, LT, PR, hn, CP_copy hc, hM hm⟩
theorem op_again (hI : InvP w h n ready ru pr lf lt rows wide tall hands power spin seed pressed leftFrom leftTo) {delay feel turn sight : Int32} (hQ : InvR ru delay feel turn sight) {w1 h1 n1 : Int32} {ru1 pr1 lf1 lt1 kept isKept : Nat → Int32} (th p1 : Int32) (hK : ∀ s, s < 4 → p1 = nI s → kept s = isKept s ∧ (isKept s = 0 ∨ KP w1 h1 n1 ru1 pr1 lf1 lt1 wide tall hands power spin seed pressed leftFrom leftTo s)) : ∃ oc om, X7_again w1 h1 n1 ru1 pr1 lf1 lt1 kept w h n ru pr lf lt ready p1 = some oc ∧ X8_again isKept th wide tall hands power spin seed pressed leftFrom leftTo p1 = some om ∧ oc.1 = om.1 ∧ InvP oc.2.1 oc.2.2.1 oc.2.2.2.1 oc.2.2.2.2.2.2.2.2 oc.2.2.2.2.1 oc.2.2.2.2.2.1 oc.2.2.2.2.2.2.1 oc.2.2.2.2.2.2.2.1 rows om.2.2.1 om.2.2.2.1 om.2.2.2.2.1 om.2.2.2.2.2.1 om.2.2.2.2.2.2.1 om.2.2.2.2.2.2.2.1 om.2.2.2.2.2.2.2.2.1 om.2.2.2.2.2.2.2.2.2.1 om.2.2.2.2.2.2.2.2.2.2 ∧ InvR oc.2.2.2.2.1 delay feel turn sight ∧ ∀ j, j < 4 → SameS wide tall hands power spin seed pressed leftFrom leftTo om.2.2.1 om.2.2.2.1 om.2.2.2.2.1 om.2.2.2.2.2.1 om.2.2.2.2.2.2.1 om.2.2.2.2.2.2.2.1 om.2.2.2.2.2.2.2.2.1 om.2.2.2.2.2.2.2.2.2.1 om.2.2.2.2.2.2.2.2.2.2 j := by
  have hsame : ∀ j, j < 4 → SameS wide tall hands power spin seed pressed leftFrom leftTo wide tall hands power spin seed pressed leftFrom leftTo j := fun j _ => ⟨rfl, rfl, rfl, rfl, rfl, rfl, fun _ _ => ⟨rfl, rfl⟩, fun _ _ => rfl⟩
  unfold X7_again X8_again
  rcases slot_cases p1 with ⟨t1, t2⟩ | ⟨s, hs, rfl, t1, t2⟩
  · rw [t1, t2, bd_some, bd_some, if_pos rfl, if_neg i1n0]
    exact ⟨_, _, rfl, rfl, rfl, hI, hQ, hsame⟩
  · obtain ⟨k1, k2⟩ := hK s hs rfl
    rw [t1, t2, bd_some, bd_some, if_neg i1n0, if_pos rfl, rd_nI kept hs (by decide), rd_nI isKept hs (by decide), k1]
    by_cases c : isKept s = 0
    · rw [if_pos c, if_pos c]
      exact ⟨_, _, rfl, rfl, rfl, hI, hQ, hsame⟩
    · rw [if_neg c, if_neg c, gdp_nI hs (by decide), copyP_ok, bd_some]
      obtain ⟨W, H, N, pw, sp, sd, LF, LT, PR, hn, hc, hm⟩ := k2.resolve_left c
      obtain ⟨W0, H0, N0, pw0, sp0, sd0, R, LF0, LT0, PR0, hn0, hc0, hm0, eR, hR, hT⟩ := hI
      obtain ⟨x1, x2, x3, x4, x5, x6, x7, x8, x9, e, hS, hM⟩ := mcopy_ok (f := s) (t := 4) (by omega) (by omega) (by omega) wide tall hands power spin seed pressed leftFrom leftTo
      rw [show (4 : Int32) = nI 4 from rfl, e, bd_some, eR, show (0 : Int32) = nI 0 from rfl, keep_ok hR (by decide), bd_some]
      have hm4 := hM hm
      show ∃ oc om, some (n1, w1, h1, n1, va_cpy ru1 ru 0 0 3, va_cpy pr1 pr 0 0 600, va_cpy lf1 lf 0 0 6, va_cpy lt1 lt 0 0 6, nI (if 0 < R then 0 else R)) = some oc ∧ (rd x3 5 (nI 4) fun v37 => some (v37, nI 0, x1, x2, x3, x4, x5, x6, x7, x8, x9)) = some om ∧ _
      rw [rd_nI x3 (by decide) (by decide)]
      refine ⟨_, _, rfl, rfl, ?_, ⟨W, H, N, pw, sp, sd, 0, LF, LT, PR, hn, CP_copy hc, hm4, ?_, by omega, fun j hj => by omega⟩, ?_, fun j hj => hS j (by omega) (by omega)⟩
      · show n1 = x3 4
        rw [hc.2.2.1]
        exact hm4.2.2.1.symm
      · exact congrArg nI (show (if 0 < R then 0 else R) = 0 from by split <;> omega)
      · obtain ⟨D, fe, tu, si, q1, q2, q3, q4⟩ := hQ
        have o : ∀ k, 3 ≤ k → va_cpy ru1 ru 0 0 3 k = ru k := fun k hk => pk_cpy_out (by omega)
        exact ⟨D, fe, tu, si, ⟨(o 3 (by omega)).trans q1.1, q1.2⟩, ⟨(o 4 (by omega)).trans q2.1, q2.2⟩, ⟨(o 5 (by omega)).trans q3.1, q3.2⟩, ⟨(o 6 (by omega)).trans q4.1, q4.2⟩⟩
end OPS15
section TRIED
variable {w h n : Int32} {ru pr lf lt : Nat → Int32} {W H N pw sp sd : Nat} {LF LT PR : Nat → Nat}
theorem tried_L (hn : PlayN W H N pw sp sd LF LT PR) (hc : CP w h n ru pr lf lt W H N pw sp sd LF LT PR) {kept : Nat → Int32} {v t : Nat} (hv : v ≤ 5) (ht : t < 100) (col : Int32) : ∀ (d i fuel : Nat) (now ps : Nat → Int32), i + d = t + 1 → d < fuel → Rep now (trj W H N v sp sd LF LT (prT PR) i) → ∃ now' ps', X7_tried_L75 w h n ru pr lf lt kept fuel now ps (nI v) (nI t) col (nI i) = X7_tried_J114 w h n ru pr lf lt kept now' ps' col ∧ Rep now' (trj W H N v sp sd LF LT (prT PR) (t + 1)) := by
  have hn' := hn
  obtain ⟨hb, ⟨p1, p5⟩, -, -, -, hPR⟩ := hn'
  have hc' := hc
  obtain ⟨ew, eh, en, e0, -, -, -, ep⟩ := hc'
  have hb' := hb
  obtain ⟨b1, b2, b3, b4, b5, b6⟩ := hb'
  intro d
  induction d with
  | zero =>
    intro i fuel now ps hi hf hr
    obtain ⟨fuel, rfl⟩ : ∃ k, fuel = k + 1 := ⟨fuel - 1, by omega⟩
    have ei : i = t + 1 := by omega
    subst ei
    refine ⟨now, ps, ?_, hr⟩
    show X7_tried_L75_B w h n ru pr lf lt kept _ now ps (nI v) (nI t) col (nI (t + 1)) = _
    unfold X7_tried_L75_B
    rw [if_pos (nI_lt (by omega) (by omega))]
  | succ d ih =>
    intro i fuel now ps hi hf hr
    obtain ⟨fuel, rfl⟩ : ∃ k, fuel = k + 1 := ⟨fuel - 1, by omega⟩
    obtain ⟨ps1, f1, f2⟩ := fillP_ok (pr := pr) (t := i) b6 (by omega) ps
    obtain ⟨now1, a1, a2⟩ := adv_P hn hc (power := v) (t := i) (row := ps1) (prs := prT PR i) hv (by omega) (fun a ha _ => ⟨by rw [f2 a ha, ep _ (by omega)]; rfl, hPR _ (by omega)⟩) (trj_ok hb i) hr
    have hs : X7_tried_L75 w h n ru pr lf lt kept (fuel + 1) now ps (nI v) (nI t) col (nI i) = X7_tried_L75 w h n ru pr lf lt kept fuel now1 ps1 (nI v) (nI t) col (nI (i + 1)) := by
      show X7_tried_L75_B w h n ru pr lf lt kept (X7_tried_L75 w h n ru pr lf lt kept fuel) now ps (nI v) (nI t) col (nI i) = _
      unfold X7_tried_L75_B
      rw [if_neg (nI_nlt (by omega) (by omega)), en, f1, bd_some, ← en, a1, bd_some, nm_eq, show nI i + 1 = nI (i + 1) from nI_1 i]
    rw [hs]
    exact ih (i + 1) fuel now1 ps1 (by omega) (by omega) a2
end TRIED
section OPS16
variable {w1 h1 n1 : Int32} {ru1 pr1 lf1 lt1 kept isKept wide tall hands power spin seed pressed leftFrom leftTo : Nat → Int32}
theorem op_tried (th ball w0 h0 n0 : Int32) (now ps place points : Nat → Int32) (p1 p2 p3 p4 : Int32) (hK : ∀ s, s < 4 → p1 = nI s → kept s = isKept s ∧ (isKept s = 0 ∨ KP w1 h1 n1 ru1 pr1 lf1 lt1 wide tall hands power spin seed pressed leftFrom leftTo s)) : ∃ oc om, X7_tried w1 h1 n1 ru1 pr1 lf1 lt1 kept now ps p1 p2 p3 p4 = some oc ∧ X8_tried wide tall hands spin seed pressed leftFrom leftTo isKept th ball w0 h0 n0 place points p1 p2 p3 p4 = some om ∧ oc.1 = om.1 := by
  unfold X7_tried X8_tried
  rcases slot_cases p1 with ⟨t1, t2⟩ | ⟨s, hs, rfl, t1, t2⟩
  · rw [t1, t2, bd_some, bd_some, if_pos rfl, if_neg i1n0]
    exact ⟨_, _, rfl, rfl, rfl⟩
  · obtain ⟨k1, k2⟩ := hK s hs rfl
    rw [t1, t2, bd_some, bd_some, if_neg i1n0, if_pos rfl]
    rcases tick_cases p3 with ⟨u1, u2⟩ | ⟨t, ht, rfl, u1, u2⟩
    · rw [u1, u2, bd_some, bd_some, if_pos rfl, if_neg i1n0]
      exact ⟨_, _, rfl, rfl, rfl⟩
    · rw [u1, u2, bd_some, bd_some, if_neg i1n0, if_pos rfl, rd_nI kept hs (by decide), rd_nI isKept hs (by decide), k1]
      by_cases c : isKept s = 0
      · rw [if_pos c, if_pos c]
        exact ⟨_, _, rfl, rfl, rfl⟩
      · obtain ⟨W, H, N, pw, sp, sd, LF, LT, PR, hn, hc, hm⟩ := k2.resolve_left c
        obtain ⟨b1, b2, b3, b4, b5, b6⟩ := hn.1
        have e3 : hands s = nI N := hm.2.2.1
        have en : n1 = nI N := hc.2.2.1
        have ew : w1 = nI W := hc.1
        have eh : h1 = nI H := hc.2.1
        rw [if_neg c, if_neg c, gdp_nI hs (by decide), rd_nI hands (by omega) (by decide), e3]
        rcases power_cases p2 with ⟨q1, q2⟩ | ⟨v, v1, v5, rfl, q1, q2⟩
        · rw [q2, bd_some, if_pos rfl]
          rcases col_cases (N := N) (by omega) b6 p4 with ⟨c1, c2⟩ | ⟨k, hk, rfl, c1, c2⟩
          · rw [en, c1, bd_some, q1, bd_some, if_pos rfl]
            exact ⟨_, _, rfl, rfl, rfl⟩
          · rw [en, c1, bd_some, q1, bd_some, if_pos rfl]
            exact ⟨_, _, rfl, rfl, rfl⟩
        · rw [q2, bd_some, if_neg i1n0]
          rcases col_cases (N := N) (by omega) b6 p4 with ⟨c1, c2⟩ | ⟨k, hk, rfl, c1, c2⟩
          · rw [c2, bd_some, if_neg i1n0, en, c1, bd_some, q1, bd_some, if_neg i1n0, if_neg (by decide)]
            exact ⟨_, _, rfl, rfl, rfl⟩
          · rw [c2, bd_some, if_pos rfl, en, c1, bd_some, q1, bd_some, if_neg i1n0, if_pos (show (0 : Int32) ≤ nI k from nI_pos' (by omega)), ew, eh]
            obtain ⟨nw, s1, s2⟩ := start_ok hn.1 now
            rw [s1, bd_some, ← ew, ← eh, ← en]
            obtain ⟨now', ps', l1, l2⟩ := tried_L hn hc (kept := kept) v5 ht (nI k) (t + 1) 0 FU nw ps (by omega) (FU_big (by omega)) s2
            obtain ⟨bl, pl, pt, f1, f2, f3⟩ := live_ok hn hm (by omega) v5 ht ball w0 h0 n0 place points
            rw [show (0 : Int32) = nI 0 from rfl, l1, f1, bd_some]
            unfold X7_tried_J114
            show ∃ oc om, (rd now' 13 (nI k) fun v125 => bd (X7_told w1 v125 (nI k)) fun r128 => some (r128, now', ps')) = some oc ∧ (bd (X8_seen bl pl pt (nI (colM k))) fun r73 => some (r73, nI 0, bl, nI W, nI H, nI N, pl, pt)) = some om ∧ _
            rw [rd_nI now' (by omega) (by decide), l2 k (by omega), seen_ok b6 f2 f3 hk (H := H), bd_some]
            by_cases k7 : k < 7
            · have hok : okp W H (trj W H N v sp sd LF LT (prT PR) (t + 1) k) := by
                rcases hk with q | q | q
                · exact (trj_ok hn.1 (t + 1)).1 k q
                · subst q
                  exact (trj_ok hn.1 (t + 1)).2
                · omega
              rw [if_pos k7, ew, told_ok b2 b4 k7 hok, bd_some]
              exact ⟨_, _, rfl, rfl, rfl⟩
            · rw [if_neg k7, told_pt (by omega) (by omega), bd_some]
              exact ⟨_, _, rfl, rfl, rfl⟩
end OPS16
