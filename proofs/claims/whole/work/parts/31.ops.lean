def InvP (w h n ready : Int32) (ru pr lf lt rows wide tall hands power spin seed pressed leftFrom leftTo : Nat → Int32) : Prop := ∃ (W H N pw sp sd R : Nat) (LF LT PR : Nat → Nat), PlayN W H N pw sp sd LF LT PR ∧ CP w h n ru pr lf lt W H N pw sp sd LF LT PR ∧ MP wide tall hands power spin seed pressed leftFrom leftTo 4 W H N pw sp sd LF LT PR ∧ ready = nI R ∧ R ≤ 100 ∧ ∀ j, j < R → TR rows j (trj W H N pw sp sd LF LT (prT PR) (j + 1))
section OPS
variable {w h n ready : Int32} {ru pr lf lt rows wide tall hands power spin seed pressed leftFrom leftTo : Nat → Int32}
theorem op_truly (hI : InvP w h n ready ru pr lf lt rows wide tall hands power spin seed pressed leftFrom leftTo) (now ps : Nat → Int32) (th ball w0 h0 n0 : Int32) (place points : Nat → Int32) (p1 p2 : Int32) : ∃ oc om, X7_truly w h n ru pr lf lt ready rows now ps p1 p2 = some oc ∧ X8_truly wide tall hands power spin seed pressed leftFrom leftTo th ball w0 h0 n0 place points p1 p2 = some om ∧ oc.1 = om.1 ∧ InvP w h n oc.2.1 ru pr lf lt oc.2.2.1 wide tall hands power spin seed pressed leftFrom leftTo := by
  have hI0 := hI
  obtain ⟨W, H, N, pw, sp, sd, R, LF, LT, PR, hn, hc, hm, eR, hR, hT⟩ := hI
  have hb := hn.1
  obtain ⟨b1, b2, b3, b4, b5, b6⟩ := hb
  have e4 : hands 4 = nI N := hm.2.2.1
  have en : n = nI N := hc.2.2.1
  have ew : w = nI W := hc.1
  unfold X7_truly X8_truly
  rcases tick_cases p1 with ⟨t1, t2⟩ | ⟨t, ht, rfl, t1, t2⟩
  · rw [t1, t2, bd_some, bd_some, if_pos rfl, if_neg i1n0]
    exact ⟨_, _, rfl, rfl, rfl, hI0⟩
  · rw [t1, t2, bd_some, bd_some, if_neg i1n0, if_pos rfl, rd_lit hands 5 4 (by decide) (by decide), e4]
    rcases col_cases (N := N) (by omega) b6 p2 with ⟨c1, c2⟩ | ⟨k, hk, rfl, c1, c2⟩
    · rw [c2, bd_some, if_neg i1n0, en, c1, bd_some, if_neg (by decide)]
      exact ⟨_, _, rfl, rfl, rfl, by rw [← en]; exact hI0⟩
    · rw [c2, bd_some, if_pos rfl, en, c1, bd_some, if_pos (show (0 : Int32) ≤ nI k from nI_pos' (by omega)), ← en, eR]
      obtain ⟨R', rows', now', ps', e1, h1, h2, h3⟩ := playTruly_ok hn hc ht hR rows now ps hT
      obtain ⟨bl, pl, pt, f1, f2, f3⟩ := liveNow_ok hn hm ht ball w0 h0 n0 place points
      rw [e1, bd_some, f1, bd_some]
      show ∃ oc om, (bd (X6_at rows' (nI t) (nI k)) fun r43 => bd (X7_told w r43 (nI k)) fun r47 => some (r47, nI R', rows', now', ps')) = some oc ∧ (bd (X8_seen bl pl pt (nI (colM k))) fun r38 => some (r38, (0 : Int32), bl, nI W, nI H, nI N, pl, pt)) = some om ∧ _
      rw [at_ok ht (by omega) (h3 t h1), bd_some, seen_ok b6 f2 f3 hk (H := H), bd_some]
      have hfin : InvP w h n (nI R') ru pr lf lt rows' wide tall hands power spin seed pressed leftFrom leftTo := ⟨W, H, N, pw, sp, sd, R', LF, LT, PR, hn, hc, hm, rfl, h2, h3⟩
      by_cases k7 : k < 7
      · have hok : okp W H (trj W H N pw sp sd LF LT (prT PR) (t + 1) k) := by
          rcases hk with q | q | q
          · exact (trj_ok hn.1 (t + 1)).1 k q
          · subst q
            exact (trj_ok hn.1 (t + 1)).2
          · omega
        rw [if_pos k7, ew, told_ok b2 b4 k7 hok, bd_some, ← ew]
        exact ⟨_, _, rfl, rfl, rfl, hfin⟩
      · rw [if_neg k7, told_pt (by omega) (by omega), bd_some]
        exact ⟨_, _, rfl, rfl, rfl, hfin⟩
theorem op_machine (hI : InvP w h n ready ru pr lf lt rows wide tall hands power spin seed pressed leftFrom leftTo) (now ps : Nat → Int32) (th ball w0 h0 n0 : Int32) (place points : Nat → Int32) (p1 p2 : Int32) : ∃ oc om, X7_machine w h n ru pr lf lt ready rows now ps p1 p2 = some oc ∧ X8_machine wide tall hands power spin seed pressed leftFrom leftTo th ball w0 h0 n0 place points p1 p2 = some om ∧ oc.1 = om.1 ∧ InvP w h n oc.2.1 ru pr lf lt oc.2.2.1 wide tall hands power spin seed pressed leftFrom leftTo := by
  have hI0 := hI
  obtain ⟨W, H, N, pw, sp, sd, R, LF, LT, PR, hn, hc, hm, eR, hR, hT⟩ := hI
  have hb := hn.1
  obtain ⟨b1, b2, b3, b4, b5, b6⟩ := hb
  have e4 : hands 4 = nI N := hm.2.2.1
  have en : n = nI N := hc.2.2.1
  unfold X7_machine X8_machine
  rcases hand_cases (N := N) (hands := hands) (by omega) e4 (by omega) p1 with ⟨t1, t2⟩ | ⟨a, ha, rfl, t1, t2⟩
  · rw [en, t1, t2, bd_some, bd_some, if_pos rfl, if_neg i1n0]
    exact ⟨_, _, rfl, rfl, rfl, by rw [← en]; exact hI0⟩
  · rw [en, t1, t2, bd_some, bd_some, if_neg i1n0, if_pos rfl]
    rcases tick_cases p2 with ⟨q1, q2⟩ | ⟨t, ht, rfl, q1, q2⟩
    · rw [q1, q2, bd_some, bd_some, if_pos rfl, if_neg i1n0]
      exact ⟨_, _, rfl, rfl, rfl, by rw [← en]; exact hI0⟩
    · rw [q1, q2, bd_some, bd_some, if_neg i1n0, if_pos rfl, ← en, eR]
      obtain ⟨R', rows', now', ps', e1, h1, h2, h3⟩ := playTruly_ok hn hc ht hR rows now ps hT
      obtain ⟨bl, pl, pt, f1, f2, f3⟩ := liveNow_ok hn hm ht ball w0 h0 n0 place points
      obtain ⟨nw, l1, l2⟩ := load_ok (now := now') ht (h3 t h1)
      rw [e1, bd_some, f1, bd_some]
      show ∃ oc om, (bd (X6_load rows' now' (nI t)) fun r31 => bd (X0_machinePress r31 (nI a)) fun r39 => some (r39, nI R', rows', r31, ps')) = some oc ∧ (bd (X8_thinks bl (nI W) (nI H) pl (nI a)) fun r29 => some (r29, (0 : Int32), bl, nI W, nI H, nI N, pl, pt)) = some om ∧ _
      have hok := trj_ok (pw := pw) (sp := sp) (sd := sd) (LF := LF) (LT := LT) (prs := prT PR) hn.1 (t + 1)
      rw [l1, bd_some, machinePress_ok l2 b2 b4 b6 hok ha, bd_some, thinks_ok hn.1 hok f2 ha, bd_some]
      exact ⟨_, _, rfl, rfl, rfl, W, H, N, pw, sp, sd, R', LF, LT, PR, hn, hc, hm, rfl, h2, h3⟩
end OPS
