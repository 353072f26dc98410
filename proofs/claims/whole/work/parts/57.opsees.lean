section OPS13
variable {w h n ready : Int32} {ru pr lf lt rows wide tall hands power spin seed pressed leftFrom leftTo : Nat → Int32} {delay feel turn sight : Int32}
theorem op_sees (hI : InvP w h n ready ru pr lf lt rows wide tall hands power spin seed pressed leftFrom leftTo) (hQ : InvR ru delay feel turn sight) (now ps : Nat → Int32) (th ball w0 h0 n0 : Int32) (place points : Nat → Int32) (p1 p2 p3 : Int32) : ∃ oc om, X7_sees w h n ru pr lf lt ready rows now ps p1 p2 p3 = some oc ∧ X8_sees sight wide tall hands power spin seed pressed leftFrom leftTo th ball w0 h0 n0 place points p1 p2 p3 = some om ∧ oc.1 = om.1 ∧ InvP w h n oc.2.1 ru pr lf lt oc.2.2.1 wide tall hands power spin seed pressed leftFrom leftTo := by
  have hI0 := hI
  obtain ⟨W, H, N, pw, sp, sd, R, LF, LT, PR, hn, hc, hm, eR, hR, hT⟩ := hI
  obtain ⟨b1, b2, b3, b4, b5, b6⟩ := hn.1
  have e4 : hands 4 = nI N := hm.2.2.1
  have en : n = nI N := hc.2.2.1
  obtain ⟨D, fe, tu, si, -, -, -, s1, s2, s3⟩ := hQ
  unfold X7_sees X8_sees
  rcases hand_cases (N := N) (hands := hands) (by omega) e4 (by omega) p1 with ⟨t1, t2⟩ | ⟨a, ha, rfl, t1, t2⟩
  · rw [en, t1, t2, bd_some, bd_some, if_pos rfl, if_neg i1n0]
    exact ⟨_, _, rfl, rfl, rfl, by rw [← en]; exact hI0⟩
  · rw [en, t1, t2, bd_some, bd_some, if_neg i1n0, if_pos rfl]
    rcases hand_cases (N := N) (hands := hands) (by omega) e4 (by omega) p2 with ⟨q1, q2⟩ | ⟨b, hb, rfl, q1, q2⟩
    · rw [q1, q2, bd_some, bd_some, if_pos rfl, if_neg i1n0]
      exact ⟨_, _, rfl, rfl, rfl, by rw [← en]; exact hI0⟩
    · rw [q1, q2, bd_some, bd_some, if_neg i1n0, if_pos rfl]
      rcases tick_cases p3 with ⟨u1, u2⟩ | ⟨t, ht, rfl, u1, u2⟩
      · rw [u1, u2, bd_some, bd_some, if_pos rfl, if_neg i1n0]
        exact ⟨_, _, rfl, rfl, rfl, by rw [← en]; exact hI0⟩
      · rw [u1, u2, bd_some, bd_some, if_neg i1n0, if_pos rfl, ← en, eR, s2]
        obtain ⟨R', rows', now', ps', e1, h1, h2, h3⟩ := playTruly_ok hn hc ht hR rows now ps hT
        obtain ⟨bl, pl, pt, f1, f2, f3⟩ := liveNow_ok hn hm ht ball w0 h0 n0 place points
        have hok := trj_ok (pw := pw) (sp := sp) (sd := sd) (LF := LF) (LT := LT) (prs := prT PR) hn.1 (t + 1)
        rw [e1, bd_some, f1, bd_some]
        show ∃ oc om, (bd (X7_seesThen ru rows' (nI a) (nI b) (nI t)) fun r34 => if r34 = 0 then some ((0 : Int32), nI R', rows', now', ps') else some (1, nI R', rows', now', ps')) = some oc ∧ (rd pl 6 (nI b) fun v42 => bd (X8_isSeen (nI si) (nI W) pl (nI a) v42) fun r43 => if r43 = 0 then some ((0 : Int32), (0 : Int32), bl, nI W, nI H, nI N, pl, pt) else some (1, 0, bl, nI W, nI H, nI N, pl, pt)) = some om ∧ _
        rw [seesThen_ok b2 b4 ht ha hb b6 hok s1 s3 (h3 t h1), bd_some, rd_nI pl (by omega) (by decide), f2.2.1 b hb, isSeen_ok b1 b2 b4 ha b6 hok (hok.1 b hb) s3 f2, bd_some]
        have hfin : InvP w h n (nI R') ru pr lf lt rows' wide tall hands power spin seed pressed leftFrom leftTo := ⟨W, H, N, pw, sp, sd, R', LF, LT, PR, hn, hc, hm, rfl, h2, h3⟩
        by_cases c : dst (trj W H N pw sp sd LF LT (prT PR) (t + 1) a) (trj W H N pw sp sd LF LT (prT PR) (t + 1) b) ≤ si
        · rw [if_pos c, if_neg i1n0, if_neg i1n0]
          exact ⟨_, _, rfl, rfl, rfl, hfin⟩
        · rw [if_neg c, if_pos rfl, if_pos rfl]
          exact ⟨_, _, rfl, rfl, rfl, hfin⟩
end OPS13
