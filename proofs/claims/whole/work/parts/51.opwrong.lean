section OPS11
variable {w h n ready : Int32} {ru pr lf lt rows wide tall hands power spin seed pressed leftFrom leftTo waits lostRow wait isLost : Nat → Int32} {delay feel turn sight : Int32}
theorem op_wrong (hI : InvP w h n ready ru pr lf lt rows wide tall hands power spin seed pressed leftFrom leftTo) (hQ : InvR ru delay feel turn sight) (hL : InvL waits lostRow wait isLost) (gt now ps : Nat → Int32) (th ball w0 h0 n0 : Int32) (place points other takes ts : Nat → Int32) (p1 p2 p3 : Int32) : ∃ oc om, X7_wrong w h n ru pr lf lt waits lostRow ready rows gt now ps p1 p2 p3 = some oc ∧ X8_wrong delay wide tall hands power spin seed pressed leftFrom leftTo wait isLost th ball w0 h0 n0 place points other takes ts p1 p2 p3 = some om ∧ oc.1 = om.1 ∧ InvP w h n oc.2.1 ru pr lf lt oc.2.2.1 wide tall hands power spin seed pressed leftFrom leftTo := by
  obtain ⟨WA, LO, l1, l2⟩ := hL.lin
  have hI0 := hI
  obtain ⟨W, H, N, pw, sp, sd, R, LF, LT, PR, hn, hc, hm, eR, hR, hT⟩ := hI
  obtain ⟨b1, b2, b3, b4, b5, b6⟩ := hn.1
  have e4 : hands 4 = nI N := hm.2.2.1
  have en : n = nI N := hc.2.2.1
  obtain ⟨D, fe, tu, si, ⟨d1, d2, d3⟩, -⟩ := hQ
  unfold X7_wrong X8_wrong
  rcases hand_cases (N := N) (hands := hands) (by omega) e4 (by omega) p1 with ⟨t1, t2⟩ | ⟨g, hg, rfl, t1, t2⟩
  · rw [en, t1, t2, bd_some, bd_some, if_pos rfl, if_neg i1n0]
    exact ⟨_, _, rfl, rfl, rfl, by rw [← en]; exact hI0⟩
  · rw [en, t1, t2, bd_some, bd_some, if_neg i1n0, if_pos rfl]
    rcases tick_cases p2 with ⟨u1, u2⟩ | ⟨m, hm9, rfl, u1, u2⟩
    · rw [u1, u2, bd_some, bd_some, if_pos rfl, if_neg i1n0]
      exact ⟨_, _, rfl, rfl, rfl, by rw [← en]; exact hI0⟩
    · rw [u1, u2, bd_some, bd_some, if_neg i1n0, if_pos rfl, ← en, eR, d2]
      obtain ⟨R', rows', now', ps', e1, h1, h2, h3⟩ := playTruly_ok hn hc hm9 hR rows now ps hT
      obtain ⟨bl, pl, pt, s1, s2, s3⟩ := mstart_ok hn.1 (P := 4) (by decide) hm.1 hm.2.1 e4 ball w0 h0 n0 place points
      obtain ⟨f, hf⟩ : ∃ f : Nat → Bool, ∀ c, f c = eqn (trj W H N pw sp sd LF LT (tkT WA LO LF LT PR D g c) (c + 1)) (trj W H N pw sp sd LF LT (prT PR) (c + 1)) 13 := ⟨_, fun _ => rfl⟩
      obtain ⟨gt', now2, ps2, c1⟩ := wrong_L hn hc l1 d3 d1 (show g < 6 by omega) hm9 (nI R') p3 (fun j hj => h3 j (by omega)) f hf (m + 1) 0 FU gt now' ps' (by omega) (FU_big (by omega)) (fun q => by omega)
      obtain ⟨om, k1, k2⟩ := mwrong_T hn hm l2 d3 (show g < 6 by omega) hm9 0 p3 f hf (m + 1) 0 FU bl pl pt other takes ts (by omega) (FU_big (by omega)) s2 s3 (fun j hj => by omega)
      rw [e1, bd_some, show (4 : Int32) = nI 4 from rfl, s1, bd_some]
      exact ⟨_, om, c1, k1, k2.symm, W, H, N, pw, sp, sd, R', LF, LT, PR, hn, hc, hm, rfl, h2, h3⟩
end OPS11
