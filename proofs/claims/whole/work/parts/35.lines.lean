def InvL (waits lostRow wait isLost : Nat → Int32) : Prop := ∃ WA : Nat → Nat, (∀ k, k < 36 → waits k = nI (WA k) ∧ wait k = nI (WA k) ∧ WA k ≤ 9) ∧ ∀ k, k < 600 → lostRow k = isLost k ∧ (isLost k = 0 ∨ isLost k = 1)
theorem nar_b (x : Int32) : vp_nar .boolean x = 0 ∨ vp_nar .boolean x = 1 := by
  have e : vp_nar .boolean x = x &&& 1 := rfl
  rw [e]
  obtain ⟨j, h1, h2⟩ := pk_andE x (m := 1) 1 (by decide)
  rw [h2]
  rcases (show j = 0 ∨ j = 1 by omega) with rfl | rfl
  · exact Or.inl rfl
  · exact Or.inr rfl
section OPS4
variable {w h n ready : Int32} {ru pr lf lt rows wide tall hands power spin seed pressed leftFrom leftTo : Nat → Int32}
theorem op_line {waits lostRow wait isLost : Nat → Int32} (hI : InvP w h n ready ru pr lf lt rows wide tall hands power spin seed pressed leftFrom leftTo) (hL : InvL waits lostRow wait isLost) (th p1 p2 p3 : Int32) : ∃ oc om, X7_line n waits p1 p2 p3 = some oc ∧ X8_line hands th wait p1 p2 p3 = some om ∧ oc.1 = om.1 ∧ InvL oc.2 lostRow om.2.2 isLost := by
  have hL0 := hL
  obtain ⟨W, H, N, pw, sp, sd, R, LF, LT, PR, hn, hc, hm, eR, hR, hT⟩ := hI
  obtain ⟨b1, b2, b3, b4, b5, b6⟩ := hn.1
  have e4 : hands 4 = nI N := hm.2.2.1
  have en : n = nI N := hc.2.2.1
  obtain ⟨WA, hw, hl⟩ := hL
  have k9 : (9 : Int32).toInt = 9 := rfl
  have k99 : (9 : Int64).toInt = 9 := rfl
  have k0 : (0 : Int64).toInt = 0 := rfl
  unfold X7_line X8_line
  rcases hand_cases (N := N) (hands := hands) (by omega) e4 (by omega) p1 with ⟨t1, t2⟩ | ⟨a, ha, rfl, t1, t2⟩
  · rw [en, t1, t2, bd_some, bd_some, if_pos rfl, if_neg i1n0]
    exact ⟨_, _, rfl, rfl, rfl, hL0⟩
  · rw [en, t1, t2, bd_some, bd_some, if_neg i1n0, if_pos rfl]
    rcases hand_cases (N := N) (hands := hands) (by omega) e4 (by omega) p2 with ⟨q1, q2⟩ | ⟨b, hb, rfl, q1, q2⟩
    · rw [q1, q2, bd_some, bd_some, if_pos rfl, if_neg i1n0]
      exact ⟨_, _, rfl, rfl, rfl, hL0⟩
    · rw [q1, q2, bd_some, bd_some, if_neg i1n0, if_pos rfl]
      by_cases hv : 0 ≤ p3.toInt ∧ p3.toInt ≤ 9
      · rw [in_yes (by rw [k0]; exact hv.1) (by rw [k99]; exact hv.2), bd_some, if_neg i1n0, if_neg (by rw [lt0I]; omega), if_pos (by rw [leI]; omega)]
        by_cases hab : a = b
        · subst hab
          rw [if_pos rfl, if_pos rfl]
          exact ⟨_, _, rfl, rfl, rfl, hL0⟩
        · have hne : ¬ nI a = nI b := fun e => hab (nI_inj (by omega) (by omega) e)
          rw [if_neg hne, if_neg hne]
          obtain ⟨v, ev, ev2, -⟩ := ofI hv.1
          have f1 : nI a * 6 + nI b = nI (6 * a + b) := by
            show nI a * nI 6 + nI b = _
            rw [pk_mul, nI_add, Nat.mul_comm]
          have f2 : nI b * 6 + nI a = nI (6 * b + a) := by
            show nI b * nI 6 + nI a = _
            rw [pk_mul, nI_add, Nat.mul_comm]
          have f3 : (6 : Int32) * nI a + nI b = nI (6 * a + b) := by
            show nI 6 * nI a + nI b = _
            rw [pk_mul, nI_add]
          have f4 : (6 : Int32) * nI b + nI a = nI (6 * b + a) := by
            show nI 6 * nI b + nI a = _
            rw [pk_mul, nI_add]
          unfold X4_waitOf X4_setWait
          rw [f1, f2, f3, f4, rd_nI waits (by omega) (by decide), bd_some, wrI_nI waits (by omega) (by decide), wrI_nI _ (by omega) (by decide), bd_some, rd_nI wait (by omega) (by decide), wrI_nI wait (by omega) (by decide), wrI_nI _ (by omega) (by decide)]
          refine ⟨_, _, rfl, rfl, ?_, upN (upN WA (6 * a + b) v) (6 * b + a) v, fun k hk => ?_, hl⟩
          · show waits (6 * a + b) = wait (6 * a + b)
            rw [(hw _ (by omega)).1, (hw _ (by omega)).2.1]
          · show upd (upd waits (6 * a + b) p3) (6 * b + a) p3 k = _ ∧ upd (upd wait (6 * a + b) p3) (6 * b + a) p3 k = _ ∧ _
            by_cases c1 : k = 6 * b + a
            · subst c1
              rw [pk_us, pk_us, upN_s, ev]
              exact ⟨rfl, rfl, by omega⟩
            · rw [pk_un c1, pk_un c1, upN_n _ _ c1]
              by_cases c2 : k = 6 * a + b
              · subst c2
                rw [pk_us, pk_us, upN_s, ev]
                exact ⟨rfl, rfl, by omega⟩
              · rw [pk_un c2, pk_un c2, upN_n _ _ c2]
                exact hw k hk
      · rw [in_no (by rw [k0, k99]; exact hv), bd_some, if_pos rfl]
        by_cases d1 : p3 < 0
        · rw [if_pos d1]
          exact ⟨_, _, rfl, rfl, rfl, hL0⟩
        · rw [if_neg d1, if_neg (by rw [lt0I] at d1; rw [leI]; omega)]
          exact ⟨_, _, rfl, rfl, rfl, hL0⟩
theorem op_lose {waits lostRow wait isLost : Nat → Int32} (hI : InvP w h n ready ru pr lf lt rows wide tall hands power spin seed pressed leftFrom leftTo) (hL : InvL waits lostRow wait isLost) (th p1 p2 p3 : Int32) : ∃ oc om, X7_lose n lostRow p1 p2 p3 = some oc ∧ X8_lose hands th isLost p1 p2 p3 = some om ∧ oc.1 = om.1 ∧ InvL waits oc.2 wait om.2.2 := by
  have hL0 := hL
  obtain ⟨W, H, N, pw, sp, sd, R, LF, LT, PR, hn, hc, hm, eR, hR, hT⟩ := hI
  obtain ⟨b1, b2, b3, b4, b5, b6⟩ := hn.1
  have e4 : hands 4 = nI N := hm.2.2.1
  have en : n = nI N := hc.2.2.1
  obtain ⟨WA, hw, hl⟩ := hL
  unfold X7_lose X8_lose
  rcases hand_cases (N := N) (hands := hands) (by omega) e4 (by omega) p1 with ⟨t1, t2⟩ | ⟨a, ha, rfl, t1, t2⟩
  · rw [en, t1, t2, bd_some, bd_some, if_pos rfl, if_neg i1n0]
    exact ⟨_, _, rfl, rfl, rfl, hL0⟩
  · rw [en, t1, t2, bd_some, bd_some, if_neg i1n0, if_pos rfl]
    rcases tick_cases p2 with ⟨q1, q2⟩ | ⟨t, ht, rfl, q1, q2⟩
    · rw [q1, q2, bd_some, bd_some, if_pos rfl, if_neg i1n0]
      exact ⟨_, _, rfl, rfl, rfl, hL0⟩
    · rw [q1, q2, bd_some, bd_some, if_neg i1n0, if_pos rfl]
      have f1 : nI a * 100 + nI t = nI (100 * a + t) := by
        show nI a * nI 100 + nI t = _
        rw [pk_mul, nI_add, Nat.mul_comm]
      have f3 : (100 : Int32) * nI a + nI t = nI (100 * a + t) := by
        show nI 100 * nI a + nI t = _
        rw [pk_mul, nI_add]
      have hq := hl (100 * a + t) (by omega)
      unfold X4_isLost X7_lose_J34 X4_setLost X8_lose_J41
      rw [f1, f3, rd_nI lostRow (by omega) (by decide), rd_nI isLost (by omega) (by decide), wrZ_nI lostRow (by omega) (by decide), hq.1, zb_of hq.2, bd_some, bd_some]
      simp only [wrZ_nI isLost (show 100 * a + t < 600 by omega) (by decide)]
      have fin : InvL waits (upd lostRow (100 * a + t) (vp_nar .boolean p3)) wait (upd isLost (100 * a + t) (vp_nar .boolean p3)) := by
        refine ⟨WA, hw, fun k hk => ?_⟩
        by_cases c : k = 100 * a + t
        · subst c
          rw [pk_us, pk_us]
          exact ⟨rfl, nar_b p3⟩
        · rw [pk_un c, pk_un c]
          exact hl k hk
      by_cases c : isLost (100 * a + t) = 0
      · rw [if_pos c, if_pos c]
        exact ⟨_, _, rfl, rfl, rfl, fin⟩
      · rw [if_neg c, if_neg c]
        exact ⟨_, _, rfl, rfl, rfl, fin⟩
end OPS4
