section OPS12
variable {w h n ready : Int32} {ru pr lf lt rows wide tall hands power spin seed pressed leftFrom leftTo : Nat → Int32}
theorem op_hold (hI : InvP w h n ready ru pr lf lt rows wide tall hands power spin seed pressed leftFrom leftTo) (th p1 p2 p3 p4 : Int32) : ∃ oc om, X7_hold n pr ready p1 p2 p3 p4 = some oc ∧ X8_hold hands th pressed p1 p2 p3 p4 = some om ∧ oc.1 = om.1 ∧ LowEq om.2.2 pressed 2400 ∧ InvP w h n oc.2.2 ru oc.2.1 lf lt rows wide tall hands power spin seed om.2.2 leftFrom leftTo := by
  have hI0 := hI
  obtain ⟨W, H, N, pw, sp, sd, R, LF, LT, PR, hn, hc, hm, eR, hR, hT⟩ := hI
  obtain ⟨hb, n1, n2, n3, n4, n5⟩ := hn
  have hb' := hb
  obtain ⟨b1, b2, b3, b4, b5, b6⟩ := hb'
  obtain ⟨c1, c2, en, c4, c5, c6, c7, c8⟩ := hc
  obtain ⟨m1, m2, e4, m4, m5, m6, m7, m8⟩ := hm
  unfold X7_hold X8_hold
  rcases hand_cases (N := N) (hands := hands) (by omega) e4 (by omega) p1 with ⟨t1, t2⟩ | ⟨a, ha, rfl, t1, t2⟩
  · rw [en, t1, t2, bd_some, bd_some, if_pos rfl, if_neg i1n0]
    exact ⟨_, _, rfl, rfl, rfl, fun _ _ => rfl, by rw [← en]; exact hI0⟩
  · rw [en, t1, t2, bd_some, bd_some, if_neg i1n0, if_pos rfl]
    rcases tick_cases p2 with ⟨q1, q2⟩ | ⟨x, hx, rfl, q1, q2⟩
    · rw [q1, q2, bd_some, bd_some, if_pos rfl, if_neg i1n0]
      exact ⟨_, _, rfl, rfl, rfl, fun _ _ => rfl, by rw [← en]; exact hI0⟩
    · rw [q1, q2, bd_some, bd_some, if_neg i1n0, if_pos rfl]
      rcases tick_cases p3 with ⟨r1, r2⟩ | ⟨y, hy, rfl, r1, r2⟩
      · rw [r1, r2, bd_some, bd_some, if_pos rfl, if_neg i1n0]
        exact ⟨_, _, rfl, rfl, rfl, fun _ _ => rfl, by rw [← en]; exact hI0⟩
      · rw [r1, r2, bd_some, bd_some, if_neg i1n0, if_pos rfl]
        by_cases hxy : y < x
        · rw [if_pos (nI_lt hxy (by omega)), if_pos (nI_lt hxy (by omega))]
          exact ⟨_, _, rfl, rfl, rfl, fun _ _ => rfl, by rw [← en]; exact hI0⟩
        · rw [if_neg (nI_nlt (by omega) (by omega)), if_neg (nI_nlt (by omega) (by omega))]
          rcases press_cases p4 with ⟨u1, u2⟩ | ⟨v, hv, rfl, u1, u2⟩
          · rw [u1, u2, bd_some, bd_some, if_pos rfl, if_pos rfl]
            exact ⟨_, _, rfl, rfl, rfl, fun _ _ => rfl, by rw [← en]; exact hI0⟩
          · rw [u1, u2, bd_some, bd_some, if_neg i1n0, if_neg i1n0]
            obtain ⟨pr', e1, e2⟩ := hold_L (n := nI N) (a := a) (v := v) (t0 := x) (t1 := y) (by omega) hv (by omega) hy eR hR n5 (y + 1 - x) 0 FU pr (by omega) (FU_big (by omega)) (fun k hk => c8 k hk)
            obtain ⟨ps', f1, f2, f3⟩ := mhold_L (hands := hands) (a := a) (v := v) (t0 := x) (t1 := y) (by omega) hv (by omega) hy n5 0 (y + 1 - x) 0 FU pressed (by omega) (FU_big (by omega)) (fun k hk => m8 k hk)
            refine ⟨_, _, e1, f1, rfl, f3, W, H, N, pw, sp, sd, _, LF, LT, (hdN PR a v x (y + 1 - x)).1, ⟨hb, n1, n2, n3, n4, fun k hk => hd_le hv n5 _ k hk⟩, ⟨c1, c2, rfl, c4, c5, c6, c7, e2⟩, ⟨m1, m2, e4, m4, m5, m6, m7, f2⟩, rfl, by split <;> omega, fun j hj => ?_⟩
            have hj2 : j < R ∧ j < x := by split at hj <;> omega
            rw [trj_congr (p := prT (hdN PR a v x (y + 1 - x)).1) (q := prT PR) (j + 1)]
            · exact hT j hj2.1
            · intro i hi b hbN
              unfold prT
              exact hd_out _ (fun z hz => by omega)
end OPS12
