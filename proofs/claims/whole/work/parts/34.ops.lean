section OPS3
variable {w h n ready : Int32} {ru pr lf lt rows wide tall hands power spin seed pressed leftFrom leftTo : Nat → Int32}
theorem op_rule {delay feel turn sight : Int32} (hI : InvP w h n ready ru pr lf lt rows wide tall hands power spin seed pressed leftFrom leftTo) (hQ : InvR ru delay feel turn sight) (th p1 p2 : Int32) : ∃ oc om, X7_rule ru ready p1 p2 = some oc ∧ X8_rule th delay feel turn sight power spin seed p1 p2 = some om ∧ oc.1 = om.1 ∧ (LowEq om.2.2.2.2.2.2.1 power 4 ∧ LowEq om.2.2.2.2.2.2.2.1 spin 4 ∧ LowEq om.2.2.2.2.2.2.2.2 seed 4) ∧ InvP w h n oc.2.2 oc.2.1 pr lf lt rows wide tall hands om.2.2.2.2.2.2.1 om.2.2.2.2.2.2.2.1 om.2.2.2.2.2.2.2.2 pressed leftFrom leftTo ∧ InvR oc.2.1 om.2.2.1 om.2.2.2.1 om.2.2.2.2.1 om.2.2.2.2.2.1 := by
  have hI0 := hI
  have hQ0 := hQ
  obtain ⟨W, H, N, pw, sp, sd, R, LF, LT, PR, hn, hc, hm, eR, hR, hT⟩ := hI
  obtain ⟨hb, n1, n2, n3, n4, n5⟩ := hn
  obtain ⟨c1, c2, en, c4, c5, c6, c7, c8⟩ := hc
  obtain ⟨m1, m2, e4, m4, m5, m6, m7, m8⟩ := hm
  obtain ⟨D, fe, tu, si, ⟨d1, d2, d3⟩, ⟨f1, f2, f3⟩, ⟨t1, t2, t3⟩, s1, s2, s3⟩ := hQ
  have k6 : (6 : Int32).toInt = 6 := rfl
  have k66 : (6 : Int64).toInt = 6 := rfl
  have k0 : (0 : Int64).toInt = 0 := rfl
  by_cases hj : 0 ≤ p1.toInt ∧ p1.toInt ≤ 6
  · obtain ⟨j, ej, ej2, -⟩ := ofI hj.1
    have hj7 : j < 7 := by omega
    subst ej
    rw [eR, rule_C hR hj7, rule_M hj7]
    by_cases hv : (loR j : Int) ≤ p2.toInt ∧ p2.toInt ≤ (hiR j : Int)
    · rw [if_pos hv, if_pos hv]
      obtain ⟨v, ev, ev2, -⟩ := ofI (p := p2) (by have := hv.1; omega)
      subst ev
      have hv1 : loR j ≤ v ∧ v ≤ hiR j := by omega
      have hup : ∀ k, k ≠ j → upd ru j (nI v) k = ru k := fun k hk => pk_un hk
      refine ⟨_, _, rfl, rfl, ?_, ?_, ?_, ?_⟩
      · rcases (show j = 0 ∨ j = 1 ∨ j = 2 ∨ j = 3 ∨ j = 4 ∨ j = 5 ∨ j = 6 by omega) with rfl | rfl | rfl | rfl | rfl | rfl | rfl
        · exact c4.trans m4.symm
        · exact c5.trans m5.symm
        · exact c6.trans m6.symm
        · exact d1.trans d2.symm
        · exact f1.trans f2.symm
        · exact t1.trans t2.symm
        · exact s1.trans s2.symm
      · rcases (show j = 0 ∨ j = 1 ∨ j = 2 ∨ j = 3 ∨ j = 4 ∨ j = 5 ∨ j = 6 by omega) with rfl | rfl | rfl | rfl | rfl | rfl | rfl
        · exact ⟨fun k hk => pk_un (by omega), fun _ _ => rfl, fun _ _ => rfl⟩
        · exact ⟨fun _ _ => rfl, fun k hk => pk_un (by omega), fun _ _ => rfl⟩
        · exact ⟨fun _ _ => rfl, fun _ _ => rfl, fun k hk => pk_un (by omega)⟩
        · exact ⟨fun _ _ => rfl, fun _ _ => rfl, fun _ _ => rfl⟩
        · exact ⟨fun _ _ => rfl, fun _ _ => rfl, fun _ _ => rfl⟩
        · exact ⟨fun _ _ => rfl, fun _ _ => rfl, fun _ _ => rfl⟩
        · exact ⟨fun _ _ => rfl, fun _ _ => rfl, fun _ _ => rfl⟩
      · rcases (show j = 0 ∨ j = 1 ∨ j = 2 ∨ j = 3 ∨ j = 4 ∨ j = 5 ∨ j = 6 by omega) with rfl | rfl | rfl | rfl | rfl | rfl | rfl
        · exact ⟨W, H, N, v, sp, sd, 0, LF, LT, PR, ⟨hb, hv1, n2, n3, n4, n5⟩, ⟨c1, c2, en, (show upd ru 0 (nI v) 0 = nI v from pk_us), (hup 1 (by decide)).trans c5, (hup 2 (by decide)).trans c6, c7, c8⟩, ⟨m1, m2, e4, (show upd power 4 (nI v) 4 = nI v from pk_us), m5, m6, m7, m8⟩, rfl, by omega, fun j hj => by omega⟩
        · exact ⟨W, H, N, pw, v, sd, 0, LF, LT, PR, ⟨hb, n1, hv1.2, n3, n4, n5⟩, ⟨c1, c2, en, (hup 0 (by decide)).trans c4, (show upd ru 1 (nI v) 1 = nI v from pk_us), (hup 2 (by decide)).trans c6, c7, c8⟩, ⟨m1, m2, e4, m4, (show upd spin 4 (nI v) 4 = nI v from pk_us), m6, m7, m8⟩, rfl, by omega, fun j hj => by omega⟩
        · exact ⟨W, H, N, pw, sp, v, 0, LF, LT, PR, ⟨hb, n1, n2, hv1.2, n4, n5⟩, ⟨c1, c2, en, (hup 0 (by decide)).trans c4, (hup 1 (by decide)).trans c5, (show upd ru 2 (nI v) 2 = nI v from pk_us), c7, c8⟩, ⟨m1, m2, e4, m4, m5, (show upd seed 4 (nI v) 4 = nI v from pk_us), m7, m8⟩, rfl, by omega, fun j hj => by omega⟩
        · exact ⟨W, H, N, pw, sp, sd, R, LF, LT, PR, ⟨hb, n1, n2, n3, n4, n5⟩, ⟨c1, c2, en, (hup 0 (by decide)).trans c4, (hup 1 (by decide)).trans c5, (hup 2 (by decide)).trans c6, c7, c8⟩, ⟨m1, m2, e4, m4, m5, m6, m7, m8⟩, rfl, hR, hT⟩
        · exact ⟨W, H, N, pw, sp, sd, R, LF, LT, PR, ⟨hb, n1, n2, n3, n4, n5⟩, ⟨c1, c2, en, (hup 0 (by decide)).trans c4, (hup 1 (by decide)).trans c5, (hup 2 (by decide)).trans c6, c7, c8⟩, ⟨m1, m2, e4, m4, m5, m6, m7, m8⟩, rfl, hR, hT⟩
        · exact ⟨W, H, N, pw, sp, sd, R, LF, LT, PR, ⟨hb, n1, n2, n3, n4, n5⟩, ⟨c1, c2, en, (hup 0 (by decide)).trans c4, (hup 1 (by decide)).trans c5, (hup 2 (by decide)).trans c6, c7, c8⟩, ⟨m1, m2, e4, m4, m5, m6, m7, m8⟩, rfl, hR, hT⟩
        · exact ⟨W, H, N, pw, sp, sd, R, LF, LT, PR, ⟨hb, n1, n2, n3, n4, n5⟩, ⟨c1, c2, en, (hup 0 (by decide)).trans c4, (hup 1 (by decide)).trans c5, (hup 2 (by decide)).trans c6, c7, c8⟩, ⟨m1, m2, e4, m4, m5, m6, m7, m8⟩, rfl, hR, hT⟩
      · rcases (show j = 0 ∨ j = 1 ∨ j = 2 ∨ j = 3 ∨ j = 4 ∨ j = 5 ∨ j = 6 by omega) with rfl | rfl | rfl | rfl | rfl | rfl | rfl
        · exact ⟨D, fe, tu, si, ⟨(hup 3 (by decide)).trans d1, d2, d3⟩, ⟨(hup 4 (by decide)).trans f1, f2, f3⟩, ⟨(hup 5 (by decide)).trans t1, t2, t3⟩, (hup 6 (by decide)).trans s1, s2, s3⟩
        · exact ⟨D, fe, tu, si, ⟨(hup 3 (by decide)).trans d1, d2, d3⟩, ⟨(hup 4 (by decide)).trans f1, f2, f3⟩, ⟨(hup 5 (by decide)).trans t1, t2, t3⟩, (hup 6 (by decide)).trans s1, s2, s3⟩
        · exact ⟨D, fe, tu, si, ⟨(hup 3 (by decide)).trans d1, d2, d3⟩, ⟨(hup 4 (by decide)).trans f1, f2, f3⟩, ⟨(hup 5 (by decide)).trans t1, t2, t3⟩, (hup 6 (by decide)).trans s1, s2, s3⟩
        · exact ⟨v, fe, tu, si, ⟨(show upd ru 3 (nI v) 3 = nI v from pk_us), rfl, hv1.2⟩, ⟨(hup 4 (by decide)).trans f1, f2, f3⟩, ⟨(hup 5 (by decide)).trans t1, t2, t3⟩, (hup 6 (by decide)).trans s1, s2, s3⟩
        · exact ⟨D, v, tu, si, ⟨(hup 3 (by decide)).trans d1, d2, d3⟩, ⟨(show upd ru 4 (nI v) 4 = nI v from pk_us), rfl, hv1.2⟩, ⟨(hup 5 (by decide)).trans t1, t2, t3⟩, (hup 6 (by decide)).trans s1, s2, s3⟩
        · exact ⟨D, fe, v, si, ⟨(hup 3 (by decide)).trans d1, d2, d3⟩, ⟨(hup 4 (by decide)).trans f1, f2, f3⟩, ⟨(show upd ru 5 (nI v) 5 = nI v from pk_us), rfl, hv1.2⟩, (hup 6 (by decide)).trans s1, s2, s3⟩
        · exact ⟨D, fe, tu, v, ⟨(hup 3 (by decide)).trans d1, d2, d3⟩, ⟨(hup 4 (by decide)).trans f1, f2, f3⟩, ⟨(hup 5 (by decide)).trans t1, t2, t3⟩, (show upd ru 6 (nI v) 6 = nI v from pk_us), rfl, hv1.2⟩
    · rw [if_neg hv, if_neg hv]
      exact ⟨_, _, rfl, rfl, rfl, ⟨fun _ _ => rfl, fun _ _ => rfl, fun _ _ => rfl⟩, by rw [← eR]; exact hI0, hQ0⟩
  · have hC : X7_rule ru ready p1 p2 = some (-2, ru, ready) := by
      unfold X7_rule
      by_cases q : p1 < 0
      · rw [if_pos q]
      · rw [if_neg q, if_pos (by rw [lt0I] at q; rw [ltI]; omega)]
    have hM : X8_rule th delay feel turn sight power spin seed p1 p2 = some (-2, 0, delay, feel, turn, sight, power, spin, seed) := by
      unfold X8_rule
      rw [in_no (by rw [k0, k66]; exact hj), bd_some, if_pos rfl]
    exact ⟨_, _, hC, hM, rfl, ⟨fun _ _ => rfl, fun _ _ => rfl, fun _ _ => rfl⟩, hI0, hQ0⟩
end OPS3
