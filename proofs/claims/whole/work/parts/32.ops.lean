def LowEq (f g : Nat → Int32) (n : Nat) : Prop := ∀ k, k < n → f k = g k
theorem allA_congr {W H N pw : Nat} {left : Nat → Bool} {p q : Nat → Nat} (A : Nat → Nat) : ∀ k, (∀ a, a < k → p a = q a) → allA W H N pw left p k A = allA W H N pw left q k A
  | 0, _ => rfl
  | k + 1, h => by rw [allA, allA, allA_congr A k (fun a ha => h a (by omega)), h k (by omega)]
theorem trj_congr {W H N pw sp sd : Nat} {LF LT : Nat → Nat} {p q : Nat → Nat → Nat} : ∀ t, (∀ i, i < t → ∀ a, a < N → p i a = q i a) → trj W H N pw sp sd LF LT p t = trj W H N pw sp sd LF LT q t
  | 0, _ => rfl
  | t + 1, h => by
    rw [trj, trj, trj_congr t (fun i hi => h i (by omega))]
    unfold advA
    rw [allA_congr _ N (h t (by omega))]
theorem keep_ok {R t : Nat} (hR : R ≤ 100) (ht : t < 2 ^ 31) : X6_keepBelow (nI R) (nI t) = some (nI (if t < R then t else R)) := by
  unfold X6_keepBelow
  by_cases c : t < R
  · rw [if_pos c, if_pos (nI_lt c (by omega))]
  · rw [if_neg c, if_neg (nI_nlt (by omega) ht)]
theorem press_cases (p : Int32) : (X7_isPress p = some 0 ∧ X8_in (Int32.toInt64 p) 0 5 = some 0) ∨ ∃ v : Nat, v ≤ 5 ∧ p = nI v ∧ X7_isPress p = some 1 ∧ X8_in (Int32.toInt64 p) 0 5 = some 1 := by
  unfold X7_isPress
  rw [zb_0, zb_1]
  have e5 : (5 : Int32).toInt = 5 := rfl
  have e0 : (0 : Int64).toInt = 0 := rfl
  have e55 : (5 : Int64).toInt = 5 := rfl
  by_cases h : 0 ≤ p.toInt ∧ p.toInt ≤ 5
  · right
    obtain ⟨k, e, e2, -⟩ := ofI h.1
    refine ⟨k, by omega, e, ?_, ?_⟩
    · rw [if_neg (by rw [lt0I]; omega), if_neg (by rw [ltI]; omega)]
    · exact in_yes (by omega) (by omega)
  · left
    refine ⟨?_, ?_⟩
    · by_cases c : p < 0
      · rw [if_pos c]
      · rw [if_neg c, if_pos (by rw [lt0I] at c; rw [ltI]; omega)]
    · exact in_no (by omega)
section OPS2
variable {w h n ready : Int32} {ru pr lf lt rows wide tall hands power spin seed pressed leftFrom leftTo : Nat → Int32}
theorem op_press (hI : InvP w h n ready ru pr lf lt rows wide tall hands power spin seed pressed leftFrom leftTo) (th p1 p2 p3 : Int32) : ∃ oc om, X7_press n pr ready p1 p2 p3 = some oc ∧ X8_press hands th pressed p1 p2 p3 = some om ∧ oc.1 = om.1 ∧ LowEq om.2.2 pressed 2400 ∧ InvP w h n oc.2.2 ru oc.2.1 lf lt rows wide tall hands power spin seed om.2.2 leftFrom leftTo := by
  have hI0 := hI
  obtain ⟨W, H, N, pw, sp, sd, R, LF, LT, PR, hn, hc, hm, eR, hR, hT⟩ := hI
  obtain ⟨hb, n1, n2, n3, n4, n5⟩ := hn
  have hb' := hb
  obtain ⟨b1, b2, b3, b4, b5, b6⟩ := hb'
  obtain ⟨c1, c2, en, c4, c5, c6, c7, c8⟩ := hc
  obtain ⟨m1, m2, e4, m4, m5, m6, m7, m8⟩ := hm
  unfold X7_press X8_press
  rcases hand_cases (N := N) (hands := hands) (by omega) e4 (by omega) p1 with ⟨t1, t2⟩ | ⟨a, ha, rfl, t1, t2⟩
  · rw [en, t1, t2, bd_some, bd_some, if_pos rfl, if_neg i1n0]
    exact ⟨_, _, rfl, rfl, rfl, fun _ _ => rfl, by rw [← en]; exact hI0⟩
  · rw [en, t1, t2, bd_some, bd_some, if_neg i1n0, if_pos rfl]
    rcases tick_cases p2 with ⟨q1, q2⟩ | ⟨t, ht, rfl, q1, q2⟩
    · rw [q1, q2, bd_some, bd_some, if_pos rfl, if_neg i1n0]
      exact ⟨_, _, rfl, rfl, rfl, fun _ _ => rfl, by rw [← en]; exact hI0⟩
    · rw [q1, q2, bd_some, bd_some, if_neg i1n0, if_pos rfl]
      rcases press_cases p3 with ⟨u1, u2⟩ | ⟨v, hv, rfl, u1, u2⟩
      · rw [u1, u2, bd_some, bd_some, if_pos rfl, if_pos rfl]
        exact ⟨_, _, rfl, rfl, rfl, fun _ _ => rfl, by rw [← en]; exact hI0⟩
      · rw [u1, u2, bd_some, bd_some, if_neg i1n0, if_neg i1n0, pressOf_ok (by omega) ht, bd_some]
        have e1 : nI a * 100 + nI t = nI (100 * a + t) := by
          show nI a * nI 100 + nI t = _
          rw [pk_mul, nI_add, Nat.mul_comm]
        have e2 : (2400 : Int32) + 100 * nI a + nI t = nI (2400 + (100 * a + t)) := by
          show nI 2400 + nI 100 * nI a + nI t = _
          rw [pk_mul, nI_add, nI_add, Nat.add_assoc]
        unfold X5_setPress
        rw [e1, wrI_nI pr (by omega) (by decide), bd_some, eR, keep_ok hR (by omega), bd_some, nm_eq, e2, rd_nI pressed (by omega) (by decide), wrI_nI pressed (by omega) (by decide)]
        refine ⟨_, _, rfl, rfl, ?_, fun k hk => pk_un (by omega), ?_⟩
        · show pr (100 * a + t) = pressed (2400 + (100 * a + t))
          rw [c8 _ (by omega)]
          exact (m8 (100 * a + t) (by omega)).symm
        · refine ⟨W, H, N, pw, sp, sd, _, LF, LT, upN PR (100 * a + t) v, ⟨hb, n1, n2, n3, n4, fun k hk => ?_⟩, ⟨c1, c2, rfl, c4, c5, c6, c7, fun k hk => ?_⟩, ⟨m1, m2, e4, m4, m5, m6, m7, fun k hk => ?_⟩, rfl, ?_, fun j hj => ?_⟩
          · by_cases e : k = 100 * a + t
            · subst e
              rw [upN_s]
              exact hv
            · rw [upN_n _ _ e]
              exact n5 k hk
          · show upd pr (100 * a + t) (nI v) k = _
            by_cases e : k = 100 * a + t
            · subst e
              rw [upN_s, pk_us]
            · rw [upN_n _ _ e, pk_un e]
              exact c8 k hk
          · show upd pressed (2400 + (100 * a + t)) (nI v) (600 * 4 + k) = _
            by_cases e : k = 100 * a + t
            · subst e
              rw [upN_s]
              exact pk_us
            · rw [upN_n _ _ e, pk_un (by omega)]
              exact m8 k hk
          · split <;> omega
          · have hj2 : j < R ∧ j < t := by split at hj <;> omega
            have := hT j hj2.1
            rw [trj_congr (p := prT (upN PR (100 * a + t) v)) (q := prT PR) (j + 1)]
            · exact this
            · intro i hi b hbN
              unfold prT
              exact upN_n _ _ (by omega)
theorem op_leave (hI : InvP w h n ready ru pr lf lt rows wide tall hands power spin seed pressed leftFrom leftTo) (th p1 p2 p3 : Int32) : ∃ oc om, X7_leave n lf lt ready p1 p2 p3 = some oc ∧ X8_leave hands th leftFrom leftTo p1 p2 p3 = some om ∧ oc.1 = om.1 ∧ LowEq om.2.2.1 leftFrom 24 ∧ LowEq om.2.2.2 leftTo 24 ∧ InvP w h n oc.2.2.2 ru pr oc.2.1 oc.2.2.1 rows wide tall hands power spin seed pressed om.2.2.1 om.2.2.2 := by
  have hI0 := hI
  obtain ⟨W, H, N, pw, sp, sd, R, LF, LT, PR, hn, hc, hm, eR, hR, hT⟩ := hI
  obtain ⟨hb, n1, n2, n3, n4, n5⟩ := hn
  have hb' := hb
  obtain ⟨b1, b2, b3, b4, b5, b6⟩ := hb'
  obtain ⟨c1, c2, en, c4, c5, c6, c7, c8⟩ := hc
  obtain ⟨m1, m2, e4, m4, m5, m6, m7, m8⟩ := hm
  have k100 : (100 : Int32).toInt = 100 := rfl
  have k0 : (0 : Int64).toInt = 0 := rfl
  unfold X7_leave X8_leave
  rcases hand_cases (N := N) (hands := hands) (by omega) e4 (by omega) p1 with ⟨t1, t2⟩ | ⟨a, ha, rfl, t1, t2⟩
  · rw [en, t1, t2, bd_some, bd_some, if_pos rfl, if_neg i1n0]
    exact ⟨_, _, rfl, rfl, rfl, fun _ _ => rfl, fun _ _ => rfl, by rw [← en]; exact hI0⟩
  · rw [en, t1, t2, bd_some, bd_some, if_neg i1n0, if_pos rfl]
    by_cases hin : 0 ≤ p2.toInt ∧ p2.toInt ≤ p3.toInt
    · rw [in_yes (by rw [k0]; exact hin.1) (by rw [t64]; exact hin.2), bd_some, if_neg i1n0, if_neg (by rw [lt0I]; omega), if_neg (by rw [ltI]; omega)]
      by_cases h100 : p3 ≤ 100
      · have h100' := (leI p3 100).mp h100
        obtain ⟨x, ex, ex2, -⟩ := ofI hin.1
        obtain ⟨y, ey, ey2, -⟩ := ofI (p := p3) (by omega)
        have e2 : (24 : Int32) + nI a = nI (24 + a) := nI_add 24 a
        rw [if_pos h100, if_pos h100, wrI_nI lf (by omega) (by decide), wrI_nI lt (by omega) (by decide), e2, wrI_nI leftFrom (by omega) (by decide), wrI_nI leftTo (by omega) (by decide), eR, show (0 : Int32) = nI 0 from rfl, keep_ok hR (by decide), bd_some]
        refine ⟨_, _, rfl, rfl, rfl, fun k hk => pk_un (by omega), fun k hk => pk_un (by omega), ?_⟩
        refine ⟨W, H, N, pw, sp, sd, _, upN LF a x, upN LT a y, PR, ⟨hb, n1, n2, n3, fun k hk => ?_, n5⟩, ⟨c1, c2, rfl, c4, c5, c6, fun k hk => ?_, c8⟩, ⟨m1, m2, e4, m4, m5, m6, fun k hk => ?_, m8⟩, rfl, ?_, fun j hj => ?_⟩
        · by_cases e : k = a
          · subst e
            rw [upN_s, upN_s]
            omega
          · rw [upN_n _ _ e, upN_n _ _ e]
            exact n4 k hk
        · show upd lf a p2 k = _ ∧ upd lt a p3 k = _
          by_cases e : k = a
          · subst e
            rw [upN_s, upN_s, pk_us, pk_us]
            exact ⟨ex, ey⟩
          · rw [upN_n _ _ e, upN_n _ _ e, pk_un e, pk_un e]
            exact c7 k hk
        · show upd leftFrom (24 + a) p2 (6 * 4 + k) = _ ∧ upd leftTo (24 + a) p3 (6 * 4 + k) = _
          by_cases e : k = a
          · subst e
            rw [upN_s, upN_s]
            exact ⟨by rw [← ex]; exact pk_us, by rw [← ey]; exact pk_us⟩
          · rw [upN_n _ _ e, upN_n _ _ e, pk_un (by omega), pk_un (by omega)]
            exact m7 k hk
        · split <;> omega
        · split at hj <;> omega
      · rw [if_neg h100, if_neg h100]
        exact ⟨_, _, rfl, rfl, rfl, fun _ _ => rfl, fun _ _ => rfl, by rw [← en]; exact hI0⟩
    · rw [in_no (by rw [k0, t64]; exact hin), bd_some, if_pos rfl]
      by_cases d1 : p2 < 0
      · rw [if_pos d1]
        exact ⟨_, _, rfl, rfl, rfl, fun _ _ => rfl, fun _ _ => rfl, by rw [← en]; exact hI0⟩
      · rw [if_neg d1, if_pos (by rw [lt0I] at d1; rw [ltI]; omega)]
        exact ⟨_, _, rfl, rfl, rfl, fun _ _ => rfl, fun _ _ => rfl, by rw [← en]; exact hI0⟩
end OPS2
