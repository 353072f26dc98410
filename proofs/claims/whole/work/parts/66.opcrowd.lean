def InvC (size paired : Int32) (skills shores fars mates least : Nat → Int32) (players : Int32) (skill shore farsM : Nat → Int32) : Prop := ∃ (n : Nat) (SK SH FA : Nat → Nat), size = nI n ∧ players = nI n ∧ CrN n SK SH FA skills shores fars ∧ CrN n SK SH FA skill shore farsM ∧ least 0 = 0 ∧ (paired = 0 ∨ ((∀ k, k < 2 ^ n → least k = nI (Tab (ck SK SH FA) n (2 ^ n - 1) k)) ∧ ∀ k, k < n → mates k = mtS (ck SK SH FA) (Tab (ck SK SH FA) n (2 ^ n - 1)) n n 0 (2 ^ n - 1) (fun _ => 0) k))
theorem Tab_all {n : Nat} {SK SH FA : Nat → Nat} {skills shores fars : Nat → Int32} (h : CrN n SK SH FA skills shores fars) : ∀ k, k < 2 ^ n → Tab (ck SK SH FA) n (2 ^ n - 1) k ≤ 1998 * k := fun k hk => Tab_le h.1 (fun p q hp hq => ck_le h hp hq) (2 ^ n - 1) (by omega) k (by omega)
theorem pairUp_ok {size paired players : Int32} {skills shores fars mates least skill shore farsM : Nat → Int32} (hC : InvC size paired skills shores fars mates least players skill shore farsM) : ∃ paired' mates' least', X1_pairUp size skills shores fars paired mates least = some (paired', mates', least') ∧ ∃ (n : Nat) (SK SH FA : Nat → Nat), size = nI n ∧ players = nI n ∧ CrN n SK SH FA skills shores fars ∧ CrN n SK SH FA skill shore farsM ∧ least' 0 = 0 ∧ (∀ k, k < 2 ^ n → least' k = nI (Tab (ck SK SH FA) n (2 ^ n - 1) k)) ∧ ∀ k, k < n → mates' k = mtS (ck SK SH FA) (Tab (ck SK SH FA) n (2 ^ n - 1)) n n 0 (2 ^ n - 1) (fun _ => 0) k := by
  obtain ⟨n, SK, SH, FA, es, ep, h1, h2, h3, h4⟩ := hC
  have hn := h1.1
  have h10 := p2_le hn
  have hp1 : 1 ≤ 2 ^ n := Nat.one_le_two_pow
  unfold X1_pairUp
  by_cases c : paired = 0
  · rw [if_pos c, es]
    obtain ⟨least', e1, e2⟩ := pairUp_1 h1 paired mates (2 ^ n - 1) 0 FU least (by omega) (FU_big (by omega)) (fun k hk => by
      have : k = 0 := by omega
      subst this
      exact h3)
    have e3 := pairUp_2 h1 (T := Tab (ck SK SH FA) n (2 ^ n - 1)) (least := least') (fun k hk => ⟨e2 k hk, Tab_all h1 k hk⟩) paired n 0 FU (2 ^ n - 1) mates (by omega) (FU_big (by omega)) (by omega) (fun j hj => by omega)
    refine ⟨1, mtS (ck SK SH FA) (Tab (ck SK SH FA) n (2 ^ n - 1)) n n 0 (2 ^ n - 1) mates, least', e1.trans ?_, n, SK, SH, FA, rfl, ep, h1, h2, ?_, e2, ?_⟩
    · unfold X1_pairUp_J37
      rw [shl1 (by omega), nm_eq, show nI (2 ^ n) - 1 = nI (2 ^ n - 1) from pk_sub (b := 1) hp1]
      exact e3
    · rw [e2 0 (by omega), Tab_0]
      rfl
    · intro k hk
      exact mtS_congr (ck SK SH FA) _ hn n 0 (2 ^ n - 1) mates (fun _ => 0) (by omega) (fun j hj => by omega) (fun k hk hb => by
        rw [Nat.testBit_two_pow_sub_one, decide_eq_true hk] at hb
        cases hb) k hk
  · rw [if_neg c]
    exact ⟨_, _, _, rfl, n, SK, SH, FA, es, ep, h1, h2, h3, (h4.resolve_left c).1, (h4.resolve_left c).2⟩
theorem match_ok {n : Nat} {SK SH FA : Nat → Nat} {skill shore farsM : Nat → Int32} (h : CrN n SK SH FA skill shore farsM) (least mates : Nat → Int32) : ∃ least' mates', X8_match (nI n) skill shore farsM least mates = some (nI (Tab (ck SK SH FA) n (2 ^ n - 1) (2 ^ n - 1)), least', mates') ∧ ∀ k, k < n → mates' k = mtS (ck SK SH FA) (Tab (ck SK SH FA) n (2 ^ n - 1)) n n 0 (2 ^ n - 1) (fun _ => 0) k := by
  have hn := h.1
  have h10 := p2_le hn
  have hp1 : 1 ≤ 2 ^ n := Nat.one_le_two_pow
  obtain ⟨least', e1, e2⟩ := mm_all h mates (2 ^ n - 1) 0 4095 (upd least 0 0) (by omega) (by omega) (fun k hk => by
    have : k = 0 := by omega
    subst this
    rw [pk_us, Tab_0]
    rfl)
  have e3 := mm_m h (T := Tab (ck SK SH FA) n (2 ^ n - 1)) (least := least') (all := nI (2 ^ n - 1)) (fun k hk => ⟨e2 k hk, Tab_all h k hk⟩) n 0 FU (2 ^ n - 1) mates (by omega) (FU_big (by omega)) (by omega) (fun j hj => by omega)
  refine ⟨least', _, ?_, fun k hk => mtS_congr (ck SK SH FA) _ hn n 0 (2 ^ n - 1) mates (fun _ => 0) (by omega) (fun j hj => by omega) (fun k hk hb => by
    rw [Nat.testBit_two_pow_sub_one, decide_eq_true hk] at hb
    cases hb) k hk⟩
  unfold X8_match
  rw [shl1 (by omega), nm_eq, show nI (2 ^ n) - 1 = nI (2 ^ n - 1) from pk_sub (b := 1) hp1]
  refine (mm_0 h 4095).trans (e1.trans ?_)
  unfold X8_match_J172
  refine e3.trans ?_
  unfold X8_match_J309
  rw [rd_nI least' (by omega) (by decide), e2 _ (by omega)]
theorem op_pairs {size paired players : Int32} {skills shores fars mates least skill shore farsM : Nat → Int32} (hC : InvC size paired skills shores fars mates least players skill shore farsM) (th : Int32) (leastM matesM : Nat → Int32) : ∃ oc om, X7_pairs size skills shores fars paired mates least = some oc ∧ X8_pairs players skill shore farsM th leastM matesM = some om ∧ oc.1 = om.1 ∧ InvC size oc.2.1 skills shores fars oc.2.2.1 oc.2.2.2 players skill shore farsM := by
  obtain ⟨pd, ms, ls, e1, n, SK, SH, FA, es, ep, h1, h2, h3, h4, h5⟩ := pairUp_ok hC
  have hn := h1.1
  have h10 := p2_le hn
  have hp1 : 1 ≤ 2 ^ n := Nat.one_le_two_pow
  obtain ⟨lm, mm, e2, -⟩ := match_ok h2 leastM matesM
  unfold X7_pairs X8_pairs
  rw [e1, bd_some, ep, e2, bd_some]
  unfold X1_leastCost
  rw [es, shl1 (by omega), show nI (2 ^ n) - 1 = nI (2 ^ n - 1) from pk_sub (b := 1) hp1]
  show ∃ oc om, (bd (rd ls 1024 (nI (2 ^ n - 1)) fun v12 => some v12) fun r11 => some (r11, pd, ms, ls)) = some oc ∧ _
  rw [rd_nI ls (by omega) (by decide), bd_some, h4 _ (by omega)]
  exact ⟨_, _, rfl, rfl, rfl, n, SK, SH, FA, rfl, rfl, h1, h2, h3, Or.inr ⟨h4, h5⟩⟩
theorem op_mate {size paired players : Int32} {skills shores fars mates least skill shore farsM : Nat → Int32} (hC : InvC size paired skills shores fars mates least players skill shore farsM) (th : Int32) (leastM matesM : Nat → Int32) (p1 : Int32) : ∃ oc om, X7_mate size skills shores fars paired mates least p1 = some oc ∧ X8_mate players skill shore farsM th leastM matesM p1 = some om ∧ oc.1 = om.1 ∧ InvC size oc.2.1 skills shores fars oc.2.2.1 oc.2.2.2 players skill shore farsM := by
  have hC0 := hC
  obtain ⟨pd, ms, ls, e1, n, SK, SH, FA, es, ep, h1, h2, h3, h4, h5⟩ := pairUp_ok hC
  have hn := h1.1
  have h10 := p2_le hn
  obtain ⟨lm, mm, e2, e3⟩ := match_ok h2 leastM matesM
  have k0 : (0 : Int64).toInt = 0 := rfl
  have kn : (nI n).toInt = n := nI_toInt (by omega)
  have kn1 : (Int32.toInt64 (nI n - 1)).toInt = (n : Int) - 1 := by
    rw [t64]
    show (nI n - nI 1).toInt = _
    rw [pk_sub_toInt (by omega) (by omega)]
    rfl
  unfold X7_mate X8_mate
  rw [ep]
  by_cases c : 0 ≤ p1.toInt ∧ p1.toInt < n
  · obtain ⟨k, ek, ek2, -⟩ := ofI c.1
    rw [in_yes (by omega) (by omega), bd_some, if_neg i1n0, e2, bd_some, if_neg (by rw [lt0I]; omega), if_pos (by rw [ltI, es]; omega), e1, bd_some]
    subst ek
    show ∃ oc om, (rd ms 10 (nI k) fun v32 => some (v32, pd, ms, ls)) = some oc ∧ (rd mm 10 (nI k) fun v33 => some (v33, (0 : Int32), lm, mm)) = some om ∧ _
    rw [rd_nI ms (by omega) (by decide), rd_nI mm (by omega) (by decide)]
    refine ⟨_, _, rfl, rfl, (h5 k (by omega)).trans (e3 k (by omega)).symm, n, SK, SH, FA, es, rfl, h1, h2, h3, Or.inr ⟨h4, h5⟩⟩
  · rw [in_no (by omega), bd_some, if_pos rfl]
    by_cases d : p1 < 0
    · rw [if_pos d]
      exact ⟨_, _, rfl, rfl, rfl, by rw [← ep]; exact hC0⟩
    · rw [if_neg d, if_neg (by rw [lt0I] at d; rw [ltI, es]; omega)]
      exact ⟨_, _, rfl, rfl, rfl, by rw [← ep]; exact hC0⟩
theorem shore_cases (p : Int32) : (X7_isShore p = some 0 ∧ X8_in (Int32.toInt64 p) 0 3 = some 0) ∨ ∃ v : Nat, v ≤ 3 ∧ p = nI v ∧ X7_isShore p = some 1 ∧ X8_in (Int32.toInt64 p) 0 3 = some 1 := by
  unfold X7_isShore
  rw [zb_0, zb_1]
  have e4 : (4 : Int32).toInt = 4 := rfl
  have f0 : (0 : Int64).toInt = 0 := rfl
  have f3 : (3 : Int64).toInt = 3 := rfl
  by_cases h : 0 ≤ p.toInt ∧ p.toInt ≤ 3
  · right
    obtain ⟨k, e, e2, -⟩ := ofI h.1
    refine ⟨k, by omega, e, ?_, in_yes (by omega) (by omega)⟩
    rw [if_neg (by rw [lt0I]; omega), if_neg (by rw [leI]; omega)]
  · left
    refine ⟨?_, in_no (by omega)⟩
    by_cases c : p < 0
    · rw [if_pos c]
    · rw [if_neg c, if_pos (by rw [lt0I] at c; rw [leI]; omega)]
theorem op_player {size paired players : Int32} {skills shores fars mates least skill shore farsM : Nat → Int32} (hC : InvC size paired skills shores fars mates least players skill shore farsM) (th p1 p2 : Int32) : ∃ oc om, X7_player size paired skills shores p1 p2 = some oc ∧ X8_player th players skill shore p1 p2 = some om ∧ oc.1 = om.1 ∧ InvC oc.2.1 oc.2.2.1 oc.2.2.2.1 oc.2.2.2.2 fars mates least om.2.2.1 om.2.2.2.1 om.2.2.2.2 farsM := by
  have hC0 := hC
  obtain ⟨n, SK, SH, FA, es, ep, h1, h2, h3, h4⟩ := hC
  have hn := h1.1
  have k9 : (999 : Int32).toInt = 999 := rfl
  have k0 : (0 : Int64).toInt = 0 := rfl
  have k99 : (999 : Int64).toInt = 999 := rfl
  unfold X7_player X8_player
  by_cases c : 0 ≤ p1.toInt ∧ p1.toInt ≤ 999
  · obtain ⟨a, ea, ea2, -⟩ := ofI c.1
    rw [in_yes (by omega) (by omega), bd_some, if_neg i1n0, if_neg (by rw [lt0I]; omega), if_neg (by rw [ltI]; omega)]
    rcases shore_cases p2 with ⟨t1, t2⟩ | ⟨v, hv, rfl, t1, t2⟩
    · rw [t1, t2, bd_some, bd_some, if_pos rfl, if_pos rfl]
      exact ⟨_, _, rfl, rfl, rfl, hC0⟩
    · rw [t1, t2, bd_some, bd_some, if_neg i1n0, if_neg i1n0, es, ep]
      by_cases d : n = 10
      · subst d
        rw [if_pos (by decide), if_pos (by decide)]
        exact ⟨_, _, rfl, rfl, rfl, by rw [← es]; rw [ep, ← es] at hC0; exact hC0⟩
      · have d1 : ¬ nI n = (10 : Int32) := fun e => d (nI_inj (b := 10) (by omega) (by decide) e)
        unfold X1_join
        rw [if_neg d1, if_neg d1, wrI_nI skills (by omega) (by decide), wrI_nI shores (by omega) (by decide), wrI_nI skill (by omega) (by decide), wrI_nI shore (by omega) (by decide), bd_some]
        subst ea
        refine ⟨_, _, rfl, rfl, rfl, n + 1, upN SK n a, upN SH n v, FA, nI_1 n, nI_1 n, ⟨by omega, fun k hk => ?_, h1.2.2⟩, ⟨by omega, fun k hk => ?_, h2.2.2⟩, h3, Or.inl rfl⟩
        · show upd skills n (nI a) k = _ ∧ _ ∧ upd shores n (nI v) k = _ ∧ _
          by_cases e : k = n
          · subst e
            rw [pk_us, pk_us, upN_s, upN_s]
            exact ⟨rfl, by omega, rfl, hv⟩
          · rw [pk_un e, pk_un e, upN_n _ _ e, upN_n _ _ e]
            exact h1.2.1 k (by omega)
        · show upd skill n (nI a) k = _ ∧ _ ∧ upd shore n (nI v) k = _ ∧ _
          by_cases e : k = n
          · subst e
            rw [pk_us, pk_us, upN_s, upN_s]
            exact ⟨rfl, by omega, rfl, hv⟩
          · rw [pk_un e, pk_un e, upN_n _ _ e, upN_n _ _ e]
            exact h2.2.1 k (by omega)
  · rw [in_no (by omega), bd_some, if_pos rfl]
    by_cases d : p1 < 0
    · rw [if_pos d]
      exact ⟨_, _, rfl, rfl, rfl, hC0⟩
    · rw [if_neg d, if_pos (by rw [lt0I] at d; rw [ltI]; omega)]
      exact ⟨_, _, rfl, rfl, rfl, hC0⟩
theorem op_far {size paired players : Int32} {skills shores fars mates least skill shore farsM : Nat → Int32} (hC : InvC size paired skills shores fars mates least players skill shore farsM) (th p1 p2 p3 : Int32) : ∃ oc om, X7_far paired fars p1 p2 p3 = some oc ∧ X8_far th farsM p1 p2 p3 = some om ∧ oc.1 = om.1 ∧ InvC size oc.2.1 skills shores oc.2.2 mates least players skill shore om.2.2 := by
  have hC0 := hC
  obtain ⟨n, SK, SH, FA, es, ep, h1, h2, h3, h4⟩ := hC
  have k9 : (999 : Int32).toInt = 999 := rfl
  have k0 : (0 : Int64).toInt = 0 := rfl
  have k99 : (999 : Int64).toInt = 999 := rfl
  unfold X7_far X8_far
  rcases shore_cases p1 with ⟨t1, t2⟩ | ⟨a, ha, rfl, t1, t2⟩
  · rw [t1, t2, bd_some, bd_some, if_pos rfl, if_pos rfl]
    exact ⟨_, _, rfl, rfl, rfl, hC0⟩
  · rw [t1, t2, bd_some, bd_some, if_neg i1n0, if_neg i1n0]
    rcases shore_cases p2 with ⟨q1, q2⟩ | ⟨b, hb, rfl, q1, q2⟩
    · rw [q1, q2, bd_some, bd_some, if_pos rfl, if_pos rfl]
      exact ⟨_, _, rfl, rfl, rfl, hC0⟩
    · rw [q1, q2, bd_some, bd_some, if_neg i1n0, if_neg i1n0]
      by_cases c : 0 ≤ p3.toInt ∧ p3.toInt ≤ 999
      · obtain ⟨v, ev, ev2, -⟩ := ofI c.1
        have i1 : ∀ x y : Nat, nI x * 4 + nI y = nI (4 * x + y) := fun x y => by
          show nI x * nI 4 + nI y = _
          rw [pk_mul, nI_add, Nat.mul_comm]
        have i2 : ∀ x y : Nat, (4 : Int32) * nI x + nI y = nI (4 * x + y) := fun x y => by
          show nI 4 * nI x + nI y = _
          rw [pk_mul, nI_add]
        unfold X1_setFar
        rw [in_yes (by omega) (by omega), bd_some, if_neg i1n0, if_neg (by rw [lt0I]; omega), if_pos (by rw [leI]; omega), i1, i1, i2, i2, rd_nI fars (by omega) (by decide), wrI_nI fars (by omega) (by decide), wrI_nI _ (by omega) (by decide), rd_nI farsM (by omega) (by decide), wrI_nI farsM (by omega) (by decide), wrI_nI _ (by omega) (by decide), bd_some]
        subst ev
        have key : ∀ (f : Nat → Int32), (∀ k, k < 16 → f k = nI (FA k) ∧ FA k ≤ 999) → ∀ k, k < 16 → upd (upd f (4 * a + b) (nI v)) (4 * b + a) (nI v) k = nI (upN (upN FA (4 * a + b) v) (4 * b + a) v k) ∧ upN (upN FA (4 * a + b) v) (4 * b + a) v k ≤ 999 := by
          intro f hf k hk
          by_cases e : k = 4 * b + a
          · subst e
            rw [pk_us, upN_s]
            exact ⟨rfl, by omega⟩
          · rw [pk_un e, upN_n _ _ e]
            by_cases e2 : k = 4 * a + b
            · subst e2
              rw [pk_us, upN_s]
              exact ⟨rfl, by omega⟩
            · rw [pk_un e2, upN_n _ _ e2]
              exact hf k hk
        refine ⟨_, _, rfl, rfl, ?_, n, SK, SH, upN (upN FA (4 * a + b) v) (4 * b + a) v, es, ep, ⟨h1.1, h1.2.1, key fars h1.2.2⟩, ⟨h2.1, h2.2.1, key farsM h2.2.2⟩, h3, Or.inl rfl⟩
        exact ((h1.2.2 (4 * a + b) (by omega)).1).trans ((h2.2.2 (4 * a + b) (by omega)).1).symm
      · rw [in_no (by omega), bd_some, if_pos rfl]
        by_cases d : p3 < 0
        · rw [if_pos d]
          exact ⟨_, _, rfl, rfl, rfl, hC0⟩
        · rw [if_neg d, if_neg (by rw [lt0I] at d; rw [leI]; omega)]
          exact ⟨_, _, rfl, rfl, rfl, hC0⟩
