abbrev X0i : Nat → Int32 := (sX (sX (sX (sX (sX (sX (sX (sX (sX (sX (sX (sX (sX (sX (sX (fun _ => (0 : Int32)) 0 5) 1 5) 2 2) 10 5) 11 5) 12 2) 13 5) 14 5) 15 2) 16 5) 17 5) 18 2) 19 5) 20 5) 21 2)
abbrev Y0i : Nat → Nat → Int32 := (sX (sX (sX (sX (sX (fun _ _ => (0 : Int32)) 0 (upd (upd (upd (upd (upd (upd (upd (fun _ => 0) 0 2) 1 0) 2 0) 3 0) 4 5) 5 1) 6 9)) 20 (upd (upd (upd (upd (upd (upd (upd (fun _ => 0) 0 2) 1 0) 2 0) 3 0) 4 5) 5 1) 6 9)) 24 (upd (upd (upd (upd (upd (upd (upd (fun _ => 0) 0 2) 1 0) 2 0) 3 0) 4 5) 5 1) 6 9)) 28 (upd (upd (upd (upd (upd (upd (upd (fun _ => 0) 0 2) 1 0) 2 0) 3 0) 4 5) 5 1) 6 9)) 32 (upd (upd (upd (upd (upd (upd (upd (fun _ => 0) 0 2) 1 0) 2 0) 3 0) 4 5) 5 1) 6 9))
abbrev Z0i : Nat → Nat → Int64 := (fun _ _ => (0 : Int64))
abbrev V0i : Nat → Int64 := (sX (fun _ => (0 : Int64)) 1 1)
abbrev x0i : Nat → Int32 := (sX (sX (sX (fun _ => (0 : Int32)) 2 5) 3 1) 4 9)
abbrev y0i : Nat → Nat → Int32 := (sX (sX (sX (sX (fun _ _ => (0 : Int32)) 0 (upd (fun _ => 0) 4 5)) 1 (upd (fun _ => 0) 4 5)) 2 (upd (fun _ => 0) 4 2)) 3 (upd (fun _ => 0) 4 2))
theorem InvP0 : InvP 5 5 2 0 (upd (upd (upd (upd (upd (upd (upd (fun _ => 0) 0 2) 1 0) 2 0) 3 0) 4 5) 5 1) 6 9) (fun _ => 0) (fun _ => 0) (fun _ => 0) (fun _ => 0) (upd (fun _ => 0) 4 5) (upd (fun _ => 0) 4 5) (upd (fun _ => 0) 4 2) (upd (fun _ => 0) 4 2) (fun _ => 0) (fun _ => 0) (fun _ => 0) (fun _ => 0) (fun _ => 0) := by
  refine ⟨5, 5, 2, 2, 0, 0, 0, fun _ => 0, fun _ => 0, fun _ => 0, ⟨⟨by decide, by decide, by decide, by decide, by decide, by decide⟩, ⟨by decide, by decide⟩, by decide, by decide, fun _ _ => ⟨Nat.le_refl 0, Nat.zero_le _⟩, fun _ _ => Nat.zero_le _⟩, ⟨rfl, rfl, rfl, rfl, rfl, rfl, fun _ _ => ⟨rfl, rfl⟩, fun _ _ => rfl⟩, ⟨rfl, rfl, rfl, rfl, rfl, rfl, fun _ _ => ⟨rfl, rfl⟩, fun _ _ => rfl⟩, rfl, by omega, fun j hj => by omega⟩
theorem InvR0 : InvR (upd (upd (upd (upd (upd (upd (upd (fun _ => 0) 0 2) 1 0) 2 0) 3 0) 4 5) 5 1) 6 9) 0 5 1 9 := ⟨0, 5, 1, 9, ⟨rfl, rfl, by decide⟩, ⟨rfl, rfl, by decide⟩, ⟨rfl, rfl, by decide⟩, ⟨rfl, rfl, by decide⟩⟩
theorem InvL0 : InvL (fun _ => 0) (fun _ => 0) (fun _ => 0) (fun _ => 0) := ⟨fun _ => 0, fun _ _ => ⟨rfl, rfl, Nat.zero_le _⟩, fun _ _ => ⟨rfl, Or.inl rfl⟩⟩
theorem InvC0 : InvC 0 0 (fun _ => 0) (fun _ => 0) (fun _ => 0) (fun _ => 0) (fun _ => 0) 0 (fun _ => 0) (fun _ => 0) (fun _ => 0) := ⟨0, fun _ => 0, fun _ => 0, fun _ => 0, rfl, rfl, ⟨by omega, fun k hk => by omega, fun _ _ => ⟨rfl, Nat.zero_le _⟩⟩, ⟨by omega, fun k hk => by omega, fun _ _ => ⟨rfl, Nat.zero_le _⟩⟩, rfl, Or.inl rfl⟩
theorem LInv0 : LInv X0i Y0i x0i y0i := ⟨InvP0, InvR0, InvL0, InvC0, ⟨rfl, Or.inl rfl⟩, ⟨rfl, Or.inl rfl⟩, ⟨rfl, Or.inl rfl⟩, ⟨rfl, Or.inl rfl⟩⟩
theorem ev_links : ∀ q ∈ ev_M, Cond.methodLinkNest q.1 q.2.1 q.2.2 RX7 ∈ lw_tbl := by decide +kernel
set_option maxRecDepth 100000 in
theorem ev_start {p : Program} {s : State} {m : MethodId} {meth : Method} {c : Code} {b L : Nat} {xs : Nat → Int32} (C0 : lw_At p s m meth c b L xs) : ∃ t : Nat → Nat, EV t (LA s) s s.heap := by
  obtain ⟨hx, hb, hr, hml, hown, hts, hX, hbl, hlocks, hgv⟩ := C0
  have hs := flat_of_before _ hgv
  have hA : ∀ a : Nat, a < s.heap.size → ¬ LA s a := fun a h => Nat.not_le.mpr h
  obtain ⟨t0, e0, T0⟩ := va_Tof (tm := (.static "SeaGames" "STEP" "[I")) (ty := .int) (N := 5) (f := fun k => .int (st_step k)) (A := LA s) (by decide) (hs (.arrayOf (.static "SeaGames" "STEP" "[I") .int) (by decide +kernel)) (va_eqt (hs (.eq (.length (.static "SeaGames" "STEP" "[I")) (.int 5)) (by decide +kernel))) (fun j hj => by
    rcases (show j = 0 ∨ j = 1 ∨ j = 2 ∨ j = 3 ∨ j = 4 by omega) with rfl | rfl | rfl | rfl | rfl
    · exact va_eqt (hs (.eq (.elem (.static "SeaGames" "STEP" "[I") (.int 0)) (.int (0))) (by decide +kernel))
    · exact va_eqt (hs (.eq (.elem (.static "SeaGames" "STEP" "[I") (.int 1)) (.int (1))) (by decide +kernel))
    · exact va_eqt (hs (.eq (.elem (.static "SeaGames" "STEP" "[I") (.int 2)) (.int (16))) (by decide +kernel))
    · exact va_eqt (hs (.eq (.elem (.static "SeaGames" "STEP" "[I") (.int 3)) (.int (-1))) (by decide +kernel))
    · exact va_eqt (hs (.eq (.elem (.static "SeaGames" "STEP" "[I") (.int 4)) (.int (-16))) (by decide +kernel))
    ) hA
  have z0 := va_Zref (C := RX7) (n := "STEP") (d := "[I") (A := LA s) (hts (.laysStatic RX7 "STEP" "[I") (by decide +kernel)) (hts (.initialized RX7) (by decide +kernel)) e0 hA
  obtain ⟨t1, e1, T1⟩ := va_Tof (tm := (.static "SeaGames" "LEAST_RULE" "[I")) (ty := .int) (N := 7) (f := fun k => .int (st_least k)) (A := LA s) (by decide) (hs (.arrayOf (.static "SeaGames" "LEAST_RULE" "[I") .int) (by decide +kernel)) (va_eqt (hs (.eq (.length (.static "SeaGames" "LEAST_RULE" "[I")) (.int 7)) (by decide +kernel))) (fun j hj => by
    rcases (show j = 0 ∨ j = 1 ∨ j = 2 ∨ j = 3 ∨ j = 4 ∨ j = 5 ∨ j = 6 by omega) with rfl | rfl | rfl | rfl | rfl | rfl | rfl
    · exact va_eqt (hs (.eq (.elem (.static "SeaGames" "LEAST_RULE" "[I") (.int 0)) (.int (1))) (by decide +kernel))
    · exact va_eqt (hs (.eq (.elem (.static "SeaGames" "LEAST_RULE" "[I") (.int 1)) (.int (0))) (by decide +kernel))
    · exact va_eqt (hs (.eq (.elem (.static "SeaGames" "LEAST_RULE" "[I") (.int 2)) (.int (0))) (by decide +kernel))
    · exact va_eqt (hs (.eq (.elem (.static "SeaGames" "LEAST_RULE" "[I") (.int 3)) (.int (0))) (by decide +kernel))
    · exact va_eqt (hs (.eq (.elem (.static "SeaGames" "LEAST_RULE" "[I") (.int 4)) (.int (0))) (by decide +kernel))
    · exact va_eqt (hs (.eq (.elem (.static "SeaGames" "LEAST_RULE" "[I") (.int 5)) (.int (0))) (by decide +kernel))
    · exact va_eqt (hs (.eq (.elem (.static "SeaGames" "LEAST_RULE" "[I") (.int 6)) (.int (0))) (by decide +kernel))
    ) hA
  have z1 := va_Zref (C := RX7) (n := "LEAST_RULE") (d := "[I") (A := LA s) (hts (.laysStatic RX7 "LEAST_RULE" "[I") (by decide +kernel)) (hts (.initialized RX7) (by decide +kernel)) e1 hA
  obtain ⟨t2, e2, T2⟩ := va_Tof (tm := (.static "SeaGames" "MOST_RULE" "[I")) (ty := .int) (N := 7) (f := fun k => .int (st_most k)) (A := LA s) (by decide) (hs (.arrayOf (.static "SeaGames" "MOST_RULE" "[I") .int) (by decide +kernel)) (va_eqt (hs (.eq (.length (.static "SeaGames" "MOST_RULE" "[I")) (.int 7)) (by decide +kernel))) (fun j hj => by
    rcases (show j = 0 ∨ j = 1 ∨ j = 2 ∨ j = 3 ∨ j = 4 ∨ j = 5 ∨ j = 6 by omega) with rfl | rfl | rfl | rfl | rfl | rfl | rfl
    · exact va_eqt (hs (.eq (.elem (.static "SeaGames" "MOST_RULE" "[I") (.int 0)) (.int (5))) (by decide +kernel))
    · exact va_eqt (hs (.eq (.elem (.static "SeaGames" "MOST_RULE" "[I") (.int 1)) (.int (9))) (by decide +kernel))
    · exact va_eqt (hs (.eq (.elem (.static "SeaGames" "MOST_RULE" "[I") (.int 2)) (.int (999))) (by decide +kernel))
    · exact va_eqt (hs (.eq (.elem (.static "SeaGames" "MOST_RULE" "[I") (.int 3)) (.int (9))) (by decide +kernel))
    · exact va_eqt (hs (.eq (.elem (.static "SeaGames" "MOST_RULE" "[I") (.int 4)) (.int (99))) (by decide +kernel))
    · exact va_eqt (hs (.eq (.elem (.static "SeaGames" "MOST_RULE" "[I") (.int 5)) (.int (99))) (by decide +kernel))
    · exact va_eqt (hs (.eq (.elem (.static "SeaGames" "MOST_RULE" "[I") (.int 6)) (.int (9))) (by decide +kernel))
    ) hA
  have z2 := va_Zref (C := RX7) (n := "MOST_RULE") (d := "[I") (A := LA s) (hts (.laysStatic RX7 "MOST_RULE" "[I") (by decide +kernel)) (hts (.initialized RX7) (by decide +kernel)) e2 hA
  exact ⟨fun k => match k with | 0 => t0 | 1 => t1 | _ => t2, ⟨⟨z0, T0⟩, ⟨z1, T1⟩, z2, T2⟩, va_Nw.of rfl (hts (.fieldLinkNest RX0 74 RX7 "STEP" "[I" RX7) (by decide +kernel)), fun q hq => va_Nw.of rfl (hts _ (ev_links q hq))⟩
set_option maxRecDepth 100000 in
theorem k_start {s : State} {b : Nat} (hts : ∀ w ∈ lw_tbl, w.before #[Value.ref b] s = true) : ∃ (D : va_G) (cy : Nat → ClassId), va_K D vwCl (TYS cy) s := by
  obtain ⟨c0, m0, p0, f0, g0, n0⟩ := Cond.arrayClass_spec (hts (.arrayClass .int) (by decide +kernel))
  obtain ⟨c1, m1, p1, f1, g1, n1⟩ := Cond.arrayClass_spec (hts (.arrayClass .boolean) (by decide +kernel))
  obtain ⟨c2, m2, p2, f2, g2, n2⟩ := Cond.arrayClass_spec (hts (.arrayClass .long) (by decide +kernel))
  obtain ⟨p3, c3, m3, f3, -, g3, n3, r3⟩ := Cond.arrayOver_spec (hts (.arrayOver (.object "SeaGames$Play")) (by decide +kernel))
  obtain ⟨d0, i0, k0⟩ := u_known (C := RX0) (T := TX0) (N := 1) (n := 1) hts wsL_inX0 (hts (.instantiable RX0 1) (by decide +kernel))
  obtain ⟨d1, i1, k1⟩ := u_known (C := RX1) (T := TX1) (N := 7) (n := 7) hts wsL_inX1 (hts (.instantiable RX1 7) (by decide +kernel))
  obtain ⟨d2, i2, k2⟩ := u_known (C := RX2) (T := TX2) (N := 4) (n := 4) hts wsL_inX2 (hts (.instantiable RX2 4) (by decide +kernel))
  obtain ⟨d3, i3, k3⟩ := u_known (C := RX3) (T := TX3) (N := 1) (n := 1) hts wsL_inX3 (hts (.instantiable RX3 1) (by decide +kernel))
  obtain ⟨d4, i4, k4⟩ := u_known (C := RX4) (T := TX4) (N := 3) (n := 3) hts wsL_inX4 (hts (.instantiable RX4 3) (by decide +kernel))
  obtain ⟨d5, i5, k5⟩ := u_known (C := RX5) (T := TX5) (N := 7) (n := 7) hts wsL_inX5 (hts (.instantiable RX5 7) (by decide +kernel))
  obtain ⟨d6, i6, k6⟩ := u_known (C := RX6) (T := TX6) (N := 2) (n := 2) hts wsL_inX6 (hts (.instantiable RX6 2) (by decide +kernel))
  obtain ⟨d7, i7, k7⟩ := u_known (C := RX7) (T := TX7) (N := 12) (n := 12) hts wsL_inX7 (hts (.instantiable RX7 12) (by decide +kernel))
  obtain ⟨d8, i8, k8⟩ := u_known (C := RX8) (T := TX8) (N := 36) (n := 36) hts wsL_inX8 (hts (.instantiable RX8 36) (by decide +kernel))
  refine ⟨(fun k => match k with | 0 => d0 | 1 => d1 | 2 => d2 | 3 => d3 | 4 => d4 | 5 => d5 | 6 => d6 | 7 => d7 | _ => d8, fun k => match k with | 0 => i0 | 1 => i1 | 2 => i2 | 3 => i3 | 4 => i4 | 5 => i5 | 6 => i6 | 7 => i7 | _ => i8), fun k => match k with | 0 => c0 | 1 => c1 | 2 => c2 | _ => c3, fun k q hq => ?_, fun k q hq => ?_⟩
  · match k, hq with
    | 0, hq => cases hq; exact k0
    | 1, hq => cases hq; exact k1
    | 2, hq => cases hq; exact k2
    | 3, hq => cases hq; exact k3
    | 4, hq => cases hq; exact k4
    | 5, hq => cases hq; exact k5
    | 6, hq => cases hq; exact k6
    | 7, hq => cases hq; exact k7
    | 8, hq => cases hq; exact k8
    | k + 9, hq => simp [vwCl] at hq
  · match k, hq with
    | 0, hq => cases hq; exact ⟨fun n z => ⟨fun k h => (by cases h), m0, g0, p0, n0⟩, f0⟩
    | 1, hq => cases hq; exact ⟨fun n z => ⟨fun k h => (by cases h), m1, g1, p1, n1⟩, f1⟩
    | 2, hq => cases hq; exact ⟨fun n z => ⟨fun k h => (by cases h), m2, g2, p2, n2⟩, f2⟩
    | 3, hq => cases hq; exact ⟨fun n z => ⟨fun k h => (by cases h), m3, g3, p3, n3⟩, m3, p3, g3, n3, f3, r3⟩
    | k + 4, hq => simp at hq
set_option maxHeartbeats 4000000 in
set_option maxRecDepth 100000 in
theorem whole_start {p : Program} {e : Env} {s : State} {m : MethodId} {below : List Frame} {meth : Method} {c : Code} (l : Launch) {b L : Nat} {xs : Nat → Int32} (hL : L ≤ 3072) (C0 : lw_At p s m meth c b L xs) : W p l e room_1 s m #[Value.ref b] below meth c s.heap [] 0 0 (lw_Z below #[Value.ref b] s) (entryFrame m ([Value.ref b] : List Value).toArray 4) := by
  obtain ⟨hx, hb, hr, hml, hown, hts, hX, hbl, hlocks, hgv⟩ := id C0
  obtain ⟨t, hE⟩ := ev_start C0
  obtain ⟨D, cy, hK⟩ := k_start hts
  have htw : ∀ w ∈ wsL_law, w.before #[Value.ref b] s = true := fun w h => hts w (wsL_in w h)
  have hAO : va_AO RX5 s := va_AO.of (hts (.arrayOver (.object "SeaGames$Play")) (by decide +kernel))
  have hA : ∀ q : Nat, s.heap.size ≤ q → LA s q := fun _ h => h
  have hS : va_S (LA s) s.heap s.heap [] := va_S.rf
  have hP : va_P D vwCl [] s.heap := fun k q h => by simp at h
  have hD : va_D (LA s) [] := ⟨fun i j p q h => by simp at h, fun k q h => by simp at h⟩
  have hl := lv_entry ([.ref b]) (n := 4) (Nat.le_of_ble_eq_true rfl)
  rw [lg_entry_eq]
  generalize (lg_sl ([.ref b]) ++ List.replicate (4 - (lg_sl ([.ref b])).length) Slot.unset).toArray = ls at hl ⊢
  have hl : lv_has ls 4 [(0, .ref b)] := hl
  generalize ([] : List Loc) = locs at hS ⊢
  refine va_new (ci := 7) (fs := [.null, .null, .null, .null, .null, .null, .null, .null, .null, .null, .null, .null]) (C := RX7) (T := TX7) (N := 12) hx hb hts wsL_inX7 tyX7 tyX7_ok hown (hts (.classLink RL 7 RX7) (by decide +kernel)) (hts (.instantiable RX7 12) (by decide +kernel)) (hts (.initialized RX7) (by decide +kernel)) hK hP hD hS hA rfl (fun j hj => by rcases (show j = 0 ∨ j = 1 ∨ j = 2 ∨ j = 3 ∨ j = 4 ∨ j = 5 ∨ j = 6 ∨ j = 7 ∨ j = 8 ∨ j = 9 ∨ j = 10 ∨ j = 11 by omega) with rfl | rfl | rfl | rfl | rfl | rfl | rfl | rfl | rfl | rfl | rfl | rfl <;> rfl) (Nat.le_of_ble_eq_true rfl) (Nat.le_of_ble_eq_true rfl) dL_law_0 (fun q0 H hP hD hS => ?_)
  have hP : va_P D vwCl [(q0, .inr (7, [.null, .null, .null, .null, .null, .null, .null, .null, .null, .null, .null, .null]))] H := hP
  have hD : va_D (LA s) [(q0, .inr (7, [.null, .null, .null, .null, .null, .null, .null, .null, .null, .null, .null, .null]))] := hD
  refine W.widen (k := 1) (n := 12) (Nat.le_of_ble_eq_true rfl) (Nat.le_of_ble_eq_true rfl) ?_
  refine lv_dup hx hb dL_law_3 rfl ?_
  have hPc := hP.sub (ws' := [(q0, .inr (7, [.null, .null, .null, .null, .null, .null, .null, .null, .null, .null, .null, .null]))]) [0] rfl
  have hDc := hD.sub (ws' := [(q0, .inr (7, [.null, .null, .null, .null, .null, .null, .null, .null, .null, .null, .null, .null]))]) [0] (by decide) rfl
  have hFc := va_free (wc := [(q0, .inr (7, [.null, .null, .null, .null, .null, .null, .null, .null, .null, .null, .null, .null]))]) hD hS hA [0] rfl
  refine va_callv (va_runI (As := []) (rest := [.ref q0]) ⟨hx, hb, hml, hown, htw⟩ (ci_X7_init l D cy t q0 H.size) (cwI 0 htw gL_law_X7_init rfl rfl rfl (hts (.initialized RX7) (by decide +kernel)) (hts (.methodLink RL 9 yX7_init) (by decide +kernel)) (hts (.instanceMethod yX7_init) (by decide +kernel)) rfl (by decide +kernel) ⟨Nat.le_of_ble_eq_true rfl, Nat.le_of_ble_eq_true rfl⟩) ⟨fun a U g mk q => by obtain ⟨q1, q2, qP, qK, qD, qE, qO⟩ := q; exact ⟨q1, q2, qP, va_K.moved (u := U) (U := U.calling g mk a) (Vm.Alike.refl U.vm) qK, qD, qE.calling g mk a, va_AO.moved (u := U) (U := U.calling g mk a) (Vm.Alike.refl U.vm) qO⟩, fun U hU hW => ⟨rfl, by rw [hU], by rw [hU]; exact hPc, va_K.moved hW.alike hK, hDc.weaken (fun _ _ _ _ => trivial), by rw [hU]; exact hE.go hS.2.1 hFc hW, va_AO.moved hW.alike hAO⟩⟩ rfl rfl hl.1 rfl (lv_room (Nat.le_of_ble_eq_true rfl)) dL_law_4 ⟨Nat.le_of_ble_eq_true rfl, Nat.le_of_ble_eq_true rfl⟩) hS (fun q _ h => hFc q h) hFc (fun u t9 H1 locs ht hvm hw hB hz1 hk1 hS => ?_)
  obtain ⟨hP1, hD1⟩ := hB
  rw [ht] at hP1
  obtain ⟨hP2, hD2⟩ := va_join (wr := []) (w1 := wn_X7 cy u) hP hD [0] [] rfl rfl (by decide) (by decide) hk1 hFc hP1 hD1
  clear hP1 hD1 hk1 hFc hPc hDc hP hD
  generalize H1 = H at hP2 hS ⊢
  have hw : u 0 0 = q0 := hw
  subst hw
  have hP : va_P D vwCl (wn_X7 cy u) H := hP2
  have hD : va_D (LA s) (wn_X7 cy u) := hD2
  clear hP2 hD2
  refine W.widen (k := 51) (n := 7640) (Nat.le_of_ble_eq_true rfl) (Nat.le_of_ble_eq_true rfl) ?_
  refine lv_astore_n (lv' := [(1, .ref (u 0 0)), (0, .ref b)]) hx hb dL_law_7 rfl hl (by decide) rfl (fun ls hl => ?_)
  refine va_new (ci := 8) (fs := [.int 0, .null, .null, .null, .null, .null, .null, .null, .null, .null, .null, .int 0, .int 0, .int 0, .int 0, .null, .null, .null, .null, .int 0, .int 0, .int 0, .int 0, .null, .null, .null, .null, .null, .null, .int 0, .null, .null, .null, .null, .null, .null]) (C := RX8) (T := TX8) (N := 36) hx hb hts wsL_inX8 tyX8 tyX8_ok hown (hts (.classLink RL 10 RX8) (by decide +kernel)) (hts (.instantiable RX8 36) (by decide +kernel)) (hts (.initialized RX8) (by decide +kernel)) hK hP hD hS hA rfl (fun j hj => by rcases (show j = 0 ∨ j = 1 ∨ j = 2 ∨ j = 3 ∨ j = 4 ∨ j = 5 ∨ j = 6 ∨ j = 7 ∨ j = 8 ∨ j = 9 ∨ j = 10 ∨ j = 11 ∨ j = 12 ∨ j = 13 ∨ j = 14 ∨ j = 15 ∨ j = 16 ∨ j = 17 ∨ j = 18 ∨ j = 19 ∨ j = 20 ∨ j = 21 ∨ j = 22 ∨ j = 23 ∨ j = 24 ∨ j = 25 ∨ j = 26 ∨ j = 27 ∨ j = 28 ∨ j = 29 ∨ j = 30 ∨ j = 31 ∨ j = 32 ∨ j = 33 ∨ j = 34 ∨ j = 35 by omega) with rfl | rfl | rfl | rfl | rfl | rfl | rfl | rfl | rfl | rfl | rfl | rfl | rfl | rfl | rfl | rfl | rfl | rfl | rfl | rfl | rfl | rfl | rfl | rfl | rfl | rfl | rfl | rfl | rfl | rfl | rfl | rfl | rfl | rfl | rfl | rfl <;> rfl) (Nat.le_of_ble_eq_true rfl) (Nat.le_of_ble_eq_true rfl) dL_law_8 (fun q8 H hP hD hS => ?_)
  have hP : va_P D vwCl (wn_X7 cy u ++ [(q8, .inr (8, [.int 0, .null, .null, .null, .null, .null, .null, .null, .null, .null, .null, .int 0, .int 0, .int 0, .int 0, .null, .null, .null, .null, .int 0, .int 0, .int 0, .int 0, .null, .null, .null, .null, .null, .null, .int 0, .null, .null, .null, .null, .null, .null]))]) H := hP
  have hD : va_D (LA s) (wn_X7 cy u ++ [(q8, .inr (8, [.int 0, .null, .null, .null, .null, .null, .null, .null, .null, .null, .null, .int 0, .int 0, .int 0, .int 0, .null, .null, .null, .null, .int 0, .int 0, .int 0, .int 0, .null, .null, .null, .null, .null, .null, .int 0, .null, .null, .null, .null, .null, .null]))]) := hD
  refine W.widen (k := 52) (n := 7676) (Nat.le_of_ble_eq_true rfl) (Nat.le_of_ble_eq_true rfl) ?_
  refine lv_dup hx hb dL_law_11 rfl ?_
  have hPc := hP.sub (ws' := [(q8, .inr (8, [.int 0, .null, .null, .null, .null, .null, .null, .null, .null, .null, .null, .int 0, .int 0, .int 0, .int 0, .null, .null, .null, .null, .int 0, .int 0, .int 0, .int 0, .null, .null, .null, .null, .null, .null, .int 0, .null, .null, .null, .null, .null, .null]))]) [51] rfl
  have hDc := hD.sub (ws' := [(q8, .inr (8, [.int 0, .null, .null, .null, .null, .null, .null, .null, .null, .null, .null, .int 0, .int 0, .int 0, .int 0, .null, .null, .null, .null, .int 0, .int 0, .int 0, .int 0, .null, .null, .null, .null, .null, .null, .int 0, .null, .null, .null, .null, .null, .null]))]) [51] (by decide) rfl
  have hFc := va_free (wc := [(q8, .inr (8, [.int 0, .null, .null, .null, .null, .null, .null, .null, .null, .null, .null, .int 0, .int 0, .int 0, .int 0, .null, .null, .null, .null, .int 0, .int 0, .int 0, .int 0, .null, .null, .null, .null, .null, .null, .int 0, .null, .null, .null, .null, .null, .null]))]) hD hS hA [51] rfl
  refine va_callv (va_runI (As := []) (rest := [.ref q8]) ⟨hx, hb, hml, hown, htw⟩ (ci_X8_init l D cy t q8 H.size) (cwI 0 htw gL_law_X8_init rfl rfl rfl (hts (.initialized RX8) (by decide +kernel)) (hts (.methodLink RL 12 yX8_init) (by decide +kernel)) (hts (.instanceMethod yX8_init) (by decide +kernel)) rfl (by decide +kernel) ⟨Nat.le_of_ble_eq_true rfl, Nat.le_of_ble_eq_true rfl⟩) ⟨fun a U g mk q => by obtain ⟨q1, q2, qP, qK, qD, qE⟩ := q; exact ⟨q1, q2, qP, va_K.moved (u := U) (U := U.calling g mk a) (Vm.Alike.refl U.vm) qK, qD, qE.calling g mk a⟩, fun U hU hW => ⟨rfl, by rw [hU], by rw [hU]; exact hPc, va_K.moved hW.alike hK, hDc.weaken (fun _ _ _ _ => trivial), by rw [hU]; exact hE.go hS.2.1 hFc hW⟩⟩ rfl rfl hl.1 rfl (lv_room (Nat.le_of_ble_eq_true rfl)) dL_law_12 ⟨Nat.le_of_ble_eq_true rfl, Nat.le_of_ble_eq_true rfl⟩) hS (fun q _ h => hFc q h) hFc (fun u8 t9 H1 locs ht hvm hw hB hz1 hk1 hS => ?_)
  obtain ⟨hP1, hD1⟩ := hB
  rw [ht] at hP1
  obtain ⟨hP2, hD2⟩ := va_join (wr := wn_X7 cy u) (w1 := wn_X8 cy u8.1 u8.2) hP hD [51] [0, 1, 2, 3, 4, 5, 6, 7, 8, 9, 10, 11, 12, 13, 14, 15, 16, 17, 18, 19, 20, 21, 22, 23, 24, 25, 26, 27, 28, 29, 30, 31, 32, 33, 34, 35, 36, 37, 38, 39, 40, 41, 42, 43, 44, 45, 46, 47, 48, 49, 50] rfl rfl (by decide) (by decide) hk1 hFc hP1 hD1
  clear hP1 hD1 hk1 hFc hPc hDc hP hD
  generalize H1 = H at hP2 hS ⊢
  obtain ⟨o8, wy⟩ := u8
  obtain ⟨hw1, hwy⟩ := hw
  have hw1 : o8 0 = q8 := hw1
  have hwy : InvW wy := hwy
  subst hw1
  refine W.widen (k := 78) (n := 18884) (Nat.le_of_ble_eq_true rfl) (Nat.le_of_ble_eq_true rfl) ?_
  refine lv_astore_n (lv' := [(2, .ref (o8 0)), (1, .ref (u 0 0)), (0, .ref b)]) hx hb dL_law_15 rfl hl (by decide) rfl (fun ls hl => ?_)
  refine lv_iconst (v := (0 : Int32)) hx hb dL_law_16 (by decide) ?_
  refine lv_istore_n (lv' := [(3, .int 0), (2, .ref (o8 0)), (1, .ref (u 0 0)), (0, .ref b)]) hx hb dL_law_17 rfl hl (by decide) rfl (fun ls hl => ?_)
  exact law_loop (O := u) (M := o8) (sf := va_up (va_up (va_up (va_up (fun _ => none) 0 (some (u 10 0))) 1 (some (u 11 0))) 2 (some (u 12 0))) 3 (some (u 13 0))) C0 hL ⟨rfl, rfl, rfl, rfl⟩ hK hE hwy (L + 7) 0 0 (by omega) (by omega) nI_0.symm X0i Y0i Z0i V0i x0i y0i _ _ LInv0 hP2 hD2 hS ls (lv_sub hl [3, 2, 1, 0] rfl)
