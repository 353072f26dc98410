abbrev wn_X5 (cy : Nat → ClassId) (o : Nat → Nat) : va_W := [(o 0, .inr (5, [.int (5 : Int32), .int (5 : Int32), .int (2 : Int32), .ref (o 4), .ref (o 5), .ref (o 6), .ref (o 7)])), (o 4, .inl (cy 0, 7, .inl (upd (upd (upd (upd (upd (upd (upd (fun _ => 0) 0 (2 : Int32)) 1 (0 : Int32)) 2 (0 : Int32)) 3 (0 : Int32)) 4 (5 : Int32)) 5 (1 : Int32)) 6 (9 : Int32)))), (o 5, .inl (cy 0, 600, .inl (fun _ => 0))), (o 6, .inl (cy 0, 6, .inl (fun _ => 0))), (o 7, .inl (cy 0, 6, .inl (fun _ => 0)))]
set_option maxHeartbeats 4000000 in
set_option maxRecDepth 100000 in
theorem ci_X5_init (l : Launch) (D : va_G) (cy : Nat → ClassId) (h0 : Nat) (sz : Nat) : Met l yX5_init wsX5_init { frames := 1, cells := 4, slots := 619, locals := 12 } (va_Pc [.ref h0] (fun U => U.heap.size = sz ∧ va_P D vwCl [(h0, .inr (5, [.int 0, .int 0, .int 0, .null, .null, .null, .null]))] U.heap ∧ va_K D vwCl (TYS cy) U ∧ va_D (fun _ => True) [(h0, .inr (5, [.int 0, .int 0, .int 0, .null, .null, .null, .null]))])) (va_Qv (fun o : Nat → Nat => o 0 = h0) (fun o u => va_P D vwCl (wn_X5 cy o) u.heap ∧ va_D (va_A [(h0, .inr (5, [.int 0, .int 0, .int 0, .null, .null, .null, .null]))] sz) (wn_X5 cy o)) (va_A [(h0, .inr (5, [.int 0, .int 0, .int 0, .null, .null, .null, .null]))] sz)) 4 619 (va_A [(h0, .inr (5, [.int 0, .int 0, .int 0, .null, .null, .null, .null]))] sz) := by
  refine Met.ofW (cc := cX5_init) (maxL := 1) (ret := none) (by decide) rfl ?_
  intro p e s m args below meth c s₁ B hml hv
  obtain ⟨rfl, hsz, hP, hK, hD0⟩ := hv
  have hx := B.exec
  have hb := B.bytes
  have hr := B.returns
  have hts := atoms_spec (ws := wsX5_init) B.pre
  have hown : s.vm.findClass RX5 = some m.cls := findClass_of_methodNamed B.named
  have hin : meth.name = "<init>" := (name_of_methodNamed B.named B.method).1
  have k0 := hts (.methodLink RX5 3 objectInit) (List.mem_cons_of_mem _ (List.mem_append_left _ (List.mem_of_getElem? (i := 0) rfl)))
  have k1 := hts (.instanceMethod objectInit) (List.mem_cons_of_mem _ (List.mem_append_left _ (List.mem_of_getElem? (i := 1) rfl)))
  have k2 := hts (.code objectInit ⟨#[0xb1]⟩ 1 none) (List.mem_cons_of_mem _ (List.mem_append_left _ (List.mem_of_getElem? (i := 2) rfl)))
  have k3 := hts (.fieldLink RX5 9 "SeaGames$Play" "w" "I") (List.mem_cons_of_mem _ (List.mem_append_left _ (List.mem_of_getElem? (i := 3) rfl)))
  have k4 := hts (.fieldLink RX5 15 "SeaGames$Play" "h" "I") (List.mem_cons_of_mem _ (List.mem_append_left _ (List.mem_of_getElem? (i := 4) rfl)))
  have k5 := hts (.fieldLink RX5 18 "SeaGames$Play" "hands" "I") (List.mem_cons_of_mem _ (List.mem_append_left _ (List.mem_of_getElem? (i := 5) rfl)))
  have k6 := hts (.arrayClass .int) (List.mem_cons_of_mem _ (List.mem_append_left _ (List.mem_of_getElem? (i := 6) rfl)))
  have k7 := hts (.fieldLink RX5 21 "SeaGames$Play" "rules" "[I") (List.mem_cons_of_mem _ (List.mem_append_left _ (List.mem_of_getElem? (i := 7) rfl)))
  have k8 := hts (.fieldLink RX5 25 "SeaGames$Play" "pressRow" "[I") (List.mem_cons_of_mem _ (List.mem_append_left _ (List.mem_of_getElem? (i := 8) rfl)))
  have k9 := hts (.fieldLink RX5 28 "SeaGames$Play" "leftFrom" "[I") (List.mem_cons_of_mem _ (List.mem_append_left _ (List.mem_of_getElem? (i := 9) rfl)))
  have k10 := hts (.fieldLink RX5 31 "SeaGames$Play" "leftTo" "[I") (List.mem_cons_of_mem _ (List.mem_append_left _ (List.mem_of_getElem? (i := 10) rfl)))
  have inX5 : ∀ w ∈ u_ws RX5 TX5 7, w ∈ wsX5_init := fun _ h => List.mem_cons_of_mem _ (List.mem_append_right _ h)
  subst hsz
  have hD := hD0.self (sz := s.heap.size)
  generalize hAe : va_A [(h0, .inr (5, [.int 0, .int 0, .int 0, .null, .null, .null, .null]))] s.heap.size = A at hD ⊢
  have hA : ∀ q : Nat, s.heap.size ≤ q → A q := fun q h => by rw [← hAe]; exact Or.inr h
  have hS : va_S A s.heap s.heap [] := va_S.rf
  generalize hHe : s.heap = H at hP
  have hS : va_S A s.heap H [] := by rw [← hHe]; exact hS
  have hl := lv_entry ([.ref h0]) (n := 1) (Nat.le_of_ble_eq_true rfl)
  rw [lg_entry_eq]
  generalize (lg_sl ([.ref h0]) ++ List.replicate (1 - (lg_sl ([.ref h0])).length) Slot.unset).toArray = ls at hl ⊢
  have hl : lv_has ls 1 [(0, .ref h0)] := hl
  generalize ([] : List Loc) = locs at hS ⊢
  refine lv_aload_n hx hb dX5_init_0 rfl (lv_at hl 0 rfl) ?_
  refine W.objInit hx hb hown k0 k1 k2 rfl (by rw [hml]; exact hl.1) rfl dX5_init_1 (Nat.le_of_ble_eq_true rfl) (Nat.le_of_ble_eq_true rfl) ?_
  refine W.eq (g2 := F0 m 4 ls []) rfl ?_
  refine lv_aload_n hx hb dX5_init_4 rfl (lv_at hl 0 rfl) ?_
  refine lv_iconst (v := (5 : Int32)) hx hb dX5_init_5 (by decide) ?_
  refine va_put (D := D) (ci := 5) (v := .int (5 : Int32)) (ty := .int) (C := RX5) (T := TX5) (N := 7) hx hb hts inX5 tyX5 tyX5_ok nmX5 hown hK hP hD hS 0 rfl rfl 0 (by decide) k3 (fun _ h9 => h9) rfl (by decide +kernel) rfl rfl (Nat.le_of_ble_eq_true rfl) dX5_init_6 (fun H locs hP hD hS => ?_)
  have hP : va_P D vwCl [(h0, .inr (5, [.int (5 : Int32), .int 0, .int 0, .null, .null, .null, .null]))] H := hP
  have hD : va_D A [(h0, .inr (5, [.int (5 : Int32), .int 0, .int 0, .null, .null, .null, .null]))] := hD
  refine lv_aload_n hx hb dX5_init_9 rfl (lv_at hl 0 rfl) ?_
  refine lv_iconst (v := (5 : Int32)) hx hb dX5_init_10 (by decide) ?_
  refine va_put (D := D) (ci := 5) (v := .int (5 : Int32)) (ty := .int) (C := RX5) (T := TX5) (N := 7) hx hb hts inX5 tyX5 tyX5_ok nmX5 hown hK hP hD hS 0 rfl rfl 1 (by decide) k4 (fun _ h9 => h9) rfl (by decide +kernel) rfl rfl (Nat.le_of_ble_eq_true rfl) dX5_init_11 (fun H locs hP hD hS => ?_)
  have hP : va_P D vwCl [(h0, .inr (5, [.int (5 : Int32), .int (5 : Int32), .int 0, .null, .null, .null, .null]))] H := hP
  have hD : va_D A [(h0, .inr (5, [.int (5 : Int32), .int (5 : Int32), .int 0, .null, .null, .null, .null]))] := hD
  refine lv_aload_n hx hb dX5_init_14 rfl (lv_at hl 0 rfl) ?_
  refine lv_iconst (v := (2 : Int32)) hx hb dX5_init_15 (by decide) ?_
  refine va_put (D := D) (ci := 5) (v := .int (2 : Int32)) (ty := .int) (C := RX5) (T := TX5) (N := 7) hx hb hts inX5 tyX5 tyX5_ok nmX5 hown hK hP hD hS 0 rfl rfl 2 (by decide) k5 (fun _ h9 => h9) rfl (by decide +kernel) rfl rfl (Nat.le_of_ble_eq_true rfl) dX5_init_16 (fun H locs hP hD hS => ?_)
  have hP : va_P D vwCl [(h0, .inr (5, [.int (5 : Int32), .int (5 : Int32), .int (2 : Int32), .null, .null, .null, .null]))] H := hP
  have hD : va_D A [(h0, .inr (5, [.int (5 : Int32), .int (5 : Int32), .int (2 : Int32), .null, .null, .null, .null]))] := hD
  refine lv_aload_n hx hb dX5_init_19 rfl (lv_at hl 0 rfl) ?_
  refine lv_bipush (v := (7 : Int32)) hx hb dX5_init_20 (by decide) ?_
  refine my_newI (N' := 7) hx hb k6 hK hP hD hS hA (by decide) rfl (by decide) (Nat.le_of_ble_eq_true rfl) (Nat.le_of_ble_eq_true rfl) dX5_init_22 (fun q22 H hP hD hS => ?_)
  have hP : va_P D vwCl [(h0, .inr (5, [.int (5 : Int32), .int (5 : Int32), .int (2 : Int32), .null, .null, .null, .null])), (q22, .inl (cy 0, 7, .inl (fun _ => 0)))] H := hP
  have hD : va_D A [(h0, .inr (5, [.int (5 : Int32), .int (5 : Int32), .int (2 : Int32), .null, .null, .null, .null])), (q22, .inl (cy 0, 7, .inl (fun _ => 0)))] := hD
  refine W.widen (k := 1) (n := 7) (Nat.le_of_ble_eq_true rfl) (Nat.le_of_ble_eq_true rfl) ?_
  refine lv_dup hx hb dX5_init_24 rfl ?_
  refine lv_iconst (v := (0 : Int32)) hx hb dX5_init_25 (by decide) ?_
  refine lv_iconst (v := (2 : Int32)) hx hb dX5_init_26 (by decide) ?_
  refine my_iast (ws2 := [(h0, .inr (5, [.int (5 : Int32), .int (5 : Int32), .int (2 : Int32), .null, .null, .null, .null])), (q22, .inl (cy 0, 7, .inl (upd (fun _ => 0) 0 (2 : Int32))))]) hx hb hK hP hD hS 1 rfl (show vp_in (nI 0) 7 from vp_in_nI (by decide) (by decide)) rfl rfl dX5_init_27 (fun H locs hP hD hS => ?_)
  refine lv_dup hx hb dX5_init_28 rfl ?_
  refine lv_iconst (v := (1 : Int32)) hx hb dX5_init_29 (by decide) ?_
  refine lv_iconst (v := (0 : Int32)) hx hb dX5_init_30 (by decide) ?_
  refine my_iast (ws2 := [(h0, .inr (5, [.int (5 : Int32), .int (5 : Int32), .int (2 : Int32), .null, .null, .null, .null])), (q22, .inl (cy 0, 7, .inl (upd (upd (fun _ => 0) 0 (2 : Int32)) 1 (0 : Int32))))]) hx hb hK hP hD hS 1 rfl (show vp_in (nI 1) 7 from vp_in_nI (by decide) (by decide)) rfl rfl dX5_init_31 (fun H locs hP hD hS => ?_)
  refine lv_dup hx hb dX5_init_32 rfl ?_
  refine lv_iconst (v := (2 : Int32)) hx hb dX5_init_33 (by decide) ?_
  refine lv_iconst (v := (0 : Int32)) hx hb dX5_init_34 (by decide) ?_
  refine my_iast (ws2 := [(h0, .inr (5, [.int (5 : Int32), .int (5 : Int32), .int (2 : Int32), .null, .null, .null, .null])), (q22, .inl (cy 0, 7, .inl (upd (upd (upd (fun _ => 0) 0 (2 : Int32)) 1 (0 : Int32)) 2 (0 : Int32))))]) hx hb hK hP hD hS 1 rfl (show vp_in (nI 2) 7 from vp_in_nI (by decide) (by decide)) rfl rfl dX5_init_35 (fun H locs hP hD hS => ?_)
  refine lv_dup hx hb dX5_init_36 rfl ?_
  refine lv_iconst (v := (3 : Int32)) hx hb dX5_init_37 (by decide) ?_
  refine lv_iconst (v := (0 : Int32)) hx hb dX5_init_38 (by decide) ?_
  refine my_iast (ws2 := [(h0, .inr (5, [.int (5 : Int32), .int (5 : Int32), .int (2 : Int32), .null, .null, .null, .null])), (q22, .inl (cy 0, 7, .inl (upd (upd (upd (upd (fun _ => 0) 0 (2 : Int32)) 1 (0 : Int32)) 2 (0 : Int32)) 3 (0 : Int32))))]) hx hb hK hP hD hS 1 rfl (show vp_in (nI 3) 7 from vp_in_nI (by decide) (by decide)) rfl rfl dX5_init_39 (fun H locs hP hD hS => ?_)
  refine lv_dup hx hb dX5_init_40 rfl ?_
  refine lv_iconst (v := (4 : Int32)) hx hb dX5_init_41 (by decide) ?_
  refine lv_iconst (v := (5 : Int32)) hx hb dX5_init_42 (by decide) ?_
  refine my_iast (ws2 := [(h0, .inr (5, [.int (5 : Int32), .int (5 : Int32), .int (2 : Int32), .null, .null, .null, .null])), (q22, .inl (cy 0, 7, .inl (upd (upd (upd (upd (upd (fun _ => 0) 0 (2 : Int32)) 1 (0 : Int32)) 2 (0 : Int32)) 3 (0 : Int32)) 4 (5 : Int32))))]) hx hb hK hP hD hS 1 rfl (show vp_in (nI 4) 7 from vp_in_nI (by decide) (by decide)) rfl rfl dX5_init_43 (fun H locs hP hD hS => ?_)
  refine lv_dup hx hb dX5_init_44 rfl ?_
  refine lv_iconst (v := (5 : Int32)) hx hb dX5_init_45 (by decide) ?_
  refine lv_iconst (v := (1 : Int32)) hx hb dX5_init_46 (by decide) ?_
  refine my_iast (ws2 := [(h0, .inr (5, [.int (5 : Int32), .int (5 : Int32), .int (2 : Int32), .null, .null, .null, .null])), (q22, .inl (cy 0, 7, .inl (upd (upd (upd (upd (upd (upd (fun _ => 0) 0 (2 : Int32)) 1 (0 : Int32)) 2 (0 : Int32)) 3 (0 : Int32)) 4 (5 : Int32)) 5 (1 : Int32))))]) hx hb hK hP hD hS 1 rfl (show vp_in (nI 5) 7 from vp_in_nI (by decide) (by decide)) rfl rfl dX5_init_47 (fun H locs hP hD hS => ?_)
  refine lv_dup hx hb dX5_init_48 rfl ?_
  refine lv_bipush (v := (6 : Int32)) hx hb dX5_init_49 (by decide) ?_
  refine lv_bipush (v := (9 : Int32)) hx hb dX5_init_51 (by decide) ?_
  refine my_iast (ws2 := [(h0, .inr (5, [.int (5 : Int32), .int (5 : Int32), .int (2 : Int32), .null, .null, .null, .null])), (q22, .inl (cy 0, 7, .inl (upd (upd (upd (upd (upd (upd (upd (fun _ => 0) 0 (2 : Int32)) 1 (0 : Int32)) 2 (0 : Int32)) 3 (0 : Int32)) 4 (5 : Int32)) 5 (1 : Int32)) 6 (9 : Int32))))]) hx hb hK hP hD hS 1 rfl (show vp_in (nI 6) 7 from vp_in_nI (by decide) (by decide)) rfl rfl dX5_init_53 (fun H locs hP hD hS => ?_)
  refine va_putF (D := D) (ci := 5) (v := .ref q22) (ty := (.array .int)) (C := RX5) (T := TX5) (N := 7) hx hb hts inX5 tyX5 tyX5_ok nmX5 hown hK hP hD hS 0 rfl rfl 3 (by decide) k7 (fun _ h9 => h9) rfl hin rfl (by decide +kernel) rfl rfl (Nat.le_of_ble_eq_true rfl) dX5_init_54 (fun H locs hP hD hS => ?_)
  have hP : va_P D vwCl [(h0, .inr (5, [.int (5 : Int32), .int (5 : Int32), .int (2 : Int32), .ref q22, .null, .null, .null])), (q22, .inl (cy 0, 7, .inl (upd (upd (upd (upd (upd (upd (upd (fun _ => 0) 0 (2 : Int32)) 1 (0 : Int32)) 2 (0 : Int32)) 3 (0 : Int32)) 4 (5 : Int32)) 5 (1 : Int32)) 6 (9 : Int32))))] H := hP
  have hD : va_D A [(h0, .inr (5, [.int (5 : Int32), .int (5 : Int32), .int (2 : Int32), .ref q22, .null, .null, .null])), (q22, .inl (cy 0, 7, .inl (upd (upd (upd (upd (upd (upd (upd (fun _ => 0) 0 (2 : Int32)) 1 (0 : Int32)) 2 (0 : Int32)) 3 (0 : Int32)) 4 (5 : Int32)) 5 (1 : Int32)) 6 (9 : Int32))))] := hD
  refine lv_aload_n hx hb dX5_init_57 rfl (lv_at hl 0 rfl) ?_
  refine lv_sipush (v := (600 : Int32)) hx hb dX5_init_58 (by decide) ?_
  refine my_newI (N' := 600) hx hb k6 hK hP hD hS hA (by decide) rfl (by decide) (Nat.le_of_ble_eq_true rfl) (Nat.le_of_ble_eq_true rfl) dX5_init_61 (fun q61 H hP hD hS => ?_)
  have hP : va_P D vwCl [(h0, .inr (5, [.int (5 : Int32), .int (5 : Int32), .int (2 : Int32), .ref q22, .null, .null, .null])), (q22, .inl (cy 0, 7, .inl (upd (upd (upd (upd (upd (upd (upd (fun _ => 0) 0 (2 : Int32)) 1 (0 : Int32)) 2 (0 : Int32)) 3 (0 : Int32)) 4 (5 : Int32)) 5 (1 : Int32)) 6 (9 : Int32)))), (q61, .inl (cy 0, 600, .inl (fun _ => 0)))] H := hP
  have hD : va_D A [(h0, .inr (5, [.int (5 : Int32), .int (5 : Int32), .int (2 : Int32), .ref q22, .null, .null, .null])), (q22, .inl (cy 0, 7, .inl (upd (upd (upd (upd (upd (upd (upd (fun _ => 0) 0 (2 : Int32)) 1 (0 : Int32)) 2 (0 : Int32)) 3 (0 : Int32)) 4 (5 : Int32)) 5 (1 : Int32)) 6 (9 : Int32)))), (q61, .inl (cy 0, 600, .inl (fun _ => 0)))] := hD
  refine W.widen (k := 2) (n := 607) (Nat.le_of_ble_eq_true rfl) (Nat.le_of_ble_eq_true rfl) ?_
  refine va_putF (D := D) (ci := 5) (v := .ref q61) (ty := (.array .int)) (C := RX5) (T := TX5) (N := 7) hx hb hts inX5 tyX5 tyX5_ok nmX5 hown hK hP hD hS 0 rfl rfl 4 (by decide) k8 (fun _ h9 => h9) rfl hin rfl (by decide +kernel) rfl rfl (Nat.le_of_ble_eq_true rfl) dX5_init_63 (fun H locs hP hD hS => ?_)
  have hP : va_P D vwCl [(h0, .inr (5, [.int (5 : Int32), .int (5 : Int32), .int (2 : Int32), .ref q22, .ref q61, .null, .null])), (q22, .inl (cy 0, 7, .inl (upd (upd (upd (upd (upd (upd (upd (fun _ => 0) 0 (2 : Int32)) 1 (0 : Int32)) 2 (0 : Int32)) 3 (0 : Int32)) 4 (5 : Int32)) 5 (1 : Int32)) 6 (9 : Int32)))), (q61, .inl (cy 0, 600, .inl (fun _ => 0)))] H := hP
  have hD : va_D A [(h0, .inr (5, [.int (5 : Int32), .int (5 : Int32), .int (2 : Int32), .ref q22, .ref q61, .null, .null])), (q22, .inl (cy 0, 7, .inl (upd (upd (upd (upd (upd (upd (upd (fun _ => 0) 0 (2 : Int32)) 1 (0 : Int32)) 2 (0 : Int32)) 3 (0 : Int32)) 4 (5 : Int32)) 5 (1 : Int32)) 6 (9 : Int32)))), (q61, .inl (cy 0, 600, .inl (fun _ => 0)))] := hD
  refine lv_aload_n hx hb dX5_init_66 rfl (lv_at hl 0 rfl) ?_
  refine lv_bipush (v := (6 : Int32)) hx hb dX5_init_67 (by decide) ?_
  refine my_newI (N' := 6) hx hb k6 hK hP hD hS hA (by decide) rfl (by decide) (Nat.le_of_ble_eq_true rfl) (Nat.le_of_ble_eq_true rfl) dX5_init_69 (fun q69 H hP hD hS => ?_)
  have hP : va_P D vwCl [(h0, .inr (5, [.int (5 : Int32), .int (5 : Int32), .int (2 : Int32), .ref q22, .ref q61, .null, .null])), (q22, .inl (cy 0, 7, .inl (upd (upd (upd (upd (upd (upd (upd (fun _ => 0) 0 (2 : Int32)) 1 (0 : Int32)) 2 (0 : Int32)) 3 (0 : Int32)) 4 (5 : Int32)) 5 (1 : Int32)) 6 (9 : Int32)))), (q61, .inl (cy 0, 600, .inl (fun _ => 0))), (q69, .inl (cy 0, 6, .inl (fun _ => 0)))] H := hP
  have hD : va_D A [(h0, .inr (5, [.int (5 : Int32), .int (5 : Int32), .int (2 : Int32), .ref q22, .ref q61, .null, .null])), (q22, .inl (cy 0, 7, .inl (upd (upd (upd (upd (upd (upd (upd (fun _ => 0) 0 (2 : Int32)) 1 (0 : Int32)) 2 (0 : Int32)) 3 (0 : Int32)) 4 (5 : Int32)) 5 (1 : Int32)) 6 (9 : Int32)))), (q61, .inl (cy 0, 600, .inl (fun _ => 0))), (q69, .inl (cy 0, 6, .inl (fun _ => 0)))] := hD
  refine W.widen (k := 3) (n := 613) (Nat.le_of_ble_eq_true rfl) (Nat.le_of_ble_eq_true rfl) ?_
  refine va_putF (D := D) (ci := 5) (v := .ref q69) (ty := (.array .int)) (C := RX5) (T := TX5) (N := 7) hx hb hts inX5 tyX5 tyX5_ok nmX5 hown hK hP hD hS 0 rfl rfl 5 (by decide) k9 (fun _ h9 => h9) rfl hin rfl (by decide +kernel) rfl rfl (Nat.le_of_ble_eq_true rfl) dX5_init_71 (fun H locs hP hD hS => ?_)
  have hP : va_P D vwCl [(h0, .inr (5, [.int (5 : Int32), .int (5 : Int32), .int (2 : Int32), .ref q22, .ref q61, .ref q69, .null])), (q22, .inl (cy 0, 7, .inl (upd (upd (upd (upd (upd (upd (upd (fun _ => 0) 0 (2 : Int32)) 1 (0 : Int32)) 2 (0 : Int32)) 3 (0 : Int32)) 4 (5 : Int32)) 5 (1 : Int32)) 6 (9 : Int32)))), (q61, .inl (cy 0, 600, .inl (fun _ => 0))), (q69, .inl (cy 0, 6, .inl (fun _ => 0)))] H := hP
  have hD : va_D A [(h0, .inr (5, [.int (5 : Int32), .int (5 : Int32), .int (2 : Int32), .ref q22, .ref q61, .ref q69, .null])), (q22, .inl (cy 0, 7, .inl (upd (upd (upd (upd (upd (upd (upd (fun _ => 0) 0 (2 : Int32)) 1 (0 : Int32)) 2 (0 : Int32)) 3 (0 : Int32)) 4 (5 : Int32)) 5 (1 : Int32)) 6 (9 : Int32)))), (q61, .inl (cy 0, 600, .inl (fun _ => 0))), (q69, .inl (cy 0, 6, .inl (fun _ => 0)))] := hD
  refine lv_aload_n hx hb dX5_init_74 rfl (lv_at hl 0 rfl) ?_
  refine lv_bipush (v := (6 : Int32)) hx hb dX5_init_75 (by decide) ?_
  refine my_newI (N' := 6) hx hb k6 hK hP hD hS hA (by decide) rfl (by decide) (Nat.le_of_ble_eq_true rfl) (Nat.le_of_ble_eq_true rfl) dX5_init_77 (fun q77 H hP hD hS => ?_)
  have hP : va_P D vwCl [(h0, .inr (5, [.int (5 : Int32), .int (5 : Int32), .int (2 : Int32), .ref q22, .ref q61, .ref q69, .null])), (q22, .inl (cy 0, 7, .inl (upd (upd (upd (upd (upd (upd (upd (fun _ => 0) 0 (2 : Int32)) 1 (0 : Int32)) 2 (0 : Int32)) 3 (0 : Int32)) 4 (5 : Int32)) 5 (1 : Int32)) 6 (9 : Int32)))), (q61, .inl (cy 0, 600, .inl (fun _ => 0))), (q69, .inl (cy 0, 6, .inl (fun _ => 0))), (q77, .inl (cy 0, 6, .inl (fun _ => 0)))] H := hP
  have hD : va_D A [(h0, .inr (5, [.int (5 : Int32), .int (5 : Int32), .int (2 : Int32), .ref q22, .ref q61, .ref q69, .null])), (q22, .inl (cy 0, 7, .inl (upd (upd (upd (upd (upd (upd (upd (fun _ => 0) 0 (2 : Int32)) 1 (0 : Int32)) 2 (0 : Int32)) 3 (0 : Int32)) 4 (5 : Int32)) 5 (1 : Int32)) 6 (9 : Int32)))), (q61, .inl (cy 0, 600, .inl (fun _ => 0))), (q69, .inl (cy 0, 6, .inl (fun _ => 0))), (q77, .inl (cy 0, 6, .inl (fun _ => 0)))] := hD
  refine W.widen (k := 4) (n := 619) (Nat.le_of_ble_eq_true rfl) (Nat.le_of_ble_eq_true rfl) ?_
  refine va_putF (D := D) (ci := 5) (v := .ref q77) (ty := (.array .int)) (C := RX5) (T := TX5) (N := 7) hx hb hts inX5 tyX5 tyX5_ok nmX5 hown hK hP hD hS 0 rfl rfl 6 (by decide) k10 (fun _ h9 => h9) rfl hin rfl (by decide +kernel) rfl rfl (Nat.le_of_ble_eq_true rfl) dX5_init_79 (fun H locs hP hD hS => ?_)
  have hP : va_P D vwCl [(h0, .inr (5, [.int (5 : Int32), .int (5 : Int32), .int (2 : Int32), .ref q22, .ref q61, .ref q69, .ref q77])), (q22, .inl (cy 0, 7, .inl (upd (upd (upd (upd (upd (upd (upd (fun _ => 0) 0 (2 : Int32)) 1 (0 : Int32)) 2 (0 : Int32)) 3 (0 : Int32)) 4 (5 : Int32)) 5 (1 : Int32)) 6 (9 : Int32)))), (q61, .inl (cy 0, 600, .inl (fun _ => 0))), (q69, .inl (cy 0, 6, .inl (fun _ => 0))), (q77, .inl (cy 0, 6, .inl (fun _ => 0)))] H := hP
  have hD : va_D A [(h0, .inr (5, [.int (5 : Int32), .int (5 : Int32), .int (2 : Int32), .ref q22, .ref q61, .ref q69, .ref q77])), (q22, .inl (cy 0, 7, .inl (upd (upd (upd (upd (upd (upd (upd (fun _ => 0) 0 (2 : Int32)) 1 (0 : Int32)) 2 (0 : Int32)) 3 (0 : Int32)) 4 (5 : Int32)) 5 (1 : Int32)) 6 (9 : Int32)))), (q61, .inl (cy 0, 600, .inl (fun _ => 0))), (q69, .inl (cy 0, 6, .inl (fun _ => 0))), (q77, .inl (cy 0, 6, .inl (fun _ => 0)))] := hD
  exact W.vret hx hb hr (fun t ht hW => ⟨⟨fun k => match k with | 0 => h0 | 4 => q22 | 5 => q61 | 6 => q69 | 7 => q77 | _ => 0, rfl, rfl, by rw [ht]; exact hP, hD⟩, hS.F ht⟩) hS.2.2 dX5_init_82

abbrev wn_X4 (cy : Nat → ClassId) (hp : Nat) (o : Nat → Nat) : va_W := [(o 0, .inr (4, [.ref hp, .ref (o 2), .ref (o 3)])), (o 2, .inl (cy 0, 36, .inl (fun _ => 0))), (o 3, .inl (cy 1, 600, .inl (fun _ => 0)))]
set_option maxHeartbeats 4000000 in
set_option maxRecDepth 100000 in
theorem ci_X4_init (l : Launch) (D : va_G) (cy : Nat → ClassId) (h0 : Nat) (hp : Nat) (sz : Nat) : Met l yX4_init wsX4_init { frames := 1, cells := 2, slots := 636, locals := 12 } (va_Pc [.ref h0, .ref hp] (fun U => U.heap.size = sz ∧ va_P D vwCl [(h0, .inr (4, [.null, .null, .null]))] U.heap ∧ va_K D vwCl (TYS cy) U ∧ va_D (fun _ => True) [(h0, .inr (4, [.null, .null, .null]))])) (va_Qv (fun o : Nat → Nat => o 0 = h0) (fun o u => va_P D vwCl (wn_X4 cy hp o) u.heap ∧ va_D (va_A [(h0, .inr (4, [.null, .null, .null]))] sz) (wn_X4 cy hp o)) (va_A [(h0, .inr (4, [.null, .null, .null]))] sz)) 2 636 (va_A [(h0, .inr (4, [.null, .null, .null]))] sz) := by
  refine Met.ofW (cc := cX4_init) (maxL := 2) (ret := none) (by decide) rfl ?_
  intro p e s m args below meth c s₁ B hml hv
  obtain ⟨rfl, hsz, hP, hK, hD0⟩ := hv
  have hx := B.exec
  have hb := B.bytes
  have hr := B.returns
  have hts := atoms_spec (ws := wsX4_init) B.pre
  have hown : s.vm.findClass RX4 = some m.cls := findClass_of_methodNamed B.named
  have hin : meth.name = "<init>" := (name_of_methodNamed B.named B.method).1
  have k0 := hts (.methodLink RX4 3 objectInit) (List.mem_cons_of_mem _ (List.mem_append_left _ (List.mem_of_getElem? (i := 0) rfl)))
  have k1 := hts (.instanceMethod objectInit) (List.mem_cons_of_mem _ (List.mem_append_left _ (List.mem_of_getElem? (i := 1) rfl)))
  have k2 := hts (.code objectInit ⟨#[0xb1]⟩ 1 none) (List.mem_cons_of_mem _ (List.mem_append_left _ (List.mem_of_getElem? (i := 2) rfl)))
  have k3 := hts (.arrayClass .int) (List.mem_cons_of_mem _ (List.mem_append_left _ (List.mem_of_getElem? (i := 3) rfl)))
  have k4 := hts (.fieldLink RX4 9 "SeaGames$Lines" "waits" "[I") (List.mem_cons_of_mem _ (List.mem_append_left _ (List.mem_of_getElem? (i := 4) rfl)))
  have k5 := hts (.arrayClass .boolean) (List.mem_cons_of_mem _ (List.mem_append_left _ (List.mem_of_getElem? (i := 5) rfl)))
  have k6 := hts (.fieldLink RX4 15 "SeaGames$Lines" "lostRow" "[Z") (List.mem_cons_of_mem _ (List.mem_append_left _ (List.mem_of_getElem? (i := 6) rfl)))
  have k7 := hts (.fieldLink RX4 19 "SeaGames$Lines" "play" "LSeaGames$Play;") (List.mem_cons_of_mem _ (List.mem_append_left _ (List.mem_of_getElem? (i := 7) rfl)))
  have inX4 : ∀ w ∈ u_ws RX4 TX4 3, w ∈ wsX4_init := fun _ h => List.mem_cons_of_mem _ (List.mem_append_right _ h)
  subst hsz
  have hD := hD0.self (sz := s.heap.size)
  generalize hAe : va_A [(h0, .inr (4, [.null, .null, .null]))] s.heap.size = A at hD ⊢
  have hA : ∀ q : Nat, s.heap.size ≤ q → A q := fun q h => by rw [← hAe]; exact Or.inr h
  have hS : va_S A s.heap s.heap [] := va_S.rf
  generalize hHe : s.heap = H at hP
  have hS : va_S A s.heap H [] := by rw [← hHe]; exact hS
  have hl := lv_entry ([.ref h0, .ref hp]) (n := 2) (Nat.le_of_ble_eq_true rfl)
  rw [lg_entry_eq]
  generalize (lg_sl ([.ref h0, .ref hp]) ++ List.replicate (2 - (lg_sl ([.ref h0, .ref hp])).length) Slot.unset).toArray = ls at hl ⊢
  have hl : lv_has ls 2 [(0, .ref h0), (1, .ref hp)] := hl
  generalize ([] : List Loc) = locs at hS ⊢
  refine lv_aload_n hx hb dX4_init_0 rfl (lv_at hl 0 rfl) ?_
  refine W.objInit hx hb hown k0 k1 k2 rfl (by rw [hml]; exact hl.1) rfl dX4_init_1 (Nat.le_of_ble_eq_true rfl) (Nat.le_of_ble_eq_true rfl) ?_
  refine W.eq (g2 := F0 m 4 ls []) rfl ?_
  refine lv_aload_n hx hb dX4_init_4 rfl (lv_at hl 0 rfl) ?_
  refine lv_bipush (v := (36 : Int32)) hx hb dX4_init_5 (by decide) ?_
  refine my_newI (N' := 36) hx hb k3 hK hP hD hS hA (by decide) rfl (by decide) (Nat.le_of_ble_eq_true rfl) (Nat.le_of_ble_eq_true rfl) dX4_init_7 (fun q7 H hP hD hS => ?_)
  have hP : va_P D vwCl [(h0, .inr (4, [.null, .null, .null])), (q7, .inl (cy 0, 36, .inl (fun _ => 0)))] H := hP
  have hD : va_D A [(h0, .inr (4, [.null, .null, .null])), (q7, .inl (cy 0, 36, .inl (fun _ => 0)))] := hD
  refine W.widen (k := 1) (n := 36) (Nat.le_of_ble_eq_true rfl) (Nat.le_of_ble_eq_true rfl) ?_
  refine va_putF (D := D) (ci := 4) (v := .ref q7) (ty := (.array .int)) (C := RX4) (T := TX4) (N := 3) hx hb hts inX4 tyX4 tyX4_ok nmX4 hown hK hP hD hS 0 rfl rfl 1 (by decide) k4 (fun _ h9 => h9) rfl hin rfl (by decide +kernel) rfl rfl (Nat.le_of_ble_eq_true rfl) dX4_init_9 (fun H locs hP hD hS => ?_)
  have hP : va_P D vwCl [(h0, .inr (4, [.null, .ref q7, .null])), (q7, .inl (cy 0, 36, .inl (fun _ => 0)))] H := hP
  have hD : va_D A [(h0, .inr (4, [.null, .ref q7, .null])), (q7, .inl (cy 0, 36, .inl (fun _ => 0)))] := hD
  refine lv_aload_n hx hb dX4_init_12 rfl (lv_at hl 0 rfl) ?_
  refine lv_sipush (v := (600 : Int32)) hx hb dX4_init_13 (by decide) ?_
  refine my_newZ (N' := 600) hx hb k5 hK hP hD hS hA (by decide) rfl (by decide) (Nat.le_of_ble_eq_true rfl) (Nat.le_of_ble_eq_true rfl) dX4_init_16 (fun q16 H hP hD hS => ?_)
  have hP : va_P D vwCl [(h0, .inr (4, [.null, .ref q7, .null])), (q7, .inl (cy 0, 36, .inl (fun _ => 0))), (q16, .inl (cy 1, 600, .inl (fun _ => 0)))] H := hP
  have hD : va_D A [(h0, .inr (4, [.null, .ref q7, .null])), (q7, .inl (cy 0, 36, .inl (fun _ => 0))), (q16, .inl (cy 1, 600, .inl (fun _ => 0)))] := hD
  refine W.widen (k := 2) (n := 636) (Nat.le_of_ble_eq_true rfl) (Nat.le_of_ble_eq_true rfl) ?_
  refine va_putF (D := D) (ci := 4) (v := .ref q16) (ty := (.array .boolean)) (C := RX4) (T := TX4) (N := 3) hx hb hts inX4 tyX4 tyX4_ok nmX4 hown hK hP hD hS 0 rfl rfl 2 (by decide) k6 (fun _ h9 => h9) rfl hin rfl (by decide +kernel) rfl rfl (Nat.le_of_ble_eq_true rfl) dX4_init_18 (fun H locs hP hD hS => ?_)
  have hP : va_P D vwCl [(h0, .inr (4, [.null, .ref q7, .ref q16])), (q7, .inl (cy 0, 36, .inl (fun _ => 0))), (q16, .inl (cy 1, 600, .inl (fun _ => 0)))] H := hP
  have hD : va_D A [(h0, .inr (4, [.null, .ref q7, .ref q16])), (q7, .inl (cy 0, 36, .inl (fun _ => 0))), (q16, .inl (cy 1, 600, .inl (fun _ => 0)))] := hD
  refine lv_aload_n hx hb dX4_init_21 rfl (lv_at hl 0 rfl) ?_
  refine lv_aload_n hx hb dX4_init_22 rfl (lv_at hl 1 rfl) ?_
  refine va_putF (D := D) (ci := 4) (v := .ref hp) (ty := (.object "SeaGames$Play")) (C := RX4) (T := TX4) (N := 3) hx hb hts inX4 tyX4 tyX4_ok nmX4 hown hK hP hD hS 0 rfl rfl 0 (by decide) k7 (fun _ h9 => h9) rfl hin rfl (by decide +kernel) rfl rfl (Nat.le_of_ble_eq_true rfl) dX4_init_23 (fun H locs hP hD hS => ?_)
  have hP : va_P D vwCl [(h0, .inr (4, [.ref hp, .ref q7, .ref q16])), (q7, .inl (cy 0, 36, .inl (fun _ => 0))), (q16, .inl (cy 1, 600, .inl (fun _ => 0)))] H := hP
  have hD : va_D A [(h0, .inr (4, [.ref hp, .ref q7, .ref q16])), (q7, .inl (cy 0, 36, .inl (fun _ => 0))), (q16, .inl (cy 1, 600, .inl (fun _ => 0)))] := hD
  exact W.vret hx hb hr (fun t ht hW => ⟨⟨fun k => match k with | 0 => h0 | 2 => q7 | 3 => q16 | _ => 0, rfl, rfl, by rw [ht]; exact hP, hD⟩, hS.F ht⟩) hS.2.2 dX4_init_26

abbrev wn_X6 (cy : Nat → ClassId) (o : Nat → Nat) : va_W := [(o 0, .inr (6, [.ref (o 1), .int (0 : Int32)])), (o 1, .inl (cy 0, 1300, .inl (fun _ => 0)))]
set_option maxHeartbeats 4000000 in
set_option maxRecDepth 100000 in
theorem ci_X6_init (l : Launch) (D : va_G) (cy : Nat → ClassId) (h0 : Nat) (sz : Nat) : Met l yX6_init wsX6_init { frames := 1, cells := 1, slots := 1300, locals := 12 } (va_Pc [.ref h0] (fun U => U.heap.size = sz ∧ va_P D vwCl [(h0, .inr (6, [.null, .int 0]))] U.heap ∧ va_K D vwCl (TYS cy) U ∧ va_D (fun _ => True) [(h0, .inr (6, [.null, .int 0]))])) (va_Qv (fun o : Nat → Nat => o 0 = h0) (fun o u => va_P D vwCl (wn_X6 cy o) u.heap ∧ va_D (va_A [(h0, .inr (6, [.null, .int 0]))] sz) (wn_X6 cy o)) (va_A [(h0, .inr (6, [.null, .int 0]))] sz)) 1 1300 (va_A [(h0, .inr (6, [.null, .int 0]))] sz) := by
  refine Met.ofW (cc := cX6_init) (maxL := 1) (ret := none) (by decide) rfl ?_
  intro p e s m args below meth c s₁ B hml hv
  obtain ⟨rfl, hsz, hP, hK, hD0⟩ := hv
  have hx := B.exec
  have hb := B.bytes
  have hr := B.returns
  have hts := atoms_spec (ws := wsX6_init) B.pre
  have hown : s.vm.findClass RX6 = some m.cls := findClass_of_methodNamed B.named
  have hin : meth.name = "<init>" := (name_of_methodNamed B.named B.method).1
  have k0 := hts (.methodLink RX6 3 objectInit) (List.mem_cons_of_mem _ (List.mem_append_left _ (List.mem_of_getElem? (i := 0) rfl)))
  have k1 := hts (.instanceMethod objectInit) (List.mem_cons_of_mem _ (List.mem_append_left _ (List.mem_of_getElem? (i := 1) rfl)))
  have k2 := hts (.code objectInit ⟨#[0xb1]⟩ 1 none) (List.mem_cons_of_mem _ (List.mem_append_left _ (List.mem_of_getElem? (i := 2) rfl)))
  have k3 := hts (.arrayClass .int) (List.mem_cons_of_mem _ (List.mem_append_left _ (List.mem_of_getElem? (i := 3) rfl)))
  have k4 := hts (.fieldLink RX6 9 "SeaGames$Track" "rows" "[I") (List.mem_cons_of_mem _ (List.mem_append_left _ (List.mem_of_getElem? (i := 4) rfl)))
  have k5 := hts (.fieldLink RX6 15 "SeaGames$Track" "ready" "I") (List.mem_cons_of_mem _ (List.mem_append_left _ (List.mem_of_getElem? (i := 5) rfl)))
  have inX6 : ∀ w ∈ u_ws RX6 TX6 2, w ∈ wsX6_init := fun _ h => List.mem_cons_of_mem _ (List.mem_append_right _ h)
  subst hsz
  have hD := hD0.self (sz := s.heap.size)
  generalize hAe : va_A [(h0, .inr (6, [.null, .int 0]))] s.heap.size = A at hD ⊢
  have hA : ∀ q : Nat, s.heap.size ≤ q → A q := fun q h => by rw [← hAe]; exact Or.inr h
  have hS : va_S A s.heap s.heap [] := va_S.rf
  generalize hHe : s.heap = H at hP
  have hS : va_S A s.heap H [] := by rw [← hHe]; exact hS
  have hl := lv_entry ([.ref h0]) (n := 1) (Nat.le_of_ble_eq_true rfl)
  rw [lg_entry_eq]
  generalize (lg_sl ([.ref h0]) ++ List.replicate (1 - (lg_sl ([.ref h0])).length) Slot.unset).toArray = ls at hl ⊢
  have hl : lv_has ls 1 [(0, .ref h0)] := hl
  generalize ([] : List Loc) = locs at hS ⊢
  refine lv_aload_n hx hb dX6_init_0 rfl (lv_at hl 0 rfl) ?_
  refine W.objInit hx hb hown k0 k1 k2 rfl (by rw [hml]; exact hl.1) rfl dX6_init_1 (Nat.le_of_ble_eq_true rfl) (Nat.le_of_ble_eq_true rfl) ?_
  refine W.eq (g2 := F0 m 4 ls []) rfl ?_
  refine lv_aload_n hx hb dX6_init_4 rfl (lv_at hl 0 rfl) ?_
  refine lv_sipush (v := (1300 : Int32)) hx hb dX6_init_5 (by decide) ?_
  refine my_newI (N' := 1300) hx hb k3 hK hP hD hS hA (by decide) rfl (by decide) (Nat.le_of_ble_eq_true rfl) (Nat.le_of_ble_eq_true rfl) dX6_init_8 (fun q8 H hP hD hS => ?_)
  have hP : va_P D vwCl [(h0, .inr (6, [.null, .int 0])), (q8, .inl (cy 0, 1300, .inl (fun _ => 0)))] H := hP
  have hD : va_D A [(h0, .inr (6, [.null, .int 0])), (q8, .inl (cy 0, 1300, .inl (fun _ => 0)))] := hD
  refine W.widen (k := 1) (n := 1300) (Nat.le_of_ble_eq_true rfl) (Nat.le_of_ble_eq_true rfl) ?_
  refine va_putF (D := D) (ci := 6) (v := .ref q8) (ty := (.array .int)) (C := RX6) (T := TX6) (N := 2) hx hb hts inX6 tyX6 tyX6_ok nmX6 hown hK hP hD hS 0 rfl rfl 0 (by decide) k4 (fun _ h9 => h9) rfl hin rfl (by decide +kernel) rfl rfl (Nat.le_of_ble_eq_true rfl) dX6_init_10 (fun H locs hP hD hS => ?_)
  have hP : va_P D vwCl [(h0, .inr (6, [.ref q8, .int 0])), (q8, .inl (cy 0, 1300, .inl (fun _ => 0)))] H := hP
  have hD : va_D A [(h0, .inr (6, [.ref q8, .int 0])), (q8, .inl (cy 0, 1300, .inl (fun _ => 0)))] := hD
  refine lv_aload_n hx hb dX6_init_13 rfl (lv_at hl 0 rfl) ?_
  refine lv_iconst (v := (0 : Int32)) hx hb dX6_init_14 (by decide) ?_
  refine va_put (D := D) (ci := 6) (v := .int (0 : Int32)) (ty := .int) (C := RX6) (T := TX6) (N := 2) hx hb hts inX6 tyX6 tyX6_ok nmX6 hown hK hP hD hS 0 rfl rfl 1 (by decide) k5 (fun _ h9 => h9) rfl (by decide +kernel) rfl rfl (Nat.le_of_ble_eq_true rfl) dX6_init_15 (fun H locs hP hD hS => ?_)
  have hP : va_P D vwCl [(h0, .inr (6, [.ref q8, .int (0 : Int32)])), (q8, .inl (cy 0, 1300, .inl (fun _ => 0)))] H := hP
  have hD : va_D A [(h0, .inr (6, [.ref q8, .int (0 : Int32)])), (q8, .inl (cy 0, 1300, .inl (fun _ => 0)))] := hD
  exact W.vret hx hb hr (fun t ht hW => ⟨⟨fun k => match k with | 0 => h0 | 1 => q8 | _ => 0, rfl, rfl, by rw [ht]; exact hP, hD⟩, hS.F ht⟩) hS.2.2 dX6_init_18

abbrev wn_X0 (cy : Nat → ClassId) (o : Nat → Nat) : va_W := [(o 0, .inr (0, [.ref (o 1)])), (o 1, .inl (cy 0, 13, .inl (fun _ => 0)))]
set_option maxHeartbeats 4000000 in
set_option maxRecDepth 100000 in
theorem ci_X0_init (l : Launch) (D : va_G) (cy : Nat → ClassId) (h0 : Nat) (sz : Nat) : Met l yX0_init wsX0_init { frames := 1, cells := 1, slots := 13, locals := 12 } (va_Pc [.ref h0] (fun U => U.heap.size = sz ∧ va_P D vwCl [(h0, .inr (0, [.null]))] U.heap ∧ va_K D vwCl (TYS cy) U ∧ va_D (fun _ => True) [(h0, .inr (0, [.null]))])) (va_Qv (fun o : Nat → Nat => o 0 = h0) (fun o u => va_P D vwCl (wn_X0 cy o) u.heap ∧ va_D (va_A [(h0, .inr (0, [.null]))] sz) (wn_X0 cy o)) (va_A [(h0, .inr (0, [.null]))] sz)) 1 13 (va_A [(h0, .inr (0, [.null]))] sz) := by
  refine Met.ofW (cc := cX0_init) (maxL := 1) (ret := none) (by decide) rfl ?_
  intro p e s m args below meth c s₁ B hml hv
  obtain ⟨rfl, hsz, hP, hK, hD0⟩ := hv
  have hx := B.exec
  have hb := B.bytes
  have hr := B.returns
  have hts := atoms_spec (ws := wsX0_init) B.pre
  have hown : s.vm.findClass RX0 = some m.cls := findClass_of_methodNamed B.named
  have hin : meth.name = "<init>" := (name_of_methodNamed B.named B.method).1
  have k0 := hts (.methodLink RX0 3 objectInit) (List.mem_cons_of_mem _ (List.mem_append_left _ (List.mem_of_getElem? (i := 0) rfl)))
  have k1 := hts (.instanceMethod objectInit) (List.mem_cons_of_mem _ (List.mem_append_left _ (List.mem_of_getElem? (i := 1) rfl)))
  have k2 := hts (.code objectInit ⟨#[0xb1]⟩ 1 none) (List.mem_cons_of_mem _ (List.mem_append_left _ (List.mem_of_getElem? (i := 2) rfl)))
  have k3 := hts (.arrayClass .int) (List.mem_cons_of_mem _ (List.mem_append_left _ (List.mem_of_getElem? (i := 3) rfl)))
  have k4 := hts (.fieldLink RX0 9 "SeaGames$Board" "now" "[I") (List.mem_cons_of_mem _ (List.mem_append_left _ (List.mem_of_getElem? (i := 4) rfl)))
  have inX0 : ∀ w ∈ u_ws RX0 TX0 1, w ∈ wsX0_init := fun _ h => List.mem_cons_of_mem _ (List.mem_append_right _ h)
  subst hsz
  have hD := hD0.self (sz := s.heap.size)
  generalize hAe : va_A [(h0, .inr (0, [.null]))] s.heap.size = A at hD ⊢
  have hA : ∀ q : Nat, s.heap.size ≤ q → A q := fun q h => by rw [← hAe]; exact Or.inr h
  have hS : va_S A s.heap s.heap [] := va_S.rf
  generalize hHe : s.heap = H at hP
  have hS : va_S A s.heap H [] := by rw [← hHe]; exact hS
  have hl := lv_entry ([.ref h0]) (n := 1) (Nat.le_of_ble_eq_true rfl)
  rw [lg_entry_eq]
  generalize (lg_sl ([.ref h0]) ++ List.replicate (1 - (lg_sl ([.ref h0])).length) Slot.unset).toArray = ls at hl ⊢
  have hl : lv_has ls 1 [(0, .ref h0)] := hl
  generalize ([] : List Loc) = locs at hS ⊢
  refine lv_aload_n hx hb dX0_init_0 rfl (lv_at hl 0 rfl) ?_
  refine W.objInit hx hb hown k0 k1 k2 rfl (by rw [hml]; exact hl.1) rfl dX0_init_1 (Nat.le_of_ble_eq_true rfl) (Nat.le_of_ble_eq_true rfl) ?_
  refine W.eq (g2 := F0 m 4 ls []) rfl ?_
  refine lv_aload_n hx hb dX0_init_4 rfl (lv_at hl 0 rfl) ?_
  refine lv_bipush (v := (13 : Int32)) hx hb dX0_init_5 (by decide) ?_
  refine my_newI (N' := 13) hx hb k3 hK hP hD hS hA (by decide) rfl (by decide) (Nat.le_of_ble_eq_true rfl) (Nat.le_of_ble_eq_true rfl) dX0_init_7 (fun q7 H hP hD hS => ?_)
  have hP : va_P D vwCl [(h0, .inr (0, [.null])), (q7, .inl (cy 0, 13, .inl (fun _ => 0)))] H := hP
  have hD : va_D A [(h0, .inr (0, [.null])), (q7, .inl (cy 0, 13, .inl (fun _ => 0)))] := hD
  refine W.widen (k := 1) (n := 13) (Nat.le_of_ble_eq_true rfl) (Nat.le_of_ble_eq_true rfl) ?_
  refine va_putF (D := D) (ci := 0) (v := .ref q7) (ty := (.array .int)) (C := RX0) (T := TX0) (N := 1) hx hb hts inX0 tyX0 tyX0_ok nmX0 hown hK hP hD hS 0 rfl rfl 0 (by decide) k4 (fun _ h9 => h9) rfl hin rfl (by decide +kernel) rfl rfl (Nat.le_of_ble_eq_true rfl) dX0_init_9 (fun H locs hP hD hS => ?_)
  have hP : va_P D vwCl [(h0, .inr (0, [.ref q7])), (q7, .inl (cy 0, 13, .inl (fun _ => 0)))] H := hP
  have hD : va_D A [(h0, .inr (0, [.ref q7])), (q7, .inl (cy 0, 13, .inl (fun _ => 0)))] := hD
  exact W.vret hx hb hr (fun t ht hW => ⟨⟨fun k => match k with | 0 => h0 | 1 => q7 | _ => 0, rfl, rfl, by rw [ht]; exact hP, hD⟩, hS.F ht⟩) hS.2.2 dX0_init_12

abbrev wn_X3 (cy : Nat → ClassId) (o : Nat → Nat) : va_W := [(o 0, .inr (3, [.ref (o 1)])), (o 1, .inl (cy 0, 9, .inl (fun _ => 0)))]
set_option maxHeartbeats 4000000 in
set_option maxRecDepth 100000 in
theorem ci_X3_init (l : Launch) (D : va_G) (cy : Nat → ClassId) (h0 : Nat) (sz : Nat) : Met l yX3_init wsX3_init { frames := 1, cells := 1, slots := 9, locals := 12 } (va_Pc [.ref h0] (fun U => U.heap.size = sz ∧ va_P D vwCl [(h0, .inr (3, [.null]))] U.heap ∧ va_K D vwCl (TYS cy) U ∧ va_D (fun _ => True) [(h0, .inr (3, [.null]))])) (va_Qv (fun o : Nat → Nat => o 0 = h0) (fun o u => va_P D vwCl (wn_X3 cy o) u.heap ∧ va_D (va_A [(h0, .inr (3, [.null]))] sz) (wn_X3 cy o)) (va_A [(h0, .inr (3, [.null]))] sz)) 1 9 (va_A [(h0, .inr (3, [.null]))] sz) := by
  refine Met.ofW (cc := cX3_init) (maxL := 1) (ret := none) (by decide) rfl ?_
  intro p e s m args below meth c s₁ B hml hv
  obtain ⟨rfl, hsz, hP, hK, hD0⟩ := hv
  have hx := B.exec
  have hb := B.bytes
  have hr := B.returns
  have hts := atoms_spec (ws := wsX3_init) B.pre
  have hown : s.vm.findClass RX3 = some m.cls := findClass_of_methodNamed B.named
  have hin : meth.name = "<init>" := (name_of_methodNamed B.named B.method).1
  have k0 := hts (.methodLink RX3 3 objectInit) (List.mem_cons_of_mem _ (List.mem_append_left _ (List.mem_of_getElem? (i := 0) rfl)))
  have k1 := hts (.instanceMethod objectInit) (List.mem_cons_of_mem _ (List.mem_append_left _ (List.mem_of_getElem? (i := 1) rfl)))
  have k2 := hts (.code objectInit ⟨#[0xb1]⟩ 1 none) (List.mem_cons_of_mem _ (List.mem_append_left _ (List.mem_of_getElem? (i := 2) rfl)))
  have k3 := hts (.arrayClass .int) (List.mem_cons_of_mem _ (List.mem_append_left _ (List.mem_of_getElem? (i := 3) rfl)))
  have k4 := hts (.fieldLink RX3 9 "SeaGames$Fog" "masks" "[I") (List.mem_cons_of_mem _ (List.mem_append_left _ (List.mem_of_getElem? (i := 4) rfl)))
  have inX3 : ∀ w ∈ u_ws RX3 TX3 1, w ∈ wsX3_init := fun _ h => List.mem_cons_of_mem _ (List.mem_append_right _ h)
  subst hsz
  have hD := hD0.self (sz := s.heap.size)
  generalize hAe : va_A [(h0, .inr (3, [.null]))] s.heap.size = A at hD ⊢
  have hA : ∀ q : Nat, s.heap.size ≤ q → A q := fun q h => by rw [← hAe]; exact Or.inr h
  have hS : va_S A s.heap s.heap [] := va_S.rf
  generalize hHe : s.heap = H at hP
  have hS : va_S A s.heap H [] := by rw [← hHe]; exact hS
  have hl := lv_entry ([.ref h0]) (n := 1) (Nat.le_of_ble_eq_true rfl)
  rw [lg_entry_eq]
  generalize (lg_sl ([.ref h0]) ++ List.replicate (1 - (lg_sl ([.ref h0])).length) Slot.unset).toArray = ls at hl ⊢
  have hl : lv_has ls 1 [(0, .ref h0)] := hl
  generalize ([] : List Loc) = locs at hS ⊢
  refine lv_aload_n hx hb dX3_init_0 rfl (lv_at hl 0 rfl) ?_
  refine W.objInit hx hb hown k0 k1 k2 rfl (by rw [hml]; exact hl.1) rfl dX3_init_1 (Nat.le_of_ble_eq_true rfl) (Nat.le_of_ble_eq_true rfl) ?_
  refine W.eq (g2 := F0 m 4 ls []) rfl ?_
  refine lv_aload_n hx hb dX3_init_4 rfl (lv_at hl 0 rfl) ?_
  refine lv_bipush (v := (9 : Int32)) hx hb dX3_init_5 (by decide) ?_
  refine my_newI (N' := 9) hx hb k3 hK hP hD hS hA (by decide) rfl (by decide) (Nat.le_of_ble_eq_true rfl) (Nat.le_of_ble_eq_true rfl) dX3_init_7 (fun q7 H hP hD hS => ?_)
  have hP : va_P D vwCl [(h0, .inr (3, [.null])), (q7, .inl (cy 0, 9, .inl (fun _ => 0)))] H := hP
  have hD : va_D A [(h0, .inr (3, [.null])), (q7, .inl (cy 0, 9, .inl (fun _ => 0)))] := hD
  refine W.widen (k := 1) (n := 9) (Nat.le_of_ble_eq_true rfl) (Nat.le_of_ble_eq_true rfl) ?_
  refine va_putF (D := D) (ci := 3) (v := .ref q7) (ty := (.array .int)) (C := RX3) (T := TX3) (N := 1) hx hb hts inX3 tyX3 tyX3_ok nmX3 hown hK hP hD hS 0 rfl rfl 0 (by decide) k4 (fun _ h9 => h9) rfl hin rfl (by decide +kernel) rfl rfl (Nat.le_of_ble_eq_true rfl) dX3_init_9 (fun H locs hP hD hS => ?_)
  have hP : va_P D vwCl [(h0, .inr (3, [.ref q7])), (q7, .inl (cy 0, 9, .inl (fun _ => 0)))] H := hP
  have hD : va_D A [(h0, .inr (3, [.ref q7])), (q7, .inl (cy 0, 9, .inl (fun _ => 0)))] := hD
  exact W.vret hx hb hr (fun t ht hW => ⟨⟨fun k => match k with | 0 => h0 | 1 => q7 | _ => 0, rfl, rfl, by rw [ht]; exact hP, hD⟩, hS.F ht⟩) hS.2.2 dX3_init_12

abbrev wn_X1 (cy : Nat → ClassId) (o : Nat → Nat) : va_W := [(o 0, .inr (1, [.int (0 : Int32), .ref (o 2), .ref (o 3), .ref (o 4), .ref (o 5), .ref (o 6), .int (0 : Int32)])), (o 2, .inl (cy 0, 10, .inl (fun _ => 0))), (o 3, .inl (cy 0, 10, .inl (fun _ => 0))), (o 4, .inl (cy 0, 10, .inl (fun _ => 0))), (o 5, .inl (cy 0, 16, .inl (fun _ => 0))), (o 6, .inl (cy 0, 1024, .inl (fun _ => 0)))]
set_option maxHeartbeats 4000000 in
set_option maxRecDepth 100000 in
theorem ci_X1_init (l : Launch) (D : va_G) (cy : Nat → ClassId) (h0 : Nat) (sz : Nat) : Met l yX1_init wsX1_init { frames := 1, cells := 5, slots := 1070, locals := 12 } (va_Pc [.ref h0] (fun U => U.heap.size = sz ∧ va_P D vwCl [(h0, .inr (1, [.int 0, .null, .null, .null, .null, .null, .int 0]))] U.heap ∧ va_K D vwCl (TYS cy) U ∧ va_D (fun _ => True) [(h0, .inr (1, [.int 0, .null, .null, .null, .null, .null, .int 0]))])) (va_Qv (fun o : Nat → Nat => o 0 = h0) (fun o u => va_P D vwCl (wn_X1 cy o) u.heap ∧ va_D (va_A [(h0, .inr (1, [.int 0, .null, .null, .null, .null, .null, .int 0]))] sz) (wn_X1 cy o)) (va_A [(h0, .inr (1, [.int 0, .null, .null, .null, .null, .null, .int 0]))] sz)) 5 1070 (va_A [(h0, .inr (1, [.int 0, .null, .null, .null, .null, .null, .int 0]))] sz) := by
  refine Met.ofW (cc := cX1_init) (maxL := 1) (ret := none) (by decide) rfl ?_
  intro p e s m args below meth c s₁ B hml hv
  obtain ⟨rfl, hsz, hP, hK, hD0⟩ := hv
  have hx := B.exec
  have hb := B.bytes
  have hr := B.returns
  have hts := atoms_spec (ws := wsX1_init) B.pre
  have hown : s.vm.findClass RX1 = some m.cls := findClass_of_methodNamed B.named
  have hin : meth.name = "<init>" := (name_of_methodNamed B.named B.method).1
  have k0 := hts (.methodLink RX1 3 objectInit) (List.mem_cons_of_mem _ (List.mem_append_left _ (List.mem_of_getElem? (i := 0) rfl)))
  have k1 := hts (.instanceMethod objectInit) (List.mem_cons_of_mem _ (List.mem_append_left _ (List.mem_of_getElem? (i := 1) rfl)))
  have k2 := hts (.code objectInit ⟨#[0xb1]⟩ 1 none) (List.mem_cons_of_mem _ (List.mem_append_left _ (List.mem_of_getElem? (i := 2) rfl)))
  have k3 := hts (.fieldLink RX1 9 "SeaGames$Crowd" "size" "I") (List.mem_cons_of_mem _ (List.mem_append_left _ (List.mem_of_getElem? (i := 3) rfl)))
  have k4 := hts (.arrayClass .int) (List.mem_cons_of_mem _ (List.mem_append_left _ (List.mem_of_getElem? (i := 4) rfl)))
  have k5 := hts (.fieldLink RX1 15 "SeaGames$Crowd" "mates" "[I") (List.mem_cons_of_mem _ (List.mem_append_left _ (List.mem_of_getElem? (i := 5) rfl)))
  have k6 := hts (.fieldLink RX1 19 "SeaGames$Crowd" "skills" "[I") (List.mem_cons_of_mem _ (List.mem_append_left _ (List.mem_of_getElem? (i := 6) rfl)))
  have k7 := hts (.fieldLink RX1 22 "SeaGames$Crowd" "shores" "[I") (List.mem_cons_of_mem _ (List.mem_append_left _ (List.mem_of_getElem? (i := 7) rfl)))
  have k8 := hts (.fieldLink RX1 25 "SeaGames$Crowd" "fars" "[I") (List.mem_cons_of_mem _ (List.mem_append_left _ (List.mem_of_getElem? (i := 8) rfl)))
  have k9 := hts (.fieldLink RX1 28 "SeaGames$Crowd" "least" "[I") (List.mem_cons_of_mem _ (List.mem_append_left _ (List.mem_of_getElem? (i := 9) rfl)))
  have k10 := hts (.fieldLink RX1 31 "SeaGames$Crowd" "paired" "Z") (List.mem_cons_of_mem _ (List.mem_append_left _ (List.mem_of_getElem? (i := 10) rfl)))
  have inX1 : ∀ w ∈ u_ws RX1 TX1 7, w ∈ wsX1_init := fun _ h => List.mem_cons_of_mem _ (List.mem_append_right _ h)
  subst hsz
  have hD := hD0.self (sz := s.heap.size)
  generalize hAe : va_A [(h0, .inr (1, [.int 0, .null, .null, .null, .null, .null, .int 0]))] s.heap.size = A at hD ⊢
  have hA : ∀ q : Nat, s.heap.size ≤ q → A q := fun q h => by rw [← hAe]; exact Or.inr h
  have hS : va_S A s.heap s.heap [] := va_S.rf
  generalize hHe : s.heap = H at hP
  have hS : va_S A s.heap H [] := by rw [← hHe]; exact hS
  have hl := lv_entry ([.ref h0]) (n := 1) (Nat.le_of_ble_eq_true rfl)
  rw [lg_entry_eq]
  generalize (lg_sl ([.ref h0]) ++ List.replicate (1 - (lg_sl ([.ref h0])).length) Slot.unset).toArray = ls at hl ⊢
  have hl : lv_has ls 1 [(0, .ref h0)] := hl
  generalize ([] : List Loc) = locs at hS ⊢
  refine lv_aload_n hx hb dX1_init_0 rfl (lv_at hl 0 rfl) ?_
  refine W.objInit hx hb hown k0 k1 k2 rfl (by rw [hml]; exact hl.1) rfl dX1_init_1 (Nat.le_of_ble_eq_true rfl) (Nat.le_of_ble_eq_true rfl) ?_
  refine W.eq (g2 := F0 m 4 ls []) rfl ?_
  refine lv_aload_n hx hb dX1_init_4 rfl (lv_at hl 0 rfl) ?_
  refine lv_iconst (v := (0 : Int32)) hx hb dX1_init_5 (by decide) ?_
  refine va_put (D := D) (ci := 1) (v := .int (0 : Int32)) (ty := .int) (C := RX1) (T := TX1) (N := 7) hx hb hts inX1 tyX1 tyX1_ok nmX1 hown hK hP hD hS 0 rfl rfl 0 (by decide) k3 (fun _ h9 => h9) rfl (by decide +kernel) rfl rfl (Nat.le_of_ble_eq_true rfl) dX1_init_6 (fun H locs hP hD hS => ?_)
  have hP : va_P D vwCl [(h0, .inr (1, [.int (0 : Int32), .null, .null, .null, .null, .null, .int 0]))] H := hP
  have hD : va_D A [(h0, .inr (1, [.int (0 : Int32), .null, .null, .null, .null, .null, .int 0]))] := hD
  refine lv_aload_n hx hb dX1_init_9 rfl (lv_at hl 0 rfl) ?_
  refine lv_bipush (v := (10 : Int32)) hx hb dX1_init_10 (by decide) ?_
  refine my_newI (N' := 10) hx hb k4 hK hP hD hS hA (by decide) rfl (by decide) (Nat.le_of_ble_eq_true rfl) (Nat.le_of_ble_eq_true rfl) dX1_init_12 (fun q12 H hP hD hS => ?_)
  have hP : va_P D vwCl [(h0, .inr (1, [.int (0 : Int32), .null, .null, .null, .null, .null, .int 0])), (q12, .inl (cy 0, 10, .inl (fun _ => 0)))] H := hP
  have hD : va_D A [(h0, .inr (1, [.int (0 : Int32), .null, .null, .null, .null, .null, .int 0])), (q12, .inl (cy 0, 10, .inl (fun _ => 0)))] := hD
  refine W.widen (k := 1) (n := 10) (Nat.le_of_ble_eq_true rfl) (Nat.le_of_ble_eq_true rfl) ?_
  refine va_putF (D := D) (ci := 1) (v := .ref q12) (ty := (.array .int)) (C := RX1) (T := TX1) (N := 7) hx hb hts inX1 tyX1 tyX1_ok nmX1 hown hK hP hD hS 0 rfl rfl 1 (by decide) k5 (fun _ h9 => h9) rfl hin rfl (by decide +kernel) rfl rfl (Nat.le_of_ble_eq_true rfl) dX1_init_14 (fun H locs hP hD hS => ?_)
  have hP : va_P D vwCl [(h0, .inr (1, [.int (0 : Int32), .ref q12, .null, .null, .null, .null, .int 0])), (q12, .inl (cy 0, 10, .inl (fun _ => 0)))] H := hP
  have hD : va_D A [(h0, .inr (1, [.int (0 : Int32), .ref q12, .null, .null, .null, .null, .int 0])), (q12, .inl (cy 0, 10, .inl (fun _ => 0)))] := hD
  refine lv_aload_n hx hb dX1_init_17 rfl (lv_at hl 0 rfl) ?_
  refine lv_bipush (v := (10 : Int32)) hx hb dX1_init_18 (by decide) ?_
  refine my_newI (N' := 10) hx hb k4 hK hP hD hS hA (by decide) rfl (by decide) (Nat.le_of_ble_eq_true rfl) (Nat.le_of_ble_eq_true rfl) dX1_init_20 (fun q20 H hP hD hS => ?_)
  have hP : va_P D vwCl [(h0, .inr (1, [.int (0 : Int32), .ref q12, .null, .null, .null, .null, .int 0])), (q12, .inl (cy 0, 10, .inl (fun _ => 0))), (q20, .inl (cy 0, 10, .inl (fun _ => 0)))] H := hP
  have hD : va_D A [(h0, .inr (1, [.int (0 : Int32), .ref q12, .null, .null, .null, .null, .int 0])), (q12, .inl (cy 0, 10, .inl (fun _ => 0))), (q20, .inl (cy 0, 10, .inl (fun _ => 0)))] := hD
  refine W.widen (k := 2) (n := 20) (Nat.le_of_ble_eq_true rfl) (Nat.le_of_ble_eq_true rfl) ?_
  refine va_putF (D := D) (ci := 1) (v := .ref q20) (ty := (.array .int)) (C := RX1) (T := TX1) (N := 7) hx hb hts inX1 tyX1 tyX1_ok nmX1 hown hK hP hD hS 0 rfl rfl 2 (by decide) k6 (fun _ h9 => h9) rfl hin rfl (by decide +kernel) rfl rfl (Nat.le_of_ble_eq_true rfl) dX1_init_22 (fun H locs hP hD hS => ?_)
  have hP : va_P D vwCl [(h0, .inr (1, [.int (0 : Int32), .ref q12, .ref q20, .null, .null, .null, .int 0])), (q12, .inl (cy 0, 10, .inl (fun _ => 0))), (q20, .inl (cy 0, 10, .inl (fun _ => 0)))] H := hP
  have hD : va_D A [(h0, .inr (1, [.int (0 : Int32), .ref q12, .ref q20, .null, .null, .null, .int 0])), (q12, .inl (cy 0, 10, .inl (fun _ => 0))), (q20, .inl (cy 0, 10, .inl (fun _ => 0)))] := hD
  refine lv_aload_n hx hb dX1_init_25 rfl (lv_at hl 0 rfl) ?_
  refine lv_bipush (v := (10 : Int32)) hx hb dX1_init_26 (by decide) ?_
  refine my_newI (N' := 10) hx hb k4 hK hP hD hS hA (by decide) rfl (by decide) (Nat.le_of_ble_eq_true rfl) (Nat.le_of_ble_eq_true rfl) dX1_init_28 (fun q28 H hP hD hS => ?_)
  have hP : va_P D vwCl [(h0, .inr (1, [.int (0 : Int32), .ref q12, .ref q20, .null, .null, .null, .int 0])), (q12, .inl (cy 0, 10, .inl (fun _ => 0))), (q20, .inl (cy 0, 10, .inl (fun _ => 0))), (q28, .inl (cy 0, 10, .inl (fun _ => 0)))] H := hP
  have hD : va_D A [(h0, .inr (1, [.int (0 : Int32), .ref q12, .ref q20, .null, .null, .null, .int 0])), (q12, .inl (cy 0, 10, .inl (fun _ => 0))), (q20, .inl (cy 0, 10, .inl (fun _ => 0))), (q28, .inl (cy 0, 10, .inl (fun _ => 0)))] := hD
  refine W.widen (k := 3) (n := 30) (Nat.le_of_ble_eq_true rfl) (Nat.le_of_ble_eq_true rfl) ?_
  refine va_putF (D := D) (ci := 1) (v := .ref q28) (ty := (.array .int)) (C := RX1) (T := TX1) (N := 7) hx hb hts inX1 tyX1 tyX1_ok nmX1 hown hK hP hD hS 0 rfl rfl 3 (by decide) k7 (fun _ h9 => h9) rfl hin rfl (by decide +kernel) rfl rfl (Nat.le_of_ble_eq_true rfl) dX1_init_30 (fun H locs hP hD hS => ?_)
  have hP : va_P D vwCl [(h0, .inr (1, [.int (0 : Int32), .ref q12, .ref q20, .ref q28, .null, .null, .int 0])), (q12, .inl (cy 0, 10, .inl (fun _ => 0))), (q20, .inl (cy 0, 10, .inl (fun _ => 0))), (q28, .inl (cy 0, 10, .inl (fun _ => 0)))] H := hP
  have hD : va_D A [(h0, .inr (1, [.int (0 : Int32), .ref q12, .ref q20, .ref q28, .null, .null, .int 0])), (q12, .inl (cy 0, 10, .inl (fun _ => 0))), (q20, .inl (cy 0, 10, .inl (fun _ => 0))), (q28, .inl (cy 0, 10, .inl (fun _ => 0)))] := hD
  refine lv_aload_n hx hb dX1_init_33 rfl (lv_at hl 0 rfl) ?_
  refine lv_bipush (v := (16 : Int32)) hx hb dX1_init_34 (by decide) ?_
  refine my_newI (N' := 16) hx hb k4 hK hP hD hS hA (by decide) rfl (by decide) (Nat.le_of_ble_eq_true rfl) (Nat.le_of_ble_eq_true rfl) dX1_init_36 (fun q36 H hP hD hS => ?_)
  have hP : va_P D vwCl [(h0, .inr (1, [.int (0 : Int32), .ref q12, .ref q20, .ref q28, .null, .null, .int 0])), (q12, .inl (cy 0, 10, .inl (fun _ => 0))), (q20, .inl (cy 0, 10, .inl (fun _ => 0))), (q28, .inl (cy 0, 10, .inl (fun _ => 0))), (q36, .inl (cy 0, 16, .inl (fun _ => 0)))] H := hP
  have hD : va_D A [(h0, .inr (1, [.int (0 : Int32), .ref q12, .ref q20, .ref q28, .null, .null, .int 0])), (q12, .inl (cy 0, 10, .inl (fun _ => 0))), (q20, .inl (cy 0, 10, .inl (fun _ => 0))), (q28, .inl (cy 0, 10, .inl (fun _ => 0))), (q36, .inl (cy 0, 16, .inl (fun _ => 0)))] := hD
  refine W.widen (k := 4) (n := 46) (Nat.le_of_ble_eq_true rfl) (Nat.le_of_ble_eq_true rfl) ?_
  refine va_putF (D := D) (ci := 1) (v := .ref q36) (ty := (.array .int)) (C := RX1) (T := TX1) (N := 7) hx hb hts inX1 tyX1 tyX1_ok nmX1 hown hK hP hD hS 0 rfl rfl 4 (by decide) k8 (fun _ h9 => h9) rfl hin rfl (by decide +kernel) rfl rfl (Nat.le_of_ble_eq_true rfl) dX1_init_38 (fun H locs hP hD hS => ?_)
  have hP : va_P D vwCl [(h0, .inr (1, [.int (0 : Int32), .ref q12, .ref q20, .ref q28, .ref q36, .null, .int 0])), (q12, .inl (cy 0, 10, .inl (fun _ => 0))), (q20, .inl (cy 0, 10, .inl (fun _ => 0))), (q28, .inl (cy 0, 10, .inl (fun _ => 0))), (q36, .inl (cy 0, 16, .inl (fun _ => 0)))] H := hP
  have hD : va_D A [(h0, .inr (1, [.int (0 : Int32), .ref q12, .ref q20, .ref q28, .ref q36, .null, .int 0])), (q12, .inl (cy 0, 10, .inl (fun _ => 0))), (q20, .inl (cy 0, 10, .inl (fun _ => 0))), (q28, .inl (cy 0, 10, .inl (fun _ => 0))), (q36, .inl (cy 0, 16, .inl (fun _ => 0)))] := hD
  refine lv_aload_n hx hb dX1_init_41 rfl (lv_at hl 0 rfl) ?_
  refine lv_sipush (v := (1024 : Int32)) hx hb dX1_init_42 (by decide) ?_
  refine my_newI (N' := 1024) hx hb k4 hK hP hD hS hA (by decide) rfl (by decide) (Nat.le_of_ble_eq_true rfl) (Nat.le_of_ble_eq_true rfl) dX1_init_45 (fun q45 H hP hD hS => ?_)
  have hP : va_P D vwCl [(h0, .inr (1, [.int (0 : Int32), .ref q12, .ref q20, .ref q28, .ref q36, .null, .int 0])), (q12, .inl (cy 0, 10, .inl (fun _ => 0))), (q20, .inl (cy 0, 10, .inl (fun _ => 0))), (q28, .inl (cy 0, 10, .inl (fun _ => 0))), (q36, .inl (cy 0, 16, .inl (fun _ => 0))), (q45, .inl (cy 0, 1024, .inl (fun _ => 0)))] H := hP
  have hD : va_D A [(h0, .inr (1, [.int (0 : Int32), .ref q12, .ref q20, .ref q28, .ref q36, .null, .int 0])), (q12, .inl (cy 0, 10, .inl (fun _ => 0))), (q20, .inl (cy 0, 10, .inl (fun _ => 0))), (q28, .inl (cy 0, 10, .inl (fun _ => 0))), (q36, .inl (cy 0, 16, .inl (fun _ => 0))), (q45, .inl (cy 0, 1024, .inl (fun _ => 0)))] := hD
  refine W.widen (k := 5) (n := 1070) (Nat.le_of_ble_eq_true rfl) (Nat.le_of_ble_eq_true rfl) ?_
  refine va_putF (D := D) (ci := 1) (v := .ref q45) (ty := (.array .int)) (C := RX1) (T := TX1) (N := 7) hx hb hts inX1 tyX1 tyX1_ok nmX1 hown hK hP hD hS 0 rfl rfl 5 (by decide) k9 (fun _ h9 => h9) rfl hin rfl (by decide +kernel) rfl rfl (Nat.le_of_ble_eq_true rfl) dX1_init_47 (fun H locs hP hD hS => ?_)
  have hP : va_P D vwCl [(h0, .inr (1, [.int (0 : Int32), .ref q12, .ref q20, .ref q28, .ref q36, .ref q45, .int 0])), (q12, .inl (cy 0, 10, .inl (fun _ => 0))), (q20, .inl (cy 0, 10, .inl (fun _ => 0))), (q28, .inl (cy 0, 10, .inl (fun _ => 0))), (q36, .inl (cy 0, 16, .inl (fun _ => 0))), (q45, .inl (cy 0, 1024, .inl (fun _ => 0)))] H := hP
  have hD : va_D A [(h0, .inr (1, [.int (0 : Int32), .ref q12, .ref q20, .ref q28, .ref q36, .ref q45, .int 0])), (q12, .inl (cy 0, 10, .inl (fun _ => 0))), (q20, .inl (cy 0, 10, .inl (fun _ => 0))), (q28, .inl (cy 0, 10, .inl (fun _ => 0))), (q36, .inl (cy 0, 16, .inl (fun _ => 0))), (q45, .inl (cy 0, 1024, .inl (fun _ => 0)))] := hD
  refine lv_aload_n hx hb dX1_init_50 rfl (lv_at hl 0 rfl) ?_
  refine lv_iconst (v := (0 : Int32)) hx hb dX1_init_51 (by decide) ?_
  refine va_put (D := D) (ci := 1) (v := .int (0 : Int32)) (ty := .boolean) (C := RX1) (T := TX1) (N := 7) hx hb hts inX1 tyX1 tyX1_ok nmX1 hown hK hP hD hS 0 rfl rfl 6 (by decide) k10 (fun _ h9 => h9) rfl (by decide +kernel) rfl rfl (Nat.le_of_ble_eq_true rfl) dX1_init_52 (fun H locs hP hD hS => ?_)
  have hP : va_P D vwCl [(h0, .inr (1, [.int (0 : Int32), .ref q12, .ref q20, .ref q28, .ref q36, .ref q45, .int (0 : Int32)])), (q12, .inl (cy 0, 10, .inl (fun _ => 0))), (q20, .inl (cy 0, 10, .inl (fun _ => 0))), (q28, .inl (cy 0, 10, .inl (fun _ => 0))), (q36, .inl (cy 0, 16, .inl (fun _ => 0))), (q45, .inl (cy 0, 1024, .inl (fun _ => 0)))] H := hP
  have hD : va_D A [(h0, .inr (1, [.int (0 : Int32), .ref q12, .ref q20, .ref q28, .ref q36, .ref q45, .int (0 : Int32)])), (q12, .inl (cy 0, 10, .inl (fun _ => 0))), (q20, .inl (cy 0, 10, .inl (fun _ => 0))), (q28, .inl (cy 0, 10, .inl (fun _ => 0))), (q36, .inl (cy 0, 16, .inl (fun _ => 0))), (q45, .inl (cy 0, 1024, .inl (fun _ => 0)))] := hD
  exact W.vret hx hb hr (fun t ht hW => ⟨⟨fun k => match k with | 0 => h0 | 2 => q12 | 3 => q20 | 4 => q28 | 5 => q36 | 6 => q45 | _ => 0, rfl, rfl, by rw [ht]; exact hP, hD⟩, hS.F ht⟩) hS.2.2 dX1_init_55

abbrev wn_X2 (cy : Nat → ClassId) (o : Nat → Nat) : va_W := [(o 0, .inr (2, [.long (0 : Int64), .long (1 : Int64), .ref (o 3), .ref (o 4)])), (o 3, .inl (cy 2, 61, .inr (.inl (fun _ => 0)))), (o 4, .inl (cy 2, 61, .inr (.inl (fun _ => 0))))]
set_option maxHeartbeats 4000000 in
set_option maxRecDepth 100000 in
theorem ci_X2_init (l : Launch) (D : va_G) (cy : Nat → ClassId) (h0 : Nat) (sz : Nat) : Met l yX2_init wsX2_init { frames := 1, cells := 2, slots := 122, locals := 12 } (va_Pc [.ref h0] (fun U => U.heap.size = sz ∧ va_P D vwCl [(h0, .inr (2, [.long 0, .long 0, .null, .null]))] U.heap ∧ va_K D vwCl (TYS cy) U ∧ va_D (fun _ => True) [(h0, .inr (2, [.long 0, .long 0, .null, .null]))])) (va_Qv (fun o : Nat → Nat => o 0 = h0) (fun o u => va_P D vwCl (wn_X2 cy o) u.heap ∧ va_D (va_A [(h0, .inr (2, [.long 0, .long 0, .null, .null]))] sz) (wn_X2 cy o)) (va_A [(h0, .inr (2, [.long 0, .long 0, .null, .null]))] sz)) 2 122 (va_A [(h0, .inr (2, [.long 0, .long 0, .null, .null]))] sz) := by
  refine Met.ofW (cc := cX2_init) (maxL := 1) (ret := none) (by decide) rfl ?_
  intro p e s m args below meth c s₁ B hml hv
  obtain ⟨rfl, hsz, hP, hK, hD0⟩ := hv
  have hx := B.exec
  have hb := B.bytes
  have hr := B.returns
  have hts := atoms_spec (ws := wsX2_init) B.pre
  have hown : s.vm.findClass RX2 = some m.cls := findClass_of_methodNamed B.named
  have hin : meth.name = "<init>" := (name_of_methodNamed B.named B.method).1
  have k0 := hts (.methodLink RX2 3 objectInit) (List.mem_cons_of_mem _ (List.mem_append_left _ (List.mem_of_getElem? (i := 0) rfl)))
  have k1 := hts (.instanceMethod objectInit) (List.mem_cons_of_mem _ (List.mem_append_left _ (List.mem_of_getElem? (i := 1) rfl)))
  have k2 := hts (.code objectInit ⟨#[0xb1]⟩ 1 none) (List.mem_cons_of_mem _ (List.mem_append_left _ (List.mem_of_getElem? (i := 2) rfl)))
  have k3 := hts (.fieldLink RX2 9 "SeaGames$Deal" "above" "J") (List.mem_cons_of_mem _ (List.mem_append_left _ (List.mem_of_getElem? (i := 3) rfl)))
  have k4 := hts (.fieldLink RX2 15 "SeaGames$Deal" "below" "J") (List.mem_cons_of_mem _ (List.mem_append_left _ (List.mem_of_getElem? (i := 4) rfl)))
  have k5 := hts (.arrayClass .long) (List.mem_cons_of_mem _ (List.mem_append_left _ (List.mem_of_getElem? (i := 5) rfl)))
  have k6 := hts (.fieldLink RX2 18 "SeaGames$Deal" "amongHits" "[J") (List.mem_cons_of_mem _ (List.mem_append_left _ (List.mem_of_getElem? (i := 6) rfl)))
  have k7 := hts (.fieldLink RX2 22 "SeaGames$Deal" "amongOthers" "[J") (List.mem_cons_of_mem _ (List.mem_append_left _ (List.mem_of_getElem? (i := 7) rfl)))
  have inX2 : ∀ w ∈ u_ws RX2 TX2 4, w ∈ wsX2_init := fun _ h => List.mem_cons_of_mem _ (List.mem_append_right _ h)
  subst hsz
  have hD := hD0.self (sz := s.heap.size)
  generalize hAe : va_A [(h0, .inr (2, [.long 0, .long 0, .null, .null]))] s.heap.size = A at hD ⊢
  have hA : ∀ q : Nat, s.heap.size ≤ q → A q := fun q h => by rw [← hAe]; exact Or.inr h
  have hS : va_S A s.heap s.heap [] := va_S.rf
  generalize hHe : s.heap = H at hP
  have hS : va_S A s.heap H [] := by rw [← hHe]; exact hS
  have hl := lv_entry ([.ref h0]) (n := 1) (Nat.le_of_ble_eq_true rfl)
  rw [lg_entry_eq]
  generalize (lg_sl ([.ref h0]) ++ List.replicate (1 - (lg_sl ([.ref h0])).length) Slot.unset).toArray = ls at hl ⊢
  have hl : lv_has ls 1 [(0, .ref h0)] := hl
  generalize ([] : List Loc) = locs at hS ⊢
  refine lv_aload_n hx hb dX2_init_0 rfl (lv_at hl 0 rfl) ?_
  refine W.objInit hx hb hown k0 k1 k2 rfl (by rw [hml]; exact hl.1) rfl dX2_init_1 (Nat.le_of_ble_eq_true rfl) (Nat.le_of_ble_eq_true rfl) ?_
  refine W.eq (g2 := F0 m 4 ls []) rfl ?_
  refine lv_aload_n hx hb dX2_init_4 rfl (lv_at hl 0 rfl) ?_
  refine lv_lconst (v := (0 : Int64)) hx hb dX2_init_5 (by decide) ?_
  refine va_put (D := D) (ci := 2) (v := .long (0 : Int64)) (ty := .long) (C := RX2) (T := TX2) (N := 4) hx hb hts inX2 tyX2 tyX2_ok nmX2 hown hK hP hD hS 0 rfl rfl 0 (by decide) k3 (fun _ h9 => h9) rfl (by decide +kernel) rfl rfl (Nat.le_of_ble_eq_true rfl) dX2_init_6 (fun H locs hP hD hS => ?_)
  have hP : va_P D vwCl [(h0, .inr (2, [.long (0 : Int64), .long 0, .null, .null]))] H := hP
  have hD : va_D A [(h0, .inr (2, [.long (0 : Int64), .long 0, .null, .null]))] := hD
  refine lv_aload_n hx hb dX2_init_9 rfl (lv_at hl 0 rfl) ?_
  refine lv_lconst (v := (1 : Int64)) hx hb dX2_init_10 (by decide) ?_
  refine va_put (D := D) (ci := 2) (v := .long (1 : Int64)) (ty := .long) (C := RX2) (T := TX2) (N := 4) hx hb hts inX2 tyX2 tyX2_ok nmX2 hown hK hP hD hS 0 rfl rfl 1 (by decide) k4 (fun _ h9 => h9) rfl (by decide +kernel) rfl rfl (Nat.le_of_ble_eq_true rfl) dX2_init_11 (fun H locs hP hD hS => ?_)
  have hP : va_P D vwCl [(h0, .inr (2, [.long (0 : Int64), .long (1 : Int64), .null, .null]))] H := hP
  have hD : va_D A [(h0, .inr (2, [.long (0 : Int64), .long (1 : Int64), .null, .null]))] := hD
  refine lv_aload_n hx hb dX2_init_14 rfl (lv_at hl 0 rfl) ?_
  refine lv_bipush (v := (61 : Int32)) hx hb dX2_init_15 (by decide) ?_
  refine my_newJ (N' := 61) hx hb k5 hK hP hD hS hA (by decide) rfl (by decide) (Nat.le_of_ble_eq_true rfl) (Nat.le_of_ble_eq_true rfl) dX2_init_17 (fun q17 H hP hD hS => ?_)
  have hP : va_P D vwCl [(h0, .inr (2, [.long (0 : Int64), .long (1 : Int64), .null, .null])), (q17, .inl (cy 2, 61, .inr (.inl (fun _ => 0))))] H := hP
  have hD : va_D A [(h0, .inr (2, [.long (0 : Int64), .long (1 : Int64), .null, .null])), (q17, .inl (cy 2, 61, .inr (.inl (fun _ => 0))))] := hD
  refine W.widen (k := 1) (n := 61) (Nat.le_of_ble_eq_true rfl) (Nat.le_of_ble_eq_true rfl) ?_
  refine va_putF (D := D) (ci := 2) (v := .ref q17) (ty := (.array .long)) (C := RX2) (T := TX2) (N := 4) hx hb hts inX2 tyX2 tyX2_ok nmX2 hown hK hP hD hS 0 rfl rfl 2 (by decide) k6 (fun _ h9 => h9) rfl hin rfl (by decide +kernel) rfl rfl (Nat.le_of_ble_eq_true rfl) dX2_init_19 (fun H locs hP hD hS => ?_)
  have hP : va_P D vwCl [(h0, .inr (2, [.long (0 : Int64), .long (1 : Int64), .ref q17, .null])), (q17, .inl (cy 2, 61, .inr (.inl (fun _ => 0))))] H := hP
  have hD : va_D A [(h0, .inr (2, [.long (0 : Int64), .long (1 : Int64), .ref q17, .null])), (q17, .inl (cy 2, 61, .inr (.inl (fun _ => 0))))] := hD
  refine lv_aload_n hx hb dX2_init_22 rfl (lv_at hl 0 rfl) ?_
  refine lv_bipush (v := (61 : Int32)) hx hb dX2_init_23 (by decide) ?_
  refine my_newJ (N' := 61) hx hb k5 hK hP hD hS hA (by decide) rfl (by decide) (Nat.le_of_ble_eq_true rfl) (Nat.le_of_ble_eq_true rfl) dX2_init_25 (fun q25 H hP hD hS => ?_)
  have hP : va_P D vwCl [(h0, .inr (2, [.long (0 : Int64), .long (1 : Int64), .ref q17, .null])), (q17, .inl (cy 2, 61, .inr (.inl (fun _ => 0)))), (q25, .inl (cy 2, 61, .inr (.inl (fun _ => 0))))] H := hP
  have hD : va_D A [(h0, .inr (2, [.long (0 : Int64), .long (1 : Int64), .ref q17, .null])), (q17, .inl (cy 2, 61, .inr (.inl (fun _ => 0)))), (q25, .inl (cy 2, 61, .inr (.inl (fun _ => 0))))] := hD
  refine W.widen (k := 2) (n := 122) (Nat.le_of_ble_eq_true rfl) (Nat.le_of_ble_eq_true rfl) ?_
  refine va_putF (D := D) (ci := 2) (v := .ref q25) (ty := (.array .long)) (C := RX2) (T := TX2) (N := 4) hx hb hts inX2 tyX2 tyX2_ok nmX2 hown hK hP hD hS 0 rfl rfl 3 (by decide) k7 (fun _ h9 => h9) rfl hin rfl (by decide +kernel) rfl rfl (Nat.le_of_ble_eq_true rfl) dX2_init_27 (fun H locs hP hD hS => ?_)
  have hP : va_P D vwCl [(h0, .inr (2, [.long (0 : Int64), .long (1 : Int64), .ref q17, .ref q25])), (q17, .inl (cy 2, 61, .inr (.inl (fun _ => 0)))), (q25, .inl (cy 2, 61, .inr (.inl (fun _ => 0))))] H := hP
  have hD : va_D A [(h0, .inr (2, [.long (0 : Int64), .long (1 : Int64), .ref q17, .ref q25])), (q17, .inl (cy 2, 61, .inr (.inl (fun _ => 0)))), (q25, .inl (cy 2, 61, .inr (.inl (fun _ => 0))))] := hD
  exact W.vret hx hb hr (fun t ht hW => ⟨⟨fun k => match k with | 0 => h0 | 3 => q17 | 4 => q25 | _ => 0, rfl, rfl, by rw [ht]; exact hP, hD⟩, hS.F ht⟩) hS.2.2 dX2_init_30
