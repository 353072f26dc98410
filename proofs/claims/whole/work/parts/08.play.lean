noncomputable def X5_clear (x_w : Int32) (x_h : Int32) (x_hands : Int32) (x_pressRow : Nat → Int32) (x_leftFrom : Nat → Int32) (x_leftTo : Nat → Int32) (p1 : Int32) (p2 : Int32) (p3 : Int32) : Option (Int32 × Int32 × Int32 × (Nat → Int32) × (Nat → Int32) × (Nat → Int32)) :=
  bd (J7_fill_53178 600 x_pressRow (0 : Int32)) fun r20 => bd (J7_fill_53178 6 x_leftFrom (0 : Int32)) fun r28 => bd (J7_fill_53178 6 x_leftTo (0 : Int32)) fun r36 => some (p1, p2, p3, r20, r28, r36)
abbrev wd_X5_clear (cy : Nat → ClassId) (o_t : Nat → Nat) (x_w : Int32) (x_h : Int32) (x_hands : Int32) (x_pressRow : Nat → Int32) (x_leftFrom : Nat → Int32) (x_leftTo : Nat → Int32) : va_W := [(o_t 0, .inr (5, [.int x_w, .int x_h, .int x_hands, .ref (o_t 4), .ref (o_t 5), .ref (o_t 6), .ref (o_t 7)])), (o_t 5, .inl (cy 0, 600, .inl x_pressRow)), (o_t 6, .inl (cy 0, 6, .inl x_leftFrom)), (o_t 7, .inl (cy 0, 6, .inl x_leftTo))]
set_option maxHeartbeats 4000000 in
set_option maxRecDepth 100000 in
theorem w_X5_clear {p : Program} {l : Launch} {e : Env} {s : State} {m : MethodId} {args : Array Value} {below : List Frame} {meth : Method} {c : Code} {Q : State → Prop} {A : Nat → Prop} {H : Heap} {locs : List Loc} {ls : Array Slot} (D : va_G) (cy : Nat → ClassId) (t : Nat → Nat) (o_t : Nat → Nat) (x_w : Int32) (x_h : Int32) (x_hands : Int32) (x_pressRow : Nat → Int32) (x_leftFrom : Nat → Int32) (x_leftTo : Nat → Int32) (p1 : Int32) (p2 : Int32) (p3 : Int32) {out : Int32 × Int32 × Int32 × (Nat → Int32) × (Nat → Int32) × (Nat → Int32)} (hf : X5_clear x_w x_h x_hands x_pressRow x_leftFrom x_leftTo p1 p2 p3 = some out) (hx : p.tables.exec = Jvm.exec) (hb : c.code = cX5_clear) (hml : c.maxLocals = 4) (hown : s.vm.findClass RX5 = some m.cls) (hts : ∀ w ∈ wsX5_clear, w.before args s = true) (hK : va_K D vwCl (TYS cy) s) (hE : EV t A s s.heap) (hA : ∀ q, s.heap.size ≤ q → A q) (hP : va_P D vwCl (wd_X5_clear cy o_t x_w x_h x_hands x_pressRow x_leftFrom x_leftTo) H) (hD : va_D A (wd_X5_clear cy o_t x_w x_h x_hands x_pressRow x_leftFrom x_leftTo)) (hS : va_S A s.heap H locs) (hl : lv_has ls 4 [(0, .ref (o_t 0)), (1, .int p1), (2, .int p2), (3, .int p3)]) (hR : ∀ (H : Heap) (locs : List Loc) (ls : Array Slot) (pc : Nat), va_P D vwCl (wd_X5_clear cy o_t out.1 out.2.1 out.2.2.1 out.2.2.2.1 out.2.2.2.2.1 out.2.2.2.2.2) H → va_D A (wd_X5_clear cy o_t out.1 out.2.1 out.2.2.1 out.2.2.2.1 out.2.2.2.2.1 out.2.2.2.2.2) → va_S A s.heap H locs → decode cX5_clear pc = .ok (.return_, 1) → W p l e (rmm 1 23) s m args below meth c H locs 0 0 Q (F0 m pc ls [])) : W p l e (rmm 1 23) s m args below meth c H locs 0 0 Q (F0 m 0 ls []) := by
  have k0 := hts (.fieldLink RX5 9 "SeaGames$Play" "w" "I") (List.mem_cons_of_mem _ (List.mem_append_left _ (List.mem_of_getElem? (i := 0) rfl)))
  have k1 : ∀ w ∈ u_ws RX5 TX5 7, w ∈ wsX5_clear := fun _ h => List.mem_cons_of_mem _ (List.mem_append_right _ h)
  have k2 := hts (.fieldLink RX5 15 "SeaGames$Play" "h" "I") (List.mem_cons_of_mem _ (List.mem_append_left _ (List.mem_of_getElem? (i := 1) rfl)))
  have k3 := hts (.fieldLink RX5 18 "SeaGames$Play" "hands" "I") (List.mem_cons_of_mem _ (List.mem_append_left _ (List.mem_of_getElem? (i := 2) rfl)))
  have k4 := hts (.fieldLink RX5 25 "SeaGames$Play" "pressRow" "[I") (List.mem_cons_of_mem _ (List.mem_append_left _ (List.mem_of_getElem? (i := 3) rfl)))
  have k5 := hts (.fieldLink RX5 28 "SeaGames$Play" "leftFrom" "[I") (List.mem_cons_of_mem _ (List.mem_append_left _ (List.mem_of_getElem? (i := 4) rfl)))
  have k6 := hts (.fieldLink RX5 31 "SeaGames$Play" "leftTo" "[I") (List.mem_cons_of_mem _ (List.mem_append_left _ (List.mem_of_getElem? (i := 5) rfl)))
  rw [X5_clear] at hf
  refine lv_aload_n hx hb dX5_clear_0 rfl (lv_at hl 0 rfl) ?_
  refine lv_iload_n hx hb dX5_clear_1 rfl (lv_at hl 1 rfl) ?_
  refine va_put (D := D) (ci := 5) (v := .int p1) (ty := .int) (C := RX5) (T := TX5) (N := 7) hx hb hts k1 tyX5 tyX5_ok nmX5 hown hK hP hD hS 0 rfl rfl 0 (by decide) k0 (fun _ h9 => h9) rfl (by decide +kernel) rfl rfl (Nat.le_of_ble_eq_true rfl) dX5_clear_2 (fun H locs hP hD hS => ?_)
  have hP : va_P D vwCl (wd_X5_clear cy o_t p1 x_h x_hands x_pressRow x_leftFrom x_leftTo) H := hP
  have hD : va_D A (wd_X5_clear cy o_t p1 x_h x_hands x_pressRow x_leftFrom x_leftTo) := hD
  refine lv_aload_n hx hb dX5_clear_5 rfl (lv_at hl 0 rfl) ?_
  refine lv_iload_n hx hb dX5_clear_6 rfl (lv_at hl 2 rfl) ?_
  refine va_put (D := D) (ci := 5) (v := .int p2) (ty := .int) (C := RX5) (T := TX5) (N := 7) hx hb hts k1 tyX5 tyX5_ok nmX5 hown hK hP hD hS 0 rfl rfl 1 (by decide) k2 (fun _ h9 => h9) rfl (by decide +kernel) rfl rfl (Nat.le_of_ble_eq_true rfl) dX5_clear_7 (fun H locs hP hD hS => ?_)
  have hP : va_P D vwCl (wd_X5_clear cy o_t p1 p2 x_hands x_pressRow x_leftFrom x_leftTo) H := hP
  have hD : va_D A (wd_X5_clear cy o_t p1 p2 x_hands x_pressRow x_leftFrom x_leftTo) := hD
  refine lv_aload_n hx hb dX5_clear_10 rfl (lv_at hl 0 rfl) ?_
  refine lv_iload_n hx hb dX5_clear_11 rfl (lv_at hl 3 rfl) ?_
  refine va_put (D := D) (ci := 5) (v := .int p3) (ty := .int) (C := RX5) (T := TX5) (N := 7) hx hb hts k1 tyX5 tyX5_ok nmX5 hown hK hP hD hS 0 rfl rfl 2 (by decide) k3 (fun _ h9 => h9) rfl (by decide +kernel) rfl rfl (Nat.le_of_ble_eq_true rfl) dX5_clear_12 (fun H locs hP hD hS => ?_)
  have hP : va_P D vwCl (wd_X5_clear cy o_t p1 p2 p3 x_pressRow x_leftFrom x_leftTo) H := hP
  have hD : va_D A (wd_X5_clear cy o_t p1 p2 p3 x_pressRow x_leftFrom x_leftTo) := hD
  refine lv_aload_n hx hb dX5_clear_15 rfl (lv_at hl 0 rfl) ?_
  refine va_get (D := D) (ci := 5) (v := .ref (o_t 5)) (C := RX5) (T := TX5) (N := 7) hx hb hts k1 hown hK hP 0 rfl rfl 4 (by decide) k4 (fun _ h9 => h9) rfl dX5_clear_16 ?_
  refine lv_iconst (v := (0 : Int32)) hx hb dX5_clear_19 (by decide) ?_
  obtain ⟨r20, hr20, hf⟩ := bd_s hf
  refine my_Sv (WS2 := (wd_X5_clear cy o_t p1 p2 p3 r20 x_leftFrom x_leftTo)) ⟨hx, hb, hml, hown, hts⟩ (c_J7_fill_53178 l D cy t (o_t 5) 600 x_pressRow (0 : Int32) hr20) (va_cwS 2 hts gX5_clear_J7_fill_53178 rfl rfl rfl hd_J7_fill_53178 ⟨Nat.le_of_ble_eq_true rfl, Nat.le_of_ble_eq_true rfl⟩) hK hE hP hD hS hA [1] 4 rfl rfl (by decide +kernel) rfl rfl hl.1 rfl (Nat.le_of_ble_eq_true rfl) dX5_clear_20 ⟨Nat.le_of_ble_eq_true rfl, Nat.le_of_ble_eq_true rfl⟩ (fun H locs hP hD hS => ?_)
  refine lv_aload_n hx hb dX5_clear_23 rfl (lv_at hl 0 rfl) ?_
  refine va_get (D := D) (ci := 5) (v := .ref (o_t 6)) (C := RX5) (T := TX5) (N := 7) hx hb hts k1 hown hK hP 0 rfl rfl 5 (by decide) k5 (fun _ h9 => h9) rfl dX5_clear_24 ?_
  refine lv_iconst (v := (0 : Int32)) hx hb dX5_clear_27 (by decide) ?_
  obtain ⟨r28, hr28, hf⟩ := bd_s hf
  refine my_Sv (WS2 := (wd_X5_clear cy o_t p1 p2 p3 r20 r28 x_leftTo)) ⟨hx, hb, hml, hown, hts⟩ (c_J7_fill_53178 l D cy t (o_t 6) 6 x_leftFrom (0 : Int32) hr28) (va_cwS 2 hts gX5_clear_J7_fill_53178 rfl rfl rfl hd_J7_fill_53178 ⟨Nat.le_of_ble_eq_true rfl, Nat.le_of_ble_eq_true rfl⟩) hK hE hP hD hS hA [2] 4 rfl rfl (by decide +kernel) rfl rfl hl.1 rfl (Nat.le_of_ble_eq_true rfl) dX5_clear_28 ⟨Nat.le_of_ble_eq_true rfl, Nat.le_of_ble_eq_true rfl⟩ (fun H locs hP hD hS => ?_)
  refine lv_aload_n hx hb dX5_clear_31 rfl (lv_at hl 0 rfl) ?_
  refine va_get (D := D) (ci := 5) (v := .ref (o_t 7)) (C := RX5) (T := TX5) (N := 7) hx hb hts k1 hown hK hP 0 rfl rfl 6 (by decide) k6 (fun _ h9 => h9) rfl dX5_clear_32 ?_
  refine lv_iconst (v := (0 : Int32)) hx hb dX5_clear_35 (by decide) ?_
  obtain ⟨r36, hr36, hf⟩ := bd_s hf
  refine my_Sv (WS2 := (wd_X5_clear cy o_t p1 p2 p3 r20 r28 r36)) ⟨hx, hb, hml, hown, hts⟩ (c_J7_fill_53178 l D cy t (o_t 7) 6 x_leftTo (0 : Int32) hr36) (va_cwS 2 hts gX5_clear_J7_fill_53178 rfl rfl rfl hd_J7_fill_53178 ⟨Nat.le_of_ble_eq_true rfl, Nat.le_of_ble_eq_true rfl⟩) hK hE hP hD hS hA [3] 4 rfl rfl (by decide +kernel) rfl rfl hl.1 rfl (Nat.le_of_ble_eq_true rfl) dX5_clear_36 ⟨Nat.le_of_ble_eq_true rfl, Nat.le_of_ble_eq_true rfl⟩ (fun H locs hP hD hS => ?_)
  obtain rfl := Option.some.inj hf
  exact hR _ _ _ _ hP hD hS dX5_clear_39
theorem hd_X5_clear : yX5_clear.cls ≠ "java/lang/invoke/MethodHandle" ∧ yX5_clear.cls ≠ "java/lang/invoke/VarHandle" ∧ (parseMethodDescriptor yX5_clear.desc).map (fun d => d.parameters.length) = some 3 := by decide +kernel
set_option maxRecDepth 100000 in
theorem c_X5_clear (l : Launch) (D : va_G) (cy : Nat → ClassId) (t : Nat → Nat) (o_t : Nat → Nat) (x_w : Int32) (x_h : Int32) (x_hands : Int32) (x_pressRow : Nat → Int32) (x_leftFrom : Nat → Int32) (x_leftTo : Nat → Int32) (p1 : Int32) (p2 : Int32) (p3 : Int32) {out : Int32 × Int32 × Int32 × (Nat → Int32) × (Nat → Int32) × (Nat → Int32)} (hf : X5_clear x_w x_h x_hands x_pressRow x_leftFrom x_leftTo p1 p2 p3 = some out) : ctV l yX5_clear wsX5_clear 1 23 D cy t [.ref (o_t 0), .int p1, .int p2, .int p3] (wd_X5_clear cy o_t x_w x_h x_hands x_pressRow x_leftFrom x_leftTo) (wd_X5_clear cy o_t out.1 out.2.1 out.2.2.1 out.2.2.2.1 out.2.2.2.2.1 out.2.2.2.2.2) := by
  refine ⟨rfl, ?_⟩
  intro sz
  refine Met.ofW (cc := cX5_clear) (maxL := 4) (ret := none) (by decide) rfl ?_
  intro p e s m args below meth c s₁ B hml hv
  obtain ⟨rfl, hsz, hP, hK, hD0, hE⟩ := hv
  have hts := atoms_spec (ws := wsX5_clear) B.pre
  have hown : s.vm.findClass RX5 = some m.cls := findClass_of_methodNamed B.named
  have hlocks := B.notSynchronized
  subst hsz
  have hD := hD0.self (sz := s.heap.size)
  have hl := lv_entry ([.ref (o_t 0), .int p1, .int p2, .int p3]) (n := 4) (Nat.le_of_ble_eq_true rfl)
  rw [lg_entry_eq]
  generalize (lg_sl ([.ref (o_t 0), .int p1, .int p2, .int p3]) ++ List.replicate (4 - (lg_sl ([.ref (o_t 0), .int p1, .int p2, .int p3])).length) Slot.unset).toArray = ls at hl ⊢
  exact w_X5_clear D cy t o_t x_w x_h x_hands x_pressRow x_leftFrom x_leftTo p1 p2 p3 hf B.exec B.bytes hml hown hts hK hE (fun q h => Or.inr h) hP hD va_S.rf hl (fun H locs ls pc hP hD hS hdg => W.vret B.exec B.bytes B.returns (fun t ht hW => ⟨⟨(), rfl, trivial, ctB_of ht hP⟩, hS.F ht⟩) hS.2.2 hdg)

noncomputable def X5_copyFrom (x_a1_w : Int32) (x_a1_h : Int32) (x_a1_hands : Int32) (x_a1_rules : Nat → Int32) (x_a1_pressRow : Nat → Int32) (x_a1_leftFrom : Nat → Int32) (x_a1_leftTo : Nat → Int32) (x_w : Int32) (x_h : Int32) (x_hands : Int32) (x_rules : Nat → Int32) (x_pressRow : Nat → Int32) (x_leftFrom : Nat → Int32) (x_leftTo : Nat → Int32) : Option (Int32 × Int32 × Int32 × (Nat → Int32) × (Nat → Int32) × (Nat → Int32) × (Nat → Int32)) :=
  cpI x_a1_rules x_rules 7 7 (0 : Int32) (0 : Int32) (3 : Int32) fun w35 => cpI x_a1_pressRow x_pressRow 600 600 (0 : Int32) (0 : Int32) (Int32.ofNat 600) fun w53 => cpI x_a1_leftFrom x_leftFrom 6 6 (0 : Int32) (0 : Int32) (Int32.ofNat 6) fun w71 => cpI x_a1_leftTo x_leftTo 6 6 (0 : Int32) (0 : Int32) (Int32.ofNat 6) fun w89 => some (x_a1_w, x_a1_h, x_a1_hands, w35, w53, w71, w89)
abbrev wd_X5_copyFrom (cy : Nat → ClassId) (o_t o_a1 : Nat → Nat) (x_w : Int32) (x_h : Int32) (x_hands : Int32) (x_rules : Nat → Int32) (x_pressRow : Nat → Int32) (x_leftFrom : Nat → Int32) (x_leftTo : Nat → Int32) (x_a1_w : Int32) (x_a1_h : Int32) (x_a1_hands : Int32) (x_a1_rules : Nat → Int32) (x_a1_pressRow : Nat → Int32) (x_a1_leftFrom : Nat → Int32) (x_a1_leftTo : Nat → Int32) : va_W := [(o_t 0, .inr (5, [.int x_w, .int x_h, .int x_hands, .ref (o_t 4), .ref (o_t 5), .ref (o_t 6), .ref (o_t 7)])), (o_t 4, .inl (cy 0, 7, .inl x_rules)), (o_t 5, .inl (cy 0, 600, .inl x_pressRow)), (o_t 6, .inl (cy 0, 6, .inl x_leftFrom)), (o_t 7, .inl (cy 0, 6, .inl x_leftTo)), (o_a1 0, .inr (5, [.int x_a1_w, .int x_a1_h, .int x_a1_hands, .ref (o_a1 4), .ref (o_a1 5), .ref (o_a1 6), .ref (o_a1 7)])), (o_a1 4, .inl (cy 0, 7, .inl x_a1_rules)), (o_a1 5, .inl (cy 0, 600, .inl x_a1_pressRow)), (o_a1 6, .inl (cy 0, 6, .inl x_a1_leftFrom)), (o_a1 7, .inl (cy 0, 6, .inl x_a1_leftTo))]
set_option maxHeartbeats 4000000 in
set_option maxRecDepth 100000 in
theorem w_X5_copyFrom {p : Program} {l : Launch} {e : Env} {s : State} {m : MethodId} {args : Array Value} {below : List Frame} {meth : Method} {c : Code} {Q : State → Prop} {A : Nat → Prop} {H : Heap} {locs : List Loc} {ls : Array Slot} (D : va_G) (cy : Nat → ClassId) (t : Nat → Nat) (o_t o_a1 : Nat → Nat) (x_w : Int32) (x_h : Int32) (x_hands : Int32) (x_rules : Nat → Int32) (x_pressRow : Nat → Int32) (x_leftFrom : Nat → Int32) (x_leftTo : Nat → Int32) (x_a1_w : Int32) (x_a1_h : Int32) (x_a1_hands : Int32) (x_a1_rules : Nat → Int32) (x_a1_pressRow : Nat → Int32) (x_a1_leftFrom : Nat → Int32) (x_a1_leftTo : Nat → Int32) {out : Int32 × Int32 × Int32 × (Nat → Int32) × (Nat → Int32) × (Nat → Int32) × (Nat → Int32)} (hf : X5_copyFrom x_a1_w x_a1_h x_a1_hands x_a1_rules x_a1_pressRow x_a1_leftFrom x_a1_leftTo x_w x_h x_hands x_rules x_pressRow x_leftFrom x_leftTo = some out) (hx : p.tables.exec = Jvm.exec) (hb : c.code = cX5_copyFrom) (hml : c.maxLocals = 2) (hown : s.vm.findClass RX5 = some m.cls) (hts : ∀ w ∈ wsX5_copyFrom, w.before args s = true) (hK : va_K D vwCl (TYS cy) s) (hE : EV t A s s.heap) (hA : ∀ q, s.heap.size ≤ q → A q) (hP : va_P D vwCl (wd_X5_copyFrom cy o_t o_a1 x_w x_h x_hands x_rules x_pressRow x_leftFrom x_leftTo x_a1_w x_a1_h x_a1_hands x_a1_rules x_a1_pressRow x_a1_leftFrom x_a1_leftTo) H) (hD : va_D A (wd_X5_copyFrom cy o_t o_a1 x_w x_h x_hands x_rules x_pressRow x_leftFrom x_leftTo x_a1_w x_a1_h x_a1_hands x_a1_rules x_a1_pressRow x_a1_leftFrom x_a1_leftTo)) (hS : va_S A s.heap H locs) (hl : lv_has ls 2 [(0, .ref (o_t 0)), (1, .ref (o_a1 0))]) (hR : ∀ (H : Heap) (locs : List Loc) (ls : Array Slot) (pc : Nat), va_P D vwCl (wd_X5_copyFrom cy o_t o_a1 out.1 out.2.1 out.2.2.1 out.2.2.2.1 out.2.2.2.2.1 out.2.2.2.2.2.1 out.2.2.2.2.2.2 x_a1_w x_a1_h x_a1_hands x_a1_rules x_a1_pressRow x_a1_leftFrom x_a1_leftTo) H → va_D A (wd_X5_copyFrom cy o_t o_a1 out.1 out.2.1 out.2.2.1 out.2.2.2.1 out.2.2.2.2.1 out.2.2.2.2.2.1 out.2.2.2.2.2.2 x_a1_w x_a1_h x_a1_hands x_a1_rules x_a1_pressRow x_a1_leftFrom x_a1_leftTo) → va_S A s.heap H locs → decode cX5_copyFrom pc = .ok (.return_, 1) → W p l e (rmm 1 40) s m args below meth c H locs 0 0 Q (F0 m pc ls [])) : W p l e (rmm 1 40) s m args below meth c H locs 0 0 Q (F0 m 0 ls []) := by
  have k0 := hts (.fieldLink RX5 9 "SeaGames$Play" "w" "I") (List.mem_cons_of_mem _ (List.mem_append_left _ (List.mem_of_getElem? (i := 0) rfl)))
  have k1 : ∀ w ∈ u_ws RX5 TX5 7, w ∈ wsX5_copyFrom := fun _ h => List.mem_cons_of_mem _ (List.mem_append_right _ h)
  have k2 := hts (.fieldLink RX5 15 "SeaGames$Play" "h" "I") (List.mem_cons_of_mem _ (List.mem_append_left _ (List.mem_of_getElem? (i := 1) rfl)))
  have k3 := hts (.fieldLink RX5 18 "SeaGames$Play" "hands" "I") (List.mem_cons_of_mem _ (List.mem_append_left _ (List.mem_of_getElem? (i := 2) rfl)))
  have k4 := hts (.fieldLink RX5 21 "SeaGames$Play" "rules" "[I") (List.mem_cons_of_mem _ (List.mem_append_left _ (List.mem_of_getElem? (i := 3) rfl)))
  have k5 := hts (.methodLink RX5 40 arraycopyName) (List.mem_cons_of_mem _ (List.mem_append_left _ (List.mem_of_getElem? (i := 4) rfl)))
  have k6 := hts (.native arraycopyName) (List.mem_cons_of_mem _ (List.mem_append_left _ (List.mem_of_getElem? (i := 5) rfl)))
  have k7 := hts (.static arraycopyName) (List.mem_cons_of_mem _ (List.mem_append_left _ (List.mem_of_getElem? (i := 6) rfl)))
  have k8 := hts (.initialized "java/lang/System") (List.mem_cons_of_mem _ (List.mem_append_left _ (List.mem_of_getElem? (i := 7) rfl)))
  have k9 := hts (.fieldLink RX5 25 "SeaGames$Play" "pressRow" "[I") (List.mem_cons_of_mem _ (List.mem_append_left _ (List.mem_of_getElem? (i := 8) rfl)))
  have k10 := hts (.fieldLink RX5 28 "SeaGames$Play" "leftFrom" "[I") (List.mem_cons_of_mem _ (List.mem_append_left _ (List.mem_of_getElem? (i := 9) rfl)))
  have k11 := hts (.fieldLink RX5 31 "SeaGames$Play" "leftTo" "[I") (List.mem_cons_of_mem _ (List.mem_append_left _ (List.mem_of_getElem? (i := 10) rfl)))
  rw [X5_copyFrom] at hf
  refine lv_aload_n hx hb dX5_copyFrom_0 rfl (lv_at hl 0 rfl) ?_
  refine lv_aload_n hx hb dX5_copyFrom_1 rfl (lv_at hl 1 rfl) ?_
  refine va_get (D := D) (ci := 5) (v := .int x_a1_w) (C := RX5) (T := TX5) (N := 7) hx hb hts k1 hown hK hP 5 rfl rfl 0 (by decide) k0 (fun _ h9 => h9) rfl dX5_copyFrom_2 ?_
  refine va_put (D := D) (ci := 5) (v := .int x_a1_w) (ty := .int) (C := RX5) (T := TX5) (N := 7) hx hb hts k1 tyX5 tyX5_ok nmX5 hown hK hP hD hS 0 rfl rfl 0 (by decide) k0 (fun _ h9 => h9) rfl (by decide +kernel) rfl rfl (Nat.le_of_ble_eq_true rfl) dX5_copyFrom_5 (fun H locs hP hD hS => ?_)
  have hP : va_P D vwCl (wd_X5_copyFrom cy o_t o_a1 x_a1_w x_h x_hands x_rules x_pressRow x_leftFrom x_leftTo x_a1_w x_a1_h x_a1_hands x_a1_rules x_a1_pressRow x_a1_leftFrom x_a1_leftTo) H := hP
  have hD : va_D A (wd_X5_copyFrom cy o_t o_a1 x_a1_w x_h x_hands x_rules x_pressRow x_leftFrom x_leftTo x_a1_w x_a1_h x_a1_hands x_a1_rules x_a1_pressRow x_a1_leftFrom x_a1_leftTo) := hD
  refine lv_aload_n hx hb dX5_copyFrom_8 rfl (lv_at hl 0 rfl) ?_
  refine lv_aload_n hx hb dX5_copyFrom_9 rfl (lv_at hl 1 rfl) ?_
  refine va_get (D := D) (ci := 5) (v := .int x_a1_h) (C := RX5) (T := TX5) (N := 7) hx hb hts k1 hown hK hP 5 rfl rfl 1 (by decide) k2 (fun _ h9 => h9) rfl dX5_copyFrom_10 ?_
  refine va_put (D := D) (ci := 5) (v := .int x_a1_h) (ty := .int) (C := RX5) (T := TX5) (N := 7) hx hb hts k1 tyX5 tyX5_ok nmX5 hown hK hP hD hS 0 rfl rfl 1 (by decide) k2 (fun _ h9 => h9) rfl (by decide +kernel) rfl rfl (Nat.le_of_ble_eq_true rfl) dX5_copyFrom_13 (fun H locs hP hD hS => ?_)
  have hP : va_P D vwCl (wd_X5_copyFrom cy o_t o_a1 x_a1_w x_a1_h x_hands x_rules x_pressRow x_leftFrom x_leftTo x_a1_w x_a1_h x_a1_hands x_a1_rules x_a1_pressRow x_a1_leftFrom x_a1_leftTo) H := hP
  have hD : va_D A (wd_X5_copyFrom cy o_t o_a1 x_a1_w x_a1_h x_hands x_rules x_pressRow x_leftFrom x_leftTo x_a1_w x_a1_h x_a1_hands x_a1_rules x_a1_pressRow x_a1_leftFrom x_a1_leftTo) := hD
  refine lv_aload_n hx hb dX5_copyFrom_16 rfl (lv_at hl 0 rfl) ?_
  refine lv_aload_n hx hb dX5_copyFrom_17 rfl (lv_at hl 1 rfl) ?_
  refine va_get (D := D) (ci := 5) (v := .int x_a1_hands) (C := RX5) (T := TX5) (N := 7) hx hb hts k1 hown hK hP 5 rfl rfl 2 (by decide) k3 (fun _ h9 => h9) rfl dX5_copyFrom_18 ?_
  refine va_put (D := D) (ci := 5) (v := .int x_a1_hands) (ty := .int) (C := RX5) (T := TX5) (N := 7) hx hb hts k1 tyX5 tyX5_ok nmX5 hown hK hP hD hS 0 rfl rfl 2 (by decide) k3 (fun _ h9 => h9) rfl (by decide +kernel) rfl rfl (Nat.le_of_ble_eq_true rfl) dX5_copyFrom_21 (fun H locs hP hD hS => ?_)
  have hP : va_P D vwCl (wd_X5_copyFrom cy o_t o_a1 x_a1_w x_a1_h x_a1_hands x_rules x_pressRow x_leftFrom x_leftTo x_a1_w x_a1_h x_a1_hands x_a1_rules x_a1_pressRow x_a1_leftFrom x_a1_leftTo) H := hP
  have hD : va_D A (wd_X5_copyFrom cy o_t o_a1 x_a1_w x_a1_h x_a1_hands x_rules x_pressRow x_leftFrom x_leftTo x_a1_w x_a1_h x_a1_hands x_a1_rules x_a1_pressRow x_a1_leftFrom x_a1_leftTo) := hD
  refine lv_aload_n hx hb dX5_copyFrom_24 rfl (lv_at hl 1 rfl) ?_
  refine va_get (D := D) (ci := 5) (v := .ref (o_a1 4)) (C := RX5) (T := TX5) (N := 7) hx hb hts k1 hown hK hP 5 rfl rfl 3 (by decide) k4 (fun _ h9 => h9) rfl dX5_copyFrom_25 ?_
  refine lv_iconst (v := (0 : Int32)) hx hb dX5_copyFrom_28 (by decide) ?_
  refine lv_aload_n hx hb dX5_copyFrom_29 rfl (lv_at hl 0 rfl) ?_
  refine va_get (D := D) (ci := 5) (v := .ref (o_t 4)) (C := RX5) (T := TX5) (N := 7) hx hb hts k1 hown hK hP 0 rfl rfl 3 (by decide) k4 (fun _ h9 => h9) rfl dX5_copyFrom_30 ?_
  refine lv_iconst (v := (0 : Int32)) hx hb dX5_copyFrom_33 (by decide) ?_
  refine lv_iconst (v := (3 : Int32)) hx hb dX5_copyFrom_34 (by decide) ?_
  obtain ⟨w35, g1, g2, g3, g4, g5, ew35, hf⟩ := cpI_s hf
  refine my_copy (ws2 := (wd_X5_copyFrom cy o_t o_a1 x_a1_w x_a1_h x_a1_hands w35 x_pressRow x_leftFrom x_leftTo x_a1_w x_a1_h x_a1_hands x_a1_rules x_a1_pressRow x_a1_leftFrom x_a1_leftTo)) hx hb (hml.trans hl.1.symm) hown k5 k6 k7 k8 hK hP hD hS 6 1 rfl rfl g1 g2 g3 g4 g5 ew35 rfl (Nat.le_of_ble_eq_true rfl) (Nat.le_of_ble_eq_true rfl) dX5_copyFrom_35 (fun H locs hP hD hS => ?_)
  refine lv_aload_n hx hb dX5_copyFrom_38 rfl (lv_at hl 1 rfl) ?_
  refine va_get (D := D) (ci := 5) (v := .ref (o_a1 5)) (C := RX5) (T := TX5) (N := 7) hx hb hts k1 hown hK hP 5 rfl rfl 4 (by decide) k9 (fun _ h9 => h9) rfl dX5_copyFrom_39 ?_
  refine lv_iconst (v := (0 : Int32)) hx hb dX5_copyFrom_42 (by decide) ?_
  refine lv_aload_n hx hb dX5_copyFrom_43 rfl (lv_at hl 0 rfl) ?_
  refine va_get (D := D) (ci := 5) (v := .ref (o_t 5)) (C := RX5) (T := TX5) (N := 7) hx hb hts k1 hown hK hP 0 rfl rfl 4 (by decide) k9 (fun _ h9 => h9) rfl dX5_copyFrom_44 ?_
  refine lv_iconst (v := (0 : Int32)) hx hb dX5_copyFrom_47 (by decide) ?_
  refine lv_aload_n hx hb dX5_copyFrom_48 rfl (lv_at hl 0 rfl) ?_
  refine va_get (D := D) (ci := 5) (v := .ref (o_t 5)) (C := RX5) (T := TX5) (N := 7) hx hb hts k1 hown hK hP 0 rfl rfl 4 (by decide) k9 (fun _ h9 => h9) rfl dX5_copyFrom_49 ?_
  refine va_alen hx hb hK hP 2 0 rfl rfl (v := (Int32.ofNat 600)) rfl dX5_copyFrom_52 ?_
  obtain ⟨w53, g1, g2, g3, g4, g5, ew53, hf⟩ := cpI_s hf
  refine my_copy (ws2 := (wd_X5_copyFrom cy o_t o_a1 x_a1_w x_a1_h x_a1_hands w35 w53 x_leftFrom x_leftTo x_a1_w x_a1_h x_a1_hands x_a1_rules x_a1_pressRow x_a1_leftFrom x_a1_leftTo)) hx hb (hml.trans hl.1.symm) hown k5 k6 k7 k8 hK hP hD hS 7 2 rfl rfl g1 g2 g3 g4 g5 ew53 rfl (Nat.le_of_ble_eq_true rfl) (Nat.le_of_ble_eq_true rfl) dX5_copyFrom_53 (fun H locs hP hD hS => ?_)
  refine lv_aload_n hx hb dX5_copyFrom_56 rfl (lv_at hl 1 rfl) ?_
  refine va_get (D := D) (ci := 5) (v := .ref (o_a1 6)) (C := RX5) (T := TX5) (N := 7) hx hb hts k1 hown hK hP 5 rfl rfl 5 (by decide) k10 (fun _ h9 => h9) rfl dX5_copyFrom_57 ?_
  refine lv_iconst (v := (0 : Int32)) hx hb dX5_copyFrom_60 (by decide) ?_
  refine lv_aload_n hx hb dX5_copyFrom_61 rfl (lv_at hl 0 rfl) ?_
  refine va_get (D := D) (ci := 5) (v := .ref (o_t 6)) (C := RX5) (T := TX5) (N := 7) hx hb hts k1 hown hK hP 0 rfl rfl 5 (by decide) k10 (fun _ h9 => h9) rfl dX5_copyFrom_62 ?_
  refine lv_iconst (v := (0 : Int32)) hx hb dX5_copyFrom_65 (by decide) ?_
  refine lv_aload_n hx hb dX5_copyFrom_66 rfl (lv_at hl 0 rfl) ?_
  refine va_get (D := D) (ci := 5) (v := .ref (o_t 6)) (C := RX5) (T := TX5) (N := 7) hx hb hts k1 hown hK hP 0 rfl rfl 5 (by decide) k10 (fun _ h9 => h9) rfl dX5_copyFrom_67 ?_
  refine va_alen hx hb hK hP 3 0 rfl rfl (v := (Int32.ofNat 6)) rfl dX5_copyFrom_70 ?_
  obtain ⟨w71, g1, g2, g3, g4, g5, ew71, hf⟩ := cpI_s hf
  refine my_copy (ws2 := (wd_X5_copyFrom cy o_t o_a1 x_a1_w x_a1_h x_a1_hands w35 w53 w71 x_leftTo x_a1_w x_a1_h x_a1_hands x_a1_rules x_a1_pressRow x_a1_leftFrom x_a1_leftTo)) hx hb (hml.trans hl.1.symm) hown k5 k6 k7 k8 hK hP hD hS 8 3 rfl rfl g1 g2 g3 g4 g5 ew71 rfl (Nat.le_of_ble_eq_true rfl) (Nat.le_of_ble_eq_true rfl) dX5_copyFrom_71 (fun H locs hP hD hS => ?_)
  refine lv_aload_n hx hb dX5_copyFrom_74 rfl (lv_at hl 1 rfl) ?_
  refine va_get (D := D) (ci := 5) (v := .ref (o_a1 7)) (C := RX5) (T := TX5) (N := 7) hx hb hts k1 hown hK hP 5 rfl rfl 6 (by decide) k11 (fun _ h9 => h9) rfl dX5_copyFrom_75 ?_
  refine lv_iconst (v := (0 : Int32)) hx hb dX5_copyFrom_78 (by decide) ?_
  refine lv_aload_n hx hb dX5_copyFrom_79 rfl (lv_at hl 0 rfl) ?_
  refine va_get (D := D) (ci := 5) (v := .ref (o_t 7)) (C := RX5) (T := TX5) (N := 7) hx hb hts k1 hown hK hP 0 rfl rfl 6 (by decide) k11 (fun _ h9 => h9) rfl dX5_copyFrom_80 ?_
  refine lv_iconst (v := (0 : Int32)) hx hb dX5_copyFrom_83 (by decide) ?_
  refine lv_aload_n hx hb dX5_copyFrom_84 rfl (lv_at hl 0 rfl) ?_
  refine va_get (D := D) (ci := 5) (v := .ref (o_t 7)) (C := RX5) (T := TX5) (N := 7) hx hb hts k1 hown hK hP 0 rfl rfl 6 (by decide) k11 (fun _ h9 => h9) rfl dX5_copyFrom_85 ?_
  refine va_alen hx hb hK hP 4 0 rfl rfl (v := (Int32.ofNat 6)) rfl dX5_copyFrom_88 ?_
  obtain ⟨w89, g1, g2, g3, g4, g5, ew89, hf⟩ := cpI_s hf
  refine my_copy (ws2 := (wd_X5_copyFrom cy o_t o_a1 x_a1_w x_a1_h x_a1_hands w35 w53 w71 w89 x_a1_w x_a1_h x_a1_hands x_a1_rules x_a1_pressRow x_a1_leftFrom x_a1_leftTo)) hx hb (hml.trans hl.1.symm) hown k5 k6 k7 k8 hK hP hD hS 9 4 rfl rfl g1 g2 g3 g4 g5 ew89 rfl (Nat.le_of_ble_eq_true rfl) (Nat.le_of_ble_eq_true rfl) dX5_copyFrom_89 (fun H locs hP hD hS => ?_)
  obtain rfl := Option.some.inj hf
  exact hR _ _ _ _ hP hD hS dX5_copyFrom_92
theorem hd_X5_copyFrom : yX5_copyFrom.cls ≠ "java/lang/invoke/MethodHandle" ∧ yX5_copyFrom.cls ≠ "java/lang/invoke/VarHandle" ∧ (parseMethodDescriptor yX5_copyFrom.desc).map (fun d => d.parameters.length) = some 1 := by decide +kernel
set_option maxRecDepth 100000 in
theorem c_X5_copyFrom (l : Launch) (D : va_G) (cy : Nat → ClassId) (t : Nat → Nat) (o_t o_a1 : Nat → Nat) (x_w : Int32) (x_h : Int32) (x_hands : Int32) (x_rules : Nat → Int32) (x_pressRow : Nat → Int32) (x_leftFrom : Nat → Int32) (x_leftTo : Nat → Int32) (x_a1_w : Int32) (x_a1_h : Int32) (x_a1_hands : Int32) (x_a1_rules : Nat → Int32) (x_a1_pressRow : Nat → Int32) (x_a1_leftFrom : Nat → Int32) (x_a1_leftTo : Nat → Int32) {out : Int32 × Int32 × Int32 × (Nat → Int32) × (Nat → Int32) × (Nat → Int32) × (Nat → Int32)} (hf : X5_copyFrom x_a1_w x_a1_h x_a1_hands x_a1_rules x_a1_pressRow x_a1_leftFrom x_a1_leftTo x_w x_h x_hands x_rules x_pressRow x_leftFrom x_leftTo = some out) : ctV l yX5_copyFrom wsX5_copyFrom 1 40 D cy t [.ref (o_t 0), .ref (o_a1 0)] (wd_X5_copyFrom cy o_t o_a1 x_w x_h x_hands x_rules x_pressRow x_leftFrom x_leftTo x_a1_w x_a1_h x_a1_hands x_a1_rules x_a1_pressRow x_a1_leftFrom x_a1_leftTo) (wd_X5_copyFrom cy o_t o_a1 out.1 out.2.1 out.2.2.1 out.2.2.2.1 out.2.2.2.2.1 out.2.2.2.2.2.1 out.2.2.2.2.2.2 x_a1_w x_a1_h x_a1_hands x_a1_rules x_a1_pressRow x_a1_leftFrom x_a1_leftTo) := by
  refine ⟨rfl, ?_⟩
  intro sz
  refine Met.ofW (cc := cX5_copyFrom) (maxL := 2) (ret := none) (by decide) rfl ?_
  intro p e s m args below meth c s₁ B hml hv
  obtain ⟨rfl, hsz, hP, hK, hD0, hE⟩ := hv
  have hts := atoms_spec (ws := wsX5_copyFrom) B.pre
  have hown : s.vm.findClass RX5 = some m.cls := findClass_of_methodNamed B.named
  have hlocks := B.notSynchronized
  subst hsz
  have hD := hD0.self (sz := s.heap.size)
  have hl := lv_entry ([.ref (o_t 0), .ref (o_a1 0)]) (n := 2) (Nat.le_of_ble_eq_true rfl)
  rw [lg_entry_eq]
  generalize (lg_sl ([.ref (o_t 0), .ref (o_a1 0)]) ++ List.replicate (2 - (lg_sl ([.ref (o_t 0), .ref (o_a1 0)])).length) Slot.unset).toArray = ls at hl ⊢
  exact w_X5_copyFrom D cy t o_t o_a1 x_w x_h x_hands x_rules x_pressRow x_leftFrom x_leftTo x_a1_w x_a1_h x_a1_hands x_a1_rules x_a1_pressRow x_a1_leftFrom x_a1_leftTo hf B.exec B.bytes hml hown hts hK hE (fun q h => Or.inr h) hP hD va_S.rf hl (fun H locs ls pc hP hD hS hdg => W.vret B.exec B.bytes B.returns (fun t ht hW => ⟨⟨(), rfl, trivial, ctB_of ht hP⟩, hS.F ht⟩) hS.2.2 hdg)

noncomputable def X5_pressOf (x_pressRow : Nat → Int32) (p1 : Int32) (p2 : Int32) : Option (Int32) :=
  rd x_pressRow 600 ((p1 * (100 : Int32)) + p2) fun v10 => some v10
abbrev wd_X5_pressOf (cy : Nat → ClassId) (o_t : Nat → Nat) (x_w : Int32) (x_h : Int32) (x_hands : Int32) (x_pressRow : Nat → Int32) : va_W := [(o_t 0, .inr (5, [.int x_w, .int x_h, .int x_hands, .ref (o_t 4), .ref (o_t 5), .ref (o_t 6), .ref (o_t 7)])), (o_t 5, .inl (cy 0, 600, .inl x_pressRow))]
set_option maxHeartbeats 4000000 in
set_option maxRecDepth 100000 in
theorem w_X5_pressOf {p : Program} {l : Launch} {e : Env} {s : State} {m : MethodId} {args : Array Value} {below : List Frame} {meth : Method} {c : Code} {Q : State → Prop} {A : Nat → Prop} {H : Heap} {locs : List Loc} {ls : Array Slot} (D : va_G) (cy : Nat → ClassId) (t : Nat → Nat) (o_t : Nat → Nat) (x_w : Int32) (x_h : Int32) (x_hands : Int32) (x_pressRow : Nat → Int32) (p1 : Int32) (p2 : Int32) {out : Int32} (hf : X5_pressOf x_pressRow p1 p2 = some out) (hx : p.tables.exec = Jvm.exec) (hb : c.code = cX5_pressOf) (hml : c.maxLocals = 3) (hown : s.vm.findClass RX5 = some m.cls) (hts : ∀ w ∈ wsX5_pressOf, w.before args s = true) (hK : va_K D vwCl (TYS cy) s) (hE : EV t A s s.heap) (hA : ∀ q, s.heap.size ≤ q → A q) (hP : va_P D vwCl (wd_X5_pressOf cy o_t x_w x_h x_hands x_pressRow) H) (hD : va_D A (wd_X5_pressOf cy o_t x_w x_h x_hands x_pressRow)) (hS : va_S A s.heap H locs) (hl : lv_has ls 3 [(0, .ref (o_t 0)), (1, .int p1), (2, .int p2)]) (hR : ∀ (H : Heap) (locs : List Loc) (ls : Array Slot) (pc : Nat), va_P D vwCl (wd_X5_pressOf cy o_t x_w x_h x_hands x_pressRow) H → va_D A (wd_X5_pressOf cy o_t x_w x_h x_hands x_pressRow) → va_S A s.heap H locs → decode cX5_pressOf pc = .ok (.ireturn, 1) → W p l e (rmm 0 0) s m args below meth c H locs 0 0 Q (F0 m pc ls [.int out])) : W p l e (rmm 0 0) s m args below meth c H locs 0 0 Q (F0 m 0 ls []) := by
  have k0 := hts (.fieldLink RX5 25 "SeaGames$Play" "pressRow" "[I") (List.mem_cons_of_mem _ (List.mem_append_left _ (List.mem_of_getElem? (i := 0) rfl)))
  have k1 : ∀ w ∈ u_ws RX5 TX5 7, w ∈ wsX5_pressOf := fun _ h => List.mem_cons_of_mem _ (List.mem_append_right _ h)
  rw [X5_pressOf] at hf
  refine lv_aload_n hx hb dX5_pressOf_0 rfl (lv_at hl 0 rfl) ?_
  refine va_get (D := D) (ci := 5) (v := .ref (o_t 5)) (C := RX5) (T := TX5) (N := 7) hx hb hts k1 hown hK hP 0 rfl rfl 4 (by decide) k0 (fun _ h9 => h9) rfl dX5_pressOf_1 ?_
  refine lv_iload_n hx hb dX5_pressOf_4 rfl (lv_at hl 1 rfl) ?_
  refine lv_bipush (v := (100 : Int32)) hx hb dX5_pressOf_5 (by decide) ?_
  refine lv_imul hx hb dX5_pressOf_7 ?_
  refine lv_iload_n hx hb dX5_pressOf_8 rfl (lv_at hl 2 rfl) ?_
  refine lv_iadd hx hb dX5_pressOf_9 ?_
  obtain ⟨v10, b10, ev10, hf⟩ := rd_s hf
  refine my_iald hx hb hK hP 1 rfl b10 ev10 dX5_pressOf_10 ?_
  obtain rfl := Option.some.inj hf
  exact hR _ _ _ _ hP hD hS dX5_pressOf_11
theorem hd_X5_pressOf : yX5_pressOf.cls ≠ "java/lang/invoke/MethodHandle" ∧ yX5_pressOf.cls ≠ "java/lang/invoke/VarHandle" ∧ (parseMethodDescriptor yX5_pressOf.desc).map (fun d => d.parameters.length) = some 2 := by decide +kernel
set_option maxRecDepth 100000 in
theorem c_X5_pressOf (l : Launch) (D : va_G) (cy : Nat → ClassId) (t : Nat → Nat) (o_t : Nat → Nat) (x_w : Int32) (x_h : Int32) (x_hands : Int32) (x_pressRow : Nat → Int32) (p1 : Int32) (p2 : Int32) {out : Int32} (hf : X5_pressOf x_pressRow p1 p2 = some out) : ctI l yX5_pressOf wsX5_pressOf 0 0 D cy t [.ref (o_t 0), .int p1, .int p2] (wd_X5_pressOf cy o_t x_w x_h x_hands x_pressRow) (wd_X5_pressOf cy o_t x_w x_h x_hands x_pressRow) out := by
  refine ⟨rfl, ?_⟩
  intro sz
  refine Met.ofW (cc := cX5_pressOf) (maxL := 3) (ret := (some .int)) (by decide) rfl ?_
  intro p e s m args below meth c s₁ B hml hv
  obtain ⟨rfl, hsz, hP, hK, hD0, hE⟩ := hv
  have hts := atoms_spec (ws := wsX5_pressOf) B.pre
  have hown : s.vm.findClass RX5 = some m.cls := findClass_of_methodNamed B.named
  have hlocks := B.notSynchronized
  subst hsz
  have hD := hD0.self (sz := s.heap.size)
  have hl := lv_entry ([.ref (o_t 0), .int p1, .int p2]) (n := 3) (Nat.le_of_ble_eq_true rfl)
  rw [lg_entry_eq]
  generalize (lg_sl ([.ref (o_t 0), .int p1, .int p2]) ++ List.replicate (3 - (lg_sl ([.ref (o_t 0), .int p1, .int p2])).length) Slot.unset).toArray = ls at hl ⊢
  exact w_X5_pressOf D cy t o_t x_w x_h x_hands x_pressRow p1 p2 hf B.exec B.bytes hml hown hts hK hE (fun q h => Or.inr h) hP hD va_S.rf hl (fun H locs ls pc hP hD hS hdg => W.iret B.exec B.bytes B.returns (fun t ht hW => ⟨⟨_, (), rfl, rfl, ctB_of ht hP⟩, hS.F ht⟩) hS.2.2 hdg)

noncomputable def X5_setPress (x_pressRow : Nat → Int32) (p1 : Int32) (p2 : Int32) (p3 : Int32) : Option ((Nat → Int32)) :=
  wrI x_pressRow 600 ((p1 * (100 : Int32)) + p2) p3 fun w11 => some w11
abbrev wd_X5_setPress (cy : Nat → ClassId) (o_t : Nat → Nat) (x_w : Int32) (x_h : Int32) (x_hands : Int32) (x_pressRow : Nat → Int32) : va_W := [(o_t 0, .inr (5, [.int x_w, .int x_h, .int x_hands, .ref (o_t 4), .ref (o_t 5), .ref (o_t 6), .ref (o_t 7)])), (o_t 5, .inl (cy 0, 600, .inl x_pressRow))]
set_option maxHeartbeats 4000000 in
set_option maxRecDepth 100000 in
theorem w_X5_setPress {p : Program} {l : Launch} {e : Env} {s : State} {m : MethodId} {args : Array Value} {below : List Frame} {meth : Method} {c : Code} {Q : State → Prop} {A : Nat → Prop} {H : Heap} {locs : List Loc} {ls : Array Slot} (D : va_G) (cy : Nat → ClassId) (t : Nat → Nat) (o_t : Nat → Nat) (x_w : Int32) (x_h : Int32) (x_hands : Int32) (x_pressRow : Nat → Int32) (p1 : Int32) (p2 : Int32) (p3 : Int32) {out : (Nat → Int32)} (hf : X5_setPress x_pressRow p1 p2 p3 = some out) (hx : p.tables.exec = Jvm.exec) (hb : c.code = cX5_setPress) (hml : c.maxLocals = 4) (hown : s.vm.findClass RX5 = some m.cls) (hts : ∀ w ∈ wsX5_setPress, w.before args s = true) (hK : va_K D vwCl (TYS cy) s) (hE : EV t A s s.heap) (hA : ∀ q, s.heap.size ≤ q → A q) (hP : va_P D vwCl (wd_X5_setPress cy o_t x_w x_h x_hands x_pressRow) H) (hD : va_D A (wd_X5_setPress cy o_t x_w x_h x_hands x_pressRow)) (hS : va_S A s.heap H locs) (hl : lv_has ls 4 [(0, .ref (o_t 0)), (1, .int p1), (2, .int p2), (3, .int p3)]) (hR : ∀ (H : Heap) (locs : List Loc) (ls : Array Slot) (pc : Nat), va_P D vwCl (wd_X5_setPress cy o_t x_w x_h x_hands out) H → va_D A (wd_X5_setPress cy o_t x_w x_h x_hands out) → va_S A s.heap H locs → decode cX5_setPress pc = .ok (.return_, 1) → W p l e (rmm 0 0) s m args below meth c H locs 0 0 Q (F0 m pc ls [])) : W p l e (rmm 0 0) s m args below meth c H locs 0 0 Q (F0 m 0 ls []) := by
  have k0 := hts (.fieldLink RX5 25 "SeaGames$Play" "pressRow" "[I") (List.mem_cons_of_mem _ (List.mem_append_left _ (List.mem_of_getElem? (i := 0) rfl)))
  have k1 : ∀ w ∈ u_ws RX5 TX5 7, w ∈ wsX5_setPress := fun _ h => List.mem_cons_of_mem _ (List.mem_append_right _ h)
  rw [X5_setPress] at hf
  refine lv_aload_n hx hb dX5_setPress_0 rfl (lv_at hl 0 rfl) ?_
  refine va_get (D := D) (ci := 5) (v := .ref (o_t 5)) (C := RX5) (T := TX5) (N := 7) hx hb hts k1 hown hK hP 0 rfl rfl 4 (by decide) k0 (fun _ h9 => h9) rfl dX5_setPress_1 ?_
  refine lv_iload_n hx hb dX5_setPress_4 rfl (lv_at hl 1 rfl) ?_
  refine lv_bipush (v := (100 : Int32)) hx hb dX5_setPress_5 (by decide) ?_
  refine lv_imul hx hb dX5_setPress_7 ?_
  refine lv_iload_n hx hb dX5_setPress_8 rfl (lv_at hl 2 rfl) ?_
  refine lv_iadd hx hb dX5_setPress_9 ?_
  refine lv_iload_n hx hb dX5_setPress_10 rfl (lv_at hl 3 rfl) ?_
  obtain ⟨w11, b11, ew11, hf⟩ := wrI_s hf
  refine my_iast (ws2 := (wd_X5_setPress cy o_t x_w x_h x_hands w11)) hx hb hK hP hD hS 1 rfl b11 ew11 rfl dX5_setPress_11 (fun H locs hP hD hS => ?_)
  obtain rfl := Option.some.inj hf
  exact hR _ _ _ _ hP hD hS dX5_setPress_12
theorem hd_X5_setPress : yX5_setPress.cls ≠ "java/lang/invoke/MethodHandle" ∧ yX5_setPress.cls ≠ "java/lang/invoke/VarHandle" ∧ (parseMethodDescriptor yX5_setPress.desc).map (fun d => d.parameters.length) = some 3 := by decide +kernel
set_option maxRecDepth 100000 in
theorem c_X5_setPress (l : Launch) (D : va_G) (cy : Nat → ClassId) (t : Nat → Nat) (o_t : Nat → Nat) (x_w : Int32) (x_h : Int32) (x_hands : Int32) (x_pressRow : Nat → Int32) (p1 : Int32) (p2 : Int32) (p3 : Int32) {out : (Nat → Int32)} (hf : X5_setPress x_pressRow p1 p2 p3 = some out) : ctV l yX5_setPress wsX5_setPress 0 0 D cy t [.ref (o_t 0), .int p1, .int p2, .int p3] (wd_X5_setPress cy o_t x_w x_h x_hands x_pressRow) (wd_X5_setPress cy o_t x_w x_h x_hands out) := by
  refine ⟨rfl, ?_⟩
  intro sz
  refine Met.ofW (cc := cX5_setPress) (maxL := 4) (ret := none) (by decide) rfl ?_
  intro p e s m args below meth c s₁ B hml hv
  obtain ⟨rfl, hsz, hP, hK, hD0, hE⟩ := hv
  have hts := atoms_spec (ws := wsX5_setPress) B.pre
  have hown : s.vm.findClass RX5 = some m.cls := findClass_of_methodNamed B.named
  have hlocks := B.notSynchronized
  subst hsz
  have hD := hD0.self (sz := s.heap.size)
  have hl := lv_entry ([.ref (o_t 0), .int p1, .int p2, .int p3]) (n := 4) (Nat.le_of_ble_eq_true rfl)
  rw [lg_entry_eq]
  generalize (lg_sl ([.ref (o_t 0), .int p1, .int p2, .int p3]) ++ List.replicate (4 - (lg_sl ([.ref (o_t 0), .int p1, .int p2, .int p3])).length) Slot.unset).toArray = ls at hl ⊢
  exact w_X5_setPress D cy t o_t x_w x_h x_hands x_pressRow p1 p2 p3 hf B.exec B.bytes hml hown hts hK hE (fun q h => Or.inr h) hP hD va_S.rf hl (fun H locs ls pc hP hD hS hdg => W.vret B.exec B.bytes B.returns (fun t ht hW => ⟨⟨(), rfl, trivial, ctB_of ht hP⟩, hS.F ht⟩) hS.2.2 hdg)

noncomputable def X5_isLeft (x_leftFrom : Nat → Int32) (x_leftTo : Nat → Int32) (p1 : Int32) (p2 : Int32) : Option (Int32) :=
  rd x_leftFrom 6 p1 fun v6 => if p2 < v6 then (zb (0 : Int32) <| some (0 : Int32)) else (rd x_leftTo 6 p1 fun v16 => if v16 ≤ p2 then (zb (0 : Int32) <| some (0 : Int32)) else (zb (1 : Int32) <| some (1 : Int32)))
abbrev wd_X5_isLeft (cy : Nat → ClassId) (o_t : Nat → Nat) (x_w : Int32) (x_h : Int32) (x_hands : Int32) (x_leftFrom : Nat → Int32) (x_leftTo : Nat → Int32) : va_W := [(o_t 0, .inr (5, [.int x_w, .int x_h, .int x_hands, .ref (o_t 4), .ref (o_t 5), .ref (o_t 6), .ref (o_t 7)])), (o_t 6, .inl (cy 0, 6, .inl x_leftFrom)), (o_t 7, .inl (cy 0, 6, .inl x_leftTo))]
set_option maxHeartbeats 4000000 in
set_option maxRecDepth 100000 in
theorem w_X5_isLeft {p : Program} {l : Launch} {e : Env} {s : State} {m : MethodId} {args : Array Value} {below : List Frame} {meth : Method} {c : Code} {Q : State → Prop} {A : Nat → Prop} {H : Heap} {locs : List Loc} {ls : Array Slot} (D : va_G) (cy : Nat → ClassId) (t : Nat → Nat) (o_t : Nat → Nat) (x_w : Int32) (x_h : Int32) (x_hands : Int32) (x_leftFrom : Nat → Int32) (x_leftTo : Nat → Int32) (p1 : Int32) (p2 : Int32) {out : Int32} (hf : X5_isLeft x_leftFrom x_leftTo p1 p2 = some out) (hx : p.tables.exec = Jvm.exec) (hb : c.code = cX5_isLeft) (hml : c.maxLocals = 3) (hown : s.vm.findClass RX5 = some m.cls) (hts : ∀ w ∈ wsX5_isLeft, w.before args s = true) (hK : va_K D vwCl (TYS cy) s) (hE : EV t A s s.heap) (hA : ∀ q, s.heap.size ≤ q → A q) (hP : va_P D vwCl (wd_X5_isLeft cy o_t x_w x_h x_hands x_leftFrom x_leftTo) H) (hD : va_D A (wd_X5_isLeft cy o_t x_w x_h x_hands x_leftFrom x_leftTo)) (hS : va_S A s.heap H locs) (hl : lv_has ls 3 [(0, .ref (o_t 0)), (1, .int p1), (2, .int p2)]) (hR : ∀ (H : Heap) (locs : List Loc) (ls : Array Slot) (pc : Nat), va_P D vwCl (wd_X5_isLeft cy o_t x_w x_h x_hands x_leftFrom x_leftTo) H → va_D A (wd_X5_isLeft cy o_t x_w x_h x_hands x_leftFrom x_leftTo) → va_S A s.heap H locs → narrow .boolean (.int out) = .int out → decode cX5_isLeft pc = .ok (.ireturn, 1) → W p l e (rmm 0 0) s m args below meth c H locs 0 0 Q (F0 m pc ls [.int out])) : W p l e (rmm 0 0) s m args below meth c H locs 0 0 Q (F0 m 0 ls []) := by
  have k0 := hts (.fieldLink RX5 28 "SeaGames$Play" "leftFrom" "[I") (List.mem_cons_of_mem _ (List.mem_append_left _ (List.mem_of_getElem? (i := 0) rfl)))
  have k1 : ∀ w ∈ u_ws RX5 TX5 7, w ∈ wsX5_isLeft := fun _ h => List.mem_cons_of_mem _ (List.mem_append_right _ h)
  have k2 := hts (.fieldLink RX5 31 "SeaGames$Play" "leftTo" "[I") (List.mem_cons_of_mem _ (List.mem_append_left _ (List.mem_of_getElem? (i := 1) rfl)))
  rw [X5_isLeft] at hf
  refine lv_iload_n hx hb dX5_isLeft_0 rfl (lv_at hl 2 rfl) ?_
  refine lv_aload_n hx hb dX5_isLeft_1 rfl (lv_at hl 0 rfl) ?_
  refine va_get (D := D) (ci := 5) (v := .ref (o_t 6)) (C := RX5) (T := TX5) (N := 7) hx hb hts k1 hown hK hP 0 rfl rfl 5 (by decide) k0 (fun _ h9 => h9) rfl dX5_isLeft_2 ?_
  refine lv_iload_n hx hb dX5_isLeft_5 rfl (lv_at hl 1 rfl) ?_
  obtain ⟨v6, b6, ev6, hf⟩ := rd_s hf
  refine my_iald hx hb hK hP 1 rfl b6 ev6 dX5_isLeft_6 ?_
  refine lv_icmp_lt (tgt := 24) hx hb dX5_isLeft_7 (by decide) (fun c7 => ?_) (fun c7 => ?_)
  · have hf := ifp c7 hf
    refine lv_iconst (v := (0 : Int32)) hx hb dX5_isLeft_24 (by decide) ?_
    obtain ⟨z25, hf⟩ := zb_s hf
    obtain rfl := Option.some.inj hf
    exact hR _ _ _ _ hP hD hS z25 dX5_isLeft_25
  · have hf := ifn c7 hf
    refine lv_iload_n hx hb dX5_isLeft_10 rfl (lv_at hl 2 rfl) ?_
    refine lv_aload_n hx hb dX5_isLeft_11 rfl (lv_at hl 0 rfl) ?_
    refine va_get (D := D) (ci := 5) (v := .ref (o_t 7)) (C := RX5) (T := TX5) (N := 7) hx hb hts k1 hown hK hP 0 rfl rfl 6 (by decide) k2 (fun _ h9 => h9) rfl dX5_isLeft_12 ?_
    refine lv_iload_n hx hb dX5_isLeft_15 rfl (lv_at hl 1 rfl) ?_
    obtain ⟨v16, b16, ev16, hf⟩ := rd_s hf
    refine my_iald hx hb hK hP 2 rfl b16 ev16 dX5_isLeft_16 ?_
    refine lv_icmp_ge (tgt := 24) hx hb dX5_isLeft_17 (by decide) (fun c17 => ?_) (fun c17 => ?_)
    · have hf := ifp c17 hf
      refine lv_iconst (v := (0 : Int32)) hx hb dX5_isLeft_24 (by decide) ?_
      obtain ⟨z25, hf⟩ := zb_s hf
      obtain rfl := Option.some.inj hf
      exact hR _ _ _ _ hP hD hS z25 dX5_isLeft_25
    · have hf := ifn c17 hf
      refine lv_iconst (v := (1 : Int32)) hx hb dX5_isLeft_20 (by decide) ?_
      refine lv_goto (tgt := 25) hx hb dX5_isLeft_21 (by decide) ?_
      obtain ⟨z25, hf⟩ := zb_s hf
      obtain rfl := Option.some.inj hf
      exact hR _ _ _ _ hP hD hS z25 dX5_isLeft_25
theorem hd_X5_isLeft : yX5_isLeft.cls ≠ "java/lang/invoke/MethodHandle" ∧ yX5_isLeft.cls ≠ "java/lang/invoke/VarHandle" ∧ (parseMethodDescriptor yX5_isLeft.desc).map (fun d => d.parameters.length) = some 2 := by decide +kernel
set_option maxRecDepth 100000 in
theorem c_X5_isLeft (l : Launch) (D : va_G) (cy : Nat → ClassId) (t : Nat → Nat) (o_t : Nat → Nat) (x_w : Int32) (x_h : Int32) (x_hands : Int32) (x_leftFrom : Nat → Int32) (x_leftTo : Nat → Int32) (p1 : Int32) (p2 : Int32) {out : Int32} (hf : X5_isLeft x_leftFrom x_leftTo p1 p2 = some out) : ctI l yX5_isLeft wsX5_isLeft 0 0 D cy t [.ref (o_t 0), .int p1, .int p2] (wd_X5_isLeft cy o_t x_w x_h x_hands x_leftFrom x_leftTo) (wd_X5_isLeft cy o_t x_w x_h x_hands x_leftFrom x_leftTo) out := by
  refine ⟨rfl, ?_⟩
  intro sz
  refine Met.ofW (cc := cX5_isLeft) (maxL := 3) (ret := (some .boolean)) (by decide) rfl ?_
  intro p e s m args below meth c s₁ B hml hv
  obtain ⟨rfl, hsz, hP, hK, hD0, hE⟩ := hv
  have hts := atoms_spec (ws := wsX5_isLeft) B.pre
  have hown : s.vm.findClass RX5 = some m.cls := findClass_of_methodNamed B.named
  have hlocks := B.notSynchronized
  subst hsz
  have hD := hD0.self (sz := s.heap.size)
  have hl := lv_entry ([.ref (o_t 0), .int p1, .int p2]) (n := 3) (Nat.le_of_ble_eq_true rfl)
  rw [lg_entry_eq]
  generalize (lg_sl ([.ref (o_t 0), .int p1, .int p2]) ++ List.replicate (3 - (lg_sl ([.ref (o_t 0), .int p1, .int p2])).length) Slot.unset).toArray = ls at hl ⊢
  exact w_X5_isLeft D cy t o_t x_w x_h x_hands x_leftFrom x_leftTo p1 p2 hf B.exec B.bytes hml hown hts hK hE (fun q h => Or.inr h) hP hD va_S.rf hl (fun H locs ls pc hP hD hS z hdg => W.zret B.exec B.bytes B.returns z (fun t ht hW => ⟨⟨_, (), rfl, rfl, ctB_of ht hP⟩, hS.F ht⟩) hS.2.2 hdg)

noncomputable def X5_fillPresses_L2_B (n_a2 : Nat) (x_hands : Int32) (x_pressRow : Nat → Int32) (rec2 : (Nat → Int32) → Int32 → Int32 → Option ((Nat → Int32))) (x_a2 : Nat → Int32) (l1 : Int32) (l3 : Int32) : Option ((Nat → Int32)) :=
  if x_hands ≤ l3 then (some x_a2) else (bd (X5_pressOf x_pressRow l3 l1) fun r15 => wrI x_a2 n_a2 l3 r15 fun w18 => nm (l3 + (1 : Int32)) fun v19 => rec2 w18 l1 v19)
noncomputable def X5_fillPresses_L2 (n_a2 : Nat) (x_hands : Int32) (x_pressRow : Nat → Int32) : Nat → (Nat → Int32) → Int32 → Int32 → Option ((Nat → Int32))
  | 0, _, _, _ => none
  | n + 1, y0, y1, y2 => X5_fillPresses_L2_B n_a2 x_hands x_pressRow  (X5_fillPresses_L2 n_a2 x_hands x_pressRow  n) y0 y1 y2
noncomputable def X5_fillPresses (n_a2 : Nat) (x_hands : Int32) (x_pressRow : Nat → Int32) (x_a2 : Nat → Int32) (p1 : Int32) : Option ((Nat → Int32)) :=
  X5_fillPresses_L2 n_a2 x_hands x_pressRow  FU x_a2 p1 (0 : Int32)
abbrev wd_X5_fillPresses (cy : Nat → ClassId) (o_t : Nat → Nat) (r_a2 n_a2 : Nat) (x_w : Int32) (x_h : Int32) (x_hands : Int32) (x_pressRow : Nat → Int32) (x_a2 : Nat → Int32) : va_W := [(o_t 0, .inr (5, [.int x_w, .int x_h, .int x_hands, .ref (o_t 4), .ref (o_t 5), .ref (o_t 6), .ref (o_t 7)])), (o_t 5, .inl (cy 0, 600, .inl x_pressRow)), (r_a2, .inl (cy 0, n_a2, .inl x_a2))]
set_option maxHeartbeats 4000000 in
set_option maxRecDepth 100000 in
theorem w_X5_fillPresses {p : Program} {l : Launch} {e : Env} {s : State} {m : MethodId} {args : Array Value} {below : List Frame} {meth : Method} {c : Code} {Q : State → Prop} {A : Nat → Prop} {H : Heap} {locs : List Loc} {ls : Array Slot} (D : va_G) (cy : Nat → ClassId) (t : Nat → Nat) (o_t : Nat → Nat) (r_a2 n_a2 : Nat) (x_w : Int32) (x_h : Int32) (x_hands : Int32) (x_pressRow : Nat → Int32) (x_a2 : Nat → Int32) (p1 : Int32) {out : (Nat → Int32)} (hf : X5_fillPresses n_a2 x_hands x_pressRow x_a2 p1 = some out) (hx : p.tables.exec = Jvm.exec) (hb : c.code = cX5_fillPresses) (hml : c.maxLocals = 4) (hown : s.vm.findClass RX5 = some m.cls) (hts : ∀ w ∈ wsX5_fillPresses, w.before args s = true) (hK : va_K D vwCl (TYS cy) s) (hE : EV t A s s.heap) (hA : ∀ q, s.heap.size ≤ q → A q) (hP : va_P D vwCl (wd_X5_fillPresses cy o_t r_a2 n_a2 x_w x_h x_hands x_pressRow x_a2) H) (hD : va_D A (wd_X5_fillPresses cy o_t r_a2 n_a2 x_w x_h x_hands x_pressRow x_a2)) (hS : va_S A s.heap H locs) (hl : lv_has ls 4 [(0, .ref (o_t 0)), (1, .int p1), (2, .ref r_a2)]) (hR : ∀ (H : Heap) (locs : List Loc) (ls : Array Slot) (pc : Nat), va_P D vwCl (wd_X5_fillPresses cy o_t r_a2 n_a2 x_w x_h x_hands x_pressRow out) H → va_D A (wd_X5_fillPresses cy o_t r_a2 n_a2 x_w x_h x_hands x_pressRow out) → va_S A s.heap H locs → decode cX5_fillPresses pc = .ok (.return_, 1) → W p l e (rmm 1 22) s m args below meth c H locs 0 0 Q (F0 m pc ls [])) : W p l e (rmm 1 22) s m args below meth c H locs 0 0 Q (F0 m 0 ls []) := by
  have k0 := hts (.fieldLink RX5 18 "SeaGames$Play" "hands" "I") (List.mem_cons_of_mem _ (List.mem_append_left _ (List.mem_of_getElem? (i := 0) rfl)))
  have k1 : ∀ w ∈ u_ws RX5 TX5 7, w ∈ wsX5_fillPresses := fun _ h => List.mem_cons_of_mem _ (List.mem_append_right _ h)
  rw [X5_fillPresses] at hf
  have h2 : ∀ (n2 : Nat) (x_a2 : Nat → Int32) (l1 : Int32) (l3 : Int32) (H : Heap) (locs : List Loc) (ls : Array Slot), X5_fillPresses_L2 n_a2 x_hands x_pressRow n2 x_a2 l1 l3 = some out → va_P D vwCl (wd_X5_fillPresses cy o_t r_a2 n_a2 x_w x_h x_hands x_pressRow x_a2) H → va_D A (wd_X5_fillPresses cy o_t r_a2 n_a2 x_w x_h x_hands x_pressRow x_a2) → va_S A s.heap H locs → lv_has ls 4 [(0, .ref (o_t 0)), (1, .int l1), (2, .ref r_a2), (3, .int l3)] → W p l e (rmm 1 22) s m args below meth c H locs 0 0 Q (F0 m 2 ls []) := by
    intro n2
    induction n2 with
    | zero =>
      intro _ _ _ _ _ _ hf
      exact nomatch (show (none : Option _) = some out from hf)
    | succ n2 ih2 =>
      intro x_a2 l1 l3 H locs ls hf hP hD hS hl
      have hf : X5_fillPresses_L2_B n_a2 x_hands x_pressRow (X5_fillPresses_L2 n_a2 x_hands x_pressRow n2) x_a2 l1 l3 = some out := hf
      rw [X5_fillPresses_L2_B] at hf
      refine lv_iload_n hx hb dX5_fillPresses_2 rfl (lv_at hl 3 rfl) ?_
      refine lv_aload_n hx hb dX5_fillPresses_3 rfl (lv_at hl 0 rfl) ?_
      refine va_get (D := D) (ci := 5) (v := .int x_hands) (C := RX5) (T := TX5) (N := 7) hx hb hts k1 hown hK hP 0 rfl rfl 2 (by decide) k0 (fun _ h9 => h9) rfl dX5_fillPresses_4 ?_
      refine lv_icmp_ge (tgt := 25) hx hb dX5_fillPresses_7 (by decide) (fun c7 => ?_) (fun c7 => ?_)
      · have hf := ifp c7 hf
        obtain rfl := Option.some.inj hf
        exact hR _ _ _ _ hP hD hS dX5_fillPresses_25
      · have hf := ifn c7 hf
        refine lv_aload_n hx hb dX5_fillPresses_10 rfl (lv_at hl 2 rfl) ?_
        refine lv_iload_n hx hb dX5_fillPresses_11 rfl (lv_at hl 3 rfl) ?_
        refine lv_aload_n hx hb dX5_fillPresses_12 rfl (lv_at hl 0 rfl) ?_
        refine lv_iload_n hx hb dX5_fillPresses_13 rfl (lv_at hl 3 rfl) ?_
        refine lv_iload_n hx hb dX5_fillPresses_14 rfl (lv_at hl 1 rfl) ?_
        obtain ⟨r15, hr15, hf⟩ := bd_s hf
        refine my_Vi (WS2 := (wd_X5_fillPresses cy o_t r_a2 n_a2 x_w x_h x_hands x_pressRow x_a2)) ⟨hx, hb, hml, hown, hts⟩ (c_X5_pressOf l D cy t o_t x_w x_h x_hands x_pressRow l3 l1 hr15) (cwV 2 hts gX5_fillPresses_X5_pressOf rfl rfl rfl ⟨rfl, hd_X5_pressOf⟩ ⟨Nat.le_of_ble_eq_true rfl, Nat.le_of_ble_eq_true rfl⟩) hK hE hP hD hS hA [0, 1] 3 5 0 rfl rfl rfl rfl (by decide +kernel) rfl rfl hl.1 rfl (Nat.le_of_ble_eq_true rfl) dX5_fillPresses_15 ⟨Nat.le_of_ble_eq_true rfl, Nat.le_of_ble_eq_true rfl⟩ (fun H locs hP hD hS => ?_)
        obtain ⟨w18, b18, ew18, hf⟩ := wrI_s hf
        refine my_iast (ws2 := (wd_X5_fillPresses cy o_t r_a2 n_a2 x_w x_h x_hands x_pressRow w18)) hx hb hK hP hD hS 2 rfl b18 ew18 rfl dX5_fillPresses_18 (fun H locs hP hD hS => ?_)
        obtain ⟨v19, ev19, hf⟩ := nm_s hf
        refine lv_iinc (v := v19) (lv' := [(3, .int v19), (0, .ref (o_t 0)), (1, .int l1), (2, .ref r_a2)]) hx hb dX5_fillPresses_19 hl (k := 3) rfl (by rw [ev19]; rfl) (by decide) rfl (fun ls hl => ?_)
        refine lv_goto (tgt := 2) hx hb dX5_fillPresses_22 (by decide) ?_
        exact ih2 _ _ _ _ _ _ hf hP hD hS (lv_sub hl [1, 2, 3, 0] rfl)
  refine lv_iconst (v := (0 : Int32)) hx hb dX5_fillPresses_0 (by decide) ?_
  refine lv_istore_n (lv' := [(3, .int (0 : Int32)), (0, .ref (o_t 0)), (1, .int p1), (2, .ref r_a2)]) hx hb dX5_fillPresses_1 rfl hl (by decide) rfl (fun ls hl => ?_)
  exact h2 FU _ _ _ _ _ _ hf hP hD hS (lv_sub hl [1, 2, 3, 0] rfl)
theorem hd_X5_fillPresses : yX5_fillPresses.cls ≠ "java/lang/invoke/MethodHandle" ∧ yX5_fillPresses.cls ≠ "java/lang/invoke/VarHandle" ∧ (parseMethodDescriptor yX5_fillPresses.desc).map (fun d => d.parameters.length) = some 2 := by decide +kernel
set_option maxRecDepth 100000 in
theorem c_X5_fillPresses (l : Launch) (D : va_G) (cy : Nat → ClassId) (t : Nat → Nat) (o_t : Nat → Nat) (r_a2 n_a2 : Nat) (x_w : Int32) (x_h : Int32) (x_hands : Int32) (x_pressRow : Nat → Int32) (x_a2 : Nat → Int32) (p1 : Int32) {out : (Nat → Int32)} (hf : X5_fillPresses n_a2 x_hands x_pressRow x_a2 p1 = some out) : ctV l yX5_fillPresses wsX5_fillPresses 1 22 D cy t [.ref (o_t 0), .int p1, .ref r_a2] (wd_X5_fillPresses cy o_t r_a2 n_a2 x_w x_h x_hands x_pressRow x_a2) (wd_X5_fillPresses cy o_t r_a2 n_a2 x_w x_h x_hands x_pressRow out) := by
  refine ⟨rfl, ?_⟩
  intro sz
  refine Met.ofW (cc := cX5_fillPresses) (maxL := 4) (ret := none) (by decide) rfl ?_
  intro p e s m args below meth c s₁ B hml hv
  obtain ⟨rfl, hsz, hP, hK, hD0, hE⟩ := hv
  have hts := atoms_spec (ws := wsX5_fillPresses) B.pre
  have hown : s.vm.findClass RX5 = some m.cls := findClass_of_methodNamed B.named
  have hlocks := B.notSynchronized
  subst hsz
  have hD := hD0.self (sz := s.heap.size)
  have hl := lv_entry ([.ref (o_t 0), .int p1, .ref r_a2]) (n := 4) (Nat.le_of_ble_eq_true rfl)
  rw [lg_entry_eq]
  generalize (lg_sl ([.ref (o_t 0), .int p1, .ref r_a2]) ++ List.replicate (4 - (lg_sl ([.ref (o_t 0), .int p1, .ref r_a2])).length) Slot.unset).toArray = ls at hl ⊢
  exact w_X5_fillPresses D cy t o_t r_a2 n_a2 x_w x_h x_hands x_pressRow x_a2 p1 hf B.exec B.bytes hml hown hts hK hE (fun q h => Or.inr h) hP hD va_S.rf hl (fun H locs ls pc hP hD hS hdg => W.vret B.exec B.bytes B.returns (fun t ht hW => ⟨⟨(), rfl, trivial, ctB_of ht hP⟩, hS.F ht⟩) hS.2.2 hdg)

noncomputable def X5_pressed_J27 (x_hands : Int32) (x_pressRow : Nat → Int32) (rec4 : Int32 → Int32 → Option (Int32)) (l1 : Int32) (l2 : Int32) : Option (Int32) :=
  nm (l2 + (1 : Int32)) fun v27 => rec4  l1 v27
noncomputable def X5_pressed_L4_B (x_hands : Int32) (x_pressRow : Nat → Int32) (rec4 : Int32 → Int32 → Option (Int32)) (l1 : Int32) (l2 : Int32) : Option (Int32) :=
  if (x_hands * (100 : Int32)) ≤ l2 then (some l1) else (rd x_pressRow 600 l2 fun v20 => if v20 = (0 : Int32) then (X5_pressed_J27 x_hands x_pressRow rec4  l1 l2) else (nm (l1 + (1 : Int32)) fun v24 => X5_pressed_J27 x_hands x_pressRow rec4  v24 l2))
noncomputable def X5_pressed_L4 (x_hands : Int32) (x_pressRow : Nat → Int32) : Nat → Int32 → Int32 → Option (Int32)
  | 0, _, _ => none
  | n + 1, y0, y1 => X5_pressed_L4_B x_hands x_pressRow  (X5_pressed_L4 x_hands x_pressRow  n) y0 y1
noncomputable def X5_pressed (x_hands : Int32) (x_pressRow : Nat → Int32) : Option (Int32) :=
  X5_pressed_L4 x_hands x_pressRow  FU  (0 : Int32) (0 : Int32)
abbrev wd_X5_pressed (cy : Nat → ClassId) (o_t : Nat → Nat) (x_w : Int32) (x_h : Int32) (x_hands : Int32) (x_pressRow : Nat → Int32) : va_W := [(o_t 0, .inr (5, [.int x_w, .int x_h, .int x_hands, .ref (o_t 4), .ref (o_t 5), .ref (o_t 6), .ref (o_t 7)])), (o_t 5, .inl (cy 0, 600, .inl x_pressRow))]
set_option maxHeartbeats 4000000 in
set_option maxRecDepth 100000 in
theorem w_X5_pressed {p : Program} {l : Launch} {e : Env} {s : State} {m : MethodId} {args : Array Value} {below : List Frame} {meth : Method} {c : Code} {Q : State → Prop} {A : Nat → Prop} {H : Heap} {locs : List Loc} {ls : Array Slot} (D : va_G) (cy : Nat → ClassId) (t : Nat → Nat) (o_t : Nat → Nat) (x_w : Int32) (x_h : Int32) (x_hands : Int32) (x_pressRow : Nat → Int32) {out : Int32} (hf : X5_pressed x_hands x_pressRow = some out) (hx : p.tables.exec = Jvm.exec) (hb : c.code = cX5_pressed) (hml : c.maxLocals = 3) (hown : s.vm.findClass RX5 = some m.cls) (hts : ∀ w ∈ wsX5_pressed, w.before args s = true) (hK : va_K D vwCl (TYS cy) s) (hE : EV t A s s.heap) (hA : ∀ q, s.heap.size ≤ q → A q) (hP : va_P D vwCl (wd_X5_pressed cy o_t x_w x_h x_hands x_pressRow) H) (hD : va_D A (wd_X5_pressed cy o_t x_w x_h x_hands x_pressRow)) (hS : va_S A s.heap H locs) (hl : lv_has ls 3 [(0, .ref (o_t 0))]) (hR : ∀ (H : Heap) (locs : List Loc) (ls : Array Slot) (pc : Nat), va_P D vwCl (wd_X5_pressed cy o_t x_w x_h x_hands x_pressRow) H → va_D A (wd_X5_pressed cy o_t x_w x_h x_hands x_pressRow) → va_S A s.heap H locs → decode cX5_pressed pc = .ok (.ireturn, 1) → W p l e (rmm 0 0) s m args below meth c H locs 0 0 Q (F0 m pc ls [.int out])) : W p l e (rmm 0 0) s m args below meth c H locs 0 0 Q (F0 m 0 ls []) := by
  have k0 := hts (.fieldLink RX5 18 "SeaGames$Play" "hands" "I") (List.mem_cons_of_mem _ (List.mem_append_left _ (List.mem_of_getElem? (i := 0) rfl)))
  have k1 : ∀ w ∈ u_ws RX5 TX5 7, w ∈ wsX5_pressed := fun _ h => List.mem_cons_of_mem _ (List.mem_append_right _ h)
  have k2 := hts (.fieldLink RX5 25 "SeaGames$Play" "pressRow" "[I") (List.mem_cons_of_mem _ (List.mem_append_left _ (List.mem_of_getElem? (i := 1) rfl)))
  rw [X5_pressed] at hf
  have h4 : ∀ (n4 : Nat) (l1 : Int32) (l2 : Int32) (H : Heap) (locs : List Loc) (ls : Array Slot), X5_pressed_L4 x_hands x_pressRow n4 l1 l2 = some out → va_P D vwCl (wd_X5_pressed cy o_t x_w x_h x_hands x_pressRow) H → va_D A (wd_X5_pressed cy o_t x_w x_h x_hands x_pressRow) → va_S A s.heap H locs → lv_has ls 3 [(0, .ref (o_t 0)), (1, .int l1), (2, .int l2)] → W p l e (rmm 0 0) s m args below meth c H locs 0 0 Q (F0 m 4 ls []) := by
    intro n4
    induction n4 with
    | zero =>
      intro _ _ _ _ _ hf
      exact nomatch (show (none : Option _) = some out from hf)
    | succ n4 ih4 =>
      intro l1 l2 H locs ls hf hP hD hS hl
      have hf : X5_pressed_L4_B x_hands x_pressRow (X5_pressed_L4 x_hands x_pressRow n4) l1 l2 = some out := hf
      rw [X5_pressed_L4_B] at hf
      refine lv_iload_n hx hb dX5_pressed_4 rfl (lv_at hl 2 rfl) ?_
      refine lv_aload_n hx hb dX5_pressed_5 rfl (lv_at hl 0 rfl) ?_
      refine va_get (D := D) (ci := 5) (v := .int x_hands) (C := RX5) (T := TX5) (N := 7) hx hb hts k1 hown hK hP 0 rfl rfl 2 (by decide) k0 (fun _ h9 => h9) rfl dX5_pressed_6 ?_
      refine lv_bipush (v := (100 : Int32)) hx hb dX5_pressed_9 (by decide) ?_
      refine lv_imul hx hb dX5_pressed_11 ?_
      refine lv_icmp_ge (tgt := 33) hx hb dX5_pressed_12 (by decide) (fun c12 => ?_) (fun c12 => ?_)
      · have hf := ifp c12 hf
        refine lv_iload_n hx hb dX5_pressed_33 rfl (lv_at hl 1 rfl) ?_
        obtain rfl := Option.some.inj hf
        exact hR _ _ _ _ hP hD hS dX5_pressed_34
      · have hf := ifn c12 hf
        have h27 : ∀ (l1 : Int32) (l2 : Int32) (H : Heap) (locs : List Loc) (ls : Array Slot), X5_pressed_J27 x_hands x_pressRow (X5_pressed_L4 x_hands x_pressRow n4) l1 l2 = some out → va_P D vwCl (wd_X5_pressed cy o_t x_w x_h x_hands x_pressRow) H → va_D A (wd_X5_pressed cy o_t x_w x_h x_hands x_pressRow) → va_S A s.heap H locs → lv_has ls 3 [(0, .ref (o_t 0)), (1, .int l1), (2, .int l2)] → W p l e (rmm 0 0) s m args below meth c H locs 0 0 Q (F0 m 27 ls []) := by
          intro l1 l2 H locs ls hf hP hD hS hl
          rw [X5_pressed_J27] at hf
          obtain ⟨v27, ev27, hf⟩ := nm_s hf
          refine lv_iinc (v := v27) (lv' := [(2, .int v27), (0, .ref (o_t 0)), (1, .int l1)]) hx hb dX5_pressed_27 hl (k := 2) rfl (by rw [ev27]; rfl) (by decide) rfl (fun ls hl => ?_)
          refine lv_goto (tgt := 4) hx hb dX5_pressed_30 (by decide) ?_
          exact ih4 _ _ _ _ _ hf hP hD hS (lv_sub hl [1, 2, 0] rfl)
        refine lv_aload_n hx hb dX5_pressed_15 rfl (lv_at hl 0 rfl) ?_
        refine va_get (D := D) (ci := 5) (v := .ref (o_t 5)) (C := RX5) (T := TX5) (N := 7) hx hb hts k1 hown hK hP 0 rfl rfl 4 (by decide) k2 (fun _ h9 => h9) rfl dX5_pressed_16 ?_
        refine lv_iload_n hx hb dX5_pressed_19 rfl (lv_at hl 2 rfl) ?_
        obtain ⟨v20, b20, ev20, hf⟩ := rd_s hf
        refine my_iald hx hb hK hP 1 rfl b20 ev20 dX5_pressed_20 ?_
        refine lv_if_eq (tgt := 27) hx hb dX5_pressed_21 (by decide) (fun c21 => ?_) (fun c21 => ?_)
        · have hf := ifp c21 hf
          exact h27 _ _ _ _ _ hf hP hD hS (lv_sub hl [0, 1, 2] rfl)
        · have hf := ifn c21 hf
          obtain ⟨v24, ev24, hf⟩ := nm_s hf
          refine lv_iinc (v := v24) (lv' := [(1, .int v24), (0, .ref (o_t 0)), (2, .int l2)]) hx hb dX5_pressed_24 hl (k := 1) rfl (by rw [ev24]; rfl) (by decide) rfl (fun ls hl => ?_)
          exact h27 _ _ _ _ _ hf hP hD hS (lv_sub hl [1, 0, 2] rfl)
  refine lv_iconst (v := (0 : Int32)) hx hb dX5_pressed_0 (by decide) ?_
  refine lv_istore_n (lv' := [(1, .int (0 : Int32)), (0, .ref (o_t 0))]) hx hb dX5_pressed_1 rfl hl (by decide) rfl (fun ls hl => ?_)
  refine lv_iconst (v := (0 : Int32)) hx hb dX5_pressed_2 (by decide) ?_
  refine lv_istore_n (lv' := [(2, .int (0 : Int32)), (1, .int (0 : Int32)), (0, .ref (o_t 0))]) hx hb dX5_pressed_3 rfl hl (by decide) rfl (fun ls hl => ?_)
  exact h4 FU _ _ _ _ _ hf hP hD hS (lv_sub hl [2, 1, 0] rfl)
theorem hd_X5_pressed : yX5_pressed.cls ≠ "java/lang/invoke/MethodHandle" ∧ yX5_pressed.cls ≠ "java/lang/invoke/VarHandle" ∧ (parseMethodDescriptor yX5_pressed.desc).map (fun d => d.parameters.length) = some 0 := by decide +kernel
set_option maxRecDepth 100000 in
theorem c_X5_pressed (l : Launch) (D : va_G) (cy : Nat → ClassId) (t : Nat → Nat) (o_t : Nat → Nat) (x_w : Int32) (x_h : Int32) (x_hands : Int32) (x_pressRow : Nat → Int32) {out : Int32} (hf : X5_pressed x_hands x_pressRow = some out) : ctI l yX5_pressed wsX5_pressed 0 0 D cy t [.ref (o_t 0)] (wd_X5_pressed cy o_t x_w x_h x_hands x_pressRow) (wd_X5_pressed cy o_t x_w x_h x_hands x_pressRow) out := by
  refine ⟨rfl, ?_⟩
  intro sz
  refine Met.ofW (cc := cX5_pressed) (maxL := 3) (ret := (some .int)) (by decide) rfl ?_
  intro p e s m args below meth c s₁ B hml hv
  obtain ⟨rfl, hsz, hP, hK, hD0, hE⟩ := hv
  have hts := atoms_spec (ws := wsX5_pressed) B.pre
  have hown : s.vm.findClass RX5 = some m.cls := findClass_of_methodNamed B.named
  have hlocks := B.notSynchronized
  subst hsz
  have hD := hD0.self (sz := s.heap.size)
  have hl := lv_entry ([.ref (o_t 0)]) (n := 3) (Nat.le_of_ble_eq_true rfl)
  rw [lg_entry_eq]
  generalize (lg_sl ([.ref (o_t 0)]) ++ List.replicate (3 - (lg_sl ([.ref (o_t 0)])).length) Slot.unset).toArray = ls at hl ⊢
  exact w_X5_pressed D cy t o_t x_w x_h x_hands x_pressRow hf B.exec B.bytes hml hown hts hK hE (fun q h => Or.inr h) hP hD va_S.rf hl (fun H locs ls pc hP hD hS hdg => W.iret B.exec B.bytes B.returns (fun t ht hW => ⟨⟨_, (), rfl, rfl, ctB_of ht hP⟩, hS.F ht⟩) hS.2.2 hdg)

noncomputable def X5_leftTicks_L4_B (x_hands : Int32) (x_leftFrom : Nat → Int32) (x_leftTo : Nat → Int32) (rec4 : Int32 → Int32 → Option (Int32)) (l1 : Int32) (l2 : Int32) : Option (Int32) :=
  if x_hands ≤ l2 then (some l1) else (rd x_leftTo 6 l2 fun v18 => rd x_leftFrom 6 l2 fun v24 => nm (l1 + (v18 - v24)) fun v27 => nm (l2 + (1 : Int32)) fun v28 => rec4  v27 v28)
noncomputable def X5_leftTicks_L4 (x_hands : Int32) (x_leftFrom : Nat → Int32) (x_leftTo : Nat → Int32) : Nat → Int32 → Int32 → Option (Int32)
  | 0, _, _ => none
  | n + 1, y0, y1 => X5_leftTicks_L4_B x_hands x_leftFrom x_leftTo  (X5_leftTicks_L4 x_hands x_leftFrom x_leftTo  n) y0 y1
noncomputable def X5_leftTicks (x_hands : Int32) (x_leftFrom : Nat → Int32) (x_leftTo : Nat → Int32) : Option (Int32) :=
  X5_leftTicks_L4 x_hands x_leftFrom x_leftTo  FU  (0 : Int32) (0 : Int32)
abbrev wd_X5_leftTicks (cy : Nat → ClassId) (o_t : Nat → Nat) (x_w : Int32) (x_h : Int32) (x_hands : Int32) (x_leftFrom : Nat → Int32) (x_leftTo : Nat → Int32) : va_W := [(o_t 0, .inr (5, [.int x_w, .int x_h, .int x_hands, .ref (o_t 4), .ref (o_t 5), .ref (o_t 6), .ref (o_t 7)])), (o_t 6, .inl (cy 0, 6, .inl x_leftFrom)), (o_t 7, .inl (cy 0, 6, .inl x_leftTo))]
set_option maxHeartbeats 4000000 in
set_option maxRecDepth 100000 in
theorem w_X5_leftTicks {p : Program} {l : Launch} {e : Env} {s : State} {m : MethodId} {args : Array Value} {below : List Frame} {meth : Method} {c : Code} {Q : State → Prop} {A : Nat → Prop} {H : Heap} {locs : List Loc} {ls : Array Slot} (D : va_G) (cy : Nat → ClassId) (t : Nat → Nat) (o_t : Nat → Nat) (x_w : Int32) (x_h : Int32) (x_hands : Int32) (x_leftFrom : Nat → Int32) (x_leftTo : Nat → Int32) {out : Int32} (hf : X5_leftTicks x_hands x_leftFrom x_leftTo = some out) (hx : p.tables.exec = Jvm.exec) (hb : c.code = cX5_leftTicks) (hml : c.maxLocals = 3) (hown : s.vm.findClass RX5 = some m.cls) (hts : ∀ w ∈ wsX5_leftTicks, w.before args s = true) (hK : va_K D vwCl (TYS cy) s) (hE : EV t A s s.heap) (hA : ∀ q, s.heap.size ≤ q → A q) (hP : va_P D vwCl (wd_X5_leftTicks cy o_t x_w x_h x_hands x_leftFrom x_leftTo) H) (hD : va_D A (wd_X5_leftTicks cy o_t x_w x_h x_hands x_leftFrom x_leftTo)) (hS : va_S A s.heap H locs) (hl : lv_has ls 3 [(0, .ref (o_t 0))]) (hR : ∀ (H : Heap) (locs : List Loc) (ls : Array Slot) (pc : Nat), va_P D vwCl (wd_X5_leftTicks cy o_t x_w x_h x_hands x_leftFrom x_leftTo) H → va_D A (wd_X5_leftTicks cy o_t x_w x_h x_hands x_leftFrom x_leftTo) → va_S A s.heap H locs → decode cX5_leftTicks pc = .ok (.ireturn, 1) → W p l e (rmm 0 0) s m args below meth c H locs 0 0 Q (F0 m pc ls [.int out])) : W p l e (rmm 0 0) s m args below meth c H locs 0 0 Q (F0 m 0 ls []) := by
  have k0 := hts (.fieldLink RX5 18 "SeaGames$Play" "hands" "I") (List.mem_cons_of_mem _ (List.mem_append_left _ (List.mem_of_getElem? (i := 0) rfl)))
  have k1 : ∀ w ∈ u_ws RX5 TX5 7, w ∈ wsX5_leftTicks := fun _ h => List.mem_cons_of_mem _ (List.mem_append_right _ h)
  have k2 := hts (.fieldLink RX5 31 "SeaGames$Play" "leftTo" "[I") (List.mem_cons_of_mem _ (List.mem_append_left _ (List.mem_of_getElem? (i := 1) rfl)))
  have k3 := hts (.fieldLink RX5 28 "SeaGames$Play" "leftFrom" "[I") (List.mem_cons_of_mem _ (List.mem_append_left _ (List.mem_of_getElem? (i := 2) rfl)))
  rw [X5_leftTicks] at hf
  have h4 : ∀ (n4 : Nat) (l1 : Int32) (l2 : Int32) (H : Heap) (locs : List Loc) (ls : Array Slot), X5_leftTicks_L4 x_hands x_leftFrom x_leftTo n4 l1 l2 = some out → va_P D vwCl (wd_X5_leftTicks cy o_t x_w x_h x_hands x_leftFrom x_leftTo) H → va_D A (wd_X5_leftTicks cy o_t x_w x_h x_hands x_leftFrom x_leftTo) → va_S A s.heap H locs → lv_has ls 3 [(0, .ref (o_t 0)), (1, .int l1), (2, .int l2)] → W p l e (rmm 0 0) s m args below meth c H locs 0 0 Q (F0 m 4 ls []) := by
    intro n4
    induction n4 with
    | zero =>
      intro _ _ _ _ _ hf
      exact nomatch (show (none : Option _) = some out from hf)
    | succ n4 ih4 =>
      intro l1 l2 H locs ls hf hP hD hS hl
      have hf : X5_leftTicks_L4_B x_hands x_leftFrom x_leftTo (X5_leftTicks_L4 x_hands x_leftFrom x_leftTo n4) l1 l2 = some out := hf
      rw [X5_leftTicks_L4_B] at hf
      refine lv_iload_n hx hb dX5_leftTicks_4 rfl (lv_at hl 2 rfl) ?_
      refine lv_aload_n hx hb dX5_leftTicks_5 rfl (lv_at hl 0 rfl) ?_
      refine va_get (D := D) (ci := 5) (v := .int x_hands) (C := RX5) (T := TX5) (N := 7) hx hb hts k1 hown hK hP 0 rfl rfl 2 (by decide) k0 (fun _ h9 => h9) rfl dX5_leftTicks_6 ?_
      refine lv_icmp_ge (tgt := 34) hx hb dX5_leftTicks_9 (by decide) (fun c9 => ?_) (fun c9 => ?_)
      · have hf := ifp c9 hf
        refine lv_iload_n hx hb dX5_leftTicks_34 rfl (lv_at hl 1 rfl) ?_
        obtain rfl := Option.some.inj hf
        exact hR _ _ _ _ hP hD hS dX5_leftTicks_35
      · have hf := ifn c9 hf
        refine lv_iload_n hx hb dX5_leftTicks_12 rfl (lv_at hl 1 rfl) ?_
        refine lv_aload_n hx hb dX5_leftTicks_13 rfl (lv_at hl 0 rfl) ?_
        refine va_get (D := D) (ci := 5) (v := .ref (o_t 7)) (C := RX5) (T := TX5) (N := 7) hx hb hts k1 hown hK hP 0 rfl rfl 6 (by decide) k2 (fun _ h9 => h9) rfl dX5_leftTicks_14 ?_
        refine lv_iload_n hx hb dX5_leftTicks_17 rfl (lv_at hl 2 rfl) ?_
        obtain ⟨v18, b18, ev18, hf⟩ := rd_s hf
        refine my_iald hx hb hK hP 2 rfl b18 ev18 dX5_leftTicks_18 ?_
        refine lv_aload_n hx hb dX5_leftTicks_19 rfl (lv_at hl 0 rfl) ?_
        refine va_get (D := D) (ci := 5) (v := .ref (o_t 6)) (C := RX5) (T := TX5) (N := 7) hx hb hts k1 hown hK hP 0 rfl rfl 5 (by decide) k3 (fun _ h9 => h9) rfl dX5_leftTicks_20 ?_
        refine lv_iload_n hx hb dX5_leftTicks_23 rfl (lv_at hl 2 rfl) ?_
        obtain ⟨v24, b24, ev24, hf⟩ := rd_s hf
        refine my_iald hx hb hK hP 1 rfl b24 ev24 dX5_leftTicks_24 ?_
        refine lv_isub hx hb dX5_leftTicks_25 ?_
        refine lv_iadd hx hb dX5_leftTicks_26 ?_
        obtain ⟨v27, ev27, hf⟩ := nm_s hf
        refine my_topi ev27 ?_
        refine lv_istore_n (lv' := [(1, .int v27), (0, .ref (o_t 0)), (2, .int l2)]) hx hb dX5_leftTicks_27 rfl hl (by decide) rfl (fun ls hl => ?_)
        obtain ⟨v28, ev28, hf⟩ := nm_s hf
        refine lv_iinc (v := v28) (lv' := [(2, .int v28), (1, .int v27), (0, .ref (o_t 0))]) hx hb dX5_leftTicks_28 hl (k := 2) rfl (by rw [ev28]; rfl) (by decide) rfl (fun ls hl => ?_)
        refine lv_goto (tgt := 4) hx hb dX5_leftTicks_31 (by decide) ?_
        exact ih4 _ _ _ _ _ hf hP hD hS (lv_sub hl [2, 1, 0] rfl)
  refine lv_iconst (v := (0 : Int32)) hx hb dX5_leftTicks_0 (by decide) ?_
  refine lv_istore_n (lv' := [(1, .int (0 : Int32)), (0, .ref (o_t 0))]) hx hb dX5_leftTicks_1 rfl hl (by decide) rfl (fun ls hl => ?_)
  refine lv_iconst (v := (0 : Int32)) hx hb dX5_leftTicks_2 (by decide) ?_
  refine lv_istore_n (lv' := [(2, .int (0 : Int32)), (1, .int (0 : Int32)), (0, .ref (o_t 0))]) hx hb dX5_leftTicks_3 rfl hl (by decide) rfl (fun ls hl => ?_)
  exact h4 FU _ _ _ _ _ hf hP hD hS (lv_sub hl [2, 1, 0] rfl)
theorem hd_X5_leftTicks : yX5_leftTicks.cls ≠ "java/lang/invoke/MethodHandle" ∧ yX5_leftTicks.cls ≠ "java/lang/invoke/VarHandle" ∧ (parseMethodDescriptor yX5_leftTicks.desc).map (fun d => d.parameters.length) = some 0 := by decide +kernel
set_option maxRecDepth 100000 in
theorem c_X5_leftTicks (l : Launch) (D : va_G) (cy : Nat → ClassId) (t : Nat → Nat) (o_t : Nat → Nat) (x_w : Int32) (x_h : Int32) (x_hands : Int32) (x_leftFrom : Nat → Int32) (x_leftTo : Nat → Int32) {out : Int32} (hf : X5_leftTicks x_hands x_leftFrom x_leftTo = some out) : ctI l yX5_leftTicks wsX5_leftTicks 0 0 D cy t [.ref (o_t 0)] (wd_X5_leftTicks cy o_t x_w x_h x_hands x_leftFrom x_leftTo) (wd_X5_leftTicks cy o_t x_w x_h x_hands x_leftFrom x_leftTo) out := by
  refine ⟨rfl, ?_⟩
  intro sz
  refine Met.ofW (cc := cX5_leftTicks) (maxL := 3) (ret := (some .int)) (by decide) rfl ?_
  intro p e s m args below meth c s₁ B hml hv
  obtain ⟨rfl, hsz, hP, hK, hD0, hE⟩ := hv
  have hts := atoms_spec (ws := wsX5_leftTicks) B.pre
  have hown : s.vm.findClass RX5 = some m.cls := findClass_of_methodNamed B.named
  have hlocks := B.notSynchronized
  subst hsz
  have hD := hD0.self (sz := s.heap.size)
  have hl := lv_entry ([.ref (o_t 0)]) (n := 3) (Nat.le_of_ble_eq_true rfl)
  rw [lg_entry_eq]
  generalize (lg_sl ([.ref (o_t 0)]) ++ List.replicate (3 - (lg_sl ([.ref (o_t 0)])).length) Slot.unset).toArray = ls at hl ⊢
  exact w_X5_leftTicks D cy t o_t x_w x_h x_hands x_leftFrom x_leftTo hf B.exec B.bytes hml hown hts hK hE (fun q h => Or.inr h) hP hD va_S.rf hl (fun H locs ls pc hP hD hS hdg => W.iret B.exec B.bytes B.returns (fun t ht hW => ⟨⟨_, (), rfl, rfl, ctB_of ht hP⟩, hS.F ht⟩) hS.2.2 hdg)

noncomputable def X6_keepBelow (x_ready : Int32) (p1 : Int32) : Option (Int32) :=
  some (if p1 < x_ready then p1 else x_ready)
abbrev wd_X6_keepBelow (cy : Nat → ClassId) (o_t : Nat → Nat) (x_ready : Int32) : va_W := [(o_t 0, .inr (6, [.ref (o_t 1), .int x_ready]))]
set_option maxHeartbeats 4000000 in
set_option maxRecDepth 100000 in
theorem w_X6_keepBelow {p : Program} {l : Launch} {e : Env} {s : State} {m : MethodId} {args : Array Value} {below : List Frame} {meth : Method} {c : Code} {Q : State → Prop} {A : Nat → Prop} {H : Heap} {locs : List Loc} {ls : Array Slot} (D : va_G) (cy : Nat → ClassId) (t : Nat → Nat) (o_t : Nat → Nat) (x_ready : Int32) (p1 : Int32) {out : Int32} (hf : X6_keepBelow x_ready p1 = some out) (hx : p.tables.exec = Jvm.exec) (hb : c.code = cX6_keepBelow) (hml : c.maxLocals = 2) (hown : s.vm.findClass RX6 = some m.cls) (hts : ∀ w ∈ wsX6_keepBelow, w.before args s = true) (hK : va_K D vwCl (TYS cy) s) (hE : EV t A s s.heap) (hA : ∀ q, s.heap.size ≤ q → A q) (hP : va_P D vwCl (wd_X6_keepBelow cy o_t x_ready) H) (hD : va_D A (wd_X6_keepBelow cy o_t x_ready)) (hS : va_S A s.heap H locs) (hl : lv_has ls 2 [(0, .ref (o_t 0)), (1, .int p1)]) (hR : ∀ (H : Heap) (locs : List Loc) (ls : Array Slot) (pc : Nat), va_P D vwCl (wd_X6_keepBelow cy o_t out) H → va_D A (wd_X6_keepBelow cy o_t out) → va_S A s.heap H locs → decode cX6_keepBelow pc = .ok (.return_, 1) → W p l e (rmm 1 21) s m args below meth c H locs 0 0 Q (F0 m pc ls [])) : W p l e (rmm 1 21) s m args below meth c H locs 0 0 Q (F0 m 0 ls []) := by
  have k0 := hts (.fieldLink RX6 15 "SeaGames$Track" "ready" "I") (List.mem_cons_of_mem _ (List.mem_append_left _ (List.mem_of_getElem? (i := 0) rfl)))
  have k1 : ∀ w ∈ u_ws RX6 TX6 2, w ∈ wsX6_keepBelow := fun _ h => List.mem_cons_of_mem _ (List.mem_append_right _ h)
  have k2 := hts (.methodLink RX6 19 Lib.Math.min.name) (List.mem_cons_of_mem _ (List.mem_append_left _ (List.mem_of_getElem? (i := 1) rfl)))
  have k3 := hts (.static Lib.Math.min.name) (List.mem_cons_of_mem _ (List.mem_append_left _ (List.mem_of_getElem? (i := 2) rfl)))
  have k4 := hts (.initialized "java/lang/Math") (List.mem_cons_of_mem _ (List.mem_append_left _ (List.mem_of_getElem? (i := 3) rfl)))
  have k5 := hts (.code Lib.Math.min.name Lib.Math.min.code 2 (some .int)) (List.mem_cons_of_mem _ (List.mem_append_left _ (List.mem_of_getElem? (i := 4) rfl)))
  rw [X6_keepBelow] at hf
  refine lv_aload_n hx hb dX6_keepBelow_0 rfl (lv_at hl 0 rfl) ?_
  refine lv_aload_n hx hb dX6_keepBelow_1 rfl (lv_at hl 0 rfl) ?_
  refine va_get (D := D) (ci := 6) (v := .int x_ready) (C := RX6) (T := TX6) (N := 2) hx hb hts k1 hown hK hP 0 rfl rfl 1 (by decide) k0 (fun _ h9 => h9) rfl dX6_keepBelow_2 ?_
  refine lv_iload_n hx hb dX6_keepBelow_5 rfl (lv_at hl 1 rfl) ?_
  refine va_mmin hx hb (hml.trans hl.1.symm) hown k2 k3 k4 k5 (Nat.le_of_ble_eq_true rfl) (Nat.le_of_ble_eq_true rfl) (Nat.le_of_ble_eq_true rfl) (Nat.le_of_ble_eq_true rfl) dX6_keepBelow_6 ?_
  refine va_put (D := D) (ci := 6) (v := .int (if p1 < x_ready then p1 else x_ready)) (ty := .int) (C := RX6) (T := TX6) (N := 2) hx hb hts k1 tyX6 tyX6_ok nmX6 hown hK hP hD hS 0 rfl rfl 1 (by decide) k0 (fun _ h9 => h9) rfl (by decide +kernel) rfl rfl (Nat.le_of_ble_eq_true rfl) dX6_keepBelow_9 (fun H locs hP hD hS => ?_)
  have hP : va_P D vwCl (wd_X6_keepBelow cy o_t (if p1 < x_ready then p1 else x_ready)) H := hP
  have hD : va_D A (wd_X6_keepBelow cy o_t (if p1 < x_ready then p1 else x_ready)) := hD
  obtain rfl := Option.some.inj hf
  exact hR _ _ _ _ hP hD hS dX6_keepBelow_12
theorem hd_X6_keepBelow : yX6_keepBelow.cls ≠ "java/lang/invoke/MethodHandle" ∧ yX6_keepBelow.cls ≠ "java/lang/invoke/VarHandle" ∧ (parseMethodDescriptor yX6_keepBelow.desc).map (fun d => d.parameters.length) = some 1 := by decide +kernel
set_option maxRecDepth 100000 in
theorem c_X6_keepBelow (l : Launch) (D : va_G) (cy : Nat → ClassId) (t : Nat → Nat) (o_t : Nat → Nat) (x_ready : Int32) (p1 : Int32) {out : Int32} (hf : X6_keepBelow x_ready p1 = some out) : ctV l yX6_keepBelow wsX6_keepBelow 1 21 D cy t [.ref (o_t 0), .int p1] (wd_X6_keepBelow cy o_t x_ready) (wd_X6_keepBelow cy o_t out) := by
  refine ⟨rfl, ?_⟩
  intro sz
  refine Met.ofW (cc := cX6_keepBelow) (maxL := 2) (ret := none) (by decide) rfl ?_
  intro p e s m args below meth c s₁ B hml hv
  obtain ⟨rfl, hsz, hP, hK, hD0, hE⟩ := hv
  have hts := atoms_spec (ws := wsX6_keepBelow) B.pre
  have hown : s.vm.findClass RX6 = some m.cls := findClass_of_methodNamed B.named
  have hlocks := B.notSynchronized
  subst hsz
  have hD := hD0.self (sz := s.heap.size)
  have hl := lv_entry ([.ref (o_t 0), .int p1]) (n := 2) (Nat.le_of_ble_eq_true rfl)
  rw [lg_entry_eq]
  generalize (lg_sl ([.ref (o_t 0), .int p1]) ++ List.replicate (2 - (lg_sl ([.ref (o_t 0), .int p1])).length) Slot.unset).toArray = ls at hl ⊢
  exact w_X6_keepBelow D cy t o_t x_ready p1 hf B.exec B.bytes hml hown hts hK hE (fun q h => Or.inr h) hP hD va_S.rf hl (fun H locs ls pc hP hD hS hdg => W.vret B.exec B.bytes B.returns (fun t ht hW => ⟨⟨(), rfl, trivial, ctB_of ht hP⟩, hS.F ht⟩) hS.2.2 hdg)

noncomputable def X6_at (x_rows : Nat → Int32) (p1 : Int32) (p2 : Int32) : Option (Int32) :=
  rd x_rows 1300 ((p1 * (13 : Int32)) + p2) fun v10 => some v10
abbrev wd_X6_at (cy : Nat → ClassId) (o_t : Nat → Nat) (x_ready : Int32) (x_rows : Nat → Int32) : va_W := [(o_t 0, .inr (6, [.ref (o_t 1), .int x_ready])), (o_t 1, .inl (cy 0, 1300, .inl x_rows))]
set_option maxHeartbeats 4000000 in
set_option maxRecDepth 100000 in
theorem w_X6_at {p : Program} {l : Launch} {e : Env} {s : State} {m : MethodId} {args : Array Value} {below : List Frame} {meth : Method} {c : Code} {Q : State → Prop} {A : Nat → Prop} {H : Heap} {locs : List Loc} {ls : Array Slot} (D : va_G) (cy : Nat → ClassId) (t : Nat → Nat) (o_t : Nat → Nat) (x_ready : Int32) (x_rows : Nat → Int32) (p1 : Int32) (p2 : Int32) {out : Int32} (hf : X6_at x_rows p1 p2 = some out) (hx : p.tables.exec = Jvm.exec) (hb : c.code = cX6_at) (hml : c.maxLocals = 3) (hown : s.vm.findClass RX6 = some m.cls) (hts : ∀ w ∈ wsX6_at, w.before args s = true) (hK : va_K D vwCl (TYS cy) s) (hE : EV t A s s.heap) (hA : ∀ q, s.heap.size ≤ q → A q) (hP : va_P D vwCl (wd_X6_at cy o_t x_ready x_rows) H) (hD : va_D A (wd_X6_at cy o_t x_ready x_rows)) (hS : va_S A s.heap H locs) (hl : lv_has ls 3 [(0, .ref (o_t 0)), (1, .int p1), (2, .int p2)]) (hR : ∀ (H : Heap) (locs : List Loc) (ls : Array Slot) (pc : Nat), va_P D vwCl (wd_X6_at cy o_t x_ready x_rows) H → va_D A (wd_X6_at cy o_t x_ready x_rows) → va_S A s.heap H locs → decode cX6_at pc = .ok (.ireturn, 1) → W p l e (rmm 0 0) s m args below meth c H locs 0 0 Q (F0 m pc ls [.int out])) : W p l e (rmm 0 0) s m args below meth c H locs 0 0 Q (F0 m 0 ls []) := by
  have k0 := hts (.fieldLink RX6 9 "SeaGames$Track" "rows" "[I") (List.mem_cons_of_mem _ (List.mem_append_left _ (List.mem_of_getElem? (i := 0) rfl)))
  have k1 : ∀ w ∈ u_ws RX6 TX6 2, w ∈ wsX6_at := fun _ h => List.mem_cons_of_mem _ (List.mem_append_right _ h)
  rw [X6_at] at hf
  refine lv_aload_n hx hb dX6_at_0 rfl (lv_at hl 0 rfl) ?_
  refine va_get (D := D) (ci := 6) (v := .ref (o_t 1)) (C := RX6) (T := TX6) (N := 2) hx hb hts k1 hown hK hP 0 rfl rfl 0 (by decide) k0 (fun _ h9 => h9) rfl dX6_at_1 ?_
  refine lv_iload_n hx hb dX6_at_4 rfl (lv_at hl 1 rfl) ?_
  refine lv_bipush (v := (13 : Int32)) hx hb dX6_at_5 (by decide) ?_
  refine lv_imul hx hb dX6_at_7 ?_
  refine lv_iload_n hx hb dX6_at_8 rfl (lv_at hl 2 rfl) ?_
  refine lv_iadd hx hb dX6_at_9 ?_
  obtain ⟨v10, b10, ev10, hf⟩ := rd_s hf
  refine my_iald hx hb hK hP 1 rfl b10 ev10 dX6_at_10 ?_
  obtain rfl := Option.some.inj hf
  exact hR _ _ _ _ hP hD hS dX6_at_11
theorem hd_X6_at : yX6_at.cls ≠ "java/lang/invoke/MethodHandle" ∧ yX6_at.cls ≠ "java/lang/invoke/VarHandle" ∧ (parseMethodDescriptor yX6_at.desc).map (fun d => d.parameters.length) = some 2 := by decide +kernel
set_option maxRecDepth 100000 in
theorem c_X6_at (l : Launch) (D : va_G) (cy : Nat → ClassId) (t : Nat → Nat) (o_t : Nat → Nat) (x_ready : Int32) (x_rows : Nat → Int32) (p1 : Int32) (p2 : Int32) {out : Int32} (hf : X6_at x_rows p1 p2 = some out) : ctI l yX6_at wsX6_at 0 0 D cy t [.ref (o_t 0), .int p1, .int p2] (wd_X6_at cy o_t x_ready x_rows) (wd_X6_at cy o_t x_ready x_rows) out := by
  refine ⟨rfl, ?_⟩
  intro sz
  refine Met.ofW (cc := cX6_at) (maxL := 3) (ret := (some .int)) (by decide) rfl ?_
  intro p e s m args below meth c s₁ B hml hv
  obtain ⟨rfl, hsz, hP, hK, hD0, hE⟩ := hv
  have hts := atoms_spec (ws := wsX6_at) B.pre
  have hown : s.vm.findClass RX6 = some m.cls := findClass_of_methodNamed B.named
  have hlocks := B.notSynchronized
  subst hsz
  have hD := hD0.self (sz := s.heap.size)
  have hl := lv_entry ([.ref (o_t 0), .int p1, .int p2]) (n := 3) (Nat.le_of_ble_eq_true rfl)
  rw [lg_entry_eq]
  generalize (lg_sl ([.ref (o_t 0), .int p1, .int p2]) ++ List.replicate (3 - (lg_sl ([.ref (o_t 0), .int p1, .int p2])).length) Slot.unset).toArray = ls at hl ⊢
  exact w_X6_at D cy t o_t x_ready x_rows p1 p2 hf B.exec B.bytes hml hown hts hK hE (fun q h => Or.inr h) hP hD va_S.rf hl (fun H locs ls pc hP hD hS hdg => W.iret B.exec B.bytes B.returns (fun t ht hW => ⟨⟨_, (), rfl, rfl, ctB_of ht hP⟩, hS.F ht⟩) hS.2.2 hdg)

noncomputable def X6_isLike_L5_B (x_rows : Nat → Int32) (x_a1_rows : Nat → Int32) (rec5 : Int32 → Int32 → Option (Int32)) (l2 : Int32) (l3 : Int32) : Option (Int32) :=
  if ((l2 * (13 : Int32)) + (13 : Int32)) ≤ l3 then (zb (1 : Int32) <| some (1 : Int32)) else (rd x_rows 1300 l3 fun v21 => rd x_a1_rows 1300 l3 fun v27 => if v21 = v27 then (nm (l3 + (1 : Int32)) fun v33 => rec5  l2 v33) else (zb (0 : Int32) <| some (0 : Int32)))
noncomputable def X6_isLike_L5 (x_rows : Nat → Int32) (x_a1_rows : Nat → Int32) : Nat → Int32 → Int32 → Option (Int32)
  | 0, _, _ => none
  | n + 1, y0, y1 => X6_isLike_L5_B x_rows x_a1_rows  (X6_isLike_L5 x_rows x_a1_rows  n) y0 y1
noncomputable def X6_isLike (x_rows : Nat → Int32) (x_a1_rows : Nat → Int32) (p2 : Int32) : Option (Int32) :=
  nm (p2 * (13 : Int32)) fun v4 => X6_isLike_L5 x_rows x_a1_rows  FU  p2 v4
abbrev wd_X6_isLike (cy : Nat → ClassId) (o_t o_a1 : Nat → Nat) (x_ready : Int32) (x_rows : Nat → Int32) (x_a1_ready : Int32) (x_a1_rows : Nat → Int32) : va_W := [(o_t 0, .inr (6, [.ref (o_t 1), .int x_ready])), (o_t 1, .inl (cy 0, 1300, .inl x_rows)), (o_a1 0, .inr (6, [.ref (o_a1 1), .int x_a1_ready])), (o_a1 1, .inl (cy 0, 1300, .inl x_a1_rows))]
set_option maxHeartbeats 4000000 in
set_option maxRecDepth 100000 in
theorem w_X6_isLike {p : Program} {l : Launch} {e : Env} {s : State} {m : MethodId} {args : Array Value} {below : List Frame} {meth : Method} {c : Code} {Q : State → Prop} {A : Nat → Prop} {H : Heap} {locs : List Loc} {ls : Array Slot} (D : va_G) (cy : Nat → ClassId) (t : Nat → Nat) (o_t o_a1 : Nat → Nat) (x_ready : Int32) (x_rows : Nat → Int32) (x_a1_ready : Int32) (x_a1_rows : Nat → Int32) (p2 : Int32) {out : Int32} (hf : X6_isLike x_rows x_a1_rows p2 = some out) (hx : p.tables.exec = Jvm.exec) (hb : c.code = cX6_isLike) (hml : c.maxLocals = 4) (hown : s.vm.findClass RX6 = some m.cls) (hts : ∀ w ∈ wsX6_isLike, w.before args s = true) (hK : va_K D vwCl (TYS cy) s) (hE : EV t A s s.heap) (hA : ∀ q, s.heap.size ≤ q → A q) (hP : va_P D vwCl (wd_X6_isLike cy o_t o_a1 x_ready x_rows x_a1_ready x_a1_rows) H) (hD : va_D A (wd_X6_isLike cy o_t o_a1 x_ready x_rows x_a1_ready x_a1_rows)) (hS : va_S A s.heap H locs) (hl : lv_has ls 4 [(0, .ref (o_t 0)), (1, .ref (o_a1 0)), (2, .int p2)]) (hR : ∀ (H : Heap) (locs : List Loc) (ls : Array Slot) (pc : Nat), va_P D vwCl (wd_X6_isLike cy o_t o_a1 x_ready x_rows x_a1_ready x_a1_rows) H → va_D A (wd_X6_isLike cy o_t o_a1 x_ready x_rows x_a1_ready x_a1_rows) → va_S A s.heap H locs → narrow .boolean (.int out) = .int out → decode cX6_isLike pc = .ok (.ireturn, 1) → W p l e (rmm 0 0) s m args below meth c H locs 0 0 Q (F0 m pc ls [.int out])) : W p l e (rmm 0 0) s m args below meth c H locs 0 0 Q (F0 m 0 ls []) := by
  have k0 := hts (.fieldLink RX6 9 "SeaGames$Track" "rows" "[I") (List.mem_cons_of_mem _ (List.mem_append_left _ (List.mem_of_getElem? (i := 0) rfl)))
  have k1 : ∀ w ∈ u_ws RX6 TX6 2, w ∈ wsX6_isLike := fun _ h => List.mem_cons_of_mem _ (List.mem_append_right _ h)
  rw [X6_isLike] at hf
  have h5 : ∀ (n5 : Nat) (l2 : Int32) (l3 : Int32) (H : Heap) (locs : List Loc) (ls : Array Slot), X6_isLike_L5 x_rows x_a1_rows n5 l2 l3 = some out → va_P D vwCl (wd_X6_isLike cy o_t o_a1 x_ready x_rows x_a1_ready x_a1_rows) H → va_D A (wd_X6_isLike cy o_t o_a1 x_ready x_rows x_a1_ready x_a1_rows) → va_S A s.heap H locs → lv_has ls 4 [(0, .ref (o_t 0)), (1, .ref (o_a1 0)), (2, .int l2), (3, .int l3)] → W p l e (rmm 0 0) s m args below meth c H locs 0 0 Q (F0 m 5 ls []) := by
    intro n5
    induction n5 with
    | zero =>
      intro _ _ _ _ _ hf
      exact nomatch (show (none : Option _) = some out from hf)
    | succ n5 ih5 =>
      intro l2 l3 H locs ls hf hP hD hS hl
      have hf : X6_isLike_L5_B x_rows x_a1_rows (X6_isLike_L5 x_rows x_a1_rows n5) l2 l3 = some out := hf
      rw [X6_isLike_L5_B] at hf
      refine lv_iload_n hx hb dX6_isLike_5 rfl (lv_at hl 3 rfl) ?_
      refine lv_iload_n hx hb dX6_isLike_6 rfl (lv_at hl 2 rfl) ?_
      refine lv_bipush (v := (13 : Int32)) hx hb dX6_isLike_7 (by decide) ?_
      refine lv_imul hx hb dX6_isLike_9 ?_
      refine lv_bipush (v := (13 : Int32)) hx hb dX6_isLike_10 (by decide) ?_
      refine lv_iadd hx hb dX6_isLike_12 ?_
      refine lv_icmp_ge (tgt := 39) hx hb dX6_isLike_13 (by decide) (fun c13 => ?_) (fun c13 => ?_)
      · have hf := ifp c13 hf
        refine lv_iconst (v := (1 : Int32)) hx hb dX6_isLike_39 (by decide) ?_
        obtain ⟨z40, hf⟩ := zb_s hf
        obtain rfl := Option.some.inj hf
        exact hR _ _ _ _ hP hD hS z40 dX6_isLike_40
      · have hf := ifn c13 hf
        refine lv_aload_n hx hb dX6_isLike_16 rfl (lv_at hl 0 rfl) ?_
        refine va_get (D := D) (ci := 6) (v := .ref (o_t 1)) (C := RX6) (T := TX6) (N := 2) hx hb hts k1 hown hK hP 0 rfl rfl 0 (by decide) k0 (fun _ h9 => h9) rfl dX6_isLike_17 ?_
        refine lv_iload_n hx hb dX6_isLike_20 rfl (lv_at hl 3 rfl) ?_
        obtain ⟨v21, b21, ev21, hf⟩ := rd_s hf
        refine my_iald hx hb hK hP 1 rfl b21 ev21 dX6_isLike_21 ?_
        refine lv_aload_n hx hb dX6_isLike_22 rfl (lv_at hl 1 rfl) ?_
        refine va_get (D := D) (ci := 6) (v := .ref (o_a1 1)) (C := RX6) (T := TX6) (N := 2) hx hb hts k1 hown hK hP 2 rfl rfl 0 (by decide) k0 (fun _ h9 => h9) rfl dX6_isLike_23 ?_
        refine lv_iload_n hx hb dX6_isLike_26 rfl (lv_at hl 3 rfl) ?_
        obtain ⟨v27, b27, ev27, hf⟩ := rd_s hf
        refine my_iald hx hb hK hP 3 rfl b27 ev27 dX6_isLike_27 ?_
        refine lv_icmp_eq (tgt := 33) hx hb dX6_isLike_28 (by decide) (fun c28 => ?_) (fun c28 => ?_)
        · have hf := ifp c28 hf
          obtain ⟨v33, ev33, hf⟩ := nm_s hf
          refine lv_iinc (v := v33) (lv' := [(3, .int v33), (0, .ref (o_t 0)), (1, .ref (o_a1 0)), (2, .int l2)]) hx hb dX6_isLike_33 hl (k := 3) rfl (by rw [ev33]; rfl) (by decide) rfl (fun ls hl => ?_)
          refine lv_goto (tgt := 5) hx hb dX6_isLike_36 (by decide) ?_
          exact ih5 _ _ _ _ _ hf hP hD hS (lv_sub hl [1, 2, 3, 0] rfl)
        · have hf := ifn c28 hf
          refine lv_iconst (v := (0 : Int32)) hx hb dX6_isLike_31 (by decide) ?_
          obtain ⟨z32, hf⟩ := zb_s hf
          obtain rfl := Option.some.inj hf
          exact hR _ _ _ _ hP hD hS z32 dX6_isLike_32
  refine lv_iload_n hx hb dX6_isLike_0 rfl (lv_at hl 2 rfl) ?_
  refine lv_bipush (v := (13 : Int32)) hx hb dX6_isLike_1 (by decide) ?_
  refine lv_imul hx hb dX6_isLike_3 ?_
  obtain ⟨v4, ev4, hf⟩ := nm_s hf
  refine my_topi ev4 ?_
  refine lv_istore_n (lv' := [(3, .int v4), (0, .ref (o_t 0)), (1, .ref (o_a1 0)), (2, .int p2)]) hx hb dX6_isLike_4 rfl hl (by decide) rfl (fun ls hl => ?_)
  exact h5 FU _ _ _ _ _ hf hP hD hS (lv_sub hl [1, 2, 3, 0] rfl)
theorem hd_X6_isLike : yX6_isLike.cls ≠ "java/lang/invoke/MethodHandle" ∧ yX6_isLike.cls ≠ "java/lang/invoke/VarHandle" ∧ (parseMethodDescriptor yX6_isLike.desc).map (fun d => d.parameters.length) = some 2 := by decide +kernel
set_option maxRecDepth 100000 in
theorem c_X6_isLike (l : Launch) (D : va_G) (cy : Nat → ClassId) (t : Nat → Nat) (o_t o_a1 : Nat → Nat) (x_ready : Int32) (x_rows : Nat → Int32) (x_a1_ready : Int32) (x_a1_rows : Nat → Int32) (p2 : Int32) {out : Int32} (hf : X6_isLike x_rows x_a1_rows p2 = some out) : ctI l yX6_isLike wsX6_isLike 0 0 D cy t [.ref (o_t 0), .ref (o_a1 0), .int p2] (wd_X6_isLike cy o_t o_a1 x_ready x_rows x_a1_ready x_a1_rows) (wd_X6_isLike cy o_t o_a1 x_ready x_rows x_a1_ready x_a1_rows) out := by
  refine ⟨rfl, ?_⟩
  intro sz
  refine Met.ofW (cc := cX6_isLike) (maxL := 4) (ret := (some .boolean)) (by decide) rfl ?_
  intro p e s m args below meth c s₁ B hml hv
  obtain ⟨rfl, hsz, hP, hK, hD0, hE⟩ := hv
  have hts := atoms_spec (ws := wsX6_isLike) B.pre
  have hown : s.vm.findClass RX6 = some m.cls := findClass_of_methodNamed B.named
  have hlocks := B.notSynchronized
  subst hsz
  have hD := hD0.self (sz := s.heap.size)
  have hl := lv_entry ([.ref (o_t 0), .ref (o_a1 0), .int p2]) (n := 4) (Nat.le_of_ble_eq_true rfl)
  rw [lg_entry_eq]
  generalize (lg_sl ([.ref (o_t 0), .ref (o_a1 0), .int p2]) ++ List.replicate (4 - (lg_sl ([.ref (o_t 0), .ref (o_a1 0), .int p2])).length) Slot.unset).toArray = ls at hl ⊢
  exact w_X6_isLike D cy t o_t o_a1 x_ready x_rows x_a1_ready x_a1_rows p2 hf B.exec B.bytes hml hown hts hK hE (fun q h => Or.inr h) hP hD va_S.rf hl (fun H locs ls pc hP hD hS z hdg => W.zret B.exec B.bytes B.returns z (fun t ht hW => ⟨⟨_, (), rfl, rfl, ctB_of ht hP⟩, hS.F ht⟩) hS.2.2 hdg)

noncomputable def X6_save (x_a2_now : Nat → Int32) (x_rows : Nat → Int32) (p1 : Int32) : Option ((Nat → Int32)) :=
  cpI x_a2_now x_rows 13 1300 (0 : Int32) (p1 * (13 : Int32)) (13 : Int32) fun w15 => some w15
abbrev wd_X6_save (cy : Nat → ClassId) (o_t o_a2 : Nat → Nat) (x_ready : Int32) (x_rows : Nat → Int32) (x_a2_now : Nat → Int32) : va_W := [(o_t 0, .inr (6, [.ref (o_t 1), .int x_ready])), (o_t 1, .inl (cy 0, 1300, .inl x_rows)), (o_a2 0, .inr (0, [.ref (o_a2 1)])), (o_a2 1, .inl (cy 0, 13, .inl x_a2_now))]
set_option maxHeartbeats 4000000 in
set_option maxRecDepth 100000 in
theorem w_X6_save {p : Program} {l : Launch} {e : Env} {s : State} {m : MethodId} {args : Array Value} {below : List Frame} {meth : Method} {c : Code} {Q : State → Prop} {A : Nat → Prop} {H : Heap} {locs : List Loc} {ls : Array Slot} (D : va_G) (cy : Nat → ClassId) (t : Nat → Nat) (o_t o_a2 : Nat → Nat) (x_ready : Int32) (x_rows : Nat → Int32) (x_a2_now : Nat → Int32) (p1 : Int32) {out : (Nat → Int32)} (hf : X6_save x_a2_now x_rows p1 = some out) (hx : p.tables.exec = Jvm.exec) (hb : c.code = cX6_save) (hml : c.maxLocals = 3) (hown : s.vm.findClass RX6 = some m.cls) (hts : ∀ w ∈ wsX6_save, w.before args s = true) (hK : va_K D vwCl (TYS cy) s) (hE : EV t A s s.heap) (hA : ∀ q, s.heap.size ≤ q → A q) (hP : va_P D vwCl (wd_X6_save cy o_t o_a2 x_ready x_rows x_a2_now) H) (hD : va_D A (wd_X6_save cy o_t o_a2 x_ready x_rows x_a2_now)) (hS : va_S A s.heap H locs) (hl : lv_has ls 3 [(0, .ref (o_t 0)), (1, .int p1), (2, .ref (o_a2 0))]) (hR : ∀ (H : Heap) (locs : List Loc) (ls : Array Slot) (pc : Nat), va_P D vwCl (wd_X6_save cy o_t o_a2 x_ready out x_a2_now) H → va_D A (wd_X6_save cy o_t o_a2 x_ready out x_a2_now) → va_S A s.heap H locs → decode cX6_save pc = .ok (.return_, 1) → W p l e (rmm 1 40) s m args below meth c H locs 0 0 Q (F0 m pc ls [])) : W p l e (rmm 1 40) s m args below meth c H locs 0 0 Q (F0 m 0 ls []) := by
  have k0 := hts (.fieldLink RX6 25 "SeaGames$Board" "now" "[I") (List.mem_cons_of_mem _ (List.mem_append_left _ (List.mem_append_left _ (List.mem_of_getElem? (i := 0) rfl))))
  have k1 : ∀ w ∈ u_ws RX0 TX0 1, w ∈ wsX6_save := fun _ h => List.mem_cons_of_mem _ (List.mem_append_left _ (List.mem_append_right _ h))
  have k2 := hts (.fieldLink RX6 9 "SeaGames$Track" "rows" "[I") (List.mem_cons_of_mem _ (List.mem_append_left _ (List.mem_append_left _ (List.mem_of_getElem? (i := 1) rfl))))
  have k3 : ∀ w ∈ u_ws RX6 TX6 2, w ∈ wsX6_save := fun _ h => List.mem_cons_of_mem _ (List.mem_append_right _ h)
  have k4 := hts (.methodLink RX6 30 arraycopyName) (List.mem_cons_of_mem _ (List.mem_append_left _ (List.mem_append_left _ (List.mem_of_getElem? (i := 2) rfl))))
  have k5 := hts (.native arraycopyName) (List.mem_cons_of_mem _ (List.mem_append_left _ (List.mem_append_left _ (List.mem_of_getElem? (i := 3) rfl))))
  have k6 := hts (.static arraycopyName) (List.mem_cons_of_mem _ (List.mem_append_left _ (List.mem_append_left _ (List.mem_of_getElem? (i := 4) rfl))))
  have k7 := hts (.initialized "java/lang/System") (List.mem_cons_of_mem _ (List.mem_append_left _ (List.mem_append_left _ (List.mem_of_getElem? (i := 5) rfl))))
  rw [X6_save] at hf
  refine lv_aload_n hx hb dX6_save_0 rfl (lv_at hl 2 rfl) ?_
  refine va_get (D := D) (ci := 0) (v := .ref (o_a2 1)) (C := RX0) (T := TX0) (N := 1) hx hb hts k1 hown hK hP 2 rfl rfl 0 (by decide) k0 (fun _ h9 => h9) rfl dX6_save_1 ?_
  refine lv_iconst (v := (0 : Int32)) hx hb dX6_save_4 (by decide) ?_
  refine lv_aload_n hx hb dX6_save_5 rfl (lv_at hl 0 rfl) ?_
  refine va_get (D := D) (ci := 6) (v := .ref (o_t 1)) (C := RX6) (T := TX6) (N := 2) hx hb hts k3 hown hK hP 0 rfl rfl 0 (by decide) k2 (fun _ h9 => h9) rfl dX6_save_6 ?_
  refine lv_iload_n hx hb dX6_save_9 rfl (lv_at hl 1 rfl) ?_
  refine lv_bipush (v := (13 : Int32)) hx hb dX6_save_10 (by decide) ?_
  refine lv_imul hx hb dX6_save_12 ?_
  refine lv_bipush (v := (13 : Int32)) hx hb dX6_save_13 (by decide) ?_
  obtain ⟨w15, g1, g2, g3, g4, g5, ew15, hf⟩ := cpI_s hf
  refine my_copy (ws2 := (wd_X6_save cy o_t o_a2 x_ready w15 x_a2_now)) hx hb (hml.trans hl.1.symm) hown k4 k5 k6 k7 hK hP hD hS 3 1 rfl rfl g1 g2 g3 g4 g5 ew15 rfl (Nat.le_of_ble_eq_true rfl) (Nat.le_of_ble_eq_true rfl) dX6_save_15 (fun H locs hP hD hS => ?_)
  obtain rfl := Option.some.inj hf
  exact hR _ _ _ _ hP hD hS dX6_save_18
theorem hd_X6_save : yX6_save.cls ≠ "java/lang/invoke/MethodHandle" ∧ yX6_save.cls ≠ "java/lang/invoke/VarHandle" ∧ (parseMethodDescriptor yX6_save.desc).map (fun d => d.parameters.length) = some 2 := by decide +kernel
set_option maxRecDepth 100000 in
theorem c_X6_save (l : Launch) (D : va_G) (cy : Nat → ClassId) (t : Nat → Nat) (o_t o_a2 : Nat → Nat) (x_ready : Int32) (x_rows : Nat → Int32) (x_a2_now : Nat → Int32) (p1 : Int32) {out : (Nat → Int32)} (hf : X6_save x_a2_now x_rows p1 = some out) : ctV l yX6_save wsX6_save 1 40 D cy t [.ref (o_t 0), .int p1, .ref (o_a2 0)] (wd_X6_save cy o_t o_a2 x_ready x_rows x_a2_now) (wd_X6_save cy o_t o_a2 x_ready out x_a2_now) := by
  refine ⟨rfl, ?_⟩
  intro sz
  refine Met.ofW (cc := cX6_save) (maxL := 3) (ret := none) (by decide) rfl ?_
  intro p e s m args below meth c s₁ B hml hv
  obtain ⟨rfl, hsz, hP, hK, hD0, hE⟩ := hv
  have hts := atoms_spec (ws := wsX6_save) B.pre
  have hown : s.vm.findClass RX6 = some m.cls := findClass_of_methodNamed B.named
  have hlocks := B.notSynchronized
  subst hsz
  have hD := hD0.self (sz := s.heap.size)
  have hl := lv_entry ([.ref (o_t 0), .int p1, .ref (o_a2 0)]) (n := 3) (Nat.le_of_ble_eq_true rfl)
  rw [lg_entry_eq]
  generalize (lg_sl ([.ref (o_t 0), .int p1, .ref (o_a2 0)]) ++ List.replicate (3 - (lg_sl ([.ref (o_t 0), .int p1, .ref (o_a2 0)])).length) Slot.unset).toArray = ls at hl ⊢
  exact w_X6_save D cy t o_t o_a2 x_ready x_rows x_a2_now p1 hf B.exec B.bytes hml hown hts hK hE (fun q h => Or.inr h) hP hD va_S.rf hl (fun H locs ls pc hP hD hS hdg => W.vret B.exec B.bytes B.returns (fun t ht hW => ⟨⟨(), rfl, trivial, ctB_of ht hP⟩, hS.F ht⟩) hS.2.2 hdg)

noncomputable def X6_load (x_rows : Nat → Int32) (x_a2_now : Nat → Int32) (p1 : Int32) : Option ((Nat → Int32)) :=
  cpI x_rows x_a2_now 1300 13 (p1 * (13 : Int32)) (0 : Int32) (13 : Int32) fun w15 => some w15
abbrev wd_X6_load (cy : Nat → ClassId) (o_t o_a2 : Nat → Nat) (x_ready : Int32) (x_rows : Nat → Int32) (x_a2_now : Nat → Int32) : va_W := [(o_t 0, .inr (6, [.ref (o_t 1), .int x_ready])), (o_t 1, .inl (cy 0, 1300, .inl x_rows)), (o_a2 0, .inr (0, [.ref (o_a2 1)])), (o_a2 1, .inl (cy 0, 13, .inl x_a2_now))]
set_option maxHeartbeats 4000000 in
set_option maxRecDepth 100000 in
theorem w_X6_load {p : Program} {l : Launch} {e : Env} {s : State} {m : MethodId} {args : Array Value} {below : List Frame} {meth : Method} {c : Code} {Q : State → Prop} {A : Nat → Prop} {H : Heap} {locs : List Loc} {ls : Array Slot} (D : va_G) (cy : Nat → ClassId) (t : Nat → Nat) (o_t o_a2 : Nat → Nat) (x_ready : Int32) (x_rows : Nat → Int32) (x_a2_now : Nat → Int32) (p1 : Int32) {out : (Nat → Int32)} (hf : X6_load x_rows x_a2_now p1 = some out) (hx : p.tables.exec = Jvm.exec) (hb : c.code = cX6_load) (hml : c.maxLocals = 3) (hown : s.vm.findClass RX6 = some m.cls) (hts : ∀ w ∈ wsX6_load, w.before args s = true) (hK : va_K D vwCl (TYS cy) s) (hE : EV t A s s.heap) (hA : ∀ q, s.heap.size ≤ q → A q) (hP : va_P D vwCl (wd_X6_load cy o_t o_a2 x_ready x_rows x_a2_now) H) (hD : va_D A (wd_X6_load cy o_t o_a2 x_ready x_rows x_a2_now)) (hS : va_S A s.heap H locs) (hl : lv_has ls 3 [(0, .ref (o_t 0)), (1, .int p1), (2, .ref (o_a2 0))]) (hR : ∀ (H : Heap) (locs : List Loc) (ls : Array Slot) (pc : Nat), va_P D vwCl (wd_X6_load cy o_t o_a2 x_ready x_rows out) H → va_D A (wd_X6_load cy o_t o_a2 x_ready x_rows out) → va_S A s.heap H locs → decode cX6_load pc = .ok (.return_, 1) → W p l e (rmm 1 40) s m args below meth c H locs 0 0 Q (F0 m pc ls [])) : W p l e (rmm 1 40) s m args below meth c H locs 0 0 Q (F0 m 0 ls []) := by
  have k0 := hts (.fieldLink RX6 9 "SeaGames$Track" "rows" "[I") (List.mem_cons_of_mem _ (List.mem_append_left _ (List.mem_append_left _ (List.mem_of_getElem? (i := 0) rfl))))
  have k1 : ∀ w ∈ u_ws RX6 TX6 2, w ∈ wsX6_load := fun _ h => List.mem_cons_of_mem _ (List.mem_append_left _ (List.mem_append_right _ h))
  have k2 := hts (.fieldLink RX6 25 "SeaGames$Board" "now" "[I") (List.mem_cons_of_mem _ (List.mem_append_left _ (List.mem_append_left _ (List.mem_of_getElem? (i := 1) rfl))))
  have k3 : ∀ w ∈ u_ws RX0 TX0 1, w ∈ wsX6_load := fun _ h => List.mem_cons_of_mem _ (List.mem_append_right _ h)
  have k4 := hts (.methodLink RX6 30 arraycopyName) (List.mem_cons_of_mem _ (List.mem_append_left _ (List.mem_append_left _ (List.mem_of_getElem? (i := 2) rfl))))
  have k5 := hts (.native arraycopyName) (List.mem_cons_of_mem _ (List.mem_append_left _ (List.mem_append_left _ (List.mem_of_getElem? (i := 3) rfl))))
  have k6 := hts (.static arraycopyName) (List.mem_cons_of_mem _ (List.mem_append_left _ (List.mem_append_left _ (List.mem_of_getElem? (i := 4) rfl))))
  have k7 := hts (.initialized "java/lang/System") (List.mem_cons_of_mem _ (List.mem_append_left _ (List.mem_append_left _ (List.mem_of_getElem? (i := 5) rfl))))
  rw [X6_load] at hf
  refine lv_aload_n hx hb dX6_load_0 rfl (lv_at hl 0 rfl) ?_
  refine va_get (D := D) (ci := 6) (v := .ref (o_t 1)) (C := RX6) (T := TX6) (N := 2) hx hb hts k1 hown hK hP 0 rfl rfl 0 (by decide) k0 (fun _ h9 => h9) rfl dX6_load_1 ?_
  refine lv_iload_n hx hb dX6_load_4 rfl (lv_at hl 1 rfl) ?_
  refine lv_bipush (v := (13 : Int32)) hx hb dX6_load_5 (by decide) ?_
  refine lv_imul hx hb dX6_load_7 ?_
  refine lv_aload_n hx hb dX6_load_8 rfl (lv_at hl 2 rfl) ?_
  refine va_get (D := D) (ci := 0) (v := .ref (o_a2 1)) (C := RX0) (T := TX0) (N := 1) hx hb hts k3 hown hK hP 2 rfl rfl 0 (by decide) k2 (fun _ h9 => h9) rfl dX6_load_9 ?_
  refine lv_iconst (v := (0 : Int32)) hx hb dX6_load_12 (by decide) ?_
  refine lv_bipush (v := (13 : Int32)) hx hb dX6_load_13 (by decide) ?_
  obtain ⟨w15, g1, g2, g3, g4, g5, ew15, hf⟩ := cpI_s hf
  refine my_copy (ws2 := (wd_X6_load cy o_t o_a2 x_ready x_rows w15)) hx hb (hml.trans hl.1.symm) hown k4 k5 k6 k7 hK hP hD hS 1 3 rfl rfl g1 g2 g3 g4 g5 ew15 rfl (Nat.le_of_ble_eq_true rfl) (Nat.le_of_ble_eq_true rfl) dX6_load_15 (fun H locs hP hD hS => ?_)
  obtain rfl := Option.some.inj hf
  exact hR _ _ _ _ hP hD hS dX6_load_18
theorem hd_X6_load : yX6_load.cls ≠ "java/lang/invoke/MethodHandle" ∧ yX6_load.cls ≠ "java/lang/invoke/VarHandle" ∧ (parseMethodDescriptor yX6_load.desc).map (fun d => d.parameters.length) = some 2 := by decide +kernel
set_option maxRecDepth 100000 in
theorem c_X6_load (l : Launch) (D : va_G) (cy : Nat → ClassId) (t : Nat → Nat) (o_t o_a2 : Nat → Nat) (x_ready : Int32) (x_rows : Nat → Int32) (x_a2_now : Nat → Int32) (p1 : Int32) {out : (Nat → Int32)} (hf : X6_load x_rows x_a2_now p1 = some out) : ctV l yX6_load wsX6_load 1 40 D cy t [.ref (o_t 0), .int p1, .ref (o_a2 0)] (wd_X6_load cy o_t o_a2 x_ready x_rows x_a2_now) (wd_X6_load cy o_t o_a2 x_ready x_rows out) := by
  refine ⟨rfl, ?_⟩
  intro sz
  refine Met.ofW (cc := cX6_load) (maxL := 3) (ret := none) (by decide) rfl ?_
  intro p e s m args below meth c s₁ B hml hv
  obtain ⟨rfl, hsz, hP, hK, hD0, hE⟩ := hv
  have hts := atoms_spec (ws := wsX6_load) B.pre
  have hown : s.vm.findClass RX6 = some m.cls := findClass_of_methodNamed B.named
  have hlocks := B.notSynchronized
  subst hsz
  have hD := hD0.self (sz := s.heap.size)
  have hl := lv_entry ([.ref (o_t 0), .int p1, .ref (o_a2 0)]) (n := 3) (Nat.le_of_ble_eq_true rfl)
  rw [lg_entry_eq]
  generalize (lg_sl ([.ref (o_t 0), .int p1, .ref (o_a2 0)]) ++ List.replicate (3 - (lg_sl ([.ref (o_t 0), .int p1, .ref (o_a2 0)])).length) Slot.unset).toArray = ls at hl ⊢
  exact w_X6_load D cy t o_t o_a2 x_ready x_rows x_a2_now p1 hf B.exec B.bytes hml hown hts hK hE (fun q h => Or.inr h) hP hD va_S.rf hl (fun H locs ls pc hP hD hS hdg => W.vret B.exec B.bytes B.returns (fun t ht hW => ⟨⟨(), rfl, trivial, ctB_of ht hP⟩, hS.F ht⟩) hS.2.2 hdg)
