noncomputable def X8_player (x_thrown : Int32) (x_players : Int32) (x_skill : Nat → Int32) (x_shore : Nat → Int32) (p1 : Int32) (p2 : Int32) : Option (Int32 × Int32 × Int32 × (Nat → Int32) × (Nat → Int32)) :=
  bd (X8_in (Int32.toInt64 p1) (0 : Int64) (999 : Int64)) fun r11 => if r11 = (0 : Int32) then (some ((-2 : Int32), (0 : Int32), x_players, x_skill, x_shore)) else (bd (X8_in (Int32.toInt64 p2) (0 : Int64) (3 : Int64)) fun r23 => if r23 = (0 : Int32) then (some ((-2 : Int32), (0 : Int32), x_players, x_skill, x_shore)) else (if x_players = (10 : Int32) then (some ((-4 : Int32), (0 : Int32), x_players, x_skill, x_shore)) else (wrI x_skill 10 x_players p1 fun w53 => wrI x_shore 10 x_players p2 fun w63 => some (((x_players + (1 : Int32)) - (1 : Int32)), (0 : Int32), (x_players + (1 : Int32)), w53, w63))))
abbrev wd_X8_player (cy : Nat → ClassId) (o_t : Nat → Nat) (x_thrown : Int32) (x_delay : Int32) (x_feel : Int32) (x_turn : Int32) (x_sight : Int32) (x_ball : Int32) (x_w : Int32) (x_h : Int32) (x_n : Int32) (x_players : Int32) (x_skill : Nat → Int32) (x_shore : Nat → Int32) : va_W := [(o_t 0, .inr (8, [.int x_thrown, .ref (o_t 2), .ref (o_t 3), .ref (o_t 4), .ref (o_t 5), .ref (o_t 6), .ref (o_t 7), .ref (o_t 8), .ref (o_t 9), .ref (o_t 10), .ref (o_t 11), .int x_delay, .int x_feel, .int x_turn, .int x_sight, .ref (o_t 16), .ref (o_t 17), .ref (o_t 18), .ref (o_t 19), .int x_ball, .int x_w, .int x_h, .int x_n, .ref (o_t 24), .ref (o_t 25), .ref (o_t 26), .ref (o_t 27), .ref (o_t 28), .ref (o_t 29), .int x_players, .ref (o_t 31), .ref (o_t 32), .ref (o_t 33), .ref (o_t 34), .ref (o_t 35), .ref (o_t 36)])), (o_t 31, .inl (cy 0, 10, .inl x_skill)), (o_t 32, .inl (cy 0, 10, .inl x_shore))]
set_option maxHeartbeats 4000000 in
set_option maxRecDepth 100000 in
theorem w_X8_player {p : Program} {l : Launch} {e : Env} {s : State} {m : MethodId} {args : Array Value} {below : List Frame} {meth : Method} {c : Code} {Q : State → Prop} {A : Nat → Prop} {H : Heap} {locs : List Loc} {ls : Array Slot} (D : va_G) (cy : Nat → ClassId) (t : Nat → Nat) (o_t : Nat → Nat) (x_thrown : Int32) (x_delay : Int32) (x_feel : Int32) (x_turn : Int32) (x_sight : Int32) (x_ball : Int32) (x_w : Int32) (x_h : Int32) (x_n : Int32) (x_players : Int32) (x_skill : Nat → Int32) (x_shore : Nat → Int32) (p1 : Int32) (p2 : Int32) {out : Int32 × Int32 × Int32 × (Nat → Int32) × (Nat → Int32)} (hf : X8_player x_thrown x_players x_skill x_shore p1 p2 = some out) (hx : p.tables.exec = Jvm.exec) (hb : c.code = cX8_player) (hml : c.maxLocals = 3) (hown : s.vm.findClass RX8 = some m.cls) (hts : ∀ w ∈ wsX8_player, w.before args s = true) (hK : va_K D vwCl (TYS cy) s) (hE : EV t A s s.heap) (hA : ∀ q, s.heap.size ≤ q → A q) (hP : va_P D vwCl (wd_X8_player cy o_t x_thrown x_delay x_feel x_turn x_sight x_ball x_w x_h x_n x_players x_skill x_shore) H) (hD : va_D A (wd_X8_player cy o_t x_thrown x_delay x_feel x_turn x_sight x_ball x_w x_h x_n x_players x_skill x_shore)) (hS : va_S A s.heap H locs) (hl : lv_has ls 3 [(0, .ref (o_t 0)), (1, .int p1), (2, .int p2)]) (hR : ∀ (H : Heap) (locs : List Loc) (ls : Array Slot) (pc : Nat), va_P D vwCl (wd_X8_player cy o_t out.2.1 x_delay x_feel x_turn x_sight x_ball x_w x_h x_n out.2.2.1 out.2.2.2.1 out.2.2.2.2) H → va_D A (wd_X8_player cy o_t out.2.1 x_delay x_feel x_turn x_sight x_ball x_w x_h x_n out.2.2.1 out.2.2.2.1 out.2.2.2.2) → va_S A s.heap H locs → decode cX8_player pc = .ok (.ireturn, 1) → W p l e (rmm 1 25) s m args below meth c H locs 0 0 Q (F0 m pc ls [.int out.1])) : W p l e (rmm 1 25) s m args below meth c H locs 0 0 Q (F0 m 0 ls []) := by
  have k0 := hts (.fieldLink RX8 100 "SeaGamesModel" "thrown" "I") (List.mem_cons_of_mem _ (List.mem_append_left _ (List.mem_of_getElem? (i := 0) rfl)))
  have k1 : ∀ w ∈ u_ws RX8 TX8 36, w ∈ wsX8_player := fun _ h => List.mem_cons_of_mem _ (List.mem_append_right _ h)
  have k2 := hts (.constantLong RX8 226 (999)) (List.mem_cons_of_mem _ (List.mem_append_left _ (List.mem_of_getElem? (i := 1) rfl)))
  have k3 := hts (.constantLong RX8 109 (3)) (List.mem_cons_of_mem _ (List.mem_append_left _ (List.mem_of_getElem? (i := 2) rfl)))
  have k4 := hts (.fieldLink RX8 228 "SeaGamesModel" "players" "I") (List.mem_cons_of_mem _ (List.mem_append_left _ (List.mem_of_getElem? (i := 3) rfl)))
  have k5 := hts (.fieldLink RX8 81 "SeaGamesModel" "skill" "[I") (List.mem_cons_of_mem _ (List.mem_append_left _ (List.mem_of_getElem? (i := 4) rfl)))
  have k6 := hts (.fieldLink RX8 84 "SeaGamesModel" "shore" "[I") (List.mem_cons_of_mem _ (List.mem_append_left _ (List.mem_of_getElem? (i := 5) rfl)))
  rw [X8_player] at hf
  refine lv_aload_n hx hb dX8_player_0 rfl (lv_at hl 0 rfl) ?_
  refine lv_iconst (v := (0 : Int32)) hx hb dX8_player_1 (by decide) ?_
  refine va_put (D := D) (ci := 8) (v := .int (0 : Int32)) (ty := .int) (C := RX8) (T := TX8) (N := 36) hx hb hts k1 tyX8 tyX8_ok nmX8 hown hK hP hD hS 0 rfl rfl 0 (by decide) k0 (fun _ h9 => h9) rfl (by decide +kernel) rfl rfl (Nat.le_of_ble_eq_true rfl) dX8_player_2 (fun H locs hP hD hS => ?_)
  have hP : va_P D vwCl (wd_X8_player cy o_t (0 : Int32) x_delay x_feel x_turn x_sight x_ball x_w x_h x_n x_players x_skill x_shore) H := hP
  have hD : va_D A (wd_X8_player cy o_t (0 : Int32) x_delay x_feel x_turn x_sight x_ball x_w x_h x_n x_players x_skill x_shore) := hD
  refine lv_iload_n hx hb dX8_player_5 rfl (lv_at hl 1 rfl) ?_
  refine lv_i2l (v := (Int32.toInt64 p1)) hx hb dX8_player_6 rfl ?_
  refine lv_lconst (v := (0 : Int64)) hx hb dX8_player_7 (by decide) ?_
  refine lv_ldc2 (v := (999 : Int64)) hx hb hown k2 dX8_player_8 ?_
  obtain ⟨r11, hr11, hf⟩ := bd_s hf
  refine my_Si (WS2 := (wd_X8_player cy o_t (0 : Int32) x_delay x_feel x_turn x_sight x_ball x_w x_h x_n x_players x_skill x_shore)) ⟨hx, hb, hml, hown, hts⟩ (c_X8_in l D cy t (Int32.toInt64 p1) (0 : Int64) (999 : Int64) hr11) (va_cwS 3 hts gX8_player_X8_in rfl rfl rfl hd_X8_in ⟨Nat.le_of_ble_eq_true rfl, Nat.le_of_ble_eq_true rfl⟩) hK hE hP hD hS hA [] 3 rfl rfl (by decide +kernel) rfl rfl hl.1 rfl (Nat.le_of_ble_eq_true rfl) dX8_player_11 ⟨Nat.le_of_ble_eq_true rfl, Nat.le_of_ble_eq_true rfl⟩ (fun H locs hP hD hS => ?_)
  refine lv_if_eq (tgt := 29) hx hb dX8_player_14 (by decide) (fun c14 => ?_) (fun c14 => ?_)
  · have hf := ifp c14 hf
    refine lv_bipush (v := (-2 : Int32)) hx hb dX8_player_29 (by decide) ?_
    obtain rfl := Option.some.inj hf
    exact hR _ _ _ _ hP hD hS dX8_player_31
  · have hf := ifn c14 hf
    refine lv_iload_n hx hb dX8_player_17 rfl (lv_at hl 2 rfl) ?_
    refine lv_i2l (v := (Int32.toInt64 p2)) hx hb dX8_player_18 rfl ?_
    refine lv_lconst (v := (0 : Int64)) hx hb dX8_player_19 (by decide) ?_
    refine lv_ldc2 (v := (3 : Int64)) hx hb hown k3 dX8_player_20 ?_
    obtain ⟨r23, hr23, hf⟩ := bd_s hf
    refine my_Si (WS2 := (wd_X8_player cy o_t (0 : Int32) x_delay x_feel x_turn x_sight x_ball x_w x_h x_n x_players x_skill x_shore)) ⟨hx, hb, hml, hown, hts⟩ (c_X8_in l D cy t (Int32.toInt64 p2) (0 : Int64) (3 : Int64) hr23) (va_cwS 3 hts gX8_player_X8_in rfl rfl rfl hd_X8_in ⟨Nat.le_of_ble_eq_true rfl, Nat.le_of_ble_eq_true rfl⟩) hK hE hP hD hS hA [] 3 rfl rfl (by decide +kernel) rfl rfl hl.1 rfl (Nat.le_of_ble_eq_true rfl) dX8_player_23 ⟨Nat.le_of_ble_eq_true rfl, Nat.le_of_ble_eq_true rfl⟩ (fun H locs hP hD hS => ?_)
    refine lv_if_ne (tgt := 32) hx hb dX8_player_26 (by decide) (fun c26 => ?_) (fun c26 => ?_)
    · have hf := ifn c26 hf
      refine lv_aload_n hx hb dX8_player_32 rfl (lv_at hl 0 rfl) ?_
      refine va_get (D := D) (ci := 8) (v := .int x_players) (C := RX8) (T := TX8) (N := 36) hx hb hts k1 hown hK hP 0 rfl rfl 29 (by decide) k4 (fun _ h9 => h9) rfl dX8_player_33 ?_
      refine lv_bipush (v := (10 : Int32)) hx hb dX8_player_36 (by decide) ?_
      refine lv_icmp_ne (tgt := 44) hx hb dX8_player_38 (by decide) (fun c38 => ?_) (fun c38 => ?_)
      · have hf := ifn c38 hf
        refine lv_aload_n hx hb dX8_player_44 rfl (lv_at hl 0 rfl) ?_
        refine va_get (D := D) (ci := 8) (v := .ref (o_t 31)) (C := RX8) (T := TX8) (N := 36) hx hb hts k1 hown hK hP 0 rfl rfl 30 (by decide) k5 (fun _ h9 => h9) rfl dX8_player_45 ?_
        refine lv_aload_n hx hb dX8_player_48 rfl (lv_at hl 0 rfl) ?_
        refine va_get (D := D) (ci := 8) (v := .int x_players) (C := RX8) (T := TX8) (N := 36) hx hb hts k1 hown hK hP 0 rfl rfl 29 (by decide) k4 (fun _ h9 => h9) rfl dX8_player_49 ?_
        refine lv_iload_n hx hb dX8_player_52 rfl (lv_at hl 1 rfl) ?_
        obtain ⟨w53, b53, ew53, hf⟩ := wrI_s hf
        refine my_iast (ws2 := (wd_X8_player cy o_t (0 : Int32) x_delay x_feel x_turn x_sight x_ball x_w x_h x_n x_players w53 x_shore)) hx hb hK hP hD hS 1 rfl b53 ew53 rfl dX8_player_53 (fun H locs hP hD hS => ?_)
        refine lv_aload_n hx hb dX8_player_54 rfl (lv_at hl 0 rfl) ?_
        refine va_get (D := D) (ci := 8) (v := .ref (o_t 32)) (C := RX8) (T := TX8) (N := 36) hx hb hts k1 hown hK hP 0 rfl rfl 31 (by decide) k6 (fun _ h9 => h9) rfl dX8_player_55 ?_
        refine lv_aload_n hx hb dX8_player_58 rfl (lv_at hl 0 rfl) ?_
        refine va_get (D := D) (ci := 8) (v := .int x_players) (C := RX8) (T := TX8) (N := 36) hx hb hts k1 hown hK hP 0 rfl rfl 29 (by decide) k4 (fun _ h9 => h9) rfl dX8_player_59 ?_
        refine lv_iload_n hx hb dX8_player_62 rfl (lv_at hl 2 rfl) ?_
        obtain ⟨w63, b63, ew63, hf⟩ := wrI_s hf
        refine my_iast (ws2 := (wd_X8_player cy o_t (0 : Int32) x_delay x_feel x_turn x_sight x_ball x_w x_h x_n x_players w53 w63)) hx hb hK hP hD hS 2 rfl b63 ew63 rfl dX8_player_63 (fun H locs hP hD hS => ?_)
        refine lv_aload_n hx hb dX8_player_64 rfl (lv_at hl 0 rfl) ?_
        refine lv_dup hx hb dX8_player_65 rfl ?_
        refine va_get (D := D) (ci := 8) (v := .int x_players) (C := RX8) (T := TX8) (N := 36) hx hb hts k1 hown hK hP 0 rfl rfl 29 (by decide) k4 (fun _ h9 => h9) rfl dX8_player_66 ?_
        refine lv_iconst (v := (1 : Int32)) hx hb dX8_player_69 (by decide) ?_
        refine lv_iadd hx hb dX8_player_70 ?_
        refine va_put (D := D) (ci := 8) (v := .int (x_players + (1 : Int32))) (ty := .int) (C := RX8) (T := TX8) (N := 36) hx hb hts k1 tyX8 tyX8_ok nmX8 hown hK hP hD hS 0 rfl rfl 29 (by decide) k4 (fun _ h9 => h9) rfl (by decide +kernel) rfl rfl (Nat.le_of_ble_eq_true rfl) dX8_player_71 (fun H locs hP hD hS => ?_)
        have hP : va_P D vwCl (wd_X8_player cy o_t (0 : Int32) x_delay x_feel x_turn x_sight x_ball x_w x_h x_n (x_players + (1 : Int32)) w53 w63) H := hP
        have hD : va_D A (wd_X8_player cy o_t (0 : Int32) x_delay x_feel x_turn x_sight x_ball x_w x_h x_n (x_players + (1 : Int32)) w53 w63) := hD
        refine lv_aload_n hx hb dX8_player_74 rfl (lv_at hl 0 rfl) ?_
        refine va_get (D := D) (ci := 8) (v := .int (x_players + (1 : Int32))) (C := RX8) (T := TX8) (N := 36) hx hb hts k1 hown hK hP 0 rfl rfl 29 (by decide) k4 (fun _ h9 => h9) rfl dX8_player_75 ?_
        refine lv_iconst (v := (1 : Int32)) hx hb dX8_player_78 (by decide) ?_
        refine lv_isub hx hb dX8_player_79 ?_
        obtain rfl := Option.some.inj hf
        exact hR _ _ _ _ hP hD hS dX8_player_80
      · have hf := ifp c38 hf
        refine lv_bipush (v := (-4 : Int32)) hx hb dX8_player_41 (by decide) ?_
        obtain rfl := Option.some.inj hf
        exact hR _ _ _ _ hP hD hS dX8_player_43
    · have hf := ifp c26 hf
      refine lv_bipush (v := (-2 : Int32)) hx hb dX8_player_29 (by decide) ?_
      obtain rfl := Option.some.inj hf
      exact hR _ _ _ _ hP hD hS dX8_player_31
theorem hd_X8_player : yX8_player.cls ≠ "java/lang/invoke/MethodHandle" ∧ yX8_player.cls ≠ "java/lang/invoke/VarHandle" ∧ (parseMethodDescriptor yX8_player.desc).map (fun d => d.parameters.length) = some 2 := by decide +kernel
set_option maxRecDepth 100000 in
theorem c_X8_player (l : Launch) (D : va_G) (cy : Nat → ClassId) (t : Nat → Nat) (o_t : Nat → Nat) (x_thrown : Int32) (x_delay : Int32) (x_feel : Int32) (x_turn : Int32) (x_sight : Int32) (x_ball : Int32) (x_w : Int32) (x_h : Int32) (x_n : Int32) (x_players : Int32) (x_skill : Nat → Int32) (x_shore : Nat → Int32) (p1 : Int32) (p2 : Int32) {out : Int32 × Int32 × Int32 × (Nat → Int32) × (Nat → Int32)} (hf : X8_player x_thrown x_players x_skill x_shore p1 p2 = some out) : ctI l yX8_player wsX8_player 1 25 D cy t [.ref (o_t 0), .int p1, .int p2] (wd_X8_player cy o_t x_thrown x_delay x_feel x_turn x_sight x_ball x_w x_h x_n x_players x_skill x_shore) (wd_X8_player cy o_t out.2.1 x_delay x_feel x_turn x_sight x_ball x_w x_h x_n out.2.2.1 out.2.2.2.1 out.2.2.2.2) out.1 := by
  refine ⟨rfl, ?_⟩
  intro sz
  refine Met.ofW (cc := cX8_player) (maxL := 3) (ret := (some .int)) (by decide) rfl ?_
  intro p e s m args below meth c s₁ B hml hv
  obtain ⟨rfl, hsz, hP, hK, hD0, hE⟩ := hv
  have hts := atoms_spec (ws := wsX8_player) B.pre
  have hown : s.vm.findClass RX8 = some m.cls := findClass_of_methodNamed B.named
  have hlocks := B.notSynchronized
  subst hsz
  have hD := hD0.self (sz := s.heap.size)
  have hl := lv_entry ([.ref (o_t 0), .int p1, .int p2]) (n := 3) (Nat.le_of_ble_eq_true rfl)
  rw [lg_entry_eq]
  generalize (lg_sl ([.ref (o_t 0), .int p1, .int p2]) ++ List.replicate (3 - (lg_sl ([.ref (o_t 0), .int p1, .int p2])).length) Slot.unset).toArray = ls at hl ⊢
  exact w_X8_player D cy t o_t x_thrown x_delay x_feel x_turn x_sight x_ball x_w x_h x_n x_players x_skill x_shore p1 p2 hf B.exec B.bytes hml hown hts hK hE (fun q h => Or.inr h) hP hD va_S.rf hl (fun H locs ls pc hP hD hS hdg => W.iret B.exec B.bytes B.returns (fun t ht hW => ⟨⟨_, (), rfl, rfl, ctB_of ht hP⟩, hS.F ht⟩) hS.2.2 hdg)

noncomputable def X8_far (x_thrown : Int32) (x_fars : Nat → Int32) (p1 : Int32) (p2 : Int32) (p3 : Int32) : Option (Int32 × Int32 × (Nat → Int32)) :=
  bd (X8_in (Int32.toInt64 p1) (0 : Int64) (3 : Int64)) fun r11 => if r11 = (0 : Int32) then (some ((-1 : Int32), (0 : Int32), x_fars)) else (bd (X8_in (Int32.toInt64 p2) (0 : Int64) (3 : Int64)) fun r23 => if r23 = (0 : Int32) then (some ((-1 : Int32), (0 : Int32), x_fars)) else (bd (X8_in (Int32.toInt64 p3) (0 : Int64) (999 : Int64)) fun r37 => if r37 = (0 : Int32) then (some ((-2 : Int32), (0 : Int32), x_fars)) else (rd x_fars 16 (((4 : Int32) * p1) + p2) fun v55 => wrI x_fars 16 (((4 : Int32) * p1) + p2) p3 fun w68 => wrI w68 16 (((4 : Int32) * p2) + p1) p3 fun w79 => some (v55, (0 : Int32), w79))))
abbrev wd_X8_far (cy : Nat → ClassId) (o_t : Nat → Nat) (x_thrown : Int32) (x_delay : Int32) (x_feel : Int32) (x_turn : Int32) (x_sight : Int32) (x_ball : Int32) (x_w : Int32) (x_h : Int32) (x_n : Int32) (x_players : Int32) (x_fars : Nat → Int32) : va_W := [(o_t 0, .inr (8, [.int x_thrown, .ref (o_t 2), .ref (o_t 3), .ref (o_t 4), .ref (o_t 5), .ref (o_t 6), .ref (o_t 7), .ref (o_t 8), .ref (o_t 9), .ref (o_t 10), .ref (o_t 11), .int x_delay, .int x_feel, .int x_turn, .int x_sight, .ref (o_t 16), .ref (o_t 17), .ref (o_t 18), .ref (o_t 19), .int x_ball, .int x_w, .int x_h, .int x_n, .ref (o_t 24), .ref (o_t 25), .ref (o_t 26), .ref (o_t 27), .ref (o_t 28), .ref (o_t 29), .int x_players, .ref (o_t 31), .ref (o_t 32), .ref (o_t 33), .ref (o_t 34), .ref (o_t 35), .ref (o_t 36)])), (o_t 33, .inl (cy 0, 16, .inl x_fars))]
set_option maxHeartbeats 4000000 in
set_option maxRecDepth 100000 in
theorem w_X8_far {p : Program} {l : Launch} {e : Env} {s : State} {m : MethodId} {args : Array Value} {below : List Frame} {meth : Method} {c : Code} {Q : State → Prop} {A : Nat → Prop} {H : Heap} {locs : List Loc} {ls : Array Slot} (D : va_G) (cy : Nat → ClassId) (t : Nat → Nat) (o_t : Nat → Nat) (x_thrown : Int32) (x_delay : Int32) (x_feel : Int32) (x_turn : Int32) (x_sight : Int32) (x_ball : Int32) (x_w : Int32) (x_h : Int32) (x_n : Int32) (x_players : Int32) (x_fars : Nat → Int32) (p1 : Int32) (p2 : Int32) (p3 : Int32) {out : Int32 × Int32 × (Nat → Int32)} (hf : X8_far x_thrown x_fars p1 p2 p3 = some out) (hx : p.tables.exec = Jvm.exec) (hb : c.code = cX8_far) (hml : c.maxLocals = 5) (hown : s.vm.findClass RX8 = some m.cls) (hts : ∀ w ∈ wsX8_far, w.before args s = true) (hK : va_K D vwCl (TYS cy) s) (hE : EV t A s s.heap) (hA : ∀ q, s.heap.size ≤ q → A q) (hP : va_P D vwCl (wd_X8_far cy o_t x_thrown x_delay x_feel x_turn x_sight x_ball x_w x_h x_n x_players x_fars) H) (hD : va_D A (wd_X8_far cy o_t x_thrown x_delay x_feel x_turn x_sight x_ball x_w x_h x_n x_players x_fars)) (hS : va_S A s.heap H locs) (hl : lv_has ls 5 [(0, .ref (o_t 0)), (1, .int p1), (2, .int p2), (3, .int p3)]) (hR : ∀ (H : Heap) (locs : List Loc) (ls : Array Slot) (pc : Nat), va_P D vwCl (wd_X8_far cy o_t out.2.1 x_delay x_feel x_turn x_sight x_ball x_w x_h x_n x_players out.2.2) H → va_D A (wd_X8_far cy o_t out.2.1 x_delay x_feel x_turn x_sight x_ball x_w x_h x_n x_players out.2.2) → va_S A s.heap H locs → decode cX8_far pc = .ok (.ireturn, 1) → W p l e (rmm 1 25) s m args below meth c H locs 0 0 Q (F0 m pc ls [.int out.1])) : W p l e (rmm 1 25) s m args below meth c H locs 0 0 Q (F0 m 0 ls []) := by
  have k0 := hts (.fieldLink RX8 100 "SeaGamesModel" "thrown" "I") (List.mem_cons_of_mem _ (List.mem_append_left _ (List.mem_of_getElem? (i := 0) rfl)))
  have k1 : ∀ w ∈ u_ws RX8 TX8 36, w ∈ wsX8_far := fun _ h => List.mem_cons_of_mem _ (List.mem_append_right _ h)
  have k2 := hts (.constantLong RX8 109 (3)) (List.mem_cons_of_mem _ (List.mem_append_left _ (List.mem_of_getElem? (i := 1) rfl)))
  have k3 := hts (.constantLong RX8 226 (999)) (List.mem_cons_of_mem _ (List.mem_append_left _ (List.mem_of_getElem? (i := 2) rfl)))
  have k4 := hts (.fieldLink RX8 87 "SeaGamesModel" "fars" "[I") (List.mem_cons_of_mem _ (List.mem_append_left _ (List.mem_of_getElem? (i := 3) rfl)))
  rw [X8_far] at hf
  refine lv_aload_n hx hb dX8_far_0 rfl (lv_at hl 0 rfl) ?_
  refine lv_iconst (v := (0 : Int32)) hx hb dX8_far_1 (by decide) ?_
  refine va_put (D := D) (ci := 8) (v := .int (0 : Int32)) (ty := .int) (C := RX8) (T := TX8) (N := 36) hx hb hts k1 tyX8 tyX8_ok nmX8 hown hK hP hD hS 0 rfl rfl 0 (by decide) k0 (fun _ h9 => h9) rfl (by decide +kernel) rfl rfl (Nat.le_of_ble_eq_true rfl) dX8_far_2 (fun H locs hP hD hS => ?_)
  have hP : va_P D vwCl (wd_X8_far cy o_t (0 : Int32) x_delay x_feel x_turn x_sight x_ball x_w x_h x_n x_players x_fars) H := hP
  have hD : va_D A (wd_X8_far cy o_t (0 : Int32) x_delay x_feel x_turn x_sight x_ball x_w x_h x_n x_players x_fars) := hD
  refine lv_iload_n hx hb dX8_far_5 rfl (lv_at hl 1 rfl) ?_
  refine lv_i2l (v := (Int32.toInt64 p1)) hx hb dX8_far_6 rfl ?_
  refine lv_lconst (v := (0 : Int64)) hx hb dX8_far_7 (by decide) ?_
  refine lv_ldc2 (v := (3 : Int64)) hx hb hown k2 dX8_far_8 ?_
  obtain ⟨r11, hr11, hf⟩ := bd_s hf
  refine my_Si (WS2 := (wd_X8_far cy o_t (0 : Int32) x_delay x_feel x_turn x_sight x_ball x_w x_h x_n x_players x_fars)) ⟨hx, hb, hml, hown, hts⟩ (c_X8_in l D cy t (Int32.toInt64 p1) (0 : Int64) (3 : Int64) hr11) (va_cwS 3 hts gX8_far_X8_in rfl rfl rfl hd_X8_in ⟨Nat.le_of_ble_eq_true rfl, Nat.le_of_ble_eq_true rfl⟩) hK hE hP hD hS hA [] 2 rfl rfl (by decide +kernel) rfl rfl hl.1 rfl (Nat.le_of_ble_eq_true rfl) dX8_far_11 ⟨Nat.le_of_ble_eq_true rfl, Nat.le_of_ble_eq_true rfl⟩ (fun H locs hP hD hS => ?_)
  refine lv_if_eq (tgt := 29) hx hb dX8_far_14 (by decide) (fun c14 => ?_) (fun c14 => ?_)
  · have hf := ifp c14 hf
    refine lv_iconst (v := (-1 : Int32)) hx hb dX8_far_29 (by decide) ?_
    obtain rfl := Option.some.inj hf
    exact hR _ _ _ _ hP hD hS dX8_far_30
  · have hf := ifn c14 hf
    refine lv_iload_n hx hb dX8_far_17 rfl (lv_at hl 2 rfl) ?_
    refine lv_i2l (v := (Int32.toInt64 p2)) hx hb dX8_far_18 rfl ?_
    refine lv_lconst (v := (0 : Int64)) hx hb dX8_far_19 (by decide) ?_
    refine lv_ldc2 (v := (3 : Int64)) hx hb hown k2 dX8_far_20 ?_
    obtain ⟨r23, hr23, hf⟩ := bd_s hf
    refine my_Si (WS2 := (wd_X8_far cy o_t (0 : Int32) x_delay x_feel x_turn x_sight x_ball x_w x_h x_n x_players x_fars)) ⟨hx, hb, hml, hown, hts⟩ (c_X8_in l D cy t (Int32.toInt64 p2) (0 : Int64) (3 : Int64) hr23) (va_cwS 3 hts gX8_far_X8_in rfl rfl rfl hd_X8_in ⟨Nat.le_of_ble_eq_true rfl, Nat.le_of_ble_eq_true rfl⟩) hK hE hP hD hS hA [] 2 rfl rfl (by decide +kernel) rfl rfl hl.1 rfl (Nat.le_of_ble_eq_true rfl) dX8_far_23 ⟨Nat.le_of_ble_eq_true rfl, Nat.le_of_ble_eq_true rfl⟩ (fun H locs hP hD hS => ?_)
    refine lv_if_ne (tgt := 31) hx hb dX8_far_26 (by decide) (fun c26 => ?_) (fun c26 => ?_)
    · have hf := ifn c26 hf
      refine lv_iload_n hx hb dX8_far_31 rfl (lv_at hl 3 rfl) ?_
      refine lv_i2l (v := (Int32.toInt64 p3)) hx hb dX8_far_32 rfl ?_
      refine lv_lconst (v := (0 : Int64)) hx hb dX8_far_33 (by decide) ?_
      refine lv_ldc2 (v := (999 : Int64)) hx hb hown k3 dX8_far_34 ?_
      obtain ⟨r37, hr37, hf⟩ := bd_s hf
      refine my_Si (WS2 := (wd_X8_far cy o_t (0 : Int32) x_delay x_feel x_turn x_sight x_ball x_w x_h x_n x_players x_fars)) ⟨hx, hb, hml, hown, hts⟩ (c_X8_in l D cy t (Int32.toInt64 p3) (0 : Int64) (999 : Int64) hr37) (va_cwS 3 hts gX8_far_X8_in rfl rfl rfl hd_X8_in ⟨Nat.le_of_ble_eq_true rfl, Nat.le_of_ble_eq_true rfl⟩) hK hE hP hD hS hA [] 2 rfl rfl (by decide +kernel) rfl rfl hl.1 rfl (Nat.le_of_ble_eq_true rfl) dX8_far_37 ⟨Nat.le_of_ble_eq_true rfl, Nat.le_of_ble_eq_true rfl⟩ (fun H locs hP hD hS => ?_)
      refine lv_if_ne (tgt := 46) hx hb dX8_far_40 (by decide) (fun c40 => ?_) (fun c40 => ?_)
      · have hf := ifn c40 hf
        refine lv_aload_n hx hb dX8_far_46 rfl (lv_at hl 0 rfl) ?_
        refine va_get (D := D) (ci := 8) (v := .ref (o_t 33)) (C := RX8) (T := TX8) (N := 36) hx hb hts k1 hown hK hP 0 rfl rfl 32 (by decide) k4 (fun _ h9 => h9) rfl dX8_far_47 ?_
        refine lv_iconst (v := (4 : Int32)) hx hb dX8_far_50 (by decide) ?_
        refine lv_iload_n hx hb dX8_far_51 rfl (lv_at hl 1 rfl) ?_
        refine lv_imul hx hb dX8_far_52 ?_
        refine lv_iload_n hx hb dX8_far_53 rfl (lv_at hl 2 rfl) ?_
        refine lv_iadd hx hb dX8_far_54 ?_
        obtain ⟨v55, b55, ev55, hf⟩ := rd_s hf
        refine my_iald hx hb hK hP 1 rfl b55 ev55 dX8_far_55 ?_
        refine lv_istore (lv' := [(4, .int v55), (0, .ref (o_t 0)), (1, .int p1), (2, .int p2), (3, .int p3)]) hx hb dX8_far_56 hl (by decide) rfl (fun ls hl => ?_)
        refine lv_aload_n hx hb dX8_far_58 rfl (lv_at hl 1 rfl) ?_
        refine va_get (D := D) (ci := 8) (v := .ref (o_t 33)) (C := RX8) (T := TX8) (N := 36) hx hb hts k1 hown hK hP 0 rfl rfl 32 (by decide) k4 (fun _ h9 => h9) rfl dX8_far_59 ?_
        refine lv_iconst (v := (4 : Int32)) hx hb dX8_far_62 (by decide) ?_
        refine lv_iload_n hx hb dX8_far_63 rfl (lv_at hl 2 rfl) ?_
        refine lv_imul hx hb dX8_far_64 ?_
        refine lv_iload_n hx hb dX8_far_65 rfl (lv_at hl 3 rfl) ?_
        refine lv_iadd hx hb dX8_far_66 ?_
        refine lv_iload_n hx hb dX8_far_67 rfl (lv_at hl 4 rfl) ?_
        obtain ⟨w68, b68, ew68, hf⟩ := wrI_s hf
        refine my_iast (ws2 := (wd_X8_far cy o_t (0 : Int32) x_delay x_feel x_turn x_sight x_ball x_w x_h x_n x_players w68)) hx hb hK hP hD hS 1 rfl b68 ew68 rfl dX8_far_68 (fun H locs hP hD hS => ?_)
        refine lv_aload_n hx hb dX8_far_69 rfl (lv_at hl 1 rfl) ?_
        refine va_get (D := D) (ci := 8) (v := .ref (o_t 33)) (C := RX8) (T := TX8) (N := 36) hx hb hts k1 hown hK hP 0 rfl rfl 32 (by decide) k4 (fun _ h9 => h9) rfl dX8_far_70 ?_
        refine lv_iconst (v := (4 : Int32)) hx hb dX8_far_73 (by decide) ?_
        refine lv_iload_n hx hb dX8_far_74 rfl (lv_at hl 3 rfl) ?_
        refine lv_imul hx hb dX8_far_75 ?_
        refine lv_iload_n hx hb dX8_far_76 rfl (lv_at hl 2 rfl) ?_
        refine lv_iadd hx hb dX8_far_77 ?_
        refine lv_iload_n hx hb dX8_far_78 rfl (lv_at hl 4 rfl) ?_
        obtain ⟨w79, b79, ew79, hf⟩ := wrI_s hf
        refine my_iast (ws2 := (wd_X8_far cy o_t (0 : Int32) x_delay x_feel x_turn x_sight x_ball x_w x_h x_n x_players w79)) hx hb hK hP hD hS 1 rfl b79 ew79 rfl dX8_far_79 (fun H locs hP hD hS => ?_)
        refine lv_iload hx hb dX8_far_80 (lv_at hl 0 rfl) ?_
        obtain rfl := Option.some.inj hf
        exact hR _ _ _ _ hP hD hS dX8_far_82
      · have hf := ifp c40 hf
        refine lv_bipush (v := (-2 : Int32)) hx hb dX8_far_43 (by decide) ?_
        obtain rfl := Option.some.inj hf
        exact hR _ _ _ _ hP hD hS dX8_far_45
    · have hf := ifp c26 hf
      refine lv_iconst (v := (-1 : Int32)) hx hb dX8_far_29 (by decide) ?_
      obtain rfl := Option.some.inj hf
      exact hR _ _ _ _ hP hD hS dX8_far_30
theorem hd_X8_far : yX8_far.cls ≠ "java/lang/invoke/MethodHandle" ∧ yX8_far.cls ≠ "java/lang/invoke/VarHandle" ∧ (parseMethodDescriptor yX8_far.desc).map (fun d => d.parameters.length) = some 3 := by decide +kernel
set_option maxRecDepth 100000 in
theorem c_X8_far (l : Launch) (D : va_G) (cy : Nat → ClassId) (t : Nat → Nat) (o_t : Nat → Nat) (x_thrown : Int32) (x_delay : Int32) (x_feel : Int32) (x_turn : Int32) (x_sight : Int32) (x_ball : Int32) (x_w : Int32) (x_h : Int32) (x_n : Int32) (x_players : Int32) (x_fars : Nat → Int32) (p1 : Int32) (p2 : Int32) (p3 : Int32) {out : Int32 × Int32 × (Nat → Int32)} (hf : X8_far x_thrown x_fars p1 p2 p3 = some out) : ctI l yX8_far wsX8_far 1 25 D cy t [.ref (o_t 0), .int p1, .int p2, .int p3] (wd_X8_far cy o_t x_thrown x_delay x_feel x_turn x_sight x_ball x_w x_h x_n x_players x_fars) (wd_X8_far cy o_t out.2.1 x_delay x_feel x_turn x_sight x_ball x_w x_h x_n x_players out.2.2) out.1 := by
  refine ⟨rfl, ?_⟩
  intro sz
  refine Met.ofW (cc := cX8_far) (maxL := 5) (ret := (some .int)) (by decide) rfl ?_
  intro p e s m args below meth c s₁ B hml hv
  obtain ⟨rfl, hsz, hP, hK, hD0, hE⟩ := hv
  have hts := atoms_spec (ws := wsX8_far) B.pre
  have hown : s.vm.findClass RX8 = some m.cls := findClass_of_methodNamed B.named
  have hlocks := B.notSynchronized
  subst hsz
  have hD := hD0.self (sz := s.heap.size)
  have hl := lv_entry ([.ref (o_t 0), .int p1, .int p2, .int p3]) (n := 5) (Nat.le_of_ble_eq_true rfl)
  rw [lg_entry_eq]
  generalize (lg_sl ([.ref (o_t 0), .int p1, .int p2, .int p3]) ++ List.replicate (5 - (lg_sl ([.ref (o_t 0), .int p1, .int p2, .int p3])).length) Slot.unset).toArray = ls at hl ⊢
  exact w_X8_far D cy t o_t x_thrown x_delay x_feel x_turn x_sight x_ball x_w x_h x_n x_players x_fars p1 p2 p3 hf B.exec B.bytes hml hown hts hK hE (fun q h => Or.inr h) hP hD va_S.rf hl (fun H locs ls pc hP hD hS hdg => W.iret B.exec B.bytes B.returns (fun t ht hW => ⟨⟨_, (), rfl, rfl, ctB_of ht hP⟩, hS.F ht⟩) hS.2.2 hdg)

noncomputable def X8_costs (x_skill : Nat → Int32) (x_shore : Nat → Int32) (x_fars : Nat → Int32) (p1 : Int32) (p2 : Int32) : Option (Int32) :=
  rd x_skill 10 p1 fun v5 => rd x_skill 10 p2 fun v11 => bd (X8_size (v5 - v11)) fun r13 => rd x_shore 10 p1 fun v26 => rd x_shore 10 p2 fun v33 => rd x_fars 16 (((4 : Int32) * v26) + v33) fun v35 => some (r13 + v35)
abbrev wd_X8_costs (cy : Nat → ClassId) (o_t : Nat → Nat) (x_thrown : Int32) (x_delay : Int32) (x_feel : Int32) (x_turn : Int32) (x_sight : Int32) (x_ball : Int32) (x_w : Int32) (x_h : Int32) (x_n : Int32) (x_players : Int32) (x_skill : Nat → Int32) (x_shore : Nat → Int32) (x_fars : Nat → Int32) : va_W := [(o_t 0, .inr (8, [.int x_thrown, .ref (o_t 2), .ref (o_t 3), .ref (o_t 4), .ref (o_t 5), .ref (o_t 6), .ref (o_t 7), .ref (o_t 8), .ref (o_t 9), .ref (o_t 10), .ref (o_t 11), .int x_delay, .int x_feel, .int x_turn, .int x_sight, .ref (o_t 16), .ref (o_t 17), .ref (o_t 18), .ref (o_t 19), .int x_ball, .int x_w, .int x_h, .int x_n, .ref (o_t 24), .ref (o_t 25), .ref (o_t 26), .ref (o_t 27), .ref (o_t 28), .ref (o_t 29), .int x_players, .ref (o_t 31), .ref (o_t 32), .ref (o_t 33), .ref (o_t 34), .ref (o_t 35), .ref (o_t 36)])), (o_t 31, .inl (cy 0, 10, .inl x_skill)), (o_t 32, .inl (cy 0, 10, .inl x_shore)), (o_t 33, .inl (cy 0, 16, .inl x_fars))]
set_option maxHeartbeats 4000000 in
set_option maxRecDepth 100000 in
theorem w_X8_costs {p : Program} {l : Launch} {e : Env} {s : State} {m : MethodId} {args : Array Value} {below : List Frame} {meth : Method} {c : Code} {Q : State → Prop} {A : Nat → Prop} {H : Heap} {locs : List Loc} {ls : Array Slot} (D : va_G) (cy : Nat → ClassId) (t : Nat → Nat) (o_t : Nat → Nat) (x_thrown : Int32) (x_delay : Int32) (x_feel : Int32) (x_turn : Int32) (x_sight : Int32) (x_ball : Int32) (x_w : Int32) (x_h : Int32) (x_n : Int32) (x_players : Int32) (x_skill : Nat → Int32) (x_shore : Nat → Int32) (x_fars : Nat → Int32) (p1 : Int32) (p2 : Int32) {out : Int32} (hf : X8_costs x_skill x_shore x_fars p1 p2 = some out) (hx : p.tables.exec = Jvm.exec) (hb : c.code = cX8_costs) (hml : c.maxLocals = 3) (hown : s.vm.findClass RX8 = some m.cls) (hts : ∀ w ∈ wsX8_costs, w.before args s = true) (hK : va_K D vwCl (TYS cy) s) (hE : EV t A s s.heap) (hA : ∀ q, s.heap.size ≤ q → A q) (hP : va_P D vwCl (wd_X8_costs cy o_t x_thrown x_delay x_feel x_turn x_sight x_ball x_w x_h x_n x_players x_skill x_shore x_fars) H) (hD : va_D A (wd_X8_costs cy o_t x_thrown x_delay x_feel x_turn x_sight x_ball x_w x_h x_n x_players x_skill x_shore x_fars)) (hS : va_S A s.heap H locs) (hl : lv_has ls 3 [(0, .ref (o_t 0)), (1, .int p1), (2, .int p2)]) (hR : ∀ (H : Heap) (locs : List Loc) (ls : Array Slot) (pc : Nat), va_P D vwCl (wd_X8_costs cy o_t x_thrown x_delay x_feel x_turn x_sight x_ball x_w x_h x_n x_players x_skill x_shore x_fars) H → va_D A (wd_X8_costs cy o_t x_thrown x_delay x_feel x_turn x_sight x_ball x_w x_h x_n x_players x_skill x_shore x_fars) → va_S A s.heap H locs → decode cX8_costs pc = .ok (.ireturn, 1) → W p l e (rmm 1 20) s m args below meth c H locs 0 0 Q (F0 m pc ls [.int out])) : W p l e (rmm 1 20) s m args below meth c H locs 0 0 Q (F0 m 0 ls []) := by
  have k0 := hts (.fieldLink RX8 81 "SeaGamesModel" "skill" "[I") (List.mem_cons_of_mem _ (List.mem_append_left _ (List.mem_of_getElem? (i := 0) rfl)))
  have k1 : ∀ w ∈ u_ws RX8 TX8 36, w ∈ wsX8_costs := fun _ h => List.mem_cons_of_mem _ (List.mem_append_right _ h)
  have k2 := hts (.fieldLink RX8 87 "SeaGamesModel" "fars" "[I") (List.mem_cons_of_mem _ (List.mem_append_left _ (List.mem_of_getElem? (i := 1) rfl)))
  have k3 := hts (.fieldLink RX8 84 "SeaGamesModel" "shore" "[I") (List.mem_cons_of_mem _ (List.mem_append_left _ (List.mem_of_getElem? (i := 2) rfl)))
  rw [X8_costs] at hf
  refine lv_aload_n hx hb dX8_costs_0 rfl (lv_at hl 0 rfl) ?_
  refine va_get (D := D) (ci := 8) (v := .ref (o_t 31)) (C := RX8) (T := TX8) (N := 36) hx hb hts k1 hown hK hP 0 rfl rfl 30 (by decide) k0 (fun _ h9 => h9) rfl dX8_costs_1 ?_
  refine lv_iload_n hx hb dX8_costs_4 rfl (lv_at hl 1 rfl) ?_
  obtain ⟨v5, b5, ev5, hf⟩ := rd_s hf
  refine my_iald hx hb hK hP 1 rfl b5 ev5 dX8_costs_5 ?_
  refine lv_aload_n hx hb dX8_costs_6 rfl (lv_at hl 0 rfl) ?_
  refine va_get (D := D) (ci := 8) (v := .ref (o_t 31)) (C := RX8) (T := TX8) (N := 36) hx hb hts k1 hown hK hP 0 rfl rfl 30 (by decide) k0 (fun _ h9 => h9) rfl dX8_costs_7 ?_
  refine lv_iload_n hx hb dX8_costs_10 rfl (lv_at hl 2 rfl) ?_
  obtain ⟨v11, b11, ev11, hf⟩ := rd_s hf
  refine my_iald hx hb hK hP 1 rfl b11 ev11 dX8_costs_11 ?_
  refine lv_isub hx hb dX8_costs_12 ?_
  obtain ⟨r13, hr13, hf⟩ := bd_s hf
  refine my_Si (WS2 := (wd_X8_costs cy o_t x_thrown x_delay x_feel x_turn x_sight x_ball x_w x_h x_n x_players x_skill x_shore x_fars)) ⟨hx, hb, hml, hown, hts⟩ (c_X8_size l D cy t (v5 - v11) hr13) (va_cwS 1 hts gX8_costs_X8_size rfl rfl rfl hd_X8_size ⟨Nat.le_of_ble_eq_true rfl, Nat.le_of_ble_eq_true rfl⟩) hK hE hP hD hS hA [] 4 rfl rfl (by decide +kernel) rfl rfl hl.1 rfl (Nat.le_of_ble_eq_true rfl) dX8_costs_13 ⟨Nat.le_of_ble_eq_true rfl, Nat.le_of_ble_eq_true rfl⟩ (fun H locs hP hD hS => ?_)
  refine lv_aload_n hx hb dX8_costs_16 rfl (lv_at hl 0 rfl) ?_
  refine va_get (D := D) (ci := 8) (v := .ref (o_t 33)) (C := RX8) (T := TX8) (N := 36) hx hb hts k1 hown hK hP 0 rfl rfl 32 (by decide) k2 (fun _ h9 => h9) rfl dX8_costs_17 ?_
  refine lv_iconst (v := (4 : Int32)) hx hb dX8_costs_20 (by decide) ?_
  refine lv_aload_n hx hb dX8_costs_21 rfl (lv_at hl 0 rfl) ?_
  refine va_get (D := D) (ci := 8) (v := .ref (o_t 32)) (C := RX8) (T := TX8) (N := 36) hx hb hts k1 hown hK hP 0 rfl rfl 31 (by decide) k3 (fun _ h9 => h9) rfl dX8_costs_22 ?_
  refine lv_iload_n hx hb dX8_costs_25 rfl (lv_at hl 1 rfl) ?_
  obtain ⟨v26, b26, ev26, hf⟩ := rd_s hf
  refine my_iald hx hb hK hP 2 rfl b26 ev26 dX8_costs_26 ?_
  refine lv_imul hx hb dX8_costs_27 ?_
  refine lv_aload_n hx hb dX8_costs_28 rfl (lv_at hl 0 rfl) ?_
  refine va_get (D := D) (ci := 8) (v := .ref (o_t 32)) (C := RX8) (T := TX8) (N := 36) hx hb hts k1 hown hK hP 0 rfl rfl 31 (by decide) k3 (fun _ h9 => h9) rfl dX8_costs_29 ?_
  refine lv_iload_n hx hb dX8_costs_32 rfl (lv_at hl 2 rfl) ?_
  obtain ⟨v33, b33, ev33, hf⟩ := rd_s hf
  refine my_iald hx hb hK hP 2 rfl b33 ev33 dX8_costs_33 ?_
  refine lv_iadd hx hb dX8_costs_34 ?_
  obtain ⟨v35, b35, ev35, hf⟩ := rd_s hf
  refine my_iald hx hb hK hP 3 rfl b35 ev35 dX8_costs_35 ?_
  refine lv_iadd hx hb dX8_costs_36 ?_
  obtain rfl := Option.some.inj hf
  exact hR _ _ _ _ hP hD hS dX8_costs_37
theorem hd_X8_costs : yX8_costs.cls ≠ "java/lang/invoke/MethodHandle" ∧ yX8_costs.cls ≠ "java/lang/invoke/VarHandle" ∧ (parseMethodDescriptor yX8_costs.desc).map (fun d => d.parameters.length) = some 2 := by decide +kernel
set_option maxRecDepth 100000 in
theorem c_X8_costs (l : Launch) (D : va_G) (cy : Nat → ClassId) (t : Nat → Nat) (o_t : Nat → Nat) (x_thrown : Int32) (x_delay : Int32) (x_feel : Int32) (x_turn : Int32) (x_sight : Int32) (x_ball : Int32) (x_w : Int32) (x_h : Int32) (x_n : Int32) (x_players : Int32) (x_skill : Nat → Int32) (x_shore : Nat → Int32) (x_fars : Nat → Int32) (p1 : Int32) (p2 : Int32) {out : Int32} (hf : X8_costs x_skill x_shore x_fars p1 p2 = some out) : ctI l yX8_costs wsX8_costs 1 20 D cy t [.ref (o_t 0), .int p1, .int p2] (wd_X8_costs cy o_t x_thrown x_delay x_feel x_turn x_sight x_ball x_w x_h x_n x_players x_skill x_shore x_fars) (wd_X8_costs cy o_t x_thrown x_delay x_feel x_turn x_sight x_ball x_w x_h x_n x_players x_skill x_shore x_fars) out := by
  refine ⟨rfl, ?_⟩
  intro sz
  refine Met.ofW (cc := cX8_costs) (maxL := 3) (ret := (some .int)) (by decide) rfl ?_
  intro p e s m args below meth c s₁ B hml hv
  obtain ⟨rfl, hsz, hP, hK, hD0, hE⟩ := hv
  have hts := atoms_spec (ws := wsX8_costs) B.pre
  have hown : s.vm.findClass RX8 = some m.cls := findClass_of_methodNamed B.named
  have hlocks := B.notSynchronized
  subst hsz
  have hD := hD0.self (sz := s.heap.size)
  have hl := lv_entry ([.ref (o_t 0), .int p1, .int p2]) (n := 3) (Nat.le_of_ble_eq_true rfl)
  rw [lg_entry_eq]
  generalize (lg_sl ([.ref (o_t 0), .int p1, .int p2]) ++ List.replicate (3 - (lg_sl ([.ref (o_t 0), .int p1, .int p2])).length) Slot.unset).toArray = ls at hl ⊢
  exact w_X8_costs D cy t o_t x_thrown x_delay x_feel x_turn x_sight x_ball x_w x_h x_n x_players x_skill x_shore x_fars p1 p2 hf B.exec B.bytes hml hown hts hK hE (fun q h => Or.inr h) hP hD va_S.rf hl (fun H locs ls pc hP hD hS hdg => W.iret B.exec B.bytes B.returns (fun t ht hW => ⟨⟨_, (), rfl, rfl, ctB_of ht hP⟩, hS.F ht⟩) hS.2.2 hdg)

noncomputable def X8_isOdd_J33 (rec4 : Int32 → Int32 → Int32 → Option (Int32)) (l0 : Int32) (l2 : Int32) (s0 : Int32) : Option (Int32) :=
  nm (l2 + (1 : Int32)) fun v34 => rec4  l0 s0 v34
noncomputable def X8_isOdd_J25 (rec4 : Int32 → Int32 → Int32 → Option (Int32)) (l0 : Int32) (l2 : Int32) (s0 : Int32) (s1 : Int32) : Option (Int32) :=
  if s0 = s1 then (X8_isOdd_J33 rec4  l0 l2 (0 : Int32)) else (X8_isOdd_J33 rec4  l0 l2 (1 : Int32))
noncomputable def X8_isOdd_L4_B (rec4 : Int32 → Int32 → Int32 → Option (Int32)) (l0 : Int32) (l1 : Int32) (l2 : Int32) : Option (Int32) :=
  if (10 : Int32) ≤ l2 then (zb l1 <| some l1) else (if ((l0 >>> (l2 &&& (31 : Int32))) &&& (1 : Int32)) = (1 : Int32) then (X8_isOdd_J25 rec4  l0 l2 l1 (1 : Int32)) else (X8_isOdd_J25 rec4  l0 l2 l1 (0 : Int32)))
noncomputable def X8_isOdd_L4 : Nat → Int32 → Int32 → Int32 → Option (Int32)
  | 0, _, _, _ => none
  | n + 1, y0, y1, y2 => X8_isOdd_L4_B  (X8_isOdd_L4  n) y0 y1 y2
noncomputable def X8_isOdd (p0 : Int32) : Option (Int32) :=
  X8_isOdd_L4  FU  p0 (0 : Int32) (0 : Int32)
abbrev wd_X8_isOdd (cy : Nat → ClassId) : va_W := []
set_option maxHeartbeats 4000000 in
set_option maxRecDepth 100000 in
theorem w_X8_isOdd {p : Program} {l : Launch} {e : Env} {s : State} {m : MethodId} {args : Array Value} {below : List Frame} {meth : Method} {c : Code} {Q : State → Prop} {A : Nat → Prop} {H : Heap} {locs : List Loc} {ls : Array Slot} (D : va_G) (cy : Nat → ClassId) (t : Nat → Nat) (p0 : Int32) {out : Int32} (hf : X8_isOdd p0 = some out) (hx : p.tables.exec = Jvm.exec) (hb : c.code = cX8_isOdd) (hml : c.maxLocals = 3) (hown : s.vm.findClass RX8 = some m.cls) (hts : ∀ w ∈ wsX8_isOdd, w.before args s = true) (hK : va_K D vwCl (TYS cy) s) (hE : EV t A s s.heap) (hA : ∀ q, s.heap.size ≤ q → A q) (hP : va_P D vwCl (wd_X8_isOdd cy) H) (hD : va_D A (wd_X8_isOdd cy)) (hS : va_S A s.heap H locs) (hl : lv_has ls 3 [(0, .int p0)]) (hR : ∀ (H : Heap) (locs : List Loc) (ls : Array Slot) (pc : Nat), va_P D vwCl (wd_X8_isOdd cy) H → va_D A (wd_X8_isOdd cy) → va_S A s.heap H locs → narrow .boolean (.int out) = .int out → decode cX8_isOdd pc = .ok (.ireturn, 1) → W p l e (rmm 0 0) s m args below meth c H locs 0 0 Q (F0 m pc ls [.int out])) : W p l e (rmm 0 0) s m args below meth c H locs 0 0 Q (F0 m 0 ls []) := by
  rw [X8_isOdd] at hf
  have h4 : ∀ (n4 : Nat) (l0 : Int32) (l1 : Int32) (l2 : Int32) (H : Heap) (locs : List Loc) (ls : Array Slot), X8_isOdd_L4 n4 l0 l1 l2 = some out → va_P D vwCl (wd_X8_isOdd cy) H → va_D A (wd_X8_isOdd cy) → va_S A s.heap H locs → lv_has ls 3 [(0, .int l0), (1, .int l1), (2, .int l2)] → W p l e (rmm 0 0) s m args below meth c H locs 0 0 Q (F0 m 4 ls []) := by
    intro n4
    induction n4 with
    | zero =>
      intro _ _ _ _ _ _ hf
      exact nomatch (show (none : Option _) = some out from hf)
    | succ n4 ih4 =>
      intro l0 l1 l2 H locs ls hf hP hD hS hl
      have hf : X8_isOdd_L4_B (X8_isOdd_L4 n4) l0 l1 l2 = some out := hf
      rw [X8_isOdd_L4_B] at hf
      refine lv_iload_n hx hb dX8_isOdd_4 rfl (lv_at hl 2 rfl) ?_
      refine lv_bipush (v := (10 : Int32)) hx hb dX8_isOdd_5 (by decide) ?_
      refine lv_icmp_ge (tgt := 40) hx hb dX8_isOdd_7 (by decide) (fun c7 => ?_) (fun c7 => ?_)
      · have hf := ifp c7 hf
        refine lv_iload_n hx hb dX8_isOdd_40 rfl (lv_at hl 1 rfl) ?_
        obtain ⟨z41, hf⟩ := zb_s hf
        obtain rfl := Option.some.inj hf
        exact hR _ _ _ _ hP hD hS z41 dX8_isOdd_41
      · have hf := ifn c7 hf
        have h25 : ∀ (l0 : Int32) (l2 : Int32) (s0 : Int32) (s1 : Int32) (H : Heap) (locs : List Loc) (ls : Array Slot), X8_isOdd_J25 (X8_isOdd_L4 n4) l0 l2 s0 s1 = some out → va_P D vwCl (wd_X8_isOdd cy) H → va_D A (wd_X8_isOdd cy) → va_S A s.heap H locs → lv_has ls 3 [(0, .int l0), (2, .int l2)] → W p l e (rmm 0 0) s m args below meth c H locs 0 0 Q (F0 m 25 ls [.int s1, .int s0]) := by
          intro l0 l2 s0 s1 H locs ls hf hP hD hS hl
          rw [X8_isOdd_J25] at hf
          have h33 : ∀ (l0 : Int32) (l2 : Int32) (s0 : Int32) (H : Heap) (locs : List Loc) (ls : Array Slot), X8_isOdd_J33 (X8_isOdd_L4 n4) l0 l2 s0 = some out → va_P D vwCl (wd_X8_isOdd cy) H → va_D A (wd_X8_isOdd cy) → va_S A s.heap H locs → lv_has ls 3 [(0, .int l0), (2, .int l2)] → W p l e (rmm 0 0) s m args below meth c H locs 0 0 Q (F0 m 33 ls [.int s0]) := by
            intro l0 l2 s0 H locs ls hf hP hD hS hl
            rw [X8_isOdd_J33] at hf
            refine lv_istore_n (lv' := [(1, .int s0), (0, .int l0), (2, .int l2)]) hx hb dX8_isOdd_33 rfl hl (by decide) rfl (fun ls hl => ?_)
            obtain ⟨v34, ev34, hf⟩ := nm_s hf
            refine lv_iinc (v := v34) (lv' := [(2, .int v34), (1, .int s0), (0, .int l0)]) hx hb dX8_isOdd_34 hl (k := 2) rfl (by rw [ev34]; rfl) (by decide) rfl (fun ls hl => ?_)
            refine lv_goto (tgt := 4) hx hb dX8_isOdd_37 (by decide) ?_
            exact ih4 _ _ _ _ _ _ hf hP hD hS (lv_sub hl [2, 1, 0] rfl)
          refine lv_icmp_eq (tgt := 32) hx hb dX8_isOdd_25 (by decide) (fun c25 => ?_) (fun c25 => ?_)
          · have hf := ifp c25 hf
            refine lv_iconst (v := (0 : Int32)) hx hb dX8_isOdd_32 (by decide) ?_
            exact h33 _ _ _ _ _ _ hf hP hD hS (lv_sub hl [0, 1] rfl)
          · have hf := ifn c25 hf
            refine lv_iconst (v := (1 : Int32)) hx hb dX8_isOdd_28 (by decide) ?_
            refine lv_goto (tgt := 33) hx hb dX8_isOdd_29 (by decide) ?_
            exact h33 _ _ _ _ _ _ hf hP hD hS (lv_sub hl [0, 1] rfl)
        refine lv_iload_n hx hb dX8_isOdd_10 rfl (lv_at hl 1 rfl) ?_
        refine lv_iload_n hx hb dX8_isOdd_11 rfl (lv_at hl 0 rfl) ?_
        refine lv_iload_n hx hb dX8_isOdd_12 rfl (lv_at hl 2 rfl) ?_
        refine lv_ishr hx hb dX8_isOdd_13 ?_
        refine lv_iconst (v := (1 : Int32)) hx hb dX8_isOdd_14 (by decide) ?_
        refine lv_iand hx hb dX8_isOdd_15 ?_
        refine lv_iconst (v := (1 : Int32)) hx hb dX8_isOdd_16 (by decide) ?_
        refine lv_icmp_ne (tgt := 24) hx hb dX8_isOdd_17 (by decide) (fun c17 => ?_) (fun c17 => ?_)
        · have hf := ifn c17 hf
          refine lv_iconst (v := (0 : Int32)) hx hb dX8_isOdd_24 (by decide) ?_
          exact h25 _ _ _ _ _ _ _ hf hP hD hS (lv_sub hl [0, 2] rfl)
        · have hf := ifp c17 hf
          refine lv_iconst (v := (1 : Int32)) hx hb dX8_isOdd_20 (by decide) ?_
          refine lv_goto (tgt := 25) hx hb dX8_isOdd_21 (by decide) ?_
          exact h25 _ _ _ _ _ _ _ hf hP hD hS (lv_sub hl [0, 2] rfl)
  refine lv_iconst (v := (0 : Int32)) hx hb dX8_isOdd_0 (by decide) ?_
  refine lv_istore_n (lv' := [(1, .int (0 : Int32)), (0, .int p0)]) hx hb dX8_isOdd_1 rfl hl (by decide) rfl (fun ls hl => ?_)
  refine lv_iconst (v := (0 : Int32)) hx hb dX8_isOdd_2 (by decide) ?_
  refine lv_istore_n (lv' := [(2, .int (0 : Int32)), (1, .int (0 : Int32)), (0, .int p0)]) hx hb dX8_isOdd_3 rfl hl (by decide) rfl (fun ls hl => ?_)
  exact h4 FU _ _ _ _ _ _ hf hP hD hS (lv_sub hl [2, 1, 0] rfl)
theorem hd_X8_isOdd : yX8_isOdd.cls ≠ "java/lang/invoke/MethodHandle" ∧ yX8_isOdd.cls ≠ "java/lang/invoke/VarHandle" ∧ (parseMethodDescriptor yX8_isOdd.desc).map (fun d => d.parameters.length) = some 1 := by decide +kernel
set_option maxRecDepth 100000 in
theorem c_X8_isOdd (l : Launch) (D : va_G) (cy : Nat → ClassId) (t : Nat → Nat) (p0 : Int32) {out : Int32} (hf : X8_isOdd p0 = some out) : ctI l yX8_isOdd wsX8_isOdd 0 0 D cy t [.int p0] (wd_X8_isOdd cy) (wd_X8_isOdd cy) out := by
  refine ⟨rfl, ?_⟩
  intro sz
  refine Met.ofW (cc := cX8_isOdd) (maxL := 3) (ret := (some .boolean)) (by decide) rfl ?_
  intro p e s m args below meth c s₁ B hml hv
  obtain ⟨rfl, hsz, hP, hK, hD0, hE⟩ := hv
  have hts := atoms_spec (ws := wsX8_isOdd) B.pre
  have hown : s.vm.findClass RX8 = some m.cls := findClass_of_methodNamed B.named
  have hlocks := B.notSynchronized
  subst hsz
  have hD := hD0.self (sz := s.heap.size)
  have hl := lv_entry ([.int p0]) (n := 3) (Nat.le_of_ble_eq_true rfl)
  rw [lg_entry_eq]
  generalize (lg_sl ([.int p0]) ++ List.replicate (3 - (lg_sl ([.int p0])).length) Slot.unset).toArray = ls at hl ⊢
  exact w_X8_isOdd D cy t  p0 hf B.exec B.bytes hml hown hts hK hE (fun q h => Or.inr h) hP hD va_S.rf hl (fun H locs ls pc hP hD hS z hdg => W.zret B.exec B.bytes B.returns z (fun t ht hW => ⟨⟨_, (), rfl, rfl, ctB_of ht hP⟩, hS.F ht⟩) hS.2.2 hdg)

noncomputable def X8_lowest_L2_B (rec2 : Int32 → Int32 → Option (Int32)) (l0 : Int32) (l1 : Int32) : Option (Int32) :=
  if ((l0 >>> (l1 &&& (31 : Int32))) &&& (1 : Int32)) = (0 : Int32) then (nm (l1 + (1 : Int32)) fun v10 => rec2  l0 v10) else (some l1)
noncomputable def X8_lowest_L2 : Nat → Int32 → Int32 → Option (Int32)
  | 0, _, _ => none
  | n + 1, y0, y1 => X8_lowest_L2_B  (X8_lowest_L2  n) y0 y1
noncomputable def X8_lowest (p0 : Int32) : Option (Int32) :=
  X8_lowest_L2  FU  p0 (0 : Int32)
abbrev wd_X8_lowest (cy : Nat → ClassId) : va_W := []
set_option maxHeartbeats 4000000 in
set_option maxRecDepth 100000 in
theorem w_X8_lowest {p : Program} {l : Launch} {e : Env} {s : State} {m : MethodId} {args : Array Value} {below : List Frame} {meth : Method} {c : Code} {Q : State → Prop} {A : Nat → Prop} {H : Heap} {locs : List Loc} {ls : Array Slot} (D : va_G) (cy : Nat → ClassId) (t : Nat → Nat) (p0 : Int32) {out : Int32} (hf : X8_lowest p0 = some out) (hx : p.tables.exec = Jvm.exec) (hb : c.code = cX8_lowest) (hml : c.maxLocals = 2) (hown : s.vm.findClass RX8 = some m.cls) (hts : ∀ w ∈ wsX8_lowest, w.before args s = true) (hK : va_K D vwCl (TYS cy) s) (hE : EV t A s s.heap) (hA : ∀ q, s.heap.size ≤ q → A q) (hP : va_P D vwCl (wd_X8_lowest cy) H) (hD : va_D A (wd_X8_lowest cy)) (hS : va_S A s.heap H locs) (hl : lv_has ls 2 [(0, .int p0)]) (hR : ∀ (H : Heap) (locs : List Loc) (ls : Array Slot) (pc : Nat), va_P D vwCl (wd_X8_lowest cy) H → va_D A (wd_X8_lowest cy) → va_S A s.heap H locs → decode cX8_lowest pc = .ok (.ireturn, 1) → W p l e (rmm 0 0) s m args below meth c H locs 0 0 Q (F0 m pc ls [.int out])) : W p l e (rmm 0 0) s m args below meth c H locs 0 0 Q (F0 m 0 ls []) := by
  rw [X8_lowest] at hf
  have h2 : ∀ (n2 : Nat) (l0 : Int32) (l1 : Int32) (H : Heap) (locs : List Loc) (ls : Array Slot), X8_lowest_L2 n2 l0 l1 = some out → va_P D vwCl (wd_X8_lowest cy) H → va_D A (wd_X8_lowest cy) → va_S A s.heap H locs → lv_has ls 2 [(0, .int l0), (1, .int l1)] → W p l e (rmm 0 0) s m args below meth c H locs 0 0 Q (F0 m 2 ls []) := by
    intro n2
    induction n2 with
    | zero =>
      intro _ _ _ _ _ hf
      exact nomatch (show (none : Option _) = some out from hf)
    | succ n2 ih2 =>
      intro l0 l1 H locs ls hf hP hD hS hl
      have hf : X8_lowest_L2_B (X8_lowest_L2 n2) l0 l1 = some out := hf
      rw [X8_lowest_L2_B] at hf
      refine lv_iload_n hx hb dX8_lowest_2 rfl (lv_at hl 0 rfl) ?_
      refine lv_iload_n hx hb dX8_lowest_3 rfl (lv_at hl 1 rfl) ?_
      refine lv_ishr hx hb dX8_lowest_4 ?_
      refine lv_iconst (v := (1 : Int32)) hx hb dX8_lowest_5 (by decide) ?_
      refine lv_iand hx hb dX8_lowest_6 ?_
      refine lv_if_ne (tgt := 16) hx hb dX8_lowest_7 (by decide) (fun c7 => ?_) (fun c7 => ?_)
      · have hf := ifn c7 hf
        refine lv_iload_n hx hb dX8_lowest_16 rfl (lv_at hl 1 rfl) ?_
        obtain rfl := Option.some.inj hf
        exact hR _ _ _ _ hP hD hS dX8_lowest_17
      · have hf := ifp c7 hf
        obtain ⟨v10, ev10, hf⟩ := nm_s hf
        refine lv_iinc (v := v10) (lv' := [(1, .int v10), (0, .int l0)]) hx hb dX8_lowest_10 hl (k := 1) rfl (by rw [ev10]; rfl) (by decide) rfl (fun ls hl => ?_)
        refine lv_goto (tgt := 2) hx hb dX8_lowest_13 (by decide) ?_
        exact ih2 _ _ _ _ _ hf hP hD hS (lv_sub hl [1, 0] rfl)
  refine lv_iconst (v := (0 : Int32)) hx hb dX8_lowest_0 (by decide) ?_
  refine lv_istore_n (lv' := [(1, .int (0 : Int32)), (0, .int p0)]) hx hb dX8_lowest_1 rfl hl (by decide) rfl (fun ls hl => ?_)
  exact h2 FU _ _ _ _ _ hf hP hD hS (lv_sub hl [1, 0] rfl)
theorem hd_X8_lowest : yX8_lowest.cls ≠ "java/lang/invoke/MethodHandle" ∧ yX8_lowest.cls ≠ "java/lang/invoke/VarHandle" ∧ (parseMethodDescriptor yX8_lowest.desc).map (fun d => d.parameters.length) = some 1 := by decide +kernel
set_option maxRecDepth 100000 in
theorem c_X8_lowest (l : Launch) (D : va_G) (cy : Nat → ClassId) (t : Nat → Nat) (p0 : Int32) {out : Int32} (hf : X8_lowest p0 = some out) : ctI l yX8_lowest wsX8_lowest 0 0 D cy t [.int p0] (wd_X8_lowest cy) (wd_X8_lowest cy) out := by
  refine ⟨rfl, ?_⟩
  intro sz
  refine Met.ofW (cc := cX8_lowest) (maxL := 2) (ret := (some .int)) (by decide) rfl ?_
  intro p e s m args below meth c s₁ B hml hv
  obtain ⟨rfl, hsz, hP, hK, hD0, hE⟩ := hv
  have hts := atoms_spec (ws := wsX8_lowest) B.pre
  have hown : s.vm.findClass RX8 = some m.cls := findClass_of_methodNamed B.named
  have hlocks := B.notSynchronized
  subst hsz
  have hD := hD0.self (sz := s.heap.size)
  have hl := lv_entry ([.int p0]) (n := 2) (Nat.le_of_ble_eq_true rfl)
  rw [lg_entry_eq]
  generalize (lg_sl ([.int p0]) ++ List.replicate (2 - (lg_sl ([.int p0])).length) Slot.unset).toArray = ls at hl ⊢
  exact w_X8_lowest D cy t  p0 hf B.exec B.bytes hml hown hts hK hE (fun q h => Or.inr h) hP hD va_S.rf hl (fun H locs ls pc hP hD hS hdg => W.iret B.exec B.bytes B.returns (fun t ht hW => ⟨⟨_, (), rfl, rfl, ctB_of ht hP⟩, hS.F ht⟩) hS.2.2 hdg)

noncomputable def X8_match_J309 (x_players : Int32) (x_skill : Nat → Int32) (x_shore : Nat → Int32) (x_fars : Nat → Int32) (x_least : Nat → Int32) (x_mates : Nat → Int32) (l1 : Int32) : Option (Int32 × (Nat → Int32) × (Nat → Int32)) :=
  rd x_least 1024 l1 fun v314 => some (v314, x_least, x_mates)
noncomputable def X8_match_J306 (x_players : Int32) (x_skill : Nat → Int32) (x_shore : Nat → Int32) (x_fars : Nat → Int32) (rec174 : (Nat → Int32) → (Nat → Int32) → Int32 → Int32 → Option (Int32 × (Nat → Int32) × (Nat → Int32))) (x_least : Nat → Int32) (x_mates : Nat → Int32) (l1 : Int32) (l2 : Int32) : Option (Int32 × (Nat → Int32) × (Nat → Int32)) :=
  rec174 x_least x_mates l1 l2
noncomputable def X8_match_J266 (x_players : Int32) (x_skill : Nat → Int32) (x_shore : Nat → Int32) (x_fars : Nat → Int32) (rec174 : (Nat → Int32) → (Nat → Int32) → Int32 → Int32 → Option (Int32 × (Nat → Int32) × (Nat → Int32))) (x_least : Nat → Int32) (x_mates : Nat → Int32) (l1 : Int32) (l2 : Int32) (l3 : Int32) (l4 : Int32) : Option (Int32 × (Nat → Int32) × (Nat → Int32)) :=
  wrI x_mates 10 l3 l4 fun w273 => nm (l2 &&& (((1 : Int32) <<< (l3 &&& (31 : Int32))) ^^^ (-1 : Int32))) fun v281 => if l4 = (-9 : Int32) then (X8_match_J306 x_players x_skill x_shore x_fars rec174 x_least w273 l1 v281) else (wrI w273 10 l4 l3 fun w296 => nm (v281 &&& (((1 : Int32) <<< (l4 &&& (31 : Int32))) ^^^ (-1 : Int32))) fun v305 => X8_match_J306 x_players x_skill x_shore x_fars rec174 x_least w296 l1 v305)
noncomputable def X8_match_J258 (x_players : Int32) (x_skill : Nat → Int32) (x_shore : Nat → Int32) (x_fars : Nat → Int32) (rec174 : (Nat → Int32) → (Nat → Int32) → Int32 → Int32 → Option (Int32 × (Nat → Int32) × (Nat → Int32))) (rec195 : (Nat → Int32) → (Nat → Int32) → Int32 → Int32 → Int32 → Int32 → Int32 → Option (Int32 × (Nat → Int32) × (Nat → Int32))) (x_least : Nat → Int32) (x_mates : Nat → Int32) (l1 : Int32) (l2 : Int32) (l3 : Int32) (l5 : Int32) (s0 : Int32) : Option (Int32 × (Nat → Int32) × (Nat → Int32)) :=
  nm (l5 + (-1 : Int32)) fun v260 => rec195 x_least x_mates l1 l2 l3 s0 v260
noncomputable def X8_match_J256 (x_players : Int32) (x_skill : Nat → Int32) (x_shore : Nat → Int32) (x_fars : Nat → Int32) (rec174 : (Nat → Int32) → (Nat → Int32) → Int32 → Int32 → Option (Int32 × (Nat → Int32) × (Nat → Int32))) (rec195 : (Nat → Int32) → (Nat → Int32) → Int32 → Int32 → Int32 → Int32 → Int32 → Option (Int32 × (Nat → Int32) × (Nat → Int32))) (x_least : Nat → Int32) (x_mates : Nat → Int32) (l1 : Int32) (l2 : Int32) (l3 : Int32) (l4 : Int32) (l5 : Int32) : Option (Int32 × (Nat → Int32) × (Nat → Int32)) :=
  X8_match_J258 x_players x_skill x_shore x_fars rec174 rec195 x_least x_mates l1 l2 l3 l5 l4
noncomputable def X8_match_L195_B (x_players : Int32) (x_skill : Nat → Int32) (x_shore : Nat → Int32) (x_fars : Nat → Int32) (rec174 : (Nat → Int32) → (Nat → Int32) → Int32 → Int32 → Option (Int32 × (Nat → Int32) × (Nat → Int32))) (rec195 : (Nat → Int32) → (Nat → Int32) → Int32 → Int32 → Int32 → Int32 → Int32 → Option (Int32 × (Nat → Int32) × (Nat → Int32))) (x_least : Nat → Int32) (x_mates : Nat → Int32) (l1 : Int32) (l2 : Int32) (l3 : Int32) (l4 : Int32) (l5 : Int32) : Option (Int32 × (Nat → Int32) × (Nat → Int32)) :=
  if l5 ≤ l3 then (X8_match_J266 x_players x_skill x_shore x_fars rec174 x_least x_mates l1 l2 l3 l4) else (nm ((l2 &&& (((1 : Int32) <<< (l3 &&& (31 : Int32))) ^^^ (-1 : Int32))) &&& (((1 : Int32) <<< (l5 &&& (31 : Int32))) ^^^ (-1 : Int32))) fun v215 => if ((l2 >>> (l5 &&& (31 : Int32))) &&& (1 : Int32)) = (1 : Int32) then (bd (X8_costs x_skill x_shore x_fars l3 l5) fun r231 => rd x_least 1024 v215 fun v240 => rd x_least 1024 l2 fun v247 => if (r231 + v240) = v247 then (X8_match_J258 x_players x_skill x_shore x_fars rec174 rec195 x_least x_mates l1 l2 l3 l5 l5) else (X8_match_J256 x_players x_skill x_shore x_fars rec174 rec195 x_least x_mates l1 l2 l3 l4 l5)) else (X8_match_J256 x_players x_skill x_shore x_fars rec174 rec195 x_least x_mates l1 l2 l3 l4 l5))
noncomputable def X8_match_L195 (x_players : Int32) (x_skill : Nat → Int32) (x_shore : Nat → Int32) (x_fars : Nat → Int32) (rec174 : (Nat → Int32) → (Nat → Int32) → Int32 → Int32 → Option (Int32 × (Nat → Int32) × (Nat → Int32))) : Nat → (Nat → Int32) → (Nat → Int32) → Int32 → Int32 → Int32 → Int32 → Int32 → Option (Int32 × (Nat → Int32) × (Nat → Int32))
  | 0, _, _, _, _, _, _, _ => none
  | n + 1, y0, y1, y2, y3, y4, y5, y6 => X8_match_L195_B x_players x_skill x_shore x_fars rec174 (X8_match_L195 x_players x_skill x_shore x_fars rec174 n) y0 y1 y2 y3 y4 y5 y6
noncomputable def X8_match_L174_B (x_players : Int32) (x_skill : Nat → Int32) (x_shore : Nat → Int32) (x_fars : Nat → Int32) (rec174 : (Nat → Int32) → (Nat → Int32) → Int32 → Int32 → Option (Int32 × (Nat → Int32) × (Nat → Int32))) (x_least : Nat → Int32) (x_mates : Nat → Int32) (l1 : Int32) (l2 : Int32) : Option (Int32 × (Nat → Int32) × (Nat → Int32)) :=
  if l2 ≤ (0 : Int32) then (X8_match_J309 x_players x_skill x_shore x_fars  x_least x_mates l1) else (bd (X8_lowest l2) fun r179 => nm (x_players - (1 : Int32)) fun v193 => X8_match_L195 x_players x_skill x_shore x_fars rec174 FU x_least x_mates l1 l2 r179 (-9 : Int32) v193)
noncomputable def X8_match_L174 (x_players : Int32) (x_skill : Nat → Int32) (x_shore : Nat → Int32) (x_fars : Nat → Int32) : Nat → (Nat → Int32) → (Nat → Int32) → Int32 → Int32 → Option (Int32 × (Nat → Int32) × (Nat → Int32))
  | 0, _, _, _, _ => none
  | n + 1, y0, y1, y2, y3 => X8_match_L174_B x_players x_skill x_shore x_fars  (X8_match_L174 x_players x_skill x_shore x_fars  n) y0 y1 y2 y3
noncomputable def X8_match_J172 (x_players : Int32) (x_skill : Nat → Int32) (x_shore : Nat → Int32) (x_fars : Nat → Int32) (x_least : Nat → Int32) (x_mates : Nat → Int32) (l1 : Int32) : Option (Int32 × (Nat → Int32) × (Nat → Int32)) :=
  X8_match_L174 x_players x_skill x_shore x_fars  FU x_least x_mates l1 l1
noncomputable def X8_match_J159 (x_players : Int32) (x_skill : Nat → Int32) (x_shore : Nat → Int32) (x_fars : Nat → Int32) (rec11 : (Nat → Int32) → (Nat → Int32) → Int32 → Int32 → Option (Int32 × (Nat → Int32) × (Nat → Int32))) (x_least : Nat → Int32) (x_mates : Nat → Int32) (l1 : Int32) (l2 : Int32) (l3 : Int32) : Option (Int32 × (Nat → Int32) × (Nat → Int32)) :=
  wrI x_least 1024 l2 l3 fun w165 => nm (l2 + (1 : Int32)) fun v166 => rec11 w165 x_mates l1 v166
noncomputable def X8_match_J158 (x_players : Int32) (x_skill : Nat → Int32) (x_shore : Nat → Int32) (x_fars : Nat → Int32) (rec11 : (Nat → Int32) → (Nat → Int32) → Int32 → Int32 → Option (Int32 × (Nat → Int32) × (Nat → Int32))) (x_least : Nat → Int32) (x_mates : Nat → Int32) (l1 : Int32) (l2 : Int32) (s0 : Int32) : Option (Int32 × (Nat → Int32) × (Nat → Int32)) :=
  X8_match_J159 x_players x_skill x_shore x_fars rec11 x_least x_mates l1 l2 s0
noncomputable def X8_match_J120 (x_players : Int32) (x_skill : Nat → Int32) (x_shore : Nat → Int32) (x_fars : Nat → Int32) (rec11 : (Nat → Int32) → (Nat → Int32) → Int32 → Int32 → Option (Int32 × (Nat → Int32) × (Nat → Int32))) (x_least : Nat → Int32) (x_mates : Nat → Int32) (l1 : Int32) (l2 : Int32) (l3 : Int32) (l4 : Int32) : Option (Int32 × (Nat → Int32) × (Nat → Int32)) :=
  if l2 ≤ (0 : Int32) then (X8_match_J159 x_players x_skill x_shore x_fars rec11 x_least x_mates l1 l2 l3) else (bd (X8_isOdd l2) fun r125 => if r125 = (0 : Int32) then (X8_match_J159 x_players x_skill x_shore x_fars rec11 x_least x_mates l1 l2 l3) else (rd x_least 1024 (l2 &&& (((1 : Int32) <<< (l4 &&& (31 : Int32))) ^^^ (-1 : Int32))) fun v143 => if l3 ≤ v143 then (X8_match_J158 x_players x_skill x_shore x_fars rec11 x_least x_mates l1 l2 l3) else (X8_match_J158 x_players x_skill x_shore x_fars rec11 x_least x_mates l1 l2 v143)))
noncomputable def X8_match_J114 (x_players : Int32) (x_skill : Nat → Int32) (x_shore : Nat → Int32) (x_fars : Nat → Int32) (rec11 : (Nat → Int32) → (Nat → Int32) → Int32 → Int32 → Option (Int32 × (Nat → Int32) × (Nat → Int32))) (rec47 : (Nat → Int32) → (Nat → Int32) → Int32 → Int32 → Int32 → Int32 → Int32 → Option (Int32 × (Nat → Int32) × (Nat → Int32))) (x_least : Nat → Int32) (x_mates : Nat → Int32) (l1 : Int32) (l2 : Int32) (l3 : Int32) (l4 : Int32) (l5 : Int32) : Option (Int32 × (Nat → Int32) × (Nat → Int32)) :=
  nm (l5 + (1 : Int32)) fun v114 => rec47 x_least x_mates l1 l2 l3 l4 v114
noncomputable def X8_match_J113 (x_players : Int32) (x_skill : Nat → Int32) (x_shore : Nat → Int32) (x_fars : Nat → Int32) (rec11 : (Nat → Int32) → (Nat → Int32) → Int32 → Int32 → Option (Int32 × (Nat → Int32) × (Nat → Int32))) (rec47 : (Nat → Int32) → (Nat → Int32) → Int32 → Int32 → Int32 → Int32 → Int32 → Option (Int32 × (Nat → Int32) × (Nat → Int32))) (x_least : Nat → Int32) (x_mates : Nat → Int32) (l1 : Int32) (l2 : Int32) (l4 : Int32) (l5 : Int32) (s0 : Int32) : Option (Int32 × (Nat → Int32) × (Nat → Int32)) :=
  X8_match_J114 x_players x_skill x_shore x_fars rec11 rec47 x_least x_mates l1 l2 s0 l4 l5
noncomputable def X8_match_L47_B (x_players : Int32) (x_skill : Nat → Int32) (x_shore : Nat → Int32) (x_fars : Nat → Int32) (rec11 : (Nat → Int32) → (Nat → Int32) → Int32 → Int32 → Option (Int32 × (Nat → Int32) × (Nat → Int32))) (rec47 : (Nat → Int32) → (Nat → Int32) → Int32 → Int32 → Int32 → Int32 → Int32 → Option (Int32 × (Nat → Int32) × (Nat → Int32))) (x_least : Nat → Int32) (x_mates : Nat → Int32) (l1 : Int32) (l2 : Int32) (l3 : Int32) (l4 : Int32) (l5 : Int32) : Option (Int32 × (Nat → Int32) × (Nat → Int32)) :=
  if x_players ≤ l5 then (X8_match_J120 x_players x_skill x_shore x_fars rec11 x_least x_mates l1 l2 l3 l4) else (if l2 ≤ (0 : Int32) then (X8_match_J120 x_players x_skill x_shore x_fars rec11 x_least x_mates l1 l2 l3 l4) else (if ((l2 >>> (l5 &&& (31 : Int32))) &&& (1 : Int32)) = (1 : Int32) then (bd (X8_costs x_skill x_shore x_fars l4 l5) fun r75 => rd x_least 1024 ((l2 &&& (((1 : Int32) <<< (l4 &&& (31 : Int32))) ^^^ (-1 : Int32))) &&& (((1 : Int32) <<< (l5 &&& (31 : Int32))) ^^^ (-1 : Int32))) fun v97 => nm (r75 + v97) fun v99 => if l3 ≤ v99 then (X8_match_J113 x_players x_skill x_shore x_fars rec11 rec47 x_least x_mates l1 l2 l4 l5 l3) else (X8_match_J113 x_players x_skill x_shore x_fars rec11 rec47 x_least x_mates l1 l2 l4 l5 v99)) else (X8_match_J114 x_players x_skill x_shore x_fars rec11 rec47 x_least x_mates l1 l2 l3 l4 l5)))
noncomputable def X8_match_L47 (x_players : Int32) (x_skill : Nat → Int32) (x_shore : Nat → Int32) (x_fars : Nat → Int32) (rec11 : (Nat → Int32) → (Nat → Int32) → Int32 → Int32 → Option (Int32 × (Nat → Int32) × (Nat → Int32))) : Nat → (Nat → Int32) → (Nat → Int32) → Int32 → Int32 → Int32 → Int32 → Int32 → Option (Int32 × (Nat → Int32) × (Nat → Int32))
  | 0, _, _, _, _, _, _, _ => none
  | n + 1, y0, y1, y2, y3, y4, y5, y6 => X8_match_L47_B x_players x_skill x_shore x_fars rec11 (X8_match_L47 x_players x_skill x_shore x_fars rec11 n) y0 y1 y2 y3 y4 y5 y6
noncomputable def X8_match_J39 (x_players : Int32) (x_skill : Nat → Int32) (x_shore : Nat → Int32) (x_fars : Nat → Int32) (rec11 : (Nat → Int32) → (Nat → Int32) → Int32 → Int32 → Option (Int32 × (Nat → Int32) × (Nat → Int32))) (x_least : Nat → Int32) (x_mates : Nat → Int32) (l1 : Int32) (l2 : Int32) (l3 : Int32) (s0 : Int32) : Option (Int32 × (Nat → Int32) × (Nat → Int32)) :=
  nm (s0 + (1 : Int32)) fun v45 => X8_match_L47 x_players x_skill x_shore x_fars rec11 FU x_least x_mates l1 l2 l3 s0 v45
noncomputable def X8_match_J26 (x_players : Int32) (x_skill : Nat → Int32) (x_shore : Nat → Int32) (x_fars : Nat → Int32) (rec11 : (Nat → Int32) → (Nat → Int32) → Int32 → Int32 → Option (Int32 × (Nat → Int32) × (Nat → Int32))) (x_least : Nat → Int32) (x_mates : Nat → Int32) (l1 : Int32) (l2 : Int32) (s0 : Int32) : Option (Int32 × (Nat → Int32) × (Nat → Int32)) :=
  if l2 = (0 : Int32) then (X8_match_J39 x_players x_skill x_shore x_fars rec11 x_least x_mates l1 l2 s0 (0 : Int32)) else (bd (X8_lowest l2) fun r36 => X8_match_J39 x_players x_skill x_shore x_fars rec11 x_least x_mates l1 l2 s0 r36)
noncomputable def X8_match_L11_B (x_players : Int32) (x_skill : Nat → Int32) (x_shore : Nat → Int32) (x_fars : Nat → Int32) (rec11 : (Nat → Int32) → (Nat → Int32) → Int32 → Int32 → Option (Int32 × (Nat → Int32) × (Nat → Int32))) (x_least : Nat → Int32) (x_mates : Nat → Int32) (l1 : Int32) (l2 : Int32) : Option (Int32 × (Nat → Int32) × (Nat → Int32)) :=
  if l1 < l2 then (X8_match_J172 x_players x_skill x_shore x_fars  x_least x_mates l1) else (if l2 = (0 : Int32) then (X8_match_J26 x_players x_skill x_shore x_fars rec11 x_least x_mates l1 l2 (0 : Int32)) else (X8_match_J26 x_players x_skill x_shore x_fars rec11 x_least x_mates l1 l2 (1000000000 : Int32)))
noncomputable def X8_match_L11 (x_players : Int32) (x_skill : Nat → Int32) (x_shore : Nat → Int32) (x_fars : Nat → Int32) : Nat → (Nat → Int32) → (Nat → Int32) → Int32 → Int32 → Option (Int32 × (Nat → Int32) × (Nat → Int32))
  | 0, _, _, _, _ => none
  | n + 1, y0, y1, y2, y3 => X8_match_L11_B x_players x_skill x_shore x_fars  (X8_match_L11 x_players x_skill x_shore x_fars  n) y0 y1 y2 y3
noncomputable def X8_match (x_players : Int32) (x_skill : Nat → Int32) (x_shore : Nat → Int32) (x_fars : Nat → Int32) (x_least : Nat → Int32) (x_mates : Nat → Int32) : Option (Int32 × (Nat → Int32) × (Nat → Int32)) :=
  nm (((1 : Int32) <<< (x_players &&& (31 : Int32))) - (1 : Int32)) fun v8 => X8_match_L11 x_players x_skill x_shore x_fars  FU x_least x_mates v8 (0 : Int32)
abbrev wd_X8_match (cy : Nat → ClassId) (o_t : Nat → Nat) (x_thrown : Int32) (x_delay : Int32) (x_feel : Int32) (x_turn : Int32) (x_sight : Int32) (x_ball : Int32) (x_w : Int32) (x_h : Int32) (x_n : Int32) (x_players : Int32) (x_skill : Nat → Int32) (x_shore : Nat → Int32) (x_fars : Nat → Int32) (x_least : Nat → Int32) (x_mates : Nat → Int32) : va_W := [(o_t 0, .inr (8, [.int x_thrown, .ref (o_t 2), .ref (o_t 3), .ref (o_t 4), .ref (o_t 5), .ref (o_t 6), .ref (o_t 7), .ref (o_t 8), .ref (o_t 9), .ref (o_t 10), .ref (o_t 11), .int x_delay, .int x_feel, .int x_turn, .int x_sight, .ref (o_t 16), .ref (o_t 17), .ref (o_t 18), .ref (o_t 19), .int x_ball, .int x_w, .int x_h, .int x_n, .ref (o_t 24), .ref (o_t 25), .ref (o_t 26), .ref (o_t 27), .ref (o_t 28), .ref (o_t 29), .int x_players, .ref (o_t 31), .ref (o_t 32), .ref (o_t 33), .ref (o_t 34), .ref (o_t 35), .ref (o_t 36)])), (o_t 31, .inl (cy 0, 10, .inl x_skill)), (o_t 32, .inl (cy 0, 10, .inl x_shore)), (o_t 33, .inl (cy 0, 16, .inl x_fars)), (o_t 34, .inl (cy 0, 1024, .inl x_least)), (o_t 35, .inl (cy 0, 10, .inl x_mates))]
set_option maxHeartbeats 4000000 in
set_option maxRecDepth 100000 in
theorem w_X8_match {p : Program} {l : Launch} {e : Env} {s : State} {m : MethodId} {args : Array Value} {below : List Frame} {meth : Method} {c : Code} {Q : State → Prop} {A : Nat → Prop} {H : Heap} {locs : List Loc} {ls : Array Slot} (D : va_G) (cy : Nat → ClassId) (t : Nat → Nat) (o_t : Nat → Nat) (x_thrown : Int32) (x_delay : Int32) (x_feel : Int32) (x_turn : Int32) (x_sight : Int32) (x_ball : Int32) (x_w : Int32) (x_h : Int32) (x_n : Int32) (x_players : Int32) (x_skill : Nat → Int32) (x_shore : Nat → Int32) (x_fars : Nat → Int32) (x_least : Nat → Int32) (x_mates : Nat → Int32) {out : Int32 × (Nat → Int32) × (Nat → Int32)} (hf : X8_match x_players x_skill x_shore x_fars x_least x_mates = some out) (hx : p.tables.exec = Jvm.exec) (hb : c.code = cX8_match) (hml : c.maxLocals = 7) (hown : s.vm.findClass RX8 = some m.cls) (hts : ∀ w ∈ wsX8_match, w.before args s = true) (hK : va_K D vwCl (TYS cy) s) (hE : EV t A s s.heap) (hA : ∀ q, s.heap.size ≤ q → A q) (hP : va_P D vwCl (wd_X8_match cy o_t x_thrown x_delay x_feel x_turn x_sight x_ball x_w x_h x_n x_players x_skill x_shore x_fars x_least x_mates) H) (hD : va_D A (wd_X8_match cy o_t x_thrown x_delay x_feel x_turn x_sight x_ball x_w x_h x_n x_players x_skill x_shore x_fars x_least x_mates)) (hS : va_S A s.heap H locs) (hl : lv_has ls 7 [(0, .ref (o_t 0))]) (hR : ∀ (H : Heap) (locs : List Loc) (ls : Array Slot) (pc : Nat), va_P D vwCl (wd_X8_match cy o_t x_thrown x_delay x_feel x_turn x_sight x_ball x_w x_h x_n x_players x_skill x_shore x_fars out.2.1 out.2.2) H → va_D A (wd_X8_match cy o_t x_thrown x_delay x_feel x_turn x_sight x_ball x_w x_h x_n x_players x_skill x_shore x_fars out.2.1 out.2.2) → va_S A s.heap H locs → decode cX8_match pc = .ok (.ireturn, 1) → W p l e (rmm 2 42) s m args below meth c H locs 0 0 Q (F0 m pc ls [.int out.1])) : W p l e (rmm 2 42) s m args below meth c H locs 0 0 Q (F0 m 0 ls []) := by
  have k0 := hts (.fieldLink RX8 228 "SeaGamesModel" "players" "I") (List.mem_cons_of_mem _ (List.mem_append_left _ (List.mem_of_getElem? (i := 0) rfl)))
  have k1 : ∀ w ∈ u_ws RX8 TX8 36, w ∈ wsX8_match := fun _ h => List.mem_cons_of_mem _ (List.mem_append_right _ h)
  have k2 := hts (.fieldLink RX8 90 "SeaGamesModel" "least" "[I") (List.mem_cons_of_mem _ (List.mem_append_left _ (List.mem_of_getElem? (i := 2) rfl)))
  have k3 := hts (.fieldLink RX8 93 "SeaGamesModel" "mates" "[I") (List.mem_cons_of_mem _ (List.mem_append_left _ (List.mem_of_getElem? (i := 3) rfl)))
  have k4 := hts (.constant RX8 168 (1000000000)) (List.mem_cons_of_mem _ (List.mem_append_left _ (List.mem_of_getElem? (i := 1) rfl)))
  rw [X8_match] at hf
  have h11 : ∀ (n11 : Nat) (x_least : Nat → Int32) (x_mates : Nat → Int32) (l1 : Int32) (l2 : Int32) (H : Heap) (locs : List Loc) (ls : Array Slot), X8_match_L11 x_players x_skill x_shore x_fars n11 x_least x_mates l1 l2 = some out → va_P D vwCl (wd_X8_match cy o_t x_thrown x_delay x_feel x_turn x_sight x_ball x_w x_h x_n x_players x_skill x_shore x_fars x_least x_mates) H → va_D A (wd_X8_match cy o_t x_thrown x_delay x_feel x_turn x_sight x_ball x_w x_h x_n x_players x_skill x_shore x_fars x_least x_mates) → va_S A s.heap H locs → lv_has ls 7 [(0, .ref (o_t 0)), (1, .int l1), (2, .int l2)] → W p l e (rmm 2 42) s m args below meth c H locs 0 0 Q (F0 m 11 ls []) := by
    intro n11
    induction n11 with
    | zero =>
      intro _ _ _ _ _ _ _ hf
      exact nomatch (show (none : Option _) = some out from hf)
    | succ n11 ih11 =>
      intro x_least x_mates l1 l2 H locs ls hf hP hD hS hl
      have hf : X8_match_L11_B x_players x_skill x_shore x_fars (X8_match_L11 x_players x_skill x_shore x_fars n11) x_least x_mates l1 l2 = some out := hf
      rw [X8_match_L11_B] at hf
      have h172 : ∀ (x_least : Nat → Int32) (x_mates : Nat → Int32) (l1 : Int32) (H : Heap) (locs : List Loc) (ls : Array Slot), X8_match_J172 x_players x_skill x_shore x_fars x_least x_mates l1 = some out → va_P D vwCl (wd_X8_match cy o_t x_thrown x_delay x_feel x_turn x_sight x_ball x_w x_h x_n x_players x_skill x_shore x_fars x_least x_mates) H → va_D A (wd_X8_match cy o_t x_thrown x_delay x_feel x_turn x_sight x_ball x_w x_h x_n x_players x_skill x_shore x_fars x_least x_mates) → va_S A s.heap H locs → lv_has ls 7 [(0, .ref (o_t 0)), (1, .int l1)] → W p l e (rmm 2 42) s m args below meth c H locs 0 0 Q (F0 m 172 ls []) := by
        intro x_least x_mates l1 H locs ls hf hP hD hS hl
        rw [X8_match_J172] at hf
        have h174 : ∀ (n174 : Nat) (x_least : Nat → Int32) (x_mates : Nat → Int32) (l1 : Int32) (l2 : Int32) (H : Heap) (locs : List Loc) (ls : Array Slot), X8_match_L174 x_players x_skill x_shore x_fars n174 x_least x_mates l1 l2 = some out → va_P D vwCl (wd_X8_match cy o_t x_thrown x_delay x_feel x_turn x_sight x_ball x_w x_h x_n x_players x_skill x_shore x_fars x_least x_mates) H → va_D A (wd_X8_match cy o_t x_thrown x_delay x_feel x_turn x_sight x_ball x_w x_h x_n x_players x_skill x_shore x_fars x_least x_mates) → va_S A s.heap H locs → lv_has ls 7 [(0, .ref (o_t 0)), (1, .int l1), (2, .int l2)] → W p l e (rmm 2 42) s m args below meth c H locs 0 0 Q (F0 m 174 ls []) := by
          intro n174
          induction n174 with
          | zero =>
            intro _ _ _ _ _ _ _ hf
            exact nomatch (show (none : Option _) = some out from hf)
          | succ n174 ih174 =>
            intro x_least x_mates l1 l2 H locs ls hf hP hD hS hl
            have hf : X8_match_L174_B x_players x_skill x_shore x_fars (X8_match_L174 x_players x_skill x_shore x_fars n174) x_least x_mates l1 l2 = some out := hf
            rw [X8_match_L174_B] at hf
            have h309 : ∀ (x_least : Nat → Int32) (x_mates : Nat → Int32) (l1 : Int32) (H : Heap) (locs : List Loc) (ls : Array Slot), X8_match_J309 x_players x_skill x_shore x_fars x_least x_mates l1 = some out → va_P D vwCl (wd_X8_match cy o_t x_thrown x_delay x_feel x_turn x_sight x_ball x_w x_h x_n x_players x_skill x_shore x_fars x_least x_mates) H → va_D A (wd_X8_match cy o_t x_thrown x_delay x_feel x_turn x_sight x_ball x_w x_h x_n x_players x_skill x_shore x_fars x_least x_mates) → va_S A s.heap H locs → lv_has ls 7 [(0, .ref (o_t 0)), (1, .int l1)] → W p l e (rmm 2 42) s m args below meth c H locs 0 0 Q (F0 m 309 ls []) := by
              intro x_least x_mates l1 H locs ls hf hP hD hS hl
              rw [X8_match_J309] at hf
              refine lv_aload_n hx hb dX8_match_309 rfl (lv_at hl 0 rfl) ?_
              refine va_get (D := D) (ci := 8) (v := .ref (o_t 34)) (C := RX8) (T := TX8) (N := 36) hx hb hts k1 hown hK hP 0 rfl rfl 33 (by decide) k2 (fun _ h9 => h9) rfl dX8_match_310 ?_
              refine lv_iload_n hx hb dX8_match_313 rfl (lv_at hl 1 rfl) ?_
              obtain ⟨v314, b314, ev314, hf⟩ := rd_s hf
              refine my_iald hx hb hK hP 4 rfl b314 ev314 dX8_match_314 ?_
              obtain rfl := Option.some.inj hf
              exact hR _ _ _ _ hP hD hS dX8_match_315
            refine lv_iload_n hx hb dX8_match_174 rfl (lv_at hl 2 rfl) ?_
            refine lv_if_le (tgt := 309) hx hb dX8_match_175 (by decide) (fun c175 => ?_) (fun c175 => ?_)
            · have hf := ifp c175 hf
              exact h309 _ _ _ _ _ _ hf hP hD hS (lv_sub hl [0, 1] rfl)
            · have hf := ifn c175 hf
              have h195 : ∀ (n195 : Nat) (x_least : Nat → Int32) (x_mates : Nat → Int32) (l1 : Int32) (l2 : Int32) (l3 : Int32) (l4 : Int32) (l5 : Int32) (H : Heap) (locs : List Loc) (ls : Array Slot), X8_match_L195 x_players x_skill x_shore x_fars (X8_match_L174 x_players x_skill x_shore x_fars n174) n195 x_least x_mates l1 l2 l3 l4 l5 = some out → va_P D vwCl (wd_X8_match cy o_t x_thrown x_delay x_feel x_turn x_sight x_ball x_w x_h x_n x_players x_skill x_shore x_fars x_least x_mates) H → va_D A (wd_X8_match cy o_t x_thrown x_delay x_feel x_turn x_sight x_ball x_w x_h x_n x_players x_skill x_shore x_fars x_least x_mates) → va_S A s.heap H locs → lv_has ls 7 [(0, .ref (o_t 0)), (1, .int l1), (2, .int l2), (3, .int l3), (4, .int l4), (5, .int l5)] → W p l e (rmm 2 42) s m args below meth c H locs 0 0 Q (F0 m 195 ls []) := by
                intro n195
                induction n195 with
                | zero =>
                  intro _ _ _ _ _ _ _ _ _ _ hf
                  exact nomatch (show (none : Option _) = some out from hf)
                | succ n195 ih195 =>
                  intro x_least x_mates l1 l2 l3 l4 l5 H locs ls hf hP hD hS hl
                  have hf : X8_match_L195_B x_players x_skill x_shore x_fars (X8_match_L174 x_players x_skill x_shore x_fars n174) (X8_match_L195 x_players x_skill x_shore x_fars (X8_match_L174 x_players x_skill x_shore x_fars n174) n195) x_least x_mates l1 l2 l3 l4 l5 = some out := hf
                  rw [X8_match_L195_B] at hf
                  have h266 : ∀ (x_least : Nat → Int32) (x_mates : Nat → Int32) (l1 : Int32) (l2 : Int32) (l3 : Int32) (l4 : Int32) (H : Heap) (locs : List Loc) (ls : Array Slot), X8_match_J266 x_players x_skill x_shore x_fars (X8_match_L174 x_players x_skill x_shore x_fars n174) x_least x_mates l1 l2 l3 l4 = some out → va_P D vwCl (wd_X8_match cy o_t x_thrown x_delay x_feel x_turn x_sight x_ball x_w x_h x_n x_players x_skill x_shore x_fars x_least x_mates) H → va_D A (wd_X8_match cy o_t x_thrown x_delay x_feel x_turn x_sight x_ball x_w x_h x_n x_players x_skill x_shore x_fars x_least x_mates) → va_S A s.heap H locs → lv_has ls 7 [(0, .ref (o_t 0)), (1, .int l1), (2, .int l2), (3, .int l3), (4, .int l4)] → W p l e (rmm 2 42) s m args below meth c H locs 0 0 Q (F0 m 266 ls []) := by
                    intro x_least x_mates l1 l2 l3 l4 H locs ls hf hP hD hS hl
                    rw [X8_match_J266] at hf
                    have h306 : ∀ (x_least : Nat → Int32) (x_mates : Nat → Int32) (l1 : Int32) (l2 : Int32) (H : Heap) (locs : List Loc) (ls : Array Slot), X8_match_J306 x_players x_skill x_shore x_fars (X8_match_L174 x_players x_skill x_shore x_fars n174) x_least x_mates l1 l2 = some out → va_P D vwCl (wd_X8_match cy o_t x_thrown x_delay x_feel x_turn x_sight x_ball x_w x_h x_n x_players x_skill x_shore x_fars x_least x_mates) H → va_D A (wd_X8_match cy o_t x_thrown x_delay x_feel x_turn x_sight x_ball x_w x_h x_n x_players x_skill x_shore x_fars x_least x_mates) → va_S A s.heap H locs → lv_has ls 7 [(0, .ref (o_t 0)), (1, .int l1), (2, .int l2)] → W p l e (rmm 2 42) s m args below meth c H locs 0 0 Q (F0 m 306 ls []) := by
                      intro x_least x_mates l1 l2 H locs ls hf hP hD hS hl
                      rw [X8_match_J306] at hf
                      refine lv_goto (tgt := 174) hx hb dX8_match_306 (by decide) ?_
                      exact ih174 _ _ _ _ _ _ _ hf hP hD hS (lv_sub hl [0, 1, 2] rfl)
                    refine lv_aload_n hx hb dX8_match_266 rfl (lv_at hl 0 rfl) ?_
                    refine va_get (D := D) (ci := 8) (v := .ref (o_t 35)) (C := RX8) (T := TX8) (N := 36) hx hb hts k1 hown hK hP 0 rfl rfl 34 (by decide) k3 (fun _ h9 => h9) rfl dX8_match_267 ?_
                    refine lv_iload_n hx hb dX8_match_270 rfl (lv_at hl 3 rfl) ?_
                    refine lv_iload hx hb dX8_match_271 (lv_at hl 4 rfl) ?_
                    obtain ⟨w273, b273, ew273, hf⟩ := wrI_s hf
                    refine my_iast (ws2 := (wd_X8_match cy o_t x_thrown x_delay x_feel x_turn x_sight x_ball x_w x_h x_n x_players x_skill x_shore x_fars x_least w273)) hx hb hK hP hD hS 5 rfl b273 ew273 rfl dX8_match_273 (fun H locs hP hD hS => ?_)
                    refine lv_iload_n hx hb dX8_match_274 rfl (lv_at hl 2 rfl) ?_
                    refine lv_iconst (v := (1 : Int32)) hx hb dX8_match_275 (by decide) ?_
                    refine lv_iload_n hx hb dX8_match_276 rfl (lv_at hl 3 rfl) ?_
                    refine lv_ishl hx hb dX8_match_277 ?_
                    refine lv_iconst (v := (-1 : Int32)) hx hb dX8_match_278 (by decide) ?_
                    refine lv_ixor hx hb dX8_match_279 ?_
                    refine lv_iand hx hb dX8_match_280 ?_
                    obtain ⟨v281, ev281, hf⟩ := nm_s hf
                    refine my_topi ev281 ?_
                    refine lv_istore_n (lv' := [(2, .int v281), (0, .ref (o_t 0)), (1, .int l1), (3, .int l3), (4, .int l4)]) hx hb dX8_match_281 rfl hl (by decide) rfl (fun ls hl => ?_)
                    refine lv_iload hx hb dX8_match_282 (lv_at hl 4 rfl) ?_
                    refine lv_bipush (v := (-9 : Int32)) hx hb dX8_match_284 (by decide) ?_
                    refine lv_icmp_eq (tgt := 306) hx hb dX8_match_286 (by decide) (fun c286 => ?_) (fun c286 => ?_)
                    · have hf := ifp c286 hf
                      exact h306 _ _ _ _ _ _ _ hf hP hD hS (lv_sub hl [1, 2, 0] rfl)
                    · have hf := ifn c286 hf
                      refine lv_aload_n hx hb dX8_match_289 rfl (lv_at hl 1 rfl) ?_
                      refine va_get (D := D) (ci := 8) (v := .ref (o_t 35)) (C := RX8) (T := TX8) (N := 36) hx hb hts k1 hown hK hP 0 rfl rfl 34 (by decide) k3 (fun _ h9 => h9) rfl dX8_match_290 ?_
                      refine lv_iload hx hb dX8_match_293 (lv_at hl 4 rfl) ?_
                      refine lv_iload_n hx hb dX8_match_295 rfl (lv_at hl 3 rfl) ?_
                      obtain ⟨w296, b296, ew296, hf⟩ := wrI_s hf
                      refine my_iast (ws2 := (wd_X8_match cy o_t x_thrown x_delay x_feel x_turn x_sight x_ball x_w x_h x_n x_players x_skill x_shore x_fars x_least w296)) hx hb hK hP hD hS 5 rfl b296 ew296 rfl dX8_match_296 (fun H locs hP hD hS => ?_)
                      refine lv_iload_n hx hb dX8_match_297 rfl (lv_at hl 0 rfl) ?_
                      refine lv_iconst (v := (1 : Int32)) hx hb dX8_match_298 (by decide) ?_
                      refine lv_iload hx hb dX8_match_299 (lv_at hl 4 rfl) ?_
                      refine lv_ishl hx hb dX8_match_301 ?_
                      refine lv_iconst (v := (-1 : Int32)) hx hb dX8_match_302 (by decide) ?_
                      refine lv_ixor hx hb dX8_match_303 ?_
                      refine lv_iand hx hb dX8_match_304 ?_
                      obtain ⟨v305, ev305, hf⟩ := nm_s hf
                      refine my_topi ev305 ?_
                      refine lv_istore_n (lv' := [(2, .int v305), (0, .ref (o_t 0)), (1, .int l1), (3, .int l3), (4, .int l4)]) hx hb dX8_match_305 rfl hl (by decide) rfl (fun ls hl => ?_)
                      exact h306 _ _ _ _ _ _ _ hf hP hD hS (lv_sub hl [1, 2, 0] rfl)
                  refine lv_iload hx hb dX8_match_195 (lv_at hl 5 rfl) ?_
                  refine lv_iload_n hx hb dX8_match_197 rfl (lv_at hl 3 rfl) ?_
                  refine lv_icmp_le (tgt := 266) hx hb dX8_match_198 (by decide) (fun c198 => ?_) (fun c198 => ?_)
                  · have hf := ifp c198 hf
                    exact h266 _ _ _ _ _ _ _ _ _ hf hP hD hS (lv_sub hl [0, 1, 2, 3, 4] rfl)
                  · have hf := ifn c198 hf
                    have h258 : ∀ (x_least : Nat → Int32) (x_mates : Nat → Int32) (l1 : Int32) (l2 : Int32) (l3 : Int32) (l5 : Int32) (s0 : Int32) (H : Heap) (locs : List Loc) (ls : Array Slot), X8_match_J258 x_players x_skill x_shore x_fars (X8_match_L174 x_players x_skill x_shore x_fars n174) (X8_match_L195 x_players x_skill x_shore x_fars (X8_match_L174 x_players x_skill x_shore x_fars n174) n195) x_least x_mates l1 l2 l3 l5 s0 = some out → va_P D vwCl (wd_X8_match cy o_t x_thrown x_delay x_feel x_turn x_sight x_ball x_w x_h x_n x_players x_skill x_shore x_fars x_least x_mates) H → va_D A (wd_X8_match cy o_t x_thrown x_delay x_feel x_turn x_sight x_ball x_w x_h x_n x_players x_skill x_shore x_fars x_least x_mates) → va_S A s.heap H locs → lv_has ls 7 [(0, .ref (o_t 0)), (1, .int l1), (2, .int l2), (3, .int l3), (5, .int l5)] → W p l e (rmm 2 42) s m args below meth c H locs 0 0 Q (F0 m 258 ls [.int s0]) := by
                      intro x_least x_mates l1 l2 l3 l5 s0 H locs ls hf hP hD hS hl
                      rw [X8_match_J258] at hf
                      refine lv_istore (lv' := [(4, .int s0), (0, .ref (o_t 0)), (1, .int l1), (2, .int l2), (3, .int l3), (5, .int l5)]) hx hb dX8_match_258 hl (by decide) rfl (fun ls hl => ?_)
                      obtain ⟨v260, ev260, hf⟩ := nm_s hf
                      refine lv_iinc (v := v260) (lv' := [(5, .int v260), (4, .int s0), (0, .ref (o_t 0)), (1, .int l1), (2, .int l2), (3, .int l3)]) hx hb dX8_match_260 hl (k := 5) rfl (by rw [ev260]; rfl) (by decide) rfl (fun ls hl => ?_)
                      refine lv_goto (tgt := 195) hx hb dX8_match_263 (by decide) ?_
                      exact ih195 _ _ _ _ _ _ _ _ _ _ hf hP hD hS (lv_sub hl [2, 3, 4, 5, 1, 0] rfl)
                    have h256 : ∀ (x_least : Nat → Int32) (x_mates : Nat → Int32) (l1 : Int32) (l2 : Int32) (l3 : Int32) (l4 : Int32) (l5 : Int32) (H : Heap) (locs : List Loc) (ls : Array Slot), X8_match_J256 x_players x_skill x_shore x_fars (X8_match_L174 x_players x_skill x_shore x_fars n174) (X8_match_L195 x_players x_skill x_shore x_fars (X8_match_L174 x_players x_skill x_shore x_fars n174) n195) x_least x_mates l1 l2 l3 l4 l5 = some out → va_P D vwCl (wd_X8_match cy o_t x_thrown x_delay x_feel x_turn x_sight x_ball x_w x_h x_n x_players x_skill x_shore x_fars x_least x_mates) H → va_D A (wd_X8_match cy o_t x_thrown x_delay x_feel x_turn x_sight x_ball x_w x_h x_n x_players x_skill x_shore x_fars x_least x_mates) → va_S A s.heap H locs → lv_has ls 7 [(0, .ref (o_t 0)), (1, .int l1), (2, .int l2), (3, .int l3), (4, .int l4), (5, .int l5)] → W p l e (rmm 2 42) s m args below meth c H locs 0 0 Q (F0 m 256 ls []) := by
                      intro x_least x_mates l1 l2 l3 l4 l5 H locs ls hf hP hD hS hl
                      rw [X8_match_J256] at hf
                      refine lv_iload hx hb dX8_match_256 (lv_at hl 4 rfl) ?_
                      exact h258 _ _ _ _ _ _ _ _ _ _ hf hP hD hS (lv_sub hl [0, 1, 2, 3, 5] rfl)
                    refine lv_iload_n hx hb dX8_match_201 rfl (lv_at hl 2 rfl) ?_
                    refine lv_iconst (v := (1 : Int32)) hx hb dX8_match_202 (by decide) ?_
                    refine lv_iload_n hx hb dX8_match_203 rfl (lv_at hl 3 rfl) ?_
                    refine lv_ishl hx hb dX8_match_204 ?_
                    refine lv_iconst (v := (-1 : Int32)) hx hb dX8_match_205 (by decide) ?_
                    refine lv_ixor hx hb dX8_match_206 ?_
                    refine lv_iand hx hb dX8_match_207 ?_
                    refine lv_iconst (v := (1 : Int32)) hx hb dX8_match_208 (by decide) ?_
                    refine lv_iload hx hb dX8_match_209 (lv_at hl 5 rfl) ?_
                    refine lv_ishl hx hb dX8_match_211 ?_
                    refine lv_iconst (v := (-1 : Int32)) hx hb dX8_match_212 (by decide) ?_
                    refine lv_ixor hx hb dX8_match_213 ?_
                    refine lv_iand hx hb dX8_match_214 ?_
                    obtain ⟨v215, ev215, hf⟩ := nm_s hf
                    refine my_topi ev215 ?_
                    refine lv_istore (lv' := [(6, .int v215), (0, .ref (o_t 0)), (1, .int l1), (2, .int l2), (3, .int l3), (4, .int l4), (5, .int l5)]) hx hb dX8_match_215 hl (by decide) rfl (fun ls hl => ?_)
                    refine lv_iload_n hx hb dX8_match_217 rfl (lv_at hl 3 rfl) ?_
                    refine lv_iload hx hb dX8_match_218 (lv_at hl 6 rfl) ?_
                    refine lv_ishr hx hb dX8_match_220 ?_
                    refine lv_iconst (v := (1 : Int32)) hx hb dX8_match_221 (by decide) ?_
                    refine lv_iand hx hb dX8_match_222 ?_
                    refine lv_iconst (v := (1 : Int32)) hx hb dX8_match_223 (by decide) ?_
                    refine lv_icmp_ne (tgt := 256) hx hb dX8_match_224 (by decide) (fun c224 => ?_) (fun c224 => ?_)
                    · have hf := ifn c224 hf
                      exact h256 _ _ _ _ _ _ _ _ _ _ hf hP hD hS (lv_sub hl [1, 2, 3, 4, 5, 6] rfl)
                    · have hf := ifp c224 hf
                      refine lv_aload_n hx hb dX8_match_227 rfl (lv_at hl 1 rfl) ?_
                      refine lv_iload_n hx hb dX8_match_228 rfl (lv_at hl 4 rfl) ?_
                      refine lv_iload hx hb dX8_match_229 (lv_at hl 6 rfl) ?_
                      obtain ⟨r231, hr231, hf⟩ := bd_s hf
                      refine my_Vi (WS2 := (wd_X8_match cy o_t x_thrown x_delay x_feel x_turn x_sight x_ball x_w x_h x_n x_players x_skill x_shore x_fars x_least x_mates)) ⟨hx, hb, hml, hown, hts⟩ (c_X8_costs l D cy t o_t x_thrown x_delay x_feel x_turn x_sight x_ball x_w x_h x_n x_players x_skill x_shore x_fars l3 l5 hr231) (cwV 2 hts gX8_match_X8_costs rfl rfl rfl ⟨rfl, hd_X8_costs⟩ ⟨Nat.le_of_ble_eq_true rfl, Nat.le_of_ble_eq_true rfl⟩) hK hE hP hD hS hA [0, 1, 2, 3] 6 8 0 rfl rfl rfl rfl (by decide +kernel) rfl rfl hl.1 rfl (Nat.le_of_ble_eq_true rfl) dX8_match_231 ⟨Nat.le_of_ble_eq_true rfl, Nat.le_of_ble_eq_true rfl⟩ (fun H locs hP hD hS => ?_)
                      refine lv_aload_n hx hb dX8_match_234 rfl (lv_at hl 1 rfl) ?_
                      refine va_get (D := D) (ci := 8) (v := .ref (o_t 34)) (C := RX8) (T := TX8) (N := 36) hx hb hts k1 hown hK hP 0 rfl rfl 33 (by decide) k2 (fun _ h9 => h9) rfl dX8_match_235 ?_
                      refine lv_iload hx hb dX8_match_238 (lv_at hl 0 rfl) ?_
                      obtain ⟨v240, b240, ev240, hf⟩ := rd_s hf
                      refine my_iald hx hb hK hP 4 rfl b240 ev240 dX8_match_240 ?_
                      refine lv_iadd hx hb dX8_match_241 ?_
                      refine lv_aload_n hx hb dX8_match_242 rfl (lv_at hl 1 rfl) ?_
                      refine va_get (D := D) (ci := 8) (v := .ref (o_t 34)) (C := RX8) (T := TX8) (N := 36) hx hb hts k1 hown hK hP 0 rfl rfl 33 (by decide) k2 (fun _ h9 => h9) rfl dX8_match_243 ?_
                      refine lv_iload_n hx hb dX8_match_246 rfl (lv_at hl 3 rfl) ?_
                      obtain ⟨v247, b247, ev247, hf⟩ := rd_s hf
                      refine my_iald hx hb hK hP 4 rfl b247 ev247 dX8_match_247 ?_
                      refine lv_icmp_ne (tgt := 256) hx hb dX8_match_248 (by decide) (fun c248 => ?_) (fun c248 => ?_)
                      · have hf := ifn c248 hf
                        exact h256 _ _ _ _ _ _ _ _ _ _ hf hP hD hS (lv_sub hl [1, 2, 3, 4, 5, 6] rfl)
                      · have hf := ifp c248 hf
                        refine lv_iload hx hb dX8_match_251 (lv_at hl 6 rfl) ?_
                        refine lv_goto (tgt := 258) hx hb dX8_match_253 (by decide) ?_
                        exact h258 _ _ _ _ _ _ _ _ _ _ hf hP hD hS (lv_sub hl [1, 2, 3, 4, 6] rfl)
              refine lv_iload_n hx hb dX8_match_178 rfl (lv_at hl 2 rfl) ?_
              obtain ⟨r179, hr179, hf⟩ := bd_s hf
              refine my_Si (WS2 := (wd_X8_match cy o_t x_thrown x_delay x_feel x_turn x_sight x_ball x_w x_h x_n x_players x_skill x_shore x_fars x_least x_mates)) ⟨hx, hb, hml, hown, hts⟩ (c_X8_lowest l D cy t l2 hr179) (va_cwS 1 hts gX8_match_X8_lowest rfl rfl rfl hd_X8_lowest ⟨Nat.le_of_ble_eq_true rfl, Nat.le_of_ble_eq_true rfl⟩) hK hE hP hD hS hA [] 6 rfl rfl (by decide +kernel) rfl rfl hl.1 rfl (Nat.le_of_ble_eq_true rfl) dX8_match_179 ⟨Nat.le_of_ble_eq_true rfl, Nat.le_of_ble_eq_true rfl⟩ (fun H locs hP hD hS => ?_)
              refine lv_istore_n (lv' := [(3, .int r179), (0, .ref (o_t 0)), (1, .int l1), (2, .int l2)]) hx hb dX8_match_182 rfl hl (by decide) rfl (fun ls hl => ?_)
              refine lv_bipush (v := (-9 : Int32)) hx hb dX8_match_183 (by decide) ?_
              refine lv_istore (lv' := [(4, .int (-9 : Int32)), (3, .int r179), (0, .ref (o_t 0)), (1, .int l1), (2, .int l2)]) hx hb dX8_match_185 hl (by decide) rfl (fun ls hl => ?_)
              refine lv_aload_n hx hb dX8_match_187 rfl (lv_at hl 2 rfl) ?_
              refine va_get (D := D) (ci := 8) (v := .int x_players) (C := RX8) (T := TX8) (N := 36) hx hb hts k1 hown hK hP 0 rfl rfl 29 (by decide) k0 (fun _ h9 => h9) rfl dX8_match_188 ?_
              refine lv_iconst (v := (1 : Int32)) hx hb dX8_match_191 (by decide) ?_
              refine lv_isub hx hb dX8_match_192 ?_
              obtain ⟨v193, ev193, hf⟩ := nm_s hf
              refine my_topi ev193 ?_
              refine lv_istore (lv' := [(5, .int v193), (4, .int (-9 : Int32)), (3, .int r179), (0, .ref (o_t 0)), (1, .int l1), (2, .int l2)]) hx hb dX8_match_193 hl (by decide) rfl (fun ls hl => ?_)
              exact h195 FU _ _ _ _ _ _ _ _ _ _ hf hP hD hS (lv_sub hl [3, 4, 5, 2, 1, 0] rfl)
        refine lv_iload_n hx hb dX8_match_172 rfl (lv_at hl 1 rfl) ?_
        refine lv_istore_n (lv' := [(2, .int l1), (0, .ref (o_t 0)), (1, .int l1)]) hx hb dX8_match_173 rfl hl (by decide) rfl (fun ls hl => ?_)
        exact h174 FU _ _ _ _ _ _ _ hf hP hD hS (lv_sub hl [1, 2, 0] rfl)
      refine lv_iload_n hx hb dX8_match_11 rfl (lv_at hl 2 rfl) ?_
      refine lv_iload_n hx hb dX8_match_12 rfl (lv_at hl 1 rfl) ?_
      refine lv_icmp_gt (tgt := 172) hx hb dX8_match_13 (by decide) (fun c13 => ?_) (fun c13 => ?_)
      · have hf := ifp c13 hf
        exact h172 _ _ _ _ _ _ hf hP hD hS (lv_sub hl [0, 1] rfl)
      · have hf := ifn c13 hf
        have h26 : ∀ (x_least : Nat → Int32) (x_mates : Nat → Int32) (l1 : Int32) (l2 : Int32) (s0 : Int32) (H : Heap) (locs : List Loc) (ls : Array Slot), X8_match_J26 x_players x_skill x_shore x_fars (X8_match_L11 x_players x_skill x_shore x_fars n11) x_least x_mates l1 l2 s0 = some out → va_P D vwCl (wd_X8_match cy o_t x_thrown x_delay x_feel x_turn x_sight x_ball x_w x_h x_n x_players x_skill x_shore x_fars x_least x_mates) H → va_D A (wd_X8_match cy o_t x_thrown x_delay x_feel x_turn x_sight x_ball x_w x_h x_n x_players x_skill x_shore x_fars x_least x_mates) → va_S A s.heap H locs → lv_has ls 7 [(0, .ref (o_t 0)), (1, .int l1), (2, .int l2)] → W p l e (rmm 2 42) s m args below meth c H locs 0 0 Q (F0 m 26 ls [.int s0]) := by
          intro x_least x_mates l1 l2 s0 H locs ls hf hP hD hS hl
          rw [X8_match_J26] at hf
          have h39 : ∀ (x_least : Nat → Int32) (x_mates : Nat → Int32) (l1 : Int32) (l2 : Int32) (l3 : Int32) (s0 : Int32) (H : Heap) (locs : List Loc) (ls : Array Slot), X8_match_J39 x_players x_skill x_shore x_fars (X8_match_L11 x_players x_skill x_shore x_fars n11) x_least x_mates l1 l2 l3 s0 = some out → va_P D vwCl (wd_X8_match cy o_t x_thrown x_delay x_feel x_turn x_sight x_ball x_w x_h x_n x_players x_skill x_shore x_fars x_least x_mates) H → va_D A (wd_X8_match cy o_t x_thrown x_delay x_feel x_turn x_sight x_ball x_w x_h x_n x_players x_skill x_shore x_fars x_least x_mates) → va_S A s.heap H locs → lv_has ls 7 [(0, .ref (o_t 0)), (1, .int l1), (2, .int l2), (3, .int l3)] → W p l e (rmm 2 42) s m args below meth c H locs 0 0 Q (F0 m 39 ls [.int s0]) := by
            intro x_least x_mates l1 l2 l3 s0 H locs ls hf hP hD hS hl
            rw [X8_match_J39] at hf
            have h47 : ∀ (n47 : Nat) (x_least : Nat → Int32) (x_mates : Nat → Int32) (l1 : Int32) (l2 : Int32) (l3 : Int32) (l4 : Int32) (l5 : Int32) (H : Heap) (locs : List Loc) (ls : Array Slot), X8_match_L47 x_players x_skill x_shore x_fars (X8_match_L11 x_players x_skill x_shore x_fars n11) n47 x_least x_mates l1 l2 l3 l4 l5 = some out → va_P D vwCl (wd_X8_match cy o_t x_thrown x_delay x_feel x_turn x_sight x_ball x_w x_h x_n x_players x_skill x_shore x_fars x_least x_mates) H → va_D A (wd_X8_match cy o_t x_thrown x_delay x_feel x_turn x_sight x_ball x_w x_h x_n x_players x_skill x_shore x_fars x_least x_mates) → va_S A s.heap H locs → lv_has ls 7 [(0, .ref (o_t 0)), (1, .int l1), (2, .int l2), (3, .int l3), (4, .int l4), (5, .int l5)] → W p l e (rmm 2 42) s m args below meth c H locs 0 0 Q (F0 m 47 ls []) := by
              intro n47
              induction n47 with
              | zero =>
                intro _ _ _ _ _ _ _ _ _ _ hf
                exact nomatch (show (none : Option _) = some out from hf)
              | succ n47 ih47 =>
                intro x_least x_mates l1 l2 l3 l4 l5 H locs ls hf hP hD hS hl
                have hf : X8_match_L47_B x_players x_skill x_shore x_fars (X8_match_L11 x_players x_skill x_shore x_fars n11) (X8_match_L47 x_players x_skill x_shore x_fars (X8_match_L11 x_players x_skill x_shore x_fars n11) n47) x_least x_mates l1 l2 l3 l4 l5 = some out := hf
                rw [X8_match_L47_B] at hf
                have h120 : ∀ (x_least : Nat → Int32) (x_mates : Nat → Int32) (l1 : Int32) (l2 : Int32) (l3 : Int32) (l4 : Int32) (H : Heap) (locs : List Loc) (ls : Array Slot), X8_match_J120 x_players x_skill x_shore x_fars (X8_match_L11 x_players x_skill x_shore x_fars n11) x_least x_mates l1 l2 l3 l4 = some out → va_P D vwCl (wd_X8_match cy o_t x_thrown x_delay x_feel x_turn x_sight x_ball x_w x_h x_n x_players x_skill x_shore x_fars x_least x_mates) H → va_D A (wd_X8_match cy o_t x_thrown x_delay x_feel x_turn x_sight x_ball x_w x_h x_n x_players x_skill x_shore x_fars x_least x_mates) → va_S A s.heap H locs → lv_has ls 7 [(0, .ref (o_t 0)), (1, .int l1), (2, .int l2), (3, .int l3), (4, .int l4)] → W p l e (rmm 2 42) s m args below meth c H locs 0 0 Q (F0 m 120 ls []) := by
                  intro x_least x_mates l1 l2 l3 l4 H locs ls hf hP hD hS hl
                  rw [X8_match_J120] at hf
                  have h159 : ∀ (x_least : Nat → Int32) (x_mates : Nat → Int32) (l1 : Int32) (l2 : Int32) (l3 : Int32) (H : Heap) (locs : List Loc) (ls : Array Slot), X8_match_J159 x_players x_skill x_shore x_fars (X8_match_L11 x_players x_skill x_shore x_fars n11) x_least x_mates l1 l2 l3 = some out → va_P D vwCl (wd_X8_match cy o_t x_thrown x_delay x_feel x_turn x_sight x_ball x_w x_h x_n x_players x_skill x_shore x_fars x_least x_mates) H → va_D A (wd_X8_match cy o_t x_thrown x_delay x_feel x_turn x_sight x_ball x_w x_h x_n x_players x_skill x_shore x_fars x_least x_mates) → va_S A s.heap H locs → lv_has ls 7 [(0, .ref (o_t 0)), (1, .int l1), (2, .int l2), (3, .int l3)] → W p l e (rmm 2 42) s m args below meth c H locs 0 0 Q (F0 m 159 ls []) := by
                    intro x_least x_mates l1 l2 l3 H locs ls hf hP hD hS hl
                    rw [X8_match_J159] at hf
                    refine lv_aload_n hx hb dX8_match_159 rfl (lv_at hl 0 rfl) ?_
                    refine va_get (D := D) (ci := 8) (v := .ref (o_t 34)) (C := RX8) (T := TX8) (N := 36) hx hb hts k1 hown hK hP 0 rfl rfl 33 (by decide) k2 (fun _ h9 => h9) rfl dX8_match_160 ?_
                    refine lv_iload_n hx hb dX8_match_163 rfl (lv_at hl 2 rfl) ?_
                    refine lv_iload_n hx hb dX8_match_164 rfl (lv_at hl 3 rfl) ?_
                    obtain ⟨w165, b165, ew165, hf⟩ := wrI_s hf
                    refine my_iast (ws2 := (wd_X8_match cy o_t x_thrown x_delay x_feel x_turn x_sight x_ball x_w x_h x_n x_players x_skill x_shore x_fars w165 x_mates)) hx hb hK hP hD hS 4 rfl b165 ew165 rfl dX8_match_165 (fun H locs hP hD hS => ?_)
                    obtain ⟨v166, ev166, hf⟩ := nm_s hf
                    refine lv_iinc (v := v166) (lv' := [(2, .int v166), (0, .ref (o_t 0)), (1, .int l1), (3, .int l3)]) hx hb dX8_match_166 hl (k := 2) rfl (by rw [ev166]; rfl) (by decide) rfl (fun ls hl => ?_)
                    refine lv_goto (tgt := 11) hx hb dX8_match_169 (by decide) ?_
                    exact ih11 _ _ _ _ _ _ _ hf hP hD hS (lv_sub hl [1, 2, 0] rfl)
                  refine lv_iload_n hx hb dX8_match_120 rfl (lv_at hl 2 rfl) ?_
                  refine lv_if_le (tgt := 159) hx hb dX8_match_121 (by decide) (fun c121 => ?_) (fun c121 => ?_)
                  · have hf := ifp c121 hf
                    exact h159 _ _ _ _ _ _ _ _ hf hP hD hS (lv_sub hl [0, 1, 2, 3] rfl)
                  · have hf := ifn c121 hf
                    refine lv_iload_n hx hb dX8_match_124 rfl (lv_at hl 2 rfl) ?_
                    obtain ⟨r125, hr125, hf⟩ := bd_s hf
                    refine my_Si (WS2 := (wd_X8_match cy o_t x_thrown x_delay x_feel x_turn x_sight x_ball x_w x_h x_n x_players x_skill x_shore x_fars x_least x_mates)) ⟨hx, hb, hml, hown, hts⟩ (c_X8_isOdd l D cy t l2 hr125) (va_cwS 1 hts gX8_match_X8_isOdd rfl rfl rfl hd_X8_isOdd ⟨Nat.le_of_ble_eq_true rfl, Nat.le_of_ble_eq_true rfl⟩) hK hE hP hD hS hA [] 6 rfl rfl (by decide +kernel) rfl rfl hl.1 rfl (Nat.le_of_ble_eq_true rfl) dX8_match_125 ⟨Nat.le_of_ble_eq_true rfl, Nat.le_of_ble_eq_true rfl⟩ (fun H locs hP hD hS => ?_)
                    refine lv_if_eq (tgt := 159) hx hb dX8_match_128 (by decide) (fun c128 => ?_) (fun c128 => ?_)
                    · have hf := ifp c128 hf
                      exact h159 _ _ _ _ _ _ _ _ hf hP hD hS (lv_sub hl [0, 1, 2, 3] rfl)
                    · have hf := ifn c128 hf
                      have h158 : ∀ (x_least : Nat → Int32) (x_mates : Nat → Int32) (l1 : Int32) (l2 : Int32) (s0 : Int32) (H : Heap) (locs : List Loc) (ls : Array Slot), X8_match_J158 x_players x_skill x_shore x_fars (X8_match_L11 x_players x_skill x_shore x_fars n11) x_least x_mates l1 l2 s0 = some out → va_P D vwCl (wd_X8_match cy o_t x_thrown x_delay x_feel x_turn x_sight x_ball x_w x_h x_n x_players x_skill x_shore x_fars x_least x_mates) H → va_D A (wd_X8_match cy o_t x_thrown x_delay x_feel x_turn x_sight x_ball x_w x_h x_n x_players x_skill x_shore x_fars x_least x_mates) → va_S A s.heap H locs → lv_has ls 7 [(0, .ref (o_t 0)), (1, .int l1), (2, .int l2)] → W p l e (rmm 2 42) s m args below meth c H locs 0 0 Q (F0 m 158 ls [.int s0]) := by
                        intro x_least x_mates l1 l2 s0 H locs ls hf hP hD hS hl
                        rw [X8_match_J158] at hf
                        refine lv_istore_n (lv' := [(3, .int s0), (0, .ref (o_t 0)), (1, .int l1), (2, .int l2)]) hx hb dX8_match_158 rfl hl (by decide) rfl (fun ls hl => ?_)
                        exact h159 _ _ _ _ _ _ _ _ hf hP hD hS (lv_sub hl [1, 2, 3, 0] rfl)
                      refine lv_aload_n hx hb dX8_match_131 rfl (lv_at hl 0 rfl) ?_
                      refine va_get (D := D) (ci := 8) (v := .ref (o_t 34)) (C := RX8) (T := TX8) (N := 36) hx hb hts k1 hown hK hP 0 rfl rfl 33 (by decide) k2 (fun _ h9 => h9) rfl dX8_match_132 ?_
                      refine lv_iload_n hx hb dX8_match_135 rfl (lv_at hl 2 rfl) ?_
                      refine lv_iconst (v := (1 : Int32)) hx hb dX8_match_136 (by decide) ?_
                      refine lv_iload hx hb dX8_match_137 (lv_at hl 4 rfl) ?_
                      refine lv_ishl hx hb dX8_match_139 ?_
                      refine lv_iconst (v := (-1 : Int32)) hx hb dX8_match_140 (by decide) ?_
                      refine lv_ixor hx hb dX8_match_141 ?_
                      refine lv_iand hx hb dX8_match_142 ?_
                      obtain ⟨v143, b143, ev143, hf⟩ := rd_s hf
                      refine my_iald hx hb hK hP 4 rfl b143 ev143 dX8_match_143 ?_
                      refine lv_istore (lv' := [(5, .int v143), (0, .ref (o_t 0)), (1, .int l1), (2, .int l2), (3, .int l3), (4, .int l4)]) hx hb dX8_match_144 hl (by decide) rfl (fun ls hl => ?_)
                      refine lv_iload hx hb dX8_match_146 (lv_at hl 0 rfl) ?_
                      refine lv_iload_n hx hb dX8_match_148 rfl (lv_at hl 4 rfl) ?_
                      refine lv_icmp_ge (tgt := 157) hx hb dX8_match_149 (by decide) (fun c149 => ?_) (fun c149 => ?_)
                      · have hf := ifp c149 hf
                        refine lv_iload_n hx hb dX8_match_157 rfl (lv_at hl 4 rfl) ?_
                        exact h158 _ _ _ _ _ _ _ _ hf hP hD hS (lv_sub hl [1, 2, 3] rfl)
                      · have hf := ifn c149 hf
                        refine lv_iload hx hb dX8_match_152 (lv_at hl 0 rfl) ?_
                        refine lv_goto (tgt := 158) hx hb dX8_match_154 (by decide) ?_
                        exact h158 _ _ _ _ _ _ _ _ hf hP hD hS (lv_sub hl [1, 2, 3] rfl)
                refine lv_iload hx hb dX8_match_47 (lv_at hl 5 rfl) ?_
                refine lv_aload_n hx hb dX8_match_49 rfl (lv_at hl 0 rfl) ?_
                refine va_get (D := D) (ci := 8) (v := .int x_players) (C := RX8) (T := TX8) (N := 36) hx hb hts k1 hown hK hP 0 rfl rfl 29 (by decide) k0 (fun _ h9 => h9) rfl dX8_match_50 ?_
                refine lv_icmp_ge (tgt := 120) hx hb dX8_match_53 (by decide) (fun c53 => ?_) (fun c53 => ?_)
                · have hf := ifp c53 hf
                  exact h120 _ _ _ _ _ _ _ _ _ hf hP hD hS (lv_sub hl [0, 1, 2, 3, 4] rfl)
                · have hf := ifn c53 hf
                  refine lv_iload_n hx hb dX8_match_56 rfl (lv_at hl 2 rfl) ?_
                  refine lv_if_le (tgt := 120) hx hb dX8_match_57 (by decide) (fun c57 => ?_) (fun c57 => ?_)
                  · have hf := ifp c57 hf
                    exact h120 _ _ _ _ _ _ _ _ _ hf hP hD hS (lv_sub hl [0, 1, 2, 3, 4] rfl)
                  · have hf := ifn c57 hf
                    have h114 : ∀ (x_least : Nat → Int32) (x_mates : Nat → Int32) (l1 : Int32) (l2 : Int32) (l3 : Int32) (l4 : Int32) (l5 : Int32) (H : Heap) (locs : List Loc) (ls : Array Slot), X8_match_J114 x_players x_skill x_shore x_fars (X8_match_L11 x_players x_skill x_shore x_fars n11) (X8_match_L47 x_players x_skill x_shore x_fars (X8_match_L11 x_players x_skill x_shore x_fars n11) n47) x_least x_mates l1 l2 l3 l4 l5 = some out → va_P D vwCl (wd_X8_match cy o_t x_thrown x_delay x_feel x_turn x_sight x_ball x_w x_h x_n x_players x_skill x_shore x_fars x_least x_mates) H → va_D A (wd_X8_match cy o_t x_thrown x_delay x_feel x_turn x_sight x_ball x_w x_h x_n x_players x_skill x_shore x_fars x_least x_mates) → va_S A s.heap H locs → lv_has ls 7 [(0, .ref (o_t 0)), (1, .int l1), (2, .int l2), (3, .int l3), (4, .int l4), (5, .int l5)] → W p l e (rmm 2 42) s m args below meth c H locs 0 0 Q (F0 m 114 ls []) := by
                      intro x_least x_mates l1 l2 l3 l4 l5 H locs ls hf hP hD hS hl
                      rw [X8_match_J114] at hf
                      obtain ⟨v114, ev114, hf⟩ := nm_s hf
                      refine lv_iinc (v := v114) (lv' := [(5, .int v114), (0, .ref (o_t 0)), (1, .int l1), (2, .int l2), (3, .int l3), (4, .int l4)]) hx hb dX8_match_114 hl (k := 5) rfl (by rw [ev114]; rfl) (by decide) rfl (fun ls hl => ?_)
                      refine lv_goto (tgt := 47) hx hb dX8_match_117 (by decide) ?_
                      exact ih47 _ _ _ _ _ _ _ _ _ _ hf hP hD hS (lv_sub hl [1, 2, 3, 4, 5, 0] rfl)
                    refine lv_iload_n hx hb dX8_match_60 rfl (lv_at hl 2 rfl) ?_
                    refine lv_iload hx hb dX8_match_61 (lv_at hl 5 rfl) ?_
                    refine lv_ishr hx hb dX8_match_63 ?_
                    refine lv_iconst (v := (1 : Int32)) hx hb dX8_match_64 (by decide) ?_
                    refine lv_iand hx hb dX8_match_65 ?_
                    refine lv_iconst (v := (1 : Int32)) hx hb dX8_match_66 (by decide) ?_
                    refine lv_icmp_ne (tgt := 114) hx hb dX8_match_67 (by decide) (fun c67 => ?_) (fun c67 => ?_)
                    · have hf := ifn c67 hf
                      exact h114 _ _ _ _ _ _ _ _ _ _ hf hP hD hS (lv_sub hl [0, 1, 2, 3, 4, 5] rfl)
                    · have hf := ifp c67 hf
                      have h113 : ∀ (x_least : Nat → Int32) (x_mates : Nat → Int32) (l1 : Int32) (l2 : Int32) (l4 : Int32) (l5 : Int32) (s0 : Int32) (H : Heap) (locs : List Loc) (ls : Array Slot), X8_match_J113 x_players x_skill x_shore x_fars (X8_match_L11 x_players x_skill x_shore x_fars n11) (X8_match_L47 x_players x_skill x_shore x_fars (X8_match_L11 x_players x_skill x_shore x_fars n11) n47) x_least x_mates l1 l2 l4 l5 s0 = some out → va_P D vwCl (wd_X8_match cy o_t x_thrown x_delay x_feel x_turn x_sight x_ball x_w x_h x_n x_players x_skill x_shore x_fars x_least x_mates) H → va_D A (wd_X8_match cy o_t x_thrown x_delay x_feel x_turn x_sight x_ball x_w x_h x_n x_players x_skill x_shore x_fars x_least x_mates) → va_S A s.heap H locs → lv_has ls 7 [(0, .ref (o_t 0)), (1, .int l1), (2, .int l2), (4, .int l4), (5, .int l5)] → W p l e (rmm 2 42) s m args below meth c H locs 0 0 Q (F0 m 113 ls [.int s0]) := by
                        intro x_least x_mates l1 l2 l4 l5 s0 H locs ls hf hP hD hS hl
                        rw [X8_match_J113] at hf
                        refine lv_istore_n (lv' := [(3, .int s0), (0, .ref (o_t 0)), (1, .int l1), (2, .int l2), (4, .int l4), (5, .int l5)]) hx hb dX8_match_113 rfl hl (by decide) rfl (fun ls hl => ?_)
                        exact h114 _ _ _ _ _ _ _ _ _ _ hf hP hD hS (lv_sub hl [1, 2, 3, 0, 4, 5] rfl)
                      refine lv_aload_n hx hb dX8_match_70 rfl (lv_at hl 0 rfl) ?_
                      refine lv_iload hx hb dX8_match_71 (lv_at hl 4 rfl) ?_
                      refine lv_iload hx hb dX8_match_73 (lv_at hl 5 rfl) ?_
                      obtain ⟨r75, hr75, hf⟩ := bd_s hf
                      refine my_Vi (WS2 := (wd_X8_match cy o_t x_thrown x_delay x_feel x_turn x_sight x_ball x_w x_h x_n x_players x_skill x_shore x_fars x_least x_mates)) ⟨hx, hb, hml, hown, hts⟩ (c_X8_costs l D cy t o_t x_thrown x_delay x_feel x_turn x_sight x_ball x_w x_h x_n x_players x_skill x_shore x_fars l4 l5 hr75) (cwV 2 hts gX8_match_X8_costs rfl rfl rfl ⟨rfl, hd_X8_costs⟩ ⟨Nat.le_of_ble_eq_true rfl, Nat.le_of_ble_eq_true rfl⟩) hK hE hP hD hS hA [0, 1, 2, 3] 6 8 0 rfl rfl rfl rfl (by decide +kernel) rfl rfl hl.1 rfl (Nat.le_of_ble_eq_true rfl) dX8_match_75 ⟨Nat.le_of_ble_eq_true rfl, Nat.le_of_ble_eq_true rfl⟩ (fun H locs hP hD hS => ?_)
                      refine lv_aload_n hx hb dX8_match_78 rfl (lv_at hl 0 rfl) ?_
                      refine va_get (D := D) (ci := 8) (v := .ref (o_t 34)) (C := RX8) (T := TX8) (N := 36) hx hb hts k1 hown hK hP 0 rfl rfl 33 (by decide) k2 (fun _ h9 => h9) rfl dX8_match_79 ?_
                      refine lv_iload_n hx hb dX8_match_82 rfl (lv_at hl 2 rfl) ?_
                      refine lv_iconst (v := (1 : Int32)) hx hb dX8_match_83 (by decide) ?_
                      refine lv_iload hx hb dX8_match_84 (lv_at hl 4 rfl) ?_
                      refine lv_ishl hx hb dX8_match_86 ?_
                      refine lv_iconst (v := (-1 : Int32)) hx hb dX8_match_87 (by decide) ?_
                      refine lv_ixor hx hb dX8_match_88 ?_
                      refine lv_iand hx hb dX8_match_89 ?_
                      refine lv_iconst (v := (1 : Int32)) hx hb dX8_match_90 (by decide) ?_
                      refine lv_iload hx hb dX8_match_91 (lv_at hl 5 rfl) ?_
                      refine lv_ishl hx hb dX8_match_93 ?_
                      refine lv_iconst (v := (-1 : Int32)) hx hb dX8_match_94 (by decide) ?_
                      refine lv_ixor hx hb dX8_match_95 ?_
                      refine lv_iand hx hb dX8_match_96 ?_
                      obtain ⟨v97, b97, ev97, hf⟩ := rd_s hf
                      refine my_iald hx hb hK hP 4 rfl b97 ev97 dX8_match_97 ?_
                      refine lv_iadd hx hb dX8_match_98 ?_
                      obtain ⟨v99, ev99, hf⟩ := nm_s hf
                      refine my_topi ev99 ?_
                      refine lv_istore (lv' := [(6, .int v99), (0, .ref (o_t 0)), (1, .int l1), (2, .int l2), (3, .int l3), (4, .int l4), (5, .int l5)]) hx hb dX8_match_99 hl (by decide) rfl (fun ls hl => ?_)
                      refine lv_iload hx hb dX8_match_101 (lv_at hl 0 rfl) ?_
                      refine lv_iload_n hx hb dX8_match_103 rfl (lv_at hl 4 rfl) ?_
                      refine lv_icmp_ge (tgt := 112) hx hb dX8_match_104 (by decide) (fun c104 => ?_) (fun c104 => ?_)
                      · have hf := ifp c104 hf
                        refine lv_iload_n hx hb dX8_match_112 rfl (lv_at hl 4 rfl) ?_
                        exact h113 _ _ _ _ _ _ _ _ _ _ hf hP hD hS (lv_sub hl [1, 2, 3, 5, 6] rfl)
                      · have hf := ifn c104 hf
                        refine lv_iload hx hb dX8_match_107 (lv_at hl 0 rfl) ?_
                        refine lv_goto (tgt := 113) hx hb dX8_match_109 (by decide) ?_
                        exact h113 _ _ _ _ _ _ _ _ _ _ hf hP hD hS (lv_sub hl [1, 2, 3, 5, 6] rfl)
            refine lv_istore (lv' := [(4, .int s0), (0, .ref (o_t 0)), (1, .int l1), (2, .int l2), (3, .int l3)]) hx hb dX8_match_39 hl (by decide) rfl (fun ls hl => ?_)
            refine lv_iload hx hb dX8_match_41 (lv_at hl 0 rfl) ?_
            refine lv_iconst (v := (1 : Int32)) hx hb dX8_match_43 (by decide) ?_
            refine lv_iadd hx hb dX8_match_44 ?_
            obtain ⟨v45, ev45, hf⟩ := nm_s hf
            refine my_topi ev45 ?_
            refine lv_istore (lv' := [(5, .int v45), (4, .int s0), (0, .ref (o_t 0)), (1, .int l1), (2, .int l2), (3, .int l3)]) hx hb dX8_match_45 hl (by decide) rfl (fun ls hl => ?_)
            exact h47 FU _ _ _ _ _ _ _ _ _ _ hf hP hD hS (lv_sub hl [2, 3, 4, 5, 1, 0] rfl)
          refine lv_istore_n (lv' := [(3, .int s0), (0, .ref (o_t 0)), (1, .int l1), (2, .int l2)]) hx hb dX8_match_26 rfl hl (by decide) rfl (fun ls hl => ?_)
          refine lv_iload_n hx hb dX8_match_27 rfl (lv_at hl 3 rfl) ?_
          refine lv_if_ne (tgt := 35) hx hb dX8_match_28 (by decide) (fun c28 => ?_) (fun c28 => ?_)
          · have hf := ifn c28 hf
            refine lv_iload_n hx hb dX8_match_35 rfl (lv_at hl 3 rfl) ?_
            obtain ⟨r36, hr36, hf⟩ := bd_s hf
            refine my_Si (WS2 := (wd_X8_match cy o_t x_thrown x_delay x_feel x_turn x_sight x_ball x_w x_h x_n x_players x_skill x_shore x_fars x_least x_mates)) ⟨hx, hb, hml, hown, hts⟩ (c_X8_lowest l D cy t l2 hr36) (va_cwS 1 hts gX8_match_X8_lowest rfl rfl rfl hd_X8_lowest ⟨Nat.le_of_ble_eq_true rfl, Nat.le_of_ble_eq_true rfl⟩) hK hE hP hD hS hA [] 6 rfl rfl (by decide +kernel) rfl rfl hl.1 rfl (Nat.le_of_ble_eq_true rfl) dX8_match_36 ⟨Nat.le_of_ble_eq_true rfl, Nat.le_of_ble_eq_true rfl⟩ (fun H locs hP hD hS => ?_)
            exact h39 _ _ _ _ _ _ _ _ _ hf hP hD hS (lv_sub hl [1, 2, 3, 0] rfl)
          · have hf := ifp c28 hf
            refine lv_iconst (v := (0 : Int32)) hx hb dX8_match_31 (by decide) ?_
            refine lv_goto (tgt := 39) hx hb dX8_match_32 (by decide) ?_
            exact h39 _ _ _ _ _ _ _ _ _ hf hP hD hS (lv_sub hl [1, 2, 3, 0] rfl)
        refine lv_iload_n hx hb dX8_match_16 rfl (lv_at hl 2 rfl) ?_
        refine lv_if_ne (tgt := 24) hx hb dX8_match_17 (by decide) (fun c17 => ?_) (fun c17 => ?_)
        · have hf := ifn c17 hf
          refine lv_ldc (v := (1000000000 : Int32)) hx hb hown k4 dX8_match_24 ?_
          exact h26 _ _ _ _ _ _ _ _ hf hP hD hS (lv_sub hl [0, 1, 2] rfl)
        · have hf := ifp c17 hf
          refine lv_iconst (v := (0 : Int32)) hx hb dX8_match_20 (by decide) ?_
          refine lv_goto (tgt := 26) hx hb dX8_match_21 (by decide) ?_
          exact h26 _ _ _ _ _ _ _ _ hf hP hD hS (lv_sub hl [0, 1, 2] rfl)
  refine lv_iconst (v := (1 : Int32)) hx hb dX8_match_0 (by decide) ?_
  refine lv_aload_n hx hb dX8_match_1 rfl (lv_at hl 0 rfl) ?_
  refine va_get (D := D) (ci := 8) (v := .int x_players) (C := RX8) (T := TX8) (N := 36) hx hb hts k1 hown hK hP 0 rfl rfl 29 (by decide) k0 (fun _ h9 => h9) rfl dX8_match_2 ?_
  refine lv_ishl hx hb dX8_match_5 ?_
  refine lv_iconst (v := (1 : Int32)) hx hb dX8_match_6 (by decide) ?_
  refine lv_isub hx hb dX8_match_7 ?_
  obtain ⟨v8, ev8, hf⟩ := nm_s hf
  refine my_topi ev8 ?_
  refine lv_istore_n (lv' := [(1, .int v8), (0, .ref (o_t 0))]) hx hb dX8_match_8 rfl hl (by decide) rfl (fun ls hl => ?_)
  refine lv_iconst (v := (0 : Int32)) hx hb dX8_match_9 (by decide) ?_
  refine lv_istore_n (lv' := [(2, .int (0 : Int32)), (1, .int v8), (0, .ref (o_t 0))]) hx hb dX8_match_10 rfl hl (by decide) rfl (fun ls hl => ?_)
  exact h11 FU _ _ _ _ _ _ _ hf hP hD hS (lv_sub hl [2, 1, 0] rfl)
theorem hd_X8_match : yX8_match.cls ≠ "java/lang/invoke/MethodHandle" ∧ yX8_match.cls ≠ "java/lang/invoke/VarHandle" ∧ (parseMethodDescriptor yX8_match.desc).map (fun d => d.parameters.length) = some 0 := by decide +kernel
set_option maxRecDepth 100000 in
theorem c_X8_match (l : Launch) (D : va_G) (cy : Nat → ClassId) (t : Nat → Nat) (o_t : Nat → Nat) (x_thrown : Int32) (x_delay : Int32) (x_feel : Int32) (x_turn : Int32) (x_sight : Int32) (x_ball : Int32) (x_w : Int32) (x_h : Int32) (x_n : Int32) (x_players : Int32) (x_skill : Nat → Int32) (x_shore : Nat → Int32) (x_fars : Nat → Int32) (x_least : Nat → Int32) (x_mates : Nat → Int32) {out : Int32 × (Nat → Int32) × (Nat → Int32)} (hf : X8_match x_players x_skill x_shore x_fars x_least x_mates = some out) : ctI l yX8_match wsX8_match 2 42 D cy t [.ref (o_t 0)] (wd_X8_match cy o_t x_thrown x_delay x_feel x_turn x_sight x_ball x_w x_h x_n x_players x_skill x_shore x_fars x_least x_mates) (wd_X8_match cy o_t x_thrown x_delay x_feel x_turn x_sight x_ball x_w x_h x_n x_players x_skill x_shore x_fars out.2.1 out.2.2) out.1 := by
  refine ⟨rfl, ?_⟩
  intro sz
  refine Met.ofW (cc := cX8_match) (maxL := 7) (ret := (some .int)) (by decide) rfl ?_
  intro p e s m args below meth c s₁ B hml hv
  obtain ⟨rfl, hsz, hP, hK, hD0, hE⟩ := hv
  have hts := atoms_spec (ws := wsX8_match) B.pre
  have hown : s.vm.findClass RX8 = some m.cls := findClass_of_methodNamed B.named
  have hlocks := B.notSynchronized
  subst hsz
  have hD := hD0.self (sz := s.heap.size)
  have hl := lv_entry ([.ref (o_t 0)]) (n := 7) (Nat.le_of_ble_eq_true rfl)
  rw [lg_entry_eq]
  generalize (lg_sl ([.ref (o_t 0)]) ++ List.replicate (7 - (lg_sl ([.ref (o_t 0)])).length) Slot.unset).toArray = ls at hl ⊢
  exact w_X8_match D cy t o_t x_thrown x_delay x_feel x_turn x_sight x_ball x_w x_h x_n x_players x_skill x_shore x_fars x_least x_mates hf B.exec B.bytes hml hown hts hK hE (fun q h => Or.inr h) hP hD va_S.rf hl (fun H locs ls pc hP hD hS hdg => W.iret B.exec B.bytes B.returns (fun t ht hW => ⟨⟨_, (), rfl, rfl, ctB_of ht hP⟩, hS.F ht⟩) hS.2.2 hdg)

noncomputable def X8_pairs (x_players : Int32) (x_skill : Nat → Int32) (x_shore : Nat → Int32) (x_fars : Nat → Int32) (x_thrown : Int32) (x_least : Nat → Int32) (x_mates : Nat → Int32) : Option (Int32 × Int32 × (Nat → Int32) × (Nat → Int32)) :=
  bd (X8_match x_players x_skill x_shore x_fars x_least x_mates) fun r6 => some (r6.1, (0 : Int32), r6.2.1, r6.2.2)
abbrev wd_X8_pairs (cy : Nat → ClassId) (o_t : Nat → Nat) (x_thrown : Int32) (x_delay : Int32) (x_feel : Int32) (x_turn : Int32) (x_sight : Int32) (x_ball : Int32) (x_w : Int32) (x_h : Int32) (x_n : Int32) (x_players : Int32) (x_skill : Nat → Int32) (x_shore : Nat → Int32) (x_fars : Nat → Int32) (x_least : Nat → Int32) (x_mates : Nat → Int32) : va_W := [(o_t 0, .inr (8, [.int x_thrown, .ref (o_t 2), .ref (o_t 3), .ref (o_t 4), .ref (o_t 5), .ref (o_t 6), .ref (o_t 7), .ref (o_t 8), .ref (o_t 9), .ref (o_t 10), .ref (o_t 11), .int x_delay, .int x_feel, .int x_turn, .int x_sight, .ref (o_t 16), .ref (o_t 17), .ref (o_t 18), .ref (o_t 19), .int x_ball, .int x_w, .int x_h, .int x_n, .ref (o_t 24), .ref (o_t 25), .ref (o_t 26), .ref (o_t 27), .ref (o_t 28), .ref (o_t 29), .int x_players, .ref (o_t 31), .ref (o_t 32), .ref (o_t 33), .ref (o_t 34), .ref (o_t 35), .ref (o_t 36)])), (o_t 31, .inl (cy 0, 10, .inl x_skill)), (o_t 32, .inl (cy 0, 10, .inl x_shore)), (o_t 33, .inl (cy 0, 16, .inl x_fars)), (o_t 34, .inl (cy 0, 1024, .inl x_least)), (o_t 35, .inl (cy 0, 10, .inl x_mates))]
set_option maxHeartbeats 4000000 in
set_option maxRecDepth 100000 in
theorem w_X8_pairs {p : Program} {l : Launch} {e : Env} {s : State} {m : MethodId} {args : Array Value} {below : List Frame} {meth : Method} {c : Code} {Q : State → Prop} {A : Nat → Prop} {H : Heap} {locs : List Loc} {ls : Array Slot} (D : va_G) (cy : Nat → ClassId) (t : Nat → Nat) (o_t : Nat → Nat) (x_thrown : Int32) (x_delay : Int32) (x_feel : Int32) (x_turn : Int32) (x_sight : Int32) (x_ball : Int32) (x_w : Int32) (x_h : Int32) (x_n : Int32) (x_players : Int32) (x_skill : Nat → Int32) (x_shore : Nat → Int32) (x_fars : Nat → Int32) (x_least : Nat → Int32) (x_mates : Nat → Int32) {out : Int32 × Int32 × (Nat → Int32) × (Nat → Int32)} (hf : X8_pairs x_players x_skill x_shore x_fars x_thrown x_least x_mates = some out) (hx : p.tables.exec = Jvm.exec) (hb : c.code = cX8_pairs) (hml : c.maxLocals = 1) (hown : s.vm.findClass RX8 = some m.cls) (hts : ∀ w ∈ wsX8_pairs, w.before args s = true) (hK : va_K D vwCl (TYS cy) s) (hE : EV t A s s.heap) (hA : ∀ q, s.heap.size ≤ q → A q) (hP : va_P D vwCl (wd_X8_pairs cy o_t x_thrown x_delay x_feel x_turn x_sight x_ball x_w x_h x_n x_players x_skill x_shore x_fars x_least x_mates) H) (hD : va_D A (wd_X8_pairs cy o_t x_thrown x_delay x_feel x_turn x_sight x_ball x_w x_h x_n x_players x_skill x_shore x_fars x_least x_mates)) (hS : va_S A s.heap H locs) (hl : lv_has ls 1 [(0, .ref (o_t 0))]) (hR : ∀ (H : Heap) (locs : List Loc) (ls : Array Slot) (pc : Nat), va_P D vwCl (wd_X8_pairs cy o_t out.2.1 x_delay x_feel x_turn x_sight x_ball x_w x_h x_n x_players x_skill x_shore x_fars out.2.2.1 out.2.2.2) H → va_D A (wd_X8_pairs cy o_t out.2.1 x_delay x_feel x_turn x_sight x_ball x_w x_h x_n x_players x_skill x_shore x_fars out.2.2.1 out.2.2.2) → va_S A s.heap H locs → decode cX8_pairs pc = .ok (.ireturn, 1) → W p l e (rmm 3 68) s m args below meth c H locs 0 0 Q (F0 m pc ls [.int out.1])) : W p l e (rmm 3 68) s m args below meth c H locs 0 0 Q (F0 m 0 ls []) := by
  have k0 := hts (.fieldLink RX8 100 "SeaGamesModel" "thrown" "I") (List.mem_cons_of_mem _ (List.mem_append_left _ (List.mem_append_left _ (List.mem_of_getElem? (i := 0) rfl))))
  have k1 : ∀ w ∈ u_ws RX8 TX8 36, w ∈ wsX8_pairs := fun _ h => List.mem_cons_of_mem _ (List.mem_append_right _ h)
  rw [X8_pairs] at hf
  refine lv_aload_n hx hb dX8_pairs_0 rfl (lv_at hl 0 rfl) ?_
  refine lv_iconst (v := (0 : Int32)) hx hb dX8_pairs_1 (by decide) ?_
  refine va_put (D := D) (ci := 8) (v := .int (0 : Int32)) (ty := .int) (C := RX8) (T := TX8) (N := 36) hx hb hts k1 tyX8 tyX8_ok nmX8 hown hK hP hD hS 0 rfl rfl 0 (by decide) k0 (fun _ h9 => h9) rfl (by decide +kernel) rfl rfl (Nat.le_of_ble_eq_true rfl) dX8_pairs_2 (fun H locs hP hD hS => ?_)
  have hP : va_P D vwCl (wd_X8_pairs cy o_t (0 : Int32) x_delay x_feel x_turn x_sight x_ball x_w x_h x_n x_players x_skill x_shore x_fars x_least x_mates) H := hP
  have hD : va_D A (wd_X8_pairs cy o_t (0 : Int32) x_delay x_feel x_turn x_sight x_ball x_w x_h x_n x_players x_skill x_shore x_fars x_least x_mates) := hD
  refine lv_aload_n hx hb dX8_pairs_5 rfl (lv_at hl 0 rfl) ?_
  obtain ⟨r6, hr6, hf⟩ := bd_s hf
  refine my_Vi (WS2 := (wd_X8_pairs cy o_t (0 : Int32) x_delay x_feel x_turn x_sight x_ball x_w x_h x_n x_players x_skill x_shore x_fars r6.2.1 r6.2.2)) ⟨hx, hb, hml, hown, hts⟩ (c_X8_match l D cy t o_t (0 : Int32) x_delay x_feel x_turn x_sight x_ball x_w x_h x_n x_players x_skill x_shore x_fars x_least x_mates hr6) (cwV 0 hts gX8_pairs_X8_match rfl rfl rfl ⟨rfl, hd_X8_match⟩ ⟨Nat.le_of_ble_eq_true rfl, Nat.le_of_ble_eq_true rfl⟩) hK hE hP hD hS hA [0, 1, 2, 3, 4, 5] 6 8 0 rfl rfl rfl rfl (by decide +kernel) rfl rfl hl.1 rfl (Nat.le_of_ble_eq_true rfl) dX8_pairs_6 ⟨Nat.le_of_ble_eq_true rfl, Nat.le_of_ble_eq_true rfl⟩ (fun H locs hP hD hS => ?_)
  obtain rfl := Option.some.inj hf
  exact hR _ _ _ _ hP hD hS dX8_pairs_9
theorem hd_X8_pairs : yX8_pairs.cls ≠ "java/lang/invoke/MethodHandle" ∧ yX8_pairs.cls ≠ "java/lang/invoke/VarHandle" ∧ (parseMethodDescriptor yX8_pairs.desc).map (fun d => d.parameters.length) = some 0 := by decide +kernel
set_option maxRecDepth 100000 in
theorem c_X8_pairs (l : Launch) (D : va_G) (cy : Nat → ClassId) (t : Nat → Nat) (o_t : Nat → Nat) (x_thrown : Int32) (x_delay : Int32) (x_feel : Int32) (x_turn : Int32) (x_sight : Int32) (x_ball : Int32) (x_w : Int32) (x_h : Int32) (x_n : Int32) (x_players : Int32) (x_skill : Nat → Int32) (x_shore : Nat → Int32) (x_fars : Nat → Int32) (x_least : Nat → Int32) (x_mates : Nat → Int32) {out : Int32 × Int32 × (Nat → Int32) × (Nat → Int32)} (hf : X8_pairs x_players x_skill x_shore x_fars x_thrown x_least x_mates = some out) : ctI l yX8_pairs wsX8_pairs 3 68 D cy t [.ref (o_t 0)] (wd_X8_pairs cy o_t x_thrown x_delay x_feel x_turn x_sight x_ball x_w x_h x_n x_players x_skill x_shore x_fars x_least x_mates) (wd_X8_pairs cy o_t out.2.1 x_delay x_feel x_turn x_sight x_ball x_w x_h x_n x_players x_skill x_shore x_fars out.2.2.1 out.2.2.2) out.1 := by
  refine ⟨rfl, ?_⟩
  intro sz
  refine Met.ofW (cc := cX8_pairs) (maxL := 1) (ret := (some .int)) (by decide) rfl ?_
  intro p e s m args below meth c s₁ B hml hv
  obtain ⟨rfl, hsz, hP, hK, hD0, hE⟩ := hv
  have hts := atoms_spec (ws := wsX8_pairs) B.pre
  have hown : s.vm.findClass RX8 = some m.cls := findClass_of_methodNamed B.named
  have hlocks := B.notSynchronized
  subst hsz
  have hD := hD0.self (sz := s.heap.size)
  have hl := lv_entry ([.ref (o_t 0)]) (n := 1) (Nat.le_of_ble_eq_true rfl)
  rw [lg_entry_eq]
  generalize (lg_sl ([.ref (o_t 0)]) ++ List.replicate (1 - (lg_sl ([.ref (o_t 0)])).length) Slot.unset).toArray = ls at hl ⊢
  exact w_X8_pairs D cy t o_t x_thrown x_delay x_feel x_turn x_sight x_ball x_w x_h x_n x_players x_skill x_shore x_fars x_least x_mates hf B.exec B.bytes hml hown hts hK hE (fun q h => Or.inr h) hP hD va_S.rf hl (fun H locs ls pc hP hD hS hdg => W.iret B.exec B.bytes B.returns (fun t ht hW => ⟨⟨_, (), rfl, rfl, ctB_of ht hP⟩, hS.F ht⟩) hS.2.2 hdg)

noncomputable def X8_mate (x_players : Int32) (x_skill : Nat → Int32) (x_shore : Nat → Int32) (x_fars : Nat → Int32) (x_thrown : Int32) (x_least : Nat → Int32) (x_mates : Nat → Int32) (p1 : Int32) : Option (Int32 × Int32 × (Nat → Int32) × (Nat → Int32)) :=
  bd (X8_in (Int32.toInt64 p1) (0 : Int64) (Int32.toInt64 (x_players - (1 : Int32)))) fun r15 => if r15 = (0 : Int32) then (some ((-1 : Int32), (0 : Int32), x_least, x_mates)) else (bd (X8_match x_players x_skill x_shore x_fars x_least x_mates) fun r24 => rd r24.2.2 10 p1 fun v33 => some (v33, (0 : Int32), r24.2.1, r24.2.2))
abbrev wd_X8_mate (cy : Nat → ClassId) (o_t : Nat → Nat) (x_thrown : Int32) (x_delay : Int32) (x_feel : Int32) (x_turn : Int32) (x_sight : Int32) (x_ball : Int32) (x_w : Int32) (x_h : Int32) (x_n : Int32) (x_players : Int32) (x_skill : Nat → Int32) (x_shore : Nat → Int32) (x_fars : Nat → Int32) (x_least : Nat → Int32) (x_mates : Nat → Int32) : va_W := [(o_t 0, .inr (8, [.int x_thrown, .ref (o_t 2), .ref (o_t 3), .ref (o_t 4), .ref (o_t 5), .ref (o_t 6), .ref (o_t 7), .ref (o_t 8), .ref (o_t 9), .ref (o_t 10), .ref (o_t 11), .int x_delay, .int x_feel, .int x_turn, .int x_sight, .ref (o_t 16), .ref (o_t 17), .ref (o_t 18), .ref (o_t 19), .int x_ball, .int x_w, .int x_h, .int x_n, .ref (o_t 24), .ref (o_t 25), .ref (o_t 26), .ref (o_t 27), .ref (o_t 28), .ref (o_t 29), .int x_players, .ref (o_t 31), .ref (o_t 32), .ref (o_t 33), .ref (o_t 34), .ref (o_t 35), .ref (o_t 36)])), (o_t 31, .inl (cy 0, 10, .inl x_skill)), (o_t 32, .inl (cy 0, 10, .inl x_shore)), (o_t 33, .inl (cy 0, 16, .inl x_fars)), (o_t 34, .inl (cy 0, 1024, .inl x_least)), (o_t 35, .inl (cy 0, 10, .inl x_mates))]
set_option maxHeartbeats 4000000 in
set_option maxRecDepth 100000 in
theorem w_X8_mate {p : Program} {l : Launch} {e : Env} {s : State} {m : MethodId} {args : Array Value} {below : List Frame} {meth : Method} {c : Code} {Q : State → Prop} {A : Nat → Prop} {H : Heap} {locs : List Loc} {ls : Array Slot} (D : va_G) (cy : Nat → ClassId) (t : Nat → Nat) (o_t : Nat → Nat) (x_thrown : Int32) (x_delay : Int32) (x_feel : Int32) (x_turn : Int32) (x_sight : Int32) (x_ball : Int32) (x_w : Int32) (x_h : Int32) (x_n : Int32) (x_players : Int32) (x_skill : Nat → Int32) (x_shore : Nat → Int32) (x_fars : Nat → Int32) (x_least : Nat → Int32) (x_mates : Nat → Int32) (p1 : Int32) {out : Int32 × Int32 × (Nat → Int32) × (Nat → Int32)} (hf : X8_mate x_players x_skill x_shore x_fars x_thrown x_least x_mates p1 = some out) (hx : p.tables.exec = Jvm.exec) (hb : c.code = cX8_mate) (hml : c.maxLocals = 2) (hown : s.vm.findClass RX8 = some m.cls) (hts : ∀ w ∈ wsX8_mate, w.before args s = true) (hK : va_K D vwCl (TYS cy) s) (hE : EV t A s s.heap) (hA : ∀ q, s.heap.size ≤ q → A q) (hP : va_P D vwCl (wd_X8_mate cy o_t x_thrown x_delay x_feel x_turn x_sight x_ball x_w x_h x_n x_players x_skill x_shore x_fars x_least x_mates) H) (hD : va_D A (wd_X8_mate cy o_t x_thrown x_delay x_feel x_turn x_sight x_ball x_w x_h x_n x_players x_skill x_shore x_fars x_least x_mates)) (hS : va_S A s.heap H locs) (hl : lv_has ls 2 [(0, .ref (o_t 0)), (1, .int p1)]) (hR : ∀ (H : Heap) (locs : List Loc) (ls : Array Slot) (pc : Nat), va_P D vwCl (wd_X8_mate cy o_t out.2.1 x_delay x_feel x_turn x_sight x_ball x_w x_h x_n x_players x_skill x_shore x_fars out.2.2.1 out.2.2.2) H → va_D A (wd_X8_mate cy o_t out.2.1 x_delay x_feel x_turn x_sight x_ball x_w x_h x_n x_players x_skill x_shore x_fars out.2.2.1 out.2.2.2) → va_S A s.heap H locs → decode cX8_mate pc = .ok (.ireturn, 1) → W p l e (rmm 3 68) s m args below meth c H locs 0 0 Q (F0 m pc ls [.int out.1])) : W p l e (rmm 3 68) s m args below meth c H locs 0 0 Q (F0 m 0 ls []) := by
  have k0 := hts (.fieldLink RX8 100 "SeaGamesModel" "thrown" "I") (List.mem_cons_of_mem _ (List.mem_append_left _ (List.mem_append_left _ (List.mem_of_getElem? (i := 0) rfl))))
  have k1 : ∀ w ∈ u_ws RX8 TX8 36, w ∈ wsX8_mate := fun _ h => List.mem_cons_of_mem _ (List.mem_append_right _ h)
  have k2 := hts (.fieldLink RX8 228 "SeaGamesModel" "players" "I") (List.mem_cons_of_mem _ (List.mem_append_left _ (List.mem_append_left _ (List.mem_of_getElem? (i := 1) rfl))))
  have k3 := hts (.fieldLink RX8 93 "SeaGamesModel" "mates" "[I") (List.mem_cons_of_mem _ (List.mem_append_left _ (List.mem_append_left _ (List.mem_of_getElem? (i := 2) rfl))))
  rw [X8_mate] at hf
  refine lv_aload_n hx hb dX8_mate_0 rfl (lv_at hl 0 rfl) ?_
  refine lv_iconst (v := (0 : Int32)) hx hb dX8_mate_1 (by decide) ?_
  refine va_put (D := D) (ci := 8) (v := .int (0 : Int32)) (ty := .int) (C := RX8) (T := TX8) (N := 36) hx hb hts k1 tyX8 tyX8_ok nmX8 hown hK hP hD hS 0 rfl rfl 0 (by decide) k0 (fun _ h9 => h9) rfl (by decide +kernel) rfl rfl (Nat.le_of_ble_eq_true rfl) dX8_mate_2 (fun H locs hP hD hS => ?_)
  have hP : va_P D vwCl (wd_X8_mate cy o_t (0 : Int32) x_delay x_feel x_turn x_sight x_ball x_w x_h x_n x_players x_skill x_shore x_fars x_least x_mates) H := hP
  have hD : va_D A (wd_X8_mate cy o_t (0 : Int32) x_delay x_feel x_turn x_sight x_ball x_w x_h x_n x_players x_skill x_shore x_fars x_least x_mates) := hD
  refine lv_iload_n hx hb dX8_mate_5 rfl (lv_at hl 1 rfl) ?_
  refine lv_i2l (v := (Int32.toInt64 p1)) hx hb dX8_mate_6 rfl ?_
  refine lv_lconst (v := (0 : Int64)) hx hb dX8_mate_7 (by decide) ?_
  refine lv_aload_n hx hb dX8_mate_8 rfl (lv_at hl 0 rfl) ?_
  refine va_get (D := D) (ci := 8) (v := .int x_players) (C := RX8) (T := TX8) (N := 36) hx hb hts k1 hown hK hP 0 rfl rfl 29 (by decide) k2 (fun _ h9 => h9) rfl dX8_mate_9 ?_
  refine lv_iconst (v := (1 : Int32)) hx hb dX8_mate_12 (by decide) ?_
  refine lv_isub hx hb dX8_mate_13 ?_
  refine lv_i2l (v := (Int32.toInt64 (x_players - (1 : Int32)))) hx hb dX8_mate_14 rfl ?_
  obtain ⟨r15, hr15, hf⟩ := bd_s hf
  refine my_Si (WS2 := (wd_X8_mate cy o_t (0 : Int32) x_delay x_feel x_turn x_sight x_ball x_w x_h x_n x_players x_skill x_shore x_fars x_least x_mates)) ⟨hx, hb, hml, hown, hts⟩ (c_X8_in l D cy t (Int32.toInt64 p1) (0 : Int64) (Int32.toInt64 (x_players - (1 : Int32))) hr15) (va_cwS 3 hts gX8_mate_X8_in rfl rfl rfl hd_X8_in ⟨Nat.le_of_ble_eq_true rfl, Nat.le_of_ble_eq_true rfl⟩) hK hE hP hD hS hA [] 6 rfl rfl (by decide +kernel) rfl rfl hl.1 rfl (Nat.le_of_ble_eq_true rfl) dX8_mate_15 ⟨Nat.le_of_ble_eq_true rfl, Nat.le_of_ble_eq_true rfl⟩ (fun H locs hP hD hS => ?_)
  refine lv_if_ne (tgt := 23) hx hb dX8_mate_18 (by decide) (fun c18 => ?_) (fun c18 => ?_)
  · have hf := ifn c18 hf
    refine lv_aload_n hx hb dX8_mate_23 rfl (lv_at hl 0 rfl) ?_
    obtain ⟨r24, hr24, hf⟩ := bd_s hf
    refine my_Vi (WS2 := (wd_X8_mate cy o_t (0 : Int32) x_delay x_feel x_turn x_sight x_ball x_w x_h x_n x_players x_skill x_shore x_fars r24.2.1 r24.2.2)) ⟨hx, hb, hml, hown, hts⟩ (c_X8_match l D cy t o_t (0 : Int32) x_delay x_feel x_turn x_sight x_ball x_w x_h x_n x_players x_skill x_shore x_fars x_least x_mates hr24) (cwV 0 hts gX8_mate_X8_match rfl rfl rfl ⟨rfl, hd_X8_match⟩ ⟨Nat.le_of_ble_eq_true rfl, Nat.le_of_ble_eq_true rfl⟩) hK hE hP hD hS hA [0, 1, 2, 3, 4, 5] 6 8 0 rfl rfl rfl rfl (by decide +kernel) rfl rfl hl.1 rfl (Nat.le_of_ble_eq_true rfl) dX8_mate_24 ⟨Nat.le_of_ble_eq_true rfl, Nat.le_of_ble_eq_true rfl⟩ (fun H locs hP hD hS => ?_)
    refine lv_pop hx hb dX8_mate_27 rfl ?_
    refine lv_aload_n hx hb dX8_mate_28 rfl (lv_at hl 0 rfl) ?_
    refine va_get (D := D) (ci := 8) (v := .ref (o_t 35)) (C := RX8) (T := TX8) (N := 36) hx hb hts k1 hown hK hP 0 rfl rfl 34 (by decide) k3 (fun _ h9 => h9) rfl dX8_mate_29 ?_
    refine lv_iload_n hx hb dX8_mate_32 rfl (lv_at hl 1 rfl) ?_
    obtain ⟨v33, b33, ev33, hf⟩ := rd_s hf
    refine my_iald hx hb hK hP 5 rfl b33 ev33 dX8_mate_33 ?_
    obtain rfl := Option.some.inj hf
    exact hR _ _ _ _ hP hD hS dX8_mate_34
  · have hf := ifp c18 hf
    refine lv_iconst (v := (-1 : Int32)) hx hb dX8_mate_21 (by decide) ?_
    obtain rfl := Option.some.inj hf
    exact hR _ _ _ _ hP hD hS dX8_mate_22
theorem hd_X8_mate : yX8_mate.cls ≠ "java/lang/invoke/MethodHandle" ∧ yX8_mate.cls ≠ "java/lang/invoke/VarHandle" ∧ (parseMethodDescriptor yX8_mate.desc).map (fun d => d.parameters.length) = some 1 := by decide +kernel
set_option maxRecDepth 100000 in
theorem c_X8_mate (l : Launch) (D : va_G) (cy : Nat → ClassId) (t : Nat → Nat) (o_t : Nat → Nat) (x_thrown : Int32) (x_delay : Int32) (x_feel : Int32) (x_turn : Int32) (x_sight : Int32) (x_ball : Int32) (x_w : Int32) (x_h : Int32) (x_n : Int32) (x_players : Int32) (x_skill : Nat → Int32) (x_shore : Nat → Int32) (x_fars : Nat → Int32) (x_least : Nat → Int32) (x_mates : Nat → Int32) (p1 : Int32) {out : Int32 × Int32 × (Nat → Int32) × (Nat → Int32)} (hf : X8_mate x_players x_skill x_shore x_fars x_thrown x_least x_mates p1 = some out) : ctI l yX8_mate wsX8_mate 3 68 D cy t [.ref (o_t 0), .int p1] (wd_X8_mate cy o_t x_thrown x_delay x_feel x_turn x_sight x_ball x_w x_h x_n x_players x_skill x_shore x_fars x_least x_mates) (wd_X8_mate cy o_t out.2.1 x_delay x_feel x_turn x_sight x_ball x_w x_h x_n x_players x_skill x_shore x_fars out.2.2.1 out.2.2.2) out.1 := by
  refine ⟨rfl, ?_⟩
  intro sz
  refine Met.ofW (cc := cX8_mate) (maxL := 2) (ret := (some .int)) (by decide) rfl ?_
  intro p e s m args below meth c s₁ B hml hv
  obtain ⟨rfl, hsz, hP, hK, hD0, hE⟩ := hv
  have hts := atoms_spec (ws := wsX8_mate) B.pre
  have hown : s.vm.findClass RX8 = some m.cls := findClass_of_methodNamed B.named
  have hlocks := B.notSynchronized
  subst hsz
  have hD := hD0.self (sz := s.heap.size)
  have hl := lv_entry ([.ref (o_t 0), .int p1]) (n := 2) (Nat.le_of_ble_eq_true rfl)
  rw [lg_entry_eq]
  generalize (lg_sl ([.ref (o_t 0), .int p1]) ++ List.replicate (2 - (lg_sl ([.ref (o_t 0), .int p1])).length) Slot.unset).toArray = ls at hl ⊢
  exact w_X8_mate D cy t o_t x_thrown x_delay x_feel x_turn x_sight x_ball x_w x_h x_n x_players x_skill x_shore x_fars x_least x_mates p1 hf B.exec B.bytes hml hown hts hK hE (fun q h => Or.inr h) hP hD va_S.rf hl (fun H locs ls pc hP hD hS hdg => W.iret B.exec B.bytes B.returns (fun t ht hW => ⟨⟨_, (), rfl, rfl, ctB_of ht hP⟩, hS.F ht⟩) hS.2.2 hdg)

noncomputable def X8_odds_J61 (x_ways : Nat → Int64) (x_thrown : Int32) : Option (Int64 × Int32) :=
  some ((-2 : Int64), x_thrown)
noncomputable def X8_odds_J196 (x_ways : Nat → Int64) (x_thrown : Int32) (l5 : Int32) (l6 : Int64) (l8 : Int64) (l10 : Int64) : Option (Int64 × Int32) :=
  if l5 = (0 : Int32) then (dvL l10 <| some ((l8 / l10), x_thrown)) else (dvL l10 <| some ((l6 / l10), x_thrown))
noncomputable def X8_odds_L171_B (x_ways : Nat → Int64) (rec171 : Int32 → Int32 → Int64 → Int64 → Int64 → Int64 → Option (Int64 × Int32)) (x_thrown : Int32) (l5 : Int32) (l6 : Int64) (l8 : Int64) (l10 : Int64) (l12 : Int64) : Option (Int64 × Int32) :=
  if (lg_cmp l12 (0 : Int64)) = (0 : Int32) then (X8_odds_J196 x_ways  x_thrown l5 l6 l8 l10) else (dvL l12 <| nm (l10 - l10 / l12 * l12) fun v183 => rec171 x_thrown l5 l6 l8 l12 v183)
noncomputable def X8_odds_L171 (x_ways : Nat → Int64) : Nat → Int32 → Int32 → Int64 → Int64 → Int64 → Int64 → Option (Int64 × Int32)
  | 0, _, _, _, _, _, _ => none
  | n + 1, y0, y1, y2, y3, y4, y5 => X8_odds_L171_B x_ways  (X8_odds_L171 x_ways  n) y0 y1 y2 y3 y4 y5
noncomputable def X8_odds_J150 (x_ways : Nat → Int64) (x_thrown : Int32) (l1 : Int32) (l2 : Int32) (l5 : Int32) (l6 : Int64) : Option (Int64 × Int32) :=
  rd x_ways 3721 (((61 : Int32) * l1) + l2) fun v160 => X8_odds_L171 x_ways  FU x_thrown l5 l6 v160 l6 v160
noncomputable def X8_odds_J141 (x_ways : Nat → Int64) (rec72 : Int32 → Int32 → Int32 → Int32 → Int32 → Int64 → Int32 → Option (Int64 × Int32)) (x_thrown : Int32) (l1 : Int32) (l2 : Int32) (l3 : Int32) (l5 : Int32) (l8 : Int32) (s0 : Int64) (s1 : Int64) : Option (Int64 × Int32) :=
  nm (s0 + s1) fun v142 => nm (l8 + (1 : Int32)) fun v144 => rec72 x_thrown l1 l2 l3 l5 v142 v144
noncomputable def X8_odds_J99 (x_ways : Nat → Int64) (rec72 : Int32 → Int32 → Int32 → Int32 → Int32 → Int64 → Int32 → Option (Int64 × Int32)) (x_thrown : Int32) (l1 : Int32) (l2 : Int32) (l3 : Int32) (l5 : Int32) (l6 : Int64) (l8 : Int32) (s0 : Int32) : Option (Int64 × Int32) :=
  if s0 = (0 : Int32) then (X8_odds_J141 x_ways rec72 x_thrown l1 l2 l3 l5 l8 l6 (0 : Int64)) else (rd x_ways 3721 (((61 : Int32) * l3) + l8) fun v119 => rd x_ways 3721 ((((61 : Int32) * (l1 - l3)) + l2) - l8) fun v135 => X8_odds_J141 x_ways rec72 x_thrown l1 l2 l3 l5 l8 l6 (v119 * v135))
noncomputable def X8_odds_L72_B (x_ways : Nat → Int64) (rec72 : Int32 → Int32 → Int32 → Int32 → Int32 → Int64 → Int32 → Option (Int64 × Int32)) (x_thrown : Int32) (l1 : Int32) (l2 : Int32) (l3 : Int32) (l5 : Int32) (l6 : Int64) (l8 : Int32) : Option (Int64 × Int32) :=
  if l2 < l8 then (X8_odds_J150 x_ways  x_thrown l1 l2 l5 l6) else (if l3 < l8 then (X8_odds_J150 x_ways  x_thrown l1 l2 l5 l6) else (if (l1 - l3) < (l2 - l8) then (X8_odds_J99 x_ways rec72 x_thrown l1 l2 l3 l5 l6 l8 (0 : Int32)) else (X8_odds_J99 x_ways rec72 x_thrown l1 l2 l3 l5 l6 l8 (1 : Int32))))
noncomputable def X8_odds_L72 (x_ways : Nat → Int64) : Nat → Int32 → Int32 → Int32 → Int32 → Int32 → Int64 → Int32 → Option (Int64 × Int32)
  | 0, _, _, _, _, _, _, _ => none
  | n + 1, y0, y1, y2, y3, y4, y5, y6 => X8_odds_L72_B x_ways  (X8_odds_L72 x_ways  n) y0 y1 y2 y3 y4 y5 y6
noncomputable def X8_odds_J55 (x_ways : Nat → Int64) (x_thrown : Int32) (l1 : Int32) (l2 : Int32) (l3 : Int32) (l4 : Int32) (l5 : Int32) (s0 : Int64) (s1 : Int64) (s2 : Int64) : Option (Int64 × Int32) :=
  bd (X8_in s0 s1 s2) fun r55 => if r55 = (0 : Int32) then (X8_odds_J61 x_ways  x_thrown ) else (X8_odds_L72 x_ways  FU x_thrown l1 l2 l3 l5 (0 : Int64) l4)
noncomputable def X8_odds (x_ways : Nat → Int64) (x_thrown : Int32) (p1 : Int32) (p2 : Int32) (p3 : Int32) (p4 : Int32) (p5 : Int32) : Option (Int64 × Int32) :=
  bd (X8_in (Int32.toInt64 p1) (1 : Int64) (60 : Int64)) fun r11 => if r11 = (0 : Int32) then (X8_odds_J61 x_ways  (0 : Int32) ) else (bd (X8_in (Int32.toInt64 p2) (0 : Int64) (Int32.toInt64 p1)) fun r22 => if r22 = (0 : Int32) then (X8_odds_J61 x_ways  (0 : Int32) ) else (bd (X8_in (Int32.toInt64 p3) (0 : Int64) (Int32.toInt64 p1)) fun r33 => if r33 = (0 : Int32) then (X8_odds_J61 x_ways  (0 : Int32) ) else (if p3 ≤ p2 then (X8_odds_J55 x_ways  (0 : Int32) p1 p2 p3 p4 p5 (Int32.toInt64 p4) (0 : Int64) (Int32.toInt64 p3)) else (X8_odds_J55 x_ways  (0 : Int32) p1 p2 p3 p4 p5 (Int32.toInt64 p4) (0 : Int64) (Int32.toInt64 p2)))))
abbrev wd_X8_odds (cy : Nat → ClassId) (o_t : Nat → Nat) (x_thrown : Int32) (x_delay : Int32) (x_feel : Int32) (x_turn : Int32) (x_sight : Int32) (x_ball : Int32) (x_w : Int32) (x_h : Int32) (x_n : Int32) (x_players : Int32) (x_ways : Nat → Int64) : va_W := [(o_t 0, .inr (8, [.int x_thrown, .ref (o_t 2), .ref (o_t 3), .ref (o_t 4), .ref (o_t 5), .ref (o_t 6), .ref (o_t 7), .ref (o_t 8), .ref (o_t 9), .ref (o_t 10), .ref (o_t 11), .int x_delay, .int x_feel, .int x_turn, .int x_sight, .ref (o_t 16), .ref (o_t 17), .ref (o_t 18), .ref (o_t 19), .int x_ball, .int x_w, .int x_h, .int x_n, .ref (o_t 24), .ref (o_t 25), .ref (o_t 26), .ref (o_t 27), .ref (o_t 28), .ref (o_t 29), .int x_players, .ref (o_t 31), .ref (o_t 32), .ref (o_t 33), .ref (o_t 34), .ref (o_t 35), .ref (o_t 36)])), (o_t 36, .inl (cy 2, 3721, .inr (.inl x_ways)))]
set_option maxHeartbeats 4000000 in
set_option maxRecDepth 100000 in
theorem w_X8_odds {p : Program} {l : Launch} {e : Env} {s : State} {m : MethodId} {args : Array Value} {below : List Frame} {meth : Method} {c : Code} {Q : State → Prop} {A : Nat → Prop} {H : Heap} {locs : List Loc} {ls : Array Slot} (D : va_G) (cy : Nat → ClassId) (t : Nat → Nat) (o_t : Nat → Nat) (x_thrown : Int32) (x_delay : Int32) (x_feel : Int32) (x_turn : Int32) (x_sight : Int32) (x_ball : Int32) (x_w : Int32) (x_h : Int32) (x_n : Int32) (x_players : Int32) (x_ways : Nat → Int64) (p1 : Int32) (p2 : Int32) (p3 : Int32) (p4 : Int32) (p5 : Int32) {out : Int64 × Int32} (hf : X8_odds x_ways x_thrown p1 p2 p3 p4 p5 = some out) (hx : p.tables.exec = Jvm.exec) (hb : c.code = cX8_odds) (hml : c.maxLocals = 16) (hown : s.vm.findClass RX8 = some m.cls) (hts : ∀ w ∈ wsX8_odds, w.before args s = true) (hK : va_K D vwCl (TYS cy) s) (hE : EV t A s s.heap) (hA : ∀ q, s.heap.size ≤ q → A q) (hP : va_P D vwCl (wd_X8_odds cy o_t x_thrown x_delay x_feel x_turn x_sight x_ball x_w x_h x_n x_players x_ways) H) (hD : va_D A (wd_X8_odds cy o_t x_thrown x_delay x_feel x_turn x_sight x_ball x_w x_h x_n x_players x_ways)) (hS : va_S A s.heap H locs) (hl : lv_has ls 16 [(0, .ref (o_t 0)), (1, .int p1), (2, .int p2), (3, .int p3), (4, .int p4), (5, .int p5)]) (hR : ∀ (H : Heap) (locs : List Loc) (ls : Array Slot) (pc : Nat), va_P D vwCl (wd_X8_odds cy o_t out.2 x_delay x_feel x_turn x_sight x_ball x_w x_h x_n x_players x_ways) H → va_D A (wd_X8_odds cy o_t out.2 x_delay x_feel x_turn x_sight x_ball x_w x_h x_n x_players x_ways) → va_S A s.heap H locs → decode cX8_odds pc = .ok (.lreturn, 1) → W p l e (rmm 1 25) s m args below meth c H locs 0 0 Q (F0 m pc ls [.long out.1])) : W p l e (rmm 1 25) s m args below meth c H locs 0 0 Q (F0 m 0 ls []) := by
  have k0 := hts (.fieldLink RX8 100 "SeaGamesModel" "thrown" "I") (List.mem_cons_of_mem _ (List.mem_append_left _ (List.mem_of_getElem? (i := 0) rfl)))
  have k1 : ∀ w ∈ u_ws RX8 TX8 36, w ∈ wsX8_odds := fun _ h => List.mem_cons_of_mem _ (List.mem_append_right _ h)
  have k2 := hts (.constantLong RX8 244 (60)) (List.mem_cons_of_mem _ (List.mem_append_left _ (List.mem_of_getElem? (i := 1) rfl)))
  have k3 := hts (.constantLong RX8 246 (-2)) (List.mem_cons_of_mem _ (List.mem_append_left _ (List.mem_of_getElem? (i := 2) rfl)))
  have k4 := hts (.fieldLink RX8 96 "SeaGamesModel" "ways" "[J") (List.mem_cons_of_mem _ (List.mem_append_left _ (List.mem_of_getElem? (i := 3) rfl)))
  rw [X8_odds] at hf
  have h61 : ∀ (x_thrown : Int32) (H : Heap) (locs : List Loc) (ls : Array Slot), X8_odds_J61 x_ways x_thrown = some out → va_P D vwCl (wd_X8_odds cy o_t x_thrown x_delay x_feel x_turn x_sight x_ball x_w x_h x_n x_players x_ways) H → va_D A (wd_X8_odds cy o_t x_thrown x_delay x_feel x_turn x_sight x_ball x_w x_h x_n x_players x_ways) → va_S A s.heap H locs → lv_has ls 16 [] → W p l e (rmm 1 25) s m args below meth c H locs 0 0 Q (F0 m 61 ls []) := by
    intro x_thrown H locs ls hf hP hD hS hl
    rw [X8_odds_J61] at hf
    refine lv_ldc2 (v := (-2 : Int64)) hx hb hown k3 dX8_odds_61 ?_
    obtain rfl := Option.some.inj hf
    exact hR _ _ _ _ hP hD hS dX8_odds_64
  refine lv_aload_n hx hb dX8_odds_0 rfl (lv_at hl 0 rfl) ?_
  refine lv_iconst (v := (0 : Int32)) hx hb dX8_odds_1 (by decide) ?_
  refine va_put (D := D) (ci := 8) (v := .int (0 : Int32)) (ty := .int) (C := RX8) (T := TX8) (N := 36) hx hb hts k1 tyX8 tyX8_ok nmX8 hown hK hP hD hS 0 rfl rfl 0 (by decide) k0 (fun _ h9 => h9) rfl (by decide +kernel) rfl rfl (Nat.le_of_ble_eq_true rfl) dX8_odds_2 (fun H locs hP hD hS => ?_)
  have hP : va_P D vwCl (wd_X8_odds cy o_t (0 : Int32) x_delay x_feel x_turn x_sight x_ball x_w x_h x_n x_players x_ways) H := hP
  have hD : va_D A (wd_X8_odds cy o_t (0 : Int32) x_delay x_feel x_turn x_sight x_ball x_w x_h x_n x_players x_ways) := hD
  refine lv_iload_n hx hb dX8_odds_5 rfl (lv_at hl 1 rfl) ?_
  refine lv_i2l (v := (Int32.toInt64 p1)) hx hb dX8_odds_6 rfl ?_
  refine lv_lconst (v := (1 : Int64)) hx hb dX8_odds_7 (by decide) ?_
  refine lv_ldc2 (v := (60 : Int64)) hx hb hown k2 dX8_odds_8 ?_
  obtain ⟨r11, hr11, hf⟩ := bd_s hf
  refine my_Si (WS2 := (wd_X8_odds cy o_t (0 : Int32) x_delay x_feel x_turn x_sight x_ball x_w x_h x_n x_players x_ways)) ⟨hx, hb, hml, hown, hts⟩ (c_X8_in l D cy t (Int32.toInt64 p1) (1 : Int64) (60 : Int64) hr11) (va_cwS 3 hts gX8_odds_X8_in rfl rfl rfl hd_X8_in ⟨Nat.le_of_ble_eq_true rfl, Nat.le_of_ble_eq_true rfl⟩) hK hE hP hD hS hA [] 2 rfl rfl (by decide +kernel) rfl rfl hl.1 rfl (Nat.le_of_ble_eq_true rfl) dX8_odds_11 ⟨Nat.le_of_ble_eq_true rfl, Nat.le_of_ble_eq_true rfl⟩ (fun H locs hP hD hS => ?_)
  refine lv_if_eq (tgt := 61) hx hb dX8_odds_14 (by decide) (fun c14 => ?_) (fun c14 => ?_)
  · have hf := ifp c14 hf
    exact h61 _ _ _ _ hf hP hD hS (lv_sub hl [] rfl)
  · have hf := ifn c14 hf
    refine lv_iload_n hx hb dX8_odds_17 rfl (lv_at hl 2 rfl) ?_
    refine lv_i2l (v := (Int32.toInt64 p2)) hx hb dX8_odds_18 rfl ?_
    refine lv_lconst (v := (0 : Int64)) hx hb dX8_odds_19 (by decide) ?_
    refine lv_iload_n hx hb dX8_odds_20 rfl (lv_at hl 1 rfl) ?_
    refine lv_i2l (v := (Int32.toInt64 p1)) hx hb dX8_odds_21 rfl ?_
    obtain ⟨r22, hr22, hf⟩ := bd_s hf
    refine my_Si (WS2 := (wd_X8_odds cy o_t (0 : Int32) x_delay x_feel x_turn x_sight x_ball x_w x_h x_n x_players x_ways)) ⟨hx, hb, hml, hown, hts⟩ (c_X8_in l D cy t (Int32.toInt64 p2) (0 : Int64) (Int32.toInt64 p1) hr22) (va_cwS 3 hts gX8_odds_X8_in rfl rfl rfl hd_X8_in ⟨Nat.le_of_ble_eq_true rfl, Nat.le_of_ble_eq_true rfl⟩) hK hE hP hD hS hA [] 2 rfl rfl (by decide +kernel) rfl rfl hl.1 rfl (Nat.le_of_ble_eq_true rfl) dX8_odds_22 ⟨Nat.le_of_ble_eq_true rfl, Nat.le_of_ble_eq_true rfl⟩ (fun H locs hP hD hS => ?_)
    refine lv_if_eq (tgt := 61) hx hb dX8_odds_25 (by decide) (fun c25 => ?_) (fun c25 => ?_)
    · have hf := ifp c25 hf
      exact h61 _ _ _ _ hf hP hD hS (lv_sub hl [] rfl)
    · have hf := ifn c25 hf
      refine lv_iload_n hx hb dX8_odds_28 rfl (lv_at hl 3 rfl) ?_
      refine lv_i2l (v := (Int32.toInt64 p3)) hx hb dX8_odds_29 rfl ?_
      refine lv_lconst (v := (0 : Int64)) hx hb dX8_odds_30 (by decide) ?_
      refine lv_iload_n hx hb dX8_odds_31 rfl (lv_at hl 1 rfl) ?_
      refine lv_i2l (v := (Int32.toInt64 p1)) hx hb dX8_odds_32 rfl ?_
      obtain ⟨r33, hr33, hf⟩ := bd_s hf
      refine my_Si (WS2 := (wd_X8_odds cy o_t (0 : Int32) x_delay x_feel x_turn x_sight x_ball x_w x_h x_n x_players x_ways)) ⟨hx, hb, hml, hown, hts⟩ (c_X8_in l D cy t (Int32.toInt64 p3) (0 : Int64) (Int32.toInt64 p1) hr33) (va_cwS 3 hts gX8_odds_X8_in rfl rfl rfl hd_X8_in ⟨Nat.le_of_ble_eq_true rfl, Nat.le_of_ble_eq_true rfl⟩) hK hE hP hD hS hA [] 2 rfl rfl (by decide +kernel) rfl rfl hl.1 rfl (Nat.le_of_ble_eq_true rfl) dX8_odds_33 ⟨Nat.le_of_ble_eq_true rfl, Nat.le_of_ble_eq_true rfl⟩ (fun H locs hP hD hS => ?_)
      refine lv_if_eq (tgt := 61) hx hb dX8_odds_36 (by decide) (fun c36 => ?_) (fun c36 => ?_)
      · have hf := ifp c36 hf
        exact h61 _ _ _ _ hf hP hD hS (lv_sub hl [] rfl)
      · have hf := ifn c36 hf
        have h55 : ∀ (x_thrown : Int32) (l1 : Int32) (l2 : Int32) (l3 : Int32) (l4 : Int32) (l5 : Int32) (s0 : Int64) (s1 : Int64) (s2 : Int64) (H : Heap) (locs : List Loc) (ls : Array Slot), X8_odds_J55 x_ways x_thrown l1 l2 l3 l4 l5 s0 s1 s2 = some out → va_P D vwCl (wd_X8_odds cy o_t x_thrown x_delay x_feel x_turn x_sight x_ball x_w x_h x_n x_players x_ways) H → va_D A (wd_X8_odds cy o_t x_thrown x_delay x_feel x_turn x_sight x_ball x_w x_h x_n x_players x_ways) → va_S A s.heap H locs → lv_has ls 16 [(0, .ref (o_t 0)), (1, .int l1), (2, .int l2), (3, .int l3), (4, .int l4), (5, .int l5)] → W p l e (rmm 1 25) s m args below meth c H locs 0 0 Q (F0 m 55 ls [.long s2, .long s1, .long s0]) := by
          intro x_thrown l1 l2 l3 l4 l5 s0 s1 s2 H locs ls hf hP hD hS hl
          rw [X8_odds_J55] at hf
          obtain ⟨r55, hr55, hf⟩ := bd_s hf
          refine my_Si (WS2 := (wd_X8_odds cy o_t x_thrown x_delay x_feel x_turn x_sight x_ball x_w x_h x_n x_players x_ways)) ⟨hx, hb, hml, hown, hts⟩ (c_X8_in l D cy t s0 s1 s2 hr55) (va_cwS 3 hts gX8_odds_X8_in rfl rfl rfl hd_X8_in ⟨Nat.le_of_ble_eq_true rfl, Nat.le_of_ble_eq_true rfl⟩) hK hE hP hD hS hA [] 2 rfl rfl (by decide +kernel) rfl rfl hl.1 rfl (Nat.le_of_ble_eq_true rfl) dX8_odds_55 ⟨Nat.le_of_ble_eq_true rfl, Nat.le_of_ble_eq_true rfl⟩ (fun H locs hP hD hS => ?_)
          refine lv_if_ne (tgt := 65) hx hb dX8_odds_58 (by decide) (fun c58 => ?_) (fun c58 => ?_)
          · have hf := ifn c58 hf
            have h72 : ∀ (n72 : Nat) (x_thrown : Int32) (l1 : Int32) (l2 : Int32) (l3 : Int32) (l5 : Int32) (l6 : Int64) (l8 : Int32) (H : Heap) (locs : List Loc) (ls : Array Slot), X8_odds_L72 x_ways n72 x_thrown l1 l2 l3 l5 l6 l8 = some out → va_P D vwCl (wd_X8_odds cy o_t x_thrown x_delay x_feel x_turn x_sight x_ball x_w x_h x_n x_players x_ways) H → va_D A (wd_X8_odds cy o_t x_thrown x_delay x_feel x_turn x_sight x_ball x_w x_h x_n x_players x_ways) → va_S A s.heap H locs → lv_has ls 16 [(0, .ref (o_t 0)), (1, .int l1), (2, .int l2), (3, .int l3), (5, .int l5), (6, .long l6), (8, .int l8)] → W p l e (rmm 1 25) s m args below meth c H locs 0 0 Q (F0 m 72 ls []) := by
              intro n72
              induction n72 with
              | zero =>
                intro _ _ _ _ _ _ _ _ _ _ hf
                exact nomatch (show (none : Option _) = some out from hf)
              | succ n72 ih72 =>
                intro x_thrown l1 l2 l3 l5 l6 l8 H locs ls hf hP hD hS hl
                have hf : X8_odds_L72_B x_ways (X8_odds_L72 x_ways n72) x_thrown l1 l2 l3 l5 l6 l8 = some out := hf
                rw [X8_odds_L72_B] at hf
                have h150 : ∀ (x_thrown : Int32) (l1 : Int32) (l2 : Int32) (l5 : Int32) (l6 : Int64) (H : Heap) (locs : List Loc) (ls : Array Slot), X8_odds_J150 x_ways x_thrown l1 l2 l5 l6 = some out → va_P D vwCl (wd_X8_odds cy o_t x_thrown x_delay x_feel x_turn x_sight x_ball x_w x_h x_n x_players x_ways) H → va_D A (wd_X8_odds cy o_t x_thrown x_delay x_feel x_turn x_sight x_ball x_w x_h x_n x_players x_ways) → va_S A s.heap H locs → lv_has ls 16 [(0, .ref (o_t 0)), (1, .int l1), (2, .int l2), (5, .int l5), (6, .long l6)] → W p l e (rmm 1 25) s m args below meth c H locs 0 0 Q (F0 m 150 ls []) := by
                  intro x_thrown l1 l2 l5 l6 H locs ls hf hP hD hS hl
                  rw [X8_odds_J150] at hf
                  have h171 : ∀ (n171 : Nat) (x_thrown : Int32) (l5 : Int32) (l6 : Int64) (l8 : Int64) (l10 : Int64) (l12 : Int64) (H : Heap) (locs : List Loc) (ls : Array Slot), X8_odds_L171 x_ways n171 x_thrown l5 l6 l8 l10 l12 = some out → va_P D vwCl (wd_X8_odds cy o_t x_thrown x_delay x_feel x_turn x_sight x_ball x_w x_h x_n x_players x_ways) H → va_D A (wd_X8_odds cy o_t x_thrown x_delay x_feel x_turn x_sight x_ball x_w x_h x_n x_players x_ways) → va_S A s.heap H locs → lv_has ls 16 [(5, .int l5), (6, .long l6), (8, .long l8), (10, .long l10), (12, .long l12)] → W p l e (rmm 1 25) s m args below meth c H locs 0 0 Q (F0 m 171 ls []) := by
                    intro n171
                    induction n171 with
                    | zero =>
                      intro _ _ _ _ _ _ _ _ _ hf
                      exact nomatch (show (none : Option _) = some out from hf)
                    | succ n171 ih171 =>
                      intro x_thrown l5 l6 l8 l10 l12 H locs ls hf hP hD hS hl
                      have hf : X8_odds_L171_B x_ways (X8_odds_L171 x_ways n171) x_thrown l5 l6 l8 l10 l12 = some out := hf
                      rw [X8_odds_L171_B] at hf
                      have h196 : ∀ (x_thrown : Int32) (l5 : Int32) (l6 : Int64) (l8 : Int64) (l10 : Int64) (H : Heap) (locs : List Loc) (ls : Array Slot), X8_odds_J196 x_ways x_thrown l5 l6 l8 l10 = some out → va_P D vwCl (wd_X8_odds cy o_t x_thrown x_delay x_feel x_turn x_sight x_ball x_w x_h x_n x_players x_ways) H → va_D A (wd_X8_odds cy o_t x_thrown x_delay x_feel x_turn x_sight x_ball x_w x_h x_n x_players x_ways) → va_S A s.heap H locs → lv_has ls 16 [(5, .int l5), (6, .long l6), (8, .long l8), (10, .long l10)] → W p l e (rmm 1 25) s m args below meth c H locs 0 0 Q (F0 m 196 ls []) := by
                        intro x_thrown l5 l6 l8 l10 H locs ls hf hP hD hS hl
                        rw [X8_odds_J196] at hf
                        refine lv_iload hx hb dX8_odds_196 (lv_at hl 0 rfl) ?_
                        refine lv_if_eq (tgt := 209) hx hb dX8_odds_198 (by decide) (fun c198 => ?_) (fun c198 => ?_)
                        · have hf := ifp c198 hf
                          refine lv_lload hx hb dX8_odds_209 (lv_at hl 2 rfl) ?_
                          refine lv_lload hx hb dX8_odds_211 (lv_at hl 3 rfl) ?_
                          obtain ⟨z213, hf⟩ := dvL_s hf
                          refine lv_ldiv hx hb dX8_odds_213 z213 ?_
                          obtain rfl := Option.some.inj hf
                          exact hR _ _ _ _ hP hD hS dX8_odds_214
                        · have hf := ifn c198 hf
                          refine lv_lload hx hb dX8_odds_201 (lv_at hl 1 rfl) ?_
                          refine lv_lload hx hb dX8_odds_203 (lv_at hl 3 rfl) ?_
                          obtain ⟨z205, hf⟩ := dvL_s hf
                          refine lv_ldiv hx hb dX8_odds_205 z205 ?_
                          refine lv_goto (tgt := 214) hx hb dX8_odds_206 (by decide) ?_
                          obtain rfl := Option.some.inj hf
                          exact hR _ _ _ _ hP hD hS dX8_odds_214
                      refine lv_lload hx hb dX8_odds_171 (lv_at hl 4 rfl) ?_
                      refine lv_lconst (v := (0 : Int64)) hx hb dX8_odds_173 (by decide) ?_
                      refine W.lcmp hx hb dX8_odds_174 ?_
                      refine lv_if_eq (tgt := 196) hx hb dX8_odds_175 (by decide) (fun c175 => ?_) (fun c175 => ?_)
                      · have hf := ifp c175 hf
                        exact h196 _ _ _ _ _ _ _ _ hf hP hD hS (lv_sub hl [0, 1, 2, 3] rfl)
                      · have hf := ifn c175 hf
                        refine lv_lload hx hb dX8_odds_178 (lv_at hl 3 rfl) ?_
                        refine lv_lload hx hb dX8_odds_180 (lv_at hl 4 rfl) ?_
                        obtain ⟨z182, hf⟩ := dvL_s hf
                        refine lv_lrem hx hb dX8_odds_182 z182 ?_
                        obtain ⟨v183, ev183, hf⟩ := nm_s hf
                        refine my_topl ev183 ?_
                        refine lv_lstore (lv' := [(14, .long v183), (5, .int l5), (6, .long l6), (8, .long l8), (10, .long l10), (12, .long l12)]) hx hb dX8_odds_183 hl (by decide) rfl (fun ls hl => ?_)
                        refine lv_lload hx hb dX8_odds_185 (lv_at hl 5 rfl) ?_
                        refine lv_lstore (lv' := [(10, .long l12), (14, .long v183), (5, .int l5), (6, .long l6), (8, .long l8), (12, .long l12)]) hx hb dX8_odds_187 hl (by decide) rfl (fun ls hl => ?_)
                        refine lv_lload hx hb dX8_odds_189 (lv_at hl 1 rfl) ?_
                        refine lv_lstore (lv' := [(12, .long v183), (10, .long l12), (14, .long v183), (5, .int l5), (6, .long l6), (8, .long l8)]) hx hb dX8_odds_191 hl (by decide) rfl (fun ls hl => ?_)
                        refine lv_goto (tgt := 171) hx hb dX8_odds_193 (by decide) ?_
                        exact ih171 _ _ _ _ _ _ _ _ _ hf hP hD hS (lv_sub hl [3, 4, 5, 1, 0] rfl)
                  refine lv_aload_n hx hb dX8_odds_150 rfl (lv_at hl 0 rfl) ?_
                  refine va_get (D := D) (ci := 8) (v := .ref (o_t 36)) (C := RX8) (T := TX8) (N := 36) hx hb hts k1 hown hK hP 0 rfl rfl 35 (by decide) k4 (fun _ h9 => h9) rfl dX8_odds_151 ?_
                  refine lv_bipush (v := (61 : Int32)) hx hb dX8_odds_154 (by decide) ?_
                  refine lv_iload_n hx hb dX8_odds_156 rfl (lv_at hl 1 rfl) ?_
                  refine lv_imul hx hb dX8_odds_157 ?_
                  refine lv_iload_n hx hb dX8_odds_158 rfl (lv_at hl 2 rfl) ?_
                  refine lv_iadd hx hb dX8_odds_159 ?_
                  obtain ⟨v160, b160, ev160, hf⟩ := rd_s hf
                  refine my_lald hx hb hK hP 1 rfl b160 ev160 dX8_odds_160 ?_
                  refine lv_lstore (lv' := [(8, .long v160), (0, .ref (o_t 0)), (1, .int l1), (2, .int l2), (5, .int l5), (6, .long l6)]) hx hb dX8_odds_161 hl (by decide) rfl (fun ls hl => ?_)
                  refine lv_lload hx hb dX8_odds_163 (lv_at hl 5 rfl) ?_
                  refine lv_lstore (lv' := [(10, .long l6), (8, .long v160), (0, .ref (o_t 0)), (1, .int l1), (2, .int l2), (5, .int l5), (6, .long l6)]) hx hb dX8_odds_165 hl (by decide) rfl (fun ls hl => ?_)
                  refine lv_lload hx hb dX8_odds_167 (lv_at hl 1 rfl) ?_
                  refine lv_lstore (lv' := [(12, .long v160), (10, .long l6), (8, .long v160), (0, .ref (o_t 0)), (1, .int l1), (2, .int l2), (5, .int l5), (6, .long l6)]) hx hb dX8_odds_169 hl (by decide) rfl (fun ls hl => ?_)
                  exact h171 FU _ _ _ _ _ _ _ _ _ hf hP hD hS (lv_sub hl [6, 7, 2, 1, 0] rfl)
                refine lv_iload hx hb dX8_odds_72 (lv_at hl 6 rfl) ?_
                refine lv_iload_n hx hb dX8_odds_74 rfl (lv_at hl 2 rfl) ?_
                refine lv_icmp_gt (tgt := 150) hx hb dX8_odds_75 (by decide) (fun c75 => ?_) (fun c75 => ?_)
                · have hf := ifp c75 hf
                  exact h150 _ _ _ _ _ _ _ _ hf hP hD hS (lv_sub hl [0, 1, 2, 4, 5] rfl)
                · have hf := ifn c75 hf
                  refine lv_iload hx hb dX8_odds_78 (lv_at hl 6 rfl) ?_
                  refine lv_iload_n hx hb dX8_odds_80 rfl (lv_at hl 3 rfl) ?_
                  refine lv_icmp_gt (tgt := 150) hx hb dX8_odds_81 (by decide) (fun c81 => ?_) (fun c81 => ?_)
                  · have hf := ifp c81 hf
                    exact h150 _ _ _ _ _ _ _ _ hf hP hD hS (lv_sub hl [0, 1, 2, 4, 5] rfl)
                  · have hf := ifn c81 hf
                    have h99 : ∀ (x_thrown : Int32) (l1 : Int32) (l2 : Int32) (l3 : Int32) (l5 : Int32) (l6 : Int64) (l8 : Int32) (s0 : Int32) (H : Heap) (locs : List Loc) (ls : Array Slot), X8_odds_J99 x_ways (X8_odds_L72 x_ways n72) x_thrown l1 l2 l3 l5 l6 l8 s0 = some out → va_P D vwCl (wd_X8_odds cy o_t x_thrown x_delay x_feel x_turn x_sight x_ball x_w x_h x_n x_players x_ways) H → va_D A (wd_X8_odds cy o_t x_thrown x_delay x_feel x_turn x_sight x_ball x_w x_h x_n x_players x_ways) → va_S A s.heap H locs → lv_has ls 16 [(0, .ref (o_t 0)), (1, .int l1), (2, .int l2), (3, .int l3), (5, .int l5), (6, .long l6), (8, .int l8)] → W p l e (rmm 1 25) s m args below meth c H locs 0 0 Q (F0 m 99 ls [.int s0]) := by
                      intro x_thrown l1 l2 l3 l5 l6 l8 s0 H locs ls hf hP hD hS hl
                      rw [X8_odds_J99] at hf
                      have h141 : ∀ (x_thrown : Int32) (l1 : Int32) (l2 : Int32) (l3 : Int32) (l5 : Int32) (l8 : Int32) (s0 : Int64) (s1 : Int64) (H : Heap) (locs : List Loc) (ls : Array Slot), X8_odds_J141 x_ways (X8_odds_L72 x_ways n72) x_thrown l1 l2 l3 l5 l8 s0 s1 = some out → va_P D vwCl (wd_X8_odds cy o_t x_thrown x_delay x_feel x_turn x_sight x_ball x_w x_h x_n x_players x_ways) H → va_D A (wd_X8_odds cy o_t x_thrown x_delay x_feel x_turn x_sight x_ball x_w x_h x_n x_players x_ways) → va_S A s.heap H locs → lv_has ls 16 [(0, .ref (o_t 0)), (1, .int l1), (2, .int l2), (3, .int l3), (5, .int l5), (8, .int l8)] → W p l e (rmm 1 25) s m args below meth c H locs 0 0 Q (F0 m 141 ls [.long s1, .long s0]) := by
                        intro x_thrown l1 l2 l3 l5 l8 s0 s1 H locs ls hf hP hD hS hl
                        rw [X8_odds_J141] at hf
                        refine lv_ladd hx hb dX8_odds_141 ?_
                        obtain ⟨v142, ev142, hf⟩ := nm_s hf
                        refine my_topl ev142 ?_
                        refine lv_lstore (lv' := [(6, .long v142), (0, .ref (o_t 0)), (1, .int l1), (2, .int l2), (3, .int l3), (5, .int l5), (8, .int l8)]) hx hb dX8_odds_142 hl (by decide) rfl (fun ls hl => ?_)
                        obtain ⟨v144, ev144, hf⟩ := nm_s hf
                        refine lv_iinc (v := v144) (lv' := [(8, .int v144), (6, .long v142), (0, .ref (o_t 0)), (1, .int l1), (2, .int l2), (3, .int l3), (5, .int l5)]) hx hb dX8_odds_144 hl (k := 6) rfl (by rw [ev144]; rfl) (by decide) rfl (fun ls hl => ?_)
                        refine lv_goto (tgt := 72) hx hb dX8_odds_147 (by decide) ?_
                        exact ih72 _ _ _ _ _ _ _ _ _ _ hf hP hD hS (lv_sub hl [2, 3, 4, 5, 6, 1, 0] rfl)
                      refine lv_istore (lv' := [(9, .int s0), (0, .ref (o_t 0)), (1, .int l1), (2, .int l2), (3, .int l3), (5, .int l5), (6, .long l6), (8, .int l8)]) hx hb dX8_odds_99 hl (by decide) rfl (fun ls hl => ?_)
                      refine lv_lload hx hb dX8_odds_101 (lv_at hl 6 rfl) ?_
                      refine lv_iload hx hb dX8_odds_103 (lv_at hl 0 rfl) ?_
                      refine lv_if_eq (tgt := 140) hx hb dX8_odds_105 (by decide) (fun c105 => ?_) (fun c105 => ?_)
                      · have hf := ifp c105 hf
                        refine lv_lconst (v := (0 : Int64)) hx hb dX8_odds_140 (by decide) ?_
                        exact h141 _ _ _ _ _ _ _ _ _ _ _ hf hP hD hS (lv_sub hl [1, 2, 3, 4, 5, 7] rfl)
                      · have hf := ifn c105 hf
                        refine lv_aload_n hx hb dX8_odds_108 rfl (lv_at hl 1 rfl) ?_
                        refine va_get (D := D) (ci := 8) (v := .ref (o_t 36)) (C := RX8) (T := TX8) (N := 36) hx hb hts k1 hown hK hP 0 rfl rfl 35 (by decide) k4 (fun _ h9 => h9) rfl dX8_odds_109 ?_
                        refine lv_bipush (v := (61 : Int32)) hx hb dX8_odds_112 (by decide) ?_
                        refine lv_iload_n hx hb dX8_odds_114 rfl (lv_at hl 4 rfl) ?_
                        refine lv_imul hx hb dX8_odds_115 ?_
                        refine lv_iload hx hb dX8_odds_116 (lv_at hl 7 rfl) ?_
                        refine lv_iadd hx hb dX8_odds_118 ?_
                        obtain ⟨v119, b119, ev119, hf⟩ := rd_s hf
                        refine my_lald hx hb hK hP 1 rfl b119 ev119 dX8_odds_119 ?_
                        refine lv_aload_n hx hb dX8_odds_120 rfl (lv_at hl 1 rfl) ?_
                        refine va_get (D := D) (ci := 8) (v := .ref (o_t 36)) (C := RX8) (T := TX8) (N := 36) hx hb hts k1 hown hK hP 0 rfl rfl 35 (by decide) k4 (fun _ h9 => h9) rfl dX8_odds_121 ?_
                        refine lv_bipush (v := (61 : Int32)) hx hb dX8_odds_124 (by decide) ?_
                        refine lv_iload_n hx hb dX8_odds_126 rfl (lv_at hl 2 rfl) ?_
                        refine lv_iload_n hx hb dX8_odds_127 rfl (lv_at hl 4 rfl) ?_
                        refine lv_isub hx hb dX8_odds_128 ?_
                        refine lv_imul hx hb dX8_odds_129 ?_
                        refine lv_iload_n hx hb dX8_odds_130 rfl (lv_at hl 3 rfl) ?_
                        refine lv_iadd hx hb dX8_odds_131 ?_
                        refine lv_iload hx hb dX8_odds_132 (lv_at hl 7 rfl) ?_
                        refine lv_isub hx hb dX8_odds_134 ?_
                        obtain ⟨v135, b135, ev135, hf⟩ := rd_s hf
                        refine my_lald hx hb hK hP 1 rfl b135 ev135 dX8_odds_135 ?_
                        refine lv_lmul hx hb dX8_odds_136 ?_
                        refine lv_goto (tgt := 141) hx hb dX8_odds_137 (by decide) ?_
                        exact h141 _ _ _ _ _ _ _ _ _ _ _ hf hP hD hS (lv_sub hl [1, 2, 3, 4, 5, 7] rfl)
                    refine lv_iload_n hx hb dX8_odds_84 rfl (lv_at hl 2 rfl) ?_
                    refine lv_iload hx hb dX8_odds_85 (lv_at hl 6 rfl) ?_
                    refine lv_isub hx hb dX8_odds_87 ?_
                    refine lv_iload_n hx hb dX8_odds_88 rfl (lv_at hl 1 rfl) ?_
                    refine lv_iload_n hx hb dX8_odds_89 rfl (lv_at hl 3 rfl) ?_
                    refine lv_isub hx hb dX8_odds_90 ?_
                    refine lv_icmp_gt (tgt := 98) hx hb dX8_odds_91 (by decide) (fun c91 => ?_) (fun c91 => ?_)
                    · have hf := ifp c91 hf
                      refine lv_iconst (v := (0 : Int32)) hx hb dX8_odds_98 (by decide) ?_
                      exact h99 _ _ _ _ _ _ _ _ _ _ _ hf hP hD hS (lv_sub hl [0, 1, 2, 3, 4, 5, 6] rfl)
                    · have hf := ifn c91 hf
                      refine lv_iconst (v := (1 : Int32)) hx hb dX8_odds_94 (by decide) ?_
                      refine lv_goto (tgt := 99) hx hb dX8_odds_95 (by decide) ?_
                      exact h99 _ _ _ _ _ _ _ _ _ _ _ hf hP hD hS (lv_sub hl [0, 1, 2, 3, 4, 5, 6] rfl)
            refine lv_lconst (v := (0 : Int64)) hx hb dX8_odds_65 (by decide) ?_
            refine lv_lstore (lv' := [(6, .long (0 : Int64)), (0, .ref (o_t 0)), (1, .int l1), (2, .int l2), (3, .int l3), (4, .int l4), (5, .int l5)]) hx hb dX8_odds_66 hl (by decide) rfl (fun ls hl => ?_)
            refine lv_iload hx hb dX8_odds_68 (lv_at hl 5 rfl) ?_
            refine lv_istore (lv' := [(8, .int l4), (6, .long (0 : Int64)), (0, .ref (o_t 0)), (1, .int l1), (2, .int l2), (3, .int l3), (4, .int l4), (5, .int l5)]) hx hb dX8_odds_70 hl (by decide) rfl (fun ls hl => ?_)
            exact h72 FU _ _ _ _ _ _ _ _ _ _ hf hP hD hS (lv_sub hl [2, 3, 4, 5, 7, 1, 0] rfl)
          · have hf := ifp c58 hf
            exact h61 _ _ _ _ hf hP hD hS (lv_sub hl [] rfl)
        refine lv_iload hx hb dX8_odds_39 (lv_at hl 4 rfl) ?_
        refine lv_i2l (v := (Int32.toInt64 p4)) hx hb dX8_odds_41 rfl ?_
        refine lv_lconst (v := (0 : Int64)) hx hb dX8_odds_42 (by decide) ?_
        refine lv_iload_n hx hb dX8_odds_43 rfl (lv_at hl 2 rfl) ?_
        refine lv_iload_n hx hb dX8_odds_44 rfl (lv_at hl 3 rfl) ?_
        refine lv_icmp_ge (tgt := 53) hx hb dX8_odds_45 (by decide) (fun c45 => ?_) (fun c45 => ?_)
        · have hf := ifp c45 hf
          refine lv_iload_n hx hb dX8_odds_53 rfl (lv_at hl 3 rfl) ?_
          refine lv_i2l (v := (Int32.toInt64 p3)) hx hb dX8_odds_54 rfl ?_
          exact h55 _ _ _ _ _ _ _ _ _ _ _ _ hf hP hD hS (lv_sub hl [0, 1, 2, 3, 4, 5] rfl)
        · have hf := ifn c45 hf
          refine lv_iload_n hx hb dX8_odds_48 rfl (lv_at hl 2 rfl) ?_
          refine lv_i2l (v := (Int32.toInt64 p2)) hx hb dX8_odds_49 rfl ?_
          refine lv_goto (tgt := 55) hx hb dX8_odds_50 (by decide) ?_
          exact h55 _ _ _ _ _ _ _ _ _ _ _ _ hf hP hD hS (lv_sub hl [0, 1, 2, 3, 4, 5] rfl)
theorem hd_X8_odds : yX8_odds.cls ≠ "java/lang/invoke/MethodHandle" ∧ yX8_odds.cls ≠ "java/lang/invoke/VarHandle" ∧ (parseMethodDescriptor yX8_odds.desc).map (fun d => d.parameters.length) = some 5 := by decide +kernel
set_option maxRecDepth 100000 in
theorem c_X8_odds (l : Launch) (D : va_G) (cy : Nat → ClassId) (t : Nat → Nat) (o_t : Nat → Nat) (x_thrown : Int32) (x_delay : Int32) (x_feel : Int32) (x_turn : Int32) (x_sight : Int32) (x_ball : Int32) (x_w : Int32) (x_h : Int32) (x_n : Int32) (x_players : Int32) (x_ways : Nat → Int64) (p1 : Int32) (p2 : Int32) (p3 : Int32) (p4 : Int32) (p5 : Int32) {out : Int64 × Int32} (hf : X8_odds x_ways x_thrown p1 p2 p3 p4 p5 = some out) : ctL l yX8_odds wsX8_odds 1 25 D cy t [.ref (o_t 0), .int p1, .int p2, .int p3, .int p4, .int p5] (wd_X8_odds cy o_t x_thrown x_delay x_feel x_turn x_sight x_ball x_w x_h x_n x_players x_ways) (wd_X8_odds cy o_t out.2 x_delay x_feel x_turn x_sight x_ball x_w x_h x_n x_players x_ways) out.1 := by
  refine ⟨rfl, ?_⟩
  intro sz
  refine Met.ofW (cc := cX8_odds) (maxL := 16) (ret := (some .long)) (by decide) rfl ?_
  intro p e s m args below meth c s₁ B hml hv
  obtain ⟨rfl, hsz, hP, hK, hD0, hE⟩ := hv
  have hts := atoms_spec (ws := wsX8_odds) B.pre
  have hown : s.vm.findClass RX8 = some m.cls := findClass_of_methodNamed B.named
  have hlocks := B.notSynchronized
  subst hsz
  have hD := hD0.self (sz := s.heap.size)
  have hl := lv_entry ([.ref (o_t 0), .int p1, .int p2, .int p3, .int p4, .int p5]) (n := 16) (Nat.le_of_ble_eq_true rfl)
  rw [lg_entry_eq]
  generalize (lg_sl ([.ref (o_t 0), .int p1, .int p2, .int p3, .int p4, .int p5]) ++ List.replicate (16 - (lg_sl ([.ref (o_t 0), .int p1, .int p2, .int p3, .int p4, .int p5])).length) Slot.unset).toArray = ls at hl ⊢
  exact w_X8_odds D cy t o_t x_thrown x_delay x_feel x_turn x_sight x_ball x_w x_h x_n x_players x_ways p1 p2 p3 p4 p5 hf B.exec B.bytes hml hown hts hK hE (fun q h => Or.inr h) hP hD va_S.rf hl (fun H locs ls pc hP hD hS hdg => W.lret B.exec B.bytes B.returns (fun t ht hW => ⟨⟨_, (), rfl, rfl, ctB_of ht hP⟩, hS.F ht⟩) hS.2.2 hdg)

noncomputable def X8_noSlot (p0 : Int32) : Option (Int32) :=
  bd (X8_in (Int32.toInt64 p0) (0 : Int64) (3 : Int64)) fun r6 => if r6 = (0 : Int32) then (zb (1 : Int32) <| some (1 : Int32)) else (zb (0 : Int32) <| some (0 : Int32))
abbrev wd_X8_noSlot (cy : Nat → ClassId) : va_W := []
set_option maxHeartbeats 4000000 in
set_option maxRecDepth 100000 in
theorem w_X8_noSlot {p : Program} {l : Launch} {e : Env} {s : State} {m : MethodId} {args : Array Value} {below : List Frame} {meth : Method} {c : Code} {Q : State → Prop} {A : Nat → Prop} {H : Heap} {locs : List Loc} {ls : Array Slot} (D : va_G) (cy : Nat → ClassId) (t : Nat → Nat) (p0 : Int32) {out : Int32} (hf : X8_noSlot p0 = some out) (hx : p.tables.exec = Jvm.exec) (hb : c.code = cX8_noSlot) (hml : c.maxLocals = 1) (hown : s.vm.findClass RX8 = some m.cls) (hts : ∀ w ∈ wsX8_noSlot, w.before args s = true) (hK : va_K D vwCl (TYS cy) s) (hE : EV t A s s.heap) (hA : ∀ q, s.heap.size ≤ q → A q) (hP : va_P D vwCl (wd_X8_noSlot cy) H) (hD : va_D A (wd_X8_noSlot cy)) (hS : va_S A s.heap H locs) (hl : lv_has ls 1 [(0, .int p0)]) (hR : ∀ (H : Heap) (locs : List Loc) (ls : Array Slot) (pc : Nat), va_P D vwCl (wd_X8_noSlot cy) H → va_D A (wd_X8_noSlot cy) → va_S A s.heap H locs → narrow .boolean (.int out) = .int out → decode cX8_noSlot pc = .ok (.ireturn, 1) → W p l e (rmm 1 25) s m args below meth c H locs 0 0 Q (F0 m pc ls [.int out])) : W p l e (rmm 1 25) s m args below meth c H locs 0 0 Q (F0 m 0 ls []) := by
  have k0 := hts (.constantLong RX8 109 (3)) (List.mem_cons_of_mem _ (List.mem_of_getElem? (i := 0) rfl))
  rw [X8_noSlot] at hf
  refine lv_iload_n hx hb dX8_noSlot_0 rfl (lv_at hl 0 rfl) ?_
  refine lv_i2l (v := (Int32.toInt64 p0)) hx hb dX8_noSlot_1 rfl ?_
  refine lv_lconst (v := (0 : Int64)) hx hb dX8_noSlot_2 (by decide) ?_
  refine lv_ldc2 (v := (3 : Int64)) hx hb hown k0 dX8_noSlot_3 ?_
  obtain ⟨r6, hr6, hf⟩ := bd_s hf
  refine my_Si (WS2 := (wd_X8_noSlot cy)) ⟨hx, hb, hml, hown, hts⟩ (c_X8_in l D cy t (Int32.toInt64 p0) (0 : Int64) (3 : Int64) hr6) (va_cwS 3 hts gX8_noSlot_X8_in rfl rfl rfl hd_X8_in ⟨Nat.le_of_ble_eq_true rfl, Nat.le_of_ble_eq_true rfl⟩) hK hE hP hD hS hA [] 0 rfl rfl (by decide +kernel) rfl rfl hl.1 rfl (Nat.le_of_ble_eq_true rfl) dX8_noSlot_6 ⟨Nat.le_of_ble_eq_true rfl, Nat.le_of_ble_eq_true rfl⟩ (fun H locs hP hD hS => ?_)
  refine lv_if_ne (tgt := 16) hx hb dX8_noSlot_9 (by decide) (fun c9 => ?_) (fun c9 => ?_)
  · have hf := ifn c9 hf
    refine lv_iconst (v := (0 : Int32)) hx hb dX8_noSlot_16 (by decide) ?_
    obtain ⟨z17, hf⟩ := zb_s hf
    obtain rfl := Option.some.inj hf
    exact hR _ _ _ _ hP hD hS z17 dX8_noSlot_17
  · have hf := ifp c9 hf
    refine lv_iconst (v := (1 : Int32)) hx hb dX8_noSlot_12 (by decide) ?_
    refine lv_goto (tgt := 17) hx hb dX8_noSlot_13 (by decide) ?_
    obtain ⟨z17, hf⟩ := zb_s hf
    obtain rfl := Option.some.inj hf
    exact hR _ _ _ _ hP hD hS z17 dX8_noSlot_17
theorem hd_X8_noSlot : yX8_noSlot.cls ≠ "java/lang/invoke/MethodHandle" ∧ yX8_noSlot.cls ≠ "java/lang/invoke/VarHandle" ∧ (parseMethodDescriptor yX8_noSlot.desc).map (fun d => d.parameters.length) = some 1 := by decide +kernel
set_option maxRecDepth 100000 in
theorem c_X8_noSlot (l : Launch) (D : va_G) (cy : Nat → ClassId) (t : Nat → Nat) (p0 : Int32) {out : Int32} (hf : X8_noSlot p0 = some out) : ctI l yX8_noSlot wsX8_noSlot 1 25 D cy t [.int p0] (wd_X8_noSlot cy) (wd_X8_noSlot cy) out := by
  refine ⟨rfl, ?_⟩
  intro sz
  refine Met.ofW (cc := cX8_noSlot) (maxL := 1) (ret := (some .boolean)) (by decide) rfl ?_
  intro p e s m args below meth c s₁ B hml hv
  obtain ⟨rfl, hsz, hP, hK, hD0, hE⟩ := hv
  have hts := atoms_spec (ws := wsX8_noSlot) B.pre
  have hown : s.vm.findClass RX8 = some m.cls := findClass_of_methodNamed B.named
  have hlocks := B.notSynchronized
  subst hsz
  have hD := hD0.self (sz := s.heap.size)
  have hl := lv_entry ([.int p0]) (n := 1) (Nat.le_of_ble_eq_true rfl)
  rw [lg_entry_eq]
  generalize (lg_sl ([.int p0]) ++ List.replicate (1 - (lg_sl ([.int p0])).length) Slot.unset).toArray = ls at hl ⊢
  exact w_X8_noSlot D cy t  p0 hf B.exec B.bytes hml hown hts hK hE (fun q h => Or.inr h) hP hD va_S.rf hl (fun H locs ls pc hP hD hS z hdg => W.zret B.exec B.bytes B.returns z (fun t ht hW => ⟨⟨_, (), rfl, rfl, ctB_of ht hP⟩, hS.F ht⟩) hS.2.2 hdg)

noncomputable def X8_copy_L113_B (rec113 : (Nat → Int32) → (Nat → Int32) → (Nat → Int32) → (Nat → Int32) → (Nat → Int32) → (Nat → Int32) → (Nat → Int32) → (Nat → Int32) → (Nat → Int32) → Int32 → Int32 → Int32 → Option ((Nat → Int32) × (Nat → Int32) × (Nat → Int32) × (Nat → Int32) × (Nat → Int32) × (Nat → Int32) × (Nat → Int32) × (Nat → Int32) × (Nat → Int32))) (x_wide : Nat → Int32) (x_tall : Nat → Int32) (x_hands : Nat → Int32) (x_power : Nat → Int32) (x_spin : Nat → Int32) (x_seed : Nat → Int32) (x_pressed : Nat → Int32) (x_leftFrom : Nat → Int32) (x_leftTo : Nat → Int32) (l1 : Int32) (l2 : Int32) (l3 : Int32) : Option ((Nat → Int32) × (Nat → Int32) × (Nat → Int32) × (Nat → Int32) × (Nat → Int32) × (Nat → Int32) × (Nat → Int32) × (Nat → Int32) × (Nat → Int32)) :=
  if (6 : Int32) ≤ l3 then (some (x_wide, x_tall, x_hands, x_power, x_spin, x_seed, x_pressed, x_leftFrom, x_leftTo)) else (rd x_leftFrom 30 (((6 : Int32) * l1) + l3) fun v139 => wrI x_leftFrom 30 (((6 : Int32) * l2) + l3) v139 fun w140 => rd x_leftTo 30 (((6 : Int32) * l1) + l3) fun v161 => wrI x_leftTo 30 (((6 : Int32) * l2) + l3) v161 fun w162 => nm (l3 + (1 : Int32)) fun v163 => rec113 x_wide x_tall x_hands x_power x_spin x_seed x_pressed w140 w162 l1 l2 v163)
noncomputable def X8_copy_L113 : Nat → (Nat → Int32) → (Nat → Int32) → (Nat → Int32) → (Nat → Int32) → (Nat → Int32) → (Nat → Int32) → (Nat → Int32) → (Nat → Int32) → (Nat → Int32) → Int32 → Int32 → Int32 → Option ((Nat → Int32) × (Nat → Int32) × (Nat → Int32) × (Nat → Int32) × (Nat → Int32) × (Nat → Int32) × (Nat → Int32) × (Nat → Int32) × (Nat → Int32))
  | 0, _, _, _, _, _, _, _, _, _, _, _, _ => none
  | n + 1, y0, y1, y2, y3, y4, y5, y6, y7, y8, y9, y10, y11 => X8_copy_L113_B  (X8_copy_L113  n) y0 y1 y2 y3 y4 y5 y6 y7 y8 y9 y10 y11
noncomputable def X8_copy_J111 (x_wide : Nat → Int32) (x_tall : Nat → Int32) (x_hands : Nat → Int32) (x_power : Nat → Int32) (x_spin : Nat → Int32) (x_seed : Nat → Int32) (x_pressed : Nat → Int32) (x_leftFrom : Nat → Int32) (x_leftTo : Nat → Int32) (l1 : Int32) (l2 : Int32) : Option ((Nat → Int32) × (Nat → Int32) × (Nat → Int32) × (Nat → Int32) × (Nat → Int32) × (Nat → Int32) × (Nat → Int32) × (Nat → Int32) × (Nat → Int32)) :=
  X8_copy_L113  FU x_wide x_tall x_hands x_power x_spin x_seed x_pressed x_leftFrom x_leftTo l1 l2 (0 : Int32)
noncomputable def X8_copy_L74_B (rec74 : (Nat → Int32) → (Nat → Int32) → (Nat → Int32) → (Nat → Int32) → (Nat → Int32) → (Nat → Int32) → (Nat → Int32) → (Nat → Int32) → (Nat → Int32) → Int32 → Int32 → Int32 → Option ((Nat → Int32) × (Nat → Int32) × (Nat → Int32) × (Nat → Int32) × (Nat → Int32) × (Nat → Int32) × (Nat → Int32) × (Nat → Int32) × (Nat → Int32))) (x_wide : Nat → Int32) (x_tall : Nat → Int32) (x_hands : Nat → Int32) (x_power : Nat → Int32) (x_spin : Nat → Int32) (x_seed : Nat → Int32) (x_pressed : Nat → Int32) (x_leftFrom : Nat → Int32) (x_leftTo : Nat → Int32) (l1 : Int32) (l2 : Int32) (l3 : Int32) : Option ((Nat → Int32) × (Nat → Int32) × (Nat → Int32) × (Nat → Int32) × (Nat → Int32) × (Nat → Int32) × (Nat → Int32) × (Nat → Int32) × (Nat → Int32)) :=
  if (600 : Int32) ≤ l3 then (X8_copy_J111  x_wide x_tall x_hands x_power x_spin x_seed x_pressed x_leftFrom x_leftTo l1 l2) else (rd x_pressed 3000 (((600 : Int32) * l1) + l3) fun v103 => wrI x_pressed 3000 (((600 : Int32) * l2) + l3) v103 fun w104 => nm (l3 + (1 : Int32)) fun v105 => rec74 x_wide x_tall x_hands x_power x_spin x_seed w104 x_leftFrom x_leftTo l1 l2 v105)
noncomputable def X8_copy_L74 : Nat → (Nat → Int32) → (Nat → Int32) → (Nat → Int32) → (Nat → Int32) → (Nat → Int32) → (Nat → Int32) → (Nat → Int32) → (Nat → Int32) → (Nat → Int32) → Int32 → Int32 → Int32 → Option ((Nat → Int32) × (Nat → Int32) × (Nat → Int32) × (Nat → Int32) × (Nat → Int32) × (Nat → Int32) × (Nat → Int32) × (Nat → Int32) × (Nat → Int32))
  | 0, _, _, _, _, _, _, _, _, _, _, _, _ => none
  | n + 1, y0, y1, y2, y3, y4, y5, y6, y7, y8, y9, y10, y11 => X8_copy_L74_B  (X8_copy_L74  n) y0 y1 y2 y3 y4 y5 y6 y7 y8 y9 y10 y11
noncomputable def X8_copy (x_wide : Nat → Int32) (x_tall : Nat → Int32) (x_hands : Nat → Int32) (x_power : Nat → Int32) (x_spin : Nat → Int32) (x_seed : Nat → Int32) (x_pressed : Nat → Int32) (x_leftFrom : Nat → Int32) (x_leftTo : Nat → Int32) (p1 : Int32) (p2 : Int32) : Option ((Nat → Int32) × (Nat → Int32) × (Nat → Int32) × (Nat → Int32) × (Nat → Int32) × (Nat → Int32) × (Nat → Int32) × (Nat → Int32) × (Nat → Int32)) :=
  rd x_wide 5 p1 fun v10 => wrI x_wide 5 p2 v10 fun w11 => rd x_tall 5 p1 fun v22 => wrI x_tall 5 p2 v22 fun w23 => rd x_hands 5 p1 fun v34 => wrI x_hands 5 p2 v34 fun w35 => rd x_power 5 p1 fun v46 => wrI x_power 5 p2 v46 fun w47 => rd x_spin 5 p1 fun v58 => wrI x_spin 5 p2 v58 fun w59 => rd x_seed 5 p1 fun v70 => wrI x_seed 5 p2 v70 fun w71 => X8_copy_L74  FU w11 w23 w35 w47 w59 w71 x_pressed x_leftFrom x_leftTo p1 p2 (0 : Int32)
abbrev wd_X8_copy (cy : Nat → ClassId) (o_t : Nat → Nat) (x_thrown : Int32) (x_delay : Int32) (x_feel : Int32) (x_turn : Int32) (x_sight : Int32) (x_ball : Int32) (x_w : Int32) (x_h : Int32) (x_n : Int32) (x_players : Int32) (x_wide : Nat → Int32) (x_tall : Nat → Int32) (x_hands : Nat → Int32) (x_power : Nat → Int32) (x_spin : Nat → Int32) (x_seed : Nat → Int32) (x_pressed : Nat → Int32) (x_leftFrom : Nat → Int32) (x_leftTo : Nat → Int32) : va_W := [(o_t 0, .inr (8, [.int x_thrown, .ref (o_t 2), .ref (o_t 3), .ref (o_t 4), .ref (o_t 5), .ref (o_t 6), .ref (o_t 7), .ref (o_t 8), .ref (o_t 9), .ref (o_t 10), .ref (o_t 11), .int x_delay, .int x_feel, .int x_turn, .int x_sight, .ref (o_t 16), .ref (o_t 17), .ref (o_t 18), .ref (o_t 19), .int x_ball, .int x_w, .int x_h, .int x_n, .ref (o_t 24), .ref (o_t 25), .ref (o_t 26), .ref (o_t 27), .ref (o_t 28), .ref (o_t 29), .int x_players, .ref (o_t 31), .ref (o_t 32), .ref (o_t 33), .ref (o_t 34), .ref (o_t 35), .ref (o_t 36)])), (o_t 2, .inl (cy 0, 5, .inl x_wide)), (o_t 3, .inl (cy 0, 5, .inl x_tall)), (o_t 4, .inl (cy 0, 5, .inl x_hands)), (o_t 5, .inl (cy 0, 5, .inl x_power)), (o_t 6, .inl (cy 0, 5, .inl x_spin)), (o_t 7, .inl (cy 0, 5, .inl x_seed)), (o_t 8, .inl (cy 0, 3000, .inl x_pressed)), (o_t 9, .inl (cy 0, 30, .inl x_leftFrom)), (o_t 10, .inl (cy 0, 30, .inl x_leftTo))]
set_option maxHeartbeats 4000000 in
set_option maxRecDepth 100000 in
theorem w_X8_copy {p : Program} {l : Launch} {e : Env} {s : State} {m : MethodId} {args : Array Value} {below : List Frame} {meth : Method} {c : Code} {Q : State → Prop} {A : Nat → Prop} {H : Heap} {locs : List Loc} {ls : Array Slot} (D : va_G) (cy : Nat → ClassId) (t : Nat → Nat) (o_t : Nat → Nat) (x_thrown : Int32) (x_delay : Int32) (x_feel : Int32) (x_turn : Int32) (x_sight : Int32) (x_ball : Int32) (x_w : Int32) (x_h : Int32) (x_n : Int32) (x_players : Int32) (x_wide : Nat → Int32) (x_tall : Nat → Int32) (x_hands : Nat → Int32) (x_power : Nat → Int32) (x_spin : Nat → Int32) (x_seed : Nat → Int32) (x_pressed : Nat → Int32) (x_leftFrom : Nat → Int32) (x_leftTo : Nat → Int32) (p1 : Int32) (p2 : Int32) {out : (Nat → Int32) × (Nat → Int32) × (Nat → Int32) × (Nat → Int32) × (Nat → Int32) × (Nat → Int32) × (Nat → Int32) × (Nat → Int32) × (Nat → Int32)} (hf : X8_copy x_wide x_tall x_hands x_power x_spin x_seed x_pressed x_leftFrom x_leftTo p1 p2 = some out) (hx : p.tables.exec = Jvm.exec) (hb : c.code = cX8_copy) (hml : c.maxLocals = 4) (hown : s.vm.findClass RX8 = some m.cls) (hts : ∀ w ∈ wsX8_copy, w.before args s = true) (hK : va_K D vwCl (TYS cy) s) (hE : EV t A s s.heap) (hA : ∀ q, s.heap.size ≤ q → A q) (hP : va_P D vwCl (wd_X8_copy cy o_t x_thrown x_delay x_feel x_turn x_sight x_ball x_w x_h x_n x_players x_wide x_tall x_hands x_power x_spin x_seed x_pressed x_leftFrom x_leftTo) H) (hD : va_D A (wd_X8_copy cy o_t x_thrown x_delay x_feel x_turn x_sight x_ball x_w x_h x_n x_players x_wide x_tall x_hands x_power x_spin x_seed x_pressed x_leftFrom x_leftTo)) (hS : va_S A s.heap H locs) (hl : lv_has ls 4 [(0, .ref (o_t 0)), (1, .int p1), (2, .int p2)]) (hR : ∀ (H : Heap) (locs : List Loc) (ls : Array Slot) (pc : Nat), va_P D vwCl (wd_X8_copy cy o_t x_thrown x_delay x_feel x_turn x_sight x_ball x_w x_h x_n x_players out.1 out.2.1 out.2.2.1 out.2.2.2.1 out.2.2.2.2.1 out.2.2.2.2.2.1 out.2.2.2.2.2.2.1 out.2.2.2.2.2.2.2.1 out.2.2.2.2.2.2.2.2) H → va_D A (wd_X8_copy cy o_t x_thrown x_delay x_feel x_turn x_sight x_ball x_w x_h x_n x_players out.1 out.2.1 out.2.2.1 out.2.2.2.1 out.2.2.2.2.1 out.2.2.2.2.2.1 out.2.2.2.2.2.2.1 out.2.2.2.2.2.2.2.1 out.2.2.2.2.2.2.2.2) → va_S A s.heap H locs → decode cX8_copy pc = .ok (.return_, 1) → W p l e (rmm 0 0) s m args below meth c H locs 0 0 Q (F0 m pc ls [])) : W p l e (rmm 0 0) s m args below meth c H locs 0 0 Q (F0 m 0 ls []) := by
  have k0 := hts (.fieldLink RX8 7 "SeaGamesModel" "wide" "[I") (List.mem_cons_of_mem _ (List.mem_append_left _ (List.mem_of_getElem? (i := 0) rfl)))
  have k1 : ∀ w ∈ u_ws RX8 TX8 36, w ∈ wsX8_copy := fun _ h => List.mem_cons_of_mem _ (List.mem_append_right _ h)
  have k2 := hts (.fieldLink RX8 13 "SeaGamesModel" "tall" "[I") (List.mem_cons_of_mem _ (List.mem_append_left _ (List.mem_of_getElem? (i := 1) rfl)))
  have k3 := hts (.fieldLink RX8 16 "SeaGamesModel" "hands" "[I") (List.mem_cons_of_mem _ (List.mem_append_left _ (List.mem_of_getElem? (i := 2) rfl)))
  have k4 := hts (.fieldLink RX8 19 "SeaGamesModel" "power" "[I") (List.mem_cons_of_mem _ (List.mem_append_left _ (List.mem_of_getElem? (i := 3) rfl)))
  have k5 := hts (.fieldLink RX8 22 "SeaGamesModel" "spin" "[I") (List.mem_cons_of_mem _ (List.mem_append_left _ (List.mem_of_getElem? (i := 4) rfl)))
  have k6 := hts (.fieldLink RX8 25 "SeaGamesModel" "seed" "[I") (List.mem_cons_of_mem _ (List.mem_append_left _ (List.mem_of_getElem? (i := 5) rfl)))
  have k7 := hts (.fieldLink RX8 31 "SeaGamesModel" "leftFrom" "[I") (List.mem_cons_of_mem _ (List.mem_append_left _ (List.mem_of_getElem? (i := 7) rfl)))
  have k8 := hts (.fieldLink RX8 34 "SeaGamesModel" "leftTo" "[I") (List.mem_cons_of_mem _ (List.mem_append_left _ (List.mem_of_getElem? (i := 8) rfl)))
  have k9 := hts (.fieldLink RX8 28 "SeaGamesModel" "pressed" "[I") (List.mem_cons_of_mem _ (List.mem_append_left _ (List.mem_of_getElem? (i := 6) rfl)))
  rw [X8_copy] at hf
  have h74 : ∀ (n74 : Nat) (x_wide : Nat → Int32) (x_tall : Nat → Int32) (x_hands : Nat → Int32) (x_power : Nat → Int32) (x_spin : Nat → Int32) (x_seed : Nat → Int32) (x_pressed : Nat → Int32) (x_leftFrom : Nat → Int32) (x_leftTo : Nat → Int32) (l1 : Int32) (l2 : Int32) (l3 : Int32) (H : Heap) (locs : List Loc) (ls : Array Slot), X8_copy_L74 n74 x_wide x_tall x_hands x_power x_spin x_seed x_pressed x_leftFrom x_leftTo l1 l2 l3 = some out → va_P D vwCl (wd_X8_copy cy o_t x_thrown x_delay x_feel x_turn x_sight x_ball x_w x_h x_n x_players x_wide x_tall x_hands x_power x_spin x_seed x_pressed x_leftFrom x_leftTo) H → va_D A (wd_X8_copy cy o_t x_thrown x_delay x_feel x_turn x_sight x_ball x_w x_h x_n x_players x_wide x_tall x_hands x_power x_spin x_seed x_pressed x_leftFrom x_leftTo) → va_S A s.heap H locs → lv_has ls 4 [(0, .ref (o_t 0)), (1, .int l1), (2, .int l2), (3, .int l3)] → W p l e (rmm 0 0) s m args below meth c H locs 0 0 Q (F0 m 74 ls []) := by
    intro n74
    induction n74 with
    | zero =>
      intro _ _ _ _ _ _ _ _ _ _ _ _ _ _ _ hf
      exact nomatch (show (none : Option _) = some out from hf)
    | succ n74 ih74 =>
      intro x_wide x_tall x_hands x_power x_spin x_seed x_pressed x_leftFrom x_leftTo l1 l2 l3 H locs ls hf hP hD hS hl
      have hf : X8_copy_L74_B (X8_copy_L74 n74) x_wide x_tall x_hands x_power x_spin x_seed x_pressed x_leftFrom x_leftTo l1 l2 l3 = some out := hf
      rw [X8_copy_L74_B] at hf
      have h111 : ∀ (x_wide : Nat → Int32) (x_tall : Nat → Int32) (x_hands : Nat → Int32) (x_power : Nat → Int32) (x_spin : Nat → Int32) (x_seed : Nat → Int32) (x_pressed : Nat → Int32) (x_leftFrom : Nat → Int32) (x_leftTo : Nat → Int32) (l1 : Int32) (l2 : Int32) (H : Heap) (locs : List Loc) (ls : Array Slot), X8_copy_J111 x_wide x_tall x_hands x_power x_spin x_seed x_pressed x_leftFrom x_leftTo l1 l2 = some out → va_P D vwCl (wd_X8_copy cy o_t x_thrown x_delay x_feel x_turn x_sight x_ball x_w x_h x_n x_players x_wide x_tall x_hands x_power x_spin x_seed x_pressed x_leftFrom x_leftTo) H → va_D A (wd_X8_copy cy o_t x_thrown x_delay x_feel x_turn x_sight x_ball x_w x_h x_n x_players x_wide x_tall x_hands x_power x_spin x_seed x_pressed x_leftFrom x_leftTo) → va_S A s.heap H locs → lv_has ls 4 [(0, .ref (o_t 0)), (1, .int l1), (2, .int l2)] → W p l e (rmm 0 0) s m args below meth c H locs 0 0 Q (F0 m 111 ls []) := by
        intro x_wide x_tall x_hands x_power x_spin x_seed x_pressed x_leftFrom x_leftTo l1 l2 H locs ls hf hP hD hS hl
        rw [X8_copy_J111] at hf
        have h113 : ∀ (n113 : Nat) (x_wide : Nat → Int32) (x_tall : Nat → Int32) (x_hands : Nat → Int32) (x_power : Nat → Int32) (x_spin : Nat → Int32) (x_seed : Nat → Int32) (x_pressed : Nat → Int32) (x_leftFrom : Nat → Int32) (x_leftTo : Nat → Int32) (l1 : Int32) (l2 : Int32) (l3 : Int32) (H : Heap) (locs : List Loc) (ls : Array Slot), X8_copy_L113 n113 x_wide x_tall x_hands x_power x_spin x_seed x_pressed x_leftFrom x_leftTo l1 l2 l3 = some out → va_P D vwCl (wd_X8_copy cy o_t x_thrown x_delay x_feel x_turn x_sight x_ball x_w x_h x_n x_players x_wide x_tall x_hands x_power x_spin x_seed x_pressed x_leftFrom x_leftTo) H → va_D A (wd_X8_copy cy o_t x_thrown x_delay x_feel x_turn x_sight x_ball x_w x_h x_n x_players x_wide x_tall x_hands x_power x_spin x_seed x_pressed x_leftFrom x_leftTo) → va_S A s.heap H locs → lv_has ls 4 [(0, .ref (o_t 0)), (1, .int l1), (2, .int l2), (3, .int l3)] → W p l e (rmm 0 0) s m args below meth c H locs 0 0 Q (F0 m 113 ls []) := by
          intro n113
          induction n113 with
          | zero =>
            intro _ _ _ _ _ _ _ _ _ _ _ _ _ _ _ hf
            exact nomatch (show (none : Option _) = some out from hf)
          | succ n113 ih113 =>
            intro x_wide x_tall x_hands x_power x_spin x_seed x_pressed x_leftFrom x_leftTo l1 l2 l3 H locs ls hf hP hD hS hl
            have hf : X8_copy_L113_B (X8_copy_L113 n113) x_wide x_tall x_hands x_power x_spin x_seed x_pressed x_leftFrom x_leftTo l1 l2 l3 = some out := hf
            rw [X8_copy_L113_B] at hf
            refine lv_iload_n hx hb dX8_copy_113 rfl (lv_at hl 3 rfl) ?_
            refine lv_bipush (v := (6 : Int32)) hx hb dX8_copy_114 (by decide) ?_
            refine lv_icmp_ge (tgt := 169) hx hb dX8_copy_116 (by decide) (fun c116 => ?_) (fun c116 => ?_)
            · have hf := ifp c116 hf
              obtain rfl := Option.some.inj hf
              exact hR _ _ _ _ hP hD hS dX8_copy_169
            · have hf := ifn c116 hf
              refine lv_aload_n hx hb dX8_copy_119 rfl (lv_at hl 0 rfl) ?_
              refine va_get (D := D) (ci := 8) (v := .ref (o_t 9)) (C := RX8) (T := TX8) (N := 36) hx hb hts k1 hown hK hP 0 rfl rfl 8 (by decide) k7 (fun _ h9 => h9) rfl dX8_copy_120 ?_
              refine lv_bipush (v := (6 : Int32)) hx hb dX8_copy_123 (by decide) ?_
              refine lv_iload_n hx hb dX8_copy_125 rfl (lv_at hl 2 rfl) ?_
              refine lv_imul hx hb dX8_copy_126 ?_
              refine lv_iload_n hx hb dX8_copy_127 rfl (lv_at hl 3 rfl) ?_
              refine lv_iadd hx hb dX8_copy_128 ?_
              refine lv_aload_n hx hb dX8_copy_129 rfl (lv_at hl 0 rfl) ?_
              refine va_get (D := D) (ci := 8) (v := .ref (o_t 9)) (C := RX8) (T := TX8) (N := 36) hx hb hts k1 hown hK hP 0 rfl rfl 8 (by decide) k7 (fun _ h9 => h9) rfl dX8_copy_130 ?_
              refine lv_bipush (v := (6 : Int32)) hx hb dX8_copy_133 (by decide) ?_
              refine lv_iload_n hx hb dX8_copy_135 rfl (lv_at hl 1 rfl) ?_
              refine lv_imul hx hb dX8_copy_136 ?_
              refine lv_iload_n hx hb dX8_copy_137 rfl (lv_at hl 3 rfl) ?_
              refine lv_iadd hx hb dX8_copy_138 ?_
              obtain ⟨v139, b139, ev139, hf⟩ := rd_s hf
              refine my_iald hx hb hK hP 8 rfl b139 ev139 dX8_copy_139 ?_
              obtain ⟨w140, b140, ew140, hf⟩ := wrI_s hf
              refine my_iast (ws2 := (wd_X8_copy cy o_t x_thrown x_delay x_feel x_turn x_sight x_ball x_w x_h x_n x_players x_wide x_tall x_hands x_power x_spin x_seed x_pressed w140 x_leftTo)) hx hb hK hP hD hS 8 rfl b140 ew140 rfl dX8_copy_140 (fun H locs hP hD hS => ?_)
              refine lv_aload_n hx hb dX8_copy_141 rfl (lv_at hl 0 rfl) ?_
              refine va_get (D := D) (ci := 8) (v := .ref (o_t 10)) (C := RX8) (T := TX8) (N := 36) hx hb hts k1 hown hK hP 0 rfl rfl 9 (by decide) k8 (fun _ h9 => h9) rfl dX8_copy_142 ?_
              refine lv_bipush (v := (6 : Int32)) hx hb dX8_copy_145 (by decide) ?_
              refine lv_iload_n hx hb dX8_copy_147 rfl (lv_at hl 2 rfl) ?_
              refine lv_imul hx hb dX8_copy_148 ?_
              refine lv_iload_n hx hb dX8_copy_149 rfl (lv_at hl 3 rfl) ?_
              refine lv_iadd hx hb dX8_copy_150 ?_
              refine lv_aload_n hx hb dX8_copy_151 rfl (lv_at hl 0 rfl) ?_
              refine va_get (D := D) (ci := 8) (v := .ref (o_t 10)) (C := RX8) (T := TX8) (N := 36) hx hb hts k1 hown hK hP 0 rfl rfl 9 (by decide) k8 (fun _ h9 => h9) rfl dX8_copy_152 ?_
              refine lv_bipush (v := (6 : Int32)) hx hb dX8_copy_155 (by decide) ?_
              refine lv_iload_n hx hb dX8_copy_157 rfl (lv_at hl 1 rfl) ?_
              refine lv_imul hx hb dX8_copy_158 ?_
              refine lv_iload_n hx hb dX8_copy_159 rfl (lv_at hl 3 rfl) ?_
              refine lv_iadd hx hb dX8_copy_160 ?_
              obtain ⟨v161, b161, ev161, hf⟩ := rd_s hf
              refine my_iald hx hb hK hP 9 rfl b161 ev161 dX8_copy_161 ?_
              obtain ⟨w162, b162, ew162, hf⟩ := wrI_s hf
              refine my_iast (ws2 := (wd_X8_copy cy o_t x_thrown x_delay x_feel x_turn x_sight x_ball x_w x_h x_n x_players x_wide x_tall x_hands x_power x_spin x_seed x_pressed w140 w162)) hx hb hK hP hD hS 9 rfl b162 ew162 rfl dX8_copy_162 (fun H locs hP hD hS => ?_)
              obtain ⟨v163, ev163, hf⟩ := nm_s hf
              refine lv_iinc (v := v163) (lv' := [(3, .int v163), (0, .ref (o_t 0)), (1, .int l1), (2, .int l2)]) hx hb dX8_copy_163 hl (k := 3) rfl (by rw [ev163]; rfl) (by decide) rfl (fun ls hl => ?_)
              refine lv_goto (tgt := 113) hx hb dX8_copy_166 (by decide) ?_
              exact ih113 _ _ _ _ _ _ _ _ _ _ _ _ _ _ _ hf hP hD hS (lv_sub hl [1, 2, 3, 0] rfl)
        refine lv_iconst (v := (0 : Int32)) hx hb dX8_copy_111 (by decide) ?_
        refine lv_istore_n (lv' := [(3, .int (0 : Int32)), (0, .ref (o_t 0)), (1, .int l1), (2, .int l2)]) hx hb dX8_copy_112 rfl hl (by decide) rfl (fun ls hl => ?_)
        exact h113 FU _ _ _ _ _ _ _ _ _ _ _ _ _ _ _ hf hP hD hS (lv_sub hl [1, 2, 3, 0] rfl)
      refine lv_iload_n hx hb dX8_copy_74 rfl (lv_at hl 3 rfl) ?_
      refine lv_sipush (v := (600 : Int32)) hx hb dX8_copy_75 (by decide) ?_
      refine lv_icmp_ge (tgt := 111) hx hb dX8_copy_78 (by decide) (fun c78 => ?_) (fun c78 => ?_)
      · have hf := ifp c78 hf
        exact h111 _ _ _ _ _ _ _ _ _ _ _ _ _ _ hf hP hD hS (lv_sub hl [0, 1, 2] rfl)
      · have hf := ifn c78 hf
        refine lv_aload_n hx hb dX8_copy_81 rfl (lv_at hl 0 rfl) ?_
        refine va_get (D := D) (ci := 8) (v := .ref (o_t 8)) (C := RX8) (T := TX8) (N := 36) hx hb hts k1 hown hK hP 0 rfl rfl 7 (by decide) k9 (fun _ h9 => h9) rfl dX8_copy_82 ?_
        refine lv_sipush (v := (600 : Int32)) hx hb dX8_copy_85 (by decide) ?_
        refine lv_iload_n hx hb dX8_copy_88 rfl (lv_at hl 2 rfl) ?_
        refine lv_imul hx hb dX8_copy_89 ?_
        refine lv_iload_n hx hb dX8_copy_90 rfl (lv_at hl 3 rfl) ?_
        refine lv_iadd hx hb dX8_copy_91 ?_
        refine lv_aload_n hx hb dX8_copy_92 rfl (lv_at hl 0 rfl) ?_
        refine va_get (D := D) (ci := 8) (v := .ref (o_t 8)) (C := RX8) (T := TX8) (N := 36) hx hb hts k1 hown hK hP 0 rfl rfl 7 (by decide) k9 (fun _ h9 => h9) rfl dX8_copy_93 ?_
        refine lv_sipush (v := (600 : Int32)) hx hb dX8_copy_96 (by decide) ?_
        refine lv_iload_n hx hb dX8_copy_99 rfl (lv_at hl 1 rfl) ?_
        refine lv_imul hx hb dX8_copy_100 ?_
        refine lv_iload_n hx hb dX8_copy_101 rfl (lv_at hl 3 rfl) ?_
        refine lv_iadd hx hb dX8_copy_102 ?_
        obtain ⟨v103, b103, ev103, hf⟩ := rd_s hf
        refine my_iald hx hb hK hP 7 rfl b103 ev103 dX8_copy_103 ?_
        obtain ⟨w104, b104, ew104, hf⟩ := wrI_s hf
        refine my_iast (ws2 := (wd_X8_copy cy o_t x_thrown x_delay x_feel x_turn x_sight x_ball x_w x_h x_n x_players x_wide x_tall x_hands x_power x_spin x_seed w104 x_leftFrom x_leftTo)) hx hb hK hP hD hS 7 rfl b104 ew104 rfl dX8_copy_104 (fun H locs hP hD hS => ?_)
        obtain ⟨v105, ev105, hf⟩ := nm_s hf
        refine lv_iinc (v := v105) (lv' := [(3, .int v105), (0, .ref (o_t 0)), (1, .int l1), (2, .int l2)]) hx hb dX8_copy_105 hl (k := 3) rfl (by rw [ev105]; rfl) (by decide) rfl (fun ls hl => ?_)
        refine lv_goto (tgt := 74) hx hb dX8_copy_108 (by decide) ?_
        exact ih74 _ _ _ _ _ _ _ _ _ _ _ _ _ _ _ hf hP hD hS (lv_sub hl [1, 2, 3, 0] rfl)
  refine lv_aload_n hx hb dX8_copy_0 rfl (lv_at hl 0 rfl) ?_
  refine va_get (D := D) (ci := 8) (v := .ref (o_t 2)) (C := RX8) (T := TX8) (N := 36) hx hb hts k1 hown hK hP 0 rfl rfl 1 (by decide) k0 (fun _ h9 => h9) rfl dX8_copy_1 ?_
  refine lv_iload_n hx hb dX8_copy_4 rfl (lv_at hl 2 rfl) ?_
  refine lv_aload_n hx hb dX8_copy_5 rfl (lv_at hl 0 rfl) ?_
  refine va_get (D := D) (ci := 8) (v := .ref (o_t 2)) (C := RX8) (T := TX8) (N := 36) hx hb hts k1 hown hK hP 0 rfl rfl 1 (by decide) k0 (fun _ h9 => h9) rfl dX8_copy_6 ?_
  refine lv_iload_n hx hb dX8_copy_9 rfl (lv_at hl 1 rfl) ?_
  obtain ⟨v10, b10, ev10, hf⟩ := rd_s hf
  refine my_iald hx hb hK hP 1 rfl b10 ev10 dX8_copy_10 ?_
  obtain ⟨w11, b11, ew11, hf⟩ := wrI_s hf
  refine my_iast (ws2 := (wd_X8_copy cy o_t x_thrown x_delay x_feel x_turn x_sight x_ball x_w x_h x_n x_players w11 x_tall x_hands x_power x_spin x_seed x_pressed x_leftFrom x_leftTo)) hx hb hK hP hD hS 1 rfl b11 ew11 rfl dX8_copy_11 (fun H locs hP hD hS => ?_)
  refine lv_aload_n hx hb dX8_copy_12 rfl (lv_at hl 0 rfl) ?_
  refine va_get (D := D) (ci := 8) (v := .ref (o_t 3)) (C := RX8) (T := TX8) (N := 36) hx hb hts k1 hown hK hP 0 rfl rfl 2 (by decide) k2 (fun _ h9 => h9) rfl dX8_copy_13 ?_
  refine lv_iload_n hx hb dX8_copy_16 rfl (lv_at hl 2 rfl) ?_
  refine lv_aload_n hx hb dX8_copy_17 rfl (lv_at hl 0 rfl) ?_
  refine va_get (D := D) (ci := 8) (v := .ref (o_t 3)) (C := RX8) (T := TX8) (N := 36) hx hb hts k1 hown hK hP 0 rfl rfl 2 (by decide) k2 (fun _ h9 => h9) rfl dX8_copy_18 ?_
  refine lv_iload_n hx hb dX8_copy_21 rfl (lv_at hl 1 rfl) ?_
  obtain ⟨v22, b22, ev22, hf⟩ := rd_s hf
  refine my_iald hx hb hK hP 2 rfl b22 ev22 dX8_copy_22 ?_
  obtain ⟨w23, b23, ew23, hf⟩ := wrI_s hf
  refine my_iast (ws2 := (wd_X8_copy cy o_t x_thrown x_delay x_feel x_turn x_sight x_ball x_w x_h x_n x_players w11 w23 x_hands x_power x_spin x_seed x_pressed x_leftFrom x_leftTo)) hx hb hK hP hD hS 2 rfl b23 ew23 rfl dX8_copy_23 (fun H locs hP hD hS => ?_)
  refine lv_aload_n hx hb dX8_copy_24 rfl (lv_at hl 0 rfl) ?_
  refine va_get (D := D) (ci := 8) (v := .ref (o_t 4)) (C := RX8) (T := TX8) (N := 36) hx hb hts k1 hown hK hP 0 rfl rfl 3 (by decide) k3 (fun _ h9 => h9) rfl dX8_copy_25 ?_
  refine lv_iload_n hx hb dX8_copy_28 rfl (lv_at hl 2 rfl) ?_
  refine lv_aload_n hx hb dX8_copy_29 rfl (lv_at hl 0 rfl) ?_
  refine va_get (D := D) (ci := 8) (v := .ref (o_t 4)) (C := RX8) (T := TX8) (N := 36) hx hb hts k1 hown hK hP 0 rfl rfl 3 (by decide) k3 (fun _ h9 => h9) rfl dX8_copy_30 ?_
  refine lv_iload_n hx hb dX8_copy_33 rfl (lv_at hl 1 rfl) ?_
  obtain ⟨v34, b34, ev34, hf⟩ := rd_s hf
  refine my_iald hx hb hK hP 3 rfl b34 ev34 dX8_copy_34 ?_
  obtain ⟨w35, b35, ew35, hf⟩ := wrI_s hf
  refine my_iast (ws2 := (wd_X8_copy cy o_t x_thrown x_delay x_feel x_turn x_sight x_ball x_w x_h x_n x_players w11 w23 w35 x_power x_spin x_seed x_pressed x_leftFrom x_leftTo)) hx hb hK hP hD hS 3 rfl b35 ew35 rfl dX8_copy_35 (fun H locs hP hD hS => ?_)
  refine lv_aload_n hx hb dX8_copy_36 rfl (lv_at hl 0 rfl) ?_
  refine va_get (D := D) (ci := 8) (v := .ref (o_t 5)) (C := RX8) (T := TX8) (N := 36) hx hb hts k1 hown hK hP 0 rfl rfl 4 (by decide) k4 (fun _ h9 => h9) rfl dX8_copy_37 ?_
  refine lv_iload_n hx hb dX8_copy_40 rfl (lv_at hl 2 rfl) ?_
  refine lv_aload_n hx hb dX8_copy_41 rfl (lv_at hl 0 rfl) ?_
  refine va_get (D := D) (ci := 8) (v := .ref (o_t 5)) (C := RX8) (T := TX8) (N := 36) hx hb hts k1 hown hK hP 0 rfl rfl 4 (by decide) k4 (fun _ h9 => h9) rfl dX8_copy_42 ?_
  refine lv_iload_n hx hb dX8_copy_45 rfl (lv_at hl 1 rfl) ?_
  obtain ⟨v46, b46, ev46, hf⟩ := rd_s hf
  refine my_iald hx hb hK hP 4 rfl b46 ev46 dX8_copy_46 ?_
  obtain ⟨w47, b47, ew47, hf⟩ := wrI_s hf
  refine my_iast (ws2 := (wd_X8_copy cy o_t x_thrown x_delay x_feel x_turn x_sight x_ball x_w x_h x_n x_players w11 w23 w35 w47 x_spin x_seed x_pressed x_leftFrom x_leftTo)) hx hb hK hP hD hS 4 rfl b47 ew47 rfl dX8_copy_47 (fun H locs hP hD hS => ?_)
  refine lv_aload_n hx hb dX8_copy_48 rfl (lv_at hl 0 rfl) ?_
  refine va_get (D := D) (ci := 8) (v := .ref (o_t 6)) (C := RX8) (T := TX8) (N := 36) hx hb hts k1 hown hK hP 0 rfl rfl 5 (by decide) k5 (fun _ h9 => h9) rfl dX8_copy_49 ?_
  refine lv_iload_n hx hb dX8_copy_52 rfl (lv_at hl 2 rfl) ?_
  refine lv_aload_n hx hb dX8_copy_53 rfl (lv_at hl 0 rfl) ?_
  refine va_get (D := D) (ci := 8) (v := .ref (o_t 6)) (C := RX8) (T := TX8) (N := 36) hx hb hts k1 hown hK hP 0 rfl rfl 5 (by decide) k5 (fun _ h9 => h9) rfl dX8_copy_54 ?_
  refine lv_iload_n hx hb dX8_copy_57 rfl (lv_at hl 1 rfl) ?_
  obtain ⟨v58, b58, ev58, hf⟩ := rd_s hf
  refine my_iald hx hb hK hP 5 rfl b58 ev58 dX8_copy_58 ?_
  obtain ⟨w59, b59, ew59, hf⟩ := wrI_s hf
  refine my_iast (ws2 := (wd_X8_copy cy o_t x_thrown x_delay x_feel x_turn x_sight x_ball x_w x_h x_n x_players w11 w23 w35 w47 w59 x_seed x_pressed x_leftFrom x_leftTo)) hx hb hK hP hD hS 5 rfl b59 ew59 rfl dX8_copy_59 (fun H locs hP hD hS => ?_)
  refine lv_aload_n hx hb dX8_copy_60 rfl (lv_at hl 0 rfl) ?_
  refine va_get (D := D) (ci := 8) (v := .ref (o_t 7)) (C := RX8) (T := TX8) (N := 36) hx hb hts k1 hown hK hP 0 rfl rfl 6 (by decide) k6 (fun _ h9 => h9) rfl dX8_copy_61 ?_
  refine lv_iload_n hx hb dX8_copy_64 rfl (lv_at hl 2 rfl) ?_
  refine lv_aload_n hx hb dX8_copy_65 rfl (lv_at hl 0 rfl) ?_
  refine va_get (D := D) (ci := 8) (v := .ref (o_t 7)) (C := RX8) (T := TX8) (N := 36) hx hb hts k1 hown hK hP 0 rfl rfl 6 (by decide) k6 (fun _ h9 => h9) rfl dX8_copy_66 ?_
  refine lv_iload_n hx hb dX8_copy_69 rfl (lv_at hl 1 rfl) ?_
  obtain ⟨v70, b70, ev70, hf⟩ := rd_s hf
  refine my_iald hx hb hK hP 6 rfl b70 ev70 dX8_copy_70 ?_
  obtain ⟨w71, b71, ew71, hf⟩ := wrI_s hf
  refine my_iast (ws2 := (wd_X8_copy cy o_t x_thrown x_delay x_feel x_turn x_sight x_ball x_w x_h x_n x_players w11 w23 w35 w47 w59 w71 x_pressed x_leftFrom x_leftTo)) hx hb hK hP hD hS 6 rfl b71 ew71 rfl dX8_copy_71 (fun H locs hP hD hS => ?_)
  refine lv_iconst (v := (0 : Int32)) hx hb dX8_copy_72 (by decide) ?_
  refine lv_istore_n (lv' := [(3, .int (0 : Int32)), (0, .ref (o_t 0)), (1, .int p1), (2, .int p2)]) hx hb dX8_copy_73 rfl hl (by decide) rfl (fun ls hl => ?_)
  exact h74 FU _ _ _ _ _ _ _ _ _ _ _ _ _ _ _ hf hP hD hS (lv_sub hl [1, 2, 3, 0] rfl)
theorem hd_X8_copy : yX8_copy.cls ≠ "java/lang/invoke/MethodHandle" ∧ yX8_copy.cls ≠ "java/lang/invoke/VarHandle" ∧ (parseMethodDescriptor yX8_copy.desc).map (fun d => d.parameters.length) = some 2 := by decide +kernel
set_option maxRecDepth 100000 in
theorem c_X8_copy (l : Launch) (D : va_G) (cy : Nat → ClassId) (t : Nat → Nat) (o_t : Nat → Nat) (x_thrown : Int32) (x_delay : Int32) (x_feel : Int32) (x_turn : Int32) (x_sight : Int32) (x_ball : Int32) (x_w : Int32) (x_h : Int32) (x_n : Int32) (x_players : Int32) (x_wide : Nat → Int32) (x_tall : Nat → Int32) (x_hands : Nat → Int32) (x_power : Nat → Int32) (x_spin : Nat → Int32) (x_seed : Nat → Int32) (x_pressed : Nat → Int32) (x_leftFrom : Nat → Int32) (x_leftTo : Nat → Int32) (p1 : Int32) (p2 : Int32) {out : (Nat → Int32) × (Nat → Int32) × (Nat → Int32) × (Nat → Int32) × (Nat → Int32) × (Nat → Int32) × (Nat → Int32) × (Nat → Int32) × (Nat → Int32)} (hf : X8_copy x_wide x_tall x_hands x_power x_spin x_seed x_pressed x_leftFrom x_leftTo p1 p2 = some out) : ctV l yX8_copy wsX8_copy 0 0 D cy t [.ref (o_t 0), .int p1, .int p2] (wd_X8_copy cy o_t x_thrown x_delay x_feel x_turn x_sight x_ball x_w x_h x_n x_players x_wide x_tall x_hands x_power x_spin x_seed x_pressed x_leftFrom x_leftTo) (wd_X8_copy cy o_t x_thrown x_delay x_feel x_turn x_sight x_ball x_w x_h x_n x_players out.1 out.2.1 out.2.2.1 out.2.2.2.1 out.2.2.2.2.1 out.2.2.2.2.2.1 out.2.2.2.2.2.2.1 out.2.2.2.2.2.2.2.1 out.2.2.2.2.2.2.2.2) := by
  refine ⟨rfl, ?_⟩
  intro sz
  refine Met.ofW (cc := cX8_copy) (maxL := 4) (ret := none) (by decide) rfl ?_
  intro p e s m args below meth c s₁ B hml hv
  obtain ⟨rfl, hsz, hP, hK, hD0, hE⟩ := hv
  have hts := atoms_spec (ws := wsX8_copy) B.pre
  have hown : s.vm.findClass RX8 = some m.cls := findClass_of_methodNamed B.named
  have hlocks := B.notSynchronized
  subst hsz
  have hD := hD0.self (sz := s.heap.size)
  have hl := lv_entry ([.ref (o_t 0), .int p1, .int p2]) (n := 4) (Nat.le_of_ble_eq_true rfl)
  rw [lg_entry_eq]
  generalize (lg_sl ([.ref (o_t 0), .int p1, .int p2]) ++ List.replicate (4 - (lg_sl ([.ref (o_t 0), .int p1, .int p2])).length) Slot.unset).toArray = ls at hl ⊢
  exact w_X8_copy D cy t o_t x_thrown x_delay x_feel x_turn x_sight x_ball x_w x_h x_n x_players x_wide x_tall x_hands x_power x_spin x_seed x_pressed x_leftFrom x_leftTo p1 p2 hf B.exec B.bytes hml hown hts hK hE (fun q h => Or.inr h) hP hD va_S.rf hl (fun H locs ls pc hP hD hS hdg => W.vret B.exec B.bytes B.returns (fun t ht hW => ⟨⟨(), rfl, trivial, ctB_of ht hP⟩, hS.F ht⟩) hS.2.2 hdg)

noncomputable def X8_presses_J36 (x_hands : Nat → Int32) (x_pressed : Nat → Int32) (rec4 : Int32 → Int32 → Option (Int32)) (l2 : Int32) (s0 : Int32) (s1 : Int32) : Option (Int32) :=
  nm (s0 + s1) fun v37 => nm (l2 + (1 : Int32)) fun v38 => rec4  v37 v38
noncomputable def X8_presses_L4_B (x_hands : Nat → Int32) (x_pressed : Nat → Int32) (rec4 : Int32 → Int32 → Option (Int32)) (l1 : Int32) (l2 : Int32) : Option (Int32) :=
  rd x_hands 5 (4 : Int32) fun v12 => if ((100 : Int32) * v12) ≤ l2 then (some l1) else (rd x_pressed 3000 ((2400 : Int32) + l2) fun v27 => if v27 = (0 : Int32) then (X8_presses_J36 x_hands x_pressed rec4  l2 l1 (0 : Int32)) else (X8_presses_J36 x_hands x_pressed rec4  l2 l1 (1 : Int32)))
noncomputable def X8_presses_L4 (x_hands : Nat → Int32) (x_pressed : Nat → Int32) : Nat → Int32 → Int32 → Option (Int32)
  | 0, _, _ => none
  | n + 1, y0, y1 => X8_presses_L4_B x_hands x_pressed  (X8_presses_L4 x_hands x_pressed  n) y0 y1
noncomputable def X8_presses (x_hands : Nat → Int32) (x_pressed : Nat → Int32) : Option (Int32) :=
  X8_presses_L4 x_hands x_pressed  FU  (0 : Int32) (0 : Int32)
abbrev wd_X8_presses (cy : Nat → ClassId) (o_t : Nat → Nat) (x_thrown : Int32) (x_delay : Int32) (x_feel : Int32) (x_turn : Int32) (x_sight : Int32) (x_ball : Int32) (x_w : Int32) (x_h : Int32) (x_n : Int32) (x_players : Int32) (x_hands : Nat → Int32) (x_pressed : Nat → Int32) : va_W := [(o_t 0, .inr (8, [.int x_thrown, .ref (o_t 2), .ref (o_t 3), .ref (o_t 4), .ref (o_t 5), .ref (o_t 6), .ref (o_t 7), .ref (o_t 8), .ref (o_t 9), .ref (o_t 10), .ref (o_t 11), .int x_delay, .int x_feel, .int x_turn, .int x_sight, .ref (o_t 16), .ref (o_t 17), .ref (o_t 18), .ref (o_t 19), .int x_ball, .int x_w, .int x_h, .int x_n, .ref (o_t 24), .ref (o_t 25), .ref (o_t 26), .ref (o_t 27), .ref (o_t 28), .ref (o_t 29), .int x_players, .ref (o_t 31), .ref (o_t 32), .ref (o_t 33), .ref (o_t 34), .ref (o_t 35), .ref (o_t 36)])), (o_t 4, .inl (cy 0, 5, .inl x_hands)), (o_t 8, .inl (cy 0, 3000, .inl x_pressed))]
set_option maxHeartbeats 4000000 in
set_option maxRecDepth 100000 in
theorem w_X8_presses {p : Program} {l : Launch} {e : Env} {s : State} {m : MethodId} {args : Array Value} {below : List Frame} {meth : Method} {c : Code} {Q : State → Prop} {A : Nat → Prop} {H : Heap} {locs : List Loc} {ls : Array Slot} (D : va_G) (cy : Nat → ClassId) (t : Nat → Nat) (o_t : Nat → Nat) (x_thrown : Int32) (x_delay : Int32) (x_feel : Int32) (x_turn : Int32) (x_sight : Int32) (x_ball : Int32) (x_w : Int32) (x_h : Int32) (x_n : Int32) (x_players : Int32) (x_hands : Nat → Int32) (x_pressed : Nat → Int32) {out : Int32} (hf : X8_presses x_hands x_pressed = some out) (hx : p.tables.exec = Jvm.exec) (hb : c.code = cX8_presses) (hml : c.maxLocals = 3) (hown : s.vm.findClass RX8 = some m.cls) (hts : ∀ w ∈ wsX8_presses, w.before args s = true) (hK : va_K D vwCl (TYS cy) s) (hE : EV t A s s.heap) (hA : ∀ q, s.heap.size ≤ q → A q) (hP : va_P D vwCl (wd_X8_presses cy o_t x_thrown x_delay x_feel x_turn x_sight x_ball x_w x_h x_n x_players x_hands x_pressed) H) (hD : va_D A (wd_X8_presses cy o_t x_thrown x_delay x_feel x_turn x_sight x_ball x_w x_h x_n x_players x_hands x_pressed)) (hS : va_S A s.heap H locs) (hl : lv_has ls 3 [(0, .ref (o_t 0))]) (hR : ∀ (H : Heap) (locs : List Loc) (ls : Array Slot) (pc : Nat), va_P D vwCl (wd_X8_presses cy o_t x_thrown x_delay x_feel x_turn x_sight x_ball x_w x_h x_n x_players x_hands x_pressed) H → va_D A (wd_X8_presses cy o_t x_thrown x_delay x_feel x_turn x_sight x_ball x_w x_h x_n x_players x_hands x_pressed) → va_S A s.heap H locs → decode cX8_presses pc = .ok (.ireturn, 1) → W p l e (rmm 0 0) s m args below meth c H locs 0 0 Q (F0 m pc ls [.int out])) : W p l e (rmm 0 0) s m args below meth c H locs 0 0 Q (F0 m 0 ls []) := by
  have k0 := hts (.fieldLink RX8 16 "SeaGamesModel" "hands" "[I") (List.mem_cons_of_mem _ (List.mem_append_left _ (List.mem_of_getElem? (i := 0) rfl)))
  have k1 : ∀ w ∈ u_ws RX8 TX8 36, w ∈ wsX8_presses := fun _ h => List.mem_cons_of_mem _ (List.mem_append_right _ h)
  have k2 := hts (.fieldLink RX8 28 "SeaGamesModel" "pressed" "[I") (List.mem_cons_of_mem _ (List.mem_append_left _ (List.mem_of_getElem? (i := 1) rfl)))
  rw [X8_presses] at hf
  have h4 : ∀ (n4 : Nat) (l1 : Int32) (l2 : Int32) (H : Heap) (locs : List Loc) (ls : Array Slot), X8_presses_L4 x_hands x_pressed n4 l1 l2 = some out → va_P D vwCl (wd_X8_presses cy o_t x_thrown x_delay x_feel x_turn x_sight x_ball x_w x_h x_n x_players x_hands x_pressed) H → va_D A (wd_X8_presses cy o_t x_thrown x_delay x_feel x_turn x_sight x_ball x_w x_h x_n x_players x_hands x_pressed) → va_S A s.heap H locs → lv_has ls 3 [(0, .ref (o_t 0)), (1, .int l1), (2, .int l2)] → W p l e (rmm 0 0) s m args below meth c H locs 0 0 Q (F0 m 4 ls []) := by
    intro n4
    induction n4 with
    | zero =>
      intro _ _ _ _ _ hf
      exact nomatch (show (none : Option _) = some out from hf)
    | succ n4 ih4 =>
      intro l1 l2 H locs ls hf hP hD hS hl
      have hf : X8_presses_L4_B x_hands x_pressed (X8_presses_L4 x_hands x_pressed n4) l1 l2 = some out := hf
      rw [X8_presses_L4_B] at hf
      refine lv_iload_n hx hb dX8_presses_4 rfl (lv_at hl 2 rfl) ?_
      refine lv_bipush (v := (100 : Int32)) hx hb dX8_presses_5 (by decide) ?_
      refine lv_aload_n hx hb dX8_presses_7 rfl (lv_at hl 0 rfl) ?_
      refine va_get (D := D) (ci := 8) (v := .ref (o_t 4)) (C := RX8) (T := TX8) (N := 36) hx hb hts k1 hown hK hP 0 rfl rfl 3 (by decide) k0 (fun _ h9 => h9) rfl dX8_presses_8 ?_
      refine lv_iconst (v := (4 : Int32)) hx hb dX8_presses_11 (by decide) ?_
      obtain ⟨v12, b12, ev12, hf⟩ := rd_s hf
      refine my_iald hx hb hK hP 1 rfl b12 ev12 dX8_presses_12 ?_
      refine lv_imul hx hb dX8_presses_13 ?_
      refine lv_icmp_ge (tgt := 44) hx hb dX8_presses_14 (by decide) (fun c14 => ?_) (fun c14 => ?_)
      · have hf := ifp c14 hf
        refine lv_iload_n hx hb dX8_presses_44 rfl (lv_at hl 1 rfl) ?_
        obtain rfl := Option.some.inj hf
        exact hR _ _ _ _ hP hD hS dX8_presses_45
      · have hf := ifn c14 hf
        have h36 : ∀ (l2 : Int32) (s0 : Int32) (s1 : Int32) (H : Heap) (locs : List Loc) (ls : Array Slot), X8_presses_J36 x_hands x_pressed (X8_presses_L4 x_hands x_pressed n4) l2 s0 s1 = some out → va_P D vwCl (wd_X8_presses cy o_t x_thrown x_delay x_feel x_turn x_sight x_ball x_w x_h x_n x_players x_hands x_pressed) H → va_D A (wd_X8_presses cy o_t x_thrown x_delay x_feel x_turn x_sight x_ball x_w x_h x_n x_players x_hands x_pressed) → va_S A s.heap H locs → lv_has ls 3 [(0, .ref (o_t 0)), (2, .int l2)] → W p l e (rmm 0 0) s m args below meth c H locs 0 0 Q (F0 m 36 ls [.int s1, .int s0]) := by
          intro l2 s0 s1 H locs ls hf hP hD hS hl
          rw [X8_presses_J36] at hf
          refine lv_iadd hx hb dX8_presses_36 ?_
          obtain ⟨v37, ev37, hf⟩ := nm_s hf
          refine my_topi ev37 ?_
          refine lv_istore_n (lv' := [(1, .int v37), (0, .ref (o_t 0)), (2, .int l2)]) hx hb dX8_presses_37 rfl hl (by decide) rfl (fun ls hl => ?_)
          obtain ⟨v38, ev38, hf⟩ := nm_s hf
          refine lv_iinc (v := v38) (lv' := [(2, .int v38), (1, .int v37), (0, .ref (o_t 0))]) hx hb dX8_presses_38 hl (k := 2) rfl (by rw [ev38]; rfl) (by decide) rfl (fun ls hl => ?_)
          refine lv_goto (tgt := 4) hx hb dX8_presses_41 (by decide) ?_
          exact ih4 _ _ _ _ _ hf hP hD hS (lv_sub hl [2, 1, 0] rfl)
        refine lv_iload_n hx hb dX8_presses_17 rfl (lv_at hl 1 rfl) ?_
        refine lv_aload_n hx hb dX8_presses_18 rfl (lv_at hl 0 rfl) ?_
        refine va_get (D := D) (ci := 8) (v := .ref (o_t 8)) (C := RX8) (T := TX8) (N := 36) hx hb hts k1 hown hK hP 0 rfl rfl 7 (by decide) k2 (fun _ h9 => h9) rfl dX8_presses_19 ?_
        refine lv_sipush (v := (2400 : Int32)) hx hb dX8_presses_22 (by decide) ?_
        refine lv_iload_n hx hb dX8_presses_25 rfl (lv_at hl 2 rfl) ?_
        refine lv_iadd hx hb dX8_presses_26 ?_
        obtain ⟨v27, b27, ev27, hf⟩ := rd_s hf
        refine my_iald hx hb hK hP 2 rfl b27 ev27 dX8_presses_27 ?_
        refine lv_if_ne (tgt := 35) hx hb dX8_presses_28 (by decide) (fun c28 => ?_) (fun c28 => ?_)
        · have hf := ifn c28 hf
          refine lv_iconst (v := (1 : Int32)) hx hb dX8_presses_35 (by decide) ?_
          exact h36 _ _ _ _ _ _ hf hP hD hS (lv_sub hl [0, 2] rfl)
        · have hf := ifp c28 hf
          refine lv_iconst (v := (0 : Int32)) hx hb dX8_presses_31 (by decide) ?_
          refine lv_goto (tgt := 36) hx hb dX8_presses_32 (by decide) ?_
          exact h36 _ _ _ _ _ _ hf hP hD hS (lv_sub hl [0, 2] rfl)
  refine lv_iconst (v := (0 : Int32)) hx hb dX8_presses_0 (by decide) ?_
  refine lv_istore_n (lv' := [(1, .int (0 : Int32)), (0, .ref (o_t 0))]) hx hb dX8_presses_1 rfl hl (by decide) rfl (fun ls hl => ?_)
  refine lv_iconst (v := (0 : Int32)) hx hb dX8_presses_2 (by decide) ?_
  refine lv_istore_n (lv' := [(2, .int (0 : Int32)), (1, .int (0 : Int32)), (0, .ref (o_t 0))]) hx hb dX8_presses_3 rfl hl (by decide) rfl (fun ls hl => ?_)
  exact h4 FU _ _ _ _ _ hf hP hD hS (lv_sub hl [2, 1, 0] rfl)
theorem hd_X8_presses : yX8_presses.cls ≠ "java/lang/invoke/MethodHandle" ∧ yX8_presses.cls ≠ "java/lang/invoke/VarHandle" ∧ (parseMethodDescriptor yX8_presses.desc).map (fun d => d.parameters.length) = some 0 := by decide +kernel
set_option maxRecDepth 100000 in
theorem c_X8_presses (l : Launch) (D : va_G) (cy : Nat → ClassId) (t : Nat → Nat) (o_t : Nat → Nat) (x_thrown : Int32) (x_delay : Int32) (x_feel : Int32) (x_turn : Int32) (x_sight : Int32) (x_ball : Int32) (x_w : Int32) (x_h : Int32) (x_n : Int32) (x_players : Int32) (x_hands : Nat → Int32) (x_pressed : Nat → Int32) {out : Int32} (hf : X8_presses x_hands x_pressed = some out) : ctI l yX8_presses wsX8_presses 0 0 D cy t [.ref (o_t 0)] (wd_X8_presses cy o_t x_thrown x_delay x_feel x_turn x_sight x_ball x_w x_h x_n x_players x_hands x_pressed) (wd_X8_presses cy o_t x_thrown x_delay x_feel x_turn x_sight x_ball x_w x_h x_n x_players x_hands x_pressed) out := by
  refine ⟨rfl, ?_⟩
  intro sz
  refine Met.ofW (cc := cX8_presses) (maxL := 3) (ret := (some .int)) (by decide) rfl ?_
  intro p e s m args below meth c s₁ B hml hv
  obtain ⟨rfl, hsz, hP, hK, hD0, hE⟩ := hv
  have hts := atoms_spec (ws := wsX8_presses) B.pre
  have hown : s.vm.findClass RX8 = some m.cls := findClass_of_methodNamed B.named
  have hlocks := B.notSynchronized
  subst hsz
  have hD := hD0.self (sz := s.heap.size)
  have hl := lv_entry ([.ref (o_t 0)]) (n := 3) (Nat.le_of_ble_eq_true rfl)
  rw [lg_entry_eq]
  generalize (lg_sl ([.ref (o_t 0)]) ++ List.replicate (3 - (lg_sl ([.ref (o_t 0)])).length) Slot.unset).toArray = ls at hl ⊢
  exact w_X8_presses D cy t o_t x_thrown x_delay x_feel x_turn x_sight x_ball x_w x_h x_n x_players x_hands x_pressed hf B.exec B.bytes hml hown hts hK hE (fun q h => Or.inr h) hP hD va_S.rf hl (fun H locs ls pc hP hD hS hdg => W.iret B.exec B.bytes B.returns (fun t ht hW => ⟨⟨_, (), rfl, rfl, ctB_of ht hP⟩, hS.F ht⟩) hS.2.2 hdg)

noncomputable def X8_keep (x_thrown : Int32) (x_wide : Nat → Int32) (x_tall : Nat → Int32) (x_hands : Nat → Int32) (x_power : Nat → Int32) (x_spin : Nat → Int32) (x_seed : Nat → Int32) (x_pressed : Nat → Int32) (x_leftFrom : Nat → Int32) (x_leftTo : Nat → Int32) (x_isKept : Nat → Int32) (p1 : Int32) : Option (Int32 × Int32 × (Nat → Int32) × (Nat → Int32) × (Nat → Int32) × (Nat → Int32) × (Nat → Int32) × (Nat → Int32) × (Nat → Int32) × (Nat → Int32) × (Nat → Int32) × (Nat → Int32)) :=
  bd (X8_noSlot p1) fun r6 => if r6 = (0 : Int32) then (bd (X8_copy x_wide x_tall x_hands x_power x_spin x_seed x_pressed x_leftFrom x_leftTo (4 : Int32) p1) fun r17 => wrZ x_isKept 4 p1 (1 : Int32) fun w26 => bd (X8_presses r17.2.2.1 r17.2.2.2.2.2.2.1) fun r28 => some (r28, (0 : Int32), r17.1, r17.2.1, r17.2.2.1, r17.2.2.2.1, r17.2.2.2.2.1, r17.2.2.2.2.2.1, r17.2.2.2.2.2.2.1, r17.2.2.2.2.2.2.2.1, r17.2.2.2.2.2.2.2.2, w26)) else (some ((-1 : Int32), (0 : Int32), x_wide, x_tall, x_hands, x_power, x_spin, x_seed, x_pressed, x_leftFrom, x_leftTo, x_isKept))
abbrev wd_X8_keep (cy : Nat → ClassId) (o_t : Nat → Nat) (x_thrown : Int32) (x_delay : Int32) (x_feel : Int32) (x_turn : Int32) (x_sight : Int32) (x_ball : Int32) (x_w : Int32) (x_h : Int32) (x_n : Int32) (x_players : Int32) (x_wide : Nat → Int32) (x_tall : Nat → Int32) (x_hands : Nat → Int32) (x_power : Nat → Int32) (x_spin : Nat → Int32) (x_seed : Nat → Int32) (x_pressed : Nat → Int32) (x_leftFrom : Nat → Int32) (x_leftTo : Nat → Int32) (x_isKept : Nat → Int32) : va_W := [(o_t 0, .inr (8, [.int x_thrown, .ref (o_t 2), .ref (o_t 3), .ref (o_t 4), .ref (o_t 5), .ref (o_t 6), .ref (o_t 7), .ref (o_t 8), .ref (o_t 9), .ref (o_t 10), .ref (o_t 11), .int x_delay, .int x_feel, .int x_turn, .int x_sight, .ref (o_t 16), .ref (o_t 17), .ref (o_t 18), .ref (o_t 19), .int x_ball, .int x_w, .int x_h, .int x_n, .ref (o_t 24), .ref (o_t 25), .ref (o_t 26), .ref (o_t 27), .ref (o_t 28), .ref (o_t 29), .int x_players, .ref (o_t 31), .ref (o_t 32), .ref (o_t 33), .ref (o_t 34), .ref (o_t 35), .ref (o_t 36)])), (o_t 2, .inl (cy 0, 5, .inl x_wide)), (o_t 3, .inl (cy 0, 5, .inl x_tall)), (o_t 4, .inl (cy 0, 5, .inl x_hands)), (o_t 5, .inl (cy 0, 5, .inl x_power)), (o_t 6, .inl (cy 0, 5, .inl x_spin)), (o_t 7, .inl (cy 0, 5, .inl x_seed)), (o_t 8, .inl (cy 0, 3000, .inl x_pressed)), (o_t 9, .inl (cy 0, 30, .inl x_leftFrom)), (o_t 10, .inl (cy 0, 30, .inl x_leftTo)), (o_t 11, .inl (cy 1, 4, .inl x_isKept))]
set_option maxHeartbeats 4000000 in
set_option maxRecDepth 100000 in
theorem w_X8_keep {p : Program} {l : Launch} {e : Env} {s : State} {m : MethodId} {args : Array Value} {below : List Frame} {meth : Method} {c : Code} {Q : State → Prop} {A : Nat → Prop} {H : Heap} {locs : List Loc} {ls : Array Slot} (D : va_G) (cy : Nat → ClassId) (t : Nat → Nat) (o_t : Nat → Nat) (x_thrown : Int32) (x_delay : Int32) (x_feel : Int32) (x_turn : Int32) (x_sight : Int32) (x_ball : Int32) (x_w : Int32) (x_h : Int32) (x_n : Int32) (x_players : Int32) (x_wide : Nat → Int32) (x_tall : Nat → Int32) (x_hands : Nat → Int32) (x_power : Nat → Int32) (x_spin : Nat → Int32) (x_seed : Nat → Int32) (x_pressed : Nat → Int32) (x_leftFrom : Nat → Int32) (x_leftTo : Nat → Int32) (x_isKept : Nat → Int32) (p1 : Int32) {out : Int32 × Int32 × (Nat → Int32) × (Nat → Int32) × (Nat → Int32) × (Nat → Int32) × (Nat → Int32) × (Nat → Int32) × (Nat → Int32) × (Nat → Int32) × (Nat → Int32) × (Nat → Int32)} (hf : X8_keep x_thrown x_wide x_tall x_hands x_power x_spin x_seed x_pressed x_leftFrom x_leftTo x_isKept p1 = some out) (hx : p.tables.exec = Jvm.exec) (hb : c.code = cX8_keep) (hml : c.maxLocals = 2) (hown : s.vm.findClass RX8 = some m.cls) (hts : ∀ w ∈ wsX8_keep, w.before args s = true) (hK : va_K D vwCl (TYS cy) s) (hE : EV t A s s.heap) (hA : ∀ q, s.heap.size ≤ q → A q) (hP : va_P D vwCl (wd_X8_keep cy o_t x_thrown x_delay x_feel x_turn x_sight x_ball x_w x_h x_n x_players x_wide x_tall x_hands x_power x_spin x_seed x_pressed x_leftFrom x_leftTo x_isKept) H) (hD : va_D A (wd_X8_keep cy o_t x_thrown x_delay x_feel x_turn x_sight x_ball x_w x_h x_n x_players x_wide x_tall x_hands x_power x_spin x_seed x_pressed x_leftFrom x_leftTo x_isKept)) (hS : va_S A s.heap H locs) (hl : lv_has ls 2 [(0, .ref (o_t 0)), (1, .int p1)]) (hR : ∀ (H : Heap) (locs : List Loc) (ls : Array Slot) (pc : Nat), va_P D vwCl (wd_X8_keep cy o_t out.2.1 x_delay x_feel x_turn x_sight x_ball x_w x_h x_n x_players out.2.2.1 out.2.2.2.1 out.2.2.2.2.1 out.2.2.2.2.2.1 out.2.2.2.2.2.2.1 out.2.2.2.2.2.2.2.1 out.2.2.2.2.2.2.2.2.1 out.2.2.2.2.2.2.2.2.2.1 out.2.2.2.2.2.2.2.2.2.2.1 out.2.2.2.2.2.2.2.2.2.2.2) H → va_D A (wd_X8_keep cy o_t out.2.1 x_delay x_feel x_turn x_sight x_ball x_w x_h x_n x_players out.2.2.1 out.2.2.2.1 out.2.2.2.2.1 out.2.2.2.2.2.1 out.2.2.2.2.2.2.1 out.2.2.2.2.2.2.2.1 out.2.2.2.2.2.2.2.2.1 out.2.2.2.2.2.2.2.2.2.1 out.2.2.2.2.2.2.2.2.2.2.1 out.2.2.2.2.2.2.2.2.2.2.2) → va_S A s.heap H locs → decode cX8_keep pc = .ok (.ireturn, 1) → W p l e (rmm 2 45) s m args below meth c H locs 0 0 Q (F0 m pc ls [.int out.1])) : W p l e (rmm 2 45) s m args below meth c H locs 0 0 Q (F0 m 0 ls []) := by
  have k0 := hts (.fieldLink RX8 100 "SeaGamesModel" "thrown" "I") (List.mem_cons_of_mem _ (List.mem_append_left _ (List.mem_append_left _ (List.mem_of_getElem? (i := 0) rfl))))
  have k1 : ∀ w ∈ u_ws RX8 TX8 36, w ∈ wsX8_keep := fun _ h => List.mem_cons_of_mem _ (List.mem_append_right _ h)
  have k2 := hts (.fieldLink RX8 37 "SeaGamesModel" "isKept" "[Z") (List.mem_cons_of_mem _ (List.mem_append_left _ (List.mem_append_left _ (List.mem_of_getElem? (i := 1) rfl))))
  rw [X8_keep] at hf
  refine lv_aload_n hx hb dX8_keep_0 rfl (lv_at hl 0 rfl) ?_
  refine lv_iconst (v := (0 : Int32)) hx hb dX8_keep_1 (by decide) ?_
  refine va_put (D := D) (ci := 8) (v := .int (0 : Int32)) (ty := .int) (C := RX8) (T := TX8) (N := 36) hx hb hts k1 tyX8 tyX8_ok nmX8 hown hK hP hD hS 0 rfl rfl 0 (by decide) k0 (fun _ h9 => h9) rfl (by decide +kernel) rfl rfl (Nat.le_of_ble_eq_true rfl) dX8_keep_2 (fun H locs hP hD hS => ?_)
  have hP : va_P D vwCl (wd_X8_keep cy o_t (0 : Int32) x_delay x_feel x_turn x_sight x_ball x_w x_h x_n x_players x_wide x_tall x_hands x_power x_spin x_seed x_pressed x_leftFrom x_leftTo x_isKept) H := hP
  have hD : va_D A (wd_X8_keep cy o_t (0 : Int32) x_delay x_feel x_turn x_sight x_ball x_w x_h x_n x_players x_wide x_tall x_hands x_power x_spin x_seed x_pressed x_leftFrom x_leftTo x_isKept) := hD
  refine lv_iload_n hx hb dX8_keep_5 rfl (lv_at hl 1 rfl) ?_
  obtain ⟨r6, hr6, hf⟩ := bd_s hf
  refine my_Si (WS2 := (wd_X8_keep cy o_t (0 : Int32) x_delay x_feel x_turn x_sight x_ball x_w x_h x_n x_players x_wide x_tall x_hands x_power x_spin x_seed x_pressed x_leftFrom x_leftTo x_isKept)) ⟨hx, hb, hml, hown, hts⟩ (c_X8_noSlot l D cy t p1 hr6) (va_cwS 1 hts gX8_keep_X8_noSlot rfl rfl rfl hd_X8_noSlot ⟨Nat.le_of_ble_eq_true rfl, Nat.le_of_ble_eq_true rfl⟩) hK hE hP hD hS hA [] 11 rfl rfl (by decide +kernel) rfl rfl hl.1 rfl (Nat.le_of_ble_eq_true rfl) dX8_keep_6 ⟨Nat.le_of_ble_eq_true rfl, Nat.le_of_ble_eq_true rfl⟩ (fun H locs hP hD hS => ?_)
  refine lv_if_eq (tgt := 14) hx hb dX8_keep_9 (by decide) (fun c9 => ?_) (fun c9 => ?_)
  · have hf := ifp c9 hf
    refine lv_aload_n hx hb dX8_keep_14 rfl (lv_at hl 0 rfl) ?_
    refine lv_iconst (v := (4 : Int32)) hx hb dX8_keep_15 (by decide) ?_
    refine lv_iload_n hx hb dX8_keep_16 rfl (lv_at hl 1 rfl) ?_
    obtain ⟨r17, hr17, hf⟩ := bd_s hf
    refine my_Vv (WS2 := (wd_X8_keep cy o_t (0 : Int32) x_delay x_feel x_turn x_sight x_ball x_w x_h x_n x_players r17.1 r17.2.1 r17.2.2.1 r17.2.2.2.1 r17.2.2.2.2.1 r17.2.2.2.2.2.1 r17.2.2.2.2.2.2.1 r17.2.2.2.2.2.2.2.1 r17.2.2.2.2.2.2.2.2 x_isKept)) ⟨hx, hb, hml, hown, hts⟩ (c_X8_copy l D cy t o_t (0 : Int32) x_delay x_feel x_turn x_sight x_ball x_w x_h x_n x_players x_wide x_tall x_hands x_power x_spin x_seed x_pressed x_leftFrom x_leftTo (4 : Int32) p1 hr17) (cwV 2 hts gX8_keep_X8_copy rfl rfl rfl ⟨rfl, hd_X8_copy⟩ ⟨Nat.le_of_ble_eq_true rfl, Nat.le_of_ble_eq_true rfl⟩) hK hE hP hD hS hA [0, 1, 2, 3, 4, 5, 6, 7, 8, 9] 11 8 0 rfl rfl rfl rfl (by decide +kernel) rfl rfl hl.1 rfl (Nat.le_of_ble_eq_true rfl) dX8_keep_17 ⟨Nat.le_of_ble_eq_true rfl, Nat.le_of_ble_eq_true rfl⟩ (fun H locs hP hD hS => ?_)
    refine lv_aload_n hx hb dX8_keep_20 rfl (lv_at hl 0 rfl) ?_
    refine va_get (D := D) (ci := 8) (v := .ref (o_t 11)) (C := RX8) (T := TX8) (N := 36) hx hb hts k1 hown hK hP 0 rfl rfl 10 (by decide) k2 (fun _ h9 => h9) rfl dX8_keep_21 ?_
    refine lv_iload_n hx hb dX8_keep_24 rfl (lv_at hl 1 rfl) ?_
    refine lv_iconst (v := (1 : Int32)) hx hb dX8_keep_25 (by decide) ?_
    obtain ⟨w26, b26, ew26, hf⟩ := wrZ_s hf
    refine my_zast (ws2 := (wd_X8_keep cy o_t (0 : Int32) x_delay x_feel x_turn x_sight x_ball x_w x_h x_n x_players r17.1 r17.2.1 r17.2.2.1 r17.2.2.2.1 r17.2.2.2.2.1 r17.2.2.2.2.2.1 r17.2.2.2.2.2.2.1 r17.2.2.2.2.2.2.2.1 r17.2.2.2.2.2.2.2.2 w26)) hx hb hK hP hD hS 10 rfl b26 ew26 rfl dX8_keep_26 (fun H locs hP hD hS => ?_)
    refine lv_aload_n hx hb dX8_keep_27 rfl (lv_at hl 0 rfl) ?_
    obtain ⟨r28, hr28, hf⟩ := bd_s hf
    refine my_Vi (WS2 := (wd_X8_keep cy o_t (0 : Int32) x_delay x_feel x_turn x_sight x_ball x_w x_h x_n x_players r17.1 r17.2.1 r17.2.2.1 r17.2.2.2.1 r17.2.2.2.2.1 r17.2.2.2.2.2.1 r17.2.2.2.2.2.2.1 r17.2.2.2.2.2.2.2.1 r17.2.2.2.2.2.2.2.2 w26)) ⟨hx, hb, hml, hown, hts⟩ (c_X8_presses l D cy t o_t (0 : Int32) x_delay x_feel x_turn x_sight x_ball x_w x_h x_n x_players r17.2.2.1 r17.2.2.2.2.2.2.1 hr28) (cwV 0 hts gX8_keep_X8_presses rfl rfl rfl ⟨rfl, hd_X8_presses⟩ ⟨Nat.le_of_ble_eq_true rfl, Nat.le_of_ble_eq_true rfl⟩) hK hE hP hD hS hA [0, 3, 7] 11 8 0 rfl rfl rfl rfl (by decide +kernel) rfl rfl hl.1 rfl (Nat.le_of_ble_eq_true rfl) dX8_keep_28 ⟨Nat.le_of_ble_eq_true rfl, Nat.le_of_ble_eq_true rfl⟩ (fun H locs hP hD hS => ?_)
    obtain rfl := Option.some.inj hf
    exact hR _ _ _ _ hP hD hS dX8_keep_31
  · have hf := ifn c9 hf
    refine lv_iconst (v := (-1 : Int32)) hx hb dX8_keep_12 (by decide) ?_
    obtain rfl := Option.some.inj hf
    exact hR _ _ _ _ hP hD hS dX8_keep_13
theorem hd_X8_keep : yX8_keep.cls ≠ "java/lang/invoke/MethodHandle" ∧ yX8_keep.cls ≠ "java/lang/invoke/VarHandle" ∧ (parseMethodDescriptor yX8_keep.desc).map (fun d => d.parameters.length) = some 1 := by decide +kernel
set_option maxRecDepth 100000 in
theorem c_X8_keep (l : Launch) (D : va_G) (cy : Nat → ClassId) (t : Nat → Nat) (o_t : Nat → Nat) (x_thrown : Int32) (x_delay : Int32) (x_feel : Int32) (x_turn : Int32) (x_sight : Int32) (x_ball : Int32) (x_w : Int32) (x_h : Int32) (x_n : Int32) (x_players : Int32) (x_wide : Nat → Int32) (x_tall : Nat → Int32) (x_hands : Nat → Int32) (x_power : Nat → Int32) (x_spin : Nat → Int32) (x_seed : Nat → Int32) (x_pressed : Nat → Int32) (x_leftFrom : Nat → Int32) (x_leftTo : Nat → Int32) (x_isKept : Nat → Int32) (p1 : Int32) {out : Int32 × Int32 × (Nat → Int32) × (Nat → Int32) × (Nat → Int32) × (Nat → Int32) × (Nat → Int32) × (Nat → Int32) × (Nat → Int32) × (Nat → Int32) × (Nat → Int32) × (Nat → Int32)} (hf : X8_keep x_thrown x_wide x_tall x_hands x_power x_spin x_seed x_pressed x_leftFrom x_leftTo x_isKept p1 = some out) : ctI l yX8_keep wsX8_keep 2 45 D cy t [.ref (o_t 0), .int p1] (wd_X8_keep cy o_t x_thrown x_delay x_feel x_turn x_sight x_ball x_w x_h x_n x_players x_wide x_tall x_hands x_power x_spin x_seed x_pressed x_leftFrom x_leftTo x_isKept) (wd_X8_keep cy o_t out.2.1 x_delay x_feel x_turn x_sight x_ball x_w x_h x_n x_players out.2.2.1 out.2.2.2.1 out.2.2.2.2.1 out.2.2.2.2.2.1 out.2.2.2.2.2.2.1 out.2.2.2.2.2.2.2.1 out.2.2.2.2.2.2.2.2.1 out.2.2.2.2.2.2.2.2.2.1 out.2.2.2.2.2.2.2.2.2.2.1 out.2.2.2.2.2.2.2.2.2.2.2) out.1 := by
  refine ⟨rfl, ?_⟩
  intro sz
  refine Met.ofW (cc := cX8_keep) (maxL := 2) (ret := (some .int)) (by decide) rfl ?_
  intro p e s m args below meth c s₁ B hml hv
  obtain ⟨rfl, hsz, hP, hK, hD0, hE⟩ := hv
  have hts := atoms_spec (ws := wsX8_keep) B.pre
  have hown : s.vm.findClass RX8 = some m.cls := findClass_of_methodNamed B.named
  have hlocks := B.notSynchronized
  subst hsz
  have hD := hD0.self (sz := s.heap.size)
  have hl := lv_entry ([.ref (o_t 0), .int p1]) (n := 2) (Nat.le_of_ble_eq_true rfl)
  rw [lg_entry_eq]
  generalize (lg_sl ([.ref (o_t 0), .int p1]) ++ List.replicate (2 - (lg_sl ([.ref (o_t 0), .int p1])).length) Slot.unset).toArray = ls at hl ⊢
  exact w_X8_keep D cy t o_t x_thrown x_delay x_feel x_turn x_sight x_ball x_w x_h x_n x_players x_wide x_tall x_hands x_power x_spin x_seed x_pressed x_leftFrom x_leftTo x_isKept p1 hf B.exec B.bytes hml hown hts hK hE (fun q h => Or.inr h) hP hD va_S.rf hl (fun H locs ls pc hP hD hS hdg => W.iret B.exec B.bytes B.returns (fun t ht hW => ⟨⟨_, (), rfl, rfl, ctB_of ht hP⟩, hS.F ht⟩) hS.2.2 hdg)

noncomputable def X8_again (x_isKept : Nat → Int32) (x_thrown : Int32) (x_wide : Nat → Int32) (x_tall : Nat → Int32) (x_hands : Nat → Int32) (x_power : Nat → Int32) (x_spin : Nat → Int32) (x_seed : Nat → Int32) (x_pressed : Nat → Int32) (x_leftFrom : Nat → Int32) (x_leftTo : Nat → Int32) (p1 : Int32) : Option (Int32 × Int32 × (Nat → Int32) × (Nat → Int32) × (Nat → Int32) × (Nat → Int32) × (Nat → Int32) × (Nat → Int32) × (Nat → Int32) × (Nat → Int32) × (Nat → Int32)) :=
  bd (X8_noSlot p1) fun r6 => if r6 = (0 : Int32) then (rd x_isKept 4 p1 fun v19 => if v19 = (0 : Int32) then (some ((-3 : Int32), (0 : Int32), x_wide, x_tall, x_hands, x_power, x_spin, x_seed, x_pressed, x_leftFrom, x_leftTo)) else (bd (X8_copy x_wide x_tall x_hands x_power x_spin x_seed x_pressed x_leftFrom x_leftTo p1 (4 : Int32)) fun r29 => rd r29.2.2.1 5 (4 : Int32) fun v37 => some (v37, (0 : Int32), r29.1, r29.2.1, r29.2.2.1, r29.2.2.2.1, r29.2.2.2.2.1, r29.2.2.2.2.2.1, r29.2.2.2.2.2.2.1, r29.2.2.2.2.2.2.2.1, r29.2.2.2.2.2.2.2.2))) else (some ((-1 : Int32), (0 : Int32), x_wide, x_tall, x_hands, x_power, x_spin, x_seed, x_pressed, x_leftFrom, x_leftTo))
abbrev wd_X8_again (cy : Nat → ClassId) (o_t : Nat → Nat) (x_thrown : Int32) (x_delay : Int32) (x_feel : Int32) (x_turn : Int32) (x_sight : Int32) (x_ball : Int32) (x_w : Int32) (x_h : Int32) (x_n : Int32) (x_players : Int32) (x_wide : Nat → Int32) (x_tall : Nat → Int32) (x_hands : Nat → Int32) (x_power : Nat → Int32) (x_spin : Nat → Int32) (x_seed : Nat → Int32) (x_pressed : Nat → Int32) (x_leftFrom : Nat → Int32) (x_leftTo : Nat → Int32) (x_isKept : Nat → Int32) : va_W := [(o_t 0, .inr (8, [.int x_thrown, .ref (o_t 2), .ref (o_t 3), .ref (o_t 4), .ref (o_t 5), .ref (o_t 6), .ref (o_t 7), .ref (o_t 8), .ref (o_t 9), .ref (o_t 10), .ref (o_t 11), .int x_delay, .int x_feel, .int x_turn, .int x_sight, .ref (o_t 16), .ref (o_t 17), .ref (o_t 18), .ref (o_t 19), .int x_ball, .int x_w, .int x_h, .int x_n, .ref (o_t 24), .ref (o_t 25), .ref (o_t 26), .ref (o_t 27), .ref (o_t 28), .ref (o_t 29), .int x_players, .ref (o_t 31), .ref (o_t 32), .ref (o_t 33), .ref (o_t 34), .ref (o_t 35), .ref (o_t 36)])), (o_t 2, .inl (cy 0, 5, .inl x_wide)), (o_t 3, .inl (cy 0, 5, .inl x_tall)), (o_t 4, .inl (cy 0, 5, .inl x_hands)), (o_t 5, .inl (cy 0, 5, .inl x_power)), (o_t 6, .inl (cy 0, 5, .inl x_spin)), (o_t 7, .inl (cy 0, 5, .inl x_seed)), (o_t 8, .inl (cy 0, 3000, .inl x_pressed)), (o_t 9, .inl (cy 0, 30, .inl x_leftFrom)), (o_t 10, .inl (cy 0, 30, .inl x_leftTo)), (o_t 11, .inl (cy 1, 4, .inl x_isKept))]
set_option maxHeartbeats 4000000 in
set_option maxRecDepth 100000 in
theorem w_X8_again {p : Program} {l : Launch} {e : Env} {s : State} {m : MethodId} {args : Array Value} {below : List Frame} {meth : Method} {c : Code} {Q : State → Prop} {A : Nat → Prop} {H : Heap} {locs : List Loc} {ls : Array Slot} (D : va_G) (cy : Nat → ClassId) (t : Nat → Nat) (o_t : Nat → Nat) (x_thrown : Int32) (x_delay : Int32) (x_feel : Int32) (x_turn : Int32) (x_sight : Int32) (x_ball : Int32) (x_w : Int32) (x_h : Int32) (x_n : Int32) (x_players : Int32) (x_wide : Nat → Int32) (x_tall : Nat → Int32) (x_hands : Nat → Int32) (x_power : Nat → Int32) (x_spin : Nat → Int32) (x_seed : Nat → Int32) (x_pressed : Nat → Int32) (x_leftFrom : Nat → Int32) (x_leftTo : Nat → Int32) (x_isKept : Nat → Int32) (p1 : Int32) {out : Int32 × Int32 × (Nat → Int32) × (Nat → Int32) × (Nat → Int32) × (Nat → Int32) × (Nat → Int32) × (Nat → Int32) × (Nat → Int32) × (Nat → Int32) × (Nat → Int32)} (hf : X8_again x_isKept x_thrown x_wide x_tall x_hands x_power x_spin x_seed x_pressed x_leftFrom x_leftTo p1 = some out) (hx : p.tables.exec = Jvm.exec) (hb : c.code = cX8_again) (hml : c.maxLocals = 2) (hown : s.vm.findClass RX8 = some m.cls) (hts : ∀ w ∈ wsX8_again, w.before args s = true) (hK : va_K D vwCl (TYS cy) s) (hE : EV t A s s.heap) (hA : ∀ q, s.heap.size ≤ q → A q) (hP : va_P D vwCl (wd_X8_again cy o_t x_thrown x_delay x_feel x_turn x_sight x_ball x_w x_h x_n x_players x_wide x_tall x_hands x_power x_spin x_seed x_pressed x_leftFrom x_leftTo x_isKept) H) (hD : va_D A (wd_X8_again cy o_t x_thrown x_delay x_feel x_turn x_sight x_ball x_w x_h x_n x_players x_wide x_tall x_hands x_power x_spin x_seed x_pressed x_leftFrom x_leftTo x_isKept)) (hS : va_S A s.heap H locs) (hl : lv_has ls 2 [(0, .ref (o_t 0)), (1, .int p1)]) (hR : ∀ (H : Heap) (locs : List Loc) (ls : Array Slot) (pc : Nat), va_P D vwCl (wd_X8_again cy o_t out.2.1 x_delay x_feel x_turn x_sight x_ball x_w x_h x_n x_players out.2.2.1 out.2.2.2.1 out.2.2.2.2.1 out.2.2.2.2.2.1 out.2.2.2.2.2.2.1 out.2.2.2.2.2.2.2.1 out.2.2.2.2.2.2.2.2.1 out.2.2.2.2.2.2.2.2.2.1 out.2.2.2.2.2.2.2.2.2.2 x_isKept) H → va_D A (wd_X8_again cy o_t out.2.1 x_delay x_feel x_turn x_sight x_ball x_w x_h x_n x_players out.2.2.1 out.2.2.2.1 out.2.2.2.2.1 out.2.2.2.2.2.1 out.2.2.2.2.2.2.1 out.2.2.2.2.2.2.2.1 out.2.2.2.2.2.2.2.2.1 out.2.2.2.2.2.2.2.2.2.1 out.2.2.2.2.2.2.2.2.2.2 x_isKept) → va_S A s.heap H locs → decode cX8_again pc = .ok (.ireturn, 1) → W p l e (rmm 2 45) s m args below meth c H locs 0 0 Q (F0 m pc ls [.int out.1])) : W p l e (rmm 2 45) s m args below meth c H locs 0 0 Q (F0 m 0 ls []) := by
  have k0 := hts (.fieldLink RX8 100 "SeaGamesModel" "thrown" "I") (List.mem_cons_of_mem _ (List.mem_append_left _ (List.mem_of_getElem? (i := 0) rfl)))
  have k1 : ∀ w ∈ u_ws RX8 TX8 36, w ∈ wsX8_again := fun _ h => List.mem_cons_of_mem _ (List.mem_append_right _ h)
  have k2 := hts (.fieldLink RX8 37 "SeaGamesModel" "isKept" "[Z") (List.mem_cons_of_mem _ (List.mem_append_left _ (List.mem_of_getElem? (i := 1) rfl)))
  have k3 := hts (.fieldLink RX8 16 "SeaGamesModel" "hands" "[I") (List.mem_cons_of_mem _ (List.mem_append_left _ (List.mem_of_getElem? (i := 2) rfl)))
  rw [X8_again] at hf
  refine lv_aload_n hx hb dX8_again_0 rfl (lv_at hl 0 rfl) ?_
  refine lv_iconst (v := (0 : Int32)) hx hb dX8_again_1 (by decide) ?_
  refine va_put (D := D) (ci := 8) (v := .int (0 : Int32)) (ty := .int) (C := RX8) (T := TX8) (N := 36) hx hb hts k1 tyX8 tyX8_ok nmX8 hown hK hP hD hS 0 rfl rfl 0 (by decide) k0 (fun _ h9 => h9) rfl (by decide +kernel) rfl rfl (Nat.le_of_ble_eq_true rfl) dX8_again_2 (fun H locs hP hD hS => ?_)
  have hP : va_P D vwCl (wd_X8_again cy o_t (0 : Int32) x_delay x_feel x_turn x_sight x_ball x_w x_h x_n x_players x_wide x_tall x_hands x_power x_spin x_seed x_pressed x_leftFrom x_leftTo x_isKept) H := hP
  have hD : va_D A (wd_X8_again cy o_t (0 : Int32) x_delay x_feel x_turn x_sight x_ball x_w x_h x_n x_players x_wide x_tall x_hands x_power x_spin x_seed x_pressed x_leftFrom x_leftTo x_isKept) := hD
  refine lv_iload_n hx hb dX8_again_5 rfl (lv_at hl 1 rfl) ?_
  obtain ⟨r6, hr6, hf⟩ := bd_s hf
  refine my_Si (WS2 := (wd_X8_again cy o_t (0 : Int32) x_delay x_feel x_turn x_sight x_ball x_w x_h x_n x_players x_wide x_tall x_hands x_power x_spin x_seed x_pressed x_leftFrom x_leftTo x_isKept)) ⟨hx, hb, hml, hown, hts⟩ (c_X8_noSlot l D cy t p1 hr6) (va_cwS 1 hts gX8_again_X8_noSlot rfl rfl rfl hd_X8_noSlot ⟨Nat.le_of_ble_eq_true rfl, Nat.le_of_ble_eq_true rfl⟩) hK hE hP hD hS hA [] 11 rfl rfl (by decide +kernel) rfl rfl hl.1 rfl (Nat.le_of_ble_eq_true rfl) dX8_again_6 ⟨Nat.le_of_ble_eq_true rfl, Nat.le_of_ble_eq_true rfl⟩ (fun H locs hP hD hS => ?_)
  refine lv_if_eq (tgt := 14) hx hb dX8_again_9 (by decide) (fun c9 => ?_) (fun c9 => ?_)
  · have hf := ifp c9 hf
    refine lv_aload_n hx hb dX8_again_14 rfl (lv_at hl 0 rfl) ?_
    refine va_get (D := D) (ci := 8) (v := .ref (o_t 11)) (C := RX8) (T := TX8) (N := 36) hx hb hts k1 hown hK hP 0 rfl rfl 10 (by decide) k2 (fun _ h9 => h9) rfl dX8_again_15 ?_
    refine lv_iload_n hx hb dX8_again_18 rfl (lv_at hl 1 rfl) ?_
    obtain ⟨v19, b19, ev19, hf⟩ := rd_s hf
    refine my_zald hx hb hK hP 10 rfl b19 ev19 dX8_again_19 ?_
    refine lv_if_ne (tgt := 26) hx hb dX8_again_20 (by decide) (fun c20 => ?_) (fun c20 => ?_)
    · have hf := ifn c20 hf
      refine lv_aload_n hx hb dX8_again_26 rfl (lv_at hl 0 rfl) ?_
      refine lv_iload_n hx hb dX8_again_27 rfl (lv_at hl 1 rfl) ?_
      refine lv_iconst (v := (4 : Int32)) hx hb dX8_again_28 (by decide) ?_
      obtain ⟨r29, hr29, hf⟩ := bd_s hf
      refine my_Vv (WS2 := (wd_X8_again cy o_t (0 : Int32) x_delay x_feel x_turn x_sight x_ball x_w x_h x_n x_players r29.1 r29.2.1 r29.2.2.1 r29.2.2.2.1 r29.2.2.2.2.1 r29.2.2.2.2.2.1 r29.2.2.2.2.2.2.1 r29.2.2.2.2.2.2.2.1 r29.2.2.2.2.2.2.2.2 x_isKept)) ⟨hx, hb, hml, hown, hts⟩ (c_X8_copy l D cy t o_t (0 : Int32) x_delay x_feel x_turn x_sight x_ball x_w x_h x_n x_players x_wide x_tall x_hands x_power x_spin x_seed x_pressed x_leftFrom x_leftTo p1 (4 : Int32) hr29) (cwV 2 hts gX8_again_X8_copy rfl rfl rfl ⟨rfl, hd_X8_copy⟩ ⟨Nat.le_of_ble_eq_true rfl, Nat.le_of_ble_eq_true rfl⟩) hK hE hP hD hS hA [0, 1, 2, 3, 4, 5, 6, 7, 8, 9] 11 8 0 rfl rfl rfl rfl (by decide +kernel) rfl rfl hl.1 rfl (Nat.le_of_ble_eq_true rfl) dX8_again_29 ⟨Nat.le_of_ble_eq_true rfl, Nat.le_of_ble_eq_true rfl⟩ (fun H locs hP hD hS => ?_)
      refine lv_aload_n hx hb dX8_again_32 rfl (lv_at hl 0 rfl) ?_
      refine va_get (D := D) (ci := 8) (v := .ref (o_t 4)) (C := RX8) (T := TX8) (N := 36) hx hb hts k1 hown hK hP 0 rfl rfl 3 (by decide) k3 (fun _ h9 => h9) rfl dX8_again_33 ?_
      refine lv_iconst (v := (4 : Int32)) hx hb dX8_again_36 (by decide) ?_
      obtain ⟨v37, b37, ev37, hf⟩ := rd_s hf
      refine my_iald hx hb hK hP 3 rfl b37 ev37 dX8_again_37 ?_
      obtain rfl := Option.some.inj hf
      exact hR _ _ _ _ hP hD hS dX8_again_38
    · have hf := ifp c20 hf
      refine lv_bipush (v := (-3 : Int32)) hx hb dX8_again_23 (by decide) ?_
      obtain rfl := Option.some.inj hf
      exact hR _ _ _ _ hP hD hS dX8_again_25
  · have hf := ifn c9 hf
    refine lv_iconst (v := (-1 : Int32)) hx hb dX8_again_12 (by decide) ?_
    obtain rfl := Option.some.inj hf
    exact hR _ _ _ _ hP hD hS dX8_again_13
theorem hd_X8_again : yX8_again.cls ≠ "java/lang/invoke/MethodHandle" ∧ yX8_again.cls ≠ "java/lang/invoke/VarHandle" ∧ (parseMethodDescriptor yX8_again.desc).map (fun d => d.parameters.length) = some 1 := by decide +kernel
set_option maxRecDepth 100000 in
theorem c_X8_again (l : Launch) (D : va_G) (cy : Nat → ClassId) (t : Nat → Nat) (o_t : Nat → Nat) (x_thrown : Int32) (x_delay : Int32) (x_feel : Int32) (x_turn : Int32) (x_sight : Int32) (x_ball : Int32) (x_w : Int32) (x_h : Int32) (x_n : Int32) (x_players : Int32) (x_wide : Nat → Int32) (x_tall : Nat → Int32) (x_hands : Nat → Int32) (x_power : Nat → Int32) (x_spin : Nat → Int32) (x_seed : Nat → Int32) (x_pressed : Nat → Int32) (x_leftFrom : Nat → Int32) (x_leftTo : Nat → Int32) (x_isKept : Nat → Int32) (p1 : Int32) {out : Int32 × Int32 × (Nat → Int32) × (Nat → Int32) × (Nat → Int32) × (Nat → Int32) × (Nat → Int32) × (Nat → Int32) × (Nat → Int32) × (Nat → Int32) × (Nat → Int32)} (hf : X8_again x_isKept x_thrown x_wide x_tall x_hands x_power x_spin x_seed x_pressed x_leftFrom x_leftTo p1 = some out) : ctI l yX8_again wsX8_again 2 45 D cy t [.ref (o_t 0), .int p1] (wd_X8_again cy o_t x_thrown x_delay x_feel x_turn x_sight x_ball x_w x_h x_n x_players x_wide x_tall x_hands x_power x_spin x_seed x_pressed x_leftFrom x_leftTo x_isKept) (wd_X8_again cy o_t out.2.1 x_delay x_feel x_turn x_sight x_ball x_w x_h x_n x_players out.2.2.1 out.2.2.2.1 out.2.2.2.2.1 out.2.2.2.2.2.1 out.2.2.2.2.2.2.1 out.2.2.2.2.2.2.2.1 out.2.2.2.2.2.2.2.2.1 out.2.2.2.2.2.2.2.2.2.1 out.2.2.2.2.2.2.2.2.2.2 x_isKept) out.1 := by
  refine ⟨rfl, ?_⟩
  intro sz
  refine Met.ofW (cc := cX8_again) (maxL := 2) (ret := (some .int)) (by decide) rfl ?_
  intro p e s m args below meth c s₁ B hml hv
  obtain ⟨rfl, hsz, hP, hK, hD0, hE⟩ := hv
  have hts := atoms_spec (ws := wsX8_again) B.pre
  have hown : s.vm.findClass RX8 = some m.cls := findClass_of_methodNamed B.named
  have hlocks := B.notSynchronized
  subst hsz
  have hD := hD0.self (sz := s.heap.size)
  have hl := lv_entry ([.ref (o_t 0), .int p1]) (n := 2) (Nat.le_of_ble_eq_true rfl)
  rw [lg_entry_eq]
  generalize (lg_sl ([.ref (o_t 0), .int p1]) ++ List.replicate (2 - (lg_sl ([.ref (o_t 0), .int p1])).length) Slot.unset).toArray = ls at hl ⊢
  exact w_X8_again D cy t o_t x_thrown x_delay x_feel x_turn x_sight x_ball x_w x_h x_n x_players x_wide x_tall x_hands x_power x_spin x_seed x_pressed x_leftFrom x_leftTo x_isKept p1 hf B.exec B.bytes hml hown hts hK hE (fun q h => Or.inr h) hP hD va_S.rf hl (fun H locs ls pc hP hD hS hdg => W.iret B.exec B.bytes B.returns (fun t ht hW => ⟨⟨_, (), rfl, rfl, ctB_of ht hP⟩, hS.F ht⟩) hS.2.2 hdg)

noncomputable def X8_tried (x_wide : Nat → Int32) (x_tall : Nat → Int32) (x_hands : Nat → Int32) (x_spin : Nat → Int32) (x_seed : Nat → Int32) (x_pressed : Nat → Int32) (x_leftFrom : Nat → Int32) (x_leftTo : Nat → Int32) (x_isKept : Nat → Int32) (x_thrown : Int32) (x_ball : Int32) (x_w : Int32) (x_h : Int32) (x_n : Int32) (x_place : Nat → Int32) (x_points : Nat → Int32) (p1 : Int32) (p2 : Int32) (p3 : Int32) (p4 : Int32) : Option (Int32 × Int32 × Int32 × Int32 × Int32 × Int32 × (Nat → Int32) × (Nat → Int32)) :=
  bd (X8_noSlot p1) fun r6 => if r6 = (0 : Int32) then (bd (X8_noTick p3) fun r13 => if r13 = (0 : Int32) then (rd x_isKept 4 p1 fun v26 => if v26 = (0 : Int32) then (some ((-3 : Int32), (0 : Int32), x_ball, x_w, x_h, x_n, x_place, x_points)) else (bd (X8_in (Int32.toInt64 p2) (1 : Int64) (5 : Int64)) fun r39 => if r39 = (0 : Int32) then (some ((-2 : Int32), (0 : Int32), x_ball, x_w, x_h, x_n, x_place, x_points)) else (rd x_hands 5 p1 fun v53 => bd (X8_noWhat p4 v53) fun r54 => if r54 = (0 : Int32) then (bd (X8_live x_wide x_tall x_hands x_spin x_seed x_pressed x_leftFrom x_leftTo x_ball x_w x_h x_n x_place x_points p1 p3 p2) fun r67 => bd (X8_seen r67.1 r67.2.2.2.2.1 r67.2.2.2.2.2 p4) fun r73 => some (r73, (0 : Int32), r67.1, r67.2.1, r67.2.2.1, r67.2.2.2.1, r67.2.2.2.2.1, r67.2.2.2.2.2)) else (some ((-2 : Int32), (0 : Int32), x_ball, x_w, x_h, x_n, x_place, x_points))))) else (some ((-1 : Int32), (0 : Int32), x_ball, x_w, x_h, x_n, x_place, x_points))) else (some ((-1 : Int32), (0 : Int32), x_ball, x_w, x_h, x_n, x_place, x_points))
abbrev wd_X8_tried (cy : Nat → ClassId) (o_t : Nat → Nat) (x_thrown : Int32) (x_delay : Int32) (x_feel : Int32) (x_turn : Int32) (x_sight : Int32) (x_ball : Int32) (x_w : Int32) (x_h : Int32) (x_n : Int32) (x_players : Int32) (x_wide : Nat → Int32) (x_tall : Nat → Int32) (x_hands : Nat → Int32) (x_spin : Nat → Int32) (x_seed : Nat → Int32) (x_pressed : Nat → Int32) (x_leftFrom : Nat → Int32) (x_leftTo : Nat → Int32) (x_isKept : Nat → Int32) (x_place : Nat → Int32) (x_points : Nat → Int32) : va_W := [(o_t 0, .inr (8, [.int x_thrown, .ref (o_t 2), .ref (o_t 3), .ref (o_t 4), .ref (o_t 5), .ref (o_t 6), .ref (o_t 7), .ref (o_t 8), .ref (o_t 9), .ref (o_t 10), .ref (o_t 11), .int x_delay, .int x_feel, .int x_turn, .int x_sight, .ref (o_t 16), .ref (o_t 17), .ref (o_t 18), .ref (o_t 19), .int x_ball, .int x_w, .int x_h, .int x_n, .ref (o_t 24), .ref (o_t 25), .ref (o_t 26), .ref (o_t 27), .ref (o_t 28), .ref (o_t 29), .int x_players, .ref (o_t 31), .ref (o_t 32), .ref (o_t 33), .ref (o_t 34), .ref (o_t 35), .ref (o_t 36)])), (o_t 2, .inl (cy 0, 5, .inl x_wide)), (o_t 3, .inl (cy 0, 5, .inl x_tall)), (o_t 4, .inl (cy 0, 5, .inl x_hands)), (o_t 6, .inl (cy 0, 5, .inl x_spin)), (o_t 7, .inl (cy 0, 5, .inl x_seed)), (o_t 8, .inl (cy 0, 3000, .inl x_pressed)), (o_t 9, .inl (cy 0, 30, .inl x_leftFrom)), (o_t 10, .inl (cy 0, 30, .inl x_leftTo)), (o_t 11, .inl (cy 1, 4, .inl x_isKept)), (o_t 18, .inl (cy 0, 6, .inl x_place)), (o_t 19, .inl (cy 0, 6, .inl x_points))]
set_option maxHeartbeats 4000000 in
set_option maxRecDepth 100000 in
theorem w_X8_tried {p : Program} {l : Launch} {e : Env} {s : State} {m : MethodId} {args : Array Value} {below : List Frame} {meth : Method} {c : Code} {Q : State → Prop} {A : Nat → Prop} {H : Heap} {locs : List Loc} {ls : Array Slot} (D : va_G) (cy : Nat → ClassId) (t : Nat → Nat) (o_t : Nat → Nat) (x_thrown : Int32) (x_delay : Int32) (x_feel : Int32) (x_turn : Int32) (x_sight : Int32) (x_ball : Int32) (x_w : Int32) (x_h : Int32) (x_n : Int32) (x_players : Int32) (x_wide : Nat → Int32) (x_tall : Nat → Int32) (x_hands : Nat → Int32) (x_spin : Nat → Int32) (x_seed : Nat → Int32) (x_pressed : Nat → Int32) (x_leftFrom : Nat → Int32) (x_leftTo : Nat → Int32) (x_isKept : Nat → Int32) (x_place : Nat → Int32) (x_points : Nat → Int32) (p1 : Int32) (p2 : Int32) (p3 : Int32) (p4 : Int32) {out : Int32 × Int32 × Int32 × Int32 × Int32 × Int32 × (Nat → Int32) × (Nat → Int32)} (hf : X8_tried x_wide x_tall x_hands x_spin x_seed x_pressed x_leftFrom x_leftTo x_isKept x_thrown x_ball x_w x_h x_n x_place x_points p1 p2 p3 p4 = some out) (hx : p.tables.exec = Jvm.exec) (hb : c.code = cX8_tried) (hml : c.maxLocals = 5) (hown : s.vm.findClass RX8 = some m.cls) (hts : ∀ w ∈ wsX8_tried, w.before args s = true) (hK : va_K D vwCl (TYS cy) s) (hE : EV t A s s.heap) (hA : ∀ q, s.heap.size ≤ q → A q) (hP : va_P D vwCl (wd_X8_tried cy o_t x_thrown x_delay x_feel x_turn x_sight x_ball x_w x_h x_n x_players x_wide x_tall x_hands x_spin x_seed x_pressed x_leftFrom x_leftTo x_isKept x_place x_points) H) (hD : va_D A (wd_X8_tried cy o_t x_thrown x_delay x_feel x_turn x_sight x_ball x_w x_h x_n x_players x_wide x_tall x_hands x_spin x_seed x_pressed x_leftFrom x_leftTo x_isKept x_place x_points)) (hS : va_S A s.heap H locs) (hl : lv_has ls 5 [(0, .ref (o_t 0)), (1, .int p1), (2, .int p2), (3, .int p3), (4, .int p4)]) (hR : ∀ (H : Heap) (locs : List Loc) (ls : Array Slot) (pc : Nat), va_P D vwCl (wd_X8_tried cy o_t out.2.1 x_delay x_feel x_turn x_sight out.2.2.1 out.2.2.2.1 out.2.2.2.2.1 out.2.2.2.2.2.1 x_players x_wide x_tall x_hands x_spin x_seed x_pressed x_leftFrom x_leftTo x_isKept out.2.2.2.2.2.2.1 out.2.2.2.2.2.2.2) H → va_D A (wd_X8_tried cy o_t out.2.1 x_delay x_feel x_turn x_sight out.2.2.1 out.2.2.2.1 out.2.2.2.2.1 out.2.2.2.2.2.1 x_players x_wide x_tall x_hands x_spin x_seed x_pressed x_leftFrom x_leftTo x_isKept out.2.2.2.2.2.2.1 out.2.2.2.2.2.2.2) → va_S A s.heap H locs → decode cX8_tried pc = .ok (.ireturn, 1) → W p l e (rmm 6 151) s m args below meth c H locs 0 0 Q (F0 m pc ls [.int out.1])) : W p l e (rmm 6 151) s m args below meth c H locs 0 0 Q (F0 m 0 ls []) := by
  have k0 := hts (.fieldLink RX8 100 "SeaGamesModel" "thrown" "I") (List.mem_cons_of_mem _ (List.mem_append_left _ (List.mem_append_left _ (List.mem_of_getElem? (i := 0) rfl))))
  have k1 : ∀ w ∈ u_ws RX8 TX8 36, w ∈ wsX8_tried := fun _ h => List.mem_cons_of_mem _ (List.mem_append_right _ h)
  have k2 := hts (.fieldLink RX8 37 "SeaGamesModel" "isKept" "[Z") (List.mem_cons_of_mem _ (List.mem_append_left _ (List.mem_append_left _ (List.mem_of_getElem? (i := 1) rfl))))
  have k3 := hts (.constantLong RX8 127 (5)) (List.mem_cons_of_mem _ (List.mem_append_left _ (List.mem_append_left _ (List.mem_of_getElem? (i := 2) rfl))))
  have k4 := hts (.fieldLink RX8 16 "SeaGamesModel" "hands" "[I") (List.mem_cons_of_mem _ (List.mem_append_left _ (List.mem_append_left _ (List.mem_of_getElem? (i := 3) rfl))))
  rw [X8_tried] at hf
  refine lv_aload_n hx hb dX8_tried_0 rfl (lv_at hl 0 rfl) ?_
  refine lv_iconst (v := (0 : Int32)) hx hb dX8_tried_1 (by decide) ?_
  refine va_put (D := D) (ci := 8) (v := .int (0 : Int32)) (ty := .int) (C := RX8) (T := TX8) (N := 36) hx hb hts k1 tyX8 tyX8_ok nmX8 hown hK hP hD hS 0 rfl rfl 0 (by decide) k0 (fun _ h9 => h9) rfl (by decide +kernel) rfl rfl (Nat.le_of_ble_eq_true rfl) dX8_tried_2 (fun H locs hP hD hS => ?_)
  have hP : va_P D vwCl (wd_X8_tried cy o_t (0 : Int32) x_delay x_feel x_turn x_sight x_ball x_w x_h x_n x_players x_wide x_tall x_hands x_spin x_seed x_pressed x_leftFrom x_leftTo x_isKept x_place x_points) H := hP
  have hD : va_D A (wd_X8_tried cy o_t (0 : Int32) x_delay x_feel x_turn x_sight x_ball x_w x_h x_n x_players x_wide x_tall x_hands x_spin x_seed x_pressed x_leftFrom x_leftTo x_isKept x_place x_points) := hD
  refine lv_iload_n hx hb dX8_tried_5 rfl (lv_at hl 1 rfl) ?_
  obtain ⟨r6, hr6, hf⟩ := bd_s hf
  refine my_Si (WS2 := (wd_X8_tried cy o_t (0 : Int32) x_delay x_feel x_turn x_sight x_ball x_w x_h x_n x_players x_wide x_tall x_hands x_spin x_seed x_pressed x_leftFrom x_leftTo x_isKept x_place x_points)) ⟨hx, hb, hml, hown, hts⟩ (c_X8_noSlot l D cy t p1 hr6) (va_cwS 1 hts gX8_tried_X8_noSlot rfl rfl rfl hd_X8_noSlot ⟨Nat.le_of_ble_eq_true rfl, Nat.le_of_ble_eq_true rfl⟩) hK hE hP hD hS hA [] 12 rfl rfl (by decide +kernel) rfl rfl hl.1 rfl (Nat.le_of_ble_eq_true rfl) dX8_tried_6 ⟨Nat.le_of_ble_eq_true rfl, Nat.le_of_ble_eq_true rfl⟩ (fun H locs hP hD hS => ?_)
  refine lv_if_ne (tgt := 19) hx hb dX8_tried_9 (by decide) (fun c9 => ?_) (fun c9 => ?_)
  · have hf := ifn c9 hf
    refine lv_iconst (v := (-1 : Int32)) hx hb dX8_tried_19 (by decide) ?_
    obtain rfl := Option.some.inj hf
    exact hR _ _ _ _ hP hD hS dX8_tried_20
  · have hf := ifp c9 hf
    refine lv_iload_n hx hb dX8_tried_12 rfl (lv_at hl 3 rfl) ?_
    obtain ⟨r13, hr13, hf⟩ := bd_s hf
    refine my_Si (WS2 := (wd_X8_tried cy o_t (0 : Int32) x_delay x_feel x_turn x_sight x_ball x_w x_h x_n x_players x_wide x_tall x_hands x_spin x_seed x_pressed x_leftFrom x_leftTo x_isKept x_place x_points)) ⟨hx, hb, hml, hown, hts⟩ (c_X8_noTick l D cy t p3 hr13) (va_cwS 1 hts gX8_tried_X8_noTick rfl rfl rfl hd_X8_noTick ⟨Nat.le_of_ble_eq_true rfl, Nat.le_of_ble_eq_true rfl⟩) hK hE hP hD hS hA [] 12 rfl rfl (by decide +kernel) rfl rfl hl.1 rfl (Nat.le_of_ble_eq_true rfl) dX8_tried_13 ⟨Nat.le_of_ble_eq_true rfl, Nat.le_of_ble_eq_true rfl⟩ (fun H locs hP hD hS => ?_)
    refine lv_if_eq (tgt := 21) hx hb dX8_tried_16 (by decide) (fun c16 => ?_) (fun c16 => ?_)
    · have hf := ifp c16 hf
      refine lv_aload_n hx hb dX8_tried_21 rfl (lv_at hl 0 rfl) ?_
      refine va_get (D := D) (ci := 8) (v := .ref (o_t 11)) (C := RX8) (T := TX8) (N := 36) hx hb hts k1 hown hK hP 0 rfl rfl 10 (by decide) k2 (fun _ h9 => h9) rfl dX8_tried_22 ?_
      refine lv_iload_n hx hb dX8_tried_25 rfl (lv_at hl 1 rfl) ?_
      obtain ⟨v26, b26, ev26, hf⟩ := rd_s hf
      refine my_zald hx hb hK hP 9 rfl b26 ev26 dX8_tried_26 ?_
      refine lv_if_ne (tgt := 33) hx hb dX8_tried_27 (by decide) (fun c27 => ?_) (fun c27 => ?_)
      · have hf := ifn c27 hf
        refine lv_iload_n hx hb dX8_tried_33 rfl (lv_at hl 2 rfl) ?_
        refine lv_i2l (v := (Int32.toInt64 p2)) hx hb dX8_tried_34 rfl ?_
        refine lv_lconst (v := (1 : Int64)) hx hb dX8_tried_35 (by decide) ?_
        refine lv_ldc2 (v := (5 : Int64)) hx hb hown k3 dX8_tried_36 ?_
        obtain ⟨r39, hr39, hf⟩ := bd_s hf
        refine my_Si (WS2 := (wd_X8_tried cy o_t (0 : Int32) x_delay x_feel x_turn x_sight x_ball x_w x_h x_n x_players x_wide x_tall x_hands x_spin x_seed x_pressed x_leftFrom x_leftTo x_isKept x_place x_points)) ⟨hx, hb, hml, hown, hts⟩ (c_X8_in l D cy t (Int32.toInt64 p2) (1 : Int64) (5 : Int64) hr39) (va_cwS 3 hts gX8_tried_X8_in rfl rfl rfl hd_X8_in ⟨Nat.le_of_ble_eq_true rfl, Nat.le_of_ble_eq_true rfl⟩) hK hE hP hD hS hA [] 12 rfl rfl (by decide +kernel) rfl rfl hl.1 rfl (Nat.le_of_ble_eq_true rfl) dX8_tried_39 ⟨Nat.le_of_ble_eq_true rfl, Nat.le_of_ble_eq_true rfl⟩ (fun H locs hP hD hS => ?_)
        refine lv_if_eq (tgt := 60) hx hb dX8_tried_42 (by decide) (fun c42 => ?_) (fun c42 => ?_)
        · have hf := ifp c42 hf
          refine lv_bipush (v := (-2 : Int32)) hx hb dX8_tried_60 (by decide) ?_
          obtain rfl := Option.some.inj hf
          exact hR _ _ _ _ hP hD hS dX8_tried_62
        · have hf := ifn c42 hf
          refine lv_aload_n hx hb dX8_tried_45 rfl (lv_at hl 0 rfl) ?_
          refine lv_iload hx hb dX8_tried_46 (lv_at hl 4 rfl) ?_
          refine lv_aload_n hx hb dX8_tried_48 rfl (lv_at hl 0 rfl) ?_
          refine va_get (D := D) (ci := 8) (v := .ref (o_t 4)) (C := RX8) (T := TX8) (N := 36) hx hb hts k1 hown hK hP 0 rfl rfl 3 (by decide) k4 (fun _ h9 => h9) rfl dX8_tried_49 ?_
          refine lv_iload_n hx hb dX8_tried_52 rfl (lv_at hl 1 rfl) ?_
          obtain ⟨v53, b53, ev53, hf⟩ := rd_s hf
          refine my_iald hx hb hK hP 3 rfl b53 ev53 dX8_tried_53 ?_
          obtain ⟨r54, hr54, hf⟩ := bd_s hf
          refine my_Vi (WS2 := (wd_X8_tried cy o_t (0 : Int32) x_delay x_feel x_turn x_sight x_ball x_w x_h x_n x_players x_wide x_tall x_hands x_spin x_seed x_pressed x_leftFrom x_leftTo x_isKept x_place x_points)) ⟨hx, hb, hml, hown, hts⟩ (c_X8_noWhat l D cy t o_t (0 : Int32) x_delay x_feel x_turn x_sight x_ball x_w x_h x_n x_players p4 v53 hr54) (cwV 2 hts gX8_tried_X8_noWhat rfl rfl rfl ⟨rfl, hd_X8_noWhat⟩ ⟨Nat.le_of_ble_eq_true rfl, Nat.le_of_ble_eq_true rfl⟩) hK hE hP hD hS hA [0] 12 8 0 rfl rfl rfl rfl (by decide +kernel) rfl rfl hl.1 rfl (Nat.le_of_ble_eq_true rfl) dX8_tried_54 ⟨Nat.le_of_ble_eq_true rfl, Nat.le_of_ble_eq_true rfl⟩ (fun H locs hP hD hS => ?_)
          refine lv_if_eq (tgt := 63) hx hb dX8_tried_57 (by decide) (fun c57 => ?_) (fun c57 => ?_)
          · have hf := ifp c57 hf
            refine lv_aload_n hx hb dX8_tried_63 rfl (lv_at hl 0 rfl) ?_
            refine lv_iload_n hx hb dX8_tried_64 rfl (lv_at hl 1 rfl) ?_
            refine lv_iload_n hx hb dX8_tried_65 rfl (lv_at hl 3 rfl) ?_
            refine lv_iload_n hx hb dX8_tried_66 rfl (lv_at hl 2 rfl) ?_
            obtain ⟨r67, hr67, hf⟩ := bd_s hf
            refine my_Vv (WS2 := (wd_X8_tried cy o_t (0 : Int32) x_delay x_feel x_turn x_sight r67.1 r67.2.1 r67.2.2.1 r67.2.2.2.1 x_players x_wide x_tall x_hands x_spin x_seed x_pressed x_leftFrom x_leftTo x_isKept r67.2.2.2.2.1 r67.2.2.2.2.2)) ⟨hx, hb, hml, hown, hts⟩ (c_X8_live l D cy t o_t (0 : Int32) x_delay x_feel x_turn x_sight x_ball x_w x_h x_n x_players x_wide x_tall x_hands x_spin x_seed x_pressed x_leftFrom x_leftTo x_place x_points p1 p3 p2 hr67) (cwV 3 hts gX8_tried_X8_live rfl rfl rfl ⟨rfl, hd_X8_live⟩ ⟨Nat.le_of_ble_eq_true rfl, Nat.le_of_ble_eq_true rfl⟩) hK hE hP hD hS hA [0, 1, 2, 3, 4, 5, 6, 7, 8, 10, 11] 12 8 0 rfl rfl rfl rfl (by decide +kernel) rfl rfl hl.1 rfl (Nat.le_of_ble_eq_true rfl) dX8_tried_67 ⟨Nat.le_of_ble_eq_true rfl, Nat.le_of_ble_eq_true rfl⟩ (fun H locs hP hD hS => ?_)
            refine lv_aload_n hx hb dX8_tried_70 rfl (lv_at hl 0 rfl) ?_
            refine lv_iload hx hb dX8_tried_71 (lv_at hl 4 rfl) ?_
            obtain ⟨r73, hr73, hf⟩ := bd_s hf
            refine my_Vi (WS2 := (wd_X8_tried cy o_t (0 : Int32) x_delay x_feel x_turn x_sight r67.1 r67.2.1 r67.2.2.1 r67.2.2.2.1 x_players x_wide x_tall x_hands x_spin x_seed x_pressed x_leftFrom x_leftTo x_isKept r67.2.2.2.2.1 r67.2.2.2.2.2)) ⟨hx, hb, hml, hown, hts⟩ (c_X8_seen l D cy t o_t (0 : Int32) x_delay x_feel x_turn x_sight r67.1 r67.2.1 r67.2.2.1 r67.2.2.2.1 x_players r67.2.2.2.2.1 r67.2.2.2.2.2 p4 hr73) (cwV 1 hts gX8_tried_X8_seen rfl rfl rfl ⟨rfl, hd_X8_seen⟩ ⟨Nat.le_of_ble_eq_true rfl, Nat.le_of_ble_eq_true rfl⟩) hK hE hP hD hS hA [0, 10, 11] 12 8 0 rfl rfl rfl rfl (by decide +kernel) rfl rfl hl.1 rfl (Nat.le_of_ble_eq_true rfl) dX8_tried_73 ⟨Nat.le_of_ble_eq_true rfl, Nat.le_of_ble_eq_true rfl⟩ (fun H locs hP hD hS => ?_)
            obtain rfl := Option.some.inj hf
            exact hR _ _ _ _ hP hD hS dX8_tried_76
          · have hf := ifn c57 hf
            refine lv_bipush (v := (-2 : Int32)) hx hb dX8_tried_60 (by decide) ?_
            obtain rfl := Option.some.inj hf
            exact hR _ _ _ _ hP hD hS dX8_tried_62
      · have hf := ifp c27 hf
        refine lv_bipush (v := (-3 : Int32)) hx hb dX8_tried_30 (by decide) ?_
        obtain rfl := Option.some.inj hf
        exact hR _ _ _ _ hP hD hS dX8_tried_32
    · have hf := ifn c16 hf
      refine lv_iconst (v := (-1 : Int32)) hx hb dX8_tried_19 (by decide) ?_
      obtain rfl := Option.some.inj hf
      exact hR _ _ _ _ hP hD hS dX8_tried_20
theorem hd_X8_tried : yX8_tried.cls ≠ "java/lang/invoke/MethodHandle" ∧ yX8_tried.cls ≠ "java/lang/invoke/VarHandle" ∧ (parseMethodDescriptor yX8_tried.desc).map (fun d => d.parameters.length) = some 4 := by decide +kernel
set_option maxRecDepth 100000 in
theorem c_X8_tried (l : Launch) (D : va_G) (cy : Nat → ClassId) (t : Nat → Nat) (o_t : Nat → Nat) (x_thrown : Int32) (x_delay : Int32) (x_feel : Int32) (x_turn : Int32) (x_sight : Int32) (x_ball : Int32) (x_w : Int32) (x_h : Int32) (x_n : Int32) (x_players : Int32) (x_wide : Nat → Int32) (x_tall : Nat → Int32) (x_hands : Nat → Int32) (x_spin : Nat → Int32) (x_seed : Nat → Int32) (x_pressed : Nat → Int32) (x_leftFrom : Nat → Int32) (x_leftTo : Nat → Int32) (x_isKept : Nat → Int32) (x_place : Nat → Int32) (x_points : Nat → Int32) (p1 : Int32) (p2 : Int32) (p3 : Int32) (p4 : Int32) {out : Int32 × Int32 × Int32 × Int32 × Int32 × Int32 × (Nat → Int32) × (Nat → Int32)} (hf : X8_tried x_wide x_tall x_hands x_spin x_seed x_pressed x_leftFrom x_leftTo x_isKept x_thrown x_ball x_w x_h x_n x_place x_points p1 p2 p3 p4 = some out) : ctI l yX8_tried wsX8_tried 6 151 D cy t [.ref (o_t 0), .int p1, .int p2, .int p3, .int p4] (wd_X8_tried cy o_t x_thrown x_delay x_feel x_turn x_sight x_ball x_w x_h x_n x_players x_wide x_tall x_hands x_spin x_seed x_pressed x_leftFrom x_leftTo x_isKept x_place x_points) (wd_X8_tried cy o_t out.2.1 x_delay x_feel x_turn x_sight out.2.2.1 out.2.2.2.1 out.2.2.2.2.1 out.2.2.2.2.2.1 x_players x_wide x_tall x_hands x_spin x_seed x_pressed x_leftFrom x_leftTo x_isKept out.2.2.2.2.2.2.1 out.2.2.2.2.2.2.2) out.1 := by
  refine ⟨rfl, ?_⟩
  intro sz
  refine Met.ofW (cc := cX8_tried) (maxL := 5) (ret := (some .int)) (by decide) rfl ?_
  intro p e s m args below meth c s₁ B hml hv
  obtain ⟨rfl, hsz, hP, hK, hD0, hE⟩ := hv
  have hts := atoms_spec (ws := wsX8_tried) B.pre
  have hown : s.vm.findClass RX8 = some m.cls := findClass_of_methodNamed B.named
  have hlocks := B.notSynchronized
  subst hsz
  have hD := hD0.self (sz := s.heap.size)
  have hl := lv_entry ([.ref (o_t 0), .int p1, .int p2, .int p3, .int p4]) (n := 5) (Nat.le_of_ble_eq_true rfl)
  rw [lg_entry_eq]
  generalize (lg_sl ([.ref (o_t 0), .int p1, .int p2, .int p3, .int p4]) ++ List.replicate (5 - (lg_sl ([.ref (o_t 0), .int p1, .int p2, .int p3, .int p4])).length) Slot.unset).toArray = ls at hl ⊢
  exact w_X8_tried D cy t o_t x_thrown x_delay x_feel x_turn x_sight x_ball x_w x_h x_n x_players x_wide x_tall x_hands x_spin x_seed x_pressed x_leftFrom x_leftTo x_isKept x_place x_points p1 p2 p3 p4 hf B.exec B.bytes hml hown hts hK hE (fun q h => Or.inr h) hP hD va_S.rf hl (fun H locs ls pc hP hD hS hdg => W.iret B.exec B.bytes B.returns (fun t ht hW => ⟨⟨_, (), rfl, rfl, ctB_of ht hP⟩, hS.F ht⟩) hS.2.2 hdg)

noncomputable def X8_differs_L100_B (x_wide : Nat → Int32) (x_tall : Nat → Int32) (x_hands : Nat → Int32) (x_power : Nat → Int32) (x_spin : Nat → Int32) (x_seed : Nat → Int32) (x_pressed : Nat → Int32) (x_leftFrom : Nat → Int32) (x_leftTo : Nat → Int32) (x_isKept : Nat → Int32) (rec100 : Int32 → Int32 → Int32 → Int32 → Int32 → (Nat → Int32) → (Nat → Int32) → (Nat → Int32) → (Nat → Int32) → Int32 → Int32 → Int32 → Option (Int32 × Int32 × Int32 × Int32 × Int32 × Int32 × (Nat → Int32) × (Nat → Int32) × (Nat → Int32) × (Nat → Int32))) (x_thrown : Int32) (x_ball : Int32) (x_w : Int32) (x_h : Int32) (x_n : Int32) (x_place : Nat → Int32) (x_points : Nat → Int32) (x_other : Nat → Int32) (x_trueStates : Nat → Int32) (l1 : Int32) (l2 : Int32) (l3 : Int32) : Option (Int32 × Int32 × Int32 × Int32 × Int32 × Int32 × (Nat → Int32) × (Nat → Int32) × (Nat → Int32) × (Nat → Int32)) :=
  if (100 : Int32) ≤ l3 then (some ((-9 : Int32), x_thrown, x_ball, x_w, x_h, x_n, x_place, x_points, x_other, x_trueStates)) else (bd (X8_step 3000 x_w x_h x_n x_spin x_seed x_leftFrom x_leftTo x_pressed x_ball x_place x_points l1 l3 ((600 : Int32) * l1) l2) fun r119 => bd (X8_write 13 r119.1 r119.2.1 r119.2.2 x_other (0 : Int32)) fun r128 => bd (X8_isLike 13 1300 r128 x_trueStates (0 : Int32) ((13 : Int32) * l3)) fun r144 => if r144 = (0 : Int32) then (some (l3, x_thrown, r119.1, x_w, x_h, x_n, r119.2.1, r119.2.2, r128, x_trueStates)) else (nm (l3 + (1 : Int32)) fun v152 => rec100 x_thrown r119.1 x_w x_h x_n r119.2.1 r119.2.2 r128 x_trueStates l1 l2 v152))
noncomputable def X8_differs_L100 (x_wide : Nat → Int32) (x_tall : Nat → Int32) (x_hands : Nat → Int32) (x_power : Nat → Int32) (x_spin : Nat → Int32) (x_seed : Nat → Int32) (x_pressed : Nat → Int32) (x_leftFrom : Nat → Int32) (x_leftTo : Nat → Int32) (x_isKept : Nat → Int32) : Nat → Int32 → Int32 → Int32 → Int32 → Int32 → (Nat → Int32) → (Nat → Int32) → (Nat → Int32) → (Nat → Int32) → Int32 → Int32 → Int32 → Option (Int32 × Int32 × Int32 × Int32 × Int32 × Int32 × (Nat → Int32) × (Nat → Int32) × (Nat → Int32) × (Nat → Int32))
  | 0, _, _, _, _, _, _, _, _, _, _, _, _ => none
  | n + 1, y0, y1, y2, y3, y4, y5, y6, y7, y8, y9, y10, y11 => X8_differs_L100_B x_wide x_tall x_hands x_power x_spin x_seed x_pressed x_leftFrom x_leftTo x_isKept  (X8_differs_L100 x_wide x_tall x_hands x_power x_spin x_seed x_pressed x_leftFrom x_leftTo x_isKept  n) y0 y1 y2 y3 y4 y5 y6 y7 y8 y9 y10 y11
noncomputable def X8_differs_J93 (x_wide : Nat → Int32) (x_tall : Nat → Int32) (x_hands : Nat → Int32) (x_power : Nat → Int32) (x_spin : Nat → Int32) (x_seed : Nat → Int32) (x_pressed : Nat → Int32) (x_leftFrom : Nat → Int32) (x_leftTo : Nat → Int32) (x_isKept : Nat → Int32) (x_thrown : Int32) (x_ball : Int32) (x_w : Int32) (x_h : Int32) (x_n : Int32) (x_place : Nat → Int32) (x_points : Nat → Int32) (x_other : Nat → Int32) (x_trueStates : Nat → Int32) (l1 : Int32) (l2 : Int32) : Option (Int32 × Int32 × Int32 × Int32 × Int32 × Int32 × (Nat → Int32) × (Nat → Int32) × (Nat → Int32) × (Nat → Int32)) :=
  bd (X8_start x_wide x_tall x_hands x_ball x_w x_h x_n x_place x_points l1) fun r95 => X8_differs_L100 x_wide x_tall x_hands x_power x_spin x_seed x_pressed x_leftFrom x_leftTo x_isKept  FU x_thrown r95.1 r95.2.1 r95.2.2.1 r95.2.2.2.1 r95.2.2.2.2.1 r95.2.2.2.2.2 x_other x_trueStates l1 l2 (0 : Int32)
noncomputable def X8_differs_L48_B (x_wide : Nat → Int32) (x_tall : Nat → Int32) (x_hands : Nat → Int32) (x_power : Nat → Int32) (x_spin : Nat → Int32) (x_seed : Nat → Int32) (x_pressed : Nat → Int32) (x_leftFrom : Nat → Int32) (x_leftTo : Nat → Int32) (x_isKept : Nat → Int32) (rec48 : Int32 → Int32 → Int32 → Int32 → Int32 → (Nat → Int32) → (Nat → Int32) → (Nat → Int32) → (Nat → Int32) → Int32 → Int32 → Int32 → Option (Int32 × Int32 × Int32 × Int32 × Int32 × Int32 × (Nat → Int32) × (Nat → Int32) × (Nat → Int32) × (Nat → Int32))) (x_thrown : Int32) (x_ball : Int32) (x_w : Int32) (x_h : Int32) (x_n : Int32) (x_place : Nat → Int32) (x_points : Nat → Int32) (x_other : Nat → Int32) (x_trueStates : Nat → Int32) (l1 : Int32) (l2 : Int32) (l3 : Int32) : Option (Int32 × Int32 × Int32 × Int32 × Int32 × Int32 × (Nat → Int32) × (Nat → Int32) × (Nat → Int32) × (Nat → Int32)) :=
  if (100 : Int32) ≤ l3 then (X8_differs_J93 x_wide x_tall x_hands x_power x_spin x_seed x_pressed x_leftFrom x_leftTo x_isKept  x_thrown x_ball x_w x_h x_n x_place x_points x_other x_trueStates l1 l2) else (rd x_power 5 l1 fun v71 => bd (X8_step 3000 x_w x_h x_n x_spin x_seed x_leftFrom x_leftTo x_pressed x_ball x_place x_points l1 l3 ((600 : Int32) * l1) v71) fun r72 => bd (X8_write 1300 r72.1 r72.2.1 r72.2.2 x_trueStates ((13 : Int32) * l3)) fun r84 => nm (l3 + (1 : Int32)) fun v87 => rec48 x_thrown r72.1 x_w x_h x_n r72.2.1 r72.2.2 x_other r84 l1 l2 v87)
noncomputable def X8_differs_L48 (x_wide : Nat → Int32) (x_tall : Nat → Int32) (x_hands : Nat → Int32) (x_power : Nat → Int32) (x_spin : Nat → Int32) (x_seed : Nat → Int32) (x_pressed : Nat → Int32) (x_leftFrom : Nat → Int32) (x_leftTo : Nat → Int32) (x_isKept : Nat → Int32) : Nat → Int32 → Int32 → Int32 → Int32 → Int32 → (Nat → Int32) → (Nat → Int32) → (Nat → Int32) → (Nat → Int32) → Int32 → Int32 → Int32 → Option (Int32 × Int32 × Int32 × Int32 × Int32 × Int32 × (Nat → Int32) × (Nat → Int32) × (Nat → Int32) × (Nat → Int32))
  | 0, _, _, _, _, _, _, _, _, _, _, _, _ => none
  | n + 1, y0, y1, y2, y3, y4, y5, y6, y7, y8, y9, y10, y11 => X8_differs_L48_B x_wide x_tall x_hands x_power x_spin x_seed x_pressed x_leftFrom x_leftTo x_isKept  (X8_differs_L48 x_wide x_tall x_hands x_power x_spin x_seed x_pressed x_leftFrom x_leftTo x_isKept  n) y0 y1 y2 y3 y4 y5 y6 y7 y8 y9 y10 y11
noncomputable def X8_differs (x_wide : Nat → Int32) (x_tall : Nat → Int32) (x_hands : Nat → Int32) (x_power : Nat → Int32) (x_spin : Nat → Int32) (x_seed : Nat → Int32) (x_pressed : Nat → Int32) (x_leftFrom : Nat → Int32) (x_leftTo : Nat → Int32) (x_isKept : Nat → Int32) (x_thrown : Int32) (x_ball : Int32) (x_w : Int32) (x_h : Int32) (x_n : Int32) (x_place : Nat → Int32) (x_points : Nat → Int32) (x_other : Nat → Int32) (x_trueStates : Nat → Int32) (p1 : Int32) (p2 : Int32) : Option (Int32 × Int32 × Int32 × Int32 × Int32 × Int32 × (Nat → Int32) × (Nat → Int32) × (Nat → Int32) × (Nat → Int32)) :=
  bd (X8_noSlot p1) fun r6 => if r6 = (0 : Int32) then (rd x_isKept 4 p1 fun v19 => if v19 = (0 : Int32) then (some ((-3 : Int32), (0 : Int32), x_ball, x_w, x_h, x_n, x_place, x_points, x_other, x_trueStates)) else (bd (X8_in (Int32.toInt64 p2) (1 : Int64) (5 : Int64)) fun r32 => if r32 = (0 : Int32) then (some ((-2 : Int32), (0 : Int32), x_ball, x_w, x_h, x_n, x_place, x_points, x_other, x_trueStates)) else (bd (X8_start x_wide x_tall x_hands x_ball x_w x_h x_n x_place x_points p1) fun r43 => X8_differs_L48 x_wide x_tall x_hands x_power x_spin x_seed x_pressed x_leftFrom x_leftTo x_isKept  FU (0 : Int32) r43.1 r43.2.1 r43.2.2.1 r43.2.2.2.1 r43.2.2.2.2.1 r43.2.2.2.2.2 x_other x_trueStates p1 p2 (0 : Int32)))) else (some ((-1 : Int32), (0 : Int32), x_ball, x_w, x_h, x_n, x_place, x_points, x_other, x_trueStates))
abbrev wd_X8_differs (cy : Nat → ClassId) (o_t : Nat → Nat) (x_thrown : Int32) (x_delay : Int32) (x_feel : Int32) (x_turn : Int32) (x_sight : Int32) (x_ball : Int32) (x_w : Int32) (x_h : Int32) (x_n : Int32) (x_players : Int32) (x_wide : Nat → Int32) (x_tall : Nat → Int32) (x_hands : Nat → Int32) (x_power : Nat → Int32) (x_spin : Nat → Int32) (x_seed : Nat → Int32) (x_pressed : Nat → Int32) (x_leftFrom : Nat → Int32) (x_leftTo : Nat → Int32) (x_isKept : Nat → Int32) (x_place : Nat → Int32) (x_points : Nat → Int32) (x_other : Nat → Int32) (x_trueStates : Nat → Int32) : va_W := [(o_t 0, .inr (8, [.int x_thrown, .ref (o_t 2), .ref (o_t 3), .ref (o_t 4), .ref (o_t 5), .ref (o_t 6), .ref (o_t 7), .ref (o_t 8), .ref (o_t 9), .ref (o_t 10), .ref (o_t 11), .int x_delay, .int x_feel, .int x_turn, .int x_sight, .ref (o_t 16), .ref (o_t 17), .ref (o_t 18), .ref (o_t 19), .int x_ball, .int x_w, .int x_h, .int x_n, .ref (o_t 24), .ref (o_t 25), .ref (o_t 26), .ref (o_t 27), .ref (o_t 28), .ref (o_t 29), .int x_players, .ref (o_t 31), .ref (o_t 32), .ref (o_t 33), .ref (o_t 34), .ref (o_t 35), .ref (o_t 36)])), (o_t 2, .inl (cy 0, 5, .inl x_wide)), (o_t 3, .inl (cy 0, 5, .inl x_tall)), (o_t 4, .inl (cy 0, 5, .inl x_hands)), (o_t 5, .inl (cy 0, 5, .inl x_power)), (o_t 6, .inl (cy 0, 5, .inl x_spin)), (o_t 7, .inl (cy 0, 5, .inl x_seed)), (o_t 8, .inl (cy 0, 3000, .inl x_pressed)), (o_t 9, .inl (cy 0, 30, .inl x_leftFrom)), (o_t 10, .inl (cy 0, 30, .inl x_leftTo)), (o_t 11, .inl (cy 1, 4, .inl x_isKept)), (o_t 18, .inl (cy 0, 6, .inl x_place)), (o_t 19, .inl (cy 0, 6, .inl x_points)), (o_t 24, .inl (cy 0, 13, .inl x_other)), (o_t 27, .inl (cy 0, 1300, .inl x_trueStates))]
set_option maxHeartbeats 4000000 in
set_option maxRecDepth 100000 in
theorem w_X8_differs {p : Program} {l : Launch} {e : Env} {s : State} {m : MethodId} {args : Array Value} {below : List Frame} {meth : Method} {c : Code} {Q : State → Prop} {A : Nat → Prop} {H : Heap} {locs : List Loc} {ls : Array Slot} (D : va_G) (cy : Nat → ClassId) (t : Nat → Nat) (o_t : Nat → Nat) (x_thrown : Int32) (x_delay : Int32) (x_feel : Int32) (x_turn : Int32) (x_sight : Int32) (x_ball : Int32) (x_w : Int32) (x_h : Int32) (x_n : Int32) (x_players : Int32) (x_wide : Nat → Int32) (x_tall : Nat → Int32) (x_hands : Nat → Int32) (x_power : Nat → Int32) (x_spin : Nat → Int32) (x_seed : Nat → Int32) (x_pressed : Nat → Int32) (x_leftFrom : Nat → Int32) (x_leftTo : Nat → Int32) (x_isKept : Nat → Int32) (x_place : Nat → Int32) (x_points : Nat → Int32) (x_other : Nat → Int32) (x_trueStates : Nat → Int32) (p1 : Int32) (p2 : Int32) {out : Int32 × Int32 × Int32 × Int32 × Int32 × Int32 × (Nat → Int32) × (Nat → Int32) × (Nat → Int32) × (Nat → Int32)} (hf : X8_differs x_wide x_tall x_hands x_power x_spin x_seed x_pressed x_leftFrom x_leftTo x_isKept x_thrown x_ball x_w x_h x_n x_place x_points x_other x_trueStates p1 p2 = some out) (hx : p.tables.exec = Jvm.exec) (hb : c.code = cX8_differs) (hml : c.maxLocals = 4) (hown : s.vm.findClass RX8 = some m.cls) (hts : ∀ w ∈ wsX8_differs, w.before args s = true) (hK : va_K D vwCl (TYS cy) s) (hE : EV t A s s.heap) (hA : ∀ q, s.heap.size ≤ q → A q) (hP : va_P D vwCl (wd_X8_differs cy o_t x_thrown x_delay x_feel x_turn x_sight x_ball x_w x_h x_n x_players x_wide x_tall x_hands x_power x_spin x_seed x_pressed x_leftFrom x_leftTo x_isKept x_place x_points x_other x_trueStates) H) (hD : va_D A (wd_X8_differs cy o_t x_thrown x_delay x_feel x_turn x_sight x_ball x_w x_h x_n x_players x_wide x_tall x_hands x_power x_spin x_seed x_pressed x_leftFrom x_leftTo x_isKept x_place x_points x_other x_trueStates)) (hS : va_S A s.heap H locs) (hl : lv_has ls 4 [(0, .ref (o_t 0)), (1, .int p1), (2, .int p2)]) (hR : ∀ (H : Heap) (locs : List Loc) (ls : Array Slot) (pc : Nat), va_P D vwCl (wd_X8_differs cy o_t out.2.1 x_delay x_feel x_turn x_sight out.2.2.1 out.2.2.2.1 out.2.2.2.2.1 out.2.2.2.2.2.1 x_players x_wide x_tall x_hands x_power x_spin x_seed x_pressed x_leftFrom x_leftTo x_isKept out.2.2.2.2.2.2.1 out.2.2.2.2.2.2.2.1 out.2.2.2.2.2.2.2.2.1 out.2.2.2.2.2.2.2.2.2) H → va_D A (wd_X8_differs cy o_t out.2.1 x_delay x_feel x_turn x_sight out.2.2.1 out.2.2.2.1 out.2.2.2.2.1 out.2.2.2.2.2.1 x_players x_wide x_tall x_hands x_power x_spin x_seed x_pressed x_leftFrom x_leftTo x_isKept out.2.2.2.2.2.2.1 out.2.2.2.2.2.2.2.1 out.2.2.2.2.2.2.2.2.1 out.2.2.2.2.2.2.2.2.2) → va_S A s.heap H locs → decode cX8_differs pc = .ok (.ireturn, 1) → W p l e (rmm 5 127) s m args below meth c H locs 0 0 Q (F0 m pc ls [.int out.1])) : W p l e (rmm 5 127) s m args below meth c H locs 0 0 Q (F0 m 0 ls []) := by
  have k0 := hts (.fieldLink RX8 100 "SeaGamesModel" "thrown" "I") (List.mem_cons_of_mem _ (List.mem_append_left _ (List.mem_append_left _ (List.mem_of_getElem? (i := 0) rfl))))
  have k1 : ∀ w ∈ u_ws RX8 TX8 36, w ∈ wsX8_differs := fun _ h => List.mem_cons_of_mem _ (List.mem_append_right _ h)
  have k2 := hts (.fieldLink RX8 37 "SeaGamesModel" "isKept" "[Z") (List.mem_cons_of_mem _ (List.mem_append_left _ (List.mem_append_left _ (List.mem_of_getElem? (i := 1) rfl))))
  have k3 := hts (.constantLong RX8 127 (5)) (List.mem_cons_of_mem _ (List.mem_append_left _ (List.mem_append_left _ (List.mem_of_getElem? (i := 2) rfl))))
  have k4 := hts (.fieldLink RX8 28 "SeaGamesModel" "pressed" "[I") (List.mem_cons_of_mem _ (List.mem_append_left _ (List.mem_append_left _ (List.mem_of_getElem? (i := 3) rfl))))
  have k5 := hts (.fieldLink RX8 63 "SeaGamesModel" "other" "[I") (List.mem_cons_of_mem _ (List.mem_append_left _ (List.mem_append_left _ (List.mem_of_getElem? (i := 6) rfl))))
  have k6 := hts (.fieldLink RX8 72 "SeaGamesModel" "trueStates" "[I") (List.mem_cons_of_mem _ (List.mem_append_left _ (List.mem_append_left _ (List.mem_of_getElem? (i := 5) rfl))))
  have k7 := hts (.fieldLink RX8 19 "SeaGamesModel" "power" "[I") (List.mem_cons_of_mem _ (List.mem_append_left _ (List.mem_append_left _ (List.mem_of_getElem? (i := 4) rfl))))
  rw [X8_differs] at hf
  refine lv_aload_n hx hb dX8_differs_0 rfl (lv_at hl 0 rfl) ?_
  refine lv_iconst (v := (0 : Int32)) hx hb dX8_differs_1 (by decide) ?_
  refine va_put (D := D) (ci := 8) (v := .int (0 : Int32)) (ty := .int) (C := RX8) (T := TX8) (N := 36) hx hb hts k1 tyX8 tyX8_ok nmX8 hown hK hP hD hS 0 rfl rfl 0 (by decide) k0 (fun _ h9 => h9) rfl (by decide +kernel) rfl rfl (Nat.le_of_ble_eq_true rfl) dX8_differs_2 (fun H locs hP hD hS => ?_)
  have hP : va_P D vwCl (wd_X8_differs cy o_t (0 : Int32) x_delay x_feel x_turn x_sight x_ball x_w x_h x_n x_players x_wide x_tall x_hands x_power x_spin x_seed x_pressed x_leftFrom x_leftTo x_isKept x_place x_points x_other x_trueStates) H := hP
  have hD : va_D A (wd_X8_differs cy o_t (0 : Int32) x_delay x_feel x_turn x_sight x_ball x_w x_h x_n x_players x_wide x_tall x_hands x_power x_spin x_seed x_pressed x_leftFrom x_leftTo x_isKept x_place x_points x_other x_trueStates) := hD
  refine lv_iload_n hx hb dX8_differs_5 rfl (lv_at hl 1 rfl) ?_
  obtain ⟨r6, hr6, hf⟩ := bd_s hf
  refine my_Si (WS2 := (wd_X8_differs cy o_t (0 : Int32) x_delay x_feel x_turn x_sight x_ball x_w x_h x_n x_players x_wide x_tall x_hands x_power x_spin x_seed x_pressed x_leftFrom x_leftTo x_isKept x_place x_points x_other x_trueStates)) ⟨hx, hb, hml, hown, hts⟩ (c_X8_noSlot l D cy t p1 hr6) (va_cwS 1 hts gX8_differs_X8_noSlot rfl rfl rfl hd_X8_noSlot ⟨Nat.le_of_ble_eq_true rfl, Nat.le_of_ble_eq_true rfl⟩) hK hE hP hD hS hA [] 15 rfl rfl (by decide +kernel) rfl rfl hl.1 rfl (Nat.le_of_ble_eq_true rfl) dX8_differs_6 ⟨Nat.le_of_ble_eq_true rfl, Nat.le_of_ble_eq_true rfl⟩ (fun H locs hP hD hS => ?_)
  refine lv_if_eq (tgt := 14) hx hb dX8_differs_9 (by decide) (fun c9 => ?_) (fun c9 => ?_)
  · have hf := ifp c9 hf
    refine lv_aload_n hx hb dX8_differs_14 rfl (lv_at hl 0 rfl) ?_
    refine va_get (D := D) (ci := 8) (v := .ref (o_t 11)) (C := RX8) (T := TX8) (N := 36) hx hb hts k1 hown hK hP 0 rfl rfl 10 (by decide) k2 (fun _ h9 => h9) rfl dX8_differs_15 ?_
    refine lv_iload_n hx hb dX8_differs_18 rfl (lv_at hl 1 rfl) ?_
    obtain ⟨v19, b19, ev19, hf⟩ := rd_s hf
    refine my_zald hx hb hK hP 10 rfl b19 ev19 dX8_differs_19 ?_
    refine lv_if_ne (tgt := 26) hx hb dX8_differs_20 (by decide) (fun c20 => ?_) (fun c20 => ?_)
    · have hf := ifn c20 hf
      refine lv_iload_n hx hb dX8_differs_26 rfl (lv_at hl 2 rfl) ?_
      refine lv_i2l (v := (Int32.toInt64 p2)) hx hb dX8_differs_27 rfl ?_
      refine lv_lconst (v := (1 : Int64)) hx hb dX8_differs_28 (by decide) ?_
      refine lv_ldc2 (v := (5 : Int64)) hx hb hown k3 dX8_differs_29 ?_
      obtain ⟨r32, hr32, hf⟩ := bd_s hf
      refine my_Si (WS2 := (wd_X8_differs cy o_t (0 : Int32) x_delay x_feel x_turn x_sight x_ball x_w x_h x_n x_players x_wide x_tall x_hands x_power x_spin x_seed x_pressed x_leftFrom x_leftTo x_isKept x_place x_points x_other x_trueStates)) ⟨hx, hb, hml, hown, hts⟩ (c_X8_in l D cy t (Int32.toInt64 p2) (1 : Int64) (5 : Int64) hr32) (va_cwS 3 hts gX8_differs_X8_in rfl rfl rfl hd_X8_in ⟨Nat.le_of_ble_eq_true rfl, Nat.le_of_ble_eq_true rfl⟩) hK hE hP hD hS hA [] 15 rfl rfl (by decide +kernel) rfl rfl hl.1 rfl (Nat.le_of_ble_eq_true rfl) dX8_differs_32 ⟨Nat.le_of_ble_eq_true rfl, Nat.le_of_ble_eq_true rfl⟩ (fun H locs hP hD hS => ?_)
      refine lv_if_ne (tgt := 41) hx hb dX8_differs_35 (by decide) (fun c35 => ?_) (fun c35 => ?_)
      · have hf := ifn c35 hf
        have h48 : ∀ (n48 : Nat) (x_thrown : Int32) (x_ball : Int32) (x_w : Int32) (x_h : Int32) (x_n : Int32) (x_place : Nat → Int32) (x_points : Nat → Int32) (x_other : Nat → Int32) (x_trueStates : Nat → Int32) (l1 : Int32) (l2 : Int32) (l3 : Int32) (H : Heap) (locs : List Loc) (ls : Array Slot), X8_differs_L48 x_wide x_tall x_hands x_power x_spin x_seed x_pressed x_leftFrom x_leftTo x_isKept n48 x_thrown x_ball x_w x_h x_n x_place x_points x_other x_trueStates l1 l2 l3 = some out → va_P D vwCl (wd_X8_differs cy o_t x_thrown x_delay x_feel x_turn x_sight x_ball x_w x_h x_n x_players x_wide x_tall x_hands x_power x_spin x_seed x_pressed x_leftFrom x_leftTo x_isKept x_place x_points x_other x_trueStates) H → va_D A (wd_X8_differs cy o_t x_thrown x_delay x_feel x_turn x_sight x_ball x_w x_h x_n x_players x_wide x_tall x_hands x_power x_spin x_seed x_pressed x_leftFrom x_leftTo x_isKept x_place x_points x_other x_trueStates) → va_S A s.heap H locs → lv_has ls 4 [(0, .ref (o_t 0)), (1, .int l1), (2, .int l2), (3, .int l3)] → W p l e (rmm 5 127) s m args below meth c H locs 0 0 Q (F0 m 48 ls []) := by
          intro n48
          induction n48 with
          | zero =>
            intro _ _ _ _ _ _ _ _ _ _ _ _ _ _ _ hf
            exact nomatch (show (none : Option _) = some out from hf)
          | succ n48 ih48 =>
            intro x_thrown x_ball x_w x_h x_n x_place x_points x_other x_trueStates l1 l2 l3 H locs ls hf hP hD hS hl
            have hf : X8_differs_L48_B x_wide x_tall x_hands x_power x_spin x_seed x_pressed x_leftFrom x_leftTo x_isKept (X8_differs_L48 x_wide x_tall x_hands x_power x_spin x_seed x_pressed x_leftFrom x_leftTo x_isKept n48) x_thrown x_ball x_w x_h x_n x_place x_points x_other x_trueStates l1 l2 l3 = some out := hf
            rw [X8_differs_L48_B] at hf
            have h93 : ∀ (x_thrown : Int32) (x_ball : Int32) (x_w : Int32) (x_h : Int32) (x_n : Int32) (x_place : Nat → Int32) (x_points : Nat → Int32) (x_other : Nat → Int32) (x_trueStates : Nat → Int32) (l1 : Int32) (l2 : Int32) (H : Heap) (locs : List Loc) (ls : Array Slot), X8_differs_J93 x_wide x_tall x_hands x_power x_spin x_seed x_pressed x_leftFrom x_leftTo x_isKept x_thrown x_ball x_w x_h x_n x_place x_points x_other x_trueStates l1 l2 = some out → va_P D vwCl (wd_X8_differs cy o_t x_thrown x_delay x_feel x_turn x_sight x_ball x_w x_h x_n x_players x_wide x_tall x_hands x_power x_spin x_seed x_pressed x_leftFrom x_leftTo x_isKept x_place x_points x_other x_trueStates) H → va_D A (wd_X8_differs cy o_t x_thrown x_delay x_feel x_turn x_sight x_ball x_w x_h x_n x_players x_wide x_tall x_hands x_power x_spin x_seed x_pressed x_leftFrom x_leftTo x_isKept x_place x_points x_other x_trueStates) → va_S A s.heap H locs → lv_has ls 4 [(0, .ref (o_t 0)), (1, .int l1), (2, .int l2)] → W p l e (rmm 5 127) s m args below meth c H locs 0 0 Q (F0 m 93 ls []) := by
              intro x_thrown x_ball x_w x_h x_n x_place x_points x_other x_trueStates l1 l2 H locs ls hf hP hD hS hl
              rw [X8_differs_J93] at hf
              have h100 : ∀ (n100 : Nat) (x_thrown : Int32) (x_ball : Int32) (x_w : Int32) (x_h : Int32) (x_n : Int32) (x_place : Nat → Int32) (x_points : Nat → Int32) (x_other : Nat → Int32) (x_trueStates : Nat → Int32) (l1 : Int32) (l2 : Int32) (l3 : Int32) (H : Heap) (locs : List Loc) (ls : Array Slot), X8_differs_L100 x_wide x_tall x_hands x_power x_spin x_seed x_pressed x_leftFrom x_leftTo x_isKept n100 x_thrown x_ball x_w x_h x_n x_place x_points x_other x_trueStates l1 l2 l3 = some out → va_P D vwCl (wd_X8_differs cy o_t x_thrown x_delay x_feel x_turn x_sight x_ball x_w x_h x_n x_players x_wide x_tall x_hands x_power x_spin x_seed x_pressed x_leftFrom x_leftTo x_isKept x_place x_points x_other x_trueStates) H → va_D A (wd_X8_differs cy o_t x_thrown x_delay x_feel x_turn x_sight x_ball x_w x_h x_n x_players x_wide x_tall x_hands x_power x_spin x_seed x_pressed x_leftFrom x_leftTo x_isKept x_place x_points x_other x_trueStates) → va_S A s.heap H locs → lv_has ls 4 [(0, .ref (o_t 0)), (1, .int l1), (2, .int l2), (3, .int l3)] → W p l e (rmm 5 127) s m args below meth c H locs 0 0 Q (F0 m 100 ls []) := by
                intro n100
                induction n100 with
                | zero =>
                  intro _ _ _ _ _ _ _ _ _ _ _ _ _ _ _ hf
                  exact nomatch (show (none : Option _) = some out from hf)
                | succ n100 ih100 =>
                  intro x_thrown x_ball x_w x_h x_n x_place x_points x_other x_trueStates l1 l2 l3 H locs ls hf hP hD hS hl
                  have hf : X8_differs_L100_B x_wide x_tall x_hands x_power x_spin x_seed x_pressed x_leftFrom x_leftTo x_isKept (X8_differs_L100 x_wide x_tall x_hands x_power x_spin x_seed x_pressed x_leftFrom x_leftTo x_isKept n100) x_thrown x_ball x_w x_h x_n x_place x_points x_other x_trueStates l1 l2 l3 = some out := hf
                  rw [X8_differs_L100_B] at hf
                  refine lv_iload_n hx hb dX8_differs_100 rfl (lv_at hl 3 rfl) ?_
                  refine lv_bipush (v := (100 : Int32)) hx hb dX8_differs_101 (by decide) ?_
                  refine lv_icmp_ge (tgt := 158) hx hb dX8_differs_103 (by decide) (fun c103 => ?_) (fun c103 => ?_)
                  · have hf := ifp c103 hf
                    refine lv_bipush (v := (-9 : Int32)) hx hb dX8_differs_158 (by decide) ?_
                    obtain rfl := Option.some.inj hf
                    exact hR _ _ _ _ hP hD hS dX8_differs_160
                  · have hf := ifn c103 hf
                    refine lv_aload_n hx hb dX8_differs_106 rfl (lv_at hl 0 rfl) ?_
                    refine lv_iload_n hx hb dX8_differs_107 rfl (lv_at hl 1 rfl) ?_
                    refine lv_iload_n hx hb dX8_differs_108 rfl (lv_at hl 3 rfl) ?_
                    refine lv_aload_n hx hb dX8_differs_109 rfl (lv_at hl 0 rfl) ?_
                    refine va_get (D := D) (ci := 8) (v := .ref (o_t 8)) (C := RX8) (T := TX8) (N := 36) hx hb hts k1 hown hK hP 0 rfl rfl 7 (by decide) k4 (fun _ h9 => h9) rfl dX8_differs_110 ?_
                    refine lv_sipush (v := (600 : Int32)) hx hb dX8_differs_113 (by decide) ?_
                    refine lv_iload_n hx hb dX8_differs_116 rfl (lv_at hl 1 rfl) ?_
                    refine lv_imul hx hb dX8_differs_117 ?_
                    refine lv_iload_n hx hb dX8_differs_118 rfl (lv_at hl 2 rfl) ?_
                    obtain ⟨r119, hr119, hf⟩ := bd_s hf
                    refine my_Vv (WS2 := (wd_X8_differs cy o_t x_thrown x_delay x_feel x_turn x_sight r119.1 x_w x_h x_n x_players x_wide x_tall x_hands x_power x_spin x_seed x_pressed x_leftFrom x_leftTo x_isKept r119.2.1 r119.2.2 x_other x_trueStates)) ⟨hx, hb, hml, hown, hts⟩ (c_X8_step l D cy t o_t (o_t 8) 3000 x_thrown x_delay x_feel x_turn x_sight x_ball x_w x_h x_n x_players x_spin x_seed x_leftFrom x_leftTo x_place x_points x_pressed l1 l3 ((600 : Int32) * l1) l2 hr119) (cwV 5 hts gX8_differs_X8_step rfl rfl rfl ⟨rfl, hd_X8_step⟩ ⟨Nat.le_of_ble_eq_true rfl, Nat.le_of_ble_eq_true rfl⟩) hK hE hP hD hS hA [0, 5, 6, 8, 9, 11, 12, 7] 15 8 0 rfl rfl rfl rfl (by decide +kernel) rfl rfl hl.1 rfl (Nat.le_of_ble_eq_true rfl) dX8_differs_119 ⟨Nat.le_of_ble_eq_true rfl, Nat.le_of_ble_eq_true rfl⟩ (fun H locs hP hD hS => ?_)
                    refine lv_aload_n hx hb dX8_differs_122 rfl (lv_at hl 0 rfl) ?_
                    refine lv_aload_n hx hb dX8_differs_123 rfl (lv_at hl 0 rfl) ?_
                    refine va_get (D := D) (ci := 8) (v := .ref (o_t 24)) (C := RX8) (T := TX8) (N := 36) hx hb hts k1 hown hK hP 0 rfl rfl 23 (by decide) k5 (fun _ h9 => h9) rfl dX8_differs_124 ?_
                    refine lv_iconst (v := (0 : Int32)) hx hb dX8_differs_127 (by decide) ?_
                    obtain ⟨r128, hr128, hf⟩ := bd_s hf
                    refine my_Vv (WS2 := (wd_X8_differs cy o_t x_thrown x_delay x_feel x_turn x_sight r119.1 x_w x_h x_n x_players x_wide x_tall x_hands x_power x_spin x_seed x_pressed x_leftFrom x_leftTo x_isKept r119.2.1 r119.2.2 r128 x_trueStates)) ⟨hx, hb, hml, hown, hts⟩ (c_X8_write l D cy t o_t (o_t 24) 13 x_thrown x_delay x_feel x_turn x_sight r119.1 x_w x_h x_n x_players r119.2.1 r119.2.2 x_other (0 : Int32) hr128) (cwV 2 hts gX8_differs_X8_write rfl rfl rfl ⟨rfl, hd_X8_write⟩ ⟨Nat.le_of_ble_eq_true rfl, Nat.le_of_ble_eq_true rfl⟩) hK hE hP hD hS hA [0, 11, 12, 13] 15 8 0 rfl rfl rfl rfl (by decide +kernel) rfl rfl hl.1 rfl (Nat.le_of_ble_eq_true rfl) dX8_differs_128 ⟨Nat.le_of_ble_eq_true rfl, Nat.le_of_ble_eq_true rfl⟩ (fun H locs hP hD hS => ?_)
                    refine lv_aload_n hx hb dX8_differs_131 rfl (lv_at hl 0 rfl) ?_
                    refine va_get (D := D) (ci := 8) (v := .ref (o_t 24)) (C := RX8) (T := TX8) (N := 36) hx hb hts k1 hown hK hP 0 rfl rfl 23 (by decide) k5 (fun _ h9 => h9) rfl dX8_differs_132 ?_
                    refine lv_iconst (v := (0 : Int32)) hx hb dX8_differs_135 (by decide) ?_
                    refine lv_aload_n hx hb dX8_differs_136 rfl (lv_at hl 0 rfl) ?_
                    refine va_get (D := D) (ci := 8) (v := .ref (o_t 27)) (C := RX8) (T := TX8) (N := 36) hx hb hts k1 hown hK hP 0 rfl rfl 26 (by decide) k6 (fun _ h9 => h9) rfl dX8_differs_137 ?_
                    refine lv_bipush (v := (13 : Int32)) hx hb dX8_differs_140 (by decide) ?_
                    refine lv_iload_n hx hb dX8_differs_142 rfl (lv_at hl 3 rfl) ?_
                    refine lv_imul hx hb dX8_differs_143 ?_
                    obtain ⟨r144, hr144, hf⟩ := bd_s hf
                    refine my_Si (WS2 := (wd_X8_differs cy o_t x_thrown x_delay x_feel x_turn x_sight r119.1 x_w x_h x_n x_players x_wide x_tall x_hands x_power x_spin x_seed x_pressed x_leftFrom x_leftTo x_isKept r119.2.1 r119.2.2 r128 x_trueStates)) ⟨hx, hb, hml, hown, hts⟩ (c_X8_isLike l D cy t (o_t 24) 13 (o_t 27) 1300 r128 x_trueStates (0 : Int32) ((13 : Int32) * l3) hr144) (va_cwS 4 hts gX8_differs_X8_isLike rfl rfl rfl hd_X8_isLike ⟨Nat.le_of_ble_eq_true rfl, Nat.le_of_ble_eq_true rfl⟩) hK hE hP hD hS hA [13, 14] 15 rfl rfl (by decide +kernel) rfl rfl hl.1 rfl (Nat.le_of_ble_eq_true rfl) dX8_differs_144 ⟨Nat.le_of_ble_eq_true rfl, Nat.le_of_ble_eq_true rfl⟩ (fun H locs hP hD hS => ?_)
                    refine lv_if_ne (tgt := 152) hx hb dX8_differs_147 (by decide) (fun c147 => ?_) (fun c147 => ?_)
                    · have hf := ifn c147 hf
                      obtain ⟨v152, ev152, hf⟩ := nm_s hf
                      refine lv_iinc (v := v152) (lv' := [(3, .int v152), (0, .ref (o_t 0)), (1, .int l1), (2, .int l2)]) hx hb dX8_differs_152 hl (k := 3) rfl (by rw [ev152]; rfl) (by decide) rfl (fun ls hl => ?_)
                      refine lv_goto (tgt := 100) hx hb dX8_differs_155 (by decide) ?_
                      exact ih100 _ _ _ _ _ _ _ _ _ _ _ _ _ _ _ hf hP hD hS (lv_sub hl [1, 2, 3, 0] rfl)
                    · have hf := ifp c147 hf
                      refine lv_iload_n hx hb dX8_differs_150 rfl (lv_at hl 3 rfl) ?_
                      obtain rfl := Option.some.inj hf
                      exact hR _ _ _ _ hP hD hS dX8_differs_151
              refine lv_aload_n hx hb dX8_differs_93 rfl (lv_at hl 0 rfl) ?_
              refine lv_iload_n hx hb dX8_differs_94 rfl (lv_at hl 1 rfl) ?_
              obtain ⟨r95, hr95, hf⟩ := bd_s hf
              refine my_Vv (WS2 := (wd_X8_differs cy o_t x_thrown x_delay x_feel x_turn x_sight r95.1 r95.2.1 r95.2.2.1 r95.2.2.2.1 x_players x_wide x_tall x_hands x_power x_spin x_seed x_pressed x_leftFrom x_leftTo x_isKept r95.2.2.2.2.1 r95.2.2.2.2.2 x_other x_trueStates)) ⟨hx, hb, hml, hown, hts⟩ (c_X8_start l D cy t o_t x_thrown x_delay x_feel x_turn x_sight x_ball x_w x_h x_n x_players x_wide x_tall x_hands x_place x_points l1 hr95) (cwV 1 hts gX8_differs_X8_start rfl rfl rfl ⟨rfl, hd_X8_start⟩ ⟨Nat.le_of_ble_eq_true rfl, Nat.le_of_ble_eq_true rfl⟩) hK hE hP hD hS hA [0, 1, 2, 3, 11, 12] 15 8 0 rfl rfl rfl rfl (by decide +kernel) rfl rfl hl.1 rfl (Nat.le_of_ble_eq_true rfl) dX8_differs_95 ⟨Nat.le_of_ble_eq_true rfl, Nat.le_of_ble_eq_true rfl⟩ (fun H locs hP hD hS => ?_)
              refine lv_iconst (v := (0 : Int32)) hx hb dX8_differs_98 (by decide) ?_
              refine lv_istore_n (lv' := [(3, .int (0 : Int32)), (0, .ref (o_t 0)), (1, .int l1), (2, .int l2)]) hx hb dX8_differs_99 rfl hl (by decide) rfl (fun ls hl => ?_)
              exact h100 FU _ _ _ _ _ _ _ _ _ _ _ _ _ _ _ hf hP hD hS (lv_sub hl [1, 2, 3, 0] rfl)
            refine lv_iload_n hx hb dX8_differs_48 rfl (lv_at hl 3 rfl) ?_
            refine lv_bipush (v := (100 : Int32)) hx hb dX8_differs_49 (by decide) ?_
            refine lv_icmp_ge (tgt := 93) hx hb dX8_differs_51 (by decide) (fun c51 => ?_) (fun c51 => ?_)
            · have hf := ifp c51 hf
              exact h93 _ _ _ _ _ _ _ _ _ _ _ _ _ _ hf hP hD hS (lv_sub hl [0, 1, 2] rfl)
            · have hf := ifn c51 hf
              refine lv_aload_n hx hb dX8_differs_54 rfl (lv_at hl 0 rfl) ?_
              refine lv_iload_n hx hb dX8_differs_55 rfl (lv_at hl 1 rfl) ?_
              refine lv_iload_n hx hb dX8_differs_56 rfl (lv_at hl 3 rfl) ?_
              refine lv_aload_n hx hb dX8_differs_57 rfl (lv_at hl 0 rfl) ?_
              refine va_get (D := D) (ci := 8) (v := .ref (o_t 8)) (C := RX8) (T := TX8) (N := 36) hx hb hts k1 hown hK hP 0 rfl rfl 7 (by decide) k4 (fun _ h9 => h9) rfl dX8_differs_58 ?_
              refine lv_sipush (v := (600 : Int32)) hx hb dX8_differs_61 (by decide) ?_
              refine lv_iload_n hx hb dX8_differs_64 rfl (lv_at hl 1 rfl) ?_
              refine lv_imul hx hb dX8_differs_65 ?_
              refine lv_aload_n hx hb dX8_differs_66 rfl (lv_at hl 0 rfl) ?_
              refine va_get (D := D) (ci := 8) (v := .ref (o_t 5)) (C := RX8) (T := TX8) (N := 36) hx hb hts k1 hown hK hP 0 rfl rfl 4 (by decide) k7 (fun _ h9 => h9) rfl dX8_differs_67 ?_
              refine lv_iload_n hx hb dX8_differs_70 rfl (lv_at hl 1 rfl) ?_
              obtain ⟨v71, b71, ev71, hf⟩ := rd_s hf
              refine my_iald hx hb hK hP 4 rfl b71 ev71 dX8_differs_71 ?_
              obtain ⟨r72, hr72, hf⟩ := bd_s hf
              refine my_Vv (WS2 := (wd_X8_differs cy o_t x_thrown x_delay x_feel x_turn x_sight r72.1 x_w x_h x_n x_players x_wide x_tall x_hands x_power x_spin x_seed x_pressed x_leftFrom x_leftTo x_isKept r72.2.1 r72.2.2 x_other x_trueStates)) ⟨hx, hb, hml, hown, hts⟩ (c_X8_step l D cy t o_t (o_t 8) 3000 x_thrown x_delay x_feel x_turn x_sight x_ball x_w x_h x_n x_players x_spin x_seed x_leftFrom x_leftTo x_place x_points x_pressed l1 l3 ((600 : Int32) * l1) v71 hr72) (cwV 5 hts gX8_differs_X8_step rfl rfl rfl ⟨rfl, hd_X8_step⟩ ⟨Nat.le_of_ble_eq_true rfl, Nat.le_of_ble_eq_true rfl⟩) hK hE hP hD hS hA [0, 5, 6, 8, 9, 11, 12, 7] 15 8 0 rfl rfl rfl rfl (by decide +kernel) rfl rfl hl.1 rfl (Nat.le_of_ble_eq_true rfl) dX8_differs_72 ⟨Nat.le_of_ble_eq_true rfl, Nat.le_of_ble_eq_true rfl⟩ (fun H locs hP hD hS => ?_)
              refine lv_aload_n hx hb dX8_differs_75 rfl (lv_at hl 0 rfl) ?_
              refine lv_aload_n hx hb dX8_differs_76 rfl (lv_at hl 0 rfl) ?_
              refine va_get (D := D) (ci := 8) (v := .ref (o_t 27)) (C := RX8) (T := TX8) (N := 36) hx hb hts k1 hown hK hP 0 rfl rfl 26 (by decide) k6 (fun _ h9 => h9) rfl dX8_differs_77 ?_
              refine lv_bipush (v := (13 : Int32)) hx hb dX8_differs_80 (by decide) ?_
              refine lv_iload_n hx hb dX8_differs_82 rfl (lv_at hl 3 rfl) ?_
              refine lv_imul hx hb dX8_differs_83 ?_
              obtain ⟨r84, hr84, hf⟩ := bd_s hf
              refine my_Vv (WS2 := (wd_X8_differs cy o_t x_thrown x_delay x_feel x_turn x_sight r72.1 x_w x_h x_n x_players x_wide x_tall x_hands x_power x_spin x_seed x_pressed x_leftFrom x_leftTo x_isKept r72.2.1 r72.2.2 x_other r84)) ⟨hx, hb, hml, hown, hts⟩ (c_X8_write l D cy t o_t (o_t 27) 1300 x_thrown x_delay x_feel x_turn x_sight r72.1 x_w x_h x_n x_players r72.2.1 r72.2.2 x_trueStates ((13 : Int32) * l3) hr84) (cwV 2 hts gX8_differs_X8_write rfl rfl rfl ⟨rfl, hd_X8_write⟩ ⟨Nat.le_of_ble_eq_true rfl, Nat.le_of_ble_eq_true rfl⟩) hK hE hP hD hS hA [0, 11, 12, 14] 15 8 0 rfl rfl rfl rfl (by decide +kernel) rfl rfl hl.1 rfl (Nat.le_of_ble_eq_true rfl) dX8_differs_84 ⟨Nat.le_of_ble_eq_true rfl, Nat.le_of_ble_eq_true rfl⟩ (fun H locs hP hD hS => ?_)
              obtain ⟨v87, ev87, hf⟩ := nm_s hf
              refine lv_iinc (v := v87) (lv' := [(3, .int v87), (0, .ref (o_t 0)), (1, .int l1), (2, .int l2)]) hx hb dX8_differs_87 hl (k := 3) rfl (by rw [ev87]; rfl) (by decide) rfl (fun ls hl => ?_)
              refine lv_goto (tgt := 48) hx hb dX8_differs_90 (by decide) ?_
              exact ih48 _ _ _ _ _ _ _ _ _ _ _ _ _ _ _ hf hP hD hS (lv_sub hl [1, 2, 3, 0] rfl)
        refine lv_aload_n hx hb dX8_differs_41 rfl (lv_at hl 0 rfl) ?_
        refine lv_iload_n hx hb dX8_differs_42 rfl (lv_at hl 1 rfl) ?_
        obtain ⟨r43, hr43, hf⟩ := bd_s hf
        refine my_Vv (WS2 := (wd_X8_differs cy o_t (0 : Int32) x_delay x_feel x_turn x_sight r43.1 r43.2.1 r43.2.2.1 r43.2.2.2.1 x_players x_wide x_tall x_hands x_power x_spin x_seed x_pressed x_leftFrom x_leftTo x_isKept r43.2.2.2.2.1 r43.2.2.2.2.2 x_other x_trueStates)) ⟨hx, hb, hml, hown, hts⟩ (c_X8_start l D cy t o_t (0 : Int32) x_delay x_feel x_turn x_sight x_ball x_w x_h x_n x_players x_wide x_tall x_hands x_place x_points p1 hr43) (cwV 1 hts gX8_differs_X8_start rfl rfl rfl ⟨rfl, hd_X8_start⟩ ⟨Nat.le_of_ble_eq_true rfl, Nat.le_of_ble_eq_true rfl⟩) hK hE hP hD hS hA [0, 1, 2, 3, 11, 12] 15 8 0 rfl rfl rfl rfl (by decide +kernel) rfl rfl hl.1 rfl (Nat.le_of_ble_eq_true rfl) dX8_differs_43 ⟨Nat.le_of_ble_eq_true rfl, Nat.le_of_ble_eq_true rfl⟩ (fun H locs hP hD hS => ?_)
        refine lv_iconst (v := (0 : Int32)) hx hb dX8_differs_46 (by decide) ?_
        refine lv_istore_n (lv' := [(3, .int (0 : Int32)), (0, .ref (o_t 0)), (1, .int p1), (2, .int p2)]) hx hb dX8_differs_47 rfl hl (by decide) rfl (fun ls hl => ?_)
        exact h48 FU _ _ _ _ _ _ _ _ _ _ _ _ _ _ _ hf hP hD hS (lv_sub hl [1, 2, 3, 0] rfl)
      · have hf := ifp c35 hf
        refine lv_bipush (v := (-2 : Int32)) hx hb dX8_differs_38 (by decide) ?_
        obtain rfl := Option.some.inj hf
        exact hR _ _ _ _ hP hD hS dX8_differs_40
    · have hf := ifp c20 hf
      refine lv_bipush (v := (-3 : Int32)) hx hb dX8_differs_23 (by decide) ?_
      obtain rfl := Option.some.inj hf
      exact hR _ _ _ _ hP hD hS dX8_differs_25
  · have hf := ifn c9 hf
    refine lv_iconst (v := (-1 : Int32)) hx hb dX8_differs_12 (by decide) ?_
    obtain rfl := Option.some.inj hf
    exact hR _ _ _ _ hP hD hS dX8_differs_13
theorem hd_X8_differs : yX8_differs.cls ≠ "java/lang/invoke/MethodHandle" ∧ yX8_differs.cls ≠ "java/lang/invoke/VarHandle" ∧ (parseMethodDescriptor yX8_differs.desc).map (fun d => d.parameters.length) = some 2 := by decide +kernel
set_option maxRecDepth 100000 in
theorem c_X8_differs (l : Launch) (D : va_G) (cy : Nat → ClassId) (t : Nat → Nat) (o_t : Nat → Nat) (x_thrown : Int32) (x_delay : Int32) (x_feel : Int32) (x_turn : Int32) (x_sight : Int32) (x_ball : Int32) (x_w : Int32) (x_h : Int32) (x_n : Int32) (x_players : Int32) (x_wide : Nat → Int32) (x_tall : Nat → Int32) (x_hands : Nat → Int32) (x_power : Nat → Int32) (x_spin : Nat → Int32) (x_seed : Nat → Int32) (x_pressed : Nat → Int32) (x_leftFrom : Nat → Int32) (x_leftTo : Nat → Int32) (x_isKept : Nat → Int32) (x_place : Nat → Int32) (x_points : Nat → Int32) (x_other : Nat → Int32) (x_trueStates : Nat → Int32) (p1 : Int32) (p2 : Int32) {out : Int32 × Int32 × Int32 × Int32 × Int32 × Int32 × (Nat → Int32) × (Nat → Int32) × (Nat → Int32) × (Nat → Int32)} (hf : X8_differs x_wide x_tall x_hands x_power x_spin x_seed x_pressed x_leftFrom x_leftTo x_isKept x_thrown x_ball x_w x_h x_n x_place x_points x_other x_trueStates p1 p2 = some out) : ctI l yX8_differs wsX8_differs 5 127 D cy t [.ref (o_t 0), .int p1, .int p2] (wd_X8_differs cy o_t x_thrown x_delay x_feel x_turn x_sight x_ball x_w x_h x_n x_players x_wide x_tall x_hands x_power x_spin x_seed x_pressed x_leftFrom x_leftTo x_isKept x_place x_points x_other x_trueStates) (wd_X8_differs cy o_t out.2.1 x_delay x_feel x_turn x_sight out.2.2.1 out.2.2.2.1 out.2.2.2.2.1 out.2.2.2.2.2.1 x_players x_wide x_tall x_hands x_power x_spin x_seed x_pressed x_leftFrom x_leftTo x_isKept out.2.2.2.2.2.2.1 out.2.2.2.2.2.2.2.1 out.2.2.2.2.2.2.2.2.1 out.2.2.2.2.2.2.2.2.2) out.1 := by
  refine ⟨rfl, ?_⟩
  intro sz
  refine Met.ofW (cc := cX8_differs) (maxL := 4) (ret := (some .int)) (by decide) rfl ?_
  intro p e s m args below meth c s₁ B hml hv
  obtain ⟨rfl, hsz, hP, hK, hD0, hE⟩ := hv
  have hts := atoms_spec (ws := wsX8_differs) B.pre
  have hown : s.vm.findClass RX8 = some m.cls := findClass_of_methodNamed B.named
  have hlocks := B.notSynchronized
  subst hsz
  have hD := hD0.self (sz := s.heap.size)
  have hl := lv_entry ([.ref (o_t 0), .int p1, .int p2]) (n := 4) (Nat.le_of_ble_eq_true rfl)
  rw [lg_entry_eq]
  generalize (lg_sl ([.ref (o_t 0), .int p1, .int p2]) ++ List.replicate (4 - (lg_sl ([.ref (o_t 0), .int p1, .int p2])).length) Slot.unset).toArray = ls at hl ⊢
  exact w_X8_differs D cy t o_t x_thrown x_delay x_feel x_turn x_sight x_ball x_w x_h x_n x_players x_wide x_tall x_hands x_power x_spin x_seed x_pressed x_leftFrom x_leftTo x_isKept x_place x_points x_other x_trueStates p1 p2 hf B.exec B.bytes hml hown hts hK hE (fun q h => Or.inr h) hP hD va_S.rf hl (fun H locs ls pc hP hD hS hdg => W.iret B.exec B.bytes B.returns (fun t ht hW => ⟨⟨_, (), rfl, rfl, ctB_of ht hP⟩, hS.F ht⟩) hS.2.2 hdg)

noncomputable def X8_count_J132 (x_players : Int32) (x_wide : Nat → Int32) (x_tall : Nat → Int32) (x_hands : Nat → Int32) (x_pressed : Nat → Int32) (x_leftFrom : Nat → Int32) (x_leftTo : Nat → Int32) (x_isKept : Nat → Int32) (x_isLost : Nat → Int32) (x_thrown : Int32) (l1 : Int32) (l2 : Int32) (l3 : Int32) (l4 : Int32) : Option (Int32 × Int32) :=
  if l1 = (0 : Int32) then (rd x_hands 5 (4 : Int32) fun v185 => some (v185, x_thrown)) else if l1 = (1 : Int32) then (rd x_wide 5 (4 : Int32) fun v192 => some (v192, x_thrown)) else if l1 = (2 : Int32) then (rd x_tall 5 (4 : Int32) fun v199 => some (v199, x_thrown)) else if l1 = (3 : Int32) then (bd (X8_presses x_hands x_pressed) fun r202 => some (r202, x_thrown)) else if l1 = (4 : Int32) then (some (l2, x_thrown)) else if l1 = (5 : Int32) then (some (l3, x_thrown)) else if l1 = (6 : Int32) then (some (x_players, x_thrown)) else if l1 = (7 : Int32) then (some (l4, x_thrown)) else (some ((-2 : Int32), x_thrown))
noncomputable def X8_count_J123 (x_players : Int32) (x_wide : Nat → Int32) (x_tall : Nat → Int32) (x_hands : Nat → Int32) (x_pressed : Nat → Int32) (x_leftFrom : Nat → Int32) (x_leftTo : Nat → Int32) (x_isKept : Nat → Int32) (x_isLost : Nat → Int32) (rec100 : Int32 → Int32 → Int32 → Int32 → Int32 → Int32 → Option (Int32 × Int32)) (x_thrown : Int32) (l1 : Int32) (l2 : Int32) (l3 : Int32) (l5 : Int32) (s0 : Int32) (s1 : Int32) : Option (Int32 × Int32) :=
  nm (s0 + s1) fun v124 => nm (l5 + (1 : Int32)) fun v126 => rec100 x_thrown l1 l2 l3 v124 v126
noncomputable def X8_count_L100_B (x_players : Int32) (x_wide : Nat → Int32) (x_tall : Nat → Int32) (x_hands : Nat → Int32) (x_pressed : Nat → Int32) (x_leftFrom : Nat → Int32) (x_leftTo : Nat → Int32) (x_isKept : Nat → Int32) (x_isLost : Nat → Int32) (rec100 : Int32 → Int32 → Int32 → Int32 → Int32 → Int32 → Option (Int32 × Int32)) (x_thrown : Int32) (l1 : Int32) (l2 : Int32) (l3 : Int32) (l4 : Int32) (l5 : Int32) : Option (Int32 × Int32) :=
  if (4 : Int32) ≤ l5 then (X8_count_J132 x_players x_wide x_tall x_hands x_pressed x_leftFrom x_leftTo x_isKept x_isLost  x_thrown l1 l2 l3 l4) else (rd x_isKept 4 l5 fun v114 => if v114 = (0 : Int32) then (X8_count_J123 x_players x_wide x_tall x_hands x_pressed x_leftFrom x_leftTo x_isKept x_isLost rec100 x_thrown l1 l2 l3 l5 l4 (0 : Int32)) else (X8_count_J123 x_players x_wide x_tall x_hands x_pressed x_leftFrom x_leftTo x_isKept x_isLost rec100 x_thrown l1 l2 l3 l5 l4 (1 : Int32)))
noncomputable def X8_count_L100 (x_players : Int32) (x_wide : Nat → Int32) (x_tall : Nat → Int32) (x_hands : Nat → Int32) (x_pressed : Nat → Int32) (x_leftFrom : Nat → Int32) (x_leftTo : Nat → Int32) (x_isKept : Nat → Int32) (x_isLost : Nat → Int32) : Nat → Int32 → Int32 → Int32 → Int32 → Int32 → Int32 → Option (Int32 × Int32)
  | 0, _, _, _, _, _, _ => none
  | n + 1, y0, y1, y2, y3, y4, y5 => X8_count_L100_B x_players x_wide x_tall x_hands x_pressed x_leftFrom x_leftTo x_isKept x_isLost  (X8_count_L100 x_players x_wide x_tall x_hands x_pressed x_leftFrom x_leftTo x_isKept x_isLost  n) y0 y1 y2 y3 y4 y5
noncomputable def X8_count_J97 (x_players : Int32) (x_wide : Nat → Int32) (x_tall : Nat → Int32) (x_hands : Nat → Int32) (x_pressed : Nat → Int32) (x_leftFrom : Nat → Int32) (x_leftTo : Nat → Int32) (x_isKept : Nat → Int32) (x_isLost : Nat → Int32) (x_thrown : Int32) (l1 : Int32) (l2 : Int32) (l3 : Int32) (l4 : Int32) : Option (Int32 × Int32) :=
  X8_count_L100 x_players x_wide x_tall x_hands x_pressed x_leftFrom x_leftTo x_isKept x_isLost  FU x_thrown l1 l2 l3 l4 (0 : Int32)
noncomputable def X8_count_L56_B (x_players : Int32) (x_wide : Nat → Int32) (x_tall : Nat → Int32) (x_hands : Nat → Int32) (x_pressed : Nat → Int32) (x_leftFrom : Nat → Int32) (x_leftTo : Nat → Int32) (x_isKept : Nat → Int32) (x_isLost : Nat → Int32) (rec56 : Int32 → Int32 → Int32 → Int32 → Int32 → Int32 → Option (Int32 × Int32)) (x_thrown : Int32) (l1 : Int32) (l2 : Int32) (l3 : Int32) (l4 : Int32) (l5 : Int32) : Option (Int32 × Int32) :=
  rd x_hands 5 (4 : Int32) fun v63 => if v63 ≤ l5 then (X8_count_J97 x_players x_wide x_tall x_hands x_pressed x_leftFrom x_leftTo x_isKept x_isLost  x_thrown l1 l2 l3 l4) else (rd x_leftTo 30 ((24 : Int32) + l5) fun v77 => rd x_leftFrom 30 ((24 : Int32) + l5) fun v87 => nm (l3 + (v77 - v87)) fun v90 => nm (l5 + (1 : Int32)) fun v91 => rec56 x_thrown l1 l2 v90 l4 v91)
noncomputable def X8_count_L56 (x_players : Int32) (x_wide : Nat → Int32) (x_tall : Nat → Int32) (x_hands : Nat → Int32) (x_pressed : Nat → Int32) (x_leftFrom : Nat → Int32) (x_leftTo : Nat → Int32) (x_isKept : Nat → Int32) (x_isLost : Nat → Int32) : Nat → Int32 → Int32 → Int32 → Int32 → Int32 → Int32 → Option (Int32 × Int32)
  | 0, _, _, _, _, _, _ => none
  | n + 1, y0, y1, y2, y3, y4, y5 => X8_count_L56_B x_players x_wide x_tall x_hands x_pressed x_leftFrom x_leftTo x_isKept x_isLost  (X8_count_L56 x_players x_wide x_tall x_hands x_pressed x_leftFrom x_leftTo x_isKept x_isLost  n) y0 y1 y2 y3 y4 y5
noncomputable def X8_count_J53 (x_players : Int32) (x_wide : Nat → Int32) (x_tall : Nat → Int32) (x_hands : Nat → Int32) (x_pressed : Nat → Int32) (x_leftFrom : Nat → Int32) (x_leftTo : Nat → Int32) (x_isKept : Nat → Int32) (x_isLost : Nat → Int32) (x_thrown : Int32) (l1 : Int32) (l2 : Int32) (l3 : Int32) (l4 : Int32) : Option (Int32 × Int32) :=
  X8_count_L56 x_players x_wide x_tall x_hands x_pressed x_leftFrom x_leftTo x_isKept x_isLost  FU x_thrown l1 l2 l3 l4 (0 : Int32)
noncomputable def X8_count_J45 (x_players : Int32) (x_wide : Nat → Int32) (x_tall : Nat → Int32) (x_hands : Nat → Int32) (x_pressed : Nat → Int32) (x_leftFrom : Nat → Int32) (x_leftTo : Nat → Int32) (x_isKept : Nat → Int32) (x_isLost : Nat → Int32) (rec15 : Int32 → Int32 → Int32 → Int32 → Int32 → Int32 → Option (Int32 × Int32)) (x_thrown : Int32) (l1 : Int32) (l3 : Int32) (l4 : Int32) (l5 : Int32) (s0 : Int32) (s1 : Int32) : Option (Int32 × Int32) :=
  nm (s0 + s1) fun v46 => nm (l5 + (1 : Int32)) fun v47 => rec15 x_thrown l1 v46 l3 l4 v47
noncomputable def X8_count_L15_B (x_players : Int32) (x_wide : Nat → Int32) (x_tall : Nat → Int32) (x_hands : Nat → Int32) (x_pressed : Nat → Int32) (x_leftFrom : Nat → Int32) (x_leftTo : Nat → Int32) (x_isKept : Nat → Int32) (x_isLost : Nat → Int32) (rec15 : Int32 → Int32 → Int32 → Int32 → Int32 → Int32 → Option (Int32 × Int32)) (x_thrown : Int32) (l1 : Int32) (l2 : Int32) (l3 : Int32) (l4 : Int32) (l5 : Int32) : Option (Int32 × Int32) :=
  rd x_hands 5 (4 : Int32) fun v24 => if ((100 : Int32) * v24) ≤ l5 then (X8_count_J53 x_players x_wide x_tall x_hands x_pressed x_leftFrom x_leftTo x_isKept x_isLost  x_thrown l1 l2 l3 l4) else (rd x_isLost 600 l5 fun v36 => if v36 = (0 : Int32) then (X8_count_J45 x_players x_wide x_tall x_hands x_pressed x_leftFrom x_leftTo x_isKept x_isLost rec15 x_thrown l1 l3 l4 l5 l2 (0 : Int32)) else (X8_count_J45 x_players x_wide x_tall x_hands x_pressed x_leftFrom x_leftTo x_isKept x_isLost rec15 x_thrown l1 l3 l4 l5 l2 (1 : Int32)))
noncomputable def X8_count_L15 (x_players : Int32) (x_wide : Nat → Int32) (x_tall : Nat → Int32) (x_hands : Nat → Int32) (x_pressed : Nat → Int32) (x_leftFrom : Nat → Int32) (x_leftTo : Nat → Int32) (x_isKept : Nat → Int32) (x_isLost : Nat → Int32) : Nat → Int32 → Int32 → Int32 → Int32 → Int32 → Int32 → Option (Int32 × Int32)
  | 0, _, _, _, _, _, _ => none
  | n + 1, y0, y1, y2, y3, y4, y5 => X8_count_L15_B x_players x_wide x_tall x_hands x_pressed x_leftFrom x_leftTo x_isKept x_isLost  (X8_count_L15 x_players x_wide x_tall x_hands x_pressed x_leftFrom x_leftTo x_isKept x_isLost  n) y0 y1 y2 y3 y4 y5
noncomputable def X8_count (x_players : Int32) (x_wide : Nat → Int32) (x_tall : Nat → Int32) (x_hands : Nat → Int32) (x_pressed : Nat → Int32) (x_leftFrom : Nat → Int32) (x_leftTo : Nat → Int32) (x_isKept : Nat → Int32) (x_isLost : Nat → Int32) (x_thrown : Int32) (p1 : Int32) : Option (Int32 × Int32) :=
  X8_count_L15 x_players x_wide x_tall x_hands x_pressed x_leftFrom x_leftTo x_isKept x_isLost  FU (0 : Int32) p1 (0 : Int32) (0 : Int32) (0 : Int32) (0 : Int32)
abbrev wd_X8_count (cy : Nat → ClassId) (o_t : Nat → Nat) (x_thrown : Int32) (x_delay : Int32) (x_feel : Int32) (x_turn : Int32) (x_sight : Int32) (x_ball : Int32) (x_w : Int32) (x_h : Int32) (x_n : Int32) (x_players : Int32) (x_wide : Nat → Int32) (x_tall : Nat → Int32) (x_hands : Nat → Int32) (x_pressed : Nat → Int32) (x_leftFrom : Nat → Int32) (x_leftTo : Nat → Int32) (x_isKept : Nat → Int32) (x_isLost : Nat → Int32) : va_W := [(o_t 0, .inr (8, [.int x_thrown, .ref (o_t 2), .ref (o_t 3), .ref (o_t 4), .ref (o_t 5), .ref (o_t 6), .ref (o_t 7), .ref (o_t 8), .ref (o_t 9), .ref (o_t 10), .ref (o_t 11), .int x_delay, .int x_feel, .int x_turn, .int x_sight, .ref (o_t 16), .ref (o_t 17), .ref (o_t 18), .ref (o_t 19), .int x_ball, .int x_w, .int x_h, .int x_n, .ref (o_t 24), .ref (o_t 25), .ref (o_t 26), .ref (o_t 27), .ref (o_t 28), .ref (o_t 29), .int x_players, .ref (o_t 31), .ref (o_t 32), .ref (o_t 33), .ref (o_t 34), .ref (o_t 35), .ref (o_t 36)])), (o_t 2, .inl (cy 0, 5, .inl x_wide)), (o_t 3, .inl (cy 0, 5, .inl x_tall)), (o_t 4, .inl (cy 0, 5, .inl x_hands)), (o_t 8, .inl (cy 0, 3000, .inl x_pressed)), (o_t 9, .inl (cy 0, 30, .inl x_leftFrom)), (o_t 10, .inl (cy 0, 30, .inl x_leftTo)), (o_t 11, .inl (cy 1, 4, .inl x_isKept)), (o_t 17, .inl (cy 1, 600, .inl x_isLost))]
set_option maxHeartbeats 4000000 in
set_option maxRecDepth 100000 in
theorem w_X8_count {p : Program} {l : Launch} {e : Env} {s : State} {m : MethodId} {args : Array Value} {below : List Frame} {meth : Method} {c : Code} {Q : State → Prop} {A : Nat → Prop} {H : Heap} {locs : List Loc} {ls : Array Slot} (D : va_G) (cy : Nat → ClassId) (t : Nat → Nat) (o_t : Nat → Nat) (x_thrown : Int32) (x_delay : Int32) (x_feel : Int32) (x_turn : Int32) (x_sight : Int32) (x_ball : Int32) (x_w : Int32) (x_h : Int32) (x_n : Int32) (x_players : Int32) (x_wide : Nat → Int32) (x_tall : Nat → Int32) (x_hands : Nat → Int32) (x_pressed : Nat → Int32) (x_leftFrom : Nat → Int32) (x_leftTo : Nat → Int32) (x_isKept : Nat → Int32) (x_isLost : Nat → Int32) (p1 : Int32) {out : Int32 × Int32} (hf : X8_count x_players x_wide x_tall x_hands x_pressed x_leftFrom x_leftTo x_isKept x_isLost x_thrown p1 = some out) (hx : p.tables.exec = Jvm.exec) (hb : c.code = cX8_count) (hml : c.maxLocals = 6) (hown : s.vm.findClass RX8 = some m.cls) (hts : ∀ w ∈ wsX8_count, w.before args s = true) (hK : va_K D vwCl (TYS cy) s) (hE : EV t A s s.heap) (hA : ∀ q, s.heap.size ≤ q → A q) (hP : va_P D vwCl (wd_X8_count cy o_t x_thrown x_delay x_feel x_turn x_sight x_ball x_w x_h x_n x_players x_wide x_tall x_hands x_pressed x_leftFrom x_leftTo x_isKept x_isLost) H) (hD : va_D A (wd_X8_count cy o_t x_thrown x_delay x_feel x_turn x_sight x_ball x_w x_h x_n x_players x_wide x_tall x_hands x_pressed x_leftFrom x_leftTo x_isKept x_isLost)) (hS : va_S A s.heap H locs) (hl : lv_has ls 6 [(0, .ref (o_t 0)), (1, .int p1)]) (hR : ∀ (H : Heap) (locs : List Loc) (ls : Array Slot) (pc : Nat), va_P D vwCl (wd_X8_count cy o_t out.2 x_delay x_feel x_turn x_sight x_ball x_w x_h x_n x_players x_wide x_tall x_hands x_pressed x_leftFrom x_leftTo x_isKept x_isLost) H → va_D A (wd_X8_count cy o_t out.2 x_delay x_feel x_turn x_sight x_ball x_w x_h x_n x_players x_wide x_tall x_hands x_pressed x_leftFrom x_leftTo x_isKept x_isLost) → va_S A s.heap H locs → decode cX8_count pc = .ok (.ireturn, 1) → W p l e (rmm 1 22) s m args below meth c H locs 0 0 Q (F0 m pc ls [.int out.1])) : W p l e (rmm 1 22) s m args below meth c H locs 0 0 Q (F0 m 0 ls []) := by
  have k0 := hts (.fieldLink RX8 100 "SeaGamesModel" "thrown" "I") (List.mem_cons_of_mem _ (List.mem_append_left _ (List.mem_of_getElem? (i := 0) rfl)))
  have k1 : ∀ w ∈ u_ws RX8 TX8 36, w ∈ wsX8_count := fun _ h => List.mem_cons_of_mem _ (List.mem_append_right _ h)
  have k2 := hts (.fieldLink RX8 16 "SeaGamesModel" "hands" "[I") (List.mem_cons_of_mem _ (List.mem_append_left _ (List.mem_of_getElem? (i := 1) rfl)))
  have k3 := hts (.fieldLink RX8 7 "SeaGamesModel" "wide" "[I") (List.mem_cons_of_mem _ (List.mem_append_left _ (List.mem_of_getElem? (i := 6) rfl)))
  have k4 := hts (.fieldLink RX8 13 "SeaGamesModel" "tall" "[I") (List.mem_cons_of_mem _ (List.mem_append_left _ (List.mem_of_getElem? (i := 7) rfl)))
  have k5 := hts (.fieldLink RX8 228 "SeaGamesModel" "players" "I") (List.mem_cons_of_mem _ (List.mem_append_left _ (List.mem_of_getElem? (i := 8) rfl)))
  have k6 := hts (.fieldLink RX8 37 "SeaGamesModel" "isKept" "[Z") (List.mem_cons_of_mem _ (List.mem_append_left _ (List.mem_of_getElem? (i := 5) rfl)))
  have k7 := hts (.fieldLink RX8 34 "SeaGamesModel" "leftTo" "[I") (List.mem_cons_of_mem _ (List.mem_append_left _ (List.mem_of_getElem? (i := 3) rfl)))
  have k8 := hts (.fieldLink RX8 31 "SeaGamesModel" "leftFrom" "[I") (List.mem_cons_of_mem _ (List.mem_append_left _ (List.mem_of_getElem? (i := 4) rfl)))
  have k9 := hts (.fieldLink RX8 54 "SeaGamesModel" "isLost" "[Z") (List.mem_cons_of_mem _ (List.mem_append_left _ (List.mem_of_getElem? (i := 2) rfl)))
  rw [X8_count] at hf
  have h15 : ∀ (n15 : Nat) (x_thrown : Int32) (l1 : Int32) (l2 : Int32) (l3 : Int32) (l4 : Int32) (l5 : Int32) (H : Heap) (locs : List Loc) (ls : Array Slot), X8_count_L15 x_players x_wide x_tall x_hands x_pressed x_leftFrom x_leftTo x_isKept x_isLost n15 x_thrown l1 l2 l3 l4 l5 = some out → va_P D vwCl (wd_X8_count cy o_t x_thrown x_delay x_feel x_turn x_sight x_ball x_w x_h x_n x_players x_wide x_tall x_hands x_pressed x_leftFrom x_leftTo x_isKept x_isLost) H → va_D A (wd_X8_count cy o_t x_thrown x_delay x_feel x_turn x_sight x_ball x_w x_h x_n x_players x_wide x_tall x_hands x_pressed x_leftFrom x_leftTo x_isKept x_isLost) → va_S A s.heap H locs → lv_has ls 6 [(0, .ref (o_t 0)), (1, .int l1), (2, .int l2), (3, .int l3), (4, .int l4), (5, .int l5)] → W p l e (rmm 1 22) s m args below meth c H locs 0 0 Q (F0 m 15 ls []) := by
    intro n15
    induction n15 with
    | zero =>
      intro _ _ _ _ _ _ _ _ _ hf
      exact nomatch (show (none : Option _) = some out from hf)
    | succ n15 ih15 =>
      intro x_thrown l1 l2 l3 l4 l5 H locs ls hf hP hD hS hl
      have hf : X8_count_L15_B x_players x_wide x_tall x_hands x_pressed x_leftFrom x_leftTo x_isKept x_isLost (X8_count_L15 x_players x_wide x_tall x_hands x_pressed x_leftFrom x_leftTo x_isKept x_isLost n15) x_thrown l1 l2 l3 l4 l5 = some out := hf
      rw [X8_count_L15_B] at hf
      have h53 : ∀ (x_thrown : Int32) (l1 : Int32) (l2 : Int32) (l3 : Int32) (l4 : Int32) (H : Heap) (locs : List Loc) (ls : Array Slot), X8_count_J53 x_players x_wide x_tall x_hands x_pressed x_leftFrom x_leftTo x_isKept x_isLost x_thrown l1 l2 l3 l4 = some out → va_P D vwCl (wd_X8_count cy o_t x_thrown x_delay x_feel x_turn x_sight x_ball x_w x_h x_n x_players x_wide x_tall x_hands x_pressed x_leftFrom x_leftTo x_isKept x_isLost) H → va_D A (wd_X8_count cy o_t x_thrown x_delay x_feel x_turn x_sight x_ball x_w x_h x_n x_players x_wide x_tall x_hands x_pressed x_leftFrom x_leftTo x_isKept x_isLost) → va_S A s.heap H locs → lv_has ls 6 [(0, .ref (o_t 0)), (1, .int l1), (2, .int l2), (3, .int l3), (4, .int l4)] → W p l e (rmm 1 22) s m args below meth c H locs 0 0 Q (F0 m 53 ls []) := by
        intro x_thrown l1 l2 l3 l4 H locs ls hf hP hD hS hl
        rw [X8_count_J53] at hf
        have h56 : ∀ (n56 : Nat) (x_thrown : Int32) (l1 : Int32) (l2 : Int32) (l3 : Int32) (l4 : Int32) (l5 : Int32) (H : Heap) (locs : List Loc) (ls : Array Slot), X8_count_L56 x_players x_wide x_tall x_hands x_pressed x_leftFrom x_leftTo x_isKept x_isLost n56 x_thrown l1 l2 l3 l4 l5 = some out → va_P D vwCl (wd_X8_count cy o_t x_thrown x_delay x_feel x_turn x_sight x_ball x_w x_h x_n x_players x_wide x_tall x_hands x_pressed x_leftFrom x_leftTo x_isKept x_isLost) H → va_D A (wd_X8_count cy o_t x_thrown x_delay x_feel x_turn x_sight x_ball x_w x_h x_n x_players x_wide x_tall x_hands x_pressed x_leftFrom x_leftTo x_isKept x_isLost) → va_S A s.heap H locs → lv_has ls 6 [(0, .ref (o_t 0)), (1, .int l1), (2, .int l2), (3, .int l3), (4, .int l4), (5, .int l5)] → W p l e (rmm 1 22) s m args below meth c H locs 0 0 Q (F0 m 56 ls []) := by
          intro n56
          induction n56 with
          | zero =>
            intro _ _ _ _ _ _ _ _ _ hf
            exact nomatch (show (none : Option _) = some out from hf)
          | succ n56 ih56 =>
            intro x_thrown l1 l2 l3 l4 l5 H locs ls hf hP hD hS hl
            have hf : X8_count_L56_B x_players x_wide x_tall x_hands x_pressed x_leftFrom x_leftTo x_isKept x_isLost (X8_count_L56 x_players x_wide x_tall x_hands x_pressed x_leftFrom x_leftTo x_isKept x_isLost n56) x_thrown l1 l2 l3 l4 l5 = some out := hf
            rw [X8_count_L56_B] at hf
            have h97 : ∀ (x_thrown : Int32) (l1 : Int32) (l2 : Int32) (l3 : Int32) (l4 : Int32) (H : Heap) (locs : List Loc) (ls : Array Slot), X8_count_J97 x_players x_wide x_tall x_hands x_pressed x_leftFrom x_leftTo x_isKept x_isLost x_thrown l1 l2 l3 l4 = some out → va_P D vwCl (wd_X8_count cy o_t x_thrown x_delay x_feel x_turn x_sight x_ball x_w x_h x_n x_players x_wide x_tall x_hands x_pressed x_leftFrom x_leftTo x_isKept x_isLost) H → va_D A (wd_X8_count cy o_t x_thrown x_delay x_feel x_turn x_sight x_ball x_w x_h x_n x_players x_wide x_tall x_hands x_pressed x_leftFrom x_leftTo x_isKept x_isLost) → va_S A s.heap H locs → lv_has ls 6 [(0, .ref (o_t 0)), (1, .int l1), (2, .int l2), (3, .int l3), (4, .int l4)] → W p l e (rmm 1 22) s m args below meth c H locs 0 0 Q (F0 m 97 ls []) := by
              intro x_thrown l1 l2 l3 l4 H locs ls hf hP hD hS hl
              rw [X8_count_J97] at hf
              have h100 : ∀ (n100 : Nat) (x_thrown : Int32) (l1 : Int32) (l2 : Int32) (l3 : Int32) (l4 : Int32) (l5 : Int32) (H : Heap) (locs : List Loc) (ls : Array Slot), X8_count_L100 x_players x_wide x_tall x_hands x_pressed x_leftFrom x_leftTo x_isKept x_isLost n100 x_thrown l1 l2 l3 l4 l5 = some out → va_P D vwCl (wd_X8_count cy o_t x_thrown x_delay x_feel x_turn x_sight x_ball x_w x_h x_n x_players x_wide x_tall x_hands x_pressed x_leftFrom x_leftTo x_isKept x_isLost) H → va_D A (wd_X8_count cy o_t x_thrown x_delay x_feel x_turn x_sight x_ball x_w x_h x_n x_players x_wide x_tall x_hands x_pressed x_leftFrom x_leftTo x_isKept x_isLost) → va_S A s.heap H locs → lv_has ls 6 [(0, .ref (o_t 0)), (1, .int l1), (2, .int l2), (3, .int l3), (4, .int l4), (5, .int l5)] → W p l e (rmm 1 22) s m args below meth c H locs 0 0 Q (F0 m 100 ls []) := by
                intro n100
                induction n100 with
                | zero =>
                  intro _ _ _ _ _ _ _ _ _ hf
                  exact nomatch (show (none : Option _) = some out from hf)
                | succ n100 ih100 =>
                  intro x_thrown l1 l2 l3 l4 l5 H locs ls hf hP hD hS hl
                  have hf : X8_count_L100_B x_players x_wide x_tall x_hands x_pressed x_leftFrom x_leftTo x_isKept x_isLost (X8_count_L100 x_players x_wide x_tall x_hands x_pressed x_leftFrom x_leftTo x_isKept x_isLost n100) x_thrown l1 l2 l3 l4 l5 = some out := hf
                  rw [X8_count_L100_B] at hf
                  have h132 : ∀ (x_thrown : Int32) (l1 : Int32) (l2 : Int32) (l3 : Int32) (l4 : Int32) (H : Heap) (locs : List Loc) (ls : Array Slot), X8_count_J132 x_players x_wide x_tall x_hands x_pressed x_leftFrom x_leftTo x_isKept x_isLost x_thrown l1 l2 l3 l4 = some out → va_P D vwCl (wd_X8_count cy o_t x_thrown x_delay x_feel x_turn x_sight x_ball x_w x_h x_n x_players x_wide x_tall x_hands x_pressed x_leftFrom x_leftTo x_isKept x_isLost) H → va_D A (wd_X8_count cy o_t x_thrown x_delay x_feel x_turn x_sight x_ball x_w x_h x_n x_players x_wide x_tall x_hands x_pressed x_leftFrom x_leftTo x_isKept x_isLost) → va_S A s.heap H locs → lv_has ls 6 [(0, .ref (o_t 0)), (1, .int l1), (2, .int l2), (3, .int l3), (4, .int l4)] → W p l e (rmm 1 22) s m args below meth c H locs 0 0 Q (F0 m 132 ls []) := by
                    intro x_thrown l1 l2 l3 l4 H locs ls hf hP hD hS hl
                    rw [X8_count_J132] at hf
                    refine lv_iload_n hx hb dX8_count_132 rfl (lv_at hl 1 rfl) ?_
                    by_cases c133_0 : l1 = (0 : Int32)
                    · have hf := ifp c133_0 hf
                      refine lv_tableIn (tgt := 180) hx hb dX8_count_133 (by rw [c133_0]; decide) (by rw [c133_0]; decide) (by rw [c133_0]; rfl) (by decide) ?_
                      refine lv_aload_n hx hb dX8_count_180 rfl (lv_at hl 0 rfl) ?_
                      refine va_get (D := D) (ci := 8) (v := .ref (o_t 4)) (C := RX8) (T := TX8) (N := 36) hx hb hts k1 hown hK hP 0 rfl rfl 3 (by decide) k2 (fun _ h9 => h9) rfl dX8_count_181 ?_
                      refine lv_iconst (v := (4 : Int32)) hx hb dX8_count_184 (by decide) ?_
                      obtain ⟨v185, b185, ev185, hf⟩ := rd_s hf
                      refine my_iald hx hb hK hP 3 rfl b185 ev185 dX8_count_185 ?_
                      obtain rfl := Option.some.inj hf
                      exact hR _ _ _ _ hP hD hS dX8_count_186
                    have hf := ifn c133_0 hf
                    by_cases c133_1 : l1 = (1 : Int32)
                    · have hf := ifp c133_1 hf
                      refine lv_tableIn (tgt := 187) hx hb dX8_count_133 (by rw [c133_1]; decide) (by rw [c133_1]; decide) (by rw [c133_1]; rfl) (by decide) ?_
                      refine lv_aload_n hx hb dX8_count_187 rfl (lv_at hl 0 rfl) ?_
                      refine va_get (D := D) (ci := 8) (v := .ref (o_t 2)) (C := RX8) (T := TX8) (N := 36) hx hb hts k1 hown hK hP 0 rfl rfl 1 (by decide) k3 (fun _ h9 => h9) rfl dX8_count_188 ?_
                      refine lv_iconst (v := (4 : Int32)) hx hb dX8_count_191 (by decide) ?_
                      obtain ⟨v192, b192, ev192, hf⟩ := rd_s hf
                      refine my_iald hx hb hK hP 1 rfl b192 ev192 dX8_count_192 ?_
                      obtain rfl := Option.some.inj hf
                      exact hR _ _ _ _ hP hD hS dX8_count_193
                    have hf := ifn c133_1 hf
                    by_cases c133_2 : l1 = (2 : Int32)
                    · have hf := ifp c133_2 hf
                      refine lv_tableIn (tgt := 194) hx hb dX8_count_133 (by rw [c133_2]; decide) (by rw [c133_2]; decide) (by rw [c133_2]; rfl) (by decide) ?_
                      refine lv_aload_n hx hb dX8_count_194 rfl (lv_at hl 0 rfl) ?_
                      refine va_get (D := D) (ci := 8) (v := .ref (o_t 3)) (C := RX8) (T := TX8) (N := 36) hx hb hts k1 hown hK hP 0 rfl rfl 2 (by decide) k4 (fun _ h9 => h9) rfl dX8_count_195 ?_
                      refine lv_iconst (v := (4 : Int32)) hx hb dX8_count_198 (by decide) ?_
                      obtain ⟨v199, b199, ev199, hf⟩ := rd_s hf
                      refine my_iald hx hb hK hP 2 rfl b199 ev199 dX8_count_199 ?_
                      obtain rfl := Option.some.inj hf
                      exact hR _ _ _ _ hP hD hS dX8_count_200
                    have hf := ifn c133_2 hf
                    by_cases c133_3 : l1 = (3 : Int32)
                    · have hf := ifp c133_3 hf
                      refine lv_tableIn (tgt := 201) hx hb dX8_count_133 (by rw [c133_3]; decide) (by rw [c133_3]; decide) (by rw [c133_3]; rfl) (by decide) ?_
                      refine lv_aload_n hx hb dX8_count_201 rfl (lv_at hl 0 rfl) ?_
                      obtain ⟨r202, hr202, hf⟩ := bd_s hf
                      refine my_Vi (WS2 := (wd_X8_count cy o_t x_thrown x_delay x_feel x_turn x_sight x_ball x_w x_h x_n x_players x_wide x_tall x_hands x_pressed x_leftFrom x_leftTo x_isKept x_isLost)) ⟨hx, hb, hml, hown, hts⟩ (c_X8_presses l D cy t o_t x_thrown x_delay x_feel x_turn x_sight x_ball x_w x_h x_n x_players x_hands x_pressed hr202) (cwV 0 hts gX8_count_X8_presses rfl rfl rfl ⟨rfl, hd_X8_presses⟩ ⟨Nat.le_of_ble_eq_true rfl, Nat.le_of_ble_eq_true rfl⟩) hK hE hP hD hS hA [0, 3, 4] 9 8 0 rfl rfl rfl rfl (by decide +kernel) rfl rfl hl.1 rfl (Nat.le_of_ble_eq_true rfl) dX8_count_202 ⟨Nat.le_of_ble_eq_true rfl, Nat.le_of_ble_eq_true rfl⟩ (fun H locs hP hD hS => ?_)
                      obtain rfl := Option.some.inj hf
                      exact hR _ _ _ _ hP hD hS dX8_count_205
                    have hf := ifn c133_3 hf
                    by_cases c133_4 : l1 = (4 : Int32)
                    · have hf := ifp c133_4 hf
                      refine lv_tableIn (tgt := 206) hx hb dX8_count_133 (by rw [c133_4]; decide) (by rw [c133_4]; decide) (by rw [c133_4]; rfl) (by decide) ?_
                      refine lv_iload_n hx hb dX8_count_206 rfl (lv_at hl 2 rfl) ?_
                      obtain rfl := Option.some.inj hf
                      exact hR _ _ _ _ hP hD hS dX8_count_207
                    have hf := ifn c133_4 hf
                    by_cases c133_5 : l1 = (5 : Int32)
                    · have hf := ifp c133_5 hf
                      refine lv_tableIn (tgt := 208) hx hb dX8_count_133 (by rw [c133_5]; decide) (by rw [c133_5]; decide) (by rw [c133_5]; rfl) (by decide) ?_
                      refine lv_iload_n hx hb dX8_count_208 rfl (lv_at hl 3 rfl) ?_
                      obtain rfl := Option.some.inj hf
                      exact hR _ _ _ _ hP hD hS dX8_count_209
                    have hf := ifn c133_5 hf
                    by_cases c133_6 : l1 = (6 : Int32)
                    · have hf := ifp c133_6 hf
                      refine lv_tableIn (tgt := 210) hx hb dX8_count_133 (by rw [c133_6]; decide) (by rw [c133_6]; decide) (by rw [c133_6]; rfl) (by decide) ?_
                      refine lv_aload_n hx hb dX8_count_210 rfl (lv_at hl 0 rfl) ?_
                      refine va_get (D := D) (ci := 8) (v := .int x_players) (C := RX8) (T := TX8) (N := 36) hx hb hts k1 hown hK hP 0 rfl rfl 29 (by decide) k5 (fun _ h9 => h9) rfl dX8_count_211 ?_
                      obtain rfl := Option.some.inj hf
                      exact hR _ _ _ _ hP hD hS dX8_count_214
                    have hf := ifn c133_6 hf
                    by_cases c133_7 : l1 = (7 : Int32)
                    · have hf := ifp c133_7 hf
                      refine lv_tableIn (tgt := 215) hx hb dX8_count_133 (by rw [c133_7]; decide) (by rw [c133_7]; decide) (by rw [c133_7]; rfl) (by decide) ?_
                      refine lv_iload hx hb dX8_count_215 (lv_at hl 4 rfl) ?_
                      obtain rfl := Option.some.inj hf
                      exact hR _ _ _ _ hP hD hS dX8_count_217
                    have hf := ifn c133_7 hf
                    have e133_0 := ne_ti c133_0
                    have e133_1 := ne_ti c133_1
                    have e133_2 := ne_ti c133_2
                    have e133_3 := ne_ti c133_3
                    have e133_4 := ne_ti c133_4
                    have e133_5 := ne_ti c133_5
                    have e133_6 := ne_ti c133_6
                    have e133_7 := ne_ti c133_7
                    refine lv_tableOut (tgt := 218) hx hb dX8_count_133 (by have q0 : ((0 : Int32)).toInt = 0 := rfl; have q1 : ((1 : Int32)).toInt = 1 := rfl; have q2 : ((2 : Int32)).toInt = 2 := rfl; have q3 : ((3 : Int32)).toInt = 3 := rfl; have q4 : ((4 : Int32)).toInt = 4 := rfl; have q5 : ((5 : Int32)).toInt = 5 := rfl; have q6 : ((6 : Int32)).toInt = 6 := rfl; have q7 : ((7 : Int32)).toInt = 7 := rfl; omega) (by decide) ?_
                    refine lv_bipush (v := (-2 : Int32)) hx hb dX8_count_218 (by decide) ?_
                    obtain rfl := Option.some.inj hf
                    exact hR _ _ _ _ hP hD hS dX8_count_220
                  refine lv_iload hx hb dX8_count_100 (lv_at hl 5 rfl) ?_
                  refine lv_iconst (v := (4 : Int32)) hx hb dX8_count_102 (by decide) ?_
                  refine lv_icmp_ge (tgt := 132) hx hb dX8_count_103 (by decide) (fun c103 => ?_) (fun c103 => ?_)
                  · have hf := ifp c103 hf
                    exact h132 _ _ _ _ _ _ _ _ hf hP hD hS (lv_sub hl [0, 1, 2, 3, 4] rfl)
                  · have hf := ifn c103 hf
                    have h123 : ∀ (x_thrown : Int32) (l1 : Int32) (l2 : Int32) (l3 : Int32) (l5 : Int32) (s0 : Int32) (s1 : Int32) (H : Heap) (locs : List Loc) (ls : Array Slot), X8_count_J123 x_players x_wide x_tall x_hands x_pressed x_leftFrom x_leftTo x_isKept x_isLost (X8_count_L100 x_players x_wide x_tall x_hands x_pressed x_leftFrom x_leftTo x_isKept x_isLost n100) x_thrown l1 l2 l3 l5 s0 s1 = some out → va_P D vwCl (wd_X8_count cy o_t x_thrown x_delay x_feel x_turn x_sight x_ball x_w x_h x_n x_players x_wide x_tall x_hands x_pressed x_leftFrom x_leftTo x_isKept x_isLost) H → va_D A (wd_X8_count cy o_t x_thrown x_delay x_feel x_turn x_sight x_ball x_w x_h x_n x_players x_wide x_tall x_hands x_pressed x_leftFrom x_leftTo x_isKept x_isLost) → va_S A s.heap H locs → lv_has ls 6 [(0, .ref (o_t 0)), (1, .int l1), (2, .int l2), (3, .int l3), (5, .int l5)] → W p l e (rmm 1 22) s m args below meth c H locs 0 0 Q (F0 m 123 ls [.int s1, .int s0]) := by
                      intro x_thrown l1 l2 l3 l5 s0 s1 H locs ls hf hP hD hS hl
                      rw [X8_count_J123] at hf
                      refine lv_iadd hx hb dX8_count_123 ?_
                      obtain ⟨v124, ev124, hf⟩ := nm_s hf
                      refine my_topi ev124 ?_
                      refine lv_istore (lv' := [(4, .int v124), (0, .ref (o_t 0)), (1, .int l1), (2, .int l2), (3, .int l3), (5, .int l5)]) hx hb dX8_count_124 hl (by decide) rfl (fun ls hl => ?_)
                      obtain ⟨v126, ev126, hf⟩ := nm_s hf
                      refine lv_iinc (v := v126) (lv' := [(5, .int v126), (4, .int v124), (0, .ref (o_t 0)), (1, .int l1), (2, .int l2), (3, .int l3)]) hx hb dX8_count_126 hl (k := 5) rfl (by rw [ev126]; rfl) (by decide) rfl (fun ls hl => ?_)
                      refine lv_goto (tgt := 100) hx hb dX8_count_129 (by decide) ?_
                      exact ih100 _ _ _ _ _ _ _ _ _ hf hP hD hS (lv_sub hl [2, 3, 4, 5, 1, 0] rfl)
                    refine lv_iload hx hb dX8_count_106 (lv_at hl 4 rfl) ?_
                    refine lv_aload_n hx hb dX8_count_108 rfl (lv_at hl 0 rfl) ?_
                    refine va_get (D := D) (ci := 8) (v := .ref (o_t 11)) (C := RX8) (T := TX8) (N := 36) hx hb hts k1 hown hK hP 0 rfl rfl 10 (by decide) k6 (fun _ h9 => h9) rfl dX8_count_109 ?_
                    refine lv_iload hx hb dX8_count_112 (lv_at hl 5 rfl) ?_
                    obtain ⟨v114, b114, ev114, hf⟩ := rd_s hf
                    refine my_zald hx hb hK hP 7 rfl b114 ev114 dX8_count_114 ?_
                    refine lv_if_eq (tgt := 122) hx hb dX8_count_115 (by decide) (fun c115 => ?_) (fun c115 => ?_)
                    · have hf := ifp c115 hf
                      refine lv_iconst (v := (0 : Int32)) hx hb dX8_count_122 (by decide) ?_
                      exact h123 _ _ _ _ _ _ _ _ _ _ hf hP hD hS (lv_sub hl [0, 1, 2, 3, 5] rfl)
                    · have hf := ifn c115 hf
                      refine lv_iconst (v := (1 : Int32)) hx hb dX8_count_118 (by decide) ?_
                      refine lv_goto (tgt := 123) hx hb dX8_count_119 (by decide) ?_
                      exact h123 _ _ _ _ _ _ _ _ _ _ hf hP hD hS (lv_sub hl [0, 1, 2, 3, 5] rfl)
              refine lv_iconst (v := (0 : Int32)) hx hb dX8_count_97 (by decide) ?_
              refine lv_istore (lv' := [(5, .int (0 : Int32)), (0, .ref (o_t 0)), (1, .int l1), (2, .int l2), (3, .int l3), (4, .int l4)]) hx hb dX8_count_98 hl (by decide) rfl (fun ls hl => ?_)
              exact h100 FU _ _ _ _ _ _ _ _ _ hf hP hD hS (lv_sub hl [1, 2, 3, 4, 5, 0] rfl)
            refine lv_iload hx hb dX8_count_56 (lv_at hl 5 rfl) ?_
            refine lv_aload_n hx hb dX8_count_58 rfl (lv_at hl 0 rfl) ?_
            refine va_get (D := D) (ci := 8) (v := .ref (o_t 4)) (C := RX8) (T := TX8) (N := 36) hx hb hts k1 hown hK hP 0 rfl rfl 3 (by decide) k2 (fun _ h9 => h9) rfl dX8_count_59 ?_
            refine lv_iconst (v := (4 : Int32)) hx hb dX8_count_62 (by decide) ?_
            obtain ⟨v63, b63, ev63, hf⟩ := rd_s hf
            refine my_iald hx hb hK hP 3 rfl b63 ev63 dX8_count_63 ?_
            refine lv_icmp_ge (tgt := 97) hx hb dX8_count_64 (by decide) (fun c64 => ?_) (fun c64 => ?_)
            · have hf := ifp c64 hf
              exact h97 _ _ _ _ _ _ _ _ hf hP hD hS (lv_sub hl [0, 1, 2, 3, 4] rfl)
            · have hf := ifn c64 hf
              refine lv_iload_n hx hb dX8_count_67 rfl (lv_at hl 3 rfl) ?_
              refine lv_aload_n hx hb dX8_count_68 rfl (lv_at hl 0 rfl) ?_
              refine va_get (D := D) (ci := 8) (v := .ref (o_t 10)) (C := RX8) (T := TX8) (N := 36) hx hb hts k1 hown hK hP 0 rfl rfl 9 (by decide) k7 (fun _ h9 => h9) rfl dX8_count_69 ?_
              refine lv_bipush (v := (24 : Int32)) hx hb dX8_count_72 (by decide) ?_
              refine lv_iload hx hb dX8_count_74 (lv_at hl 5 rfl) ?_
              refine lv_iadd hx hb dX8_count_76 ?_
              obtain ⟨v77, b77, ev77, hf⟩ := rd_s hf
              refine my_iald hx hb hK hP 6 rfl b77 ev77 dX8_count_77 ?_
              refine lv_aload_n hx hb dX8_count_78 rfl (lv_at hl 0 rfl) ?_
              refine va_get (D := D) (ci := 8) (v := .ref (o_t 9)) (C := RX8) (T := TX8) (N := 36) hx hb hts k1 hown hK hP 0 rfl rfl 8 (by decide) k8 (fun _ h9 => h9) rfl dX8_count_79 ?_
              refine lv_bipush (v := (24 : Int32)) hx hb dX8_count_82 (by decide) ?_
              refine lv_iload hx hb dX8_count_84 (lv_at hl 5 rfl) ?_
              refine lv_iadd hx hb dX8_count_86 ?_
              obtain ⟨v87, b87, ev87, hf⟩ := rd_s hf
              refine my_iald hx hb hK hP 5 rfl b87 ev87 dX8_count_87 ?_
              refine lv_isub hx hb dX8_count_88 ?_
              refine lv_iadd hx hb dX8_count_89 ?_
              obtain ⟨v90, ev90, hf⟩ := nm_s hf
              refine my_topi ev90 ?_
              refine lv_istore_n (lv' := [(3, .int v90), (0, .ref (o_t 0)), (1, .int l1), (2, .int l2), (4, .int l4), (5, .int l5)]) hx hb dX8_count_90 rfl hl (by decide) rfl (fun ls hl => ?_)
              obtain ⟨v91, ev91, hf⟩ := nm_s hf
              refine lv_iinc (v := v91) (lv' := [(5, .int v91), (3, .int v90), (0, .ref (o_t 0)), (1, .int l1), (2, .int l2), (4, .int l4)]) hx hb dX8_count_91 hl (k := 5) rfl (by rw [ev91]; rfl) (by decide) rfl (fun ls hl => ?_)
              refine lv_goto (tgt := 56) hx hb dX8_count_94 (by decide) ?_
              exact ih56 _ _ _ _ _ _ _ _ _ hf hP hD hS (lv_sub hl [2, 3, 4, 1, 5, 0] rfl)
        refine lv_iconst (v := (0 : Int32)) hx hb dX8_count_53 (by decide) ?_
        refine lv_istore (lv' := [(5, .int (0 : Int32)), (0, .ref (o_t 0)), (1, .int l1), (2, .int l2), (3, .int l3), (4, .int l4)]) hx hb dX8_count_54 hl (by decide) rfl (fun ls hl => ?_)
        exact h56 FU _ _ _ _ _ _ _ _ _ hf hP hD hS (lv_sub hl [1, 2, 3, 4, 5, 0] rfl)
      refine lv_iload hx hb dX8_count_15 (lv_at hl 5 rfl) ?_
      refine lv_bipush (v := (100 : Int32)) hx hb dX8_count_17 (by decide) ?_
      refine lv_aload_n hx hb dX8_count_19 rfl (lv_at hl 0 rfl) ?_
      refine va_get (D := D) (ci := 8) (v := .ref (o_t 4)) (C := RX8) (T := TX8) (N := 36) hx hb hts k1 hown hK hP 0 rfl rfl 3 (by decide) k2 (fun _ h9 => h9) rfl dX8_count_20 ?_
      refine lv_iconst (v := (4 : Int32)) hx hb dX8_count_23 (by decide) ?_
      obtain ⟨v24, b24, ev24, hf⟩ := rd_s hf
      refine my_iald hx hb hK hP 3 rfl b24 ev24 dX8_count_24 ?_
      refine lv_imul hx hb dX8_count_25 ?_
      refine lv_icmp_ge (tgt := 53) hx hb dX8_count_26 (by decide) (fun c26 => ?_) (fun c26 => ?_)
      · have hf := ifp c26 hf
        exact h53 _ _ _ _ _ _ _ _ hf hP hD hS (lv_sub hl [0, 1, 2, 3, 4] rfl)
      · have hf := ifn c26 hf
        have h45 : ∀ (x_thrown : Int32) (l1 : Int32) (l3 : Int32) (l4 : Int32) (l5 : Int32) (s0 : Int32) (s1 : Int32) (H : Heap) (locs : List Loc) (ls : Array Slot), X8_count_J45 x_players x_wide x_tall x_hands x_pressed x_leftFrom x_leftTo x_isKept x_isLost (X8_count_L15 x_players x_wide x_tall x_hands x_pressed x_leftFrom x_leftTo x_isKept x_isLost n15) x_thrown l1 l3 l4 l5 s0 s1 = some out → va_P D vwCl (wd_X8_count cy o_t x_thrown x_delay x_feel x_turn x_sight x_ball x_w x_h x_n x_players x_wide x_tall x_hands x_pressed x_leftFrom x_leftTo x_isKept x_isLost) H → va_D A (wd_X8_count cy o_t x_thrown x_delay x_feel x_turn x_sight x_ball x_w x_h x_n x_players x_wide x_tall x_hands x_pressed x_leftFrom x_leftTo x_isKept x_isLost) → va_S A s.heap H locs → lv_has ls 6 [(0, .ref (o_t 0)), (1, .int l1), (3, .int l3), (4, .int l4), (5, .int l5)] → W p l e (rmm 1 22) s m args below meth c H locs 0 0 Q (F0 m 45 ls [.int s1, .int s0]) := by
          intro x_thrown l1 l3 l4 l5 s0 s1 H locs ls hf hP hD hS hl
          rw [X8_count_J45] at hf
          refine lv_iadd hx hb dX8_count_45 ?_
          obtain ⟨v46, ev46, hf⟩ := nm_s hf
          refine my_topi ev46 ?_
          refine lv_istore_n (lv' := [(2, .int v46), (0, .ref (o_t 0)), (1, .int l1), (3, .int l3), (4, .int l4), (5, .int l5)]) hx hb dX8_count_46 rfl hl (by decide) rfl (fun ls hl => ?_)
          obtain ⟨v47, ev47, hf⟩ := nm_s hf
          refine lv_iinc (v := v47) (lv' := [(5, .int v47), (2, .int v46), (0, .ref (o_t 0)), (1, .int l1), (3, .int l3), (4, .int l4)]) hx hb dX8_count_47 hl (k := 5) rfl (by rw [ev47]; rfl) (by decide) rfl (fun ls hl => ?_)
          refine lv_goto (tgt := 15) hx hb dX8_count_50 (by decide) ?_
          exact ih15 _ _ _ _ _ _ _ _ _ hf hP hD hS (lv_sub hl [2, 3, 1, 4, 5, 0] rfl)
        refine lv_iload_n hx hb dX8_count_29 rfl (lv_at hl 2 rfl) ?_
        refine lv_aload_n hx hb dX8_count_30 rfl (lv_at hl 0 rfl) ?_
        refine va_get (D := D) (ci := 8) (v := .ref (o_t 17)) (C := RX8) (T := TX8) (N := 36) hx hb hts k1 hown hK hP 0 rfl rfl 16 (by decide) k9 (fun _ h9 => h9) rfl dX8_count_31 ?_
        refine lv_iload hx hb dX8_count_34 (lv_at hl 5 rfl) ?_
        obtain ⟨v36, b36, ev36, hf⟩ := rd_s hf
        refine my_zald hx hb hK hP 8 rfl b36 ev36 dX8_count_36 ?_
        refine lv_if_eq (tgt := 44) hx hb dX8_count_37 (by decide) (fun c37 => ?_) (fun c37 => ?_)
        · have hf := ifp c37 hf
          refine lv_iconst (v := (0 : Int32)) hx hb dX8_count_44 (by decide) ?_
          exact h45 _ _ _ _ _ _ _ _ _ _ hf hP hD hS (lv_sub hl [0, 1, 3, 4, 5] rfl)
        · have hf := ifn c37 hf
          refine lv_iconst (v := (1 : Int32)) hx hb dX8_count_40 (by decide) ?_
          refine lv_goto (tgt := 45) hx hb dX8_count_41 (by decide) ?_
          exact h45 _ _ _ _ _ _ _ _ _ _ hf hP hD hS (lv_sub hl [0, 1, 3, 4, 5] rfl)
  refine lv_aload_n hx hb dX8_count_0 rfl (lv_at hl 0 rfl) ?_
  refine lv_iconst (v := (0 : Int32)) hx hb dX8_count_1 (by decide) ?_
  refine va_put (D := D) (ci := 8) (v := .int (0 : Int32)) (ty := .int) (C := RX8) (T := TX8) (N := 36) hx hb hts k1 tyX8 tyX8_ok nmX8 hown hK hP hD hS 0 rfl rfl 0 (by decide) k0 (fun _ h9 => h9) rfl (by decide +kernel) rfl rfl (Nat.le_of_ble_eq_true rfl) dX8_count_2 (fun H locs hP hD hS => ?_)
  have hP : va_P D vwCl (wd_X8_count cy o_t (0 : Int32) x_delay x_feel x_turn x_sight x_ball x_w x_h x_n x_players x_wide x_tall x_hands x_pressed x_leftFrom x_leftTo x_isKept x_isLost) H := hP
  have hD : va_D A (wd_X8_count cy o_t (0 : Int32) x_delay x_feel x_turn x_sight x_ball x_w x_h x_n x_players x_wide x_tall x_hands x_pressed x_leftFrom x_leftTo x_isKept x_isLost) := hD
  refine lv_iconst (v := (0 : Int32)) hx hb dX8_count_5 (by decide) ?_
  refine lv_istore_n (lv' := [(2, .int (0 : Int32)), (0, .ref (o_t 0)), (1, .int p1)]) hx hb dX8_count_6 rfl hl (by decide) rfl (fun ls hl => ?_)
  refine lv_iconst (v := (0 : Int32)) hx hb dX8_count_7 (by decide) ?_
  refine lv_istore_n (lv' := [(3, .int (0 : Int32)), (2, .int (0 : Int32)), (0, .ref (o_t 0)), (1, .int p1)]) hx hb dX8_count_8 rfl hl (by decide) rfl (fun ls hl => ?_)
  refine lv_iconst (v := (0 : Int32)) hx hb dX8_count_9 (by decide) ?_
  refine lv_istore (lv' := [(4, .int (0 : Int32)), (3, .int (0 : Int32)), (2, .int (0 : Int32)), (0, .ref (o_t 0)), (1, .int p1)]) hx hb dX8_count_10 hl (by decide) rfl (fun ls hl => ?_)
  refine lv_iconst (v := (0 : Int32)) hx hb dX8_count_12 (by decide) ?_
  refine lv_istore (lv' := [(5, .int (0 : Int32)), (4, .int (0 : Int32)), (3, .int (0 : Int32)), (2, .int (0 : Int32)), (0, .ref (o_t 0)), (1, .int p1)]) hx hb dX8_count_13 hl (by decide) rfl (fun ls hl => ?_)
  exact h15 FU _ _ _ _ _ _ _ _ _ hf hP hD hS (lv_sub hl [4, 5, 3, 2, 1, 0] rfl)
theorem hd_X8_count : yX8_count.cls ≠ "java/lang/invoke/MethodHandle" ∧ yX8_count.cls ≠ "java/lang/invoke/VarHandle" ∧ (parseMethodDescriptor yX8_count.desc).map (fun d => d.parameters.length) = some 1 := by decide +kernel
set_option maxRecDepth 100000 in
theorem c_X8_count (l : Launch) (D : va_G) (cy : Nat → ClassId) (t : Nat → Nat) (o_t : Nat → Nat) (x_thrown : Int32) (x_delay : Int32) (x_feel : Int32) (x_turn : Int32) (x_sight : Int32) (x_ball : Int32) (x_w : Int32) (x_h : Int32) (x_n : Int32) (x_players : Int32) (x_wide : Nat → Int32) (x_tall : Nat → Int32) (x_hands : Nat → Int32) (x_pressed : Nat → Int32) (x_leftFrom : Nat → Int32) (x_leftTo : Nat → Int32) (x_isKept : Nat → Int32) (x_isLost : Nat → Int32) (p1 : Int32) {out : Int32 × Int32} (hf : X8_count x_players x_wide x_tall x_hands x_pressed x_leftFrom x_leftTo x_isKept x_isLost x_thrown p1 = some out) : ctI l yX8_count wsX8_count 1 22 D cy t [.ref (o_t 0), .int p1] (wd_X8_count cy o_t x_thrown x_delay x_feel x_turn x_sight x_ball x_w x_h x_n x_players x_wide x_tall x_hands x_pressed x_leftFrom x_leftTo x_isKept x_isLost) (wd_X8_count cy o_t out.2 x_delay x_feel x_turn x_sight x_ball x_w x_h x_n x_players x_wide x_tall x_hands x_pressed x_leftFrom x_leftTo x_isKept x_isLost) out.1 := by
  refine ⟨rfl, ?_⟩
  intro sz
  refine Met.ofW (cc := cX8_count) (maxL := 6) (ret := (some .int)) (by decide) rfl ?_
  intro p e s m args below meth c s₁ B hml hv
  obtain ⟨rfl, hsz, hP, hK, hD0, hE⟩ := hv
  have hts := atoms_spec (ws := wsX8_count) B.pre
  have hown : s.vm.findClass RX8 = some m.cls := findClass_of_methodNamed B.named
  have hlocks := B.notSynchronized
  subst hsz
  have hD := hD0.self (sz := s.heap.size)
  have hl := lv_entry ([.ref (o_t 0), .int p1]) (n := 6) (Nat.le_of_ble_eq_true rfl)
  rw [lg_entry_eq]
  generalize (lg_sl ([.ref (o_t 0), .int p1]) ++ List.replicate (6 - (lg_sl ([.ref (o_t 0), .int p1])).length) Slot.unset).toArray = ls at hl ⊢
  exact w_X8_count D cy t o_t x_thrown x_delay x_feel x_turn x_sight x_ball x_w x_h x_n x_players x_wide x_tall x_hands x_pressed x_leftFrom x_leftTo x_isKept x_isLost p1 hf B.exec B.bytes hml hown hts hK hE (fun q h => Or.inr h) hP hD va_S.rf hl (fun H locs ls pc hP hD hS hdg => W.iret B.exec B.bytes B.returns (fun t ht hW => ⟨⟨_, (), rfl, rfl, ctB_of ht hP⟩, hS.F ht⟩) hS.2.2 hdg)
