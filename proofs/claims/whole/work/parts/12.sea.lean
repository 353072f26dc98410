noncomputable def X7_setBoardAhead (x_play_w : Int32) (x_play_h : Int32) (x_play_hands : Int32) (x_a1_rows : Nat → Int32) (x_board_now : Nat → Int32) (p2 : Int32) : Option ((Nat → Int32)) :=
  if p2 ≤ (0 : Int32) then (bd (X0_start x_play_w x_play_h x_play_hands x_board_now) fun r26 => some r26) else (bd (X6_load x_a1_rows x_board_now (p2 - (1 : Int32))) fun r12 => some r12)
abbrev wd_X7_setBoardAhead (cy : Nat → ClassId) (o_t o_t_play o_t_lines o_t_truth o_t_glassTrack o_t_board o_t_otherBoard o_t_fog o_t_crowd o_t_deal o_a1 : Nat → Nat) (x_play_w : Int32) (x_play_h : Int32) (x_play_hands : Int32) (x_board_now : Nat → Int32) (x_a1_ready : Int32) (x_a1_rows : Nat → Int32) : va_W := [(o_t 0, .inr (7, [.ref (o_t_play 0), .ref (o_t_lines 0), .ref (o_t_truth 0), .ref (o_t_glassTrack 0), .ref (o_t_board 0), .ref (o_t_otherBoard 0), .ref (o_t 7), .ref (o_t_fog 0), .ref (o_t_crowd 0), .ref (o_t_deal 0), .ref (o_t 11), .ref (o_t 12)])), (o_t_play 0, .inr (5, [.int x_play_w, .int x_play_h, .int x_play_hands, .ref (o_t_play 4), .ref (o_t_play 5), .ref (o_t_play 6), .ref (o_t_play 7)])), (o_t_board 0, .inr (0, [.ref (o_t_board 1)])), (o_t_board 1, .inl (cy 0, 13, .inl x_board_now)), (o_a1 0, .inr (6, [.ref (o_a1 1), .int x_a1_ready])), (o_a1 1, .inl (cy 0, 1300, .inl x_a1_rows))]
set_option maxHeartbeats 4000000 in
set_option maxRecDepth 100000 in
theorem w_X7_setBoardAhead {p : Program} {l : Launch} {e : Env} {s : State} {m : MethodId} {args : Array Value} {below : List Frame} {meth : Method} {c : Code} {Q : State → Prop} {A : Nat → Prop} {H : Heap} {locs : List Loc} {ls : Array Slot} (D : va_G) (cy : Nat → ClassId) (t : Nat → Nat) (o_t o_t_play o_t_lines o_t_truth o_t_glassTrack o_t_board o_t_otherBoard o_t_fog o_t_crowd o_t_deal o_a1 : Nat → Nat) (x_play_w : Int32) (x_play_h : Int32) (x_play_hands : Int32) (x_board_now : Nat → Int32) (x_a1_ready : Int32) (x_a1_rows : Nat → Int32) (p2 : Int32) {out : (Nat → Int32)} (hf : X7_setBoardAhead x_play_w x_play_h x_play_hands x_a1_rows x_board_now p2 = some out) (hx : p.tables.exec = Jvm.exec) (hb : c.code = cX7_setBoardAhead) (hml : c.maxLocals = 3) (hown : s.vm.findClass RX7 = some m.cls) (hts : ∀ w ∈ wsX7_setBoardAhead, w.before args s = true) (hK : va_K D vwCl (TYS cy) s) (hE : EV t A s s.heap) (hA : ∀ q, s.heap.size ≤ q → A q) (hP : va_P D vwCl (wd_X7_setBoardAhead cy o_t o_t_play o_t_lines o_t_truth o_t_glassTrack o_t_board o_t_otherBoard o_t_fog o_t_crowd o_t_deal o_a1 x_play_w x_play_h x_play_hands x_board_now x_a1_ready x_a1_rows) H) (hD : va_D A (wd_X7_setBoardAhead cy o_t o_t_play o_t_lines o_t_truth o_t_glassTrack o_t_board o_t_otherBoard o_t_fog o_t_crowd o_t_deal o_a1 x_play_w x_play_h x_play_hands x_board_now x_a1_ready x_a1_rows)) (hS : va_S A s.heap H locs) (hl : lv_has ls 3 [(0, .ref (o_t 0)), (1, .ref (o_a1 0)), (2, .int p2)]) (hR : ∀ (H : Heap) (locs : List Loc) (ls : Array Slot) (pc : Nat), va_P D vwCl (wd_X7_setBoardAhead cy o_t o_t_play o_t_lines o_t_truth o_t_glassTrack o_t_board o_t_otherBoard o_t_fog o_t_crowd o_t_deal o_a1 x_play_w x_play_h x_play_hands out x_a1_ready x_a1_rows) H → va_D A (wd_X7_setBoardAhead cy o_t o_t_play o_t_lines o_t_truth o_t_glassTrack o_t_board o_t_otherBoard o_t_fog o_t_crowd o_t_deal o_a1 x_play_w x_play_h x_play_hands out x_a1_ready x_a1_rows) → va_S A s.heap H locs → decode cX7_setBoardAhead pc = .ok (.return_, 1) → W p l e (rmm 2 62) s m args below meth c H locs 0 0 Q (F0 m pc ls [])) : W p l e (rmm 2 62) s m args below meth c H locs 0 0 Q (F0 m 0 ls []) := by
  have k0 := hts (.fieldLink RX7 38 "SeaGames" "board" "LSeaGames$Board;") (List.mem_cons_of_mem _ (List.mem_append_left _ (List.mem_append_left _ (List.mem_append_left _ (List.mem_append_left _ (List.mem_append_left _ (List.mem_of_getElem? (i := 0) rfl)))))))
  have k1 : ∀ w ∈ u_ws RX7 TX7 12, w ∈ wsX7_setBoardAhead := fun _ h => List.mem_cons_of_mem _ (List.mem_append_left _ (List.mem_append_left _ (List.mem_append_left _ (List.mem_append_right _ h))))
  have k2 := hts (.fieldLink RX7 10 "SeaGames" "play" "LSeaGames$Play;") (List.mem_cons_of_mem _ (List.mem_append_left _ (List.mem_append_left _ (List.mem_append_left _ (List.mem_append_left _ (List.mem_append_left _ (List.mem_of_getElem? (i := 1) rfl)))))))
  rw [X7_setBoardAhead] at hf
  refine lv_iload_n hx hb dX7_setBoardAhead_0 rfl (lv_at hl 2 rfl) ?_
  refine lv_if_le (tgt := 18) hx hb dX7_setBoardAhead_1 (by decide) (fun c1 => ?_) (fun c1 => ?_)
  · have hf := ifp c1 hf
    refine lv_aload_n hx hb dX7_setBoardAhead_18 rfl (lv_at hl 0 rfl) ?_
    refine va_get (D := D) (ci := 7) (v := .ref (o_t_board 0)) (C := RX7) (T := TX7) (N := 12) hx hb hts k1 hown hK hP 0 rfl rfl 4 (by decide) k0 (fun _ h9 => h9) rfl dX7_setBoardAhead_19 ?_
    refine lv_aload_n hx hb dX7_setBoardAhead_22 rfl (lv_at hl 0 rfl) ?_
    refine va_get (D := D) (ci := 7) (v := .ref (o_t_play 0)) (C := RX7) (T := TX7) (N := 12) hx hb hts k1 hown hK hP 0 rfl rfl 0 (by decide) k2 (fun _ h9 => h9) rfl dX7_setBoardAhead_23 ?_
    obtain ⟨r26, hr26, hf⟩ := bd_s hf
    refine my_Vv (WS2 := (wd_X7_setBoardAhead cy o_t o_t_play o_t_lines o_t_truth o_t_glassTrack o_t_board o_t_otherBoard o_t_fog o_t_crowd o_t_deal o_a1 x_play_w x_play_h x_play_hands r26 x_a1_ready x_a1_rows)) ⟨hx, hb, hml, hown, hts⟩ (c_X0_start l D cy t o_t_board o_t_play x_board_now x_play_w x_play_h x_play_hands hr26) (cwV 1 hts gX7_setBoardAhead_X0_start rfl rfl rfl ⟨rfl, hd_X0_start⟩ ⟨Nat.le_of_ble_eq_true rfl, Nat.le_of_ble_eq_true rfl⟩) hK hE hP hD hS hA [2, 3, 1] 6 0 0 rfl rfl rfl rfl (by decide +kernel) rfl rfl hl.1 rfl (Nat.le_of_ble_eq_true rfl) dX7_setBoardAhead_26 ⟨Nat.le_of_ble_eq_true rfl, Nat.le_of_ble_eq_true rfl⟩ (fun H locs hP hD hS => ?_)
    obtain rfl := Option.some.inj hf
    exact hR _ _ _ _ hP hD hS dX7_setBoardAhead_29
  · have hf := ifn c1 hf
    refine lv_aload_n hx hb dX7_setBoardAhead_4 rfl (lv_at hl 1 rfl) ?_
    refine lv_iload_n hx hb dX7_setBoardAhead_5 rfl (lv_at hl 2 rfl) ?_
    refine lv_iconst (v := (1 : Int32)) hx hb dX7_setBoardAhead_6 (by decide) ?_
    refine lv_isub hx hb dX7_setBoardAhead_7 ?_
    refine lv_aload_n hx hb dX7_setBoardAhead_8 rfl (lv_at hl 0 rfl) ?_
    refine va_get (D := D) (ci := 7) (v := .ref (o_t_board 0)) (C := RX7) (T := TX7) (N := 12) hx hb hts k1 hown hK hP 0 rfl rfl 4 (by decide) k0 (fun _ h9 => h9) rfl dX7_setBoardAhead_9 ?_
    obtain ⟨r12, hr12, hf⟩ := bd_s hf
    refine my_Vv (WS2 := (wd_X7_setBoardAhead cy o_t o_t_play o_t_lines o_t_truth o_t_glassTrack o_t_board o_t_otherBoard o_t_fog o_t_crowd o_t_deal o_a1 x_play_w x_play_h x_play_hands r12 x_a1_ready x_a1_rows)) ⟨hx, hb, hml, hown, hts⟩ (c_X6_load l D cy t o_a1 o_t_board x_a1_ready x_a1_rows x_board_now (p2 - (1 : Int32)) hr12) (cwV 2 hts gX7_setBoardAhead_X6_load rfl rfl rfl ⟨rfl, hd_X6_load⟩ ⟨Nat.le_of_ble_eq_true rfl, Nat.le_of_ble_eq_true rfl⟩) hK hE hP hD hS hA [4, 5, 2, 3] 6 6 0 rfl rfl rfl rfl (by decide +kernel) rfl rfl hl.1 rfl (Nat.le_of_ble_eq_true rfl) dX7_setBoardAhead_12 ⟨Nat.le_of_ble_eq_true rfl, Nat.le_of_ble_eq_true rfl⟩ (fun H locs hP hD hS => ?_)
    refine lv_goto (tgt := 29) hx hb dX7_setBoardAhead_15 (by decide) ?_
    obtain rfl := Option.some.inj hf
    exact hR _ _ _ _ hP hD hS dX7_setBoardAhead_29
theorem hd_X7_setBoardAhead : yX7_setBoardAhead.cls ≠ "java/lang/invoke/MethodHandle" ∧ yX7_setBoardAhead.cls ≠ "java/lang/invoke/VarHandle" ∧ (parseMethodDescriptor yX7_setBoardAhead.desc).map (fun d => d.parameters.length) = some 2 := by decide +kernel
set_option maxRecDepth 100000 in
theorem c_X7_setBoardAhead (l : Launch) (D : va_G) (cy : Nat → ClassId) (t : Nat → Nat) (o_t o_t_play o_t_lines o_t_truth o_t_glassTrack o_t_board o_t_otherBoard o_t_fog o_t_crowd o_t_deal o_a1 : Nat → Nat) (x_play_w : Int32) (x_play_h : Int32) (x_play_hands : Int32) (x_board_now : Nat → Int32) (x_a1_ready : Int32) (x_a1_rows : Nat → Int32) (p2 : Int32) {out : (Nat → Int32)} (hf : X7_setBoardAhead x_play_w x_play_h x_play_hands x_a1_rows x_board_now p2 = some out) : ctV l yX7_setBoardAhead wsX7_setBoardAhead 2 62 D cy t [.ref (o_t 0), .ref (o_a1 0), .int p2] (wd_X7_setBoardAhead cy o_t o_t_play o_t_lines o_t_truth o_t_glassTrack o_t_board o_t_otherBoard o_t_fog o_t_crowd o_t_deal o_a1 x_play_w x_play_h x_play_hands x_board_now x_a1_ready x_a1_rows) (wd_X7_setBoardAhead cy o_t o_t_play o_t_lines o_t_truth o_t_glassTrack o_t_board o_t_otherBoard o_t_fog o_t_crowd o_t_deal o_a1 x_play_w x_play_h x_play_hands out x_a1_ready x_a1_rows) := by
  refine ⟨rfl, ?_⟩
  intro sz
  refine Met.ofW (cc := cX7_setBoardAhead) (maxL := 3) (ret := none) (by decide) rfl ?_
  intro p e s m args below meth c s₁ B hml hv
  obtain ⟨rfl, hsz, hP, hK, hD0, hE⟩ := hv
  have hts := atoms_spec (ws := wsX7_setBoardAhead) B.pre
  have hown : s.vm.findClass RX7 = some m.cls := findClass_of_methodNamed B.named
  have hlocks := B.notSynchronized
  subst hsz
  have hD := hD0.self (sz := s.heap.size)
  have hl := lv_entry ([.ref (o_t 0), .ref (o_a1 0), .int p2]) (n := 3) (Nat.le_of_ble_eq_true rfl)
  rw [lg_entry_eq]
  generalize (lg_sl ([.ref (o_t 0), .ref (o_a1 0), .int p2]) ++ List.replicate (3 - (lg_sl ([.ref (o_t 0), .ref (o_a1 0), .int p2])).length) Slot.unset).toArray = ls at hl ⊢
  exact w_X7_setBoardAhead D cy t o_t o_t_play o_t_lines o_t_truth o_t_glassTrack o_t_board o_t_otherBoard o_t_fog o_t_crowd o_t_deal o_a1 x_play_w x_play_h x_play_hands x_board_now x_a1_ready x_a1_rows p2 hf B.exec B.bytes hml hown hts hK hE (fun q h => Or.inr h) hP hD va_S.rf hl (fun H locs ls pc hP hD hS hdg => W.vret B.exec B.bytes B.returns (fun t ht hW => ⟨⟨(), rfl, trivial, ctB_of ht hP⟩, hS.F ht⟩) hS.2.2 hdg)

noncomputable def X7_playTrulyTo_J85 (x_play_w : Int32) (x_play_h : Int32) (x_play_hands : Int32) (x_play_rules : Nat → Int32) (x_play_pressRow : Nat → Int32) (x_play_leftFrom : Nat → Int32) (x_play_leftTo : Nat → Int32) (x_truth_ready : Int32) (x_truth_rows : Nat → Int32) (x_board_now : Nat → Int32) (x_presses : Nat → Int32) (l1 : Int32) : Option (Int32 × (Nat → Int32) × (Nat → Int32) × (Nat → Int32)) :=
  some ((l1 + (1 : Int32)), x_truth_rows, x_board_now, x_presses)
noncomputable def X7_playTrulyTo_L25_B (x_play_w : Int32) (x_play_h : Int32) (x_play_hands : Int32) (x_play_rules : Nat → Int32) (x_play_pressRow : Nat → Int32) (x_play_leftFrom : Nat → Int32) (x_play_leftTo : Nat → Int32) (rec25 : Int32 → (Nat → Int32) → (Nat → Int32) → (Nat → Int32) → Int32 → Int32 → Option (Int32 × (Nat → Int32) × (Nat → Int32) × (Nat → Int32))) (x_truth_ready : Int32) (x_truth_rows : Nat → Int32) (x_board_now : Nat → Int32) (x_presses : Nat → Int32) (l1 : Int32) (l3 : Int32) : Option (Int32 × (Nat → Int32) × (Nat → Int32) × (Nat → Int32)) :=
  if l1 < l3 then (X7_playTrulyTo_J85 x_play_w x_play_h x_play_hands x_play_rules x_play_pressRow x_play_leftFrom x_play_leftTo  x_truth_ready x_truth_rows x_board_now x_presses l1) else (bd (X5_fillPresses 6 x_play_hands x_play_pressRow x_presses l3) fun r39 => rd x_play_rules 7 (0 : Int32) fun v58 => bd (X0_advance 6 x_play_w x_play_h x_play_hands x_play_rules x_play_leftFrom x_play_leftTo r39 x_board_now v58 l3) fun r64 => bd (X6_save r64 x_truth_rows l3) fun r76 => nm (l3 + (1 : Int32)) fun v79 => rec25 x_truth_ready r76 r64 r39 l1 v79)
noncomputable def X7_playTrulyTo_L25 (x_play_w : Int32) (x_play_h : Int32) (x_play_hands : Int32) (x_play_rules : Nat → Int32) (x_play_pressRow : Nat → Int32) (x_play_leftFrom : Nat → Int32) (x_play_leftTo : Nat → Int32) : Nat → Int32 → (Nat → Int32) → (Nat → Int32) → (Nat → Int32) → Int32 → Int32 → Option (Int32 × (Nat → Int32) × (Nat → Int32) × (Nat → Int32))
  | 0, _, _, _, _, _, _ => none
  | n + 1, y0, y1, y2, y3, y4, y5 => X7_playTrulyTo_L25_B x_play_w x_play_h x_play_hands x_play_rules x_play_pressRow x_play_leftFrom x_play_leftTo  (X7_playTrulyTo_L25 x_play_w x_play_h x_play_hands x_play_rules x_play_pressRow x_play_leftFrom x_play_leftTo  n) y0 y1 y2 y3 y4 y5
noncomputable def X7_playTrulyTo (x_play_w : Int32) (x_play_h : Int32) (x_play_hands : Int32) (x_play_rules : Nat → Int32) (x_play_pressRow : Nat → Int32) (x_play_leftFrom : Nat → Int32) (x_play_leftTo : Nat → Int32) (x_truth_ready : Int32) (x_truth_rows : Nat → Int32) (x_board_now : Nat → Int32) (x_presses : Nat → Int32) (p1 : Int32) : Option (Int32 × (Nat → Int32) × (Nat → Int32) × (Nat → Int32)) :=
  if x_truth_ready ≤ p1 then (bd (X7_setBoardAhead x_play_w x_play_h x_play_hands x_truth_rows x_board_now x_truth_ready) fun r20 => X7_playTrulyTo_L25 x_play_w x_play_h x_play_hands x_play_rules x_play_pressRow x_play_leftFrom x_play_leftTo  FU x_truth_ready x_truth_rows r20 x_presses p1 x_truth_ready) else (some (x_truth_ready, x_truth_rows, x_board_now, x_presses))
abbrev wd_X7_playTrulyTo (cy : Nat → ClassId) (o_t o_t_play o_t_lines o_t_truth o_t_glassTrack o_t_board o_t_otherBoard o_t_fog o_t_crowd o_t_deal : Nat → Nat) (x_play_w : Int32) (x_play_h : Int32) (x_play_hands : Int32) (x_play_rules : Nat → Int32) (x_play_pressRow : Nat → Int32) (x_play_leftFrom : Nat → Int32) (x_play_leftTo : Nat → Int32) (x_truth_ready : Int32) (x_truth_rows : Nat → Int32) (x_board_now : Nat → Int32) (x_presses : Nat → Int32) : va_W := [(o_t 0, .inr (7, [.ref (o_t_play 0), .ref (o_t_lines 0), .ref (o_t_truth 0), .ref (o_t_glassTrack 0), .ref (o_t_board 0), .ref (o_t_otherBoard 0), .ref (o_t 7), .ref (o_t_fog 0), .ref (o_t_crowd 0), .ref (o_t_deal 0), .ref (o_t 11), .ref (o_t 12)])), (o_t_play 0, .inr (5, [.int x_play_w, .int x_play_h, .int x_play_hands, .ref (o_t_play 4), .ref (o_t_play 5), .ref (o_t_play 6), .ref (o_t_play 7)])), (o_t_play 4, .inl (cy 0, 7, .inl x_play_rules)), (o_t_play 5, .inl (cy 0, 600, .inl x_play_pressRow)), (o_t_play 6, .inl (cy 0, 6, .inl x_play_leftFrom)), (o_t_play 7, .inl (cy 0, 6, .inl x_play_leftTo)), (o_t_truth 0, .inr (6, [.ref (o_t_truth 1), .int x_truth_ready])), (o_t_truth 1, .inl (cy 0, 1300, .inl x_truth_rows)), (o_t_board 0, .inr (0, [.ref (o_t_board 1)])), (o_t_board 1, .inl (cy 0, 13, .inl x_board_now)), (o_t 7, .inl (cy 0, 6, .inl x_presses))]
set_option maxHeartbeats 4000000 in
set_option maxRecDepth 100000 in
theorem w_X7_playTrulyTo {p : Program} {l : Launch} {e : Env} {s : State} {m : MethodId} {args : Array Value} {below : List Frame} {meth : Method} {c : Code} {Q : State → Prop} {A : Nat → Prop} {H : Heap} {locs : List Loc} {ls : Array Slot} (D : va_G) (cy : Nat → ClassId) (t : Nat → Nat) (o_t o_t_play o_t_lines o_t_truth o_t_glassTrack o_t_board o_t_otherBoard o_t_fog o_t_crowd o_t_deal : Nat → Nat) (x_play_w : Int32) (x_play_h : Int32) (x_play_hands : Int32) (x_play_rules : Nat → Int32) (x_play_pressRow : Nat → Int32) (x_play_leftFrom : Nat → Int32) (x_play_leftTo : Nat → Int32) (x_truth_ready : Int32) (x_truth_rows : Nat → Int32) (x_board_now : Nat → Int32) (x_presses : Nat → Int32) (p1 : Int32) {out : Int32 × (Nat → Int32) × (Nat → Int32) × (Nat → Int32)} (hf : X7_playTrulyTo x_play_w x_play_h x_play_hands x_play_rules x_play_pressRow x_play_leftFrom x_play_leftTo x_truth_ready x_truth_rows x_board_now x_presses p1 = some out) (hx : p.tables.exec = Jvm.exec) (hb : c.code = cX7_playTrulyTo) (hml : c.maxLocals = 4) (hown : s.vm.findClass RX7 = some m.cls) (hts : ∀ w ∈ wsX7_playTrulyTo, w.before args s = true) (hK : va_K D vwCl (TYS cy) s) (hE : EV t A s s.heap) (hA : ∀ q, s.heap.size ≤ q → A q) (hP : va_P D vwCl (wd_X7_playTrulyTo cy o_t o_t_play o_t_lines o_t_truth o_t_glassTrack o_t_board o_t_otherBoard o_t_fog o_t_crowd o_t_deal x_play_w x_play_h x_play_hands x_play_rules x_play_pressRow x_play_leftFrom x_play_leftTo x_truth_ready x_truth_rows x_board_now x_presses) H) (hD : va_D A (wd_X7_playTrulyTo cy o_t o_t_play o_t_lines o_t_truth o_t_glassTrack o_t_board o_t_otherBoard o_t_fog o_t_crowd o_t_deal x_play_w x_play_h x_play_hands x_play_rules x_play_pressRow x_play_leftFrom x_play_leftTo x_truth_ready x_truth_rows x_board_now x_presses)) (hS : va_S A s.heap H locs) (hl : lv_has ls 4 [(0, .ref (o_t 0)), (1, .int p1)]) (hR : ∀ (H : Heap) (locs : List Loc) (ls : Array Slot) (pc : Nat), va_P D vwCl (wd_X7_playTrulyTo cy o_t o_t_play o_t_lines o_t_truth o_t_glassTrack o_t_board o_t_otherBoard o_t_fog o_t_crowd o_t_deal x_play_w x_play_h x_play_hands x_play_rules x_play_pressRow x_play_leftFrom x_play_leftTo out.1 out.2.1 out.2.2.1 out.2.2.2) H → va_D A (wd_X7_playTrulyTo cy o_t o_t_play o_t_lines o_t_truth o_t_glassTrack o_t_board o_t_otherBoard o_t_fog o_t_crowd o_t_deal x_play_w x_play_h x_play_hands x_play_rules x_play_pressRow x_play_leftFrom x_play_leftTo out.1 out.2.1 out.2.2.1 out.2.2.2) → va_S A s.heap H locs → decode cX7_playTrulyTo pc = .ok (.return_, 1) → W p l e (rmm 5 118) s m args below meth c H locs 0 0 Q (F0 m pc ls [])) : W p l e (rmm 5 118) s m args below meth c H locs 0 0 Q (F0 m 0 ls []) := by
  have k0 := hts (.fieldLink RX7 28 "SeaGames" "truth" "LSeaGames$Track;") (List.mem_cons_of_mem _ (List.mem_append_left _ (List.mem_append_left _ (List.mem_append_left _ (List.mem_append_left _ (List.mem_append_left _ (List.mem_of_getElem? (i := 0) rfl)))))))
  have k1 : ∀ w ∈ u_ws RX7 TX7 12, w ∈ wsX7_playTrulyTo := fun _ h => List.mem_cons_of_mem _ (List.mem_append_left _ (List.mem_append_left _ (List.mem_append_left _ (List.mem_append_right _ h))))
  have k2 := hts (.fieldLink RX7 302 "SeaGames$Track" "ready" "I") (List.mem_cons_of_mem _ (List.mem_append_left _ (List.mem_append_left _ (List.mem_append_left _ (List.mem_append_left _ (List.mem_append_left _ (List.mem_of_getElem? (i := 1) rfl)))))))
  have k3 : ∀ w ∈ u_ws RX6 TX6 2, w ∈ wsX7_playTrulyTo := fun _ h => List.mem_cons_of_mem _ (List.mem_append_left _ (List.mem_append_left _ (List.mem_append_right _ h)))
  have k4 := hts (.fieldLink RX7 10 "SeaGames" "play" "LSeaGames$Play;") (List.mem_cons_of_mem _ (List.mem_append_left _ (List.mem_append_left _ (List.mem_append_left _ (List.mem_append_left _ (List.mem_append_left _ (List.mem_of_getElem? (i := 2) rfl)))))))
  have k5 := hts (.fieldLink RX7 45 "SeaGames" "presses" "[I") (List.mem_cons_of_mem _ (List.mem_append_left _ (List.mem_append_left _ (List.mem_append_left _ (List.mem_append_left _ (List.mem_append_left _ (List.mem_of_getElem? (i := 3) rfl)))))))
  have k6 := hts (.fieldLink RX7 38 "SeaGames" "board" "LSeaGames$Board;") (List.mem_cons_of_mem _ (List.mem_append_left _ (List.mem_append_left _ (List.mem_append_left _ (List.mem_append_left _ (List.mem_append_left _ (List.mem_of_getElem? (i := 4) rfl)))))))
  have k7 := hts (.fieldLink RX7 98 "SeaGames$Play" "rules" "[I") (List.mem_cons_of_mem _ (List.mem_append_left _ (List.mem_append_left _ (List.mem_append_left _ (List.mem_append_left _ (List.mem_append_left _ (List.mem_of_getElem? (i := 5) rfl)))))))
  have k8 : ∀ w ∈ u_ws RX5 TX5 7, w ∈ wsX7_playTrulyTo := fun _ h => List.mem_cons_of_mem _ (List.mem_append_left _ (List.mem_append_right _ h))
  rw [X7_playTrulyTo] at hf
  refine lv_aload_n hx hb dX7_playTrulyTo_0 rfl (lv_at hl 0 rfl) ?_
  refine va_get (D := D) (ci := 7) (v := .ref (o_t_truth 0)) (C := RX7) (T := TX7) (N := 12) hx hb hts k1 hown hK hP 0 rfl rfl 2 (by decide) k0 (fun _ h9 => h9) rfl dX7_playTrulyTo_1 ?_
  refine va_get (D := D) (ci := 6) (v := .int x_truth_ready) (C := RX6) (T := TX6) (N := 2) hx hb hts k3 hown hK hP 6 rfl rfl 1 (by decide) k2 (fun _ h9 => h9) rfl dX7_playTrulyTo_4 ?_
  refine lv_istore_n (lv' := [(2, .int x_truth_ready), (0, .ref (o_t 0)), (1, .int p1)]) hx hb dX7_playTrulyTo_7 rfl hl (by decide) rfl (fun ls hl => ?_)
  refine lv_iload_n hx hb dX7_playTrulyTo_8 rfl (lv_at hl 0 rfl) ?_
  refine lv_iload_n hx hb dX7_playTrulyTo_9 rfl (lv_at hl 2 rfl) ?_
  refine lv_icmp_le (tgt := 14) hx hb dX7_playTrulyTo_10 (by decide) (fun c10 => ?_) (fun c10 => ?_)
  · have hf := ifp c10 hf
    have h25 : ∀ (n25 : Nat) (x_truth_ready : Int32) (x_truth_rows : Nat → Int32) (x_board_now : Nat → Int32) (x_presses : Nat → Int32) (l1 : Int32) (l3 : Int32) (H : Heap) (locs : List Loc) (ls : Array Slot), X7_playTrulyTo_L25 x_play_w x_play_h x_play_hands x_play_rules x_play_pressRow x_play_leftFrom x_play_leftTo n25 x_truth_ready x_truth_rows x_board_now x_presses l1 l3 = some out → va_P D vwCl (wd_X7_playTrulyTo cy o_t o_t_play o_t_lines o_t_truth o_t_glassTrack o_t_board o_t_otherBoard o_t_fog o_t_crowd o_t_deal x_play_w x_play_h x_play_hands x_play_rules x_play_pressRow x_play_leftFrom x_play_leftTo x_truth_ready x_truth_rows x_board_now x_presses) H → va_D A (wd_X7_playTrulyTo cy o_t o_t_play o_t_lines o_t_truth o_t_glassTrack o_t_board o_t_otherBoard o_t_fog o_t_crowd o_t_deal x_play_w x_play_h x_play_hands x_play_rules x_play_pressRow x_play_leftFrom x_play_leftTo x_truth_ready x_truth_rows x_board_now x_presses) → va_S A s.heap H locs → lv_has ls 4 [(0, .ref (o_t 0)), (1, .int l1), (3, .int l3)] → W p l e (rmm 5 118) s m args below meth c H locs 0 0 Q (F0 m 25 ls []) := by
      intro n25
      induction n25 with
      | zero =>
        intro _ _ _ _ _ _ _ _ _ hf
        exact nomatch (show (none : Option _) = some out from hf)
      | succ n25 ih25 =>
        intro x_truth_ready x_truth_rows x_board_now x_presses l1 l3 H locs ls hf hP hD hS hl
        have hf : X7_playTrulyTo_L25_B x_play_w x_play_h x_play_hands x_play_rules x_play_pressRow x_play_leftFrom x_play_leftTo (X7_playTrulyTo_L25 x_play_w x_play_h x_play_hands x_play_rules x_play_pressRow x_play_leftFrom x_play_leftTo n25) x_truth_ready x_truth_rows x_board_now x_presses l1 l3 = some out := hf
        rw [X7_playTrulyTo_L25_B] at hf
        have h85 : ∀ (x_truth_ready : Int32) (x_truth_rows : Nat → Int32) (x_board_now : Nat → Int32) (x_presses : Nat → Int32) (l1 : Int32) (H : Heap) (locs : List Loc) (ls : Array Slot), X7_playTrulyTo_J85 x_play_w x_play_h x_play_hands x_play_rules x_play_pressRow x_play_leftFrom x_play_leftTo x_truth_ready x_truth_rows x_board_now x_presses l1 = some out → va_P D vwCl (wd_X7_playTrulyTo cy o_t o_t_play o_t_lines o_t_truth o_t_glassTrack o_t_board o_t_otherBoard o_t_fog o_t_crowd o_t_deal x_play_w x_play_h x_play_hands x_play_rules x_play_pressRow x_play_leftFrom x_play_leftTo x_truth_ready x_truth_rows x_board_now x_presses) H → va_D A (wd_X7_playTrulyTo cy o_t o_t_play o_t_lines o_t_truth o_t_glassTrack o_t_board o_t_otherBoard o_t_fog o_t_crowd o_t_deal x_play_w x_play_h x_play_hands x_play_rules x_play_pressRow x_play_leftFrom x_play_leftTo x_truth_ready x_truth_rows x_board_now x_presses) → va_S A s.heap H locs → lv_has ls 4 [(0, .ref (o_t 0)), (1, .int l1)] → W p l e (rmm 5 118) s m args below meth c H locs 0 0 Q (F0 m 85 ls []) := by
          intro x_truth_ready x_truth_rows x_board_now x_presses l1 H locs ls hf hP hD hS hl
          rw [X7_playTrulyTo_J85] at hf
          refine lv_aload_n hx hb dX7_playTrulyTo_85 rfl (lv_at hl 0 rfl) ?_
          refine va_get (D := D) (ci := 7) (v := .ref (o_t_truth 0)) (C := RX7) (T := TX7) (N := 12) hx hb hts k1 hown hK hP 0 rfl rfl 2 (by decide) k0 (fun _ h9 => h9) rfl dX7_playTrulyTo_86 ?_
          refine lv_iload_n hx hb dX7_playTrulyTo_89 rfl (lv_at hl 1 rfl) ?_
          refine lv_iconst (v := (1 : Int32)) hx hb dX7_playTrulyTo_90 (by decide) ?_
          refine lv_iadd hx hb dX7_playTrulyTo_91 ?_
          refine va_put (D := D) (ci := 6) (v := .int (l1 + (1 : Int32))) (ty := .int) (C := RX6) (T := TX6) (N := 2) hx hb hts k3 tyX6 tyX6_ok nmX6 hown hK hP hD hS 6 rfl rfl 1 (by decide) k2 (fun _ h9 => h9) rfl (by decide +kernel) rfl rfl (Nat.le_of_ble_eq_true rfl) dX7_playTrulyTo_92 (fun H locs hP hD hS => ?_)
          have hP : va_P D vwCl (wd_X7_playTrulyTo cy o_t o_t_play o_t_lines o_t_truth o_t_glassTrack o_t_board o_t_otherBoard o_t_fog o_t_crowd o_t_deal x_play_w x_play_h x_play_hands x_play_rules x_play_pressRow x_play_leftFrom x_play_leftTo (l1 + (1 : Int32)) x_truth_rows x_board_now x_presses) H := hP
          have hD : va_D A (wd_X7_playTrulyTo cy o_t o_t_play o_t_lines o_t_truth o_t_glassTrack o_t_board o_t_otherBoard o_t_fog o_t_crowd o_t_deal x_play_w x_play_h x_play_hands x_play_rules x_play_pressRow x_play_leftFrom x_play_leftTo (l1 + (1 : Int32)) x_truth_rows x_board_now x_presses) := hD
          obtain rfl := Option.some.inj hf
          exact hR _ _ _ _ hP hD hS dX7_playTrulyTo_95
        refine lv_iload_n hx hb dX7_playTrulyTo_25 rfl (lv_at hl 2 rfl) ?_
        refine lv_iload_n hx hb dX7_playTrulyTo_26 rfl (lv_at hl 1 rfl) ?_
        refine lv_icmp_gt (tgt := 85) hx hb dX7_playTrulyTo_27 (by decide) (fun c27 => ?_) (fun c27 => ?_)
        · have hf := ifp c27 hf
          exact h85 _ _ _ _ _ _ _ _ hf hP hD hS (lv_sub hl [0, 1] rfl)
        · have hf := ifn c27 hf
          refine lv_aload_n hx hb dX7_playTrulyTo_30 rfl (lv_at hl 0 rfl) ?_
          refine va_get (D := D) (ci := 7) (v := .ref (o_t_play 0)) (C := RX7) (T := TX7) (N := 12) hx hb hts k1 hown hK hP 0 rfl rfl 0 (by decide) k4 (fun _ h9 => h9) rfl dX7_playTrulyTo_31 ?_
          refine lv_iload_n hx hb dX7_playTrulyTo_34 rfl (lv_at hl 2 rfl) ?_
          refine lv_aload_n hx hb dX7_playTrulyTo_35 rfl (lv_at hl 0 rfl) ?_
          refine va_get (D := D) (ci := 7) (v := .ref (o_t 7)) (C := RX7) (T := TX7) (N := 12) hx hb hts k1 hown hK hP 0 rfl rfl 6 (by decide) k5 (fun _ h9 => h9) rfl dX7_playTrulyTo_36 ?_
          obtain ⟨r39, hr39, hf⟩ := bd_s hf
          refine my_Vv (WS2 := (wd_X7_playTrulyTo cy o_t o_t_play o_t_lines o_t_truth o_t_glassTrack o_t_board o_t_otherBoard o_t_fog o_t_crowd o_t_deal x_play_w x_play_h x_play_hands x_play_rules x_play_pressRow x_play_leftFrom x_play_leftTo x_truth_ready x_truth_rows x_board_now r39)) ⟨hx, hb, hml, hown, hts⟩ (c_X5_fillPresses l D cy t o_t_play (o_t 7) 6 x_play_w x_play_h x_play_hands x_play_pressRow x_presses l3 hr39) (cwV 2 hts gX7_playTrulyTo_X5_fillPresses rfl rfl rfl ⟨rfl, hd_X5_fillPresses⟩ ⟨Nat.le_of_ble_eq_true rfl, Nat.le_of_ble_eq_true rfl⟩) hK hE hP hD hS hA [1, 3, 10] 11 5 0 rfl rfl rfl rfl (by decide +kernel) rfl rfl hl.1 rfl (Nat.le_of_ble_eq_true rfl) dX7_playTrulyTo_39 ⟨Nat.le_of_ble_eq_true rfl, Nat.le_of_ble_eq_true rfl⟩ (fun H locs hP hD hS => ?_)
          refine lv_aload_n hx hb dX7_playTrulyTo_42 rfl (lv_at hl 0 rfl) ?_
          refine va_get (D := D) (ci := 7) (v := .ref (o_t_board 0)) (C := RX7) (T := TX7) (N := 12) hx hb hts k1 hown hK hP 0 rfl rfl 4 (by decide) k6 (fun _ h9 => h9) rfl dX7_playTrulyTo_43 ?_
          refine lv_aload_n hx hb dX7_playTrulyTo_46 rfl (lv_at hl 0 rfl) ?_
          refine va_get (D := D) (ci := 7) (v := .ref (o_t_play 0)) (C := RX7) (T := TX7) (N := 12) hx hb hts k1 hown hK hP 0 rfl rfl 0 (by decide) k4 (fun _ h9 => h9) rfl dX7_playTrulyTo_47 ?_
          refine lv_aload_n hx hb dX7_playTrulyTo_50 rfl (lv_at hl 0 rfl) ?_
          refine va_get (D := D) (ci := 7) (v := .ref (o_t_play 0)) (C := RX7) (T := TX7) (N := 12) hx hb hts k1 hown hK hP 0 rfl rfl 0 (by decide) k4 (fun _ h9 => h9) rfl dX7_playTrulyTo_51 ?_
          refine va_get (D := D) (ci := 5) (v := .ref (o_t_play 4)) (C := RX5) (T := TX5) (N := 7) hx hb hts k8 hown hK hP 1 rfl rfl 3 (by decide) k7 (fun _ h9 => h9) rfl dX7_playTrulyTo_54 ?_
          refine lv_iconst (v := (0 : Int32)) hx hb dX7_playTrulyTo_57 (by decide) ?_
          obtain ⟨v58, b58, ev58, hf⟩ := rd_s hf
          refine my_iald hx hb hK hP 2 rfl b58 ev58 dX7_playTrulyTo_58 ?_
          refine lv_iload_n hx hb dX7_playTrulyTo_59 rfl (lv_at hl 2 rfl) ?_
          refine lv_aload_n hx hb dX7_playTrulyTo_60 rfl (lv_at hl 0 rfl) ?_
          refine va_get (D := D) (ci := 7) (v := .ref (o_t 7)) (C := RX7) (T := TX7) (N := 12) hx hb hts k1 hown hK hP 0 rfl rfl 6 (by decide) k5 (fun _ h9 => h9) rfl dX7_playTrulyTo_61 ?_
          obtain ⟨r64, hr64, hf⟩ := bd_s hf
          refine my_Vv (WS2 := (wd_X7_playTrulyTo cy o_t o_t_play o_t_lines o_t_truth o_t_glassTrack o_t_board o_t_otherBoard o_t_fog o_t_crowd o_t_deal x_play_w x_play_h x_play_hands x_play_rules x_play_pressRow x_play_leftFrom x_play_leftTo x_truth_ready x_truth_rows r64 r39)) ⟨hx, hb, hml, hown, hts⟩ (c_X0_advance l D cy t o_t_board o_t_play (o_t 7) 6 x_board_now x_play_w x_play_h x_play_hands x_play_rules x_play_leftFrom x_play_leftTo r39 v58 l3 hr64) (cwV 4 hts gX7_playTrulyTo_X0_advance rfl rfl rfl ⟨rfl, hd_X0_advance⟩ ⟨Nat.le_of_ble_eq_true rfl, Nat.le_of_ble_eq_true rfl⟩) hK hE hP hD hS hA [8, 9, 1, 2, 4, 5, 10] 11 0 0 rfl rfl rfl rfl (by decide +kernel) rfl rfl hl.1 rfl (Nat.le_of_ble_eq_true rfl) dX7_playTrulyTo_64 ⟨Nat.le_of_ble_eq_true rfl, Nat.le_of_ble_eq_true rfl⟩ (fun H locs hP hD hS => ?_)
          refine lv_aload_n hx hb dX7_playTrulyTo_67 rfl (lv_at hl 0 rfl) ?_
          refine va_get (D := D) (ci := 7) (v := .ref (o_t_truth 0)) (C := RX7) (T := TX7) (N := 12) hx hb hts k1 hown hK hP 0 rfl rfl 2 (by decide) k0 (fun _ h9 => h9) rfl dX7_playTrulyTo_68 ?_
          refine lv_iload_n hx hb dX7_playTrulyTo_71 rfl (lv_at hl 2 rfl) ?_
          refine lv_aload_n hx hb dX7_playTrulyTo_72 rfl (lv_at hl 0 rfl) ?_
          refine va_get (D := D) (ci := 7) (v := .ref (o_t_board 0)) (C := RX7) (T := TX7) (N := 12) hx hb hts k1 hown hK hP 0 rfl rfl 4 (by decide) k6 (fun _ h9 => h9) rfl dX7_playTrulyTo_73 ?_
          obtain ⟨r76, hr76, hf⟩ := bd_s hf
          refine my_Vv (WS2 := (wd_X7_playTrulyTo cy o_t o_t_play o_t_lines o_t_truth o_t_glassTrack o_t_board o_t_otherBoard o_t_fog o_t_crowd o_t_deal x_play_w x_play_h x_play_hands x_play_rules x_play_pressRow x_play_leftFrom x_play_leftTo x_truth_ready r76 r64 r39)) ⟨hx, hb, hml, hown, hts⟩ (c_X6_save l D cy t o_t_truth o_t_board x_truth_ready x_truth_rows r64 l3 hr76) (cwV 2 hts gX7_playTrulyTo_X6_save rfl rfl rfl ⟨rfl, hd_X6_save⟩ ⟨Nat.le_of_ble_eq_true rfl, Nat.le_of_ble_eq_true rfl⟩) hK hE hP hD hS hA [6, 7, 8, 9] 11 6 0 rfl rfl rfl rfl (by decide +kernel) rfl rfl hl.1 rfl (Nat.le_of_ble_eq_true rfl) dX7_playTrulyTo_76 ⟨Nat.le_of_ble_eq_true rfl, Nat.le_of_ble_eq_true rfl⟩ (fun H locs hP hD hS => ?_)
          obtain ⟨v79, ev79, hf⟩ := nm_s hf
          refine lv_iinc (v := v79) (lv' := [(3, .int v79), (0, .ref (o_t 0)), (1, .int l1)]) hx hb dX7_playTrulyTo_79 hl (k := 2) rfl (by rw [ev79]; rfl) (by decide) rfl (fun ls hl => ?_)
          refine lv_goto (tgt := 25) hx hb dX7_playTrulyTo_82 (by decide) ?_
          exact ih25 _ _ _ _ _ _ _ _ _ hf hP hD hS (lv_sub hl [1, 2, 0] rfl)
    refine lv_aload_n hx hb dX7_playTrulyTo_14 rfl (lv_at hl 1 rfl) ?_
    refine lv_aload_n hx hb dX7_playTrulyTo_15 rfl (lv_at hl 1 rfl) ?_
    refine va_get (D := D) (ci := 7) (v := .ref (o_t_truth 0)) (C := RX7) (T := TX7) (N := 12) hx hb hts k1 hown hK hP 0 rfl rfl 2 (by decide) k0 (fun _ h9 => h9) rfl dX7_playTrulyTo_16 ?_
    refine lv_iload_n hx hb dX7_playTrulyTo_19 rfl (lv_at hl 0 rfl) ?_
    obtain ⟨r20, hr20, hf⟩ := bd_s hf
    refine my_Vv (WS2 := (wd_X7_playTrulyTo cy o_t o_t_play o_t_lines o_t_truth o_t_glassTrack o_t_board o_t_otherBoard o_t_fog o_t_crowd o_t_deal x_play_w x_play_h x_play_hands x_play_rules x_play_pressRow x_play_leftFrom x_play_leftTo x_truth_ready x_truth_rows r20 x_presses)) ⟨hx, hb, hml, hown, hts⟩ (c_X7_setBoardAhead l D cy t o_t o_t_play o_t_lines o_t_truth o_t_glassTrack o_t_board o_t_otherBoard o_t_fog o_t_crowd o_t_deal o_t_truth x_play_w x_play_h x_play_hands x_board_now x_truth_ready x_truth_rows x_truth_ready hr20) (cwV 2 hts gX7_playTrulyTo_X7_setBoardAhead rfl rfl rfl ⟨rfl, hd_X7_setBoardAhead⟩ ⟨Nat.le_of_ble_eq_true rfl, Nat.le_of_ble_eq_true rfl⟩) hK hE hP hD hS hA [0, 1, 8, 9, 6, 7] 11 7 0 rfl rfl rfl rfl (by decide +kernel) rfl rfl hl.1 rfl (Nat.le_of_ble_eq_true rfl) dX7_playTrulyTo_20 ⟨Nat.le_of_ble_eq_true rfl, Nat.le_of_ble_eq_true rfl⟩ (fun H locs hP hD hS => ?_)
    refine lv_iload_n hx hb dX7_playTrulyTo_23 rfl (lv_at hl 0 rfl) ?_
    refine lv_istore_n (lv' := [(3, .int x_truth_ready), (2, .int x_truth_ready), (0, .ref (o_t 0)), (1, .int p1)]) hx hb dX7_playTrulyTo_24 rfl hl (by decide) rfl (fun ls hl => ?_)
    exact h25 FU _ _ _ _ _ _ _ _ _ hf hP hD hS (lv_sub hl [2, 3, 0] rfl)
  · have hf := ifn c10 hf
    obtain rfl := Option.some.inj hf
    exact hR _ _ _ _ hP hD hS dX7_playTrulyTo_13
theorem hd_X7_playTrulyTo : yX7_playTrulyTo.cls ≠ "java/lang/invoke/MethodHandle" ∧ yX7_playTrulyTo.cls ≠ "java/lang/invoke/VarHandle" ∧ (parseMethodDescriptor yX7_playTrulyTo.desc).map (fun d => d.parameters.length) = some 1 := by decide +kernel
set_option maxRecDepth 100000 in
theorem c_X7_playTrulyTo (l : Launch) (D : va_G) (cy : Nat → ClassId) (t : Nat → Nat) (o_t o_t_play o_t_lines o_t_truth o_t_glassTrack o_t_board o_t_otherBoard o_t_fog o_t_crowd o_t_deal : Nat → Nat) (x_play_w : Int32) (x_play_h : Int32) (x_play_hands : Int32) (x_play_rules : Nat → Int32) (x_play_pressRow : Nat → Int32) (x_play_leftFrom : Nat → Int32) (x_play_leftTo : Nat → Int32) (x_truth_ready : Int32) (x_truth_rows : Nat → Int32) (x_board_now : Nat → Int32) (x_presses : Nat → Int32) (p1 : Int32) {out : Int32 × (Nat → Int32) × (Nat → Int32) × (Nat → Int32)} (hf : X7_playTrulyTo x_play_w x_play_h x_play_hands x_play_rules x_play_pressRow x_play_leftFrom x_play_leftTo x_truth_ready x_truth_rows x_board_now x_presses p1 = some out) : ctV l yX7_playTrulyTo wsX7_playTrulyTo 5 118 D cy t [.ref (o_t 0), .int p1] (wd_X7_playTrulyTo cy o_t o_t_play o_t_lines o_t_truth o_t_glassTrack o_t_board o_t_otherBoard o_t_fog o_t_crowd o_t_deal x_play_w x_play_h x_play_hands x_play_rules x_play_pressRow x_play_leftFrom x_play_leftTo x_truth_ready x_truth_rows x_board_now x_presses) (wd_X7_playTrulyTo cy o_t o_t_play o_t_lines o_t_truth o_t_glassTrack o_t_board o_t_otherBoard o_t_fog o_t_crowd o_t_deal x_play_w x_play_h x_play_hands x_play_rules x_play_pressRow x_play_leftFrom x_play_leftTo out.1 out.2.1 out.2.2.1 out.2.2.2) := by
  refine ⟨rfl, ?_⟩
  intro sz
  refine Met.ofW (cc := cX7_playTrulyTo) (maxL := 4) (ret := none) (by decide) rfl ?_
  intro p e s m args below meth c s₁ B hml hv
  obtain ⟨rfl, hsz, hP, hK, hD0, hE⟩ := hv
  have hts := atoms_spec (ws := wsX7_playTrulyTo) B.pre
  have hown : s.vm.findClass RX7 = some m.cls := findClass_of_methodNamed B.named
  have hlocks := B.notSynchronized
  subst hsz
  have hD := hD0.self (sz := s.heap.size)
  have hl := lv_entry ([.ref (o_t 0), .int p1]) (n := 4) (Nat.le_of_ble_eq_true rfl)
  rw [lg_entry_eq]
  generalize (lg_sl ([.ref (o_t 0), .int p1]) ++ List.replicate (4 - (lg_sl ([.ref (o_t 0), .int p1])).length) Slot.unset).toArray = ls at hl ⊢
  exact w_X7_playTrulyTo D cy t o_t o_t_play o_t_lines o_t_truth o_t_glassTrack o_t_board o_t_otherBoard o_t_fog o_t_crowd o_t_deal x_play_w x_play_h x_play_hands x_play_rules x_play_pressRow x_play_leftFrom x_play_leftTo x_truth_ready x_truth_rows x_board_now x_presses p1 hf B.exec B.bytes hml hown hts hK hE (fun q h => Or.inr h) hP hD va_S.rf hl (fun H locs ls pc hP hD hS hdg => W.vret B.exec B.bytes B.returns (fun t ht hW => ⟨⟨(), rfl, trivial, ctB_of ht hP⟩, hS.F ht⟩) hS.2.2 hdg)

noncomputable def X7_showFrom_J68 (x_play_w : Int32) (x_play_h : Int32) (x_play_hands : Int32) (x_play_rules : Nat → Int32) (x_play_pressRow : Nat → Int32) (x_play_leftFrom : Nat → Int32) (x_play_leftTo : Nat → Int32) (x_lines_waits : Nat → Int32) (x_lines_lostRow : Nat → Int32) (rec12 : (Nat → Int32) → (Nat → Int32) → (Nat → Int32) → Int32 → Int32 → Int32 → Option ((Nat → Int32) × (Nat → Int32) × (Nat → Int32))) (x_glassTrack_rows : Nat → Int32) (x_board_now : Nat → Int32) (x_presses : Nat → Int32) (l1 : Int32) (l2 : Int32) (l4 : Int32) : Option ((Nat → Int32) × (Nat → Int32) × (Nat → Int32)) :=
  rd x_play_rules 7 (0 : Int32) fun v84 => bd (X0_advance 6 x_play_w x_play_h x_play_hands x_play_rules x_play_leftFrom x_play_leftTo x_presses x_board_now v84 l4) fun r91 => bd (X6_save r91 x_glassTrack_rows l4) fun r104 => nm (l4 + (1 : Int32)) fun v107 => rec12 r104 r91 x_presses l1 l2 v107
noncomputable def X7_showFrom_L21_B (x_play_w : Int32) (x_play_h : Int32) (x_play_hands : Int32) (x_play_rules : Nat → Int32) (x_play_pressRow : Nat → Int32) (x_play_leftFrom : Nat → Int32) (x_play_leftTo : Nat → Int32) (x_lines_waits : Nat → Int32) (x_lines_lostRow : Nat → Int32) (rec12 : (Nat → Int32) → (Nat → Int32) → (Nat → Int32) → Int32 → Int32 → Int32 → Option ((Nat → Int32) × (Nat → Int32) × (Nat → Int32))) (rec21 : (Nat → Int32) → (Nat → Int32) → (Nat → Int32) → Int32 → Int32 → Int32 → Int32 → Option ((Nat → Int32) × (Nat → Int32) × (Nat → Int32))) (x_glassTrack_rows : Nat → Int32) (x_board_now : Nat → Int32) (x_presses : Nat → Int32) (l1 : Int32) (l2 : Int32) (l4 : Int32) (l5 : Int32) : Option ((Nat → Int32) × (Nat → Int32) × (Nat → Int32)) :=
  if x_play_hands ≤ l5 then (X7_showFrom_J68 x_play_w x_play_h x_play_hands x_play_rules x_play_pressRow x_play_leftFrom x_play_leftTo x_lines_waits x_lines_lostRow rec12 x_glassTrack_rows x_board_now x_presses l1 l2 l4) else (rd x_play_rules 7 (3 : Int32) fun v51 => bd (X4_taken x_play_pressRow x_play_leftFrom x_play_leftTo x_lines_waits x_lines_lostRow v51 l1 l2 l5 l4) fun r58 => wrI x_presses 6 l5 r58 fun w61 => nm (l5 + (1 : Int32)) fun v62 => rec21 x_glassTrack_rows x_board_now w61 l1 l2 l4 v62)
noncomputable def X7_showFrom_L21 (x_play_w : Int32) (x_play_h : Int32) (x_play_hands : Int32) (x_play_rules : Nat → Int32) (x_play_pressRow : Nat → Int32) (x_play_leftFrom : Nat → Int32) (x_play_leftTo : Nat → Int32) (x_lines_waits : Nat → Int32) (x_lines_lostRow : Nat → Int32) (rec12 : (Nat → Int32) → (Nat → Int32) → (Nat → Int32) → Int32 → Int32 → Int32 → Option ((Nat → Int32) × (Nat → Int32) × (Nat → Int32))) : Nat → (Nat → Int32) → (Nat → Int32) → (Nat → Int32) → Int32 → Int32 → Int32 → Int32 → Option ((Nat → Int32) × (Nat → Int32) × (Nat → Int32))
  | 0, _, _, _, _, _, _, _ => none
  | n + 1, y0, y1, y2, y3, y4, y5, y6 => X7_showFrom_L21_B x_play_w x_play_h x_play_hands x_play_rules x_play_pressRow x_play_leftFrom x_play_leftTo x_lines_waits x_lines_lostRow rec12 (X7_showFrom_L21 x_play_w x_play_h x_play_hands x_play_rules x_play_pressRow x_play_leftFrom x_play_leftTo x_lines_waits x_lines_lostRow rec12 n) y0 y1 y2 y3 y4 y5 y6
noncomputable def X7_showFrom_L12_B (x_play_w : Int32) (x_play_h : Int32) (x_play_hands : Int32) (x_play_rules : Nat → Int32) (x_play_pressRow : Nat → Int32) (x_play_leftFrom : Nat → Int32) (x_play_leftTo : Nat → Int32) (x_lines_waits : Nat → Int32) (x_lines_lostRow : Nat → Int32) (rec12 : (Nat → Int32) → (Nat → Int32) → (Nat → Int32) → Int32 → Int32 → Int32 → Option ((Nat → Int32) × (Nat → Int32) × (Nat → Int32))) (x_glassTrack_rows : Nat → Int32) (x_board_now : Nat → Int32) (x_presses : Nat → Int32) (l1 : Int32) (l2 : Int32) (l4 : Int32) : Option ((Nat → Int32) × (Nat → Int32) × (Nat → Int32)) :=
  if l2 < l4 then (some (x_glassTrack_rows, x_board_now, x_presses)) else (X7_showFrom_L21 x_play_w x_play_h x_play_hands x_play_rules x_play_pressRow x_play_leftFrom x_play_leftTo x_lines_waits x_lines_lostRow rec12 FU x_glassTrack_rows x_board_now x_presses l1 l2 l4 (0 : Int32))
noncomputable def X7_showFrom_L12 (x_play_w : Int32) (x_play_h : Int32) (x_play_hands : Int32) (x_play_rules : Nat → Int32) (x_play_pressRow : Nat → Int32) (x_play_leftFrom : Nat → Int32) (x_play_leftTo : Nat → Int32) (x_lines_waits : Nat → Int32) (x_lines_lostRow : Nat → Int32) : Nat → (Nat → Int32) → (Nat → Int32) → (Nat → Int32) → Int32 → Int32 → Int32 → Option ((Nat → Int32) × (Nat → Int32) × (Nat → Int32))
  | 0, _, _, _, _, _, _ => none
  | n + 1, y0, y1, y2, y3, y4, y5 => X7_showFrom_L12_B x_play_w x_play_h x_play_hands x_play_rules x_play_pressRow x_play_leftFrom x_play_leftTo x_lines_waits x_lines_lostRow  (X7_showFrom_L12 x_play_w x_play_h x_play_hands x_play_rules x_play_pressRow x_play_leftFrom x_play_leftTo x_lines_waits x_lines_lostRow  n) y0 y1 y2 y3 y4 y5
noncomputable def X7_showFrom (x_play_w : Int32) (x_play_h : Int32) (x_play_hands : Int32) (x_play_rules : Nat → Int32) (x_play_pressRow : Nat → Int32) (x_play_leftFrom : Nat → Int32) (x_play_leftTo : Nat → Int32) (x_lines_waits : Nat → Int32) (x_lines_lostRow : Nat → Int32) (x_glassTrack_rows : Nat → Int32) (x_board_now : Nat → Int32) (x_presses : Nat → Int32) (p1 : Int32) (p2 : Int32) (p3 : Int32) : Option ((Nat → Int32) × (Nat → Int32) × (Nat → Int32)) :=
  bd (X7_setBoardAhead x_play_w x_play_h x_play_hands x_glassTrack_rows x_board_now p3) fun r6 => X7_showFrom_L12 x_play_w x_play_h x_play_hands x_play_rules x_play_pressRow x_play_leftFrom x_play_leftTo x_lines_waits x_lines_lostRow  FU x_glassTrack_rows r6 x_presses p1 p2 p3
abbrev wd_X7_showFrom (cy : Nat → ClassId) (o_t o_t_play o_t_lines o_t_truth o_t_glassTrack o_t_board o_t_otherBoard o_t_fog o_t_crowd o_t_deal : Nat → Nat) (x_play_w : Int32) (x_play_h : Int32) (x_play_hands : Int32) (x_play_rules : Nat → Int32) (x_play_pressRow : Nat → Int32) (x_play_leftFrom : Nat → Int32) (x_play_leftTo : Nat → Int32) (x_lines_waits : Nat → Int32) (x_lines_lostRow : Nat → Int32) (x_glassTrack_ready : Int32) (x_glassTrack_rows : Nat → Int32) (x_board_now : Nat → Int32) (x_presses : Nat → Int32) : va_W := [(o_t 0, .inr (7, [.ref (o_t_play 0), .ref (o_t_lines 0), .ref (o_t_truth 0), .ref (o_t_glassTrack 0), .ref (o_t_board 0), .ref (o_t_otherBoard 0), .ref (o_t 7), .ref (o_t_fog 0), .ref (o_t_crowd 0), .ref (o_t_deal 0), .ref (o_t 11), .ref (o_t 12)])), (o_t_play 0, .inr (5, [.int x_play_w, .int x_play_h, .int x_play_hands, .ref (o_t_play 4), .ref (o_t_play 5), .ref (o_t_play 6), .ref (o_t_play 7)])), (o_t_play 4, .inl (cy 0, 7, .inl x_play_rules)), (o_t_play 5, .inl (cy 0, 600, .inl x_play_pressRow)), (o_t_play 6, .inl (cy 0, 6, .inl x_play_leftFrom)), (o_t_play 7, .inl (cy 0, 6, .inl x_play_leftTo)), (o_t_lines 0, .inr (4, [.ref (o_t_play 0), .ref (o_t_lines 2), .ref (o_t_lines 3)])), (o_t_lines 2, .inl (cy 0, 36, .inl x_lines_waits)), (o_t_lines 3, .inl (cy 1, 600, .inl x_lines_lostRow)), (o_t_glassTrack 0, .inr (6, [.ref (o_t_glassTrack 1), .int x_glassTrack_ready])), (o_t_glassTrack 1, .inl (cy 0, 1300, .inl x_glassTrack_rows)), (o_t_board 0, .inr (0, [.ref (o_t_board 1)])), (o_t_board 1, .inl (cy 0, 13, .inl x_board_now)), (o_t 7, .inl (cy 0, 6, .inl x_presses))]
set_option maxHeartbeats 4000000 in
set_option maxRecDepth 100000 in
theorem w_X7_showFrom {p : Program} {l : Launch} {e : Env} {s : State} {m : MethodId} {args : Array Value} {below : List Frame} {meth : Method} {c : Code} {Q : State → Prop} {A : Nat → Prop} {H : Heap} {locs : List Loc} {ls : Array Slot} (D : va_G) (cy : Nat → ClassId) (t : Nat → Nat) (o_t o_t_play o_t_lines o_t_truth o_t_glassTrack o_t_board o_t_otherBoard o_t_fog o_t_crowd o_t_deal : Nat → Nat) (x_play_w : Int32) (x_play_h : Int32) (x_play_hands : Int32) (x_play_rules : Nat → Int32) (x_play_pressRow : Nat → Int32) (x_play_leftFrom : Nat → Int32) (x_play_leftTo : Nat → Int32) (x_lines_waits : Nat → Int32) (x_lines_lostRow : Nat → Int32) (x_glassTrack_ready : Int32) (x_glassTrack_rows : Nat → Int32) (x_board_now : Nat → Int32) (x_presses : Nat → Int32) (p1 : Int32) (p2 : Int32) (p3 : Int32) {out : (Nat → Int32) × (Nat → Int32) × (Nat → Int32)} (hf : X7_showFrom x_play_w x_play_h x_play_hands x_play_rules x_play_pressRow x_play_leftFrom x_play_leftTo x_lines_waits x_lines_lostRow x_glassTrack_rows x_board_now x_presses p1 p2 p3 = some out) (hx : p.tables.exec = Jvm.exec) (hb : c.code = cX7_showFrom) (hml : c.maxLocals = 6) (hown : s.vm.findClass RX7 = some m.cls) (hts : ∀ w ∈ wsX7_showFrom, w.before args s = true) (hK : va_K D vwCl (TYS cy) s) (hE : EV t A s s.heap) (hA : ∀ q, s.heap.size ≤ q → A q) (hP : va_P D vwCl (wd_X7_showFrom cy o_t o_t_play o_t_lines o_t_truth o_t_glassTrack o_t_board o_t_otherBoard o_t_fog o_t_crowd o_t_deal x_play_w x_play_h x_play_hands x_play_rules x_play_pressRow x_play_leftFrom x_play_leftTo x_lines_waits x_lines_lostRow x_glassTrack_ready x_glassTrack_rows x_board_now x_presses) H) (hD : va_D A (wd_X7_showFrom cy o_t o_t_play o_t_lines o_t_truth o_t_glassTrack o_t_board o_t_otherBoard o_t_fog o_t_crowd o_t_deal x_play_w x_play_h x_play_hands x_play_rules x_play_pressRow x_play_leftFrom x_play_leftTo x_lines_waits x_lines_lostRow x_glassTrack_ready x_glassTrack_rows x_board_now x_presses)) (hS : va_S A s.heap H locs) (hl : lv_has ls 6 [(0, .ref (o_t 0)), (1, .int p1), (2, .int p2), (3, .int p3)]) (hR : ∀ (H : Heap) (locs : List Loc) (ls : Array Slot) (pc : Nat), va_P D vwCl (wd_X7_showFrom cy o_t o_t_play o_t_lines o_t_truth o_t_glassTrack o_t_board o_t_otherBoard o_t_fog o_t_crowd o_t_deal x_play_w x_play_h x_play_hands x_play_rules x_play_pressRow x_play_leftFrom x_play_leftTo x_lines_waits x_lines_lostRow x_glassTrack_ready out.1 out.2.1 out.2.2) H → va_D A (wd_X7_showFrom cy o_t o_t_play o_t_lines o_t_truth o_t_glassTrack o_t_board o_t_otherBoard o_t_fog o_t_crowd o_t_deal x_play_w x_play_h x_play_hands x_play_rules x_play_pressRow x_play_leftFrom x_play_leftTo x_lines_waits x_lines_lostRow x_glassTrack_ready out.1 out.2.1 out.2.2) → va_S A s.heap H locs → decode cX7_showFrom pc = .ok (.return_, 1) → W p l e (rmm 5 118) s m args below meth c H locs 0 0 Q (F0 m pc ls [])) : W p l e (rmm 5 118) s m args below meth c H locs 0 0 Q (F0 m 0 ls []) := by
  have k0 := hts (.fieldLink RX7 32 "SeaGames" "glassTrack" "LSeaGames$Track;") (List.mem_cons_of_mem _ (List.mem_append_left _ (List.mem_append_left _ (List.mem_append_left _ (List.mem_append_left _ (List.mem_append_left _ (List.mem_append_left _ (List.mem_of_getElem? (i := 0) rfl))))))))
  have k1 : ∀ w ∈ u_ws RX7 TX7 12, w ∈ wsX7_showFrom := fun _ h => List.mem_cons_of_mem _ (List.mem_append_left _ (List.mem_append_left _ (List.mem_append_left _ (List.mem_append_left _ (List.mem_append_right _ h)))))
  have k2 := hts (.fieldLink RX7 10 "SeaGames" "play" "LSeaGames$Play;") (List.mem_cons_of_mem _ (List.mem_append_left _ (List.mem_append_left _ (List.mem_append_left _ (List.mem_append_left _ (List.mem_append_left _ (List.mem_append_left _ (List.mem_of_getElem? (i := 1) rfl))))))))
  have k3 := hts (.fieldLink RX7 123 "SeaGames$Play" "hands" "I") (List.mem_cons_of_mem _ (List.mem_append_left _ (List.mem_append_left _ (List.mem_append_left _ (List.mem_append_left _ (List.mem_append_left _ (List.mem_append_left _ (List.mem_of_getElem? (i := 2) rfl))))))))
  have k4 : ∀ w ∈ u_ws RX5 TX5 7, w ∈ wsX7_showFrom := fun _ h => List.mem_cons_of_mem _ (List.mem_append_left _ (List.mem_append_left _ (List.mem_append_left _ (List.mem_append_right _ h))))
  have k5 := hts (.fieldLink RX7 38 "SeaGames" "board" "LSeaGames$Board;") (List.mem_cons_of_mem _ (List.mem_append_left _ (List.mem_append_left _ (List.mem_append_left _ (List.mem_append_left _ (List.mem_append_left _ (List.mem_append_left _ (List.mem_of_getElem? (i := 6) rfl))))))))
  have k6 := hts (.fieldLink RX7 98 "SeaGames$Play" "rules" "[I") (List.mem_cons_of_mem _ (List.mem_append_left _ (List.mem_append_left _ (List.mem_append_left _ (List.mem_append_left _ (List.mem_append_left _ (List.mem_append_left _ (List.mem_of_getElem? (i := 5) rfl))))))))
  have k7 := hts (.fieldLink RX7 45 "SeaGames" "presses" "[I") (List.mem_cons_of_mem _ (List.mem_append_left _ (List.mem_append_left _ (List.mem_append_left _ (List.mem_append_left _ (List.mem_append_left _ (List.mem_append_left _ (List.mem_of_getElem? (i := 3) rfl))))))))
  have k8 := hts (.fieldLink RX7 21 "SeaGames" "lines" "LSeaGames$Lines;") (List.mem_cons_of_mem _ (List.mem_append_left _ (List.mem_append_left _ (List.mem_append_left _ (List.mem_append_left _ (List.mem_append_left _ (List.mem_append_left _ (List.mem_of_getElem? (i := 4) rfl))))))))
  rw [X7_showFrom] at hf
  have h12 : ∀ (n12 : Nat) (x_glassTrack_rows : Nat → Int32) (x_board_now : Nat → Int32) (x_presses : Nat → Int32) (l1 : Int32) (l2 : Int32) (l4 : Int32) (H : Heap) (locs : List Loc) (ls : Array Slot), X7_showFrom_L12 x_play_w x_play_h x_play_hands x_play_rules x_play_pressRow x_play_leftFrom x_play_leftTo x_lines_waits x_lines_lostRow n12 x_glassTrack_rows x_board_now x_presses l1 l2 l4 = some out → va_P D vwCl (wd_X7_showFrom cy o_t o_t_play o_t_lines o_t_truth o_t_glassTrack o_t_board o_t_otherBoard o_t_fog o_t_crowd o_t_deal x_play_w x_play_h x_play_hands x_play_rules x_play_pressRow x_play_leftFrom x_play_leftTo x_lines_waits x_lines_lostRow x_glassTrack_ready x_glassTrack_rows x_board_now x_presses) H → va_D A (wd_X7_showFrom cy o_t o_t_play o_t_lines o_t_truth o_t_glassTrack o_t_board o_t_otherBoard o_t_fog o_t_crowd o_t_deal x_play_w x_play_h x_play_hands x_play_rules x_play_pressRow x_play_leftFrom x_play_leftTo x_lines_waits x_lines_lostRow x_glassTrack_ready x_glassTrack_rows x_board_now x_presses) → va_S A s.heap H locs → lv_has ls 6 [(0, .ref (o_t 0)), (1, .int l1), (2, .int l2), (4, .int l4)] → W p l e (rmm 5 118) s m args below meth c H locs 0 0 Q (F0 m 12 ls []) := by
    intro n12
    induction n12 with
    | zero =>
      intro _ _ _ _ _ _ _ _ _ hf
      exact nomatch (show (none : Option _) = some out from hf)
    | succ n12 ih12 =>
      intro x_glassTrack_rows x_board_now x_presses l1 l2 l4 H locs ls hf hP hD hS hl
      have hf : X7_showFrom_L12_B x_play_w x_play_h x_play_hands x_play_rules x_play_pressRow x_play_leftFrom x_play_leftTo x_lines_waits x_lines_lostRow (X7_showFrom_L12 x_play_w x_play_h x_play_hands x_play_rules x_play_pressRow x_play_leftFrom x_play_leftTo x_lines_waits x_lines_lostRow n12) x_glassTrack_rows x_board_now x_presses l1 l2 l4 = some out := hf
      rw [X7_showFrom_L12_B] at hf
      refine lv_iload hx hb dX7_showFrom_12 (lv_at hl 3 rfl) ?_
      refine lv_iload_n hx hb dX7_showFrom_14 rfl (lv_at hl 2 rfl) ?_
      refine lv_icmp_gt (tgt := 113) hx hb dX7_showFrom_15 (by decide) (fun c15 => ?_) (fun c15 => ?_)
      · have hf := ifp c15 hf
        obtain rfl := Option.some.inj hf
        exact hR _ _ _ _ hP hD hS dX7_showFrom_113
      · have hf := ifn c15 hf
        have h21 : ∀ (n21 : Nat) (x_glassTrack_rows : Nat → Int32) (x_board_now : Nat → Int32) (x_presses : Nat → Int32) (l1 : Int32) (l2 : Int32) (l4 : Int32) (l5 : Int32) (H : Heap) (locs : List Loc) (ls : Array Slot), X7_showFrom_L21 x_play_w x_play_h x_play_hands x_play_rules x_play_pressRow x_play_leftFrom x_play_leftTo x_lines_waits x_lines_lostRow (X7_showFrom_L12 x_play_w x_play_h x_play_hands x_play_rules x_play_pressRow x_play_leftFrom x_play_leftTo x_lines_waits x_lines_lostRow n12) n21 x_glassTrack_rows x_board_now x_presses l1 l2 l4 l5 = some out → va_P D vwCl (wd_X7_showFrom cy o_t o_t_play o_t_lines o_t_truth o_t_glassTrack o_t_board o_t_otherBoard o_t_fog o_t_crowd o_t_deal x_play_w x_play_h x_play_hands x_play_rules x_play_pressRow x_play_leftFrom x_play_leftTo x_lines_waits x_lines_lostRow x_glassTrack_ready x_glassTrack_rows x_board_now x_presses) H → va_D A (wd_X7_showFrom cy o_t o_t_play o_t_lines o_t_truth o_t_glassTrack o_t_board o_t_otherBoard o_t_fog o_t_crowd o_t_deal x_play_w x_play_h x_play_hands x_play_rules x_play_pressRow x_play_leftFrom x_play_leftTo x_lines_waits x_lines_lostRow x_glassTrack_ready x_glassTrack_rows x_board_now x_presses) → va_S A s.heap H locs → lv_has ls 6 [(0, .ref (o_t 0)), (1, .int l1), (2, .int l2), (4, .int l4), (5, .int l5)] → W p l e (rmm 5 118) s m args below meth c H locs 0 0 Q (F0 m 21 ls []) := by
          intro n21
          induction n21 with
          | zero =>
            intro _ _ _ _ _ _ _ _ _ _ hf
            exact nomatch (show (none : Option _) = some out from hf)
          | succ n21 ih21 =>
            intro x_glassTrack_rows x_board_now x_presses l1 l2 l4 l5 H locs ls hf hP hD hS hl
            have hf : X7_showFrom_L21_B x_play_w x_play_h x_play_hands x_play_rules x_play_pressRow x_play_leftFrom x_play_leftTo x_lines_waits x_lines_lostRow (X7_showFrom_L12 x_play_w x_play_h x_play_hands x_play_rules x_play_pressRow x_play_leftFrom x_play_leftTo x_lines_waits x_lines_lostRow n12) (X7_showFrom_L21 x_play_w x_play_h x_play_hands x_play_rules x_play_pressRow x_play_leftFrom x_play_leftTo x_lines_waits x_lines_lostRow (X7_showFrom_L12 x_play_w x_play_h x_play_hands x_play_rules x_play_pressRow x_play_leftFrom x_play_leftTo x_lines_waits x_lines_lostRow n12) n21) x_glassTrack_rows x_board_now x_presses l1 l2 l4 l5 = some out := hf
            rw [X7_showFrom_L21_B] at hf
            have h68 : ∀ (x_glassTrack_rows : Nat → Int32) (x_board_now : Nat → Int32) (x_presses : Nat → Int32) (l1 : Int32) (l2 : Int32) (l4 : Int32) (H : Heap) (locs : List Loc) (ls : Array Slot), X7_showFrom_J68 x_play_w x_play_h x_play_hands x_play_rules x_play_pressRow x_play_leftFrom x_play_leftTo x_lines_waits x_lines_lostRow (X7_showFrom_L12 x_play_w x_play_h x_play_hands x_play_rules x_play_pressRow x_play_leftFrom x_play_leftTo x_lines_waits x_lines_lostRow n12) x_glassTrack_rows x_board_now x_presses l1 l2 l4 = some out → va_P D vwCl (wd_X7_showFrom cy o_t o_t_play o_t_lines o_t_truth o_t_glassTrack o_t_board o_t_otherBoard o_t_fog o_t_crowd o_t_deal x_play_w x_play_h x_play_hands x_play_rules x_play_pressRow x_play_leftFrom x_play_leftTo x_lines_waits x_lines_lostRow x_glassTrack_ready x_glassTrack_rows x_board_now x_presses) H → va_D A (wd_X7_showFrom cy o_t o_t_play o_t_lines o_t_truth o_t_glassTrack o_t_board o_t_otherBoard o_t_fog o_t_crowd o_t_deal x_play_w x_play_h x_play_hands x_play_rules x_play_pressRow x_play_leftFrom x_play_leftTo x_lines_waits x_lines_lostRow x_glassTrack_ready x_glassTrack_rows x_board_now x_presses) → va_S A s.heap H locs → lv_has ls 6 [(0, .ref (o_t 0)), (1, .int l1), (2, .int l2), (4, .int l4)] → W p l e (rmm 5 118) s m args below meth c H locs 0 0 Q (F0 m 68 ls []) := by
              intro x_glassTrack_rows x_board_now x_presses l1 l2 l4 H locs ls hf hP hD hS hl
              rw [X7_showFrom_J68] at hf
              refine lv_aload_n hx hb dX7_showFrom_68 rfl (lv_at hl 0 rfl) ?_
              refine va_get (D := D) (ci := 7) (v := .ref (o_t_board 0)) (C := RX7) (T := TX7) (N := 12) hx hb hts k1 hown hK hP 0 rfl rfl 4 (by decide) k5 (fun _ h9 => h9) rfl dX7_showFrom_69 ?_
              refine lv_aload_n hx hb dX7_showFrom_72 rfl (lv_at hl 0 rfl) ?_
              refine va_get (D := D) (ci := 7) (v := .ref (o_t_play 0)) (C := RX7) (T := TX7) (N := 12) hx hb hts k1 hown hK hP 0 rfl rfl 0 (by decide) k2 (fun _ h9 => h9) rfl dX7_showFrom_73 ?_
              refine lv_aload_n hx hb dX7_showFrom_76 rfl (lv_at hl 0 rfl) ?_
              refine va_get (D := D) (ci := 7) (v := .ref (o_t_play 0)) (C := RX7) (T := TX7) (N := 12) hx hb hts k1 hown hK hP 0 rfl rfl 0 (by decide) k2 (fun _ h9 => h9) rfl dX7_showFrom_77 ?_
              refine va_get (D := D) (ci := 5) (v := .ref (o_t_play 4)) (C := RX5) (T := TX5) (N := 7) hx hb hts k4 hown hK hP 1 rfl rfl 3 (by decide) k6 (fun _ h9 => h9) rfl dX7_showFrom_80 ?_
              refine lv_iconst (v := (0 : Int32)) hx hb dX7_showFrom_83 (by decide) ?_
              obtain ⟨v84, b84, ev84, hf⟩ := rd_s hf
              refine my_iald hx hb hK hP 2 rfl b84 ev84 dX7_showFrom_84 ?_
              refine lv_iload hx hb dX7_showFrom_85 (lv_at hl 3 rfl) ?_
              refine lv_aload_n hx hb dX7_showFrom_87 rfl (lv_at hl 0 rfl) ?_
              refine va_get (D := D) (ci := 7) (v := .ref (o_t 7)) (C := RX7) (T := TX7) (N := 12) hx hb hts k1 hown hK hP 0 rfl rfl 6 (by decide) k7 (fun _ h9 => h9) rfl dX7_showFrom_88 ?_
              obtain ⟨r91, hr91, hf⟩ := bd_s hf
              refine my_Vv (WS2 := (wd_X7_showFrom cy o_t o_t_play o_t_lines o_t_truth o_t_glassTrack o_t_board o_t_otherBoard o_t_fog o_t_crowd o_t_deal x_play_w x_play_h x_play_hands x_play_rules x_play_pressRow x_play_leftFrom x_play_leftTo x_lines_waits x_lines_lostRow x_glassTrack_ready x_glassTrack_rows r91 x_presses)) ⟨hx, hb, hml, hown, hts⟩ (c_X0_advance l D cy t o_t_board o_t_play (o_t 7) 6 x_board_now x_play_w x_play_h x_play_hands x_play_rules x_play_leftFrom x_play_leftTo x_presses v84 l4 hr91) (cwV 4 hts gX7_showFrom_X0_advance rfl rfl rfl ⟨rfl, hd_X0_advance⟩ ⟨Nat.le_of_ble_eq_true rfl, Nat.le_of_ble_eq_true rfl⟩) hK hE hP hD hS hA [11, 12, 1, 2, 4, 5, 13] 14 0 0 rfl rfl rfl rfl (by decide +kernel) rfl rfl hl.1 rfl (Nat.le_of_ble_eq_true rfl) dX7_showFrom_91 ⟨Nat.le_of_ble_eq_true rfl, Nat.le_of_ble_eq_true rfl⟩ (fun H locs hP hD hS => ?_)
              refine lv_aload_n hx hb dX7_showFrom_94 rfl (lv_at hl 0 rfl) ?_
              refine va_get (D := D) (ci := 7) (v := .ref (o_t_glassTrack 0)) (C := RX7) (T := TX7) (N := 12) hx hb hts k1 hown hK hP 0 rfl rfl 3 (by decide) k0 (fun _ h9 => h9) rfl dX7_showFrom_95 ?_
              refine lv_iload hx hb dX7_showFrom_98 (lv_at hl 3 rfl) ?_
              refine lv_aload_n hx hb dX7_showFrom_100 rfl (lv_at hl 0 rfl) ?_
              refine va_get (D := D) (ci := 7) (v := .ref (o_t_board 0)) (C := RX7) (T := TX7) (N := 12) hx hb hts k1 hown hK hP 0 rfl rfl 4 (by decide) k5 (fun _ h9 => h9) rfl dX7_showFrom_101 ?_
              obtain ⟨r104, hr104, hf⟩ := bd_s hf
              refine my_Vv (WS2 := (wd_X7_showFrom cy o_t o_t_play o_t_lines o_t_truth o_t_glassTrack o_t_board o_t_otherBoard o_t_fog o_t_crowd o_t_deal x_play_w x_play_h x_play_hands x_play_rules x_play_pressRow x_play_leftFrom x_play_leftTo x_lines_waits x_lines_lostRow x_glassTrack_ready r104 r91 x_presses)) ⟨hx, hb, hml, hown, hts⟩ (c_X6_save l D cy t o_t_glassTrack o_t_board x_glassTrack_ready x_glassTrack_rows r91 l4 hr104) (cwV 2 hts gX7_showFrom_X6_save rfl rfl rfl ⟨rfl, hd_X6_save⟩ ⟨Nat.le_of_ble_eq_true rfl, Nat.le_of_ble_eq_true rfl⟩) hK hE hP hD hS hA [9, 10, 11, 12] 14 6 0 rfl rfl rfl rfl (by decide +kernel) rfl rfl hl.1 rfl (Nat.le_of_ble_eq_true rfl) dX7_showFrom_104 ⟨Nat.le_of_ble_eq_true rfl, Nat.le_of_ble_eq_true rfl⟩ (fun H locs hP hD hS => ?_)
              obtain ⟨v107, ev107, hf⟩ := nm_s hf
              refine lv_iinc (v := v107) (lv' := [(4, .int v107), (0, .ref (o_t 0)), (1, .int l1), (2, .int l2)]) hx hb dX7_showFrom_107 hl (k := 3) rfl (by rw [ev107]; rfl) (by decide) rfl (fun ls hl => ?_)
              refine lv_goto (tgt := 12) hx hb dX7_showFrom_110 (by decide) ?_
              exact ih12 _ _ _ _ _ _ _ _ _ hf hP hD hS (lv_sub hl [1, 2, 3, 0] rfl)
            refine lv_iload hx hb dX7_showFrom_21 (lv_at hl 4 rfl) ?_
            refine lv_aload_n hx hb dX7_showFrom_23 rfl (lv_at hl 0 rfl) ?_
            refine va_get (D := D) (ci := 7) (v := .ref (o_t_play 0)) (C := RX7) (T := TX7) (N := 12) hx hb hts k1 hown hK hP 0 rfl rfl 0 (by decide) k2 (fun _ h9 => h9) rfl dX7_showFrom_24 ?_
            refine va_get (D := D) (ci := 5) (v := .int x_play_hands) (C := RX5) (T := TX5) (N := 7) hx hb hts k4 hown hK hP 1 rfl rfl 2 (by decide) k3 (fun _ h9 => h9) rfl dX7_showFrom_27 ?_
            refine lv_icmp_ge (tgt := 68) hx hb dX7_showFrom_30 (by decide) (fun c30 => ?_) (fun c30 => ?_)
            · have hf := ifp c30 hf
              exact h68 _ _ _ _ _ _ _ _ _ hf hP hD hS (lv_sub hl [0, 1, 2, 3] rfl)
            · have hf := ifn c30 hf
              refine lv_aload_n hx hb dX7_showFrom_33 rfl (lv_at hl 0 rfl) ?_
              refine va_get (D := D) (ci := 7) (v := .ref (o_t 7)) (C := RX7) (T := TX7) (N := 12) hx hb hts k1 hown hK hP 0 rfl rfl 6 (by decide) k7 (fun _ h9 => h9) rfl dX7_showFrom_34 ?_
              refine lv_iload hx hb dX7_showFrom_37 (lv_at hl 4 rfl) ?_
              refine lv_aload_n hx hb dX7_showFrom_39 rfl (lv_at hl 0 rfl) ?_
              refine va_get (D := D) (ci := 7) (v := .ref (o_t_lines 0)) (C := RX7) (T := TX7) (N := 12) hx hb hts k1 hown hK hP 0 rfl rfl 1 (by decide) k8 (fun _ h9 => h9) rfl dX7_showFrom_40 ?_
              refine lv_aload_n hx hb dX7_showFrom_43 rfl (lv_at hl 0 rfl) ?_
              refine va_get (D := D) (ci := 7) (v := .ref (o_t_play 0)) (C := RX7) (T := TX7) (N := 12) hx hb hts k1 hown hK hP 0 rfl rfl 0 (by decide) k2 (fun _ h9 => h9) rfl dX7_showFrom_44 ?_
              refine va_get (D := D) (ci := 5) (v := .ref (o_t_play 4)) (C := RX5) (T := TX5) (N := 7) hx hb hts k4 hown hK hP 1 rfl rfl 3 (by decide) k6 (fun _ h9 => h9) rfl dX7_showFrom_47 ?_
              refine lv_iconst (v := (3 : Int32)) hx hb dX7_showFrom_50 (by decide) ?_
              obtain ⟨v51, b51, ev51, hf⟩ := rd_s hf
              refine my_iald hx hb hK hP 2 rfl b51 ev51 dX7_showFrom_51 ?_
              refine lv_iload_n hx hb dX7_showFrom_52 rfl (lv_at hl 1 rfl) ?_
              refine lv_iload_n hx hb dX7_showFrom_53 rfl (lv_at hl 2 rfl) ?_
              refine lv_iload hx hb dX7_showFrom_54 (lv_at hl 4 rfl) ?_
              refine lv_iload hx hb dX7_showFrom_56 (lv_at hl 3 rfl) ?_
              obtain ⟨r58, hr58, hf⟩ := bd_s hf
              refine my_Vi (WS2 := (wd_X7_showFrom cy o_t o_t_play o_t_lines o_t_truth o_t_glassTrack o_t_board o_t_otherBoard o_t_fog o_t_crowd o_t_deal x_play_w x_play_h x_play_hands x_play_rules x_play_pressRow x_play_leftFrom x_play_leftTo x_lines_waits x_lines_lostRow x_glassTrack_ready x_glassTrack_rows x_board_now x_presses)) ⟨hx, hb, hml, hown, hts⟩ (c_X4_taken l D cy t o_t_lines o_t_play x_play_w x_play_h x_play_hands x_play_pressRow x_play_leftFrom x_play_leftTo x_lines_waits x_lines_lostRow v51 l1 l2 l5 l4 hr58) (cwV 5 hts gX7_showFrom_X4_taken rfl rfl rfl ⟨rfl, hd_X4_taken⟩ ⟨Nat.le_of_ble_eq_true rfl, Nat.le_of_ble_eq_true rfl⟩) hK hE hP hD hS hA [6, 1, 3, 4, 5, 7, 8] 14 4 0 rfl rfl rfl rfl (by decide +kernel) rfl rfl hl.1 rfl (Nat.le_of_ble_eq_true rfl) dX7_showFrom_58 ⟨Nat.le_of_ble_eq_true rfl, Nat.le_of_ble_eq_true rfl⟩ (fun H locs hP hD hS => ?_)
              obtain ⟨w61, b61, ew61, hf⟩ := wrI_s hf
              refine my_iast (ws2 := (wd_X7_showFrom cy o_t o_t_play o_t_lines o_t_truth o_t_glassTrack o_t_board o_t_otherBoard o_t_fog o_t_crowd o_t_deal x_play_w x_play_h x_play_hands x_play_rules x_play_pressRow x_play_leftFrom x_play_leftTo x_lines_waits x_lines_lostRow x_glassTrack_ready x_glassTrack_rows x_board_now w61)) hx hb hK hP hD hS 13 rfl b61 ew61 rfl dX7_showFrom_61 (fun H locs hP hD hS => ?_)
              obtain ⟨v62, ev62, hf⟩ := nm_s hf
              refine lv_iinc (v := v62) (lv' := [(5, .int v62), (0, .ref (o_t 0)), (1, .int l1), (2, .int l2), (4, .int l4)]) hx hb dX7_showFrom_62 hl (k := 4) rfl (by rw [ev62]; rfl) (by decide) rfl (fun ls hl => ?_)
              refine lv_goto (tgt := 21) hx hb dX7_showFrom_65 (by decide) ?_
              exact ih21 _ _ _ _ _ _ _ _ _ _ hf hP hD hS (lv_sub hl [1, 2, 3, 4, 0] rfl)
        refine lv_iconst (v := (0 : Int32)) hx hb dX7_showFrom_18 (by decide) ?_
        refine lv_istore (lv' := [(5, .int (0 : Int32)), (0, .ref (o_t 0)), (1, .int l1), (2, .int l2), (4, .int l4)]) hx hb dX7_showFrom_19 hl (by decide) rfl (fun ls hl => ?_)
        exact h21 FU _ _ _ _ _ _ _ _ _ _ hf hP hD hS (lv_sub hl [1, 2, 3, 4, 0] rfl)
  refine lv_aload_n hx hb dX7_showFrom_0 rfl (lv_at hl 0 rfl) ?_
  refine lv_aload_n hx hb dX7_showFrom_1 rfl (lv_at hl 0 rfl) ?_
  refine va_get (D := D) (ci := 7) (v := .ref (o_t_glassTrack 0)) (C := RX7) (T := TX7) (N := 12) hx hb hts k1 hown hK hP 0 rfl rfl 3 (by decide) k0 (fun _ h9 => h9) rfl dX7_showFrom_2 ?_
  refine lv_iload_n hx hb dX7_showFrom_5 rfl (lv_at hl 3 rfl) ?_
  obtain ⟨r6, hr6, hf⟩ := bd_s hf
  refine my_Vv (WS2 := (wd_X7_showFrom cy o_t o_t_play o_t_lines o_t_truth o_t_glassTrack o_t_board o_t_otherBoard o_t_fog o_t_crowd o_t_deal x_play_w x_play_h x_play_hands x_play_rules x_play_pressRow x_play_leftFrom x_play_leftTo x_lines_waits x_lines_lostRow x_glassTrack_ready x_glassTrack_rows r6 x_presses)) ⟨hx, hb, hml, hown, hts⟩ (c_X7_setBoardAhead l D cy t o_t o_t_play o_t_lines o_t_truth o_t_glassTrack o_t_board o_t_otherBoard o_t_fog o_t_crowd o_t_deal o_t_glassTrack x_play_w x_play_h x_play_hands x_board_now x_glassTrack_ready x_glassTrack_rows p3 hr6) (cwV 2 hts gX7_showFrom_X7_setBoardAhead rfl rfl rfl ⟨rfl, hd_X7_setBoardAhead⟩ ⟨Nat.le_of_ble_eq_true rfl, Nat.le_of_ble_eq_true rfl⟩) hK hE hP hD hS hA [0, 1, 11, 12, 9, 10] 14 7 0 rfl rfl rfl rfl (by decide +kernel) rfl rfl hl.1 rfl (Nat.le_of_ble_eq_true rfl) dX7_showFrom_6 ⟨Nat.le_of_ble_eq_true rfl, Nat.le_of_ble_eq_true rfl⟩ (fun H locs hP hD hS => ?_)
  refine lv_iload_n hx hb dX7_showFrom_9 rfl (lv_at hl 3 rfl) ?_
  refine lv_istore (lv' := [(4, .int p3), (0, .ref (o_t 0)), (1, .int p1), (2, .int p2), (3, .int p3)]) hx hb dX7_showFrom_10 hl (by decide) rfl (fun ls hl => ?_)
  exact h12 FU _ _ _ _ _ _ _ _ _ hf hP hD hS (lv_sub hl [1, 2, 3, 0] rfl)
theorem hd_X7_showFrom : yX7_showFrom.cls ≠ "java/lang/invoke/MethodHandle" ∧ yX7_showFrom.cls ≠ "java/lang/invoke/VarHandle" ∧ (parseMethodDescriptor yX7_showFrom.desc).map (fun d => d.parameters.length) = some 3 := by decide +kernel
set_option maxRecDepth 100000 in
theorem c_X7_showFrom (l : Launch) (D : va_G) (cy : Nat → ClassId) (t : Nat → Nat) (o_t o_t_play o_t_lines o_t_truth o_t_glassTrack o_t_board o_t_otherBoard o_t_fog o_t_crowd o_t_deal : Nat → Nat) (x_play_w : Int32) (x_play_h : Int32) (x_play_hands : Int32) (x_play_rules : Nat → Int32) (x_play_pressRow : Nat → Int32) (x_play_leftFrom : Nat → Int32) (x_play_leftTo : Nat → Int32) (x_lines_waits : Nat → Int32) (x_lines_lostRow : Nat → Int32) (x_glassTrack_ready : Int32) (x_glassTrack_rows : Nat → Int32) (x_board_now : Nat → Int32) (x_presses : Nat → Int32) (p1 : Int32) (p2 : Int32) (p3 : Int32) {out : (Nat → Int32) × (Nat → Int32) × (Nat → Int32)} (hf : X7_showFrom x_play_w x_play_h x_play_hands x_play_rules x_play_pressRow x_play_leftFrom x_play_leftTo x_lines_waits x_lines_lostRow x_glassTrack_rows x_board_now x_presses p1 p2 p3 = some out) : ctV l yX7_showFrom wsX7_showFrom 5 118 D cy t [.ref (o_t 0), .int p1, .int p2, .int p3] (wd_X7_showFrom cy o_t o_t_play o_t_lines o_t_truth o_t_glassTrack o_t_board o_t_otherBoard o_t_fog o_t_crowd o_t_deal x_play_w x_play_h x_play_hands x_play_rules x_play_pressRow x_play_leftFrom x_play_leftTo x_lines_waits x_lines_lostRow x_glassTrack_ready x_glassTrack_rows x_board_now x_presses) (wd_X7_showFrom cy o_t o_t_play o_t_lines o_t_truth o_t_glassTrack o_t_board o_t_otherBoard o_t_fog o_t_crowd o_t_deal x_play_w x_play_h x_play_hands x_play_rules x_play_pressRow x_play_leftFrom x_play_leftTo x_lines_waits x_lines_lostRow x_glassTrack_ready out.1 out.2.1 out.2.2) := by
  refine ⟨rfl, ?_⟩
  intro sz
  refine Met.ofW (cc := cX7_showFrom) (maxL := 6) (ret := none) (by decide) rfl ?_
  intro p e s m args below meth c s₁ B hml hv
  obtain ⟨rfl, hsz, hP, hK, hD0, hE⟩ := hv
  have hts := atoms_spec (ws := wsX7_showFrom) B.pre
  have hown : s.vm.findClass RX7 = some m.cls := findClass_of_methodNamed B.named
  have hlocks := B.notSynchronized
  subst hsz
  have hD := hD0.self (sz := s.heap.size)
  have hl := lv_entry ([.ref (o_t 0), .int p1, .int p2, .int p3]) (n := 6) (Nat.le_of_ble_eq_true rfl)
  rw [lg_entry_eq]
  generalize (lg_sl ([.ref (o_t 0), .int p1, .int p2, .int p3]) ++ List.replicate (6 - (lg_sl ([.ref (o_t 0), .int p1, .int p2, .int p3])).length) Slot.unset).toArray = ls at hl ⊢
  exact w_X7_showFrom D cy t o_t o_t_play o_t_lines o_t_truth o_t_glassTrack o_t_board o_t_otherBoard o_t_fog o_t_crowd o_t_deal x_play_w x_play_h x_play_hands x_play_rules x_play_pressRow x_play_leftFrom x_play_leftTo x_lines_waits x_lines_lostRow x_glassTrack_ready x_glassTrack_rows x_board_now x_presses p1 p2 p3 hf B.exec B.bytes hml hown hts hK hE (fun q h => Or.inr h) hP hD va_S.rf hl (fun H locs ls pc hP hD hS hdg => W.vret B.exec B.bytes B.returns (fun t ht hW => ⟨⟨(), rfl, trivial, ctB_of ht hP⟩, hS.F ht⟩) hS.2.2 hdg)

noncomputable def X7_costOf_J53 (x_play_hands : Int32) (x_play_rules : Nat → Int32) (x_play_pressRow : Nat → Int32) (x_play_leftFrom : Nat → Int32) (x_play_leftTo : Nat → Int32) (x_lines_waits : Nat → Int32) (x_lines_lostRow : Nat → Int32) (l1 : Int32) (l2 : Int32) (l3 : Int32) : Option (Int32) :=
  rd x_play_rules 7 (4 : Int32) fun v61 => rd x_play_rules 7 (5 : Int32) fun v84 => some ((((v61 * l1) * x_play_hands) * (l2 + (1 : Int32))) + (v84 * l3))
noncomputable def X7_costOf_J47 (x_play_hands : Int32) (x_play_rules : Nat → Int32) (x_play_pressRow : Nat → Int32) (x_play_leftFrom : Nat → Int32) (x_play_leftTo : Nat → Int32) (x_lines_waits : Nat → Int32) (x_lines_lostRow : Nat → Int32) (rec5 : Int32 → Int32 → Int32 → Int32 → Option (Int32)) (l1 : Int32) (l2 : Int32) (l3 : Int32) (l4 : Int32) : Option (Int32) :=
  nm (l4 + (1 : Int32)) fun v47 => rec5  l1 l2 l3 v47
noncomputable def X7_costOf_L20_B (x_play_hands : Int32) (x_play_rules : Nat → Int32) (x_play_pressRow : Nat → Int32) (x_play_leftFrom : Nat → Int32) (x_play_leftTo : Nat → Int32) (x_lines_waits : Nat → Int32) (x_lines_lostRow : Nat → Int32) (rec5 : Int32 → Int32 → Int32 → Int32 → Option (Int32)) (rec20 : Int32 → Int32 → Int32 → Int32 → Int32 → Option (Int32)) (l1 : Int32) (l2 : Int32) (l3 : Int32) (l4 : Int32) (l5 : Int32) : Option (Int32) :=
  if l2 < l5 then (X7_costOf_J47 x_play_hands x_play_rules x_play_pressRow x_play_leftFrom x_play_leftTo x_lines_waits x_lines_lostRow rec5  l1 l2 l3 l4) else (bd (X4_goneBack x_play_hands x_play_pressRow x_play_leftFrom x_play_leftTo x_lines_waits x_lines_lostRow l1 l4 l5) fun r36 => nm (l3 + r36) fun v40 => nm (l5 + (1 : Int32)) fun v41 => rec20  l1 l2 v40 l4 v41)
noncomputable def X7_costOf_L20 (x_play_hands : Int32) (x_play_rules : Nat → Int32) (x_play_pressRow : Nat → Int32) (x_play_leftFrom : Nat → Int32) (x_play_leftTo : Nat → Int32) (x_lines_waits : Nat → Int32) (x_lines_lostRow : Nat → Int32) (rec5 : Int32 → Int32 → Int32 → Int32 → Option (Int32)) : Nat → Int32 → Int32 → Int32 → Int32 → Int32 → Option (Int32)
  | 0, _, _, _, _, _ => none
  | n + 1, y0, y1, y2, y3, y4 => X7_costOf_L20_B x_play_hands x_play_rules x_play_pressRow x_play_leftFrom x_play_leftTo x_lines_waits x_lines_lostRow rec5 (X7_costOf_L20 x_play_hands x_play_rules x_play_pressRow x_play_leftFrom x_play_leftTo x_lines_waits x_lines_lostRow rec5 n) y0 y1 y2 y3 y4
noncomputable def X7_costOf_L5_B (x_play_hands : Int32) (x_play_rules : Nat → Int32) (x_play_pressRow : Nat → Int32) (x_play_leftFrom : Nat → Int32) (x_play_leftTo : Nat → Int32) (x_lines_waits : Nat → Int32) (x_lines_lostRow : Nat → Int32) (rec5 : Int32 → Int32 → Int32 → Int32 → Option (Int32)) (l1 : Int32) (l2 : Int32) (l3 : Int32) (l4 : Int32) : Option (Int32) :=
  if x_play_hands ≤ l4 then (X7_costOf_J53 x_play_hands x_play_rules x_play_pressRow x_play_leftFrom x_play_leftTo x_lines_waits x_lines_lostRow   l1 l2 l3) else (X7_costOf_L20 x_play_hands x_play_rules x_play_pressRow x_play_leftFrom x_play_leftTo x_lines_waits x_lines_lostRow rec5 FU  l1 l2 l3 l4 (0 : Int32))
noncomputable def X7_costOf_L5 (x_play_hands : Int32) (x_play_rules : Nat → Int32) (x_play_pressRow : Nat → Int32) (x_play_leftFrom : Nat → Int32) (x_play_leftTo : Nat → Int32) (x_lines_waits : Nat → Int32) (x_lines_lostRow : Nat → Int32) : Nat → Int32 → Int32 → Int32 → Int32 → Option (Int32)
  | 0, _, _, _, _ => none
  | n + 1, y0, y1, y2, y3 => X7_costOf_L5_B x_play_hands x_play_rules x_play_pressRow x_play_leftFrom x_play_leftTo x_lines_waits x_lines_lostRow  (X7_costOf_L5 x_play_hands x_play_rules x_play_pressRow x_play_leftFrom x_play_leftTo x_lines_waits x_lines_lostRow  n) y0 y1 y2 y3
noncomputable def X7_costOf (x_play_hands : Int32) (x_play_rules : Nat → Int32) (x_play_pressRow : Nat → Int32) (x_play_leftFrom : Nat → Int32) (x_play_leftTo : Nat → Int32) (x_lines_waits : Nat → Int32) (x_lines_lostRow : Nat → Int32) (p1 : Int32) (p2 : Int32) : Option (Int32) :=
  X7_costOf_L5 x_play_hands x_play_rules x_play_pressRow x_play_leftFrom x_play_leftTo x_lines_waits x_lines_lostRow  FU  p1 p2 (0 : Int32) (0 : Int32)
abbrev wd_X7_costOf (cy : Nat → ClassId) (o_t o_t_play o_t_lines o_t_truth o_t_glassTrack o_t_board o_t_otherBoard o_t_fog o_t_crowd o_t_deal : Nat → Nat) (x_play_w : Int32) (x_play_h : Int32) (x_play_hands : Int32) (x_play_rules : Nat → Int32) (x_play_pressRow : Nat → Int32) (x_play_leftFrom : Nat → Int32) (x_play_leftTo : Nat → Int32) (x_lines_waits : Nat → Int32) (x_lines_lostRow : Nat → Int32) : va_W := [(o_t 0, .inr (7, [.ref (o_t_play 0), .ref (o_t_lines 0), .ref (o_t_truth 0), .ref (o_t_glassTrack 0), .ref (o_t_board 0), .ref (o_t_otherBoard 0), .ref (o_t 7), .ref (o_t_fog 0), .ref (o_t_crowd 0), .ref (o_t_deal 0), .ref (o_t 11), .ref (o_t 12)])), (o_t_play 0, .inr (5, [.int x_play_w, .int x_play_h, .int x_play_hands, .ref (o_t_play 4), .ref (o_t_play 5), .ref (o_t_play 6), .ref (o_t_play 7)])), (o_t_play 4, .inl (cy 0, 7, .inl x_play_rules)), (o_t_play 5, .inl (cy 0, 600, .inl x_play_pressRow)), (o_t_play 6, .inl (cy 0, 6, .inl x_play_leftFrom)), (o_t_play 7, .inl (cy 0, 6, .inl x_play_leftTo)), (o_t_lines 0, .inr (4, [.ref (o_t_play 0), .ref (o_t_lines 2), .ref (o_t_lines 3)])), (o_t_lines 2, .inl (cy 0, 36, .inl x_lines_waits)), (o_t_lines 3, .inl (cy 1, 600, .inl x_lines_lostRow))]
set_option maxHeartbeats 4000000 in
set_option maxRecDepth 100000 in
theorem w_X7_costOf {p : Program} {l : Launch} {e : Env} {s : State} {m : MethodId} {args : Array Value} {below : List Frame} {meth : Method} {c : Code} {Q : State → Prop} {A : Nat → Prop} {H : Heap} {locs : List Loc} {ls : Array Slot} (D : va_G) (cy : Nat → ClassId) (t : Nat → Nat) (o_t o_t_play o_t_lines o_t_truth o_t_glassTrack o_t_board o_t_otherBoard o_t_fog o_t_crowd o_t_deal : Nat → Nat) (x_play_w : Int32) (x_play_h : Int32) (x_play_hands : Int32) (x_play_rules : Nat → Int32) (x_play_pressRow : Nat → Int32) (x_play_leftFrom : Nat → Int32) (x_play_leftTo : Nat → Int32) (x_lines_waits : Nat → Int32) (x_lines_lostRow : Nat → Int32) (p1 : Int32) (p2 : Int32) {out : Int32} (hf : X7_costOf x_play_hands x_play_rules x_play_pressRow x_play_leftFrom x_play_leftTo x_lines_waits x_lines_lostRow p1 p2 = some out) (hx : p.tables.exec = Jvm.exec) (hb : c.code = cX7_costOf) (hml : c.maxLocals = 6) (hown : s.vm.findClass RX7 = some m.cls) (hts : ∀ w ∈ wsX7_costOf, w.before args s = true) (hK : va_K D vwCl (TYS cy) s) (hE : EV t A s s.heap) (hA : ∀ q, s.heap.size ≤ q → A q) (hP : va_P D vwCl (wd_X7_costOf cy o_t o_t_play o_t_lines o_t_truth o_t_glassTrack o_t_board o_t_otherBoard o_t_fog o_t_crowd o_t_deal x_play_w x_play_h x_play_hands x_play_rules x_play_pressRow x_play_leftFrom x_play_leftTo x_lines_waits x_lines_lostRow) H) (hD : va_D A (wd_X7_costOf cy o_t o_t_play o_t_lines o_t_truth o_t_glassTrack o_t_board o_t_otherBoard o_t_fog o_t_crowd o_t_deal x_play_w x_play_h x_play_hands x_play_rules x_play_pressRow x_play_leftFrom x_play_leftTo x_lines_waits x_lines_lostRow)) (hS : va_S A s.heap H locs) (hl : lv_has ls 6 [(0, .ref (o_t 0)), (1, .int p1), (2, .int p2)]) (hR : ∀ (H : Heap) (locs : List Loc) (ls : Array Slot) (pc : Nat), va_P D vwCl (wd_X7_costOf cy o_t o_t_play o_t_lines o_t_truth o_t_glassTrack o_t_board o_t_otherBoard o_t_fog o_t_crowd o_t_deal x_play_w x_play_h x_play_hands x_play_rules x_play_pressRow x_play_leftFrom x_play_leftTo x_lines_waits x_lines_lostRow) H → va_D A (wd_X7_costOf cy o_t o_t_play o_t_lines o_t_truth o_t_glassTrack o_t_board o_t_otherBoard o_t_fog o_t_crowd o_t_deal x_play_w x_play_h x_play_hands x_play_rules x_play_pressRow x_play_leftFrom x_play_leftTo x_lines_waits x_lines_lostRow) → va_S A s.heap H locs → decode cX7_costOf pc = .ok (.ireturn, 1) → W p l e (rmm 5 130) s m args below meth c H locs 0 0 Q (F0 m pc ls [.int out])) : W p l e (rmm 5 130) s m args below meth c H locs 0 0 Q (F0 m 0 ls []) := by
  have k0 := hts (.fieldLink RX7 10 "SeaGames" "play" "LSeaGames$Play;") (List.mem_cons_of_mem _ (List.mem_append_left _ (List.mem_append_left _ (List.mem_append_left _ (List.mem_append_left _ (List.mem_of_getElem? (i := 0) rfl))))))
  have k1 : ∀ w ∈ u_ws RX7 TX7 12, w ∈ wsX7_costOf := fun _ h => List.mem_cons_of_mem _ (List.mem_append_left _ (List.mem_append_left _ (List.mem_append_right _ h)))
  have k2 := hts (.fieldLink RX7 123 "SeaGames$Play" "hands" "I") (List.mem_cons_of_mem _ (List.mem_append_left _ (List.mem_append_left _ (List.mem_append_left _ (List.mem_append_left _ (List.mem_of_getElem? (i := 1) rfl))))))
  have k3 : ∀ w ∈ u_ws RX5 TX5 7, w ∈ wsX7_costOf := fun _ h => List.mem_cons_of_mem _ (List.mem_append_left _ (List.mem_append_right _ h))
  have k4 := hts (.fieldLink RX7 98 "SeaGames$Play" "rules" "[I") (List.mem_cons_of_mem _ (List.mem_append_left _ (List.mem_append_left _ (List.mem_append_left _ (List.mem_append_left _ (List.mem_of_getElem? (i := 3) rfl))))))
  have k5 := hts (.fieldLink RX7 21 "SeaGames" "lines" "LSeaGames$Lines;") (List.mem_cons_of_mem _ (List.mem_append_left _ (List.mem_append_left _ (List.mem_append_left _ (List.mem_append_left _ (List.mem_of_getElem? (i := 2) rfl))))))
  rw [X7_costOf] at hf
  have h5 : ∀ (n5 : Nat) (l1 : Int32) (l2 : Int32) (l3 : Int32) (l4 : Int32) (H : Heap) (locs : List Loc) (ls : Array Slot), X7_costOf_L5 x_play_hands x_play_rules x_play_pressRow x_play_leftFrom x_play_leftTo x_lines_waits x_lines_lostRow n5 l1 l2 l3 l4 = some out → va_P D vwCl (wd_X7_costOf cy o_t o_t_play o_t_lines o_t_truth o_t_glassTrack o_t_board o_t_otherBoard o_t_fog o_t_crowd o_t_deal x_play_w x_play_h x_play_hands x_play_rules x_play_pressRow x_play_leftFrom x_play_leftTo x_lines_waits x_lines_lostRow) H → va_D A (wd_X7_costOf cy o_t o_t_play o_t_lines o_t_truth o_t_glassTrack o_t_board o_t_otherBoard o_t_fog o_t_crowd o_t_deal x_play_w x_play_h x_play_hands x_play_rules x_play_pressRow x_play_leftFrom x_play_leftTo x_lines_waits x_lines_lostRow) → va_S A s.heap H locs → lv_has ls 6 [(0, .ref (o_t 0)), (1, .int l1), (2, .int l2), (3, .int l3), (4, .int l4)] → W p l e (rmm 5 130) s m args below meth c H locs 0 0 Q (F0 m 5 ls []) := by
    intro n5
    induction n5 with
    | zero =>
      intro _ _ _ _ _ _ _ hf
      exact nomatch (show (none : Option _) = some out from hf)
    | succ n5 ih5 =>
      intro l1 l2 l3 l4 H locs ls hf hP hD hS hl
      have hf : X7_costOf_L5_B x_play_hands x_play_rules x_play_pressRow x_play_leftFrom x_play_leftTo x_lines_waits x_lines_lostRow (X7_costOf_L5 x_play_hands x_play_rules x_play_pressRow x_play_leftFrom x_play_leftTo x_lines_waits x_lines_lostRow n5) l1 l2 l3 l4 = some out := hf
      rw [X7_costOf_L5_B] at hf
      have h53 : ∀ (l1 : Int32) (l2 : Int32) (l3 : Int32) (H : Heap) (locs : List Loc) (ls : Array Slot), X7_costOf_J53 x_play_hands x_play_rules x_play_pressRow x_play_leftFrom x_play_leftTo x_lines_waits x_lines_lostRow l1 l2 l3 = some out → va_P D vwCl (wd_X7_costOf cy o_t o_t_play o_t_lines o_t_truth o_t_glassTrack o_t_board o_t_otherBoard o_t_fog o_t_crowd o_t_deal x_play_w x_play_h x_play_hands x_play_rules x_play_pressRow x_play_leftFrom x_play_leftTo x_lines_waits x_lines_lostRow) H → va_D A (wd_X7_costOf cy o_t o_t_play o_t_lines o_t_truth o_t_glassTrack o_t_board o_t_otherBoard o_t_fog o_t_crowd o_t_deal x_play_w x_play_h x_play_hands x_play_rules x_play_pressRow x_play_leftFrom x_play_leftTo x_lines_waits x_lines_lostRow) → va_S A s.heap H locs → lv_has ls 6 [(0, .ref (o_t 0)), (1, .int l1), (2, .int l2), (3, .int l3)] → W p l e (rmm 5 130) s m args below meth c H locs 0 0 Q (F0 m 53 ls []) := by
        intro l1 l2 l3 H locs ls hf hP hD hS hl
        rw [X7_costOf_J53] at hf
        refine lv_aload_n hx hb dX7_costOf_53 rfl (lv_at hl 0 rfl) ?_
        refine va_get (D := D) (ci := 7) (v := .ref (o_t_play 0)) (C := RX7) (T := TX7) (N := 12) hx hb hts k1 hown hK hP 0 rfl rfl 0 (by decide) k0 (fun _ h9 => h9) rfl dX7_costOf_54 ?_
        refine va_get (D := D) (ci := 5) (v := .ref (o_t_play 4)) (C := RX5) (T := TX5) (N := 7) hx hb hts k3 hown hK hP 1 rfl rfl 3 (by decide) k4 (fun _ h9 => h9) rfl dX7_costOf_57 ?_
        refine lv_iconst (v := (4 : Int32)) hx hb dX7_costOf_60 (by decide) ?_
        obtain ⟨v61, b61, ev61, hf⟩ := rd_s hf
        refine my_iald hx hb hK hP 2 rfl b61 ev61 dX7_costOf_61 ?_
        refine lv_iload_n hx hb dX7_costOf_62 rfl (lv_at hl 1 rfl) ?_
        refine lv_imul hx hb dX7_costOf_63 ?_
        refine lv_aload_n hx hb dX7_costOf_64 rfl (lv_at hl 0 rfl) ?_
        refine va_get (D := D) (ci := 7) (v := .ref (o_t_play 0)) (C := RX7) (T := TX7) (N := 12) hx hb hts k1 hown hK hP 0 rfl rfl 0 (by decide) k0 (fun _ h9 => h9) rfl dX7_costOf_65 ?_
        refine va_get (D := D) (ci := 5) (v := .int x_play_hands) (C := RX5) (T := TX5) (N := 7) hx hb hts k3 hown hK hP 1 rfl rfl 2 (by decide) k2 (fun _ h9 => h9) rfl dX7_costOf_68 ?_
        refine lv_imul hx hb dX7_costOf_71 ?_
        refine lv_iload_n hx hb dX7_costOf_72 rfl (lv_at hl 2 rfl) ?_
        refine lv_iconst (v := (1 : Int32)) hx hb dX7_costOf_73 (by decide) ?_
        refine lv_iadd hx hb dX7_costOf_74 ?_
        refine lv_imul hx hb dX7_costOf_75 ?_
        refine lv_aload_n hx hb dX7_costOf_76 rfl (lv_at hl 0 rfl) ?_
        refine va_get (D := D) (ci := 7) (v := .ref (o_t_play 0)) (C := RX7) (T := TX7) (N := 12) hx hb hts k1 hown hK hP 0 rfl rfl 0 (by decide) k0 (fun _ h9 => h9) rfl dX7_costOf_77 ?_
        refine va_get (D := D) (ci := 5) (v := .ref (o_t_play 4)) (C := RX5) (T := TX5) (N := 7) hx hb hts k3 hown hK hP 1 rfl rfl 3 (by decide) k4 (fun _ h9 => h9) rfl dX7_costOf_80 ?_
        refine lv_iconst (v := (5 : Int32)) hx hb dX7_costOf_83 (by decide) ?_
        obtain ⟨v84, b84, ev84, hf⟩ := rd_s hf
        refine my_iald hx hb hK hP 2 rfl b84 ev84 dX7_costOf_84 ?_
        refine lv_iload_n hx hb dX7_costOf_85 rfl (lv_at hl 3 rfl) ?_
        refine lv_imul hx hb dX7_costOf_86 ?_
        refine lv_iadd hx hb dX7_costOf_87 ?_
        obtain rfl := Option.some.inj hf
        exact hR _ _ _ _ hP hD hS dX7_costOf_88
      refine lv_iload hx hb dX7_costOf_5 (lv_at hl 4 rfl) ?_
      refine lv_aload_n hx hb dX7_costOf_7 rfl (lv_at hl 0 rfl) ?_
      refine va_get (D := D) (ci := 7) (v := .ref (o_t_play 0)) (C := RX7) (T := TX7) (N := 12) hx hb hts k1 hown hK hP 0 rfl rfl 0 (by decide) k0 (fun _ h9 => h9) rfl dX7_costOf_8 ?_
      refine va_get (D := D) (ci := 5) (v := .int x_play_hands) (C := RX5) (T := TX5) (N := 7) hx hb hts k3 hown hK hP 1 rfl rfl 2 (by decide) k2 (fun _ h9 => h9) rfl dX7_costOf_11 ?_
      refine lv_icmp_ge (tgt := 53) hx hb dX7_costOf_14 (by decide) (fun c14 => ?_) (fun c14 => ?_)
      · have hf := ifp c14 hf
        exact h53 _ _ _ _ _ _ hf hP hD hS (lv_sub hl [0, 1, 2, 3] rfl)
      · have hf := ifn c14 hf
        have h20 : ∀ (n20 : Nat) (l1 : Int32) (l2 : Int32) (l3 : Int32) (l4 : Int32) (l5 : Int32) (H : Heap) (locs : List Loc) (ls : Array Slot), X7_costOf_L20 x_play_hands x_play_rules x_play_pressRow x_play_leftFrom x_play_leftTo x_lines_waits x_lines_lostRow (X7_costOf_L5 x_play_hands x_play_rules x_play_pressRow x_play_leftFrom x_play_leftTo x_lines_waits x_lines_lostRow n5) n20 l1 l2 l3 l4 l5 = some out → va_P D vwCl (wd_X7_costOf cy o_t o_t_play o_t_lines o_t_truth o_t_glassTrack o_t_board o_t_otherBoard o_t_fog o_t_crowd o_t_deal x_play_w x_play_h x_play_hands x_play_rules x_play_pressRow x_play_leftFrom x_play_leftTo x_lines_waits x_lines_lostRow) H → va_D A (wd_X7_costOf cy o_t o_t_play o_t_lines o_t_truth o_t_glassTrack o_t_board o_t_otherBoard o_t_fog o_t_crowd o_t_deal x_play_w x_play_h x_play_hands x_play_rules x_play_pressRow x_play_leftFrom x_play_leftTo x_lines_waits x_lines_lostRow) → va_S A s.heap H locs → lv_has ls 6 [(0, .ref (o_t 0)), (1, .int l1), (2, .int l2), (3, .int l3), (4, .int l4), (5, .int l5)] → W p l e (rmm 5 130) s m args below meth c H locs 0 0 Q (F0 m 20 ls []) := by
          intro n20
          induction n20 with
          | zero =>
            intro _ _ _ _ _ _ _ _ hf
            exact nomatch (show (none : Option _) = some out from hf)
          | succ n20 ih20 =>
            intro l1 l2 l3 l4 l5 H locs ls hf hP hD hS hl
            have hf : X7_costOf_L20_B x_play_hands x_play_rules x_play_pressRow x_play_leftFrom x_play_leftTo x_lines_waits x_lines_lostRow (X7_costOf_L5 x_play_hands x_play_rules x_play_pressRow x_play_leftFrom x_play_leftTo x_lines_waits x_lines_lostRow n5) (X7_costOf_L20 x_play_hands x_play_rules x_play_pressRow x_play_leftFrom x_play_leftTo x_lines_waits x_lines_lostRow (X7_costOf_L5 x_play_hands x_play_rules x_play_pressRow x_play_leftFrom x_play_leftTo x_lines_waits x_lines_lostRow n5) n20) l1 l2 l3 l4 l5 = some out := hf
            rw [X7_costOf_L20_B] at hf
            have h47 : ∀ (l1 : Int32) (l2 : Int32) (l3 : Int32) (l4 : Int32) (H : Heap) (locs : List Loc) (ls : Array Slot), X7_costOf_J47 x_play_hands x_play_rules x_play_pressRow x_play_leftFrom x_play_leftTo x_lines_waits x_lines_lostRow (X7_costOf_L5 x_play_hands x_play_rules x_play_pressRow x_play_leftFrom x_play_leftTo x_lines_waits x_lines_lostRow n5) l1 l2 l3 l4 = some out → va_P D vwCl (wd_X7_costOf cy o_t o_t_play o_t_lines o_t_truth o_t_glassTrack o_t_board o_t_otherBoard o_t_fog o_t_crowd o_t_deal x_play_w x_play_h x_play_hands x_play_rules x_play_pressRow x_play_leftFrom x_play_leftTo x_lines_waits x_lines_lostRow) H → va_D A (wd_X7_costOf cy o_t o_t_play o_t_lines o_t_truth o_t_glassTrack o_t_board o_t_otherBoard o_t_fog o_t_crowd o_t_deal x_play_w x_play_h x_play_hands x_play_rules x_play_pressRow x_play_leftFrom x_play_leftTo x_lines_waits x_lines_lostRow) → va_S A s.heap H locs → lv_has ls 6 [(0, .ref (o_t 0)), (1, .int l1), (2, .int l2), (3, .int l3), (4, .int l4)] → W p l e (rmm 5 130) s m args below meth c H locs 0 0 Q (F0 m 47 ls []) := by
              intro l1 l2 l3 l4 H locs ls hf hP hD hS hl
              rw [X7_costOf_J47] at hf
              obtain ⟨v47, ev47, hf⟩ := nm_s hf
              refine lv_iinc (v := v47) (lv' := [(4, .int v47), (0, .ref (o_t 0)), (1, .int l1), (2, .int l2), (3, .int l3)]) hx hb dX7_costOf_47 hl (k := 4) rfl (by rw [ev47]; rfl) (by decide) rfl (fun ls hl => ?_)
              refine lv_goto (tgt := 5) hx hb dX7_costOf_50 (by decide) ?_
              exact ih5 _ _ _ _ _ _ _ hf hP hD hS (lv_sub hl [1, 2, 3, 4, 0] rfl)
            refine lv_iload hx hb dX7_costOf_20 (lv_at hl 5 rfl) ?_
            refine lv_iload_n hx hb dX7_costOf_22 rfl (lv_at hl 2 rfl) ?_
            refine lv_icmp_gt (tgt := 47) hx hb dX7_costOf_23 (by decide) (fun c23 => ?_) (fun c23 => ?_)
            · have hf := ifp c23 hf
              exact h47 _ _ _ _ _ _ _ hf hP hD hS (lv_sub hl [0, 1, 2, 3, 4] rfl)
            · have hf := ifn c23 hf
              refine lv_iload_n hx hb dX7_costOf_26 rfl (lv_at hl 3 rfl) ?_
              refine lv_aload_n hx hb dX7_costOf_27 rfl (lv_at hl 0 rfl) ?_
              refine va_get (D := D) (ci := 7) (v := .ref (o_t_lines 0)) (C := RX7) (T := TX7) (N := 12) hx hb hts k1 hown hK hP 0 rfl rfl 1 (by decide) k5 (fun _ h9 => h9) rfl dX7_costOf_28 ?_
              refine lv_iload_n hx hb dX7_costOf_31 rfl (lv_at hl 1 rfl) ?_
              refine lv_iload hx hb dX7_costOf_32 (lv_at hl 4 rfl) ?_
              refine lv_iload hx hb dX7_costOf_34 (lv_at hl 5 rfl) ?_
              obtain ⟨r36, hr36, hf⟩ := bd_s hf
              refine my_Vi (WS2 := (wd_X7_costOf cy o_t o_t_play o_t_lines o_t_truth o_t_glassTrack o_t_board o_t_otherBoard o_t_fog o_t_crowd o_t_deal x_play_w x_play_h x_play_hands x_play_rules x_play_pressRow x_play_leftFrom x_play_leftTo x_lines_waits x_lines_lostRow)) ⟨hx, hb, hml, hown, hts⟩ (c_X4_goneBack l D cy t o_t_lines o_t_play x_play_w x_play_h x_play_hands x_play_pressRow x_play_leftFrom x_play_leftTo x_lines_waits x_lines_lostRow l1 l4 l5 hr36) (cwV 3 hts gX7_costOf_X4_goneBack rfl rfl rfl ⟨rfl, hd_X4_goneBack⟩ ⟨Nat.le_of_ble_eq_true rfl, Nat.le_of_ble_eq_true rfl⟩) hK hE hP hD hS hA [6, 1, 3, 4, 5, 7, 8] 9 4 0 rfl rfl rfl rfl (by decide +kernel) rfl rfl hl.1 rfl (Nat.le_of_ble_eq_true rfl) dX7_costOf_36 ⟨Nat.le_of_ble_eq_true rfl, Nat.le_of_ble_eq_true rfl⟩ (fun H locs hP hD hS => ?_)
              refine lv_iadd hx hb dX7_costOf_39 ?_
              obtain ⟨v40, ev40, hf⟩ := nm_s hf
              refine my_topi ev40 ?_
              refine lv_istore_n (lv' := [(3, .int v40), (0, .ref (o_t 0)), (1, .int l1), (2, .int l2), (4, .int l4), (5, .int l5)]) hx hb dX7_costOf_40 rfl hl (by decide) rfl (fun ls hl => ?_)
              obtain ⟨v41, ev41, hf⟩ := nm_s hf
              refine lv_iinc (v := v41) (lv' := [(5, .int v41), (3, .int v40), (0, .ref (o_t 0)), (1, .int l1), (2, .int l2), (4, .int l4)]) hx hb dX7_costOf_41 hl (k := 5) rfl (by rw [ev41]; rfl) (by decide) rfl (fun ls hl => ?_)
              refine lv_goto (tgt := 20) hx hb dX7_costOf_44 (by decide) ?_
              exact ih20 _ _ _ _ _ _ _ _ hf hP hD hS (lv_sub hl [2, 3, 4, 1, 5, 0] rfl)
        refine lv_iconst (v := (0 : Int32)) hx hb dX7_costOf_17 (by decide) ?_
        refine lv_istore (lv' := [(5, .int (0 : Int32)), (0, .ref (o_t 0)), (1, .int l1), (2, .int l2), (3, .int l3), (4, .int l4)]) hx hb dX7_costOf_18 hl (by decide) rfl (fun ls hl => ?_)
        exact h20 FU _ _ _ _ _ _ _ _ hf hP hD hS (lv_sub hl [1, 2, 3, 4, 5, 0] rfl)
  refine lv_iconst (v := (0 : Int32)) hx hb dX7_costOf_0 (by decide) ?_
  refine lv_istore_n (lv' := [(3, .int (0 : Int32)), (0, .ref (o_t 0)), (1, .int p1), (2, .int p2)]) hx hb dX7_costOf_1 rfl hl (by decide) rfl (fun ls hl => ?_)
  refine lv_iconst (v := (0 : Int32)) hx hb dX7_costOf_2 (by decide) ?_
  refine lv_istore (lv' := [(4, .int (0 : Int32)), (3, .int (0 : Int32)), (0, .ref (o_t 0)), (1, .int p1), (2, .int p2)]) hx hb dX7_costOf_3 hl (by decide) rfl (fun ls hl => ?_)
  exact h5 FU _ _ _ _ _ _ _ hf hP hD hS (lv_sub hl [2, 3, 4, 1, 0] rfl)
theorem hd_X7_costOf : yX7_costOf.cls ≠ "java/lang/invoke/MethodHandle" ∧ yX7_costOf.cls ≠ "java/lang/invoke/VarHandle" ∧ (parseMethodDescriptor yX7_costOf.desc).map (fun d => d.parameters.length) = some 2 := by decide +kernel
set_option maxRecDepth 100000 in
theorem c_X7_costOf (l : Launch) (D : va_G) (cy : Nat → ClassId) (t : Nat → Nat) (o_t o_t_play o_t_lines o_t_truth o_t_glassTrack o_t_board o_t_otherBoard o_t_fog o_t_crowd o_t_deal : Nat → Nat) (x_play_w : Int32) (x_play_h : Int32) (x_play_hands : Int32) (x_play_rules : Nat → Int32) (x_play_pressRow : Nat → Int32) (x_play_leftFrom : Nat → Int32) (x_play_leftTo : Nat → Int32) (x_lines_waits : Nat → Int32) (x_lines_lostRow : Nat → Int32) (p1 : Int32) (p2 : Int32) {out : Int32} (hf : X7_costOf x_play_hands x_play_rules x_play_pressRow x_play_leftFrom x_play_leftTo x_lines_waits x_lines_lostRow p1 p2 = some out) : ctI l yX7_costOf wsX7_costOf 5 130 D cy t [.ref (o_t 0), .int p1, .int p2] (wd_X7_costOf cy o_t o_t_play o_t_lines o_t_truth o_t_glassTrack o_t_board o_t_otherBoard o_t_fog o_t_crowd o_t_deal x_play_w x_play_h x_play_hands x_play_rules x_play_pressRow x_play_leftFrom x_play_leftTo x_lines_waits x_lines_lostRow) (wd_X7_costOf cy o_t o_t_play o_t_lines o_t_truth o_t_glassTrack o_t_board o_t_otherBoard o_t_fog o_t_crowd o_t_deal x_play_w x_play_h x_play_hands x_play_rules x_play_pressRow x_play_leftFrom x_play_leftTo x_lines_waits x_lines_lostRow) out := by
  refine ⟨rfl, ?_⟩
  intro sz
  refine Met.ofW (cc := cX7_costOf) (maxL := 6) (ret := (some .int)) (by decide) rfl ?_
  intro p e s m args below meth c s₁ B hml hv
  obtain ⟨rfl, hsz, hP, hK, hD0, hE⟩ := hv
  have hts := atoms_spec (ws := wsX7_costOf) B.pre
  have hown : s.vm.findClass RX7 = some m.cls := findClass_of_methodNamed B.named
  have hlocks := B.notSynchronized
  subst hsz
  have hD := hD0.self (sz := s.heap.size)
  have hl := lv_entry ([.ref (o_t 0), .int p1, .int p2]) (n := 6) (Nat.le_of_ble_eq_true rfl)
  rw [lg_entry_eq]
  generalize (lg_sl ([.ref (o_t 0), .int p1, .int p2]) ++ List.replicate (6 - (lg_sl ([.ref (o_t 0), .int p1, .int p2])).length) Slot.unset).toArray = ls at hl ⊢
  exact w_X7_costOf D cy t o_t o_t_play o_t_lines o_t_truth o_t_glassTrack o_t_board o_t_otherBoard o_t_fog o_t_crowd o_t_deal x_play_w x_play_h x_play_hands x_play_rules x_play_pressRow x_play_leftFrom x_play_leftTo x_lines_waits x_lines_lostRow p1 p2 hf B.exec B.bytes hml hown hts hK hE (fun q h => Or.inr h) hP hD va_S.rf hl (fun H locs ls pc hP hD hS hdg => W.iret B.exec B.bytes B.returns (fun t ht hW => ⟨⟨_, (), rfl, rfl, ctB_of ht hP⟩, hS.F ht⟩) hS.2.2 hdg)

noncomputable def X7_seesThen (x_play_rules : Nat → Int32) (x_truth_rows : Nat → Int32) (p1 : Int32) (p2 : Int32) (p3 : Int32) : Option (Int32) :=
  bd (X6_at x_truth_rows p3 p1) fun r6 => bd (X6_at x_truth_rows p3 p2) fun r15 => bd (X7_distance r6 r15) fun r18 => rd x_play_rules 7 (6 : Int32) fun v30 => if v30 < r18 then (zb (0 : Int32) <| some (0 : Int32)) else (zb (1 : Int32) <| some (1 : Int32))
abbrev wd_X7_seesThen (cy : Nat → ClassId) (o_t o_t_play o_t_lines o_t_truth o_t_glassTrack o_t_board o_t_otherBoard o_t_fog o_t_crowd o_t_deal : Nat → Nat) (x_play_w : Int32) (x_play_h : Int32) (x_play_hands : Int32) (x_play_rules : Nat → Int32) (x_truth_ready : Int32) (x_truth_rows : Nat → Int32) : va_W := [(o_t 0, .inr (7, [.ref (o_t_play 0), .ref (o_t_lines 0), .ref (o_t_truth 0), .ref (o_t_glassTrack 0), .ref (o_t_board 0), .ref (o_t_otherBoard 0), .ref (o_t 7), .ref (o_t_fog 0), .ref (o_t_crowd 0), .ref (o_t_deal 0), .ref (o_t 11), .ref (o_t 12)])), (o_t_play 0, .inr (5, [.int x_play_w, .int x_play_h, .int x_play_hands, .ref (o_t_play 4), .ref (o_t_play 5), .ref (o_t_play 6), .ref (o_t_play 7)])), (o_t_play 4, .inl (cy 0, 7, .inl x_play_rules)), (o_t_truth 0, .inr (6, [.ref (o_t_truth 1), .int x_truth_ready])), (o_t_truth 1, .inl (cy 0, 1300, .inl x_truth_rows))]
set_option maxHeartbeats 4000000 in
set_option maxRecDepth 100000 in
theorem w_X7_seesThen {p : Program} {l : Launch} {e : Env} {s : State} {m : MethodId} {args : Array Value} {below : List Frame} {meth : Method} {c : Code} {Q : State → Prop} {A : Nat → Prop} {H : Heap} {locs : List Loc} {ls : Array Slot} (D : va_G) (cy : Nat → ClassId) (t : Nat → Nat) (o_t o_t_play o_t_lines o_t_truth o_t_glassTrack o_t_board o_t_otherBoard o_t_fog o_t_crowd o_t_deal : Nat → Nat) (x_play_w : Int32) (x_play_h : Int32) (x_play_hands : Int32) (x_play_rules : Nat → Int32) (x_truth_ready : Int32) (x_truth_rows : Nat → Int32) (p1 : Int32) (p2 : Int32) (p3 : Int32) {out : Int32} (hf : X7_seesThen x_play_rules x_truth_rows p1 p2 p3 = some out) (hx : p.tables.exec = Jvm.exec) (hb : c.code = cX7_seesThen) (hml : c.maxLocals = 4) (hown : s.vm.findClass RX7 = some m.cls) (hts : ∀ w ∈ wsX7_seesThen, w.before args s = true) (hK : va_K D vwCl (TYS cy) s) (hE : EV t A s s.heap) (hA : ∀ q, s.heap.size ≤ q → A q) (hP : va_P D vwCl (wd_X7_seesThen cy o_t o_t_play o_t_lines o_t_truth o_t_glassTrack o_t_board o_t_otherBoard o_t_fog o_t_crowd o_t_deal x_play_w x_play_h x_play_hands x_play_rules x_truth_ready x_truth_rows) H) (hD : va_D A (wd_X7_seesThen cy o_t o_t_play o_t_lines o_t_truth o_t_glassTrack o_t_board o_t_otherBoard o_t_fog o_t_crowd o_t_deal x_play_w x_play_h x_play_hands x_play_rules x_truth_ready x_truth_rows)) (hS : va_S A s.heap H locs) (hl : lv_has ls 4 [(0, .ref (o_t 0)), (1, .int p1), (2, .int p2), (3, .int p3)]) (hR : ∀ (H : Heap) (locs : List Loc) (ls : Array Slot) (pc : Nat), va_P D vwCl (wd_X7_seesThen cy o_t o_t_play o_t_lines o_t_truth o_t_glassTrack o_t_board o_t_otherBoard o_t_fog o_t_crowd o_t_deal x_play_w x_play_h x_play_hands x_play_rules x_truth_ready x_truth_rows) H → va_D A (wd_X7_seesThen cy o_t o_t_play o_t_lines o_t_truth o_t_glassTrack o_t_board o_t_otherBoard o_t_fog o_t_crowd o_t_deal x_play_w x_play_h x_play_hands x_play_rules x_truth_ready x_truth_rows) → va_S A s.heap H locs → narrow .boolean (.int out) = .int out → decode cX7_seesThen pc = .ok (.ireturn, 1) → W p l e (rmm 2 42) s m args below meth c H locs 0 0 Q (F0 m pc ls [.int out])) : W p l e (rmm 2 42) s m args below meth c H locs 0 0 Q (F0 m 0 ls []) := by
  have k0 := hts (.fieldLink RX7 28 "SeaGames" "truth" "LSeaGames$Track;") (List.mem_cons_of_mem _ (List.mem_append_left _ (List.mem_append_left _ (List.mem_append_left _ (List.mem_of_getElem? (i := 0) rfl)))))
  have k1 : ∀ w ∈ u_ws RX7 TX7 12, w ∈ wsX7_seesThen := fun _ h => List.mem_cons_of_mem _ (List.mem_append_left _ (List.mem_append_left _ (List.mem_append_right _ h)))
  have k2 := hts (.fieldLink RX7 10 "SeaGames" "play" "LSeaGames$Play;") (List.mem_cons_of_mem _ (List.mem_append_left _ (List.mem_append_left _ (List.mem_append_left _ (List.mem_of_getElem? (i := 1) rfl)))))
  have k3 := hts (.fieldLink RX7 98 "SeaGames$Play" "rules" "[I") (List.mem_cons_of_mem _ (List.mem_append_left _ (List.mem_append_left _ (List.mem_append_left _ (List.mem_of_getElem? (i := 2) rfl)))))
  have k4 : ∀ w ∈ u_ws RX5 TX5 7, w ∈ wsX7_seesThen := fun _ h => List.mem_cons_of_mem _ (List.mem_append_left _ (List.mem_append_right _ h))
  rw [X7_seesThen] at hf
  refine lv_aload_n hx hb dX7_seesThen_0 rfl (lv_at hl 0 rfl) ?_
  refine va_get (D := D) (ci := 7) (v := .ref (o_t_truth 0)) (C := RX7) (T := TX7) (N := 12) hx hb hts k1 hown hK hP 0 rfl rfl 2 (by decide) k0 (fun _ h9 => h9) rfl dX7_seesThen_1 ?_
  refine lv_iload_n hx hb dX7_seesThen_4 rfl (lv_at hl 3 rfl) ?_
  refine lv_iload_n hx hb dX7_seesThen_5 rfl (lv_at hl 1 rfl) ?_
  obtain ⟨r6, hr6, hf⟩ := bd_s hf
  refine my_Vi (WS2 := (wd_X7_seesThen cy o_t o_t_play o_t_lines o_t_truth o_t_glassTrack o_t_board o_t_otherBoard o_t_fog o_t_crowd o_t_deal x_play_w x_play_h x_play_hands x_play_rules x_truth_ready x_truth_rows)) ⟨hx, hb, hml, hown, hts⟩ (c_X6_at l D cy t o_t_truth x_truth_ready x_truth_rows p3 p1 hr6) (cwV 2 hts gX7_seesThen_X6_at rfl rfl rfl ⟨rfl, hd_X6_at⟩ ⟨Nat.le_of_ble_eq_true rfl, Nat.le_of_ble_eq_true rfl⟩) hK hE hP hD hS hA [3, 4] 5 6 0 rfl rfl rfl rfl (by decide +kernel) rfl rfl hl.1 rfl (Nat.le_of_ble_eq_true rfl) dX7_seesThen_6 ⟨Nat.le_of_ble_eq_true rfl, Nat.le_of_ble_eq_true rfl⟩ (fun H locs hP hD hS => ?_)
  refine lv_aload_n hx hb dX7_seesThen_9 rfl (lv_at hl 0 rfl) ?_
  refine va_get (D := D) (ci := 7) (v := .ref (o_t_truth 0)) (C := RX7) (T := TX7) (N := 12) hx hb hts k1 hown hK hP 0 rfl rfl 2 (by decide) k0 (fun _ h9 => h9) rfl dX7_seesThen_10 ?_
  refine lv_iload_n hx hb dX7_seesThen_13 rfl (lv_at hl 3 rfl) ?_
  refine lv_iload_n hx hb dX7_seesThen_14 rfl (lv_at hl 2 rfl) ?_
  obtain ⟨r15, hr15, hf⟩ := bd_s hf
  refine my_Vi (WS2 := (wd_X7_seesThen cy o_t o_t_play o_t_lines o_t_truth o_t_glassTrack o_t_board o_t_otherBoard o_t_fog o_t_crowd o_t_deal x_play_w x_play_h x_play_hands x_play_rules x_truth_ready x_truth_rows)) ⟨hx, hb, hml, hown, hts⟩ (c_X6_at l D cy t o_t_truth x_truth_ready x_truth_rows p3 p2 hr15) (cwV 2 hts gX7_seesThen_X6_at rfl rfl rfl ⟨rfl, hd_X6_at⟩ ⟨Nat.le_of_ble_eq_true rfl, Nat.le_of_ble_eq_true rfl⟩) hK hE hP hD hS hA [3, 4] 5 6 0 rfl rfl rfl rfl (by decide +kernel) rfl rfl hl.1 rfl (Nat.le_of_ble_eq_true rfl) dX7_seesThen_15 ⟨Nat.le_of_ble_eq_true rfl, Nat.le_of_ble_eq_true rfl⟩ (fun H locs hP hD hS => ?_)
  obtain ⟨r18, hr18, hf⟩ := bd_s hf
  refine my_Si (WS2 := (wd_X7_seesThen cy o_t o_t_play o_t_lines o_t_truth o_t_glassTrack o_t_board o_t_otherBoard o_t_fog o_t_crowd o_t_deal x_play_w x_play_h x_play_hands x_play_rules x_truth_ready x_truth_rows)) ⟨hx, hb, hml, hown, hts⟩ (c_X7_distance l D cy t r6 r15 hr18) (va_cwS 2 hts gX7_seesThen_X7_distance rfl rfl rfl hd_X7_distance ⟨Nat.le_of_ble_eq_true rfl, Nat.le_of_ble_eq_true rfl⟩) hK hE hP hD hS hA [] 5 rfl rfl (by decide +kernel) rfl rfl hl.1 rfl (Nat.le_of_ble_eq_true rfl) dX7_seesThen_18 ⟨Nat.le_of_ble_eq_true rfl, Nat.le_of_ble_eq_true rfl⟩ (fun H locs hP hD hS => ?_)
  refine lv_aload_n hx hb dX7_seesThen_21 rfl (lv_at hl 0 rfl) ?_
  refine va_get (D := D) (ci := 7) (v := .ref (o_t_play 0)) (C := RX7) (T := TX7) (N := 12) hx hb hts k1 hown hK hP 0 rfl rfl 0 (by decide) k2 (fun _ h9 => h9) rfl dX7_seesThen_22 ?_
  refine va_get (D := D) (ci := 5) (v := .ref (o_t_play 4)) (C := RX5) (T := TX5) (N := 7) hx hb hts k4 hown hK hP 1 rfl rfl 3 (by decide) k3 (fun _ h9 => h9) rfl dX7_seesThen_25 ?_
  refine lv_bipush (v := (6 : Int32)) hx hb dX7_seesThen_28 (by decide) ?_
  obtain ⟨v30, b30, ev30, hf⟩ := rd_s hf
  refine my_iald hx hb hK hP 2 rfl b30 ev30 dX7_seesThen_30 ?_
  refine lv_icmp_gt (tgt := 38) hx hb dX7_seesThen_31 (by decide) (fun c31 => ?_) (fun c31 => ?_)
  · have hf := ifp c31 hf
    refine lv_iconst (v := (0 : Int32)) hx hb dX7_seesThen_38 (by decide) ?_
    obtain ⟨z39, hf⟩ := zb_s hf
    obtain rfl := Option.some.inj hf
    exact hR _ _ _ _ hP hD hS z39 dX7_seesThen_39
  · have hf := ifn c31 hf
    refine lv_iconst (v := (1 : Int32)) hx hb dX7_seesThen_34 (by decide) ?_
    refine lv_goto (tgt := 39) hx hb dX7_seesThen_35 (by decide) ?_
    obtain ⟨z39, hf⟩ := zb_s hf
    obtain rfl := Option.some.inj hf
    exact hR _ _ _ _ hP hD hS z39 dX7_seesThen_39
theorem hd_X7_seesThen : yX7_seesThen.cls ≠ "java/lang/invoke/MethodHandle" ∧ yX7_seesThen.cls ≠ "java/lang/invoke/VarHandle" ∧ (parseMethodDescriptor yX7_seesThen.desc).map (fun d => d.parameters.length) = some 3 := by decide +kernel
set_option maxRecDepth 100000 in
theorem c_X7_seesThen (l : Launch) (D : va_G) (cy : Nat → ClassId) (t : Nat → Nat) (o_t o_t_play o_t_lines o_t_truth o_t_glassTrack o_t_board o_t_otherBoard o_t_fog o_t_crowd o_t_deal : Nat → Nat) (x_play_w : Int32) (x_play_h : Int32) (x_play_hands : Int32) (x_play_rules : Nat → Int32) (x_truth_ready : Int32) (x_truth_rows : Nat → Int32) (p1 : Int32) (p2 : Int32) (p3 : Int32) {out : Int32} (hf : X7_seesThen x_play_rules x_truth_rows p1 p2 p3 = some out) : ctI l yX7_seesThen wsX7_seesThen 2 42 D cy t [.ref (o_t 0), .int p1, .int p2, .int p3] (wd_X7_seesThen cy o_t o_t_play o_t_lines o_t_truth o_t_glassTrack o_t_board o_t_otherBoard o_t_fog o_t_crowd o_t_deal x_play_w x_play_h x_play_hands x_play_rules x_truth_ready x_truth_rows) (wd_X7_seesThen cy o_t o_t_play o_t_lines o_t_truth o_t_glassTrack o_t_board o_t_otherBoard o_t_fog o_t_crowd o_t_deal x_play_w x_play_h x_play_hands x_play_rules x_truth_ready x_truth_rows) out := by
  refine ⟨rfl, ?_⟩
  intro sz
  refine Met.ofW (cc := cX7_seesThen) (maxL := 4) (ret := (some .boolean)) (by decide) rfl ?_
  intro p e s m args below meth c s₁ B hml hv
  obtain ⟨rfl, hsz, hP, hK, hD0, hE⟩ := hv
  have hts := atoms_spec (ws := wsX7_seesThen) B.pre
  have hown : s.vm.findClass RX7 = some m.cls := findClass_of_methodNamed B.named
  have hlocks := B.notSynchronized
  subst hsz
  have hD := hD0.self (sz := s.heap.size)
  have hl := lv_entry ([.ref (o_t 0), .int p1, .int p2, .int p3]) (n := 4) (Nat.le_of_ble_eq_true rfl)
  rw [lg_entry_eq]
  generalize (lg_sl ([.ref (o_t 0), .int p1, .int p2, .int p3]) ++ List.replicate (4 - (lg_sl ([.ref (o_t 0), .int p1, .int p2, .int p3])).length) Slot.unset).toArray = ls at hl ⊢
  exact w_X7_seesThen D cy t o_t o_t_play o_t_lines o_t_truth o_t_glassTrack o_t_board o_t_otherBoard o_t_fog o_t_crowd o_t_deal x_play_w x_play_h x_play_hands x_play_rules x_truth_ready x_truth_rows p1 p2 p3 hf B.exec B.bytes hml hown hts hK hE (fun q h => Or.inr h) hP hD va_S.rf hl (fun H locs ls pc hP hD hS z hdg => W.zret B.exec B.bytes B.returns z (fun t ht hW => ⟨⟨_, (), rfl, rfl, ctB_of ht hP⟩, hS.F ht⟩) hS.2.2 hdg)

noncomputable def X7_thinkTo_J122 (x_play_w : Int32) (x_play_h : Int32) (x_play_hands : Int32) (x_play_rules : Nat → Int32) (x_truth_rows : Nat → Int32) (rec30 : (Nat → Int32) → (Nat → Int32) → Int32 → Int32 → Int32 → Int32 → Option ((Nat → Int32) × (Nat → Int32))) (x_board_now : Nat → Int32) (x_fog_masks : Nat → Int32) (l1 : Int32) (l2 : Int32) (l3 : Int32) (l4 : Int32) : Option ((Nat → Int32) × (Nat → Int32)) :=
  nm (l4 + (1 : Int32)) fun v122 => rec30 x_board_now x_fog_masks l1 l2 l3 v122
noncomputable def X7_thinkTo_L30_B (x_play_w : Int32) (x_play_h : Int32) (x_play_hands : Int32) (x_play_rules : Nat → Int32) (x_truth_rows : Nat → Int32) (rec30 : (Nat → Int32) → (Nat → Int32) → Int32 → Int32 → Int32 → Int32 → Option ((Nat → Int32) × (Nat → Int32))) (x_board_now : Nat → Int32) (x_fog_masks : Nat → Int32) (l1 : Int32) (l2 : Int32) (l3 : Int32) (l4 : Int32) : Option ((Nat → Int32) × (Nat → Int32)) :=
  if l3 < l4 then (some (x_board_now, x_fog_masks)) else (bd (X7_seesThen x_play_rules x_truth_rows l1 l2 l4) fun r41 => if r41 = (0 : Int32) then (bd (X3_spread x_fog_masks x_play_w x_play_h) fun r85 => bd (X6_at x_truth_rows l4 l1) fun r99 => rd x_play_rules 7 (6 : Int32) fun v111 => bd (X3_removeSeen r85 r99 v111 x_play_h) fun r119 => X7_thinkTo_J122 x_play_w x_play_h x_play_hands x_play_rules x_truth_rows rec30 x_board_now r119 l1 l2 l3 l4) else (bd (X6_at x_truth_rows l4 l2) fun r58 => bd (X3_setOnly x_fog_masks r58) fun r61 => X7_thinkTo_J122 x_play_w x_play_h x_play_hands x_play_rules x_truth_rows rec30 x_board_now r61 l1 l2 l3 l4))
noncomputable def X7_thinkTo_L30 (x_play_w : Int32) (x_play_h : Int32) (x_play_hands : Int32) (x_play_rules : Nat → Int32) (x_truth_rows : Nat → Int32) : Nat → (Nat → Int32) → (Nat → Int32) → Int32 → Int32 → Int32 → Int32 → Option ((Nat → Int32) × (Nat → Int32))
  | 0, _, _, _, _, _, _ => none
  | n + 1, y0, y1, y2, y3, y4, y5 => X7_thinkTo_L30_B x_play_w x_play_h x_play_hands x_play_rules x_truth_rows  (X7_thinkTo_L30 x_play_w x_play_h x_play_hands x_play_rules x_truth_rows  n) y0 y1 y2 y3 y4 y5
noncomputable def X7_thinkTo (x_play_w : Int32) (x_play_h : Int32) (x_play_hands : Int32) (x_play_rules : Nat → Int32) (x_truth_rows : Nat → Int32) (x_board_now : Nat → Int32) (x_fog_masks : Nat → Int32) (p1 : Int32) (p2 : Int32) (p3 : Int32) : Option ((Nat → Int32) × (Nat → Int32)) :=
  bd (X0_start x_play_w x_play_h x_play_hands x_board_now) fun r8 => rd r8 13 p2 fun v23 => bd (X3_setOnly x_fog_masks v23) fun r24 => X7_thinkTo_L30 x_play_w x_play_h x_play_hands x_play_rules x_truth_rows  FU r8 r24 p1 p2 p3 (0 : Int32)
abbrev wd_X7_thinkTo (cy : Nat → ClassId) (o_t o_t_play o_t_lines o_t_truth o_t_glassTrack o_t_board o_t_otherBoard o_t_fog o_t_crowd o_t_deal : Nat → Nat) (x_play_w : Int32) (x_play_h : Int32) (x_play_hands : Int32) (x_play_rules : Nat → Int32) (x_truth_ready : Int32) (x_truth_rows : Nat → Int32) (x_board_now : Nat → Int32) (x_fog_masks : Nat → Int32) : va_W := [(o_t 0, .inr (7, [.ref (o_t_play 0), .ref (o_t_lines 0), .ref (o_t_truth 0), .ref (o_t_glassTrack 0), .ref (o_t_board 0), .ref (o_t_otherBoard 0), .ref (o_t 7), .ref (o_t_fog 0), .ref (o_t_crowd 0), .ref (o_t_deal 0), .ref (o_t 11), .ref (o_t 12)])), (o_t_play 0, .inr (5, [.int x_play_w, .int x_play_h, .int x_play_hands, .ref (o_t_play 4), .ref (o_t_play 5), .ref (o_t_play 6), .ref (o_t_play 7)])), (o_t_play 4, .inl (cy 0, 7, .inl x_play_rules)), (o_t_truth 0, .inr (6, [.ref (o_t_truth 1), .int x_truth_ready])), (o_t_truth 1, .inl (cy 0, 1300, .inl x_truth_rows)), (o_t_board 0, .inr (0, [.ref (o_t_board 1)])), (o_t_board 1, .inl (cy 0, 13, .inl x_board_now)), (o_t_fog 0, .inr (3, [.ref (o_t_fog 1)])), (o_t_fog 1, .inl (cy 0, 9, .inl x_fog_masks))]
set_option maxHeartbeats 4000000 in
set_option maxRecDepth 100000 in
theorem w_X7_thinkTo {p : Program} {l : Launch} {e : Env} {s : State} {m : MethodId} {args : Array Value} {below : List Frame} {meth : Method} {c : Code} {Q : State → Prop} {A : Nat → Prop} {H : Heap} {locs : List Loc} {ls : Array Slot} (D : va_G) (cy : Nat → ClassId) (t : Nat → Nat) (o_t o_t_play o_t_lines o_t_truth o_t_glassTrack o_t_board o_t_otherBoard o_t_fog o_t_crowd o_t_deal : Nat → Nat) (x_play_w : Int32) (x_play_h : Int32) (x_play_hands : Int32) (x_play_rules : Nat → Int32) (x_truth_ready : Int32) (x_truth_rows : Nat → Int32) (x_board_now : Nat → Int32) (x_fog_masks : Nat → Int32) (p1 : Int32) (p2 : Int32) (p3 : Int32) {out : (Nat → Int32) × (Nat → Int32)} (hf : X7_thinkTo x_play_w x_play_h x_play_hands x_play_rules x_truth_rows x_board_now x_fog_masks p1 p2 p3 = some out) (hx : p.tables.exec = Jvm.exec) (hb : c.code = cX7_thinkTo) (hml : c.maxLocals = 5) (hown : s.vm.findClass RX7 = some m.cls) (hts : ∀ w ∈ wsX7_thinkTo, w.before args s = true) (hK : va_K D vwCl (TYS cy) s) (hE : EV t A s s.heap) (hA : ∀ q, s.heap.size ≤ q → A q) (hP : va_P D vwCl (wd_X7_thinkTo cy o_t o_t_play o_t_lines o_t_truth o_t_glassTrack o_t_board o_t_otherBoard o_t_fog o_t_crowd o_t_deal x_play_w x_play_h x_play_hands x_play_rules x_truth_ready x_truth_rows x_board_now x_fog_masks) H) (hD : va_D A (wd_X7_thinkTo cy o_t o_t_play o_t_lines o_t_truth o_t_glassTrack o_t_board o_t_otherBoard o_t_fog o_t_crowd o_t_deal x_play_w x_play_h x_play_hands x_play_rules x_truth_ready x_truth_rows x_board_now x_fog_masks)) (hS : va_S A s.heap H locs) (hl : lv_has ls 5 [(0, .ref (o_t 0)), (1, .int p1), (2, .int p2), (3, .int p3)]) (hR : ∀ (H : Heap) (locs : List Loc) (ls : Array Slot) (pc : Nat), va_P D vwCl (wd_X7_thinkTo cy o_t o_t_play o_t_lines o_t_truth o_t_glassTrack o_t_board o_t_otherBoard o_t_fog o_t_crowd o_t_deal x_play_w x_play_h x_play_hands x_play_rules x_truth_ready x_truth_rows out.1 out.2) H → va_D A (wd_X7_thinkTo cy o_t o_t_play o_t_lines o_t_truth o_t_glassTrack o_t_board o_t_otherBoard o_t_fog o_t_crowd o_t_deal x_play_w x_play_h x_play_hands x_play_rules x_truth_ready x_truth_rows out.1 out.2) → va_S A s.heap H locs → decode cX7_thinkTo pc = .ok (.return_, 1) → W p l e (rmm 3 65) s m args below meth c H locs 0 0 Q (F0 m pc ls [])) : W p l e (rmm 3 65) s m args below meth c H locs 0 0 Q (F0 m 0 ls []) := by
  have k0 := hts (.fieldLink RX7 38 "SeaGames" "board" "LSeaGames$Board;") (List.mem_cons_of_mem _ (List.mem_append_left _ (List.mem_append_left _ (List.mem_append_left _ (List.mem_append_left _ (List.mem_append_left _ (List.mem_append_left _ (List.mem_of_getElem? (i := 0) rfl))))))))
  have k1 : ∀ w ∈ u_ws RX7 TX7 12, w ∈ wsX7_thinkTo := fun _ h => List.mem_cons_of_mem _ (List.mem_append_left _ (List.mem_append_left _ (List.mem_append_left _ (List.mem_append_left _ (List.mem_append_right _ h)))))
  have k2 := hts (.fieldLink RX7 10 "SeaGames" "play" "LSeaGames$Play;") (List.mem_cons_of_mem _ (List.mem_append_left _ (List.mem_append_left _ (List.mem_append_left _ (List.mem_append_left _ (List.mem_append_left _ (List.mem_append_left _ (List.mem_of_getElem? (i := 1) rfl))))))))
  have k3 := hts (.fieldLink RX7 52 "SeaGames" "fog" "LSeaGames$Fog;") (List.mem_cons_of_mem _ (List.mem_append_left _ (List.mem_append_left _ (List.mem_append_left _ (List.mem_append_left _ (List.mem_append_left _ (List.mem_append_left _ (List.mem_of_getElem? (i := 2) rfl))))))))
  have k4 := hts (.fieldLink RX7 278 "SeaGames$Board" "now" "[I") (List.mem_cons_of_mem _ (List.mem_append_left _ (List.mem_append_left _ (List.mem_append_left _ (List.mem_append_left _ (List.mem_append_left _ (List.mem_append_left _ (List.mem_of_getElem? (i := 3) rfl))))))))
  have k5 : ∀ w ∈ u_ws RX0 TX0 1, w ∈ wsX7_thinkTo := fun _ h => List.mem_cons_of_mem _ (List.mem_append_left _ (List.mem_append_left _ (List.mem_append_left _ (List.mem_append_right _ h))))
  have k6 := hts (.fieldLink RX7 209 "SeaGames$Play" "w" "I") (List.mem_cons_of_mem _ (List.mem_append_left _ (List.mem_append_left _ (List.mem_append_left _ (List.mem_append_left _ (List.mem_append_left _ (List.mem_append_left _ (List.mem_of_getElem? (i := 5) rfl))))))))
  have k7 : ∀ w ∈ u_ws RX5 TX5 7, w ∈ wsX7_thinkTo := fun _ h => List.mem_cons_of_mem _ (List.mem_append_left _ (List.mem_append_left _ (List.mem_append_right _ h)))
  have k8 := hts (.fieldLink RX7 203 "SeaGames$Play" "h" "I") (List.mem_cons_of_mem _ (List.mem_append_left _ (List.mem_append_left _ (List.mem_append_left _ (List.mem_append_left _ (List.mem_append_left _ (List.mem_append_left _ (List.mem_of_getElem? (i := 6) rfl))))))))
  have k9 := hts (.fieldLink RX7 28 "SeaGames" "truth" "LSeaGames$Track;") (List.mem_cons_of_mem _ (List.mem_append_left _ (List.mem_append_left _ (List.mem_append_left _ (List.mem_append_left _ (List.mem_append_left _ (List.mem_append_left _ (List.mem_of_getElem? (i := 4) rfl))))))))
  have k10 := hts (.fieldLink RX7 98 "SeaGames$Play" "rules" "[I") (List.mem_cons_of_mem _ (List.mem_append_left _ (List.mem_append_left _ (List.mem_append_left _ (List.mem_append_left _ (List.mem_append_left _ (List.mem_append_left _ (List.mem_of_getElem? (i := 7) rfl))))))))
  rw [X7_thinkTo] at hf
  have h30 : ∀ (n30 : Nat) (x_board_now : Nat → Int32) (x_fog_masks : Nat → Int32) (l1 : Int32) (l2 : Int32) (l3 : Int32) (l4 : Int32) (H : Heap) (locs : List Loc) (ls : Array Slot), X7_thinkTo_L30 x_play_w x_play_h x_play_hands x_play_rules x_truth_rows n30 x_board_now x_fog_masks l1 l2 l3 l4 = some out → va_P D vwCl (wd_X7_thinkTo cy o_t o_t_play o_t_lines o_t_truth o_t_glassTrack o_t_board o_t_otherBoard o_t_fog o_t_crowd o_t_deal x_play_w x_play_h x_play_hands x_play_rules x_truth_ready x_truth_rows x_board_now x_fog_masks) H → va_D A (wd_X7_thinkTo cy o_t o_t_play o_t_lines o_t_truth o_t_glassTrack o_t_board o_t_otherBoard o_t_fog o_t_crowd o_t_deal x_play_w x_play_h x_play_hands x_play_rules x_truth_ready x_truth_rows x_board_now x_fog_masks) → va_S A s.heap H locs → lv_has ls 5 [(0, .ref (o_t 0)), (1, .int l1), (2, .int l2), (3, .int l3), (4, .int l4)] → W p l e (rmm 3 65) s m args below meth c H locs 0 0 Q (F0 m 30 ls []) := by
    intro n30
    induction n30 with
    | zero =>
      intro _ _ _ _ _ _ _ _ _ hf
      exact nomatch (show (none : Option _) = some out from hf)
    | succ n30 ih30 =>
      intro x_board_now x_fog_masks l1 l2 l3 l4 H locs ls hf hP hD hS hl
      have hf : X7_thinkTo_L30_B x_play_w x_play_h x_play_hands x_play_rules x_truth_rows (X7_thinkTo_L30 x_play_w x_play_h x_play_hands x_play_rules x_truth_rows n30) x_board_now x_fog_masks l1 l2 l3 l4 = some out := hf
      rw [X7_thinkTo_L30_B] at hf
      refine lv_iload hx hb dX7_thinkTo_30 (lv_at hl 4 rfl) ?_
      refine lv_iload_n hx hb dX7_thinkTo_32 rfl (lv_at hl 3 rfl) ?_
      refine lv_icmp_gt (tgt := 128) hx hb dX7_thinkTo_33 (by decide) (fun c33 => ?_) (fun c33 => ?_)
      · have hf := ifp c33 hf
        obtain rfl := Option.some.inj hf
        exact hR _ _ _ _ hP hD hS dX7_thinkTo_128
      · have hf := ifn c33 hf
        have h122 : ∀ (x_board_now : Nat → Int32) (x_fog_masks : Nat → Int32) (l1 : Int32) (l2 : Int32) (l3 : Int32) (l4 : Int32) (H : Heap) (locs : List Loc) (ls : Array Slot), X7_thinkTo_J122 x_play_w x_play_h x_play_hands x_play_rules x_truth_rows (X7_thinkTo_L30 x_play_w x_play_h x_play_hands x_play_rules x_truth_rows n30) x_board_now x_fog_masks l1 l2 l3 l4 = some out → va_P D vwCl (wd_X7_thinkTo cy o_t o_t_play o_t_lines o_t_truth o_t_glassTrack o_t_board o_t_otherBoard o_t_fog o_t_crowd o_t_deal x_play_w x_play_h x_play_hands x_play_rules x_truth_ready x_truth_rows x_board_now x_fog_masks) H → va_D A (wd_X7_thinkTo cy o_t o_t_play o_t_lines o_t_truth o_t_glassTrack o_t_board o_t_otherBoard o_t_fog o_t_crowd o_t_deal x_play_w x_play_h x_play_hands x_play_rules x_truth_ready x_truth_rows x_board_now x_fog_masks) → va_S A s.heap H locs → lv_has ls 5 [(0, .ref (o_t 0)), (1, .int l1), (2, .int l2), (3, .int l3), (4, .int l4)] → W p l e (rmm 3 65) s m args below meth c H locs 0 0 Q (F0 m 122 ls []) := by
          intro x_board_now x_fog_masks l1 l2 l3 l4 H locs ls hf hP hD hS hl
          rw [X7_thinkTo_J122] at hf
          obtain ⟨v122, ev122, hf⟩ := nm_s hf
          refine lv_iinc (v := v122) (lv' := [(4, .int v122), (0, .ref (o_t 0)), (1, .int l1), (2, .int l2), (3, .int l3)]) hx hb dX7_thinkTo_122 hl (k := 4) rfl (by rw [ev122]; rfl) (by decide) rfl (fun ls hl => ?_)
          refine lv_goto (tgt := 30) hx hb dX7_thinkTo_125 (by decide) ?_
          exact ih30 _ _ _ _ _ _ _ _ _ hf hP hD hS (lv_sub hl [1, 2, 3, 4, 0] rfl)
        refine lv_aload_n hx hb dX7_thinkTo_36 rfl (lv_at hl 0 rfl) ?_
        refine lv_iload_n hx hb dX7_thinkTo_37 rfl (lv_at hl 1 rfl) ?_
        refine lv_iload_n hx hb dX7_thinkTo_38 rfl (lv_at hl 2 rfl) ?_
        refine lv_iload hx hb dX7_thinkTo_39 (lv_at hl 4 rfl) ?_
        obtain ⟨r41, hr41, hf⟩ := bd_s hf
        refine my_Vi (WS2 := (wd_X7_thinkTo cy o_t o_t_play o_t_lines o_t_truth o_t_glassTrack o_t_board o_t_otherBoard o_t_fog o_t_crowd o_t_deal x_play_w x_play_h x_play_hands x_play_rules x_truth_ready x_truth_rows x_board_now x_fog_masks)) ⟨hx, hb, hml, hown, hts⟩ (c_X7_seesThen l D cy t o_t o_t_play o_t_lines o_t_truth o_t_glassTrack o_t_board o_t_otherBoard o_t_fog o_t_crowd o_t_deal x_play_w x_play_h x_play_hands x_play_rules x_truth_ready x_truth_rows l1 l2 l4 hr41) (cwV 3 hts gX7_thinkTo_X7_seesThen rfl rfl rfl ⟨rfl, hd_X7_seesThen⟩ ⟨Nat.le_of_ble_eq_true rfl, Nat.le_of_ble_eq_true rfl⟩) hK hE hP hD hS hA [0, 1, 2, 3, 4] 9 7 0 rfl rfl rfl rfl (by decide +kernel) rfl rfl hl.1 rfl (Nat.le_of_ble_eq_true rfl) dX7_thinkTo_41 ⟨Nat.le_of_ble_eq_true rfl, Nat.le_of_ble_eq_true rfl⟩ (fun H locs hP hD hS => ?_)
        refine lv_if_eq (tgt := 67) hx hb dX7_thinkTo_44 (by decide) (fun c44 => ?_) (fun c44 => ?_)
        · have hf := ifp c44 hf
          refine lv_aload_n hx hb dX7_thinkTo_67 rfl (lv_at hl 0 rfl) ?_
          refine va_get (D := D) (ci := 7) (v := .ref (o_t_fog 0)) (C := RX7) (T := TX7) (N := 12) hx hb hts k1 hown hK hP 0 rfl rfl 7 (by decide) k3 (fun _ h9 => h9) rfl dX7_thinkTo_68 ?_
          refine lv_aload_n hx hb dX7_thinkTo_71 rfl (lv_at hl 0 rfl) ?_
          refine va_get (D := D) (ci := 7) (v := .ref (o_t_play 0)) (C := RX7) (T := TX7) (N := 12) hx hb hts k1 hown hK hP 0 rfl rfl 0 (by decide) k2 (fun _ h9 => h9) rfl dX7_thinkTo_72 ?_
          refine va_get (D := D) (ci := 5) (v := .int x_play_w) (C := RX5) (T := TX5) (N := 7) hx hb hts k7 hown hK hP 1 rfl rfl 0 (by decide) k6 (fun _ h9 => h9) rfl dX7_thinkTo_75 ?_
          refine lv_aload_n hx hb dX7_thinkTo_78 rfl (lv_at hl 0 rfl) ?_
          refine va_get (D := D) (ci := 7) (v := .ref (o_t_play 0)) (C := RX7) (T := TX7) (N := 12) hx hb hts k1 hown hK hP 0 rfl rfl 0 (by decide) k2 (fun _ h9 => h9) rfl dX7_thinkTo_79 ?_
          refine va_get (D := D) (ci := 5) (v := .int x_play_h) (C := RX5) (T := TX5) (N := 7) hx hb hts k7 hown hK hP 1 rfl rfl 1 (by decide) k8 (fun _ h9 => h9) rfl dX7_thinkTo_82 ?_
          obtain ⟨r85, hr85, hf⟩ := bd_s hf
          refine my_Vv (WS2 := (wd_X7_thinkTo cy o_t o_t_play o_t_lines o_t_truth o_t_glassTrack o_t_board o_t_otherBoard o_t_fog o_t_crowd o_t_deal x_play_w x_play_h x_play_hands x_play_rules x_truth_ready x_truth_rows x_board_now r85)) ⟨hx, hb, hml, hown, hts⟩ (c_X3_spread l D cy t o_t_fog x_fog_masks x_play_w x_play_h hr85) (cwV 2 hts gX7_thinkTo_X3_spread rfl rfl rfl ⟨rfl, hd_X3_spread⟩ ⟨Nat.le_of_ble_eq_true rfl, Nat.le_of_ble_eq_true rfl⟩) hK hE hP hD hS hA [7, 8] 9 3 0 rfl rfl rfl rfl (by decide +kernel) rfl rfl hl.1 rfl (Nat.le_of_ble_eq_true rfl) dX7_thinkTo_85 ⟨Nat.le_of_ble_eq_true rfl, Nat.le_of_ble_eq_true rfl⟩ (fun H locs hP hD hS => ?_)
          refine lv_aload_n hx hb dX7_thinkTo_88 rfl (lv_at hl 0 rfl) ?_
          refine va_get (D := D) (ci := 7) (v := .ref (o_t_fog 0)) (C := RX7) (T := TX7) (N := 12) hx hb hts k1 hown hK hP 0 rfl rfl 7 (by decide) k3 (fun _ h9 => h9) rfl dX7_thinkTo_89 ?_
          refine lv_aload_n hx hb dX7_thinkTo_92 rfl (lv_at hl 0 rfl) ?_
          refine va_get (D := D) (ci := 7) (v := .ref (o_t_truth 0)) (C := RX7) (T := TX7) (N := 12) hx hb hts k1 hown hK hP 0 rfl rfl 2 (by decide) k9 (fun _ h9 => h9) rfl dX7_thinkTo_93 ?_
          refine lv_iload hx hb dX7_thinkTo_96 (lv_at hl 4 rfl) ?_
          refine lv_iload_n hx hb dX7_thinkTo_98 rfl (lv_at hl 1 rfl) ?_
          obtain ⟨r99, hr99, hf⟩ := bd_s hf
          refine my_Vi (WS2 := (wd_X7_thinkTo cy o_t o_t_play o_t_lines o_t_truth o_t_glassTrack o_t_board o_t_otherBoard o_t_fog o_t_crowd o_t_deal x_play_w x_play_h x_play_hands x_play_rules x_truth_ready x_truth_rows x_board_now r85)) ⟨hx, hb, hml, hown, hts⟩ (c_X6_at l D cy t o_t_truth x_truth_ready x_truth_rows l4 l1 hr99) (cwV 2 hts gX7_thinkTo_X6_at rfl rfl rfl ⟨rfl, hd_X6_at⟩ ⟨Nat.le_of_ble_eq_true rfl, Nat.le_of_ble_eq_true rfl⟩) hK hE hP hD hS hA [3, 4] 9 6 0 rfl rfl rfl rfl (by decide +kernel) rfl rfl hl.1 rfl (Nat.le_of_ble_eq_true rfl) dX7_thinkTo_99 ⟨Nat.le_of_ble_eq_true rfl, Nat.le_of_ble_eq_true rfl⟩ (fun H locs hP hD hS => ?_)
          refine lv_aload_n hx hb dX7_thinkTo_102 rfl (lv_at hl 0 rfl) ?_
          refine va_get (D := D) (ci := 7) (v := .ref (o_t_play 0)) (C := RX7) (T := TX7) (N := 12) hx hb hts k1 hown hK hP 0 rfl rfl 0 (by decide) k2 (fun _ h9 => h9) rfl dX7_thinkTo_103 ?_
          refine va_get (D := D) (ci := 5) (v := .ref (o_t_play 4)) (C := RX5) (T := TX5) (N := 7) hx hb hts k7 hown hK hP 1 rfl rfl 3 (by decide) k10 (fun _ h9 => h9) rfl dX7_thinkTo_106 ?_
          refine lv_bipush (v := (6 : Int32)) hx hb dX7_thinkTo_109 (by decide) ?_
          obtain ⟨v111, b111, ev111, hf⟩ := rd_s hf
          refine my_iald hx hb hK hP 2 rfl b111 ev111 dX7_thinkTo_111 ?_
          refine lv_aload_n hx hb dX7_thinkTo_112 rfl (lv_at hl 0 rfl) ?_
          refine va_get (D := D) (ci := 7) (v := .ref (o_t_play 0)) (C := RX7) (T := TX7) (N := 12) hx hb hts k1 hown hK hP 0 rfl rfl 0 (by decide) k2 (fun _ h9 => h9) rfl dX7_thinkTo_113 ?_
          refine va_get (D := D) (ci := 5) (v := .int x_play_h) (C := RX5) (T := TX5) (N := 7) hx hb hts k7 hown hK hP 1 rfl rfl 1 (by decide) k8 (fun _ h9 => h9) rfl dX7_thinkTo_116 ?_
          obtain ⟨r119, hr119, hf⟩ := bd_s hf
          refine my_Vv (WS2 := (wd_X7_thinkTo cy o_t o_t_play o_t_lines o_t_truth o_t_glassTrack o_t_board o_t_otherBoard o_t_fog o_t_crowd o_t_deal x_play_w x_play_h x_play_hands x_play_rules x_truth_ready x_truth_rows x_board_now r119)) ⟨hx, hb, hml, hown, hts⟩ (c_X3_removeSeen l D cy t o_t_fog r85 r99 v111 x_play_h hr119) (cwV 3 hts gX7_thinkTo_X3_removeSeen rfl rfl rfl ⟨rfl, hd_X3_removeSeen⟩ ⟨Nat.le_of_ble_eq_true rfl, Nat.le_of_ble_eq_true rfl⟩) hK hE hP hD hS hA [7, 8] 9 3 0 rfl rfl rfl rfl (by decide +kernel) rfl rfl hl.1 rfl (Nat.le_of_ble_eq_true rfl) dX7_thinkTo_119 ⟨Nat.le_of_ble_eq_true rfl, Nat.le_of_ble_eq_true rfl⟩ (fun H locs hP hD hS => ?_)
          exact h122 _ _ _ _ _ _ _ _ _ hf hP hD hS (lv_sub hl [0, 1, 2, 3, 4] rfl)
        · have hf := ifn c44 hf
          refine lv_aload_n hx hb dX7_thinkTo_47 rfl (lv_at hl 0 rfl) ?_
          refine va_get (D := D) (ci := 7) (v := .ref (o_t_fog 0)) (C := RX7) (T := TX7) (N := 12) hx hb hts k1 hown hK hP 0 rfl rfl 7 (by decide) k3 (fun _ h9 => h9) rfl dX7_thinkTo_48 ?_
          refine lv_aload_n hx hb dX7_thinkTo_51 rfl (lv_at hl 0 rfl) ?_
          refine va_get (D := D) (ci := 7) (v := .ref (o_t_truth 0)) (C := RX7) (T := TX7) (N := 12) hx hb hts k1 hown hK hP 0 rfl rfl 2 (by decide) k9 (fun _ h9 => h9) rfl dX7_thinkTo_52 ?_
          refine lv_iload hx hb dX7_thinkTo_55 (lv_at hl 4 rfl) ?_
          refine lv_iload_n hx hb dX7_thinkTo_57 rfl (lv_at hl 2 rfl) ?_
          obtain ⟨r58, hr58, hf⟩ := bd_s hf
          refine my_Vi (WS2 := (wd_X7_thinkTo cy o_t o_t_play o_t_lines o_t_truth o_t_glassTrack o_t_board o_t_otherBoard o_t_fog o_t_crowd o_t_deal x_play_w x_play_h x_play_hands x_play_rules x_truth_ready x_truth_rows x_board_now x_fog_masks)) ⟨hx, hb, hml, hown, hts⟩ (c_X6_at l D cy t o_t_truth x_truth_ready x_truth_rows l4 l2 hr58) (cwV 2 hts gX7_thinkTo_X6_at rfl rfl rfl ⟨rfl, hd_X6_at⟩ ⟨Nat.le_of_ble_eq_true rfl, Nat.le_of_ble_eq_true rfl⟩) hK hE hP hD hS hA [3, 4] 9 6 0 rfl rfl rfl rfl (by decide +kernel) rfl rfl hl.1 rfl (Nat.le_of_ble_eq_true rfl) dX7_thinkTo_58 ⟨Nat.le_of_ble_eq_true rfl, Nat.le_of_ble_eq_true rfl⟩ (fun H locs hP hD hS => ?_)
          obtain ⟨r61, hr61, hf⟩ := bd_s hf
          refine my_Vv (WS2 := (wd_X7_thinkTo cy o_t o_t_play o_t_lines o_t_truth o_t_glassTrack o_t_board o_t_otherBoard o_t_fog o_t_crowd o_t_deal x_play_w x_play_h x_play_hands x_play_rules x_truth_ready x_truth_rows x_board_now r61)) ⟨hx, hb, hml, hown, hts⟩ (c_X3_setOnly l D cy t o_t_fog x_fog_masks r58 hr61) (cwV 1 hts gX7_thinkTo_X3_setOnly rfl rfl rfl ⟨rfl, hd_X3_setOnly⟩ ⟨Nat.le_of_ble_eq_true rfl, Nat.le_of_ble_eq_true rfl⟩) hK hE hP hD hS hA [7, 8] 9 3 0 rfl rfl rfl rfl (by decide +kernel) rfl rfl hl.1 rfl (Nat.le_of_ble_eq_true rfl) dX7_thinkTo_61 ⟨Nat.le_of_ble_eq_true rfl, Nat.le_of_ble_eq_true rfl⟩ (fun H locs hP hD hS => ?_)
          refine lv_goto (tgt := 122) hx hb dX7_thinkTo_64 (by decide) ?_
          exact h122 _ _ _ _ _ _ _ _ _ hf hP hD hS (lv_sub hl [0, 1, 2, 3, 4] rfl)
  refine lv_aload_n hx hb dX7_thinkTo_0 rfl (lv_at hl 0 rfl) ?_
  refine va_get (D := D) (ci := 7) (v := .ref (o_t_board 0)) (C := RX7) (T := TX7) (N := 12) hx hb hts k1 hown hK hP 0 rfl rfl 4 (by decide) k0 (fun _ h9 => h9) rfl dX7_thinkTo_1 ?_
  refine lv_aload_n hx hb dX7_thinkTo_4 rfl (lv_at hl 0 rfl) ?_
  refine va_get (D := D) (ci := 7) (v := .ref (o_t_play 0)) (C := RX7) (T := TX7) (N := 12) hx hb hts k1 hown hK hP 0 rfl rfl 0 (by decide) k2 (fun _ h9 => h9) rfl dX7_thinkTo_5 ?_
  obtain ⟨r8, hr8, hf⟩ := bd_s hf
  refine my_Vv (WS2 := (wd_X7_thinkTo cy o_t o_t_play o_t_lines o_t_truth o_t_glassTrack o_t_board o_t_otherBoard o_t_fog o_t_crowd o_t_deal x_play_w x_play_h x_play_hands x_play_rules x_truth_ready x_truth_rows r8 x_fog_masks)) ⟨hx, hb, hml, hown, hts⟩ (c_X0_start l D cy t o_t_board o_t_play x_board_now x_play_w x_play_h x_play_hands hr8) (cwV 1 hts gX7_thinkTo_X0_start rfl rfl rfl ⟨rfl, hd_X0_start⟩ ⟨Nat.le_of_ble_eq_true rfl, Nat.le_of_ble_eq_true rfl⟩) hK hE hP hD hS hA [5, 6, 1] 9 0 0 rfl rfl rfl rfl (by decide +kernel) rfl rfl hl.1 rfl (Nat.le_of_ble_eq_true rfl) dX7_thinkTo_8 ⟨Nat.le_of_ble_eq_true rfl, Nat.le_of_ble_eq_true rfl⟩ (fun H locs hP hD hS => ?_)
  refine lv_aload_n hx hb dX7_thinkTo_11 rfl (lv_at hl 0 rfl) ?_
  refine va_get (D := D) (ci := 7) (v := .ref (o_t_fog 0)) (C := RX7) (T := TX7) (N := 12) hx hb hts k1 hown hK hP 0 rfl rfl 7 (by decide) k3 (fun _ h9 => h9) rfl dX7_thinkTo_12 ?_
  refine lv_aload_n hx hb dX7_thinkTo_15 rfl (lv_at hl 0 rfl) ?_
  refine va_get (D := D) (ci := 7) (v := .ref (o_t_board 0)) (C := RX7) (T := TX7) (N := 12) hx hb hts k1 hown hK hP 0 rfl rfl 4 (by decide) k0 (fun _ h9 => h9) rfl dX7_thinkTo_16 ?_
  refine va_get (D := D) (ci := 0) (v := .ref (o_t_board 1)) (C := RX0) (T := TX0) (N := 1) hx hb hts k5 hown hK hP 5 rfl rfl 0 (by decide) k4 (fun _ h9 => h9) rfl dX7_thinkTo_19 ?_
  refine lv_iload_n hx hb dX7_thinkTo_22 rfl (lv_at hl 2 rfl) ?_
  obtain ⟨v23, b23, ev23, hf⟩ := rd_s hf
  refine my_iald hx hb hK hP 6 rfl b23 ev23 dX7_thinkTo_23 ?_
  obtain ⟨r24, hr24, hf⟩ := bd_s hf
  refine my_Vv (WS2 := (wd_X7_thinkTo cy o_t o_t_play o_t_lines o_t_truth o_t_glassTrack o_t_board o_t_otherBoard o_t_fog o_t_crowd o_t_deal x_play_w x_play_h x_play_hands x_play_rules x_truth_ready x_truth_rows r8 r24)) ⟨hx, hb, hml, hown, hts⟩ (c_X3_setOnly l D cy t o_t_fog x_fog_masks v23 hr24) (cwV 1 hts gX7_thinkTo_X3_setOnly rfl rfl rfl ⟨rfl, hd_X3_setOnly⟩ ⟨Nat.le_of_ble_eq_true rfl, Nat.le_of_ble_eq_true rfl⟩) hK hE hP hD hS hA [7, 8] 9 3 0 rfl rfl rfl rfl (by decide +kernel) rfl rfl hl.1 rfl (Nat.le_of_ble_eq_true rfl) dX7_thinkTo_24 ⟨Nat.le_of_ble_eq_true rfl, Nat.le_of_ble_eq_true rfl⟩ (fun H locs hP hD hS => ?_)
  refine lv_iconst (v := (0 : Int32)) hx hb dX7_thinkTo_27 (by decide) ?_
  refine lv_istore (lv' := [(4, .int (0 : Int32)), (0, .ref (o_t 0)), (1, .int p1), (2, .int p2), (3, .int p3)]) hx hb dX7_thinkTo_28 hl (by decide) rfl (fun ls hl => ?_)
  exact h30 FU _ _ _ _ _ _ _ _ _ hf hP hD hS (lv_sub hl [1, 2, 3, 4, 0] rfl)
theorem hd_X7_thinkTo : yX7_thinkTo.cls ≠ "java/lang/invoke/MethodHandle" ∧ yX7_thinkTo.cls ≠ "java/lang/invoke/VarHandle" ∧ (parseMethodDescriptor yX7_thinkTo.desc).map (fun d => d.parameters.length) = some 3 := by decide +kernel
set_option maxRecDepth 100000 in
theorem c_X7_thinkTo (l : Launch) (D : va_G) (cy : Nat → ClassId) (t : Nat → Nat) (o_t o_t_play o_t_lines o_t_truth o_t_glassTrack o_t_board o_t_otherBoard o_t_fog o_t_crowd o_t_deal : Nat → Nat) (x_play_w : Int32) (x_play_h : Int32) (x_play_hands : Int32) (x_play_rules : Nat → Int32) (x_truth_ready : Int32) (x_truth_rows : Nat → Int32) (x_board_now : Nat → Int32) (x_fog_masks : Nat → Int32) (p1 : Int32) (p2 : Int32) (p3 : Int32) {out : (Nat → Int32) × (Nat → Int32)} (hf : X7_thinkTo x_play_w x_play_h x_play_hands x_play_rules x_truth_rows x_board_now x_fog_masks p1 p2 p3 = some out) : ctV l yX7_thinkTo wsX7_thinkTo 3 65 D cy t [.ref (o_t 0), .int p1, .int p2, .int p3] (wd_X7_thinkTo cy o_t o_t_play o_t_lines o_t_truth o_t_glassTrack o_t_board o_t_otherBoard o_t_fog o_t_crowd o_t_deal x_play_w x_play_h x_play_hands x_play_rules x_truth_ready x_truth_rows x_board_now x_fog_masks) (wd_X7_thinkTo cy o_t o_t_play o_t_lines o_t_truth o_t_glassTrack o_t_board o_t_otherBoard o_t_fog o_t_crowd o_t_deal x_play_w x_play_h x_play_hands x_play_rules x_truth_ready x_truth_rows out.1 out.2) := by
  refine ⟨rfl, ?_⟩
  intro sz
  refine Met.ofW (cc := cX7_thinkTo) (maxL := 5) (ret := none) (by decide) rfl ?_
  intro p e s m args below meth c s₁ B hml hv
  obtain ⟨rfl, hsz, hP, hK, hD0, hE⟩ := hv
  have hts := atoms_spec (ws := wsX7_thinkTo) B.pre
  have hown : s.vm.findClass RX7 = some m.cls := findClass_of_methodNamed B.named
  have hlocks := B.notSynchronized
  subst hsz
  have hD := hD0.self (sz := s.heap.size)
  have hl := lv_entry ([.ref (o_t 0), .int p1, .int p2, .int p3]) (n := 5) (Nat.le_of_ble_eq_true rfl)
  rw [lg_entry_eq]
  generalize (lg_sl ([.ref (o_t 0), .int p1, .int p2, .int p3]) ++ List.replicate (5 - (lg_sl ([.ref (o_t 0), .int p1, .int p2, .int p3])).length) Slot.unset).toArray = ls at hl ⊢
  exact w_X7_thinkTo D cy t o_t o_t_play o_t_lines o_t_truth o_t_glassTrack o_t_board o_t_otherBoard o_t_fog o_t_crowd o_t_deal x_play_w x_play_h x_play_hands x_play_rules x_truth_ready x_truth_rows x_board_now x_fog_masks p1 p2 p3 hf B.exec B.bytes hml hown hts hK hE (fun q h => Or.inr h) hP hD va_S.rf hl (fun H locs ls pc hP hD hS hdg => W.vret B.exec B.bytes B.returns (fun t ht hW => ⟨⟨(), rfl, trivial, ctB_of ht hP⟩, hS.F ht⟩) hS.2.2 hdg)

noncomputable def X7_slotsKept_J21 (x_kept : Nat → Int32) (rec4 : Int32 → Int32 → Option (Int32)) (l1 : Int32) (l2 : Int32) : Option (Int32) :=
  nm (l2 + (1 : Int32)) fun v21 => rec4  l1 v21
noncomputable def X7_slotsKept_L4_B (x_kept : Nat → Int32) (rec4 : Int32 → Int32 → Option (Int32)) (l1 : Int32) (l2 : Int32) : Option (Int32) :=
  if (4 : Int32) ≤ l2 then (some l1) else (rd x_kept 4 l2 fun v14 => if v14 = (0 : Int32) then (X7_slotsKept_J21 x_kept rec4  l1 l2) else (nm (l1 + (1 : Int32)) fun v18 => X7_slotsKept_J21 x_kept rec4  v18 l2))
noncomputable def X7_slotsKept_L4 (x_kept : Nat → Int32) : Nat → Int32 → Int32 → Option (Int32)
  | 0, _, _ => none
  | n + 1, y0, y1 => X7_slotsKept_L4_B x_kept  (X7_slotsKept_L4 x_kept  n) y0 y1
noncomputable def X7_slotsKept (x_kept : Nat → Int32) : Option (Int32) :=
  X7_slotsKept_L4 x_kept  FU  (0 : Int32) (0 : Int32)
abbrev wd_X7_slotsKept (cy : Nat → ClassId) (o_t o_t_play o_t_lines o_t_truth o_t_glassTrack o_t_board o_t_otherBoard o_t_fog o_t_crowd o_t_deal : Nat → Nat) (x_kept : Nat → Int32) : va_W := [(o_t 0, .inr (7, [.ref (o_t_play 0), .ref (o_t_lines 0), .ref (o_t_truth 0), .ref (o_t_glassTrack 0), .ref (o_t_board 0), .ref (o_t_otherBoard 0), .ref (o_t 7), .ref (o_t_fog 0), .ref (o_t_crowd 0), .ref (o_t_deal 0), .ref (o_t 11), .ref (o_t 12)])), (o_t 12, .inl (cy 1, 4, .inl x_kept))]
set_option maxHeartbeats 4000000 in
set_option maxRecDepth 100000 in
theorem w_X7_slotsKept {p : Program} {l : Launch} {e : Env} {s : State} {m : MethodId} {args : Array Value} {below : List Frame} {meth : Method} {c : Code} {Q : State → Prop} {A : Nat → Prop} {H : Heap} {locs : List Loc} {ls : Array Slot} (D : va_G) (cy : Nat → ClassId) (t : Nat → Nat) (o_t o_t_play o_t_lines o_t_truth o_t_glassTrack o_t_board o_t_otherBoard o_t_fog o_t_crowd o_t_deal : Nat → Nat) (x_kept : Nat → Int32) {out : Int32} (hf : X7_slotsKept x_kept = some out) (hx : p.tables.exec = Jvm.exec) (hb : c.code = cX7_slotsKept) (hml : c.maxLocals = 3) (hown : s.vm.findClass RX7 = some m.cls) (hts : ∀ w ∈ wsX7_slotsKept, w.before args s = true) (hK : va_K D vwCl (TYS cy) s) (hE : EV t A s s.heap) (hA : ∀ q, s.heap.size ≤ q → A q) (hP : va_P D vwCl (wd_X7_slotsKept cy o_t o_t_play o_t_lines o_t_truth o_t_glassTrack o_t_board o_t_otherBoard o_t_fog o_t_crowd o_t_deal x_kept) H) (hD : va_D A (wd_X7_slotsKept cy o_t o_t_play o_t_lines o_t_truth o_t_glassTrack o_t_board o_t_otherBoard o_t_fog o_t_crowd o_t_deal x_kept)) (hS : va_S A s.heap H locs) (hl : lv_has ls 3 [(0, .ref (o_t 0))]) (hR : ∀ (H : Heap) (locs : List Loc) (ls : Array Slot) (pc : Nat), va_P D vwCl (wd_X7_slotsKept cy o_t o_t_play o_t_lines o_t_truth o_t_glassTrack o_t_board o_t_otherBoard o_t_fog o_t_crowd o_t_deal x_kept) H → va_D A (wd_X7_slotsKept cy o_t o_t_play o_t_lines o_t_truth o_t_glassTrack o_t_board o_t_otherBoard o_t_fog o_t_crowd o_t_deal x_kept) → va_S A s.heap H locs → decode cX7_slotsKept pc = .ok (.ireturn, 1) → W p l e (rmm 0 0) s m args below meth c H locs 0 0 Q (F0 m pc ls [.int out])) : W p l e (rmm 0 0) s m args below meth c H locs 0 0 Q (F0 m 0 ls []) := by
  have k0 := hts (.fieldLink RX7 74 "SeaGames" "kept" "[Z") (List.mem_cons_of_mem _ (List.mem_append_left _ (List.mem_of_getElem? (i := 0) rfl)))
  have k1 : ∀ w ∈ u_ws RX7 TX7 12, w ∈ wsX7_slotsKept := fun _ h => List.mem_cons_of_mem _ (List.mem_append_right _ h)
  rw [X7_slotsKept] at hf
  have h4 : ∀ (n4 : Nat) (l1 : Int32) (l2 : Int32) (H : Heap) (locs : List Loc) (ls : Array Slot), X7_slotsKept_L4 x_kept n4 l1 l2 = some out → va_P D vwCl (wd_X7_slotsKept cy o_t o_t_play o_t_lines o_t_truth o_t_glassTrack o_t_board o_t_otherBoard o_t_fog o_t_crowd o_t_deal x_kept) H → va_D A (wd_X7_slotsKept cy o_t o_t_play o_t_lines o_t_truth o_t_glassTrack o_t_board o_t_otherBoard o_t_fog o_t_crowd o_t_deal x_kept) → va_S A s.heap H locs → lv_has ls 3 [(0, .ref (o_t 0)), (1, .int l1), (2, .int l2)] → W p l e (rmm 0 0) s m args below meth c H locs 0 0 Q (F0 m 4 ls []) := by
    intro n4
    induction n4 with
    | zero =>
      intro _ _ _ _ _ hf
      exact nomatch (show (none : Option _) = some out from hf)
    | succ n4 ih4 =>
      intro l1 l2 H locs ls hf hP hD hS hl
      have hf : X7_slotsKept_L4_B x_kept (X7_slotsKept_L4 x_kept n4) l1 l2 = some out := hf
      rw [X7_slotsKept_L4_B] at hf
      refine lv_iload_n hx hb dX7_slotsKept_4 rfl (lv_at hl 2 rfl) ?_
      refine lv_iconst (v := (4 : Int32)) hx hb dX7_slotsKept_5 (by decide) ?_
      refine lv_icmp_ge (tgt := 27) hx hb dX7_slotsKept_6 (by decide) (fun c6 => ?_) (fun c6 => ?_)
      · have hf := ifp c6 hf
        refine lv_iload_n hx hb dX7_slotsKept_27 rfl (lv_at hl 1 rfl) ?_
        obtain rfl := Option.some.inj hf
        exact hR _ _ _ _ hP hD hS dX7_slotsKept_28
      · have hf := ifn c6 hf
        have h21 : ∀ (l1 : Int32) (l2 : Int32) (H : Heap) (locs : List Loc) (ls : Array Slot), X7_slotsKept_J21 x_kept (X7_slotsKept_L4 x_kept n4) l1 l2 = some out → va_P D vwCl (wd_X7_slotsKept cy o_t o_t_play o_t_lines o_t_truth o_t_glassTrack o_t_board o_t_otherBoard o_t_fog o_t_crowd o_t_deal x_kept) H → va_D A (wd_X7_slotsKept cy o_t o_t_play o_t_lines o_t_truth o_t_glassTrack o_t_board o_t_otherBoard o_t_fog o_t_crowd o_t_deal x_kept) → va_S A s.heap H locs → lv_has ls 3 [(0, .ref (o_t 0)), (1, .int l1), (2, .int l2)] → W p l e (rmm 0 0) s m args below meth c H locs 0 0 Q (F0 m 21 ls []) := by
          intro l1 l2 H locs ls hf hP hD hS hl
          rw [X7_slotsKept_J21] at hf
          obtain ⟨v21, ev21, hf⟩ := nm_s hf
          refine lv_iinc (v := v21) (lv' := [(2, .int v21), (0, .ref (o_t 0)), (1, .int l1)]) hx hb dX7_slotsKept_21 hl (k := 2) rfl (by rw [ev21]; rfl) (by decide) rfl (fun ls hl => ?_)
          refine lv_goto (tgt := 4) hx hb dX7_slotsKept_24 (by decide) ?_
          exact ih4 _ _ _ _ _ hf hP hD hS (lv_sub hl [1, 2, 0] rfl)
        refine lv_aload_n hx hb dX7_slotsKept_9 rfl (lv_at hl 0 rfl) ?_
        refine va_get (D := D) (ci := 7) (v := .ref (o_t 12)) (C := RX7) (T := TX7) (N := 12) hx hb hts k1 hown hK hP 0 rfl rfl 11 (by decide) k0 (fun _ h9 => h9) rfl dX7_slotsKept_10 ?_
        refine lv_iload_n hx hb dX7_slotsKept_13 rfl (lv_at hl 2 rfl) ?_
        obtain ⟨v14, b14, ev14, hf⟩ := rd_s hf
        refine my_zald hx hb hK hP 1 rfl b14 ev14 dX7_slotsKept_14 ?_
        refine lv_if_eq (tgt := 21) hx hb dX7_slotsKept_15 (by decide) (fun c15 => ?_) (fun c15 => ?_)
        · have hf := ifp c15 hf
          exact h21 _ _ _ _ _ hf hP hD hS (lv_sub hl [0, 1, 2] rfl)
        · have hf := ifn c15 hf
          obtain ⟨v18, ev18, hf⟩ := nm_s hf
          refine lv_iinc (v := v18) (lv' := [(1, .int v18), (0, .ref (o_t 0)), (2, .int l2)]) hx hb dX7_slotsKept_18 hl (k := 1) rfl (by rw [ev18]; rfl) (by decide) rfl (fun ls hl => ?_)
          exact h21 _ _ _ _ _ hf hP hD hS (lv_sub hl [1, 0, 2] rfl)
  refine lv_iconst (v := (0 : Int32)) hx hb dX7_slotsKept_0 (by decide) ?_
  refine lv_istore_n (lv' := [(1, .int (0 : Int32)), (0, .ref (o_t 0))]) hx hb dX7_slotsKept_1 rfl hl (by decide) rfl (fun ls hl => ?_)
  refine lv_iconst (v := (0 : Int32)) hx hb dX7_slotsKept_2 (by decide) ?_
  refine lv_istore_n (lv' := [(2, .int (0 : Int32)), (1, .int (0 : Int32)), (0, .ref (o_t 0))]) hx hb dX7_slotsKept_3 rfl hl (by decide) rfl (fun ls hl => ?_)
  exact h4 FU _ _ _ _ _ hf hP hD hS (lv_sub hl [2, 1, 0] rfl)
theorem hd_X7_slotsKept : yX7_slotsKept.cls ≠ "java/lang/invoke/MethodHandle" ∧ yX7_slotsKept.cls ≠ "java/lang/invoke/VarHandle" ∧ (parseMethodDescriptor yX7_slotsKept.desc).map (fun d => d.parameters.length) = some 0 := by decide +kernel
set_option maxRecDepth 100000 in
theorem c_X7_slotsKept (l : Launch) (D : va_G) (cy : Nat → ClassId) (t : Nat → Nat) (o_t o_t_play o_t_lines o_t_truth o_t_glassTrack o_t_board o_t_otherBoard o_t_fog o_t_crowd o_t_deal : Nat → Nat) (x_kept : Nat → Int32) {out : Int32} (hf : X7_slotsKept x_kept = some out) : ctI l yX7_slotsKept wsX7_slotsKept 0 0 D cy t [.ref (o_t 0)] (wd_X7_slotsKept cy o_t o_t_play o_t_lines o_t_truth o_t_glassTrack o_t_board o_t_otherBoard o_t_fog o_t_crowd o_t_deal x_kept) (wd_X7_slotsKept cy o_t o_t_play o_t_lines o_t_truth o_t_glassTrack o_t_board o_t_otherBoard o_t_fog o_t_crowd o_t_deal x_kept) out := by
  refine ⟨rfl, ?_⟩
  intro sz
  refine Met.ofW (cc := cX7_slotsKept) (maxL := 3) (ret := (some .int)) (by decide) rfl ?_
  intro p e s m args below meth c s₁ B hml hv
  obtain ⟨rfl, hsz, hP, hK, hD0, hE⟩ := hv
  have hts := atoms_spec (ws := wsX7_slotsKept) B.pre
  have hown : s.vm.findClass RX7 = some m.cls := findClass_of_methodNamed B.named
  have hlocks := B.notSynchronized
  subst hsz
  have hD := hD0.self (sz := s.heap.size)
  have hl := lv_entry ([.ref (o_t 0)]) (n := 3) (Nat.le_of_ble_eq_true rfl)
  rw [lg_entry_eq]
  generalize (lg_sl ([.ref (o_t 0)]) ++ List.replicate (3 - (lg_sl ([.ref (o_t 0)])).length) Slot.unset).toArray = ls at hl ⊢
  exact w_X7_slotsKept D cy t o_t o_t_play o_t_lines o_t_truth o_t_glassTrack o_t_board o_t_otherBoard o_t_fog o_t_crowd o_t_deal x_kept hf B.exec B.bytes hml hown hts hK hE (fun q h => Or.inr h) hP hD va_S.rf hl (fun H locs ls pc hP hD hS hdg => W.iret B.exec B.bytes B.returns (fun t ht hW => ⟨⟨_, (), rfl, rfl, ctB_of ht hP⟩, hS.F ht⟩) hS.2.2 hdg)

noncomputable def X7_field (x_play_w : Int32) (x_play_h : Int32) (x_play_hands : Int32) (x_play_pressRow : Nat → Int32) (x_play_leftFrom : Nat → Int32) (x_play_leftTo : Nat → Int32) (x_lines_waits : Nat → Int32) (x_lines_lostRow : Nat → Int32) (x_truth_ready : Int32) (p1 : Int32) (p2 : Int32) (p3 : Int32) : Option (Int32 × Int32 × Int32 × Int32 × (Nat → Int32) × (Nat → Int32) × (Nat → Int32) × (Nat → Int32) × (Nat → Int32) × Int32) :=
  bd (X7_isSide p1) fun r1 => if r1 = (0 : Int32) then (some ((-2 : Int32), x_play_w, x_play_h, x_play_hands, x_play_pressRow, x_play_leftFrom, x_play_leftTo, x_lines_waits, x_lines_lostRow, x_truth_ready)) else (bd (X7_isSide p2) fun r8 => if r8 = (0 : Int32) then (some ((-2 : Int32), x_play_w, x_play_h, x_play_hands, x_play_pressRow, x_play_leftFrom, x_play_leftTo, x_lines_waits, x_lines_lostRow, x_truth_ready)) else (if p3 < (2 : Int32) then (some ((-2 : Int32), x_play_w, x_play_h, x_play_hands, x_play_pressRow, x_play_leftFrom, x_play_leftTo, x_lines_waits, x_lines_lostRow, x_truth_ready)) else (if p3 ≤ (6 : Int32) then (bd (X5_clear x_play_w x_play_h x_play_hands x_play_pressRow x_play_leftFrom x_play_leftTo p1 p2 p3) fun r35 => bd (X4_clear x_lines_waits x_lines_lostRow) fun r42 => bd (X6_keepBelow x_truth_ready (0 : Int32)) fun r50 => some ((p1 * p2), r35.1, r35.2.1, r35.2.2.1, r35.2.2.2.1, r35.2.2.2.2.1, r35.2.2.2.2.2, r42.1, r42.2, r50)) else (some ((-2 : Int32), x_play_w, x_play_h, x_play_hands, x_play_pressRow, x_play_leftFrom, x_play_leftTo, x_lines_waits, x_lines_lostRow, x_truth_ready)))))
abbrev wd_X7_field (cy : Nat → ClassId) (o_t o_t_play o_t_lines o_t_truth o_t_glassTrack o_t_board o_t_otherBoard o_t_fog o_t_crowd o_t_deal : Nat → Nat) (x_play_w : Int32) (x_play_h : Int32) (x_play_hands : Int32) (x_play_pressRow : Nat → Int32) (x_play_leftFrom : Nat → Int32) (x_play_leftTo : Nat → Int32) (x_lines_waits : Nat → Int32) (x_lines_lostRow : Nat → Int32) (x_truth_ready : Int32) : va_W := [(o_t 0, .inr (7, [.ref (o_t_play 0), .ref (o_t_lines 0), .ref (o_t_truth 0), .ref (o_t_glassTrack 0), .ref (o_t_board 0), .ref (o_t_otherBoard 0), .ref (o_t 7), .ref (o_t_fog 0), .ref (o_t_crowd 0), .ref (o_t_deal 0), .ref (o_t 11), .ref (o_t 12)])), (o_t_play 0, .inr (5, [.int x_play_w, .int x_play_h, .int x_play_hands, .ref (o_t_play 4), .ref (o_t_play 5), .ref (o_t_play 6), .ref (o_t_play 7)])), (o_t_play 5, .inl (cy 0, 600, .inl x_play_pressRow)), (o_t_play 6, .inl (cy 0, 6, .inl x_play_leftFrom)), (o_t_play 7, .inl (cy 0, 6, .inl x_play_leftTo)), (o_t_lines 0, .inr (4, [.ref (o_t_play 0), .ref (o_t_lines 2), .ref (o_t_lines 3)])), (o_t_lines 2, .inl (cy 0, 36, .inl x_lines_waits)), (o_t_lines 3, .inl (cy 1, 600, .inl x_lines_lostRow)), (o_t_truth 0, .inr (6, [.ref (o_t_truth 1), .int x_truth_ready]))]
set_option maxHeartbeats 4000000 in
set_option maxRecDepth 100000 in
theorem w_X7_field {p : Program} {l : Launch} {e : Env} {s : State} {m : MethodId} {args : Array Value} {below : List Frame} {meth : Method} {c : Code} {Q : State → Prop} {A : Nat → Prop} {H : Heap} {locs : List Loc} {ls : Array Slot} (D : va_G) (cy : Nat → ClassId) (t : Nat → Nat) (o_t o_t_play o_t_lines o_t_truth o_t_glassTrack o_t_board o_t_otherBoard o_t_fog o_t_crowd o_t_deal : Nat → Nat) (x_play_w : Int32) (x_play_h : Int32) (x_play_hands : Int32) (x_play_pressRow : Nat → Int32) (x_play_leftFrom : Nat → Int32) (x_play_leftTo : Nat → Int32) (x_lines_waits : Nat → Int32) (x_lines_lostRow : Nat → Int32) (x_truth_ready : Int32) (p1 : Int32) (p2 : Int32) (p3 : Int32) {out : Int32 × Int32 × Int32 × Int32 × (Nat → Int32) × (Nat → Int32) × (Nat → Int32) × (Nat → Int32) × (Nat → Int32) × Int32} (hf : X7_field x_play_w x_play_h x_play_hands x_play_pressRow x_play_leftFrom x_play_leftTo x_lines_waits x_lines_lostRow x_truth_ready p1 p2 p3 = some out) (hx : p.tables.exec = Jvm.exec) (hb : c.code = cX7_field) (hml : c.maxLocals = 4) (hown : s.vm.findClass RX7 = some m.cls) (hts : ∀ w ∈ wsX7_field, w.before args s = true) (hK : va_K D vwCl (TYS cy) s) (hE : EV t A s s.heap) (hA : ∀ q, s.heap.size ≤ q → A q) (hP : va_P D vwCl (wd_X7_field cy o_t o_t_play o_t_lines o_t_truth o_t_glassTrack o_t_board o_t_otherBoard o_t_fog o_t_crowd o_t_deal x_play_w x_play_h x_play_hands x_play_pressRow x_play_leftFrom x_play_leftTo x_lines_waits x_lines_lostRow x_truth_ready) H) (hD : va_D A (wd_X7_field cy o_t o_t_play o_t_lines o_t_truth o_t_glassTrack o_t_board o_t_otherBoard o_t_fog o_t_crowd o_t_deal x_play_w x_play_h x_play_hands x_play_pressRow x_play_leftFrom x_play_leftTo x_lines_waits x_lines_lostRow x_truth_ready)) (hS : va_S A s.heap H locs) (hl : lv_has ls 4 [(0, .ref (o_t 0)), (1, .int p1), (2, .int p2), (3, .int p3)]) (hR : ∀ (H : Heap) (locs : List Loc) (ls : Array Slot) (pc : Nat), va_P D vwCl (wd_X7_field cy o_t o_t_play o_t_lines o_t_truth o_t_glassTrack o_t_board o_t_otherBoard o_t_fog o_t_crowd o_t_deal out.2.1 out.2.2.1 out.2.2.2.1 out.2.2.2.2.1 out.2.2.2.2.2.1 out.2.2.2.2.2.2.1 out.2.2.2.2.2.2.2.1 out.2.2.2.2.2.2.2.2.1 out.2.2.2.2.2.2.2.2.2) H → va_D A (wd_X7_field cy o_t o_t_play o_t_lines o_t_truth o_t_glassTrack o_t_board o_t_otherBoard o_t_fog o_t_crowd o_t_deal out.2.1 out.2.2.1 out.2.2.2.1 out.2.2.2.2.1 out.2.2.2.2.2.1 out.2.2.2.2.2.2.1 out.2.2.2.2.2.2.2.1 out.2.2.2.2.2.2.2.2.1 out.2.2.2.2.2.2.2.2.2) → va_S A s.heap H locs → decode cX7_field pc = .ok (.ireturn, 1) → W p l e (rmm 2 46) s m args below meth c H locs 0 0 Q (F0 m pc ls [.int out.1])) : W p l e (rmm 2 46) s m args below meth c H locs 0 0 Q (F0 m 0 ls []) := by
  have k0 := hts (.fieldLink RX7 10 "SeaGames" "play" "LSeaGames$Play;") (List.mem_cons_of_mem _ (List.mem_append_left _ (List.mem_append_left _ (List.mem_append_left _ (List.mem_append_left _ (List.mem_append_left _ (List.mem_of_getElem? (i := 0) rfl)))))))
  have k1 : ∀ w ∈ u_ws RX7 TX7 12, w ∈ wsX7_field := fun _ h => List.mem_cons_of_mem _ (List.mem_append_left _ (List.mem_append_left _ (List.mem_append_left _ (List.mem_append_right _ h))))
  have k2 := hts (.fieldLink RX7 21 "SeaGames" "lines" "LSeaGames$Lines;") (List.mem_cons_of_mem _ (List.mem_append_left _ (List.mem_append_left _ (List.mem_append_left _ (List.mem_append_left _ (List.mem_append_left _ (List.mem_of_getElem? (i := 1) rfl)))))))
  have k3 := hts (.fieldLink RX7 28 "SeaGames" "truth" "LSeaGames$Track;") (List.mem_cons_of_mem _ (List.mem_append_left _ (List.mem_append_left _ (List.mem_append_left _ (List.mem_append_left _ (List.mem_append_left _ (List.mem_of_getElem? (i := 2) rfl)))))))
  rw [X7_field] at hf
  refine lv_iload_n hx hb dX7_field_0 rfl (lv_at hl 1 rfl) ?_
  obtain ⟨r1, hr1, hf⟩ := bd_s hf
  refine my_Si (WS2 := (wd_X7_field cy o_t o_t_play o_t_lines o_t_truth o_t_glassTrack o_t_board o_t_otherBoard o_t_fog o_t_crowd o_t_deal x_play_w x_play_h x_play_hands x_play_pressRow x_play_leftFrom x_play_leftTo x_lines_waits x_lines_lostRow x_truth_ready)) ⟨hx, hb, hml, hown, hts⟩ (c_X7_isSide l D cy t p1 hr1) (va_cwS 1 hts gX7_field_X7_isSide rfl rfl rfl hd_X7_isSide ⟨Nat.le_of_ble_eq_true rfl, Nat.le_of_ble_eq_true rfl⟩) hK hE hP hD hS hA [] 9 rfl rfl (by decide +kernel) rfl rfl hl.1 rfl (Nat.le_of_ble_eq_true rfl) dX7_field_1 ⟨Nat.le_of_ble_eq_true rfl, Nat.le_of_ble_eq_true rfl⟩ (fun H locs hP hD hS => ?_)
  refine lv_if_eq (tgt := 25) hx hb dX7_field_4 (by decide) (fun c4 => ?_) (fun c4 => ?_)
  · have hf := ifp c4 hf
    refine lv_bipush (v := (-2 : Int32)) hx hb dX7_field_25 (by decide) ?_
    obtain rfl := Option.some.inj hf
    exact hR _ _ _ _ hP hD hS dX7_field_27
  · have hf := ifn c4 hf
    refine lv_iload_n hx hb dX7_field_7 rfl (lv_at hl 2 rfl) ?_
    obtain ⟨r8, hr8, hf⟩ := bd_s hf
    refine my_Si (WS2 := (wd_X7_field cy o_t o_t_play o_t_lines o_t_truth o_t_glassTrack o_t_board o_t_otherBoard o_t_fog o_t_crowd o_t_deal x_play_w x_play_h x_play_hands x_play_pressRow x_play_leftFrom x_play_leftTo x_lines_waits x_lines_lostRow x_truth_ready)) ⟨hx, hb, hml, hown, hts⟩ (c_X7_isSide l D cy t p2 hr8) (va_cwS 1 hts gX7_field_X7_isSide rfl rfl rfl hd_X7_isSide ⟨Nat.le_of_ble_eq_true rfl, Nat.le_of_ble_eq_true rfl⟩) hK hE hP hD hS hA [] 9 rfl rfl (by decide +kernel) rfl rfl hl.1 rfl (Nat.le_of_ble_eq_true rfl) dX7_field_8 ⟨Nat.le_of_ble_eq_true rfl, Nat.le_of_ble_eq_true rfl⟩ (fun H locs hP hD hS => ?_)
    refine lv_if_eq (tgt := 25) hx hb dX7_field_11 (by decide) (fun c11 => ?_) (fun c11 => ?_)
    · have hf := ifp c11 hf
      refine lv_bipush (v := (-2 : Int32)) hx hb dX7_field_25 (by decide) ?_
      obtain rfl := Option.some.inj hf
      exact hR _ _ _ _ hP hD hS dX7_field_27
    · have hf := ifn c11 hf
      refine lv_iload_n hx hb dX7_field_14 rfl (lv_at hl 3 rfl) ?_
      refine lv_iconst (v := (2 : Int32)) hx hb dX7_field_15 (by decide) ?_
      refine lv_icmp_lt (tgt := 25) hx hb dX7_field_16 (by decide) (fun c16 => ?_) (fun c16 => ?_)
      · have hf := ifp c16 hf
        refine lv_bipush (v := (-2 : Int32)) hx hb dX7_field_25 (by decide) ?_
        obtain rfl := Option.some.inj hf
        exact hR _ _ _ _ hP hD hS dX7_field_27
      · have hf := ifn c16 hf
        refine lv_iload_n hx hb dX7_field_19 rfl (lv_at hl 3 rfl) ?_
        refine lv_bipush (v := (6 : Int32)) hx hb dX7_field_20 (by decide) ?_
        refine lv_icmp_le (tgt := 28) hx hb dX7_field_22 (by decide) (fun c22 => ?_) (fun c22 => ?_)
        · have hf := ifp c22 hf
          refine lv_aload_n hx hb dX7_field_28 rfl (lv_at hl 0 rfl) ?_
          refine va_get (D := D) (ci := 7) (v := .ref (o_t_play 0)) (C := RX7) (T := TX7) (N := 12) hx hb hts k1 hown hK hP 0 rfl rfl 0 (by decide) k0 (fun _ h9 => h9) rfl dX7_field_29 ?_
          refine lv_iload_n hx hb dX7_field_32 rfl (lv_at hl 1 rfl) ?_
          refine lv_iload_n hx hb dX7_field_33 rfl (lv_at hl 2 rfl) ?_
          refine lv_iload_n hx hb dX7_field_34 rfl (lv_at hl 3 rfl) ?_
          obtain ⟨r35, hr35, hf⟩ := bd_s hf
          refine my_Vv (WS2 := (wd_X7_field cy o_t o_t_play o_t_lines o_t_truth o_t_glassTrack o_t_board o_t_otherBoard o_t_fog o_t_crowd o_t_deal r35.1 r35.2.1 r35.2.2.1 r35.2.2.2.1 r35.2.2.2.2.1 r35.2.2.2.2.2 x_lines_waits x_lines_lostRow x_truth_ready)) ⟨hx, hb, hml, hown, hts⟩ (c_X5_clear l D cy t o_t_play x_play_w x_play_h x_play_hands x_play_pressRow x_play_leftFrom x_play_leftTo p1 p2 p3 hr35) (cwV 3 hts gX7_field_X5_clear rfl rfl rfl ⟨rfl, hd_X5_clear⟩ ⟨Nat.le_of_ble_eq_true rfl, Nat.le_of_ble_eq_true rfl⟩) hK hE hP hD hS hA [1, 2, 3, 4] 9 5 0 rfl rfl rfl rfl (by decide +kernel) rfl rfl hl.1 rfl (Nat.le_of_ble_eq_true rfl) dX7_field_35 ⟨Nat.le_of_ble_eq_true rfl, Nat.le_of_ble_eq_true rfl⟩ (fun H locs hP hD hS => ?_)
          refine lv_aload_n hx hb dX7_field_38 rfl (lv_at hl 0 rfl) ?_
          refine va_get (D := D) (ci := 7) (v := .ref (o_t_lines 0)) (C := RX7) (T := TX7) (N := 12) hx hb hts k1 hown hK hP 0 rfl rfl 1 (by decide) k2 (fun _ h9 => h9) rfl dX7_field_39 ?_
          obtain ⟨r42, hr42, hf⟩ := bd_s hf
          refine my_Vv (WS2 := (wd_X7_field cy o_t o_t_play o_t_lines o_t_truth o_t_glassTrack o_t_board o_t_otherBoard o_t_fog o_t_crowd o_t_deal r35.1 r35.2.1 r35.2.2.1 r35.2.2.2.1 r35.2.2.2.2.1 r35.2.2.2.2.2 r42.1 r42.2 x_truth_ready)) ⟨hx, hb, hml, hown, hts⟩ (c_X4_clear l D cy t o_t_lines o_t_play x_lines_waits x_lines_lostRow hr42) (cwV 0 hts gX7_field_X4_clear rfl rfl rfl ⟨rfl, hd_X4_clear⟩ ⟨Nat.le_of_ble_eq_true rfl, Nat.le_of_ble_eq_true rfl⟩) hK hE hP hD hS hA [5, 6, 7] 9 4 0 rfl rfl rfl rfl (by decide +kernel) rfl rfl hl.1 rfl (Nat.le_of_ble_eq_true rfl) dX7_field_42 ⟨Nat.le_of_ble_eq_true rfl, Nat.le_of_ble_eq_true rfl⟩ (fun H locs hP hD hS => ?_)
          refine lv_aload_n hx hb dX7_field_45 rfl (lv_at hl 0 rfl) ?_
          refine va_get (D := D) (ci := 7) (v := .ref (o_t_truth 0)) (C := RX7) (T := TX7) (N := 12) hx hb hts k1 hown hK hP 0 rfl rfl 2 (by decide) k3 (fun _ h9 => h9) rfl dX7_field_46 ?_
          refine lv_iconst (v := (0 : Int32)) hx hb dX7_field_49 (by decide) ?_
          obtain ⟨r50, hr50, hf⟩ := bd_s hf
          refine my_Vv (WS2 := (wd_X7_field cy o_t o_t_play o_t_lines o_t_truth o_t_glassTrack o_t_board o_t_otherBoard o_t_fog o_t_crowd o_t_deal r35.1 r35.2.1 r35.2.2.1 r35.2.2.2.1 r35.2.2.2.2.1 r35.2.2.2.2.2 r42.1 r42.2 r50)) ⟨hx, hb, hml, hown, hts⟩ (c_X6_keepBelow l D cy t o_t_truth x_truth_ready (0 : Int32) hr50) (cwV 1 hts gX7_field_X6_keepBelow rfl rfl rfl ⟨rfl, hd_X6_keepBelow⟩ ⟨Nat.le_of_ble_eq_true rfl, Nat.le_of_ble_eq_true rfl⟩) hK hE hP hD hS hA [8] 9 6 0 rfl rfl rfl rfl (by decide +kernel) rfl rfl hl.1 rfl (Nat.le_of_ble_eq_true rfl) dX7_field_50 ⟨Nat.le_of_ble_eq_true rfl, Nat.le_of_ble_eq_true rfl⟩ (fun H locs hP hD hS => ?_)
          refine lv_iload_n hx hb dX7_field_53 rfl (lv_at hl 1 rfl) ?_
          refine lv_iload_n hx hb dX7_field_54 rfl (lv_at hl 2 rfl) ?_
          refine lv_imul hx hb dX7_field_55 ?_
          obtain rfl := Option.some.inj hf
          exact hR _ _ _ _ hP hD hS dX7_field_56
        · have hf := ifn c22 hf
          refine lv_bipush (v := (-2 : Int32)) hx hb dX7_field_25 (by decide) ?_
          obtain rfl := Option.some.inj hf
          exact hR _ _ _ _ hP hD hS dX7_field_27
theorem hd_X7_field : yX7_field.cls ≠ "java/lang/invoke/MethodHandle" ∧ yX7_field.cls ≠ "java/lang/invoke/VarHandle" ∧ (parseMethodDescriptor yX7_field.desc).map (fun d => d.parameters.length) = some 3 := by decide +kernel
set_option maxRecDepth 100000 in
theorem c_X7_field (l : Launch) (D : va_G) (cy : Nat → ClassId) (t : Nat → Nat) (o_t o_t_play o_t_lines o_t_truth o_t_glassTrack o_t_board o_t_otherBoard o_t_fog o_t_crowd o_t_deal : Nat → Nat) (x_play_w : Int32) (x_play_h : Int32) (x_play_hands : Int32) (x_play_pressRow : Nat → Int32) (x_play_leftFrom : Nat → Int32) (x_play_leftTo : Nat → Int32) (x_lines_waits : Nat → Int32) (x_lines_lostRow : Nat → Int32) (x_truth_ready : Int32) (p1 : Int32) (p2 : Int32) (p3 : Int32) {out : Int32 × Int32 × Int32 × Int32 × (Nat → Int32) × (Nat → Int32) × (Nat → Int32) × (Nat → Int32) × (Nat → Int32) × Int32} (hf : X7_field x_play_w x_play_h x_play_hands x_play_pressRow x_play_leftFrom x_play_leftTo x_lines_waits x_lines_lostRow x_truth_ready p1 p2 p3 = some out) : ctI l yX7_field wsX7_field 2 46 D cy t [.ref (o_t 0), .int p1, .int p2, .int p3] (wd_X7_field cy o_t o_t_play o_t_lines o_t_truth o_t_glassTrack o_t_board o_t_otherBoard o_t_fog o_t_crowd o_t_deal x_play_w x_play_h x_play_hands x_play_pressRow x_play_leftFrom x_play_leftTo x_lines_waits x_lines_lostRow x_truth_ready) (wd_X7_field cy o_t o_t_play o_t_lines o_t_truth o_t_glassTrack o_t_board o_t_otherBoard o_t_fog o_t_crowd o_t_deal out.2.1 out.2.2.1 out.2.2.2.1 out.2.2.2.2.1 out.2.2.2.2.2.1 out.2.2.2.2.2.2.1 out.2.2.2.2.2.2.2.1 out.2.2.2.2.2.2.2.2.1 out.2.2.2.2.2.2.2.2.2) out.1 := by
  refine ⟨rfl, ?_⟩
  intro sz
  refine Met.ofW (cc := cX7_field) (maxL := 4) (ret := (some .int)) (by decide) rfl ?_
  intro p e s m args below meth c s₁ B hml hv
  obtain ⟨rfl, hsz, hP, hK, hD0, hE⟩ := hv
  have hts := atoms_spec (ws := wsX7_field) B.pre
  have hown : s.vm.findClass RX7 = some m.cls := findClass_of_methodNamed B.named
  have hlocks := B.notSynchronized
  subst hsz
  have hD := hD0.self (sz := s.heap.size)
  have hl := lv_entry ([.ref (o_t 0), .int p1, .int p2, .int p3]) (n := 4) (Nat.le_of_ble_eq_true rfl)
  rw [lg_entry_eq]
  generalize (lg_sl ([.ref (o_t 0), .int p1, .int p2, .int p3]) ++ List.replicate (4 - (lg_sl ([.ref (o_t 0), .int p1, .int p2, .int p3])).length) Slot.unset).toArray = ls at hl ⊢
  exact w_X7_field D cy t o_t o_t_play o_t_lines o_t_truth o_t_glassTrack o_t_board o_t_otherBoard o_t_fog o_t_crowd o_t_deal x_play_w x_play_h x_play_hands x_play_pressRow x_play_leftFrom x_play_leftTo x_lines_waits x_lines_lostRow x_truth_ready p1 p2 p3 hf B.exec B.bytes hml hown hts hK hE (fun q h => Or.inr h) hP hD va_S.rf hl (fun H locs ls pc hP hD hS hdg => W.iret B.exec B.bytes B.returns (fun t ht hW => ⟨⟨_, (), rfl, rfl, ctB_of ht hP⟩, hS.F ht⟩) hS.2.2 hdg)

noncomputable def X7_rule (x_play_rules : Nat → Int32) (x_truth_ready : Int32) (p1 : Int32) (p2 : Int32) : Option (Int32 × (Nat → Int32) × Int32) :=
  if p1 < (0 : Int32) then (some ((-2 : Int32), x_play_rules, x_truth_ready)) else (if (6 : Int32) < p1 then (some ((-2 : Int32), x_play_rules, x_truth_ready)) else (rd st_least 7 p1 fun v15 => if p2 < v15 then (some ((-2 : Int32), x_play_rules, x_truth_ready)) else (rd st_most 7 p1 fun v24 => if p2 ≤ v24 then (rd x_play_rules 7 p1 fun v39 => wrI x_play_rules 7 p1 p2 fun w50 => if (2 : Int32) < p1 then (some (v39, w50, x_truth_ready)) else (bd (X6_keepBelow x_truth_ready (0 : Int32)) fun r61 => some (v39, w50, r61))) else (some ((-2 : Int32), x_play_rules, x_truth_ready)))))
abbrev wd_X7_rule (cy : Nat → ClassId) (o_t o_t_play o_t_lines o_t_truth o_t_glassTrack o_t_board o_t_otherBoard o_t_fog o_t_crowd o_t_deal : Nat → Nat) (x_play_w : Int32) (x_play_h : Int32) (x_play_hands : Int32) (x_play_rules : Nat → Int32) (x_truth_ready : Int32) : va_W := [(o_t 0, .inr (7, [.ref (o_t_play 0), .ref (o_t_lines 0), .ref (o_t_truth 0), .ref (o_t_glassTrack 0), .ref (o_t_board 0), .ref (o_t_otherBoard 0), .ref (o_t 7), .ref (o_t_fog 0), .ref (o_t_crowd 0), .ref (o_t_deal 0), .ref (o_t 11), .ref (o_t 12)])), (o_t_play 0, .inr (5, [.int x_play_w, .int x_play_h, .int x_play_hands, .ref (o_t_play 4), .ref (o_t_play 5), .ref (o_t_play 6), .ref (o_t_play 7)])), (o_t_play 4, .inl (cy 0, 7, .inl x_play_rules)), (o_t_truth 0, .inr (6, [.ref (o_t_truth 1), .int x_truth_ready]))]
set_option maxHeartbeats 4000000 in
set_option maxRecDepth 100000 in
theorem w_X7_rule {p : Program} {l : Launch} {e : Env} {s : State} {m : MethodId} {args : Array Value} {below : List Frame} {meth : Method} {c : Code} {Q : State → Prop} {A : Nat → Prop} {H : Heap} {locs : List Loc} {ls : Array Slot} (D : va_G) (cy : Nat → ClassId) (t : Nat → Nat) (o_t o_t_play o_t_lines o_t_truth o_t_glassTrack o_t_board o_t_otherBoard o_t_fog o_t_crowd o_t_deal : Nat → Nat) (x_play_w : Int32) (x_play_h : Int32) (x_play_hands : Int32) (x_play_rules : Nat → Int32) (x_truth_ready : Int32) (p1 : Int32) (p2 : Int32) {out : Int32 × (Nat → Int32) × Int32} (hf : X7_rule x_play_rules x_truth_ready p1 p2 = some out) (hx : p.tables.exec = Jvm.exec) (hb : c.code = cX7_rule) (hml : c.maxLocals = 4) (hown : s.vm.findClass RX7 = some m.cls) (hts : ∀ w ∈ wsX7_rule, w.before args s = true) (hK : va_K D vwCl (TYS cy) s) (hE : EV t A s s.heap) (hA : ∀ q, s.heap.size ≤ q → A q) (hP : va_P D vwCl (wd_X7_rule cy o_t o_t_play o_t_lines o_t_truth o_t_glassTrack o_t_board o_t_otherBoard o_t_fog o_t_crowd o_t_deal x_play_w x_play_h x_play_hands x_play_rules x_truth_ready) H) (hD : va_D A (wd_X7_rule cy o_t o_t_play o_t_lines o_t_truth o_t_glassTrack o_t_board o_t_otherBoard o_t_fog o_t_crowd o_t_deal x_play_w x_play_h x_play_hands x_play_rules x_truth_ready)) (hS : va_S A s.heap H locs) (hl : lv_has ls 4 [(0, .ref (o_t 0)), (1, .int p1), (2, .int p2)]) (hR : ∀ (H : Heap) (locs : List Loc) (ls : Array Slot) (pc : Nat), va_P D vwCl (wd_X7_rule cy o_t o_t_play o_t_lines o_t_truth o_t_glassTrack o_t_board o_t_otherBoard o_t_fog o_t_crowd o_t_deal x_play_w x_play_h x_play_hands out.2.1 out.2.2) H → va_D A (wd_X7_rule cy o_t o_t_play o_t_lines o_t_truth o_t_glassTrack o_t_board o_t_otherBoard o_t_fog o_t_crowd o_t_deal x_play_w x_play_h x_play_hands out.2.1 out.2.2) → va_S A s.heap H locs → decode cX7_rule pc = .ok (.ireturn, 1) → W p l e (rmm 2 42) s m args below meth c H locs 0 0 Q (F0 m pc ls [.int out.1])) : W p l e (rmm 2 42) s m args below meth c H locs 0 0 Q (F0 m 0 ls []) := by
  have k0 := hts (.fieldLink RX7 92 "SeaGames" "LEAST_RULE" "[I") (List.mem_cons_of_mem _ (List.mem_append_left _ (List.mem_append_left _ (List.mem_append_left _ (List.mem_of_getElem? (i := 0) rfl)))))
  have k1 := hts (.fieldLink RX7 95 "SeaGames" "MOST_RULE" "[I") (List.mem_cons_of_mem _ (List.mem_append_left _ (List.mem_append_left _ (List.mem_append_left _ (List.mem_of_getElem? (i := 1) rfl)))))
  have k2 := hts (.fieldLink RX7 10 "SeaGames" "play" "LSeaGames$Play;") (List.mem_cons_of_mem _ (List.mem_append_left _ (List.mem_append_left _ (List.mem_append_left _ (List.mem_of_getElem? (i := 2) rfl)))))
  have k3 : ∀ w ∈ u_ws RX7 TX7 12, w ∈ wsX7_rule := fun _ h => List.mem_cons_of_mem _ (List.mem_append_left _ (List.mem_append_left _ (List.mem_append_right _ h)))
  have k4 := hts (.fieldLink RX7 98 "SeaGames$Play" "rules" "[I") (List.mem_cons_of_mem _ (List.mem_append_left _ (List.mem_append_left _ (List.mem_append_left _ (List.mem_of_getElem? (i := 3) rfl)))))
  have k5 : ∀ w ∈ u_ws RX5 TX5 7, w ∈ wsX7_rule := fun _ h => List.mem_cons_of_mem _ (List.mem_append_left _ (List.mem_append_right _ h))
  have k6 := hts (.fieldLink RX7 28 "SeaGames" "truth" "LSeaGames$Track;") (List.mem_cons_of_mem _ (List.mem_append_left _ (List.mem_append_left _ (List.mem_append_left _ (List.mem_of_getElem? (i := 4) rfl)))))
  rw [X7_rule] at hf
  refine lv_iload_n hx hb dX7_rule_0 rfl (lv_at hl 1 rfl) ?_
  refine lv_if_lt (tgt := 28) hx hb dX7_rule_1 (by decide) (fun c1 => ?_) (fun c1 => ?_)
  · have hf := ifp c1 hf
    refine lv_bipush (v := (-2 : Int32)) hx hb dX7_rule_28 (by decide) ?_
    obtain rfl := Option.some.inj hf
    exact hR _ _ _ _ hP hD hS dX7_rule_30
  · have hf := ifn c1 hf
    refine lv_iload_n hx hb dX7_rule_4 rfl (lv_at hl 1 rfl) ?_
    refine lv_bipush (v := (6 : Int32)) hx hb dX7_rule_5 (by decide) ?_
    refine lv_icmp_gt (tgt := 28) hx hb dX7_rule_7 (by decide) (fun c7 => ?_) (fun c7 => ?_)
    · have hf := ifp c7 hf
      refine lv_bipush (v := (-2 : Int32)) hx hb dX7_rule_28 (by decide) ?_
      obtain rfl := Option.some.inj hf
      exact hR _ _ _ _ hP hD hS dX7_rule_30
    · have hf := ifn c7 hf
      refine lv_iload_n hx hb dX7_rule_10 rfl (lv_at hl 2 rfl) ?_
      refine va_gets hx hb hE.1.2.1.1 hS hown k0 (fun _ h9 => h9) dX7_rule_11 ?_
      refine lv_iload_n hx hb dX7_rule_14 rfl (lv_at hl 1 rfl) ?_
      obtain ⟨v15, b15, ev15, hf⟩ := rd_s hf
      refine my_tald hx hb hE.1.2.1.2 hS b15 ev15 dX7_rule_15 ?_
      refine lv_icmp_lt (tgt := 28) hx hb dX7_rule_16 (by decide) (fun c16 => ?_) (fun c16 => ?_)
      · have hf := ifp c16 hf
        refine lv_bipush (v := (-2 : Int32)) hx hb dX7_rule_28 (by decide) ?_
        obtain rfl := Option.some.inj hf
        exact hR _ _ _ _ hP hD hS dX7_rule_30
      · have hf := ifn c16 hf
        refine lv_iload_n hx hb dX7_rule_19 rfl (lv_at hl 2 rfl) ?_
        refine va_gets hx hb hE.1.2.2.1 hS hown k1 (fun _ h9 => h9) dX7_rule_20 ?_
        refine lv_iload_n hx hb dX7_rule_23 rfl (lv_at hl 1 rfl) ?_
        obtain ⟨v24, b24, ev24, hf⟩ := rd_s hf
        refine my_tald hx hb hE.1.2.2.2 hS b24 ev24 dX7_rule_24 ?_
        refine lv_icmp_le (tgt := 31) hx hb dX7_rule_25 (by decide) (fun c25 => ?_) (fun c25 => ?_)
        · have hf := ifp c25 hf
          refine lv_aload_n hx hb dX7_rule_31 rfl (lv_at hl 0 rfl) ?_
          refine va_get (D := D) (ci := 7) (v := .ref (o_t_play 0)) (C := RX7) (T := TX7) (N := 12) hx hb hts k3 hown hK hP 0 rfl rfl 0 (by decide) k2 (fun _ h9 => h9) rfl dX7_rule_32 ?_
          refine va_get (D := D) (ci := 5) (v := .ref (o_t_play 4)) (C := RX5) (T := TX5) (N := 7) hx hb hts k5 hown hK hP 1 rfl rfl 3 (by decide) k4 (fun _ h9 => h9) rfl dX7_rule_35 ?_
          refine lv_iload_n hx hb dX7_rule_38 rfl (lv_at hl 1 rfl) ?_
          obtain ⟨v39, b39, ev39, hf⟩ := rd_s hf
          refine my_iald hx hb hK hP 2 rfl b39 ev39 dX7_rule_39 ?_
          refine lv_istore_n (lv' := [(3, .int v39), (0, .ref (o_t 0)), (1, .int p1), (2, .int p2)]) hx hb dX7_rule_40 rfl hl (by decide) rfl (fun ls hl => ?_)
          refine lv_aload_n hx hb dX7_rule_41 rfl (lv_at hl 1 rfl) ?_
          refine va_get (D := D) (ci := 7) (v := .ref (o_t_play 0)) (C := RX7) (T := TX7) (N := 12) hx hb hts k3 hown hK hP 0 rfl rfl 0 (by decide) k2 (fun _ h9 => h9) rfl dX7_rule_42 ?_
          refine va_get (D := D) (ci := 5) (v := .ref (o_t_play 4)) (C := RX5) (T := TX5) (N := 7) hx hb hts k5 hown hK hP 1 rfl rfl 3 (by decide) k4 (fun _ h9 => h9) rfl dX7_rule_45 ?_
          refine lv_iload_n hx hb dX7_rule_48 rfl (lv_at hl 2 rfl) ?_
          refine lv_iload_n hx hb dX7_rule_49 rfl (lv_at hl 3 rfl) ?_
          obtain ⟨w50, b50, ew50, hf⟩ := wrI_s hf
          refine my_iast (ws2 := (wd_X7_rule cy o_t o_t_play o_t_lines o_t_truth o_t_glassTrack o_t_board o_t_otherBoard o_t_fog o_t_crowd o_t_deal x_play_w x_play_h x_play_hands w50 x_truth_ready)) hx hb hK hP hD hS 2 rfl b50 ew50 rfl dX7_rule_50 (fun H locs hP hD hS => ?_)
          refine lv_iload_n hx hb dX7_rule_51 rfl (lv_at hl 2 rfl) ?_
          refine lv_iconst (v := (2 : Int32)) hx hb dX7_rule_52 (by decide) ?_
          refine lv_icmp_gt (tgt := 64) hx hb dX7_rule_53 (by decide) (fun c53 => ?_) (fun c53 => ?_)
          · have hf := ifp c53 hf
            refine lv_iload_n hx hb dX7_rule_64 rfl (lv_at hl 0 rfl) ?_
            obtain rfl := Option.some.inj hf
            exact hR _ _ _ _ hP hD hS dX7_rule_65
          · have hf := ifn c53 hf
            refine lv_aload_n hx hb dX7_rule_56 rfl (lv_at hl 1 rfl) ?_
            refine va_get (D := D) (ci := 7) (v := .ref (o_t_truth 0)) (C := RX7) (T := TX7) (N := 12) hx hb hts k3 hown hK hP 0 rfl rfl 2 (by decide) k6 (fun _ h9 => h9) rfl dX7_rule_57 ?_
            refine lv_iconst (v := (0 : Int32)) hx hb dX7_rule_60 (by decide) ?_
            obtain ⟨r61, hr61, hf⟩ := bd_s hf
            refine my_Vv (WS2 := (wd_X7_rule cy o_t o_t_play o_t_lines o_t_truth o_t_glassTrack o_t_board o_t_otherBoard o_t_fog o_t_crowd o_t_deal x_play_w x_play_h x_play_hands w50 r61)) ⟨hx, hb, hml, hown, hts⟩ (c_X6_keepBelow l D cy t o_t_truth x_truth_ready (0 : Int32) hr61) (cwV 1 hts gX7_rule_X6_keepBelow rfl rfl rfl ⟨rfl, hd_X6_keepBelow⟩ ⟨Nat.le_of_ble_eq_true rfl, Nat.le_of_ble_eq_true rfl⟩) hK hE hP hD hS hA [3] 4 6 0 rfl rfl rfl rfl (by decide +kernel) rfl rfl hl.1 rfl (Nat.le_of_ble_eq_true rfl) dX7_rule_61 ⟨Nat.le_of_ble_eq_true rfl, Nat.le_of_ble_eq_true rfl⟩ (fun H locs hP hD hS => ?_)
            refine lv_iload_n hx hb dX7_rule_64 rfl (lv_at hl 0 rfl) ?_
            obtain rfl := Option.some.inj hf
            exact hR _ _ _ _ hP hD hS dX7_rule_65
        · have hf := ifn c25 hf
          refine lv_bipush (v := (-2 : Int32)) hx hb dX7_rule_28 (by decide) ?_
          obtain rfl := Option.some.inj hf
          exact hR _ _ _ _ hP hD hS dX7_rule_30
theorem hd_X7_rule : yX7_rule.cls ≠ "java/lang/invoke/MethodHandle" ∧ yX7_rule.cls ≠ "java/lang/invoke/VarHandle" ∧ (parseMethodDescriptor yX7_rule.desc).map (fun d => d.parameters.length) = some 2 := by decide +kernel
set_option maxRecDepth 100000 in
theorem c_X7_rule (l : Launch) (D : va_G) (cy : Nat → ClassId) (t : Nat → Nat) (o_t o_t_play o_t_lines o_t_truth o_t_glassTrack o_t_board o_t_otherBoard o_t_fog o_t_crowd o_t_deal : Nat → Nat) (x_play_w : Int32) (x_play_h : Int32) (x_play_hands : Int32) (x_play_rules : Nat → Int32) (x_truth_ready : Int32) (p1 : Int32) (p2 : Int32) {out : Int32 × (Nat → Int32) × Int32} (hf : X7_rule x_play_rules x_truth_ready p1 p2 = some out) : ctI l yX7_rule wsX7_rule 2 42 D cy t [.ref (o_t 0), .int p1, .int p2] (wd_X7_rule cy o_t o_t_play o_t_lines o_t_truth o_t_glassTrack o_t_board o_t_otherBoard o_t_fog o_t_crowd o_t_deal x_play_w x_play_h x_play_hands x_play_rules x_truth_ready) (wd_X7_rule cy o_t o_t_play o_t_lines o_t_truth o_t_glassTrack o_t_board o_t_otherBoard o_t_fog o_t_crowd o_t_deal x_play_w x_play_h x_play_hands out.2.1 out.2.2) out.1 := by
  refine ⟨rfl, ?_⟩
  intro sz
  refine Met.ofW (cc := cX7_rule) (maxL := 4) (ret := (some .int)) (by decide) rfl ?_
  intro p e s m args below meth c s₁ B hml hv
  obtain ⟨rfl, hsz, hP, hK, hD0, hE⟩ := hv
  have hts := atoms_spec (ws := wsX7_rule) B.pre
  have hown : s.vm.findClass RX7 = some m.cls := findClass_of_methodNamed B.named
  have hlocks := B.notSynchronized
  subst hsz
  have hD := hD0.self (sz := s.heap.size)
  have hl := lv_entry ([.ref (o_t 0), .int p1, .int p2]) (n := 4) (Nat.le_of_ble_eq_true rfl)
  rw [lg_entry_eq]
  generalize (lg_sl ([.ref (o_t 0), .int p1, .int p2]) ++ List.replicate (4 - (lg_sl ([.ref (o_t 0), .int p1, .int p2])).length) Slot.unset).toArray = ls at hl ⊢
  exact w_X7_rule D cy t o_t o_t_play o_t_lines o_t_truth o_t_glassTrack o_t_board o_t_otherBoard o_t_fog o_t_crowd o_t_deal x_play_w x_play_h x_play_hands x_play_rules x_truth_ready p1 p2 hf B.exec B.bytes hml hown hts hK hE (fun q h => Or.inr h) hP hD va_S.rf hl (fun H locs ls pc hP hD hS hdg => W.iret B.exec B.bytes B.returns (fun t ht hW => ⟨⟨_, (), rfl, rfl, ctB_of ht hP⟩, hS.F ht⟩) hS.2.2 hdg)

noncomputable def X7_press (x_play_hands : Int32) (x_play_pressRow : Nat → Int32) (x_truth_ready : Int32) (p1 : Int32) (p2 : Int32) (p3 : Int32) : Option (Int32 × (Nat → Int32) × Int32) :=
  bd (X7_isHand x_play_hands p1) fun r2 => if r2 = (0 : Int32) then (some ((-1 : Int32), x_play_pressRow, x_truth_ready)) else (bd (X7_isTick p2) fun r9 => if r9 = (0 : Int32) then (some ((-1 : Int32), x_play_pressRow, x_truth_ready)) else (bd (X7_isPress p3) fun r18 => if r18 = (0 : Int32) then (some ((-2 : Int32), x_play_pressRow, x_truth_ready)) else (bd (X5_pressOf x_play_pressRow p1 p2) fun r33 => bd (X5_setPress x_play_pressRow p1 p2 p3) fun r45 => bd (X6_keepBelow x_truth_ready p2) fun r53 => some (r33, r45, r53))))
abbrev wd_X7_press (cy : Nat → ClassId) (o_t o_t_play o_t_lines o_t_truth o_t_glassTrack o_t_board o_t_otherBoard o_t_fog o_t_crowd o_t_deal : Nat → Nat) (x_play_w : Int32) (x_play_h : Int32) (x_play_hands : Int32) (x_play_pressRow : Nat → Int32) (x_truth_ready : Int32) : va_W := [(o_t 0, .inr (7, [.ref (o_t_play 0), .ref (o_t_lines 0), .ref (o_t_truth 0), .ref (o_t_glassTrack 0), .ref (o_t_board 0), .ref (o_t_otherBoard 0), .ref (o_t 7), .ref (o_t_fog 0), .ref (o_t_crowd 0), .ref (o_t_deal 0), .ref (o_t 11), .ref (o_t 12)])), (o_t_play 0, .inr (5, [.int x_play_w, .int x_play_h, .int x_play_hands, .ref (o_t_play 4), .ref (o_t_play 5), .ref (o_t_play 6), .ref (o_t_play 7)])), (o_t_play 5, .inl (cy 0, 600, .inl x_play_pressRow)), (o_t_truth 0, .inr (6, [.ref (o_t_truth 1), .int x_truth_ready]))]
set_option maxHeartbeats 4000000 in
set_option maxRecDepth 100000 in
theorem w_X7_press {p : Program} {l : Launch} {e : Env} {s : State} {m : MethodId} {args : Array Value} {below : List Frame} {meth : Method} {c : Code} {Q : State → Prop} {A : Nat → Prop} {H : Heap} {locs : List Loc} {ls : Array Slot} (D : va_G) (cy : Nat → ClassId) (t : Nat → Nat) (o_t o_t_play o_t_lines o_t_truth o_t_glassTrack o_t_board o_t_otherBoard o_t_fog o_t_crowd o_t_deal : Nat → Nat) (x_play_w : Int32) (x_play_h : Int32) (x_play_hands : Int32) (x_play_pressRow : Nat → Int32) (x_truth_ready : Int32) (p1 : Int32) (p2 : Int32) (p3 : Int32) {out : Int32 × (Nat → Int32) × Int32} (hf : X7_press x_play_hands x_play_pressRow x_truth_ready p1 p2 p3 = some out) (hx : p.tables.exec = Jvm.exec) (hb : c.code = cX7_press) (hml : c.maxLocals = 5) (hown : s.vm.findClass RX7 = some m.cls) (hts : ∀ w ∈ wsX7_press, w.before args s = true) (hK : va_K D vwCl (TYS cy) s) (hE : EV t A s s.heap) (hA : ∀ q, s.heap.size ≤ q → A q) (hP : va_P D vwCl (wd_X7_press cy o_t o_t_play o_t_lines o_t_truth o_t_glassTrack o_t_board o_t_otherBoard o_t_fog o_t_crowd o_t_deal x_play_w x_play_h x_play_hands x_play_pressRow x_truth_ready) H) (hD : va_D A (wd_X7_press cy o_t o_t_play o_t_lines o_t_truth o_t_glassTrack o_t_board o_t_otherBoard o_t_fog o_t_crowd o_t_deal x_play_w x_play_h x_play_hands x_play_pressRow x_truth_ready)) (hS : va_S A s.heap H locs) (hl : lv_has ls 5 [(0, .ref (o_t 0)), (1, .int p1), (2, .int p2), (3, .int p3)]) (hR : ∀ (H : Heap) (locs : List Loc) (ls : Array Slot) (pc : Nat), va_P D vwCl (wd_X7_press cy o_t o_t_play o_t_lines o_t_truth o_t_glassTrack o_t_board o_t_otherBoard o_t_fog o_t_crowd o_t_deal x_play_w x_play_h x_play_hands out.2.1 out.2.2) H → va_D A (wd_X7_press cy o_t o_t_play o_t_lines o_t_truth o_t_glassTrack o_t_board o_t_otherBoard o_t_fog o_t_crowd o_t_deal x_play_w x_play_h x_play_hands out.2.1 out.2.2) → va_S A s.heap H locs → decode cX7_press pc = .ok (.ireturn, 1) → W p l e (rmm 2 42) s m args below meth c H locs 0 0 Q (F0 m pc ls [.int out.1])) : W p l e (rmm 2 42) s m args below meth c H locs 0 0 Q (F0 m 0 ls []) := by
  have k0 := hts (.fieldLink RX7 10 "SeaGames" "play" "LSeaGames$Play;") (List.mem_cons_of_mem _ (List.mem_append_left _ (List.mem_append_left _ (List.mem_append_left _ (List.mem_append_left _ (List.mem_of_getElem? (i := 0) rfl))))))
  have k1 : ∀ w ∈ u_ws RX7 TX7 12, w ∈ wsX7_press := fun _ h => List.mem_cons_of_mem _ (List.mem_append_left _ (List.mem_append_left _ (List.mem_append_right _ h)))
  have k2 := hts (.fieldLink RX7 28 "SeaGames" "truth" "LSeaGames$Track;") (List.mem_cons_of_mem _ (List.mem_append_left _ (List.mem_append_left _ (List.mem_append_left _ (List.mem_append_left _ (List.mem_of_getElem? (i := 1) rfl))))))
  rw [X7_press] at hf
  refine lv_aload_n hx hb dX7_press_0 rfl (lv_at hl 0 rfl) ?_
  refine lv_iload_n hx hb dX7_press_1 rfl (lv_at hl 1 rfl) ?_
  obtain ⟨r2, hr2, hf⟩ := bd_s hf
  refine my_Vi (WS2 := (wd_X7_press cy o_t o_t_play o_t_lines o_t_truth o_t_glassTrack o_t_board o_t_otherBoard o_t_fog o_t_crowd o_t_deal x_play_w x_play_h x_play_hands x_play_pressRow x_truth_ready)) ⟨hx, hb, hml, hown, hts⟩ (c_X7_isHand l D cy t o_t o_t_play o_t_lines o_t_truth o_t_glassTrack o_t_board o_t_otherBoard o_t_fog o_t_crowd o_t_deal x_play_w x_play_h x_play_hands p1 hr2) (cwV 1 hts gX7_press_X7_isHand rfl rfl rfl ⟨rfl, hd_X7_isHand⟩ ⟨Nat.le_of_ble_eq_true rfl, Nat.le_of_ble_eq_true rfl⟩) hK hE hP hD hS hA [0, 1] 4 7 0 rfl rfl rfl rfl (by decide +kernel) rfl rfl hl.1 rfl (Nat.le_of_ble_eq_true rfl) dX7_press_2 ⟨Nat.le_of_ble_eq_true rfl, Nat.le_of_ble_eq_true rfl⟩ (fun H locs hP hD hS => ?_)
  refine lv_if_eq (tgt := 15) hx hb dX7_press_5 (by decide) (fun c5 => ?_) (fun c5 => ?_)
  · have hf := ifp c5 hf
    refine lv_iconst (v := (-1 : Int32)) hx hb dX7_press_15 (by decide) ?_
    obtain rfl := Option.some.inj hf
    exact hR _ _ _ _ hP hD hS dX7_press_16
  · have hf := ifn c5 hf
    refine lv_iload_n hx hb dX7_press_8 rfl (lv_at hl 2 rfl) ?_
    obtain ⟨r9, hr9, hf⟩ := bd_s hf
    refine my_Si (WS2 := (wd_X7_press cy o_t o_t_play o_t_lines o_t_truth o_t_glassTrack o_t_board o_t_otherBoard o_t_fog o_t_crowd o_t_deal x_play_w x_play_h x_play_hands x_play_pressRow x_truth_ready)) ⟨hx, hb, hml, hown, hts⟩ (c_X7_isTick l D cy t p2 hr9) (va_cwS 1 hts gX7_press_X7_isTick rfl rfl rfl hd_X7_isTick ⟨Nat.le_of_ble_eq_true rfl, Nat.le_of_ble_eq_true rfl⟩) hK hE hP hD hS hA [] 4 rfl rfl (by decide +kernel) rfl rfl hl.1 rfl (Nat.le_of_ble_eq_true rfl) dX7_press_9 ⟨Nat.le_of_ble_eq_true rfl, Nat.le_of_ble_eq_true rfl⟩ (fun H locs hP hD hS => ?_)
    refine lv_if_ne (tgt := 17) hx hb dX7_press_12 (by decide) (fun c12 => ?_) (fun c12 => ?_)
    · have hf := ifn c12 hf
      refine lv_iload_n hx hb dX7_press_17 rfl (lv_at hl 3 rfl) ?_
      obtain ⟨r18, hr18, hf⟩ := bd_s hf
      refine my_Si (WS2 := (wd_X7_press cy o_t o_t_play o_t_lines o_t_truth o_t_glassTrack o_t_board o_t_otherBoard o_t_fog o_t_crowd o_t_deal x_play_w x_play_h x_play_hands x_play_pressRow x_truth_ready)) ⟨hx, hb, hml, hown, hts⟩ (c_X7_isPress l D cy t p3 hr18) (va_cwS 1 hts gX7_press_X7_isPress rfl rfl rfl hd_X7_isPress ⟨Nat.le_of_ble_eq_true rfl, Nat.le_of_ble_eq_true rfl⟩) hK hE hP hD hS hA [] 4 rfl rfl (by decide +kernel) rfl rfl hl.1 rfl (Nat.le_of_ble_eq_true rfl) dX7_press_18 ⟨Nat.le_of_ble_eq_true rfl, Nat.le_of_ble_eq_true rfl⟩ (fun H locs hP hD hS => ?_)
      refine lv_if_ne (tgt := 27) hx hb dX7_press_21 (by decide) (fun c21 => ?_) (fun c21 => ?_)
      · have hf := ifn c21 hf
        refine lv_aload_n hx hb dX7_press_27 rfl (lv_at hl 0 rfl) ?_
        refine va_get (D := D) (ci := 7) (v := .ref (o_t_play 0)) (C := RX7) (T := TX7) (N := 12) hx hb hts k1 hown hK hP 0 rfl rfl 0 (by decide) k0 (fun _ h9 => h9) rfl dX7_press_28 ?_
        refine lv_iload_n hx hb dX7_press_31 rfl (lv_at hl 1 rfl) ?_
        refine lv_iload_n hx hb dX7_press_32 rfl (lv_at hl 2 rfl) ?_
        obtain ⟨r33, hr33, hf⟩ := bd_s hf
        refine my_Vi (WS2 := (wd_X7_press cy o_t o_t_play o_t_lines o_t_truth o_t_glassTrack o_t_board o_t_otherBoard o_t_fog o_t_crowd o_t_deal x_play_w x_play_h x_play_hands x_play_pressRow x_truth_ready)) ⟨hx, hb, hml, hown, hts⟩ (c_X5_pressOf l D cy t o_t_play x_play_w x_play_h x_play_hands x_play_pressRow p1 p2 hr33) (cwV 2 hts gX7_press_X5_pressOf rfl rfl rfl ⟨rfl, hd_X5_pressOf⟩ ⟨Nat.le_of_ble_eq_true rfl, Nat.le_of_ble_eq_true rfl⟩) hK hE hP hD hS hA [1, 2] 4 5 0 rfl rfl rfl rfl (by decide +kernel) rfl rfl hl.1 rfl (Nat.le_of_ble_eq_true rfl) dX7_press_33 ⟨Nat.le_of_ble_eq_true rfl, Nat.le_of_ble_eq_true rfl⟩ (fun H locs hP hD hS => ?_)
        refine lv_istore (lv' := [(4, .int r33), (0, .ref (o_t 0)), (1, .int p1), (2, .int p2), (3, .int p3)]) hx hb dX7_press_36 hl (by decide) rfl (fun ls hl => ?_)
        refine lv_aload_n hx hb dX7_press_38 rfl (lv_at hl 1 rfl) ?_
        refine va_get (D := D) (ci := 7) (v := .ref (o_t_play 0)) (C := RX7) (T := TX7) (N := 12) hx hb hts k1 hown hK hP 0 rfl rfl 0 (by decide) k0 (fun _ h9 => h9) rfl dX7_press_39 ?_
        refine lv_iload_n hx hb dX7_press_42 rfl (lv_at hl 2 rfl) ?_
        refine lv_iload_n hx hb dX7_press_43 rfl (lv_at hl 3 rfl) ?_
        refine lv_iload_n hx hb dX7_press_44 rfl (lv_at hl 4 rfl) ?_
        obtain ⟨r45, hr45, hf⟩ := bd_s hf
        refine my_Vv (WS2 := (wd_X7_press cy o_t o_t_play o_t_lines o_t_truth o_t_glassTrack o_t_board o_t_otherBoard o_t_fog o_t_crowd o_t_deal x_play_w x_play_h x_play_hands r45 x_truth_ready)) ⟨hx, hb, hml, hown, hts⟩ (c_X5_setPress l D cy t o_t_play x_play_w x_play_h x_play_hands x_play_pressRow p1 p2 p3 hr45) (cwV 3 hts gX7_press_X5_setPress rfl rfl rfl ⟨rfl, hd_X5_setPress⟩ ⟨Nat.le_of_ble_eq_true rfl, Nat.le_of_ble_eq_true rfl⟩) hK hE hP hD hS hA [1, 2] 4 5 0 rfl rfl rfl rfl (by decide +kernel) rfl rfl hl.1 rfl (Nat.le_of_ble_eq_true rfl) dX7_press_45 ⟨Nat.le_of_ble_eq_true rfl, Nat.le_of_ble_eq_true rfl⟩ (fun H locs hP hD hS => ?_)
        refine lv_aload_n hx hb dX7_press_48 rfl (lv_at hl 1 rfl) ?_
        refine va_get (D := D) (ci := 7) (v := .ref (o_t_truth 0)) (C := RX7) (T := TX7) (N := 12) hx hb hts k1 hown hK hP 0 rfl rfl 2 (by decide) k2 (fun _ h9 => h9) rfl dX7_press_49 ?_
        refine lv_iload_n hx hb dX7_press_52 rfl (lv_at hl 3 rfl) ?_
        obtain ⟨r53, hr53, hf⟩ := bd_s hf
        refine my_Vv (WS2 := (wd_X7_press cy o_t o_t_play o_t_lines o_t_truth o_t_glassTrack o_t_board o_t_otherBoard o_t_fog o_t_crowd o_t_deal x_play_w x_play_h x_play_hands r45 r53)) ⟨hx, hb, hml, hown, hts⟩ (c_X6_keepBelow l D cy t o_t_truth x_truth_ready p2 hr53) (cwV 1 hts gX7_press_X6_keepBelow rfl rfl rfl ⟨rfl, hd_X6_keepBelow⟩ ⟨Nat.le_of_ble_eq_true rfl, Nat.le_of_ble_eq_true rfl⟩) hK hE hP hD hS hA [3] 4 6 0 rfl rfl rfl rfl (by decide +kernel) rfl rfl hl.1 rfl (Nat.le_of_ble_eq_true rfl) dX7_press_53 ⟨Nat.le_of_ble_eq_true rfl, Nat.le_of_ble_eq_true rfl⟩ (fun H locs hP hD hS => ?_)
        refine lv_iload hx hb dX7_press_56 (lv_at hl 0 rfl) ?_
        obtain rfl := Option.some.inj hf
        exact hR _ _ _ _ hP hD hS dX7_press_58
      · have hf := ifp c21 hf
        refine lv_bipush (v := (-2 : Int32)) hx hb dX7_press_24 (by decide) ?_
        obtain rfl := Option.some.inj hf
        exact hR _ _ _ _ hP hD hS dX7_press_26
    · have hf := ifp c12 hf
      refine lv_iconst (v := (-1 : Int32)) hx hb dX7_press_15 (by decide) ?_
      obtain rfl := Option.some.inj hf
      exact hR _ _ _ _ hP hD hS dX7_press_16
theorem hd_X7_press : yX7_press.cls ≠ "java/lang/invoke/MethodHandle" ∧ yX7_press.cls ≠ "java/lang/invoke/VarHandle" ∧ (parseMethodDescriptor yX7_press.desc).map (fun d => d.parameters.length) = some 3 := by decide +kernel
set_option maxRecDepth 100000 in
theorem c_X7_press (l : Launch) (D : va_G) (cy : Nat → ClassId) (t : Nat → Nat) (o_t o_t_play o_t_lines o_t_truth o_t_glassTrack o_t_board o_t_otherBoard o_t_fog o_t_crowd o_t_deal : Nat → Nat) (x_play_w : Int32) (x_play_h : Int32) (x_play_hands : Int32) (x_play_pressRow : Nat → Int32) (x_truth_ready : Int32) (p1 : Int32) (p2 : Int32) (p3 : Int32) {out : Int32 × (Nat → Int32) × Int32} (hf : X7_press x_play_hands x_play_pressRow x_truth_ready p1 p2 p3 = some out) : ctI l yX7_press wsX7_press 2 42 D cy t [.ref (o_t 0), .int p1, .int p2, .int p3] (wd_X7_press cy o_t o_t_play o_t_lines o_t_truth o_t_glassTrack o_t_board o_t_otherBoard o_t_fog o_t_crowd o_t_deal x_play_w x_play_h x_play_hands x_play_pressRow x_truth_ready) (wd_X7_press cy o_t o_t_play o_t_lines o_t_truth o_t_glassTrack o_t_board o_t_otherBoard o_t_fog o_t_crowd o_t_deal x_play_w x_play_h x_play_hands out.2.1 out.2.2) out.1 := by
  refine ⟨rfl, ?_⟩
  intro sz
  refine Met.ofW (cc := cX7_press) (maxL := 5) (ret := (some .int)) (by decide) rfl ?_
  intro p e s m args below meth c s₁ B hml hv
  obtain ⟨rfl, hsz, hP, hK, hD0, hE⟩ := hv
  have hts := atoms_spec (ws := wsX7_press) B.pre
  have hown : s.vm.findClass RX7 = some m.cls := findClass_of_methodNamed B.named
  have hlocks := B.notSynchronized
  subst hsz
  have hD := hD0.self (sz := s.heap.size)
  have hl := lv_entry ([.ref (o_t 0), .int p1, .int p2, .int p3]) (n := 5) (Nat.le_of_ble_eq_true rfl)
  rw [lg_entry_eq]
  generalize (lg_sl ([.ref (o_t 0), .int p1, .int p2, .int p3]) ++ List.replicate (5 - (lg_sl ([.ref (o_t 0), .int p1, .int p2, .int p3])).length) Slot.unset).toArray = ls at hl ⊢
  exact w_X7_press D cy t o_t o_t_play o_t_lines o_t_truth o_t_glassTrack o_t_board o_t_otherBoard o_t_fog o_t_crowd o_t_deal x_play_w x_play_h x_play_hands x_play_pressRow x_truth_ready p1 p2 p3 hf B.exec B.bytes hml hown hts hK hE (fun q h => Or.inr h) hP hD va_S.rf hl (fun H locs ls pc hP hD hS hdg => W.iret B.exec B.bytes B.returns (fun t ht hW => ⟨⟨_, (), rfl, rfl, ctB_of ht hP⟩, hS.F ht⟩) hS.2.2 hdg)

noncomputable def X7_hold_J88 (x_play_hands : Int32) (x_play_pressRow : Nat → Int32) (x_truth_ready : Int32) (l2 : Int32) (l5 : Int32) : Option (Int32 × (Nat → Int32) × Int32) :=
  bd (X6_keepBelow x_truth_ready l2) fun r93 => some (l5, x_play_pressRow, r93)
noncomputable def X7_hold_J82 (x_play_hands : Int32) (rec46 : (Nat → Int32) → Int32 → Int32 → Int32 → Int32 → Int32 → Int32 → Int32 → Option (Int32 × (Nat → Int32) × Int32)) (x_play_pressRow : Nat → Int32) (x_truth_ready : Int32) (l1 : Int32) (l2 : Int32) (l3 : Int32) (l4 : Int32) (l5 : Int32) (l6 : Int32) : Option (Int32 × (Nat → Int32) × Int32) :=
  nm (l6 + (1 : Int32)) fun v82 => rec46 x_play_pressRow x_truth_ready l1 l2 l3 l4 l5 v82
noncomputable def X7_hold_L46_B (x_play_hands : Int32) (rec46 : (Nat → Int32) → Int32 → Int32 → Int32 → Int32 → Int32 → Int32 → Int32 → Option (Int32 × (Nat → Int32) × Int32)) (x_play_pressRow : Nat → Int32) (x_truth_ready : Int32) (l1 : Int32) (l2 : Int32) (l3 : Int32) (l4 : Int32) (l5 : Int32) (l6 : Int32) : Option (Int32 × (Nat → Int32) × Int32) :=
  if l3 < l6 then (X7_hold_J88 x_play_hands  x_play_pressRow x_truth_ready l2 l5) else (bd (X5_pressOf x_play_pressRow l1 l6) fun r59 => if r59 = l4 then (X7_hold_J82 x_play_hands rec46 x_play_pressRow x_truth_ready l1 l2 l3 l4 l5 l6) else (nm (l5 + (1 : Int32)) fun v67 => bd (X5_setPress x_play_pressRow l1 l6 l4) fun r79 => X7_hold_J82 x_play_hands rec46 r79 x_truth_ready l1 l2 l3 l4 v67 l6))
noncomputable def X7_hold_L46 (x_play_hands : Int32) : Nat → (Nat → Int32) → Int32 → Int32 → Int32 → Int32 → Int32 → Int32 → Int32 → Option (Int32 × (Nat → Int32) × Int32)
  | 0, _, _, _, _, _, _, _, _ => none
  | n + 1, y0, y1, y2, y3, y4, y5, y6, y7 => X7_hold_L46_B x_play_hands  (X7_hold_L46 x_play_hands  n) y0 y1 y2 y3 y4 y5 y6 y7
noncomputable def X7_hold (x_play_hands : Int32) (x_play_pressRow : Nat → Int32) (x_truth_ready : Int32) (p1 : Int32) (p2 : Int32) (p3 : Int32) (p4 : Int32) : Option (Int32 × (Nat → Int32) × Int32) :=
  bd (X7_isHand x_play_hands p1) fun r2 => if r2 = (0 : Int32) then (some ((-1 : Int32), x_play_pressRow, x_truth_ready)) else (bd (X7_isTick p2) fun r9 => if r9 = (0 : Int32) then (some ((-1 : Int32), x_play_pressRow, x_truth_ready)) else (bd (X7_isTick p3) fun r16 => if r16 = (0 : Int32) then (some ((-1 : Int32), x_play_pressRow, x_truth_ready)) else (if p3 < p2 then (some ((-2 : Int32), x_play_pressRow, x_truth_ready)) else (bd (X7_isPress p4) fun r31 => if r31 = (0 : Int32) then (some ((-2 : Int32), x_play_pressRow, x_truth_ready)) else (X7_hold_L46 x_play_hands  FU x_play_pressRow x_truth_ready p1 p2 p3 p4 (0 : Int32) p2)))))
abbrev wd_X7_hold (cy : Nat → ClassId) (o_t o_t_play o_t_lines o_t_truth o_t_glassTrack o_t_board o_t_otherBoard o_t_fog o_t_crowd o_t_deal : Nat → Nat) (x_play_w : Int32) (x_play_h : Int32) (x_play_hands : Int32) (x_play_pressRow : Nat → Int32) (x_truth_ready : Int32) : va_W := [(o_t 0, .inr (7, [.ref (o_t_play 0), .ref (o_t_lines 0), .ref (o_t_truth 0), .ref (o_t_glassTrack 0), .ref (o_t_board 0), .ref (o_t_otherBoard 0), .ref (o_t 7), .ref (o_t_fog 0), .ref (o_t_crowd 0), .ref (o_t_deal 0), .ref (o_t 11), .ref (o_t 12)])), (o_t_play 0, .inr (5, [.int x_play_w, .int x_play_h, .int x_play_hands, .ref (o_t_play 4), .ref (o_t_play 5), .ref (o_t_play 6), .ref (o_t_play 7)])), (o_t_play 5, .inl (cy 0, 600, .inl x_play_pressRow)), (o_t_truth 0, .inr (6, [.ref (o_t_truth 1), .int x_truth_ready]))]
set_option maxHeartbeats 4000000 in
set_option maxRecDepth 100000 in
theorem w_X7_hold {p : Program} {l : Launch} {e : Env} {s : State} {m : MethodId} {args : Array Value} {below : List Frame} {meth : Method} {c : Code} {Q : State → Prop} {A : Nat → Prop} {H : Heap} {locs : List Loc} {ls : Array Slot} (D : va_G) (cy : Nat → ClassId) (t : Nat → Nat) (o_t o_t_play o_t_lines o_t_truth o_t_glassTrack o_t_board o_t_otherBoard o_t_fog o_t_crowd o_t_deal : Nat → Nat) (x_play_w : Int32) (x_play_h : Int32) (x_play_hands : Int32) (x_play_pressRow : Nat → Int32) (x_truth_ready : Int32) (p1 : Int32) (p2 : Int32) (p3 : Int32) (p4 : Int32) {out : Int32 × (Nat → Int32) × Int32} (hf : X7_hold x_play_hands x_play_pressRow x_truth_ready p1 p2 p3 p4 = some out) (hx : p.tables.exec = Jvm.exec) (hb : c.code = cX7_hold) (hml : c.maxLocals = 7) (hown : s.vm.findClass RX7 = some m.cls) (hts : ∀ w ∈ wsX7_hold, w.before args s = true) (hK : va_K D vwCl (TYS cy) s) (hE : EV t A s s.heap) (hA : ∀ q, s.heap.size ≤ q → A q) (hP : va_P D vwCl (wd_X7_hold cy o_t o_t_play o_t_lines o_t_truth o_t_glassTrack o_t_board o_t_otherBoard o_t_fog o_t_crowd o_t_deal x_play_w x_play_h x_play_hands x_play_pressRow x_truth_ready) H) (hD : va_D A (wd_X7_hold cy o_t o_t_play o_t_lines o_t_truth o_t_glassTrack o_t_board o_t_otherBoard o_t_fog o_t_crowd o_t_deal x_play_w x_play_h x_play_hands x_play_pressRow x_truth_ready)) (hS : va_S A s.heap H locs) (hl : lv_has ls 7 [(0, .ref (o_t 0)), (1, .int p1), (2, .int p2), (3, .int p3), (4, .int p4)]) (hR : ∀ (H : Heap) (locs : List Loc) (ls : Array Slot) (pc : Nat), va_P D vwCl (wd_X7_hold cy o_t o_t_play o_t_lines o_t_truth o_t_glassTrack o_t_board o_t_otherBoard o_t_fog o_t_crowd o_t_deal x_play_w x_play_h x_play_hands out.2.1 out.2.2) H → va_D A (wd_X7_hold cy o_t o_t_play o_t_lines o_t_truth o_t_glassTrack o_t_board o_t_otherBoard o_t_fog o_t_crowd o_t_deal x_play_w x_play_h x_play_hands out.2.1 out.2.2) → va_S A s.heap H locs → decode cX7_hold pc = .ok (.ireturn, 1) → W p l e (rmm 2 42) s m args below meth c H locs 0 0 Q (F0 m pc ls [.int out.1])) : W p l e (rmm 2 42) s m args below meth c H locs 0 0 Q (F0 m 0 ls []) := by
  have k0 := hts (.fieldLink RX7 28 "SeaGames" "truth" "LSeaGames$Track;") (List.mem_cons_of_mem _ (List.mem_append_left _ (List.mem_append_left _ (List.mem_append_left _ (List.mem_append_left _ (List.mem_of_getElem? (i := 1) rfl))))))
  have k1 : ∀ w ∈ u_ws RX7 TX7 12, w ∈ wsX7_hold := fun _ h => List.mem_cons_of_mem _ (List.mem_append_left _ (List.mem_append_left _ (List.mem_append_right _ h)))
  have k2 := hts (.fieldLink RX7 10 "SeaGames" "play" "LSeaGames$Play;") (List.mem_cons_of_mem _ (List.mem_append_left _ (List.mem_append_left _ (List.mem_append_left _ (List.mem_append_left _ (List.mem_of_getElem? (i := 0) rfl))))))
  rw [X7_hold] at hf
  refine lv_aload_n hx hb dX7_hold_0 rfl (lv_at hl 0 rfl) ?_
  refine lv_iload_n hx hb dX7_hold_1 rfl (lv_at hl 1 rfl) ?_
  obtain ⟨r2, hr2, hf⟩ := bd_s hf
  refine my_Vi (WS2 := (wd_X7_hold cy o_t o_t_play o_t_lines o_t_truth o_t_glassTrack o_t_board o_t_otherBoard o_t_fog o_t_crowd o_t_deal x_play_w x_play_h x_play_hands x_play_pressRow x_truth_ready)) ⟨hx, hb, hml, hown, hts⟩ (c_X7_isHand l D cy t o_t o_t_play o_t_lines o_t_truth o_t_glassTrack o_t_board o_t_otherBoard o_t_fog o_t_crowd o_t_deal x_play_w x_play_h x_play_hands p1 hr2) (cwV 1 hts gX7_hold_X7_isHand rfl rfl rfl ⟨rfl, hd_X7_isHand⟩ ⟨Nat.le_of_ble_eq_true rfl, Nat.le_of_ble_eq_true rfl⟩) hK hE hP hD hS hA [0, 1] 4 7 0 rfl rfl rfl rfl (by decide +kernel) rfl rfl hl.1 rfl (Nat.le_of_ble_eq_true rfl) dX7_hold_2 ⟨Nat.le_of_ble_eq_true rfl, Nat.le_of_ble_eq_true rfl⟩ (fun H locs hP hD hS => ?_)
  refine lv_if_eq (tgt := 22) hx hb dX7_hold_5 (by decide) (fun c5 => ?_) (fun c5 => ?_)
  · have hf := ifp c5 hf
    refine lv_iconst (v := (-1 : Int32)) hx hb dX7_hold_22 (by decide) ?_
    obtain rfl := Option.some.inj hf
    exact hR _ _ _ _ hP hD hS dX7_hold_23
  · have hf := ifn c5 hf
    refine lv_iload_n hx hb dX7_hold_8 rfl (lv_at hl 2 rfl) ?_
    obtain ⟨r9, hr9, hf⟩ := bd_s hf
    refine my_Si (WS2 := (wd_X7_hold cy o_t o_t_play o_t_lines o_t_truth o_t_glassTrack o_t_board o_t_otherBoard o_t_fog o_t_crowd o_t_deal x_play_w x_play_h x_play_hands x_play_pressRow x_truth_ready)) ⟨hx, hb, hml, hown, hts⟩ (c_X7_isTick l D cy t p2 hr9) (va_cwS 1 hts gX7_hold_X7_isTick rfl rfl rfl hd_X7_isTick ⟨Nat.le_of_ble_eq_true rfl, Nat.le_of_ble_eq_true rfl⟩) hK hE hP hD hS hA [] 4 rfl rfl (by decide +kernel) rfl rfl hl.1 rfl (Nat.le_of_ble_eq_true rfl) dX7_hold_9 ⟨Nat.le_of_ble_eq_true rfl, Nat.le_of_ble_eq_true rfl⟩ (fun H locs hP hD hS => ?_)
    refine lv_if_eq (tgt := 22) hx hb dX7_hold_12 (by decide) (fun c12 => ?_) (fun c12 => ?_)
    · have hf := ifp c12 hf
      refine lv_iconst (v := (-1 : Int32)) hx hb dX7_hold_22 (by decide) ?_
      obtain rfl := Option.some.inj hf
      exact hR _ _ _ _ hP hD hS dX7_hold_23
    · have hf := ifn c12 hf
      refine lv_iload_n hx hb dX7_hold_15 rfl (lv_at hl 3 rfl) ?_
      obtain ⟨r16, hr16, hf⟩ := bd_s hf
      refine my_Si (WS2 := (wd_X7_hold cy o_t o_t_play o_t_lines o_t_truth o_t_glassTrack o_t_board o_t_otherBoard o_t_fog o_t_crowd o_t_deal x_play_w x_play_h x_play_hands x_play_pressRow x_truth_ready)) ⟨hx, hb, hml, hown, hts⟩ (c_X7_isTick l D cy t p3 hr16) (va_cwS 1 hts gX7_hold_X7_isTick rfl rfl rfl hd_X7_isTick ⟨Nat.le_of_ble_eq_true rfl, Nat.le_of_ble_eq_true rfl⟩) hK hE hP hD hS hA [] 4 rfl rfl (by decide +kernel) rfl rfl hl.1 rfl (Nat.le_of_ble_eq_true rfl) dX7_hold_16 ⟨Nat.le_of_ble_eq_true rfl, Nat.le_of_ble_eq_true rfl⟩ (fun H locs hP hD hS => ?_)
      refine lv_if_ne (tgt := 24) hx hb dX7_hold_19 (by decide) (fun c19 => ?_) (fun c19 => ?_)
      · have hf := ifn c19 hf
        refine lv_iload_n hx hb dX7_hold_24 rfl (lv_at hl 3 rfl) ?_
        refine lv_iload_n hx hb dX7_hold_25 rfl (lv_at hl 2 rfl) ?_
        refine lv_icmp_lt (tgt := 37) hx hb dX7_hold_26 (by decide) (fun c26 => ?_) (fun c26 => ?_)
        · have hf := ifp c26 hf
          refine lv_bipush (v := (-2 : Int32)) hx hb dX7_hold_37 (by decide) ?_
          obtain rfl := Option.some.inj hf
          exact hR _ _ _ _ hP hD hS dX7_hold_39
        · have hf := ifn c26 hf
          refine lv_iload hx hb dX7_hold_29 (lv_at hl 4 rfl) ?_
          obtain ⟨r31, hr31, hf⟩ := bd_s hf
          refine my_Si (WS2 := (wd_X7_hold cy o_t o_t_play o_t_lines o_t_truth o_t_glassTrack o_t_board o_t_otherBoard o_t_fog o_t_crowd o_t_deal x_play_w x_play_h x_play_hands x_play_pressRow x_truth_ready)) ⟨hx, hb, hml, hown, hts⟩ (c_X7_isPress l D cy t p4 hr31) (va_cwS 1 hts gX7_hold_X7_isPress rfl rfl rfl hd_X7_isPress ⟨Nat.le_of_ble_eq_true rfl, Nat.le_of_ble_eq_true rfl⟩) hK hE hP hD hS hA [] 4 rfl rfl (by decide +kernel) rfl rfl hl.1 rfl (Nat.le_of_ble_eq_true rfl) dX7_hold_31 ⟨Nat.le_of_ble_eq_true rfl, Nat.le_of_ble_eq_true rfl⟩ (fun H locs hP hD hS => ?_)
          refine lv_if_ne (tgt := 40) hx hb dX7_hold_34 (by decide) (fun c34 => ?_) (fun c34 => ?_)
          · have hf := ifn c34 hf
            have h46 : ∀ (n46 : Nat) (x_play_pressRow : Nat → Int32) (x_truth_ready : Int32) (l1 : Int32) (l2 : Int32) (l3 : Int32) (l4 : Int32) (l5 : Int32) (l6 : Int32) (H : Heap) (locs : List Loc) (ls : Array Slot), X7_hold_L46 x_play_hands n46 x_play_pressRow x_truth_ready l1 l2 l3 l4 l5 l6 = some out → va_P D vwCl (wd_X7_hold cy o_t o_t_play o_t_lines o_t_truth o_t_glassTrack o_t_board o_t_otherBoard o_t_fog o_t_crowd o_t_deal x_play_w x_play_h x_play_hands x_play_pressRow x_truth_ready) H → va_D A (wd_X7_hold cy o_t o_t_play o_t_lines o_t_truth o_t_glassTrack o_t_board o_t_otherBoard o_t_fog o_t_crowd o_t_deal x_play_w x_play_h x_play_hands x_play_pressRow x_truth_ready) → va_S A s.heap H locs → lv_has ls 7 [(0, .ref (o_t 0)), (1, .int l1), (2, .int l2), (3, .int l3), (4, .int l4), (5, .int l5), (6, .int l6)] → W p l e (rmm 2 42) s m args below meth c H locs 0 0 Q (F0 m 46 ls []) := by
              intro n46
              induction n46 with
              | zero =>
                intro _ _ _ _ _ _ _ _ _ _ _ hf
                exact nomatch (show (none : Option _) = some out from hf)
              | succ n46 ih46 =>
                intro x_play_pressRow x_truth_ready l1 l2 l3 l4 l5 l6 H locs ls hf hP hD hS hl
                have hf : X7_hold_L46_B x_play_hands (X7_hold_L46 x_play_hands n46) x_play_pressRow x_truth_ready l1 l2 l3 l4 l5 l6 = some out := hf
                rw [X7_hold_L46_B] at hf
                have h88 : ∀ (x_play_pressRow : Nat → Int32) (x_truth_ready : Int32) (l2 : Int32) (l5 : Int32) (H : Heap) (locs : List Loc) (ls : Array Slot), X7_hold_J88 x_play_hands x_play_pressRow x_truth_ready l2 l5 = some out → va_P D vwCl (wd_X7_hold cy o_t o_t_play o_t_lines o_t_truth o_t_glassTrack o_t_board o_t_otherBoard o_t_fog o_t_crowd o_t_deal x_play_w x_play_h x_play_hands x_play_pressRow x_truth_ready) H → va_D A (wd_X7_hold cy o_t o_t_play o_t_lines o_t_truth o_t_glassTrack o_t_board o_t_otherBoard o_t_fog o_t_crowd o_t_deal x_play_w x_play_h x_play_hands x_play_pressRow x_truth_ready) → va_S A s.heap H locs → lv_has ls 7 [(0, .ref (o_t 0)), (2, .int l2), (5, .int l5)] → W p l e (rmm 2 42) s m args below meth c H locs 0 0 Q (F0 m 88 ls []) := by
                  intro x_play_pressRow x_truth_ready l2 l5 H locs ls hf hP hD hS hl
                  rw [X7_hold_J88] at hf
                  refine lv_aload_n hx hb dX7_hold_88 rfl (lv_at hl 0 rfl) ?_
                  refine va_get (D := D) (ci := 7) (v := .ref (o_t_truth 0)) (C := RX7) (T := TX7) (N := 12) hx hb hts k1 hown hK hP 0 rfl rfl 2 (by decide) k0 (fun _ h9 => h9) rfl dX7_hold_89 ?_
                  refine lv_iload_n hx hb dX7_hold_92 rfl (lv_at hl 1 rfl) ?_
                  obtain ⟨r93, hr93, hf⟩ := bd_s hf
                  refine my_Vv (WS2 := (wd_X7_hold cy o_t o_t_play o_t_lines o_t_truth o_t_glassTrack o_t_board o_t_otherBoard o_t_fog o_t_crowd o_t_deal x_play_w x_play_h x_play_hands x_play_pressRow r93)) ⟨hx, hb, hml, hown, hts⟩ (c_X6_keepBelow l D cy t o_t_truth x_truth_ready l2 hr93) (cwV 1 hts gX7_hold_X6_keepBelow rfl rfl rfl ⟨rfl, hd_X6_keepBelow⟩ ⟨Nat.le_of_ble_eq_true rfl, Nat.le_of_ble_eq_true rfl⟩) hK hE hP hD hS hA [3] 4 6 0 rfl rfl rfl rfl (by decide +kernel) rfl rfl hl.1 rfl (Nat.le_of_ble_eq_true rfl) dX7_hold_93 ⟨Nat.le_of_ble_eq_true rfl, Nat.le_of_ble_eq_true rfl⟩ (fun H locs hP hD hS => ?_)
                  refine lv_iload hx hb dX7_hold_96 (lv_at hl 2 rfl) ?_
                  obtain rfl := Option.some.inj hf
                  exact hR _ _ _ _ hP hD hS dX7_hold_98
                refine lv_iload hx hb dX7_hold_46 (lv_at hl 6 rfl) ?_
                refine lv_iload_n hx hb dX7_hold_48 rfl (lv_at hl 3 rfl) ?_
                refine lv_icmp_gt (tgt := 88) hx hb dX7_hold_49 (by decide) (fun c49 => ?_) (fun c49 => ?_)
                · have hf := ifp c49 hf
                  exact h88 _ _ _ _ _ _ _ hf hP hD hS (lv_sub hl [0, 2, 5] rfl)
                · have hf := ifn c49 hf
                  have h82 : ∀ (x_play_pressRow : Nat → Int32) (x_truth_ready : Int32) (l1 : Int32) (l2 : Int32) (l3 : Int32) (l4 : Int32) (l5 : Int32) (l6 : Int32) (H : Heap) (locs : List Loc) (ls : Array Slot), X7_hold_J82 x_play_hands (X7_hold_L46 x_play_hands n46) x_play_pressRow x_truth_ready l1 l2 l3 l4 l5 l6 = some out → va_P D vwCl (wd_X7_hold cy o_t o_t_play o_t_lines o_t_truth o_t_glassTrack o_t_board o_t_otherBoard o_t_fog o_t_crowd o_t_deal x_play_w x_play_h x_play_hands x_play_pressRow x_truth_ready) H → va_D A (wd_X7_hold cy o_t o_t_play o_t_lines o_t_truth o_t_glassTrack o_t_board o_t_otherBoard o_t_fog o_t_crowd o_t_deal x_play_w x_play_h x_play_hands x_play_pressRow x_truth_ready) → va_S A s.heap H locs → lv_has ls 7 [(0, .ref (o_t 0)), (1, .int l1), (2, .int l2), (3, .int l3), (4, .int l4), (5, .int l5), (6, .int l6)] → W p l e (rmm 2 42) s m args below meth c H locs 0 0 Q (F0 m 82 ls []) := by
                    intro x_play_pressRow x_truth_ready l1 l2 l3 l4 l5 l6 H locs ls hf hP hD hS hl
                    rw [X7_hold_J82] at hf
                    obtain ⟨v82, ev82, hf⟩ := nm_s hf
                    refine lv_iinc (v := v82) (lv' := [(6, .int v82), (0, .ref (o_t 0)), (1, .int l1), (2, .int l2), (3, .int l3), (4, .int l4), (5, .int l5)]) hx hb dX7_hold_82 hl (k := 6) rfl (by rw [ev82]; rfl) (by decide) rfl (fun ls hl => ?_)
                    refine lv_goto (tgt := 46) hx hb dX7_hold_85 (by decide) ?_
                    exact ih46 _ _ _ _ _ _ _ _ _ _ _ hf hP hD hS (lv_sub hl [1, 2, 3, 4, 5, 6, 0] rfl)
                  refine lv_aload_n hx hb dX7_hold_52 rfl (lv_at hl 0 rfl) ?_
                  refine va_get (D := D) (ci := 7) (v := .ref (o_t_play 0)) (C := RX7) (T := TX7) (N := 12) hx hb hts k1 hown hK hP 0 rfl rfl 0 (by decide) k2 (fun _ h9 => h9) rfl dX7_hold_53 ?_
                  refine lv_iload_n hx hb dX7_hold_56 rfl (lv_at hl 1 rfl) ?_
                  refine lv_iload hx hb dX7_hold_57 (lv_at hl 6 rfl) ?_
                  obtain ⟨r59, hr59, hf⟩ := bd_s hf
                  refine my_Vi (WS2 := (wd_X7_hold cy o_t o_t_play o_t_lines o_t_truth o_t_glassTrack o_t_board o_t_otherBoard o_t_fog o_t_crowd o_t_deal x_play_w x_play_h x_play_hands x_play_pressRow x_truth_ready)) ⟨hx, hb, hml, hown, hts⟩ (c_X5_pressOf l D cy t o_t_play x_play_w x_play_h x_play_hands x_play_pressRow l1 l6 hr59) (cwV 2 hts gX7_hold_X5_pressOf rfl rfl rfl ⟨rfl, hd_X5_pressOf⟩ ⟨Nat.le_of_ble_eq_true rfl, Nat.le_of_ble_eq_true rfl⟩) hK hE hP hD hS hA [1, 2] 4 5 0 rfl rfl rfl rfl (by decide +kernel) rfl rfl hl.1 rfl (Nat.le_of_ble_eq_true rfl) dX7_hold_59 ⟨Nat.le_of_ble_eq_true rfl, Nat.le_of_ble_eq_true rfl⟩ (fun H locs hP hD hS => ?_)
                  refine lv_iload hx hb dX7_hold_62 (lv_at hl 4 rfl) ?_
                  refine lv_icmp_eq (tgt := 82) hx hb dX7_hold_64 (by decide) (fun c64 => ?_) (fun c64 => ?_)
                  · have hf := ifp c64 hf
                    exact h82 _ _ _ _ _ _ _ _ _ _ _ hf hP hD hS (lv_sub hl [0, 1, 2, 3, 4, 5, 6] rfl)
                  · have hf := ifn c64 hf
                    obtain ⟨v67, ev67, hf⟩ := nm_s hf
                    refine lv_iinc (v := v67) (lv' := [(5, .int v67), (0, .ref (o_t 0)), (1, .int l1), (2, .int l2), (3, .int l3), (4, .int l4), (6, .int l6)]) hx hb dX7_hold_67 hl (k := 5) rfl (by rw [ev67]; rfl) (by decide) rfl (fun ls hl => ?_)
                    refine lv_aload_n hx hb dX7_hold_70 rfl (lv_at hl 1 rfl) ?_
                    refine va_get (D := D) (ci := 7) (v := .ref (o_t_play 0)) (C := RX7) (T := TX7) (N := 12) hx hb hts k1 hown hK hP 0 rfl rfl 0 (by decide) k2 (fun _ h9 => h9) rfl dX7_hold_71 ?_
                    refine lv_iload_n hx hb dX7_hold_74 rfl (lv_at hl 2 rfl) ?_
                    refine lv_iload hx hb dX7_hold_75 (lv_at hl 6 rfl) ?_
                    refine lv_iload hx hb dX7_hold_77 (lv_at hl 5 rfl) ?_
                    obtain ⟨r79, hr79, hf⟩ := bd_s hf
                    refine my_Vv (WS2 := (wd_X7_hold cy o_t o_t_play o_t_lines o_t_truth o_t_glassTrack o_t_board o_t_otherBoard o_t_fog o_t_crowd o_t_deal x_play_w x_play_h x_play_hands r79 x_truth_ready)) ⟨hx, hb, hml, hown, hts⟩ (c_X5_setPress l D cy t o_t_play x_play_w x_play_h x_play_hands x_play_pressRow l1 l6 l4 hr79) (cwV 3 hts gX7_hold_X5_setPress rfl rfl rfl ⟨rfl, hd_X5_setPress⟩ ⟨Nat.le_of_ble_eq_true rfl, Nat.le_of_ble_eq_true rfl⟩) hK hE hP hD hS hA [1, 2] 4 5 0 rfl rfl rfl rfl (by decide +kernel) rfl rfl hl.1 rfl (Nat.le_of_ble_eq_true rfl) dX7_hold_79 ⟨Nat.le_of_ble_eq_true rfl, Nat.le_of_ble_eq_true rfl⟩ (fun H locs hP hD hS => ?_)
                    exact h82 _ _ _ _ _ _ _ _ _ _ _ hf hP hD hS (lv_sub hl [1, 2, 3, 4, 5, 0, 6] rfl)
            refine lv_iconst (v := (0 : Int32)) hx hb dX7_hold_40 (by decide) ?_
            refine lv_istore (lv' := [(5, .int (0 : Int32)), (0, .ref (o_t 0)), (1, .int p1), (2, .int p2), (3, .int p3), (4, .int p4)]) hx hb dX7_hold_41 hl (by decide) rfl (fun ls hl => ?_)
            refine lv_iload_n hx hb dX7_hold_43 rfl (lv_at hl 3 rfl) ?_
            refine lv_istore (lv' := [(6, .int p2), (5, .int (0 : Int32)), (0, .ref (o_t 0)), (1, .int p1), (2, .int p2), (3, .int p3), (4, .int p4)]) hx hb dX7_hold_44 hl (by decide) rfl (fun ls hl => ?_)
            exact h46 FU _ _ _ _ _ _ _ _ _ _ _ hf hP hD hS (lv_sub hl [2, 3, 4, 5, 6, 1, 0] rfl)
          · have hf := ifp c34 hf
            refine lv_bipush (v := (-2 : Int32)) hx hb dX7_hold_37 (by decide) ?_
            obtain rfl := Option.some.inj hf
            exact hR _ _ _ _ hP hD hS dX7_hold_39
      · have hf := ifp c19 hf
        refine lv_iconst (v := (-1 : Int32)) hx hb dX7_hold_22 (by decide) ?_
        obtain rfl := Option.some.inj hf
        exact hR _ _ _ _ hP hD hS dX7_hold_23
theorem hd_X7_hold : yX7_hold.cls ≠ "java/lang/invoke/MethodHandle" ∧ yX7_hold.cls ≠ "java/lang/invoke/VarHandle" ∧ (parseMethodDescriptor yX7_hold.desc).map (fun d => d.parameters.length) = some 4 := by decide +kernel
set_option maxRecDepth 100000 in
theorem c_X7_hold (l : Launch) (D : va_G) (cy : Nat → ClassId) (t : Nat → Nat) (o_t o_t_play o_t_lines o_t_truth o_t_glassTrack o_t_board o_t_otherBoard o_t_fog o_t_crowd o_t_deal : Nat → Nat) (x_play_w : Int32) (x_play_h : Int32) (x_play_hands : Int32) (x_play_pressRow : Nat → Int32) (x_truth_ready : Int32) (p1 : Int32) (p2 : Int32) (p3 : Int32) (p4 : Int32) {out : Int32 × (Nat → Int32) × Int32} (hf : X7_hold x_play_hands x_play_pressRow x_truth_ready p1 p2 p3 p4 = some out) : ctI l yX7_hold wsX7_hold 2 42 D cy t [.ref (o_t 0), .int p1, .int p2, .int p3, .int p4] (wd_X7_hold cy o_t o_t_play o_t_lines o_t_truth o_t_glassTrack o_t_board o_t_otherBoard o_t_fog o_t_crowd o_t_deal x_play_w x_play_h x_play_hands x_play_pressRow x_truth_ready) (wd_X7_hold cy o_t o_t_play o_t_lines o_t_truth o_t_glassTrack o_t_board o_t_otherBoard o_t_fog o_t_crowd o_t_deal x_play_w x_play_h x_play_hands out.2.1 out.2.2) out.1 := by
  refine ⟨rfl, ?_⟩
  intro sz
  refine Met.ofW (cc := cX7_hold) (maxL := 7) (ret := (some .int)) (by decide) rfl ?_
  intro p e s m args below meth c s₁ B hml hv
  obtain ⟨rfl, hsz, hP, hK, hD0, hE⟩ := hv
  have hts := atoms_spec (ws := wsX7_hold) B.pre
  have hown : s.vm.findClass RX7 = some m.cls := findClass_of_methodNamed B.named
  have hlocks := B.notSynchronized
  subst hsz
  have hD := hD0.self (sz := s.heap.size)
  have hl := lv_entry ([.ref (o_t 0), .int p1, .int p2, .int p3, .int p4]) (n := 7) (Nat.le_of_ble_eq_true rfl)
  rw [lg_entry_eq]
  generalize (lg_sl ([.ref (o_t 0), .int p1, .int p2, .int p3, .int p4]) ++ List.replicate (7 - (lg_sl ([.ref (o_t 0), .int p1, .int p2, .int p3, .int p4])).length) Slot.unset).toArray = ls at hl ⊢
  exact w_X7_hold D cy t o_t o_t_play o_t_lines o_t_truth o_t_glassTrack o_t_board o_t_otherBoard o_t_fog o_t_crowd o_t_deal x_play_w x_play_h x_play_hands x_play_pressRow x_truth_ready p1 p2 p3 p4 hf B.exec B.bytes hml hown hts hK hE (fun q h => Or.inr h) hP hD va_S.rf hl (fun H locs ls pc hP hD hS hdg => W.iret B.exec B.bytes B.returns (fun t ht hW => ⟨⟨_, (), rfl, rfl, ctB_of ht hP⟩, hS.F ht⟩) hS.2.2 hdg)

noncomputable def X7_leave (x_play_hands : Int32) (x_play_leftFrom : Nat → Int32) (x_play_leftTo : Nat → Int32) (x_truth_ready : Int32) (p1 : Int32) (p2 : Int32) (p3 : Int32) : Option (Int32 × (Nat → Int32) × (Nat → Int32) × Int32) :=
  bd (X7_isHand x_play_hands p1) fun r2 => if r2 = (0 : Int32) then (some ((-1 : Int32), x_play_leftFrom, x_play_leftTo, x_truth_ready)) else (if p2 < (0 : Int32) then (some ((-2 : Int32), x_play_leftFrom, x_play_leftTo, x_truth_ready)) else (if p3 < p2 then (some ((-2 : Int32), x_play_leftFrom, x_play_leftTo, x_truth_ready)) else (if p3 ≤ (100 : Int32) then (wrI x_play_leftFrom 6 p1 p2 fun w37 => wrI x_play_leftTo 6 p1 p3 fun w47 => bd (X6_keepBelow x_truth_ready (0 : Int32)) fun r53 => some ((p3 - p2), w37, w47, r53)) else (some ((-2 : Int32), x_play_leftFrom, x_play_leftTo, x_truth_ready)))))
abbrev wd_X7_leave (cy : Nat → ClassId) (o_t o_t_play o_t_lines o_t_truth o_t_glassTrack o_t_board o_t_otherBoard o_t_fog o_t_crowd o_t_deal : Nat → Nat) (x_play_w : Int32) (x_play_h : Int32) (x_play_hands : Int32) (x_play_leftFrom : Nat → Int32) (x_play_leftTo : Nat → Int32) (x_truth_ready : Int32) : va_W := [(o_t 0, .inr (7, [.ref (o_t_play 0), .ref (o_t_lines 0), .ref (o_t_truth 0), .ref (o_t_glassTrack 0), .ref (o_t_board 0), .ref (o_t_otherBoard 0), .ref (o_t 7), .ref (o_t_fog 0), .ref (o_t_crowd 0), .ref (o_t_deal 0), .ref (o_t 11), .ref (o_t 12)])), (o_t_play 0, .inr (5, [.int x_play_w, .int x_play_h, .int x_play_hands, .ref (o_t_play 4), .ref (o_t_play 5), .ref (o_t_play 6), .ref (o_t_play 7)])), (o_t_play 6, .inl (cy 0, 6, .inl x_play_leftFrom)), (o_t_play 7, .inl (cy 0, 6, .inl x_play_leftTo)), (o_t_truth 0, .inr (6, [.ref (o_t_truth 1), .int x_truth_ready]))]
set_option maxHeartbeats 4000000 in
set_option maxRecDepth 100000 in
theorem w_X7_leave {p : Program} {l : Launch} {e : Env} {s : State} {m : MethodId} {args : Array Value} {below : List Frame} {meth : Method} {c : Code} {Q : State → Prop} {A : Nat → Prop} {H : Heap} {locs : List Loc} {ls : Array Slot} (D : va_G) (cy : Nat → ClassId) (t : Nat → Nat) (o_t o_t_play o_t_lines o_t_truth o_t_glassTrack o_t_board o_t_otherBoard o_t_fog o_t_crowd o_t_deal : Nat → Nat) (x_play_w : Int32) (x_play_h : Int32) (x_play_hands : Int32) (x_play_leftFrom : Nat → Int32) (x_play_leftTo : Nat → Int32) (x_truth_ready : Int32) (p1 : Int32) (p2 : Int32) (p3 : Int32) {out : Int32 × (Nat → Int32) × (Nat → Int32) × Int32} (hf : X7_leave x_play_hands x_play_leftFrom x_play_leftTo x_truth_ready p1 p2 p3 = some out) (hx : p.tables.exec = Jvm.exec) (hb : c.code = cX7_leave) (hml : c.maxLocals = 4) (hown : s.vm.findClass RX7 = some m.cls) (hts : ∀ w ∈ wsX7_leave, w.before args s = true) (hK : va_K D vwCl (TYS cy) s) (hE : EV t A s s.heap) (hA : ∀ q, s.heap.size ≤ q → A q) (hP : va_P D vwCl (wd_X7_leave cy o_t o_t_play o_t_lines o_t_truth o_t_glassTrack o_t_board o_t_otherBoard o_t_fog o_t_crowd o_t_deal x_play_w x_play_h x_play_hands x_play_leftFrom x_play_leftTo x_truth_ready) H) (hD : va_D A (wd_X7_leave cy o_t o_t_play o_t_lines o_t_truth o_t_glassTrack o_t_board o_t_otherBoard o_t_fog o_t_crowd o_t_deal x_play_w x_play_h x_play_hands x_play_leftFrom x_play_leftTo x_truth_ready)) (hS : va_S A s.heap H locs) (hl : lv_has ls 4 [(0, .ref (o_t 0)), (1, .int p1), (2, .int p2), (3, .int p3)]) (hR : ∀ (H : Heap) (locs : List Loc) (ls : Array Slot) (pc : Nat), va_P D vwCl (wd_X7_leave cy o_t o_t_play o_t_lines o_t_truth o_t_glassTrack o_t_board o_t_otherBoard o_t_fog o_t_crowd o_t_deal x_play_w x_play_h x_play_hands out.2.1 out.2.2.1 out.2.2.2) H → va_D A (wd_X7_leave cy o_t o_t_play o_t_lines o_t_truth o_t_glassTrack o_t_board o_t_otherBoard o_t_fog o_t_crowd o_t_deal x_play_w x_play_h x_play_hands out.2.1 out.2.2.1 out.2.2.2) → va_S A s.heap H locs → decode cX7_leave pc = .ok (.ireturn, 1) → W p l e (rmm 2 42) s m args below meth c H locs 0 0 Q (F0 m pc ls [.int out.1])) : W p l e (rmm 2 42) s m args below meth c H locs 0 0 Q (F0 m 0 ls []) := by
  have k0 := hts (.fieldLink RX7 10 "SeaGames" "play" "LSeaGames$Play;") (List.mem_cons_of_mem _ (List.mem_append_left _ (List.mem_append_left _ (List.mem_append_left _ (List.mem_of_getElem? (i := 0) rfl)))))
  have k1 : ∀ w ∈ u_ws RX7 TX7 12, w ∈ wsX7_leave := fun _ h => List.mem_cons_of_mem _ (List.mem_append_left _ (List.mem_append_left _ (List.mem_append_right _ h)))
  have k2 := hts (.fieldLink RX7 117 "SeaGames$Play" "leftFrom" "[I") (List.mem_cons_of_mem _ (List.mem_append_left _ (List.mem_append_left _ (List.mem_append_left _ (List.mem_of_getElem? (i := 1) rfl)))))
  have k3 : ∀ w ∈ u_ws RX5 TX5 7, w ∈ wsX7_leave := fun _ h => List.mem_cons_of_mem _ (List.mem_append_left _ (List.mem_append_right _ h))
  have k4 := hts (.fieldLink RX7 120 "SeaGames$Play" "leftTo" "[I") (List.mem_cons_of_mem _ (List.mem_append_left _ (List.mem_append_left _ (List.mem_append_left _ (List.mem_of_getElem? (i := 2) rfl)))))
  have k5 := hts (.fieldLink RX7 28 "SeaGames" "truth" "LSeaGames$Track;") (List.mem_cons_of_mem _ (List.mem_append_left _ (List.mem_append_left _ (List.mem_append_left _ (List.mem_of_getElem? (i := 3) rfl)))))
  rw [X7_leave] at hf
  refine lv_aload_n hx hb dX7_leave_0 rfl (lv_at hl 0 rfl) ?_
  refine lv_iload_n hx hb dX7_leave_1 rfl (lv_at hl 1 rfl) ?_
  obtain ⟨r2, hr2, hf⟩ := bd_s hf
  refine my_Vi (WS2 := (wd_X7_leave cy o_t o_t_play o_t_lines o_t_truth o_t_glassTrack o_t_board o_t_otherBoard o_t_fog o_t_crowd o_t_deal x_play_w x_play_h x_play_hands x_play_leftFrom x_play_leftTo x_truth_ready)) ⟨hx, hb, hml, hown, hts⟩ (c_X7_isHand l D cy t o_t o_t_play o_t_lines o_t_truth o_t_glassTrack o_t_board o_t_otherBoard o_t_fog o_t_crowd o_t_deal x_play_w x_play_h x_play_hands p1 hr2) (cwV 1 hts gX7_leave_X7_isHand rfl rfl rfl ⟨rfl, hd_X7_isHand⟩ ⟨Nat.le_of_ble_eq_true rfl, Nat.le_of_ble_eq_true rfl⟩) hK hE hP hD hS hA [0, 1] 5 7 0 rfl rfl rfl rfl (by decide +kernel) rfl rfl hl.1 rfl (Nat.le_of_ble_eq_true rfl) dX7_leave_2 ⟨Nat.le_of_ble_eq_true rfl, Nat.le_of_ble_eq_true rfl⟩ (fun H locs hP hD hS => ?_)
  refine lv_if_ne (tgt := 10) hx hb dX7_leave_5 (by decide) (fun c5 => ?_) (fun c5 => ?_)
  · have hf := ifn c5 hf
    refine lv_iload_n hx hb dX7_leave_10 rfl (lv_at hl 2 rfl) ?_
    refine lv_if_lt (tgt := 25) hx hb dX7_leave_11 (by decide) (fun c11 => ?_) (fun c11 => ?_)
    · have hf := ifp c11 hf
      refine lv_bipush (v := (-2 : Int32)) hx hb dX7_leave_25 (by decide) ?_
      obtain rfl := Option.some.inj hf
      exact hR _ _ _ _ hP hD hS dX7_leave_27
    · have hf := ifn c11 hf
      refine lv_iload_n hx hb dX7_leave_14 rfl (lv_at hl 3 rfl) ?_
      refine lv_iload_n hx hb dX7_leave_15 rfl (lv_at hl 2 rfl) ?_
      refine lv_icmp_lt (tgt := 25) hx hb dX7_leave_16 (by decide) (fun c16 => ?_) (fun c16 => ?_)
      · have hf := ifp c16 hf
        refine lv_bipush (v := (-2 : Int32)) hx hb dX7_leave_25 (by decide) ?_
        obtain rfl := Option.some.inj hf
        exact hR _ _ _ _ hP hD hS dX7_leave_27
      · have hf := ifn c16 hf
        refine lv_iload_n hx hb dX7_leave_19 rfl (lv_at hl 3 rfl) ?_
        refine lv_bipush (v := (100 : Int32)) hx hb dX7_leave_20 (by decide) ?_
        refine lv_icmp_le (tgt := 28) hx hb dX7_leave_22 (by decide) (fun c22 => ?_) (fun c22 => ?_)
        · have hf := ifp c22 hf
          refine lv_aload_n hx hb dX7_leave_28 rfl (lv_at hl 0 rfl) ?_
          refine va_get (D := D) (ci := 7) (v := .ref (o_t_play 0)) (C := RX7) (T := TX7) (N := 12) hx hb hts k1 hown hK hP 0 rfl rfl 0 (by decide) k0 (fun _ h9 => h9) rfl dX7_leave_29 ?_
          refine va_get (D := D) (ci := 5) (v := .ref (o_t_play 6)) (C := RX5) (T := TX5) (N := 7) hx hb hts k3 hown hK hP 1 rfl rfl 5 (by decide) k2 (fun _ h9 => h9) rfl dX7_leave_32 ?_
          refine lv_iload_n hx hb dX7_leave_35 rfl (lv_at hl 1 rfl) ?_
          refine lv_iload_n hx hb dX7_leave_36 rfl (lv_at hl 2 rfl) ?_
          obtain ⟨w37, b37, ew37, hf⟩ := wrI_s hf
          refine my_iast (ws2 := (wd_X7_leave cy o_t o_t_play o_t_lines o_t_truth o_t_glassTrack o_t_board o_t_otherBoard o_t_fog o_t_crowd o_t_deal x_play_w x_play_h x_play_hands w37 x_play_leftTo x_truth_ready)) hx hb hK hP hD hS 2 rfl b37 ew37 rfl dX7_leave_37 (fun H locs hP hD hS => ?_)
          refine lv_aload_n hx hb dX7_leave_38 rfl (lv_at hl 0 rfl) ?_
          refine va_get (D := D) (ci := 7) (v := .ref (o_t_play 0)) (C := RX7) (T := TX7) (N := 12) hx hb hts k1 hown hK hP 0 rfl rfl 0 (by decide) k0 (fun _ h9 => h9) rfl dX7_leave_39 ?_
          refine va_get (D := D) (ci := 5) (v := .ref (o_t_play 7)) (C := RX5) (T := TX5) (N := 7) hx hb hts k3 hown hK hP 1 rfl rfl 6 (by decide) k4 (fun _ h9 => h9) rfl dX7_leave_42 ?_
          refine lv_iload_n hx hb dX7_leave_45 rfl (lv_at hl 1 rfl) ?_
          refine lv_iload_n hx hb dX7_leave_46 rfl (lv_at hl 3 rfl) ?_
          obtain ⟨w47, b47, ew47, hf⟩ := wrI_s hf
          refine my_iast (ws2 := (wd_X7_leave cy o_t o_t_play o_t_lines o_t_truth o_t_glassTrack o_t_board o_t_otherBoard o_t_fog o_t_crowd o_t_deal x_play_w x_play_h x_play_hands w37 w47 x_truth_ready)) hx hb hK hP hD hS 3 rfl b47 ew47 rfl dX7_leave_47 (fun H locs hP hD hS => ?_)
          refine lv_aload_n hx hb dX7_leave_48 rfl (lv_at hl 0 rfl) ?_
          refine va_get (D := D) (ci := 7) (v := .ref (o_t_truth 0)) (C := RX7) (T := TX7) (N := 12) hx hb hts k1 hown hK hP 0 rfl rfl 2 (by decide) k5 (fun _ h9 => h9) rfl dX7_leave_49 ?_
          refine lv_iconst (v := (0 : Int32)) hx hb dX7_leave_52 (by decide) ?_
          obtain ⟨r53, hr53, hf⟩ := bd_s hf
          refine my_Vv (WS2 := (wd_X7_leave cy o_t o_t_play o_t_lines o_t_truth o_t_glassTrack o_t_board o_t_otherBoard o_t_fog o_t_crowd o_t_deal x_play_w x_play_h x_play_hands w37 w47 r53)) ⟨hx, hb, hml, hown, hts⟩ (c_X6_keepBelow l D cy t o_t_truth x_truth_ready (0 : Int32) hr53) (cwV 1 hts gX7_leave_X6_keepBelow rfl rfl rfl ⟨rfl, hd_X6_keepBelow⟩ ⟨Nat.le_of_ble_eq_true rfl, Nat.le_of_ble_eq_true rfl⟩) hK hE hP hD hS hA [4] 5 6 0 rfl rfl rfl rfl (by decide +kernel) rfl rfl hl.1 rfl (Nat.le_of_ble_eq_true rfl) dX7_leave_53 ⟨Nat.le_of_ble_eq_true rfl, Nat.le_of_ble_eq_true rfl⟩ (fun H locs hP hD hS => ?_)
          refine lv_iload_n hx hb dX7_leave_56 rfl (lv_at hl 3 rfl) ?_
          refine lv_iload_n hx hb dX7_leave_57 rfl (lv_at hl 2 rfl) ?_
          refine lv_isub hx hb dX7_leave_58 ?_
          obtain rfl := Option.some.inj hf
          exact hR _ _ _ _ hP hD hS dX7_leave_59
        · have hf := ifn c22 hf
          refine lv_bipush (v := (-2 : Int32)) hx hb dX7_leave_25 (by decide) ?_
          obtain rfl := Option.some.inj hf
          exact hR _ _ _ _ hP hD hS dX7_leave_27
  · have hf := ifp c5 hf
    refine lv_iconst (v := (-1 : Int32)) hx hb dX7_leave_8 (by decide) ?_
    obtain rfl := Option.some.inj hf
    exact hR _ _ _ _ hP hD hS dX7_leave_9
theorem hd_X7_leave : yX7_leave.cls ≠ "java/lang/invoke/MethodHandle" ∧ yX7_leave.cls ≠ "java/lang/invoke/VarHandle" ∧ (parseMethodDescriptor yX7_leave.desc).map (fun d => d.parameters.length) = some 3 := by decide +kernel
set_option maxRecDepth 100000 in
theorem c_X7_leave (l : Launch) (D : va_G) (cy : Nat → ClassId) (t : Nat → Nat) (o_t o_t_play o_t_lines o_t_truth o_t_glassTrack o_t_board o_t_otherBoard o_t_fog o_t_crowd o_t_deal : Nat → Nat) (x_play_w : Int32) (x_play_h : Int32) (x_play_hands : Int32) (x_play_leftFrom : Nat → Int32) (x_play_leftTo : Nat → Int32) (x_truth_ready : Int32) (p1 : Int32) (p2 : Int32) (p3 : Int32) {out : Int32 × (Nat → Int32) × (Nat → Int32) × Int32} (hf : X7_leave x_play_hands x_play_leftFrom x_play_leftTo x_truth_ready p1 p2 p3 = some out) : ctI l yX7_leave wsX7_leave 2 42 D cy t [.ref (o_t 0), .int p1, .int p2, .int p3] (wd_X7_leave cy o_t o_t_play o_t_lines o_t_truth o_t_glassTrack o_t_board o_t_otherBoard o_t_fog o_t_crowd o_t_deal x_play_w x_play_h x_play_hands x_play_leftFrom x_play_leftTo x_truth_ready) (wd_X7_leave cy o_t o_t_play o_t_lines o_t_truth o_t_glassTrack o_t_board o_t_otherBoard o_t_fog o_t_crowd o_t_deal x_play_w x_play_h x_play_hands out.2.1 out.2.2.1 out.2.2.2) out.1 := by
  refine ⟨rfl, ?_⟩
  intro sz
  refine Met.ofW (cc := cX7_leave) (maxL := 4) (ret := (some .int)) (by decide) rfl ?_
  intro p e s m args below meth c s₁ B hml hv
  obtain ⟨rfl, hsz, hP, hK, hD0, hE⟩ := hv
  have hts := atoms_spec (ws := wsX7_leave) B.pre
  have hown : s.vm.findClass RX7 = some m.cls := findClass_of_methodNamed B.named
  have hlocks := B.notSynchronized
  subst hsz
  have hD := hD0.self (sz := s.heap.size)
  have hl := lv_entry ([.ref (o_t 0), .int p1, .int p2, .int p3]) (n := 4) (Nat.le_of_ble_eq_true rfl)
  rw [lg_entry_eq]
  generalize (lg_sl ([.ref (o_t 0), .int p1, .int p2, .int p3]) ++ List.replicate (4 - (lg_sl ([.ref (o_t 0), .int p1, .int p2, .int p3])).length) Slot.unset).toArray = ls at hl ⊢
  exact w_X7_leave D cy t o_t o_t_play o_t_lines o_t_truth o_t_glassTrack o_t_board o_t_otherBoard o_t_fog o_t_crowd o_t_deal x_play_w x_play_h x_play_hands x_play_leftFrom x_play_leftTo x_truth_ready p1 p2 p3 hf B.exec B.bytes hml hown hts hK hE (fun q h => Or.inr h) hP hD va_S.rf hl (fun H locs ls pc hP hD hS hdg => W.iret B.exec B.bytes B.returns (fun t ht hW => ⟨⟨_, (), rfl, rfl, ctB_of ht hP⟩, hS.F ht⟩) hS.2.2 hdg)

noncomputable def X7_truly (x_play_w : Int32) (x_play_h : Int32) (x_play_hands : Int32) (x_play_rules : Nat → Int32) (x_play_pressRow : Nat → Int32) (x_play_leftFrom : Nat → Int32) (x_play_leftTo : Nat → Int32) (x_truth_ready : Int32) (x_truth_rows : Nat → Int32) (x_board_now : Nat → Int32) (x_presses : Nat → Int32) (p1 : Int32) (p2 : Int32) : Option (Int32 × Int32 × (Nat → Int32) × (Nat → Int32) × (Nat → Int32)) :=
  bd (X7_isTick p1) fun r1 => if r1 = (0 : Int32) then (some ((-1 : Int32), x_truth_ready, x_truth_rows, x_board_now, x_presses)) else (bd (X7_columnOf p2 x_play_hands) fun r17 => if (0 : Int32) ≤ r17 then (bd (X7_playTrulyTo x_play_w x_play_h x_play_hands x_play_rules x_play_pressRow x_play_leftFrom x_play_leftTo x_truth_ready x_truth_rows x_board_now x_presses p1) fun r30 => bd (X6_at r30.2.1 p1 r17) fun r43 => bd (X7_told x_play_w r43 r17) fun r47 => some (r47, r30.1, r30.2.1, r30.2.2.1, r30.2.2.2)) else (some ((-2 : Int32), x_truth_ready, x_truth_rows, x_board_now, x_presses)))
abbrev wd_X7_truly (cy : Nat → ClassId) (o_t o_t_play o_t_lines o_t_truth o_t_glassTrack o_t_board o_t_otherBoard o_t_fog o_t_crowd o_t_deal : Nat → Nat) (x_play_w : Int32) (x_play_h : Int32) (x_play_hands : Int32) (x_play_rules : Nat → Int32) (x_play_pressRow : Nat → Int32) (x_play_leftFrom : Nat → Int32) (x_play_leftTo : Nat → Int32) (x_truth_ready : Int32) (x_truth_rows : Nat → Int32) (x_board_now : Nat → Int32) (x_presses : Nat → Int32) : va_W := [(o_t 0, .inr (7, [.ref (o_t_play 0), .ref (o_t_lines 0), .ref (o_t_truth 0), .ref (o_t_glassTrack 0), .ref (o_t_board 0), .ref (o_t_otherBoard 0), .ref (o_t 7), .ref (o_t_fog 0), .ref (o_t_crowd 0), .ref (o_t_deal 0), .ref (o_t 11), .ref (o_t 12)])), (o_t_play 0, .inr (5, [.int x_play_w, .int x_play_h, .int x_play_hands, .ref (o_t_play 4), .ref (o_t_play 5), .ref (o_t_play 6), .ref (o_t_play 7)])), (o_t_play 4, .inl (cy 0, 7, .inl x_play_rules)), (o_t_play 5, .inl (cy 0, 600, .inl x_play_pressRow)), (o_t_play 6, .inl (cy 0, 6, .inl x_play_leftFrom)), (o_t_play 7, .inl (cy 0, 6, .inl x_play_leftTo)), (o_t_truth 0, .inr (6, [.ref (o_t_truth 1), .int x_truth_ready])), (o_t_truth 1, .inl (cy 0, 1300, .inl x_truth_rows)), (o_t_board 0, .inr (0, [.ref (o_t_board 1)])), (o_t_board 1, .inl (cy 0, 13, .inl x_board_now)), (o_t 7, .inl (cy 0, 6, .inl x_presses))]
set_option maxHeartbeats 4000000 in
set_option maxRecDepth 100000 in
theorem w_X7_truly {p : Program} {l : Launch} {e : Env} {s : State} {m : MethodId} {args : Array Value} {below : List Frame} {meth : Method} {c : Code} {Q : State → Prop} {A : Nat → Prop} {H : Heap} {locs : List Loc} {ls : Array Slot} (D : va_G) (cy : Nat → ClassId) (t : Nat → Nat) (o_t o_t_play o_t_lines o_t_truth o_t_glassTrack o_t_board o_t_otherBoard o_t_fog o_t_crowd o_t_deal : Nat → Nat) (x_play_w : Int32) (x_play_h : Int32) (x_play_hands : Int32) (x_play_rules : Nat → Int32) (x_play_pressRow : Nat → Int32) (x_play_leftFrom : Nat → Int32) (x_play_leftTo : Nat → Int32) (x_truth_ready : Int32) (x_truth_rows : Nat → Int32) (x_board_now : Nat → Int32) (x_presses : Nat → Int32) (p1 : Int32) (p2 : Int32) {out : Int32 × Int32 × (Nat → Int32) × (Nat → Int32) × (Nat → Int32)} (hf : X7_truly x_play_w x_play_h x_play_hands x_play_rules x_play_pressRow x_play_leftFrom x_play_leftTo x_truth_ready x_truth_rows x_board_now x_presses p1 p2 = some out) (hx : p.tables.exec = Jvm.exec) (hb : c.code = cX7_truly) (hml : c.maxLocals = 4) (hown : s.vm.findClass RX7 = some m.cls) (hts : ∀ w ∈ wsX7_truly, w.before args s = true) (hK : va_K D vwCl (TYS cy) s) (hE : EV t A s s.heap) (hA : ∀ q, s.heap.size ≤ q → A q) (hP : va_P D vwCl (wd_X7_truly cy o_t o_t_play o_t_lines o_t_truth o_t_glassTrack o_t_board o_t_otherBoard o_t_fog o_t_crowd o_t_deal x_play_w x_play_h x_play_hands x_play_rules x_play_pressRow x_play_leftFrom x_play_leftTo x_truth_ready x_truth_rows x_board_now x_presses) H) (hD : va_D A (wd_X7_truly cy o_t o_t_play o_t_lines o_t_truth o_t_glassTrack o_t_board o_t_otherBoard o_t_fog o_t_crowd o_t_deal x_play_w x_play_h x_play_hands x_play_rules x_play_pressRow x_play_leftFrom x_play_leftTo x_truth_ready x_truth_rows x_board_now x_presses)) (hS : va_S A s.heap H locs) (hl : lv_has ls 4 [(0, .ref (o_t 0)), (1, .int p1), (2, .int p2)]) (hR : ∀ (H : Heap) (locs : List Loc) (ls : Array Slot) (pc : Nat), va_P D vwCl (wd_X7_truly cy o_t o_t_play o_t_lines o_t_truth o_t_glassTrack o_t_board o_t_otherBoard o_t_fog o_t_crowd o_t_deal x_play_w x_play_h x_play_hands x_play_rules x_play_pressRow x_play_leftFrom x_play_leftTo out.2.1 out.2.2.1 out.2.2.2.1 out.2.2.2.2) H → va_D A (wd_X7_truly cy o_t o_t_play o_t_lines o_t_truth o_t_glassTrack o_t_board o_t_otherBoard o_t_fog o_t_crowd o_t_deal x_play_w x_play_h x_play_hands x_play_rules x_play_pressRow x_play_leftFrom x_play_leftTo out.2.1 out.2.2.1 out.2.2.2.1 out.2.2.2.2) → va_S A s.heap H locs → decode cX7_truly pc = .ok (.ireturn, 1) → W p l e (rmm 6 141) s m args below meth c H locs 0 0 Q (F0 m pc ls [.int out.1])) : W p l e (rmm 6 141) s m args below meth c H locs 0 0 Q (F0 m 0 ls []) := by
  have k0 := hts (.fieldLink RX7 10 "SeaGames" "play" "LSeaGames$Play;") (List.mem_cons_of_mem _ (List.mem_append_left _ (List.mem_append_left _ (List.mem_append_left _ (List.mem_append_left _ (List.mem_append_left _ (List.mem_of_getElem? (i := 0) rfl)))))))
  have k1 : ∀ w ∈ u_ws RX7 TX7 12, w ∈ wsX7_truly := fun _ h => List.mem_cons_of_mem _ (List.mem_append_left _ (List.mem_append_left _ (List.mem_append_left _ (List.mem_append_right _ h))))
  have k2 := hts (.fieldLink RX7 123 "SeaGames$Play" "hands" "I") (List.mem_cons_of_mem _ (List.mem_append_left _ (List.mem_append_left _ (List.mem_append_left _ (List.mem_append_left _ (List.mem_append_left _ (List.mem_of_getElem? (i := 1) rfl)))))))
  have k3 : ∀ w ∈ u_ws RX5 TX5 7, w ∈ wsX7_truly := fun _ h => List.mem_cons_of_mem _ (List.mem_append_left _ (List.mem_append_left _ (List.mem_append_right _ h)))
  have k4 := hts (.fieldLink RX7 28 "SeaGames" "truth" "LSeaGames$Track;") (List.mem_cons_of_mem _ (List.mem_append_left _ (List.mem_append_left _ (List.mem_append_left _ (List.mem_append_left _ (List.mem_append_left _ (List.mem_of_getElem? (i := 2) rfl)))))))
  rw [X7_truly] at hf
  refine lv_iload_n hx hb dX7_truly_0 rfl (lv_at hl 1 rfl) ?_
  obtain ⟨r1, hr1, hf⟩ := bd_s hf
  refine my_Si (WS2 := (wd_X7_truly cy o_t o_t_play o_t_lines o_t_truth o_t_glassTrack o_t_board o_t_otherBoard o_t_fog o_t_crowd o_t_deal x_play_w x_play_h x_play_hands x_play_rules x_play_pressRow x_play_leftFrom x_play_leftTo x_truth_ready x_truth_rows x_board_now x_presses)) ⟨hx, hb, hml, hown, hts⟩ (c_X7_isTick l D cy t p1 hr1) (va_cwS 1 hts gX7_truly_X7_isTick rfl rfl rfl hd_X7_isTick ⟨Nat.le_of_ble_eq_true rfl, Nat.le_of_ble_eq_true rfl⟩) hK hE hP hD hS hA [] 11 rfl rfl (by decide +kernel) rfl rfl hl.1 rfl (Nat.le_of_ble_eq_true rfl) dX7_truly_1 ⟨Nat.le_of_ble_eq_true rfl, Nat.le_of_ble_eq_true rfl⟩ (fun H locs hP hD hS => ?_)
  refine lv_if_ne (tgt := 9) hx hb dX7_truly_4 (by decide) (fun c4 => ?_) (fun c4 => ?_)
  · have hf := ifn c4 hf
    refine lv_iload_n hx hb dX7_truly_9 rfl (lv_at hl 2 rfl) ?_
    refine lv_aload_n hx hb dX7_truly_10 rfl (lv_at hl 0 rfl) ?_
    refine va_get (D := D) (ci := 7) (v := .ref (o_t_play 0)) (C := RX7) (T := TX7) (N := 12) hx hb hts k1 hown hK hP 0 rfl rfl 0 (by decide) k0 (fun _ h9 => h9) rfl dX7_truly_11 ?_
    refine va_get (D := D) (ci := 5) (v := .int x_play_hands) (C := RX5) (T := TX5) (N := 7) hx hb hts k3 hown hK hP 1 rfl rfl 2 (by decide) k2 (fun _ h9 => h9) rfl dX7_truly_14 ?_
    obtain ⟨r17, hr17, hf⟩ := bd_s hf
    refine my_Si (WS2 := (wd_X7_truly cy o_t o_t_play o_t_lines o_t_truth o_t_glassTrack o_t_board o_t_otherBoard o_t_fog o_t_crowd o_t_deal x_play_w x_play_h x_play_hands x_play_rules x_play_pressRow x_play_leftFrom x_play_leftTo x_truth_ready x_truth_rows x_board_now x_presses)) ⟨hx, hb, hml, hown, hts⟩ (c_X7_columnOf l D cy t p2 x_play_hands hr17) (va_cwS 2 hts gX7_truly_X7_columnOf rfl rfl rfl hd_X7_columnOf ⟨Nat.le_of_ble_eq_true rfl, Nat.le_of_ble_eq_true rfl⟩) hK hE hP hD hS hA [] 11 rfl rfl (by decide +kernel) rfl rfl hl.1 rfl (Nat.le_of_ble_eq_true rfl) dX7_truly_17 ⟨Nat.le_of_ble_eq_true rfl, Nat.le_of_ble_eq_true rfl⟩ (fun H locs hP hD hS => ?_)
    refine lv_istore_n (lv' := [(3, .int r17), (0, .ref (o_t 0)), (1, .int p1), (2, .int p2)]) hx hb dX7_truly_20 rfl hl (by decide) rfl (fun ls hl => ?_)
    refine lv_iload_n hx hb dX7_truly_21 rfl (lv_at hl 0 rfl) ?_
    refine lv_if_ge (tgt := 28) hx hb dX7_truly_22 (by decide) (fun c22 => ?_) (fun c22 => ?_)
    · have hf := ifp c22 hf
      refine lv_aload_n hx hb dX7_truly_28 rfl (lv_at hl 1 rfl) ?_
      refine lv_iload_n hx hb dX7_truly_29 rfl (lv_at hl 2 rfl) ?_
      obtain ⟨r30, hr30, hf⟩ := bd_s hf
      refine my_Vv (WS2 := (wd_X7_truly cy o_t o_t_play o_t_lines o_t_truth o_t_glassTrack o_t_board o_t_otherBoard o_t_fog o_t_crowd o_t_deal x_play_w x_play_h x_play_hands x_play_rules x_play_pressRow x_play_leftFrom x_play_leftTo r30.1 r30.2.1 r30.2.2.1 r30.2.2.2)) ⟨hx, hb, hml, hown, hts⟩ (c_X7_playTrulyTo l D cy t o_t o_t_play o_t_lines o_t_truth o_t_glassTrack o_t_board o_t_otherBoard o_t_fog o_t_crowd o_t_deal x_play_w x_play_h x_play_hands x_play_rules x_play_pressRow x_play_leftFrom x_play_leftTo x_truth_ready x_truth_rows x_board_now x_presses p1 hr30) (cwV 1 hts gX7_truly_X7_playTrulyTo rfl rfl rfl ⟨rfl, hd_X7_playTrulyTo⟩ ⟨Nat.le_of_ble_eq_true rfl, Nat.le_of_ble_eq_true rfl⟩) hK hE hP hD hS hA [0, 1, 2, 3, 4, 5, 6, 7, 8, 9, 10] 11 7 0 rfl rfl rfl rfl (by decide +kernel) rfl rfl hl.1 rfl (Nat.le_of_ble_eq_true rfl) dX7_truly_30 ⟨Nat.le_of_ble_eq_true rfl, Nat.le_of_ble_eq_true rfl⟩ (fun H locs hP hD hS => ?_)
      refine lv_aload_n hx hb dX7_truly_33 rfl (lv_at hl 1 rfl) ?_
      refine va_get (D := D) (ci := 7) (v := .ref (o_t_play 0)) (C := RX7) (T := TX7) (N := 12) hx hb hts k1 hown hK hP 0 rfl rfl 0 (by decide) k0 (fun _ h9 => h9) rfl dX7_truly_34 ?_
      refine lv_aload_n hx hb dX7_truly_37 rfl (lv_at hl 1 rfl) ?_
      refine va_get (D := D) (ci := 7) (v := .ref (o_t_truth 0)) (C := RX7) (T := TX7) (N := 12) hx hb hts k1 hown hK hP 0 rfl rfl 2 (by decide) k4 (fun _ h9 => h9) rfl dX7_truly_38 ?_
      refine lv_iload_n hx hb dX7_truly_41 rfl (lv_at hl 2 rfl) ?_
      refine lv_iload_n hx hb dX7_truly_42 rfl (lv_at hl 0 rfl) ?_
      obtain ⟨r43, hr43, hf⟩ := bd_s hf
      refine my_Vi (WS2 := (wd_X7_truly cy o_t o_t_play o_t_lines o_t_truth o_t_glassTrack o_t_board o_t_otherBoard o_t_fog o_t_crowd o_t_deal x_play_w x_play_h x_play_hands x_play_rules x_play_pressRow x_play_leftFrom x_play_leftTo r30.1 r30.2.1 r30.2.2.1 r30.2.2.2)) ⟨hx, hb, hml, hown, hts⟩ (c_X6_at l D cy t o_t_truth r30.1 r30.2.1 p1 r17 hr43) (cwV 2 hts gX7_truly_X6_at rfl rfl rfl ⟨rfl, hd_X6_at⟩ ⟨Nat.le_of_ble_eq_true rfl, Nat.le_of_ble_eq_true rfl⟩) hK hE hP hD hS hA [6, 7] 11 6 0 rfl rfl rfl rfl (by decide +kernel) rfl rfl hl.1 rfl (Nat.le_of_ble_eq_true rfl) dX7_truly_43 ⟨Nat.le_of_ble_eq_true rfl, Nat.le_of_ble_eq_true rfl⟩ (fun H locs hP hD hS => ?_)
      refine lv_iload_n hx hb dX7_truly_46 rfl (lv_at hl 0 rfl) ?_
      obtain ⟨r47, hr47, hf⟩ := bd_s hf
      refine my_Si (WS2 := (wd_X7_truly cy o_t o_t_play o_t_lines o_t_truth o_t_glassTrack o_t_board o_t_otherBoard o_t_fog o_t_crowd o_t_deal x_play_w x_play_h x_play_hands x_play_rules x_play_pressRow x_play_leftFrom x_play_leftTo r30.1 r30.2.1 r30.2.2.1 r30.2.2.2)) ⟨hx, hb, hml, hown, hts⟩ (c_X7_told l D cy t o_t_play x_play_w x_play_h x_play_hands r43 r17 hr47) (va_cwS 3 hts gX7_truly_X7_told rfl rfl rfl hd_X7_told ⟨Nat.le_of_ble_eq_true rfl, Nat.le_of_ble_eq_true rfl⟩) hK hE hP hD hS hA [1] 11 rfl rfl (by decide +kernel) rfl rfl hl.1 rfl (Nat.le_of_ble_eq_true rfl) dX7_truly_47 ⟨Nat.le_of_ble_eq_true rfl, Nat.le_of_ble_eq_true rfl⟩ (fun H locs hP hD hS => ?_)
      obtain rfl := Option.some.inj hf
      exact hR _ _ _ _ hP hD hS dX7_truly_50
    · have hf := ifn c22 hf
      refine lv_bipush (v := (-2 : Int32)) hx hb dX7_truly_25 (by decide) ?_
      obtain rfl := Option.some.inj hf
      exact hR _ _ _ _ hP hD hS dX7_truly_27
  · have hf := ifp c4 hf
    refine lv_iconst (v := (-1 : Int32)) hx hb dX7_truly_7 (by decide) ?_
    obtain rfl := Option.some.inj hf
    exact hR _ _ _ _ hP hD hS dX7_truly_8
theorem hd_X7_truly : yX7_truly.cls ≠ "java/lang/invoke/MethodHandle" ∧ yX7_truly.cls ≠ "java/lang/invoke/VarHandle" ∧ (parseMethodDescriptor yX7_truly.desc).map (fun d => d.parameters.length) = some 2 := by decide +kernel
set_option maxRecDepth 100000 in
theorem c_X7_truly (l : Launch) (D : va_G) (cy : Nat → ClassId) (t : Nat → Nat) (o_t o_t_play o_t_lines o_t_truth o_t_glassTrack o_t_board o_t_otherBoard o_t_fog o_t_crowd o_t_deal : Nat → Nat) (x_play_w : Int32) (x_play_h : Int32) (x_play_hands : Int32) (x_play_rules : Nat → Int32) (x_play_pressRow : Nat → Int32) (x_play_leftFrom : Nat → Int32) (x_play_leftTo : Nat → Int32) (x_truth_ready : Int32) (x_truth_rows : Nat → Int32) (x_board_now : Nat → Int32) (x_presses : Nat → Int32) (p1 : Int32) (p2 : Int32) {out : Int32 × Int32 × (Nat → Int32) × (Nat → Int32) × (Nat → Int32)} (hf : X7_truly x_play_w x_play_h x_play_hands x_play_rules x_play_pressRow x_play_leftFrom x_play_leftTo x_truth_ready x_truth_rows x_board_now x_presses p1 p2 = some out) : ctI l yX7_truly wsX7_truly 6 141 D cy t [.ref (o_t 0), .int p1, .int p2] (wd_X7_truly cy o_t o_t_play o_t_lines o_t_truth o_t_glassTrack o_t_board o_t_otherBoard o_t_fog o_t_crowd o_t_deal x_play_w x_play_h x_play_hands x_play_rules x_play_pressRow x_play_leftFrom x_play_leftTo x_truth_ready x_truth_rows x_board_now x_presses) (wd_X7_truly cy o_t o_t_play o_t_lines o_t_truth o_t_glassTrack o_t_board o_t_otherBoard o_t_fog o_t_crowd o_t_deal x_play_w x_play_h x_play_hands x_play_rules x_play_pressRow x_play_leftFrom x_play_leftTo out.2.1 out.2.2.1 out.2.2.2.1 out.2.2.2.2) out.1 := by
  refine ⟨rfl, ?_⟩
  intro sz
  refine Met.ofW (cc := cX7_truly) (maxL := 4) (ret := (some .int)) (by decide) rfl ?_
  intro p e s m args below meth c s₁ B hml hv
  obtain ⟨rfl, hsz, hP, hK, hD0, hE⟩ := hv
  have hts := atoms_spec (ws := wsX7_truly) B.pre
  have hown : s.vm.findClass RX7 = some m.cls := findClass_of_methodNamed B.named
  have hlocks := B.notSynchronized
  subst hsz
  have hD := hD0.self (sz := s.heap.size)
  have hl := lv_entry ([.ref (o_t 0), .int p1, .int p2]) (n := 4) (Nat.le_of_ble_eq_true rfl)
  rw [lg_entry_eq]
  generalize (lg_sl ([.ref (o_t 0), .int p1, .int p2]) ++ List.replicate (4 - (lg_sl ([.ref (o_t 0), .int p1, .int p2])).length) Slot.unset).toArray = ls at hl ⊢
  exact w_X7_truly D cy t o_t o_t_play o_t_lines o_t_truth o_t_glassTrack o_t_board o_t_otherBoard o_t_fog o_t_crowd o_t_deal x_play_w x_play_h x_play_hands x_play_rules x_play_pressRow x_play_leftFrom x_play_leftTo x_truth_ready x_truth_rows x_board_now x_presses p1 p2 hf B.exec B.bytes hml hown hts hK hE (fun q h => Or.inr h) hP hD va_S.rf hl (fun H locs ls pc hP hD hS hdg => W.iret B.exec B.bytes B.returns (fun t ht hW => ⟨⟨_, (), rfl, rfl, ctB_of ht hP⟩, hS.F ht⟩) hS.2.2 hdg)

noncomputable def X7_machine (x_play_w : Int32) (x_play_h : Int32) (x_play_hands : Int32) (x_play_rules : Nat → Int32) (x_play_pressRow : Nat → Int32) (x_play_leftFrom : Nat → Int32) (x_play_leftTo : Nat → Int32) (x_truth_ready : Int32) (x_truth_rows : Nat → Int32) (x_board_now : Nat → Int32) (x_presses : Nat → Int32) (p1 : Int32) (p2 : Int32) : Option (Int32 × Int32 × (Nat → Int32) × (Nat → Int32) × (Nat → Int32)) :=
  bd (X7_isHand x_play_hands p1) fun r2 => if r2 = (0 : Int32) then (some ((-1 : Int32), x_truth_ready, x_truth_rows, x_board_now, x_presses)) else (bd (X7_isTick p2) fun r9 => if r9 = (0 : Int32) then (some ((-1 : Int32), x_truth_ready, x_truth_rows, x_board_now, x_presses)) else (bd (X7_playTrulyTo x_play_w x_play_h x_play_hands x_play_rules x_play_pressRow x_play_leftFrom x_play_leftTo x_truth_ready x_truth_rows x_board_now x_presses p2) fun r19 => bd (X6_load r19.2.1 r19.2.2.1 p2) fun r31 => bd (X0_machinePress r31 p1) fun r39 => some (r39, r19.1, r19.2.1, r31, r19.2.2.2)))
abbrev wd_X7_machine (cy : Nat → ClassId) (o_t o_t_play o_t_lines o_t_truth o_t_glassTrack o_t_board o_t_otherBoard o_t_fog o_t_crowd o_t_deal : Nat → Nat) (x_play_w : Int32) (x_play_h : Int32) (x_play_hands : Int32) (x_play_rules : Nat → Int32) (x_play_pressRow : Nat → Int32) (x_play_leftFrom : Nat → Int32) (x_play_leftTo : Nat → Int32) (x_truth_ready : Int32) (x_truth_rows : Nat → Int32) (x_board_now : Nat → Int32) (x_presses : Nat → Int32) : va_W := [(o_t 0, .inr (7, [.ref (o_t_play 0), .ref (o_t_lines 0), .ref (o_t_truth 0), .ref (o_t_glassTrack 0), .ref (o_t_board 0), .ref (o_t_otherBoard 0), .ref (o_t 7), .ref (o_t_fog 0), .ref (o_t_crowd 0), .ref (o_t_deal 0), .ref (o_t 11), .ref (o_t 12)])), (o_t_play 0, .inr (5, [.int x_play_w, .int x_play_h, .int x_play_hands, .ref (o_t_play 4), .ref (o_t_play 5), .ref (o_t_play 6), .ref (o_t_play 7)])), (o_t_play 4, .inl (cy 0, 7, .inl x_play_rules)), (o_t_play 5, .inl (cy 0, 600, .inl x_play_pressRow)), (o_t_play 6, .inl (cy 0, 6, .inl x_play_leftFrom)), (o_t_play 7, .inl (cy 0, 6, .inl x_play_leftTo)), (o_t_truth 0, .inr (6, [.ref (o_t_truth 1), .int x_truth_ready])), (o_t_truth 1, .inl (cy 0, 1300, .inl x_truth_rows)), (o_t_board 0, .inr (0, [.ref (o_t_board 1)])), (o_t_board 1, .inl (cy 0, 13, .inl x_board_now)), (o_t 7, .inl (cy 0, 6, .inl x_presses))]
set_option maxHeartbeats 4000000 in
set_option maxRecDepth 100000 in
theorem w_X7_machine {p : Program} {l : Launch} {e : Env} {s : State} {m : MethodId} {args : Array Value} {below : List Frame} {meth : Method} {c : Code} {Q : State → Prop} {A : Nat → Prop} {H : Heap} {locs : List Loc} {ls : Array Slot} (D : va_G) (cy : Nat → ClassId) (t : Nat → Nat) (o_t o_t_play o_t_lines o_t_truth o_t_glassTrack o_t_board o_t_otherBoard o_t_fog o_t_crowd o_t_deal : Nat → Nat) (x_play_w : Int32) (x_play_h : Int32) (x_play_hands : Int32) (x_play_rules : Nat → Int32) (x_play_pressRow : Nat → Int32) (x_play_leftFrom : Nat → Int32) (x_play_leftTo : Nat → Int32) (x_truth_ready : Int32) (x_truth_rows : Nat → Int32) (x_board_now : Nat → Int32) (x_presses : Nat → Int32) (p1 : Int32) (p2 : Int32) {out : Int32 × Int32 × (Nat → Int32) × (Nat → Int32) × (Nat → Int32)} (hf : X7_machine x_play_w x_play_h x_play_hands x_play_rules x_play_pressRow x_play_leftFrom x_play_leftTo x_truth_ready x_truth_rows x_board_now x_presses p1 p2 = some out) (hx : p.tables.exec = Jvm.exec) (hb : c.code = cX7_machine) (hml : c.maxLocals = 3) (hown : s.vm.findClass RX7 = some m.cls) (hts : ∀ w ∈ wsX7_machine, w.before args s = true) (hK : va_K D vwCl (TYS cy) s) (hE : EV t A s s.heap) (hA : ∀ q, s.heap.size ≤ q → A q) (hP : va_P D vwCl (wd_X7_machine cy o_t o_t_play o_t_lines o_t_truth o_t_glassTrack o_t_board o_t_otherBoard o_t_fog o_t_crowd o_t_deal x_play_w x_play_h x_play_hands x_play_rules x_play_pressRow x_play_leftFrom x_play_leftTo x_truth_ready x_truth_rows x_board_now x_presses) H) (hD : va_D A (wd_X7_machine cy o_t o_t_play o_t_lines o_t_truth o_t_glassTrack o_t_board o_t_otherBoard o_t_fog o_t_crowd o_t_deal x_play_w x_play_h x_play_hands x_play_rules x_play_pressRow x_play_leftFrom x_play_leftTo x_truth_ready x_truth_rows x_board_now x_presses)) (hS : va_S A s.heap H locs) (hl : lv_has ls 3 [(0, .ref (o_t 0)), (1, .int p1), (2, .int p2)]) (hR : ∀ (H : Heap) (locs : List Loc) (ls : Array Slot) (pc : Nat), va_P D vwCl (wd_X7_machine cy o_t o_t_play o_t_lines o_t_truth o_t_glassTrack o_t_board o_t_otherBoard o_t_fog o_t_crowd o_t_deal x_play_w x_play_h x_play_hands x_play_rules x_play_pressRow x_play_leftFrom x_play_leftTo out.2.1 out.2.2.1 out.2.2.2.1 out.2.2.2.2) H → va_D A (wd_X7_machine cy o_t o_t_play o_t_lines o_t_truth o_t_glassTrack o_t_board o_t_otherBoard o_t_fog o_t_crowd o_t_deal x_play_w x_play_h x_play_hands x_play_rules x_play_pressRow x_play_leftFrom x_play_leftTo out.2.1 out.2.2.1 out.2.2.2.1 out.2.2.2.2) → va_S A s.heap H locs → decode cX7_machine pc = .ok (.ireturn, 1) → W p l e (rmm 6 141) s m args below meth c H locs 0 0 Q (F0 m pc ls [.int out.1])) : W p l e (rmm 6 141) s m args below meth c H locs 0 0 Q (F0 m 0 ls []) := by
  have k0 := hts (.fieldLink RX7 28 "SeaGames" "truth" "LSeaGames$Track;") (List.mem_cons_of_mem _ (List.mem_append_left _ (List.mem_append_left _ (List.mem_append_left _ (List.mem_append_left _ (List.mem_append_left _ (List.mem_of_getElem? (i := 0) rfl)))))))
  have k1 : ∀ w ∈ u_ws RX7 TX7 12, w ∈ wsX7_machine := fun _ h => List.mem_cons_of_mem _ (List.mem_append_left _ (List.mem_append_left _ (List.mem_append_left _ (List.mem_append_right _ h))))
  have k2 := hts (.fieldLink RX7 38 "SeaGames" "board" "LSeaGames$Board;") (List.mem_cons_of_mem _ (List.mem_append_left _ (List.mem_append_left _ (List.mem_append_left _ (List.mem_append_left _ (List.mem_append_left _ (List.mem_of_getElem? (i := 1) rfl)))))))
  rw [X7_machine] at hf
  refine lv_aload_n hx hb dX7_machine_0 rfl (lv_at hl 0 rfl) ?_
  refine lv_iload_n hx hb dX7_machine_1 rfl (lv_at hl 1 rfl) ?_
  obtain ⟨r2, hr2, hf⟩ := bd_s hf
  refine my_Vi (WS2 := (wd_X7_machine cy o_t o_t_play o_t_lines o_t_truth o_t_glassTrack o_t_board o_t_otherBoard o_t_fog o_t_crowd o_t_deal x_play_w x_play_h x_play_hands x_play_rules x_play_pressRow x_play_leftFrom x_play_leftTo x_truth_ready x_truth_rows x_board_now x_presses)) ⟨hx, hb, hml, hown, hts⟩ (c_X7_isHand l D cy t o_t o_t_play o_t_lines o_t_truth o_t_glassTrack o_t_board o_t_otherBoard o_t_fog o_t_crowd o_t_deal x_play_w x_play_h x_play_hands p1 hr2) (cwV 1 hts gX7_machine_X7_isHand rfl rfl rfl ⟨rfl, hd_X7_isHand⟩ ⟨Nat.le_of_ble_eq_true rfl, Nat.le_of_ble_eq_true rfl⟩) hK hE hP hD hS hA [0, 1] 11 7 0 rfl rfl rfl rfl (by decide +kernel) rfl rfl hl.1 rfl (Nat.le_of_ble_eq_true rfl) dX7_machine_2 ⟨Nat.le_of_ble_eq_true rfl, Nat.le_of_ble_eq_true rfl⟩ (fun H locs hP hD hS => ?_)
  refine lv_if_eq (tgt := 15) hx hb dX7_machine_5 (by decide) (fun c5 => ?_) (fun c5 => ?_)
  · have hf := ifp c5 hf
    refine lv_iconst (v := (-1 : Int32)) hx hb dX7_machine_15 (by decide) ?_
    obtain rfl := Option.some.inj hf
    exact hR _ _ _ _ hP hD hS dX7_machine_16
  · have hf := ifn c5 hf
    refine lv_iload_n hx hb dX7_machine_8 rfl (lv_at hl 2 rfl) ?_
    obtain ⟨r9, hr9, hf⟩ := bd_s hf
    refine my_Si (WS2 := (wd_X7_machine cy o_t o_t_play o_t_lines o_t_truth o_t_glassTrack o_t_board o_t_otherBoard o_t_fog o_t_crowd o_t_deal x_play_w x_play_h x_play_hands x_play_rules x_play_pressRow x_play_leftFrom x_play_leftTo x_truth_ready x_truth_rows x_board_now x_presses)) ⟨hx, hb, hml, hown, hts⟩ (c_X7_isTick l D cy t p2 hr9) (va_cwS 1 hts gX7_machine_X7_isTick rfl rfl rfl hd_X7_isTick ⟨Nat.le_of_ble_eq_true rfl, Nat.le_of_ble_eq_true rfl⟩) hK hE hP hD hS hA [] 11 rfl rfl (by decide +kernel) rfl rfl hl.1 rfl (Nat.le_of_ble_eq_true rfl) dX7_machine_9 ⟨Nat.le_of_ble_eq_true rfl, Nat.le_of_ble_eq_true rfl⟩ (fun H locs hP hD hS => ?_)
    refine lv_if_ne (tgt := 17) hx hb dX7_machine_12 (by decide) (fun c12 => ?_) (fun c12 => ?_)
    · have hf := ifn c12 hf
      refine lv_aload_n hx hb dX7_machine_17 rfl (lv_at hl 0 rfl) ?_
      refine lv_iload_n hx hb dX7_machine_18 rfl (lv_at hl 2 rfl) ?_
      obtain ⟨r19, hr19, hf⟩ := bd_s hf
      refine my_Vv (WS2 := (wd_X7_machine cy o_t o_t_play o_t_lines o_t_truth o_t_glassTrack o_t_board o_t_otherBoard o_t_fog o_t_crowd o_t_deal x_play_w x_play_h x_play_hands x_play_rules x_play_pressRow x_play_leftFrom x_play_leftTo r19.1 r19.2.1 r19.2.2.1 r19.2.2.2)) ⟨hx, hb, hml, hown, hts⟩ (c_X7_playTrulyTo l D cy t o_t o_t_play o_t_lines o_t_truth o_t_glassTrack o_t_board o_t_otherBoard o_t_fog o_t_crowd o_t_deal x_play_w x_play_h x_play_hands x_play_rules x_play_pressRow x_play_leftFrom x_play_leftTo x_truth_ready x_truth_rows x_board_now x_presses p2 hr19) (cwV 1 hts gX7_machine_X7_playTrulyTo rfl rfl rfl ⟨rfl, hd_X7_playTrulyTo⟩ ⟨Nat.le_of_ble_eq_true rfl, Nat.le_of_ble_eq_true rfl⟩) hK hE hP hD hS hA [0, 1, 2, 3, 4, 5, 6, 7, 8, 9, 10] 11 7 0 rfl rfl rfl rfl (by decide +kernel) rfl rfl hl.1 rfl (Nat.le_of_ble_eq_true rfl) dX7_machine_19 ⟨Nat.le_of_ble_eq_true rfl, Nat.le_of_ble_eq_true rfl⟩ (fun H locs hP hD hS => ?_)
      refine lv_aload_n hx hb dX7_machine_22 rfl (lv_at hl 0 rfl) ?_
      refine va_get (D := D) (ci := 7) (v := .ref (o_t_truth 0)) (C := RX7) (T := TX7) (N := 12) hx hb hts k1 hown hK hP 0 rfl rfl 2 (by decide) k0 (fun _ h9 => h9) rfl dX7_machine_23 ?_
      refine lv_iload_n hx hb dX7_machine_26 rfl (lv_at hl 2 rfl) ?_
      refine lv_aload_n hx hb dX7_machine_27 rfl (lv_at hl 0 rfl) ?_
      refine va_get (D := D) (ci := 7) (v := .ref (o_t_board 0)) (C := RX7) (T := TX7) (N := 12) hx hb hts k1 hown hK hP 0 rfl rfl 4 (by decide) k2 (fun _ h9 => h9) rfl dX7_machine_28 ?_
      obtain ⟨r31, hr31, hf⟩ := bd_s hf
      refine my_Vv (WS2 := (wd_X7_machine cy o_t o_t_play o_t_lines o_t_truth o_t_glassTrack o_t_board o_t_otherBoard o_t_fog o_t_crowd o_t_deal x_play_w x_play_h x_play_hands x_play_rules x_play_pressRow x_play_leftFrom x_play_leftTo r19.1 r19.2.1 r31 r19.2.2.2)) ⟨hx, hb, hml, hown, hts⟩ (c_X6_load l D cy t o_t_truth o_t_board r19.1 r19.2.1 r19.2.2.1 p2 hr31) (cwV 2 hts gX7_machine_X6_load rfl rfl rfl ⟨rfl, hd_X6_load⟩ ⟨Nat.le_of_ble_eq_true rfl, Nat.le_of_ble_eq_true rfl⟩) hK hE hP hD hS hA [6, 7, 8, 9] 11 6 0 rfl rfl rfl rfl (by decide +kernel) rfl rfl hl.1 rfl (Nat.le_of_ble_eq_true rfl) dX7_machine_31 ⟨Nat.le_of_ble_eq_true rfl, Nat.le_of_ble_eq_true rfl⟩ (fun H locs hP hD hS => ?_)
      refine lv_aload_n hx hb dX7_machine_34 rfl (lv_at hl 0 rfl) ?_
      refine va_get (D := D) (ci := 7) (v := .ref (o_t_board 0)) (C := RX7) (T := TX7) (N := 12) hx hb hts k1 hown hK hP 0 rfl rfl 4 (by decide) k2 (fun _ h9 => h9) rfl dX7_machine_35 ?_
      refine lv_iload_n hx hb dX7_machine_38 rfl (lv_at hl 1 rfl) ?_
      obtain ⟨r39, hr39, hf⟩ := bd_s hf
      refine my_Vi (WS2 := (wd_X7_machine cy o_t o_t_play o_t_lines o_t_truth o_t_glassTrack o_t_board o_t_otherBoard o_t_fog o_t_crowd o_t_deal x_play_w x_play_h x_play_hands x_play_rules x_play_pressRow x_play_leftFrom x_play_leftTo r19.1 r19.2.1 r31 r19.2.2.2)) ⟨hx, hb, hml, hown, hts⟩ (c_X0_machinePress l D cy t o_t_board r31 p1 hr39) (cwV 1 hts gX7_machine_X0_machinePress rfl rfl rfl ⟨rfl, hd_X0_machinePress⟩ ⟨Nat.le_of_ble_eq_true rfl, Nat.le_of_ble_eq_true rfl⟩) hK hE hP hD hS hA [8, 9] 11 0 0 rfl rfl rfl rfl (by decide +kernel) rfl rfl hl.1 rfl (Nat.le_of_ble_eq_true rfl) dX7_machine_39 ⟨Nat.le_of_ble_eq_true rfl, Nat.le_of_ble_eq_true rfl⟩ (fun H locs hP hD hS => ?_)
      obtain rfl := Option.some.inj hf
      exact hR _ _ _ _ hP hD hS dX7_machine_42
    · have hf := ifp c12 hf
      refine lv_iconst (v := (-1 : Int32)) hx hb dX7_machine_15 (by decide) ?_
      obtain rfl := Option.some.inj hf
      exact hR _ _ _ _ hP hD hS dX7_machine_16
theorem hd_X7_machine : yX7_machine.cls ≠ "java/lang/invoke/MethodHandle" ∧ yX7_machine.cls ≠ "java/lang/invoke/VarHandle" ∧ (parseMethodDescriptor yX7_machine.desc).map (fun d => d.parameters.length) = some 2 := by decide +kernel
set_option maxRecDepth 100000 in
theorem c_X7_machine (l : Launch) (D : va_G) (cy : Nat → ClassId) (t : Nat → Nat) (o_t o_t_play o_t_lines o_t_truth o_t_glassTrack o_t_board o_t_otherBoard o_t_fog o_t_crowd o_t_deal : Nat → Nat) (x_play_w : Int32) (x_play_h : Int32) (x_play_hands : Int32) (x_play_rules : Nat → Int32) (x_play_pressRow : Nat → Int32) (x_play_leftFrom : Nat → Int32) (x_play_leftTo : Nat → Int32) (x_truth_ready : Int32) (x_truth_rows : Nat → Int32) (x_board_now : Nat → Int32) (x_presses : Nat → Int32) (p1 : Int32) (p2 : Int32) {out : Int32 × Int32 × (Nat → Int32) × (Nat → Int32) × (Nat → Int32)} (hf : X7_machine x_play_w x_play_h x_play_hands x_play_rules x_play_pressRow x_play_leftFrom x_play_leftTo x_truth_ready x_truth_rows x_board_now x_presses p1 p2 = some out) : ctI l yX7_machine wsX7_machine 6 141 D cy t [.ref (o_t 0), .int p1, .int p2] (wd_X7_machine cy o_t o_t_play o_t_lines o_t_truth o_t_glassTrack o_t_board o_t_otherBoard o_t_fog o_t_crowd o_t_deal x_play_w x_play_h x_play_hands x_play_rules x_play_pressRow x_play_leftFrom x_play_leftTo x_truth_ready x_truth_rows x_board_now x_presses) (wd_X7_machine cy o_t o_t_play o_t_lines o_t_truth o_t_glassTrack o_t_board o_t_otherBoard o_t_fog o_t_crowd o_t_deal x_play_w x_play_h x_play_hands x_play_rules x_play_pressRow x_play_leftFrom x_play_leftTo out.2.1 out.2.2.1 out.2.2.2.1 out.2.2.2.2) out.1 := by
  refine ⟨rfl, ?_⟩
  intro sz
  refine Met.ofW (cc := cX7_machine) (maxL := 3) (ret := (some .int)) (by decide) rfl ?_
  intro p e s m args below meth c s₁ B hml hv
  obtain ⟨rfl, hsz, hP, hK, hD0, hE⟩ := hv
  have hts := atoms_spec (ws := wsX7_machine) B.pre
  have hown : s.vm.findClass RX7 = some m.cls := findClass_of_methodNamed B.named
  have hlocks := B.notSynchronized
  subst hsz
  have hD := hD0.self (sz := s.heap.size)
  have hl := lv_entry ([.ref (o_t 0), .int p1, .int p2]) (n := 3) (Nat.le_of_ble_eq_true rfl)
  rw [lg_entry_eq]
  generalize (lg_sl ([.ref (o_t 0), .int p1, .int p2]) ++ List.replicate (3 - (lg_sl ([.ref (o_t 0), .int p1, .int p2])).length) Slot.unset).toArray = ls at hl ⊢
  exact w_X7_machine D cy t o_t o_t_play o_t_lines o_t_truth o_t_glassTrack o_t_board o_t_otherBoard o_t_fog o_t_crowd o_t_deal x_play_w x_play_h x_play_hands x_play_rules x_play_pressRow x_play_leftFrom x_play_leftTo x_truth_ready x_truth_rows x_board_now x_presses p1 p2 hf B.exec B.bytes hml hown hts hK hE (fun q h => Or.inr h) hP hD va_S.rf hl (fun H locs ls pc hP hD hS hdg => W.iret B.exec B.bytes B.returns (fun t ht hW => ⟨⟨_, (), rfl, rfl, ctB_of ht hP⟩, hS.F ht⟩) hS.2.2 hdg)

noncomputable def X7_line (x_play_hands : Int32) (x_lines_waits : Nat → Int32) (p1 : Int32) (p2 : Int32) (p3 : Int32) : Option (Int32 × (Nat → Int32)) :=
  bd (X7_isHand x_play_hands p1) fun r2 => if r2 = (0 : Int32) then (some ((-1 : Int32), x_lines_waits)) else (bd (X7_isHand x_play_hands p2) fun r10 => if r10 = (0 : Int32) then (some ((-1 : Int32), x_lines_waits)) else (if p3 < (0 : Int32) then (some ((-2 : Int32), x_lines_waits)) else (if p3 ≤ (9 : Int32) then (if p1 = p2 then (some ((-3 : Int32), x_lines_waits)) else (bd (X4_waitOf x_lines_waits p1 p2) fun r45 => bd (X4_setWait x_lines_waits p1 p2 p3) fun r57 => some (r45, r57))) else (some ((-2 : Int32), x_lines_waits)))))
abbrev wd_X7_line (cy : Nat → ClassId) (o_t o_t_play o_t_lines o_t_truth o_t_glassTrack o_t_board o_t_otherBoard o_t_fog o_t_crowd o_t_deal : Nat → Nat) (x_play_w : Int32) (x_play_h : Int32) (x_play_hands : Int32) (x_lines_waits : Nat → Int32) : va_W := [(o_t 0, .inr (7, [.ref (o_t_play 0), .ref (o_t_lines 0), .ref (o_t_truth 0), .ref (o_t_glassTrack 0), .ref (o_t_board 0), .ref (o_t_otherBoard 0), .ref (o_t 7), .ref (o_t_fog 0), .ref (o_t_crowd 0), .ref (o_t_deal 0), .ref (o_t 11), .ref (o_t 12)])), (o_t_play 0, .inr (5, [.int x_play_w, .int x_play_h, .int x_play_hands, .ref (o_t_play 4), .ref (o_t_play 5), .ref (o_t_play 6), .ref (o_t_play 7)])), (o_t_lines 0, .inr (4, [.ref (o_t_play 0), .ref (o_t_lines 2), .ref (o_t_lines 3)])), (o_t_lines 2, .inl (cy 0, 36, .inl x_lines_waits))]
set_option maxHeartbeats 4000000 in
set_option maxRecDepth 100000 in
theorem w_X7_line {p : Program} {l : Launch} {e : Env} {s : State} {m : MethodId} {args : Array Value} {below : List Frame} {meth : Method} {c : Code} {Q : State → Prop} {A : Nat → Prop} {H : Heap} {locs : List Loc} {ls : Array Slot} (D : va_G) (cy : Nat → ClassId) (t : Nat → Nat) (o_t o_t_play o_t_lines o_t_truth o_t_glassTrack o_t_board o_t_otherBoard o_t_fog o_t_crowd o_t_deal : Nat → Nat) (x_play_w : Int32) (x_play_h : Int32) (x_play_hands : Int32) (x_lines_waits : Nat → Int32) (p1 : Int32) (p2 : Int32) (p3 : Int32) {out : Int32 × (Nat → Int32)} (hf : X7_line x_play_hands x_lines_waits p1 p2 p3 = some out) (hx : p.tables.exec = Jvm.exec) (hb : c.code = cX7_line) (hml : c.maxLocals = 5) (hown : s.vm.findClass RX7 = some m.cls) (hts : ∀ w ∈ wsX7_line, w.before args s = true) (hK : va_K D vwCl (TYS cy) s) (hE : EV t A s s.heap) (hA : ∀ q, s.heap.size ≤ q → A q) (hP : va_P D vwCl (wd_X7_line cy o_t o_t_play o_t_lines o_t_truth o_t_glassTrack o_t_board o_t_otherBoard o_t_fog o_t_crowd o_t_deal x_play_w x_play_h x_play_hands x_lines_waits) H) (hD : va_D A (wd_X7_line cy o_t o_t_play o_t_lines o_t_truth o_t_glassTrack o_t_board o_t_otherBoard o_t_fog o_t_crowd o_t_deal x_play_w x_play_h x_play_hands x_lines_waits)) (hS : va_S A s.heap H locs) (hl : lv_has ls 5 [(0, .ref (o_t 0)), (1, .int p1), (2, .int p2), (3, .int p3)]) (hR : ∀ (H : Heap) (locs : List Loc) (ls : Array Slot) (pc : Nat), va_P D vwCl (wd_X7_line cy o_t o_t_play o_t_lines o_t_truth o_t_glassTrack o_t_board o_t_otherBoard o_t_fog o_t_crowd o_t_deal x_play_w x_play_h x_play_hands out.2) H → va_D A (wd_X7_line cy o_t o_t_play o_t_lines o_t_truth o_t_glassTrack o_t_board o_t_otherBoard o_t_fog o_t_crowd o_t_deal x_play_w x_play_h x_play_hands out.2) → va_S A s.heap H locs → decode cX7_line pc = .ok (.ireturn, 1) → W p l e (rmm 1 23) s m args below meth c H locs 0 0 Q (F0 m pc ls [.int out.1])) : W p l e (rmm 1 23) s m args below meth c H locs 0 0 Q (F0 m 0 ls []) := by
  have k0 := hts (.fieldLink RX7 21 "SeaGames" "lines" "LSeaGames$Lines;") (List.mem_cons_of_mem _ (List.mem_append_left _ (List.mem_append_left _ (List.mem_append_left _ (List.mem_of_getElem? (i := 0) rfl)))))
  have k1 : ∀ w ∈ u_ws RX7 TX7 12, w ∈ wsX7_line := fun _ h => List.mem_cons_of_mem _ (List.mem_append_left _ (List.mem_append_left _ (List.mem_append_right _ h)))
  rw [X7_line] at hf
  refine lv_aload_n hx hb dX7_line_0 rfl (lv_at hl 0 rfl) ?_
  refine lv_iload_n hx hb dX7_line_1 rfl (lv_at hl 1 rfl) ?_
  obtain ⟨r2, hr2, hf⟩ := bd_s hf
  refine my_Vi (WS2 := (wd_X7_line cy o_t o_t_play o_t_lines o_t_truth o_t_glassTrack o_t_board o_t_otherBoard o_t_fog o_t_crowd o_t_deal x_play_w x_play_h x_play_hands x_lines_waits)) ⟨hx, hb, hml, hown, hts⟩ (c_X7_isHand l D cy t o_t o_t_play o_t_lines o_t_truth o_t_glassTrack o_t_board o_t_otherBoard o_t_fog o_t_crowd o_t_deal x_play_w x_play_h x_play_hands p1 hr2) (cwV 1 hts gX7_line_X7_isHand rfl rfl rfl ⟨rfl, hd_X7_isHand⟩ ⟨Nat.le_of_ble_eq_true rfl, Nat.le_of_ble_eq_true rfl⟩) hK hE hP hD hS hA [0, 1] 4 7 0 rfl rfl rfl rfl (by decide +kernel) rfl rfl hl.1 rfl (Nat.le_of_ble_eq_true rfl) dX7_line_2 ⟨Nat.le_of_ble_eq_true rfl, Nat.le_of_ble_eq_true rfl⟩ (fun H locs hP hD hS => ?_)
  refine lv_if_eq (tgt := 16) hx hb dX7_line_5 (by decide) (fun c5 => ?_) (fun c5 => ?_)
  · have hf := ifp c5 hf
    refine lv_iconst (v := (-1 : Int32)) hx hb dX7_line_16 (by decide) ?_
    obtain rfl := Option.some.inj hf
    exact hR _ _ _ _ hP hD hS dX7_line_17
  · have hf := ifn c5 hf
    refine lv_aload_n hx hb dX7_line_8 rfl (lv_at hl 0 rfl) ?_
    refine lv_iload_n hx hb dX7_line_9 rfl (lv_at hl 2 rfl) ?_
    obtain ⟨r10, hr10, hf⟩ := bd_s hf
    refine my_Vi (WS2 := (wd_X7_line cy o_t o_t_play o_t_lines o_t_truth o_t_glassTrack o_t_board o_t_otherBoard o_t_fog o_t_crowd o_t_deal x_play_w x_play_h x_play_hands x_lines_waits)) ⟨hx, hb, hml, hown, hts⟩ (c_X7_isHand l D cy t o_t o_t_play o_t_lines o_t_truth o_t_glassTrack o_t_board o_t_otherBoard o_t_fog o_t_crowd o_t_deal x_play_w x_play_h x_play_hands p2 hr10) (cwV 1 hts gX7_line_X7_isHand rfl rfl rfl ⟨rfl, hd_X7_isHand⟩ ⟨Nat.le_of_ble_eq_true rfl, Nat.le_of_ble_eq_true rfl⟩) hK hE hP hD hS hA [0, 1] 4 7 0 rfl rfl rfl rfl (by decide +kernel) rfl rfl hl.1 rfl (Nat.le_of_ble_eq_true rfl) dX7_line_10 ⟨Nat.le_of_ble_eq_true rfl, Nat.le_of_ble_eq_true rfl⟩ (fun H locs hP hD hS => ?_)
    refine lv_if_ne (tgt := 18) hx hb dX7_line_13 (by decide) (fun c13 => ?_) (fun c13 => ?_)
    · have hf := ifn c13 hf
      refine lv_iload_n hx hb dX7_line_18 rfl (lv_at hl 3 rfl) ?_
      refine lv_if_lt (tgt := 28) hx hb dX7_line_19 (by decide) (fun c19 => ?_) (fun c19 => ?_)
      · have hf := ifp c19 hf
        refine lv_bipush (v := (-2 : Int32)) hx hb dX7_line_28 (by decide) ?_
        obtain rfl := Option.some.inj hf
        exact hR _ _ _ _ hP hD hS dX7_line_30
      · have hf := ifn c19 hf
        refine lv_iload_n hx hb dX7_line_22 rfl (lv_at hl 3 rfl) ?_
        refine lv_bipush (v := (9 : Int32)) hx hb dX7_line_23 (by decide) ?_
        refine lv_icmp_le (tgt := 31) hx hb dX7_line_25 (by decide) (fun c25 => ?_) (fun c25 => ?_)
        · have hf := ifp c25 hf
          refine lv_iload_n hx hb dX7_line_31 rfl (lv_at hl 1 rfl) ?_
          refine lv_iload_n hx hb dX7_line_32 rfl (lv_at hl 2 rfl) ?_
          refine lv_icmp_ne (tgt := 39) hx hb dX7_line_33 (by decide) (fun c33 => ?_) (fun c33 => ?_)
          · have hf := ifn c33 hf
            refine lv_aload_n hx hb dX7_line_39 rfl (lv_at hl 0 rfl) ?_
            refine va_get (D := D) (ci := 7) (v := .ref (o_t_lines 0)) (C := RX7) (T := TX7) (N := 12) hx hb hts k1 hown hK hP 0 rfl rfl 1 (by decide) k0 (fun _ h9 => h9) rfl dX7_line_40 ?_
            refine lv_iload_n hx hb dX7_line_43 rfl (lv_at hl 1 rfl) ?_
            refine lv_iload_n hx hb dX7_line_44 rfl (lv_at hl 2 rfl) ?_
            obtain ⟨r45, hr45, hf⟩ := bd_s hf
            refine my_Vi (WS2 := (wd_X7_line cy o_t o_t_play o_t_lines o_t_truth o_t_glassTrack o_t_board o_t_otherBoard o_t_fog o_t_crowd o_t_deal x_play_w x_play_h x_play_hands x_lines_waits)) ⟨hx, hb, hml, hown, hts⟩ (c_X4_waitOf l D cy t o_t_lines o_t_play x_lines_waits p1 p2 hr45) (cwV 2 hts gX7_line_X4_waitOf rfl rfl rfl ⟨rfl, hd_X4_waitOf⟩ ⟨Nat.le_of_ble_eq_true rfl, Nat.le_of_ble_eq_true rfl⟩) hK hE hP hD hS hA [2, 3] 4 4 0 rfl rfl rfl rfl (by decide +kernel) rfl rfl hl.1 rfl (Nat.le_of_ble_eq_true rfl) dX7_line_45 ⟨Nat.le_of_ble_eq_true rfl, Nat.le_of_ble_eq_true rfl⟩ (fun H locs hP hD hS => ?_)
            refine lv_istore (lv' := [(4, .int r45), (0, .ref (o_t 0)), (1, .int p1), (2, .int p2), (3, .int p3)]) hx hb dX7_line_48 hl (by decide) rfl (fun ls hl => ?_)
            refine lv_aload_n hx hb dX7_line_50 rfl (lv_at hl 1 rfl) ?_
            refine va_get (D := D) (ci := 7) (v := .ref (o_t_lines 0)) (C := RX7) (T := TX7) (N := 12) hx hb hts k1 hown hK hP 0 rfl rfl 1 (by decide) k0 (fun _ h9 => h9) rfl dX7_line_51 ?_
            refine lv_iload_n hx hb dX7_line_54 rfl (lv_at hl 2 rfl) ?_
            refine lv_iload_n hx hb dX7_line_55 rfl (lv_at hl 3 rfl) ?_
            refine lv_iload_n hx hb dX7_line_56 rfl (lv_at hl 4 rfl) ?_
            obtain ⟨r57, hr57, hf⟩ := bd_s hf
            refine my_Vv (WS2 := (wd_X7_line cy o_t o_t_play o_t_lines o_t_truth o_t_glassTrack o_t_board o_t_otherBoard o_t_fog o_t_crowd o_t_deal x_play_w x_play_h x_play_hands r57)) ⟨hx, hb, hml, hown, hts⟩ (c_X4_setWait l D cy t o_t_lines o_t_play x_lines_waits p1 p2 p3 hr57) (cwV 3 hts gX7_line_X4_setWait rfl rfl rfl ⟨rfl, hd_X4_setWait⟩ ⟨Nat.le_of_ble_eq_true rfl, Nat.le_of_ble_eq_true rfl⟩) hK hE hP hD hS hA [2, 3] 4 4 0 rfl rfl rfl rfl (by decide +kernel) rfl rfl hl.1 rfl (Nat.le_of_ble_eq_true rfl) dX7_line_57 ⟨Nat.le_of_ble_eq_true rfl, Nat.le_of_ble_eq_true rfl⟩ (fun H locs hP hD hS => ?_)
            refine lv_iload hx hb dX7_line_60 (lv_at hl 0 rfl) ?_
            obtain rfl := Option.some.inj hf
            exact hR _ _ _ _ hP hD hS dX7_line_62
          · have hf := ifp c33 hf
            refine lv_bipush (v := (-3 : Int32)) hx hb dX7_line_36 (by decide) ?_
            obtain rfl := Option.some.inj hf
            exact hR _ _ _ _ hP hD hS dX7_line_38
        · have hf := ifn c25 hf
          refine lv_bipush (v := (-2 : Int32)) hx hb dX7_line_28 (by decide) ?_
          obtain rfl := Option.some.inj hf
          exact hR _ _ _ _ hP hD hS dX7_line_30
    · have hf := ifp c13 hf
      refine lv_iconst (v := (-1 : Int32)) hx hb dX7_line_16 (by decide) ?_
      obtain rfl := Option.some.inj hf
      exact hR _ _ _ _ hP hD hS dX7_line_17
theorem hd_X7_line : yX7_line.cls ≠ "java/lang/invoke/MethodHandle" ∧ yX7_line.cls ≠ "java/lang/invoke/VarHandle" ∧ (parseMethodDescriptor yX7_line.desc).map (fun d => d.parameters.length) = some 3 := by decide +kernel
set_option maxRecDepth 100000 in
theorem c_X7_line (l : Launch) (D : va_G) (cy : Nat → ClassId) (t : Nat → Nat) (o_t o_t_play o_t_lines o_t_truth o_t_glassTrack o_t_board o_t_otherBoard o_t_fog o_t_crowd o_t_deal : Nat → Nat) (x_play_w : Int32) (x_play_h : Int32) (x_play_hands : Int32) (x_lines_waits : Nat → Int32) (p1 : Int32) (p2 : Int32) (p3 : Int32) {out : Int32 × (Nat → Int32)} (hf : X7_line x_play_hands x_lines_waits p1 p2 p3 = some out) : ctI l yX7_line wsX7_line 1 23 D cy t [.ref (o_t 0), .int p1, .int p2, .int p3] (wd_X7_line cy o_t o_t_play o_t_lines o_t_truth o_t_glassTrack o_t_board o_t_otherBoard o_t_fog o_t_crowd o_t_deal x_play_w x_play_h x_play_hands x_lines_waits) (wd_X7_line cy o_t o_t_play o_t_lines o_t_truth o_t_glassTrack o_t_board o_t_otherBoard o_t_fog o_t_crowd o_t_deal x_play_w x_play_h x_play_hands out.2) out.1 := by
  refine ⟨rfl, ?_⟩
  intro sz
  refine Met.ofW (cc := cX7_line) (maxL := 5) (ret := (some .int)) (by decide) rfl ?_
  intro p e s m args below meth c s₁ B hml hv
  obtain ⟨rfl, hsz, hP, hK, hD0, hE⟩ := hv
  have hts := atoms_spec (ws := wsX7_line) B.pre
  have hown : s.vm.findClass RX7 = some m.cls := findClass_of_methodNamed B.named
  have hlocks := B.notSynchronized
  subst hsz
  have hD := hD0.self (sz := s.heap.size)
  have hl := lv_entry ([.ref (o_t 0), .int p1, .int p2, .int p3]) (n := 5) (Nat.le_of_ble_eq_true rfl)
  rw [lg_entry_eq]
  generalize (lg_sl ([.ref (o_t 0), .int p1, .int p2, .int p3]) ++ List.replicate (5 - (lg_sl ([.ref (o_t 0), .int p1, .int p2, .int p3])).length) Slot.unset).toArray = ls at hl ⊢
  exact w_X7_line D cy t o_t o_t_play o_t_lines o_t_truth o_t_glassTrack o_t_board o_t_otherBoard o_t_fog o_t_crowd o_t_deal x_play_w x_play_h x_play_hands x_lines_waits p1 p2 p3 hf B.exec B.bytes hml hown hts hK hE (fun q h => Or.inr h) hP hD va_S.rf hl (fun H locs ls pc hP hD hS hdg => W.iret B.exec B.bytes B.returns (fun t ht hW => ⟨⟨_, (), rfl, rfl, ctB_of ht hP⟩, hS.F ht⟩) hS.2.2 hdg)

noncomputable def X7_lose_J34 (x_play_hands : Int32) (x_lines_lostRow : Nat → Int32) (l1 : Int32) (l2 : Int32) (l3 : Int32) (s0 : Int32) : Option (Int32 × (Nat → Int32)) :=
  bd (X4_setLost x_lines_lostRow l1 l2 l3) fun r43 => some (s0, r43)
noncomputable def X7_lose (x_play_hands : Int32) (x_lines_lostRow : Nat → Int32) (p1 : Int32) (p2 : Int32) (p3 : Int32) : Option (Int32 × (Nat → Int32)) :=
  bd (X7_isHand x_play_hands p1) fun r2 => if r2 = (0 : Int32) then (some ((-1 : Int32), x_lines_lostRow)) else (bd (X7_isTick p2) fun r9 => if r9 = (0 : Int32) then (some ((-1 : Int32), x_lines_lostRow)) else (bd (X4_isLost x_lines_lostRow p1 p2) fun r23 => if r23 = (0 : Int32) then (X7_lose_J34 x_play_hands  x_lines_lostRow p1 p2 p3 (0 : Int32)) else (X7_lose_J34 x_play_hands  x_lines_lostRow p1 p2 p3 (1 : Int32))))
abbrev wd_X7_lose (cy : Nat → ClassId) (o_t o_t_play o_t_lines o_t_truth o_t_glassTrack o_t_board o_t_otherBoard o_t_fog o_t_crowd o_t_deal : Nat → Nat) (x_play_w : Int32) (x_play_h : Int32) (x_play_hands : Int32) (x_lines_lostRow : Nat → Int32) : va_W := [(o_t 0, .inr (7, [.ref (o_t_play 0), .ref (o_t_lines 0), .ref (o_t_truth 0), .ref (o_t_glassTrack 0), .ref (o_t_board 0), .ref (o_t_otherBoard 0), .ref (o_t 7), .ref (o_t_fog 0), .ref (o_t_crowd 0), .ref (o_t_deal 0), .ref (o_t 11), .ref (o_t 12)])), (o_t_play 0, .inr (5, [.int x_play_w, .int x_play_h, .int x_play_hands, .ref (o_t_play 4), .ref (o_t_play 5), .ref (o_t_play 6), .ref (o_t_play 7)])), (o_t_lines 0, .inr (4, [.ref (o_t_play 0), .ref (o_t_lines 2), .ref (o_t_lines 3)])), (o_t_lines 3, .inl (cy 1, 600, .inl x_lines_lostRow))]
set_option maxHeartbeats 4000000 in
set_option maxRecDepth 100000 in
theorem w_X7_lose {p : Program} {l : Launch} {e : Env} {s : State} {m : MethodId} {args : Array Value} {below : List Frame} {meth : Method} {c : Code} {Q : State → Prop} {A : Nat → Prop} {H : Heap} {locs : List Loc} {ls : Array Slot} (D : va_G) (cy : Nat → ClassId) (t : Nat → Nat) (o_t o_t_play o_t_lines o_t_truth o_t_glassTrack o_t_board o_t_otherBoard o_t_fog o_t_crowd o_t_deal : Nat → Nat) (x_play_w : Int32) (x_play_h : Int32) (x_play_hands : Int32) (x_lines_lostRow : Nat → Int32) (p1 : Int32) (p2 : Int32) (p3 : Int32) {out : Int32 × (Nat → Int32)} (hf : X7_lose x_play_hands x_lines_lostRow p1 p2 p3 = some out) (hx : p.tables.exec = Jvm.exec) (hb : c.code = cX7_lose) (hml : c.maxLocals = 5) (hown : s.vm.findClass RX7 = some m.cls) (hts : ∀ w ∈ wsX7_lose, w.before args s = true) (hK : va_K D vwCl (TYS cy) s) (hE : EV t A s s.heap) (hA : ∀ q, s.heap.size ≤ q → A q) (hP : va_P D vwCl (wd_X7_lose cy o_t o_t_play o_t_lines o_t_truth o_t_glassTrack o_t_board o_t_otherBoard o_t_fog o_t_crowd o_t_deal x_play_w x_play_h x_play_hands x_lines_lostRow) H) (hD : va_D A (wd_X7_lose cy o_t o_t_play o_t_lines o_t_truth o_t_glassTrack o_t_board o_t_otherBoard o_t_fog o_t_crowd o_t_deal x_play_w x_play_h x_play_hands x_lines_lostRow)) (hS : va_S A s.heap H locs) (hl : lv_has ls 5 [(0, .ref (o_t 0)), (1, .int p1), (2, .int p2), (3, .int p3)]) (hR : ∀ (H : Heap) (locs : List Loc) (ls : Array Slot) (pc : Nat), va_P D vwCl (wd_X7_lose cy o_t o_t_play o_t_lines o_t_truth o_t_glassTrack o_t_board o_t_otherBoard o_t_fog o_t_crowd o_t_deal x_play_w x_play_h x_play_hands out.2) H → va_D A (wd_X7_lose cy o_t o_t_play o_t_lines o_t_truth o_t_glassTrack o_t_board o_t_otherBoard o_t_fog o_t_crowd o_t_deal x_play_w x_play_h x_play_hands out.2) → va_S A s.heap H locs → decode cX7_lose pc = .ok (.ireturn, 1) → W p l e (rmm 1 23) s m args below meth c H locs 0 0 Q (F0 m pc ls [.int out.1])) : W p l e (rmm 1 23) s m args below meth c H locs 0 0 Q (F0 m 0 ls []) := by
  have k0 := hts (.fieldLink RX7 21 "SeaGames" "lines" "LSeaGames$Lines;") (List.mem_cons_of_mem _ (List.mem_append_left _ (List.mem_append_left _ (List.mem_append_left _ (List.mem_of_getElem? (i := 0) rfl)))))
  have k1 : ∀ w ∈ u_ws RX7 TX7 12, w ∈ wsX7_lose := fun _ h => List.mem_cons_of_mem _ (List.mem_append_left _ (List.mem_append_left _ (List.mem_append_right _ h)))
  rw [X7_lose] at hf
  refine lv_aload_n hx hb dX7_lose_0 rfl (lv_at hl 0 rfl) ?_
  refine lv_iload_n hx hb dX7_lose_1 rfl (lv_at hl 1 rfl) ?_
  obtain ⟨r2, hr2, hf⟩ := bd_s hf
  refine my_Vi (WS2 := (wd_X7_lose cy o_t o_t_play o_t_lines o_t_truth o_t_glassTrack o_t_board o_t_otherBoard o_t_fog o_t_crowd o_t_deal x_play_w x_play_h x_play_hands x_lines_lostRow)) ⟨hx, hb, hml, hown, hts⟩ (c_X7_isHand l D cy t o_t o_t_play o_t_lines o_t_truth o_t_glassTrack o_t_board o_t_otherBoard o_t_fog o_t_crowd o_t_deal x_play_w x_play_h x_play_hands p1 hr2) (cwV 1 hts gX7_lose_X7_isHand rfl rfl rfl ⟨rfl, hd_X7_isHand⟩ ⟨Nat.le_of_ble_eq_true rfl, Nat.le_of_ble_eq_true rfl⟩) hK hE hP hD hS hA [0, 1] 4 7 0 rfl rfl rfl rfl (by decide +kernel) rfl rfl hl.1 rfl (Nat.le_of_ble_eq_true rfl) dX7_lose_2 ⟨Nat.le_of_ble_eq_true rfl, Nat.le_of_ble_eq_true rfl⟩ (fun H locs hP hD hS => ?_)
  refine lv_if_eq (tgt := 15) hx hb dX7_lose_5 (by decide) (fun c5 => ?_) (fun c5 => ?_)
  · have hf := ifp c5 hf
    refine lv_iconst (v := (-1 : Int32)) hx hb dX7_lose_15 (by decide) ?_
    obtain rfl := Option.some.inj hf
    exact hR _ _ _ _ hP hD hS dX7_lose_16
  · have hf := ifn c5 hf
    refine lv_iload_n hx hb dX7_lose_8 rfl (lv_at hl 2 rfl) ?_
    obtain ⟨r9, hr9, hf⟩ := bd_s hf
    refine my_Si (WS2 := (wd_X7_lose cy o_t o_t_play o_t_lines o_t_truth o_t_glassTrack o_t_board o_t_otherBoard o_t_fog o_t_crowd o_t_deal x_play_w x_play_h x_play_hands x_lines_lostRow)) ⟨hx, hb, hml, hown, hts⟩ (c_X7_isTick l D cy t p2 hr9) (va_cwS 1 hts gX7_lose_X7_isTick rfl rfl rfl hd_X7_isTick ⟨Nat.le_of_ble_eq_true rfl, Nat.le_of_ble_eq_true rfl⟩) hK hE hP hD hS hA [] 4 rfl rfl (by decide +kernel) rfl rfl hl.1 rfl (Nat.le_of_ble_eq_true rfl) dX7_lose_9 ⟨Nat.le_of_ble_eq_true rfl, Nat.le_of_ble_eq_true rfl⟩ (fun H locs hP hD hS => ?_)
    refine lv_if_ne (tgt := 17) hx hb dX7_lose_12 (by decide) (fun c12 => ?_) (fun c12 => ?_)
    · have hf := ifn c12 hf
      have h34 : ∀ (x_lines_lostRow : Nat → Int32) (l1 : Int32) (l2 : Int32) (l3 : Int32) (s0 : Int32) (H : Heap) (locs : List Loc) (ls : Array Slot), X7_lose_J34 x_play_hands x_lines_lostRow l1 l2 l3 s0 = some out → va_P D vwCl (wd_X7_lose cy o_t o_t_play o_t_lines o_t_truth o_t_glassTrack o_t_board o_t_otherBoard o_t_fog o_t_crowd o_t_deal x_play_w x_play_h x_play_hands x_lines_lostRow) H → va_D A (wd_X7_lose cy o_t o_t_play o_t_lines o_t_truth o_t_glassTrack o_t_board o_t_otherBoard o_t_fog o_t_crowd o_t_deal x_play_w x_play_h x_play_hands x_lines_lostRow) → va_S A s.heap H locs → lv_has ls 5 [(0, .ref (o_t 0)), (1, .int l1), (2, .int l2), (3, .int l3)] → W p l e (rmm 1 23) s m args below meth c H locs 0 0 Q (F0 m 34 ls [.int s0]) := by
        intro x_lines_lostRow l1 l2 l3 s0 H locs ls hf hP hD hS hl
        rw [X7_lose_J34] at hf
        refine lv_istore (lv' := [(4, .int s0), (0, .ref (o_t 0)), (1, .int l1), (2, .int l2), (3, .int l3)]) hx hb dX7_lose_34 hl (by decide) rfl (fun ls hl => ?_)
        refine lv_aload_n hx hb dX7_lose_36 rfl (lv_at hl 1 rfl) ?_
        refine va_get (D := D) (ci := 7) (v := .ref (o_t_lines 0)) (C := RX7) (T := TX7) (N := 12) hx hb hts k1 hown hK hP 0 rfl rfl 1 (by decide) k0 (fun _ h9 => h9) rfl dX7_lose_37 ?_
        refine lv_iload_n hx hb dX7_lose_40 rfl (lv_at hl 2 rfl) ?_
        refine lv_iload_n hx hb dX7_lose_41 rfl (lv_at hl 3 rfl) ?_
        refine lv_iload_n hx hb dX7_lose_42 rfl (lv_at hl 4 rfl) ?_
        obtain ⟨r43, hr43, hf⟩ := bd_s hf
        refine my_Vv (WS2 := (wd_X7_lose cy o_t o_t_play o_t_lines o_t_truth o_t_glassTrack o_t_board o_t_otherBoard o_t_fog o_t_crowd o_t_deal x_play_w x_play_h x_play_hands r43)) ⟨hx, hb, hml, hown, hts⟩ (c_X4_setLost l D cy t o_t_lines o_t_play x_lines_lostRow l1 l2 l3 hr43) (cwV 3 hts gX7_lose_X4_setLost rfl rfl rfl ⟨rfl, hd_X4_setLost⟩ ⟨Nat.le_of_ble_eq_true rfl, Nat.le_of_ble_eq_true rfl⟩) hK hE hP hD hS hA [2, 3] 4 4 0 rfl rfl rfl rfl (by decide +kernel) rfl rfl hl.1 rfl (Nat.le_of_ble_eq_true rfl) dX7_lose_43 ⟨Nat.le_of_ble_eq_true rfl, Nat.le_of_ble_eq_true rfl⟩ (fun H locs hP hD hS => ?_)
        refine lv_iload hx hb dX7_lose_46 (lv_at hl 0 rfl) ?_
        obtain rfl := Option.some.inj hf
        exact hR _ _ _ _ hP hD hS dX7_lose_48
      refine lv_aload_n hx hb dX7_lose_17 rfl (lv_at hl 0 rfl) ?_
      refine va_get (D := D) (ci := 7) (v := .ref (o_t_lines 0)) (C := RX7) (T := TX7) (N := 12) hx hb hts k1 hown hK hP 0 rfl rfl 1 (by decide) k0 (fun _ h9 => h9) rfl dX7_lose_18 ?_
      refine lv_iload_n hx hb dX7_lose_21 rfl (lv_at hl 1 rfl) ?_
      refine lv_iload_n hx hb dX7_lose_22 rfl (lv_at hl 2 rfl) ?_
      obtain ⟨r23, hr23, hf⟩ := bd_s hf
      refine my_Vi (WS2 := (wd_X7_lose cy o_t o_t_play o_t_lines o_t_truth o_t_glassTrack o_t_board o_t_otherBoard o_t_fog o_t_crowd o_t_deal x_play_w x_play_h x_play_hands x_lines_lostRow)) ⟨hx, hb, hml, hown, hts⟩ (c_X4_isLost l D cy t o_t_lines o_t_play x_lines_lostRow p1 p2 hr23) (cwV 2 hts gX7_lose_X4_isLost rfl rfl rfl ⟨rfl, hd_X4_isLost⟩ ⟨Nat.le_of_ble_eq_true rfl, Nat.le_of_ble_eq_true rfl⟩) hK hE hP hD hS hA [2, 3] 4 4 0 rfl rfl rfl rfl (by decide +kernel) rfl rfl hl.1 rfl (Nat.le_of_ble_eq_true rfl) dX7_lose_23 ⟨Nat.le_of_ble_eq_true rfl, Nat.le_of_ble_eq_true rfl⟩ (fun H locs hP hD hS => ?_)
      refine lv_if_eq (tgt := 33) hx hb dX7_lose_26 (by decide) (fun c26 => ?_) (fun c26 => ?_)
      · have hf := ifp c26 hf
        refine lv_iconst (v := (0 : Int32)) hx hb dX7_lose_33 (by decide) ?_
        exact h34 _ _ _ _ _ _ _ _ hf hP hD hS (lv_sub hl [0, 1, 2, 3] rfl)
      · have hf := ifn c26 hf
        refine lv_iconst (v := (1 : Int32)) hx hb dX7_lose_29 (by decide) ?_
        refine lv_goto (tgt := 34) hx hb dX7_lose_30 (by decide) ?_
        exact h34 _ _ _ _ _ _ _ _ hf hP hD hS (lv_sub hl [0, 1, 2, 3] rfl)
    · have hf := ifp c12 hf
      refine lv_iconst (v := (-1 : Int32)) hx hb dX7_lose_15 (by decide) ?_
      obtain rfl := Option.some.inj hf
      exact hR _ _ _ _ hP hD hS dX7_lose_16
theorem hd_X7_lose : yX7_lose.cls ≠ "java/lang/invoke/MethodHandle" ∧ yX7_lose.cls ≠ "java/lang/invoke/VarHandle" ∧ (parseMethodDescriptor yX7_lose.desc).map (fun d => d.parameters.length) = some 3 := by decide +kernel
set_option maxRecDepth 100000 in
theorem c_X7_lose (l : Launch) (D : va_G) (cy : Nat → ClassId) (t : Nat → Nat) (o_t o_t_play o_t_lines o_t_truth o_t_glassTrack o_t_board o_t_otherBoard o_t_fog o_t_crowd o_t_deal : Nat → Nat) (x_play_w : Int32) (x_play_h : Int32) (x_play_hands : Int32) (x_lines_lostRow : Nat → Int32) (p1 : Int32) (p2 : Int32) (p3 : Int32) {out : Int32 × (Nat → Int32)} (hf : X7_lose x_play_hands x_lines_lostRow p1 p2 p3 = some out) : ctI l yX7_lose wsX7_lose 1 23 D cy t [.ref (o_t 0), .int p1, .int p2, .int p3] (wd_X7_lose cy o_t o_t_play o_t_lines o_t_truth o_t_glassTrack o_t_board o_t_otherBoard o_t_fog o_t_crowd o_t_deal x_play_w x_play_h x_play_hands x_lines_lostRow) (wd_X7_lose cy o_t o_t_play o_t_lines o_t_truth o_t_glassTrack o_t_board o_t_otherBoard o_t_fog o_t_crowd o_t_deal x_play_w x_play_h x_play_hands out.2) out.1 := by
  refine ⟨rfl, ?_⟩
  intro sz
  refine Met.ofW (cc := cX7_lose) (maxL := 5) (ret := (some .int)) (by decide) rfl ?_
  intro p e s m args below meth c s₁ B hml hv
  obtain ⟨rfl, hsz, hP, hK, hD0, hE⟩ := hv
  have hts := atoms_spec (ws := wsX7_lose) B.pre
  have hown : s.vm.findClass RX7 = some m.cls := findClass_of_methodNamed B.named
  have hlocks := B.notSynchronized
  subst hsz
  have hD := hD0.self (sz := s.heap.size)
  have hl := lv_entry ([.ref (o_t 0), .int p1, .int p2, .int p3]) (n := 5) (Nat.le_of_ble_eq_true rfl)
  rw [lg_entry_eq]
  generalize (lg_sl ([.ref (o_t 0), .int p1, .int p2, .int p3]) ++ List.replicate (5 - (lg_sl ([.ref (o_t 0), .int p1, .int p2, .int p3])).length) Slot.unset).toArray = ls at hl ⊢
  exact w_X7_lose D cy t o_t o_t_play o_t_lines o_t_truth o_t_glassTrack o_t_board o_t_otherBoard o_t_fog o_t_crowd o_t_deal x_play_w x_play_h x_play_hands x_lines_lostRow p1 p2 p3 hf B.exec B.bytes hml hown hts hK hE (fun q h => Or.inr h) hP hD va_S.rf hl (fun H locs ls pc hP hD hS hdg => W.iret B.exec B.bytes B.returns (fun t ht hW => ⟨⟨_, (), rfl, rfl, ctB_of ht hP⟩, hS.F ht⟩) hS.2.2 hdg)

noncomputable def X7_known (x_play_hands : Int32) (x_play_rules : Nat → Int32) (x_play_leftFrom : Nat → Int32) (x_play_leftTo : Nat → Int32) (x_lines_waits : Nat → Int32) (x_lines_lostRow : Nat → Int32) (p1 : Int32) (p2 : Int32) (p3 : Int32) : Option (Int32) :=
  bd (X7_isHand x_play_hands p1) fun r2 => if r2 = (0 : Int32) then (some (-1 : Int32)) else (bd (X7_isHand x_play_hands p2) fun r10 => if r10 = (0 : Int32) then (some (-1 : Int32)) else (bd (X7_isTick p3) fun r17 => if r17 = (0 : Int32) then (some (-1 : Int32)) else (bd (X5_isLeft x_play_leftFrom x_play_leftTo p2 p3) fun r31 => if r31 = (0 : Int32) then (rd x_play_rules 7 (3 : Int32) fun v51 => bd (X4_clockOf x_lines_waits x_lines_lostRow v51 p1 p2 p3) fun r55 => some (r55 + (100 : Int32))) else (some (0 : Int32)))))
abbrev wd_X7_known (cy : Nat → ClassId) (o_t o_t_play o_t_lines o_t_truth o_t_glassTrack o_t_board o_t_otherBoard o_t_fog o_t_crowd o_t_deal : Nat → Nat) (x_play_w : Int32) (x_play_h : Int32) (x_play_hands : Int32) (x_play_rules : Nat → Int32) (x_play_leftFrom : Nat → Int32) (x_play_leftTo : Nat → Int32) (x_lines_waits : Nat → Int32) (x_lines_lostRow : Nat → Int32) : va_W := [(o_t 0, .inr (7, [.ref (o_t_play 0), .ref (o_t_lines 0), .ref (o_t_truth 0), .ref (o_t_glassTrack 0), .ref (o_t_board 0), .ref (o_t_otherBoard 0), .ref (o_t 7), .ref (o_t_fog 0), .ref (o_t_crowd 0), .ref (o_t_deal 0), .ref (o_t 11), .ref (o_t 12)])), (o_t_play 0, .inr (5, [.int x_play_w, .int x_play_h, .int x_play_hands, .ref (o_t_play 4), .ref (o_t_play 5), .ref (o_t_play 6), .ref (o_t_play 7)])), (o_t_play 4, .inl (cy 0, 7, .inl x_play_rules)), (o_t_play 6, .inl (cy 0, 6, .inl x_play_leftFrom)), (o_t_play 7, .inl (cy 0, 6, .inl x_play_leftTo)), (o_t_lines 0, .inr (4, [.ref (o_t_play 0), .ref (o_t_lines 2), .ref (o_t_lines 3)])), (o_t_lines 2, .inl (cy 0, 36, .inl x_lines_waits)), (o_t_lines 3, .inl (cy 1, 600, .inl x_lines_lostRow))]
set_option maxHeartbeats 4000000 in
set_option maxRecDepth 100000 in
theorem w_X7_known {p : Program} {l : Launch} {e : Env} {s : State} {m : MethodId} {args : Array Value} {below : List Frame} {meth : Method} {c : Code} {Q : State → Prop} {A : Nat → Prop} {H : Heap} {locs : List Loc} {ls : Array Slot} (D : va_G) (cy : Nat → ClassId) (t : Nat → Nat) (o_t o_t_play o_t_lines o_t_truth o_t_glassTrack o_t_board o_t_otherBoard o_t_fog o_t_crowd o_t_deal : Nat → Nat) (x_play_w : Int32) (x_play_h : Int32) (x_play_hands : Int32) (x_play_rules : Nat → Int32) (x_play_leftFrom : Nat → Int32) (x_play_leftTo : Nat → Int32) (x_lines_waits : Nat → Int32) (x_lines_lostRow : Nat → Int32) (p1 : Int32) (p2 : Int32) (p3 : Int32) {out : Int32} (hf : X7_known x_play_hands x_play_rules x_play_leftFrom x_play_leftTo x_lines_waits x_lines_lostRow p1 p2 p3 = some out) (hx : p.tables.exec = Jvm.exec) (hb : c.code = cX7_known) (hml : c.maxLocals = 4) (hown : s.vm.findClass RX7 = some m.cls) (hts : ∀ w ∈ wsX7_known, w.before args s = true) (hK : va_K D vwCl (TYS cy) s) (hE : EV t A s s.heap) (hA : ∀ q, s.heap.size ≤ q → A q) (hP : va_P D vwCl (wd_X7_known cy o_t o_t_play o_t_lines o_t_truth o_t_glassTrack o_t_board o_t_otherBoard o_t_fog o_t_crowd o_t_deal x_play_w x_play_h x_play_hands x_play_rules x_play_leftFrom x_play_leftTo x_lines_waits x_lines_lostRow) H) (hD : va_D A (wd_X7_known cy o_t o_t_play o_t_lines o_t_truth o_t_glassTrack o_t_board o_t_otherBoard o_t_fog o_t_crowd o_t_deal x_play_w x_play_h x_play_hands x_play_rules x_play_leftFrom x_play_leftTo x_lines_waits x_lines_lostRow)) (hS : va_S A s.heap H locs) (hl : lv_has ls 4 [(0, .ref (o_t 0)), (1, .int p1), (2, .int p2), (3, .int p3)]) (hR : ∀ (H : Heap) (locs : List Loc) (ls : Array Slot) (pc : Nat), va_P D vwCl (wd_X7_known cy o_t o_t_play o_t_lines o_t_truth o_t_glassTrack o_t_board o_t_otherBoard o_t_fog o_t_crowd o_t_deal x_play_w x_play_h x_play_hands x_play_rules x_play_leftFrom x_play_leftTo x_lines_waits x_lines_lostRow) H → va_D A (wd_X7_known cy o_t o_t_play o_t_lines o_t_truth o_t_glassTrack o_t_board o_t_otherBoard o_t_fog o_t_crowd o_t_deal x_play_w x_play_h x_play_hands x_play_rules x_play_leftFrom x_play_leftTo x_lines_waits x_lines_lostRow) → va_S A s.heap H locs → decode cX7_known pc = .ok (.ireturn, 1) → W p l e (rmm 1 26) s m args below meth c H locs 0 0 Q (F0 m pc ls [.int out])) : W p l e (rmm 1 26) s m args below meth c H locs 0 0 Q (F0 m 0 ls []) := by
  have k0 := hts (.fieldLink RX7 10 "SeaGames" "play" "LSeaGames$Play;") (List.mem_cons_of_mem _ (List.mem_append_left _ (List.mem_append_left _ (List.mem_append_left _ (List.mem_append_left _ (List.mem_of_getElem? (i := 0) rfl))))))
  have k1 : ∀ w ∈ u_ws RX7 TX7 12, w ∈ wsX7_known := fun _ h => List.mem_cons_of_mem _ (List.mem_append_left _ (List.mem_append_left _ (List.mem_append_right _ h)))
  have k2 := hts (.fieldLink RX7 21 "SeaGames" "lines" "LSeaGames$Lines;") (List.mem_cons_of_mem _ (List.mem_append_left _ (List.mem_append_left _ (List.mem_append_left _ (List.mem_append_left _ (List.mem_of_getElem? (i := 1) rfl))))))
  have k3 := hts (.fieldLink RX7 98 "SeaGames$Play" "rules" "[I") (List.mem_cons_of_mem _ (List.mem_append_left _ (List.mem_append_left _ (List.mem_append_left _ (List.mem_append_left _ (List.mem_of_getElem? (i := 2) rfl))))))
  have k4 : ∀ w ∈ u_ws RX5 TX5 7, w ∈ wsX7_known := fun _ h => List.mem_cons_of_mem _ (List.mem_append_left _ (List.mem_append_right _ h))
  rw [X7_known] at hf
  refine lv_aload_n hx hb dX7_known_0 rfl (lv_at hl 0 rfl) ?_
  refine lv_iload_n hx hb dX7_known_1 rfl (lv_at hl 1 rfl) ?_
  obtain ⟨r2, hr2, hf⟩ := bd_s hf
  refine my_Vi (WS2 := (wd_X7_known cy o_t o_t_play o_t_lines o_t_truth o_t_glassTrack o_t_board o_t_otherBoard o_t_fog o_t_crowd o_t_deal x_play_w x_play_h x_play_hands x_play_rules x_play_leftFrom x_play_leftTo x_lines_waits x_lines_lostRow)) ⟨hx, hb, hml, hown, hts⟩ (c_X7_isHand l D cy t o_t o_t_play o_t_lines o_t_truth o_t_glassTrack o_t_board o_t_otherBoard o_t_fog o_t_crowd o_t_deal x_play_w x_play_h x_play_hands p1 hr2) (cwV 1 hts gX7_known_X7_isHand rfl rfl rfl ⟨rfl, hd_X7_isHand⟩ ⟨Nat.le_of_ble_eq_true rfl, Nat.le_of_ble_eq_true rfl⟩) hK hE hP hD hS hA [0, 1] 8 7 0 rfl rfl rfl rfl (by decide +kernel) rfl rfl hl.1 rfl (Nat.le_of_ble_eq_true rfl) dX7_known_2 ⟨Nat.le_of_ble_eq_true rfl, Nat.le_of_ble_eq_true rfl⟩ (fun H locs hP hD hS => ?_)
  refine lv_if_eq (tgt := 23) hx hb dX7_known_5 (by decide) (fun c5 => ?_) (fun c5 => ?_)
  · have hf := ifp c5 hf
    refine lv_iconst (v := (-1 : Int32)) hx hb dX7_known_23 (by decide) ?_
    obtain rfl := Option.some.inj hf
    exact hR _ _ _ _ hP hD hS dX7_known_24
  · have hf := ifn c5 hf
    refine lv_aload_n hx hb dX7_known_8 rfl (lv_at hl 0 rfl) ?_
    refine lv_iload_n hx hb dX7_known_9 rfl (lv_at hl 2 rfl) ?_
    obtain ⟨r10, hr10, hf⟩ := bd_s hf
    refine my_Vi (WS2 := (wd_X7_known cy o_t o_t_play o_t_lines o_t_truth o_t_glassTrack o_t_board o_t_otherBoard o_t_fog o_t_crowd o_t_deal x_play_w x_play_h x_play_hands x_play_rules x_play_leftFrom x_play_leftTo x_lines_waits x_lines_lostRow)) ⟨hx, hb, hml, hown, hts⟩ (c_X7_isHand l D cy t o_t o_t_play o_t_lines o_t_truth o_t_glassTrack o_t_board o_t_otherBoard o_t_fog o_t_crowd o_t_deal x_play_w x_play_h x_play_hands p2 hr10) (cwV 1 hts gX7_known_X7_isHand rfl rfl rfl ⟨rfl, hd_X7_isHand⟩ ⟨Nat.le_of_ble_eq_true rfl, Nat.le_of_ble_eq_true rfl⟩) hK hE hP hD hS hA [0, 1] 8 7 0 rfl rfl rfl rfl (by decide +kernel) rfl rfl hl.1 rfl (Nat.le_of_ble_eq_true rfl) dX7_known_10 ⟨Nat.le_of_ble_eq_true rfl, Nat.le_of_ble_eq_true rfl⟩ (fun H locs hP hD hS => ?_)
    refine lv_if_eq (tgt := 23) hx hb dX7_known_13 (by decide) (fun c13 => ?_) (fun c13 => ?_)
    · have hf := ifp c13 hf
      refine lv_iconst (v := (-1 : Int32)) hx hb dX7_known_23 (by decide) ?_
      obtain rfl := Option.some.inj hf
      exact hR _ _ _ _ hP hD hS dX7_known_24
    · have hf := ifn c13 hf
      refine lv_iload_n hx hb dX7_known_16 rfl (lv_at hl 3 rfl) ?_
      obtain ⟨r17, hr17, hf⟩ := bd_s hf
      refine my_Si (WS2 := (wd_X7_known cy o_t o_t_play o_t_lines o_t_truth o_t_glassTrack o_t_board o_t_otherBoard o_t_fog o_t_crowd o_t_deal x_play_w x_play_h x_play_hands x_play_rules x_play_leftFrom x_play_leftTo x_lines_waits x_lines_lostRow)) ⟨hx, hb, hml, hown, hts⟩ (c_X7_isTick l D cy t p3 hr17) (va_cwS 1 hts gX7_known_X7_isTick rfl rfl rfl hd_X7_isTick ⟨Nat.le_of_ble_eq_true rfl, Nat.le_of_ble_eq_true rfl⟩) hK hE hP hD hS hA [] 8 rfl rfl (by decide +kernel) rfl rfl hl.1 rfl (Nat.le_of_ble_eq_true rfl) dX7_known_17 ⟨Nat.le_of_ble_eq_true rfl, Nat.le_of_ble_eq_true rfl⟩ (fun H locs hP hD hS => ?_)
      refine lv_if_ne (tgt := 25) hx hb dX7_known_20 (by decide) (fun c20 => ?_) (fun c20 => ?_)
      · have hf := ifn c20 hf
        refine lv_aload_n hx hb dX7_known_25 rfl (lv_at hl 0 rfl) ?_
        refine va_get (D := D) (ci := 7) (v := .ref (o_t_play 0)) (C := RX7) (T := TX7) (N := 12) hx hb hts k1 hown hK hP 0 rfl rfl 0 (by decide) k0 (fun _ h9 => h9) rfl dX7_known_26 ?_
        refine lv_iload_n hx hb dX7_known_29 rfl (lv_at hl 2 rfl) ?_
        refine lv_iload_n hx hb dX7_known_30 rfl (lv_at hl 3 rfl) ?_
        obtain ⟨r31, hr31, hf⟩ := bd_s hf
        refine my_Vi (WS2 := (wd_X7_known cy o_t o_t_play o_t_lines o_t_truth o_t_glassTrack o_t_board o_t_otherBoard o_t_fog o_t_crowd o_t_deal x_play_w x_play_h x_play_hands x_play_rules x_play_leftFrom x_play_leftTo x_lines_waits x_lines_lostRow)) ⟨hx, hb, hml, hown, hts⟩ (c_X5_isLeft l D cy t o_t_play x_play_w x_play_h x_play_hands x_play_leftFrom x_play_leftTo p2 p3 hr31) (cwV 2 hts gX7_known_X5_isLeft rfl rfl rfl ⟨rfl, hd_X5_isLeft⟩ ⟨Nat.le_of_ble_eq_true rfl, Nat.le_of_ble_eq_true rfl⟩) hK hE hP hD hS hA [1, 3, 4] 8 5 0 rfl rfl rfl rfl (by decide +kernel) rfl rfl hl.1 rfl (Nat.le_of_ble_eq_true rfl) dX7_known_31 ⟨Nat.le_of_ble_eq_true rfl, Nat.le_of_ble_eq_true rfl⟩ (fun H locs hP hD hS => ?_)
        refine lv_if_eq (tgt := 39) hx hb dX7_known_34 (by decide) (fun c34 => ?_) (fun c34 => ?_)
        · have hf := ifp c34 hf
          refine lv_aload_n hx hb dX7_known_39 rfl (lv_at hl 0 rfl) ?_
          refine va_get (D := D) (ci := 7) (v := .ref (o_t_lines 0)) (C := RX7) (T := TX7) (N := 12) hx hb hts k1 hown hK hP 0 rfl rfl 1 (by decide) k2 (fun _ h9 => h9) rfl dX7_known_40 ?_
          refine lv_aload_n hx hb dX7_known_43 rfl (lv_at hl 0 rfl) ?_
          refine va_get (D := D) (ci := 7) (v := .ref (o_t_play 0)) (C := RX7) (T := TX7) (N := 12) hx hb hts k1 hown hK hP 0 rfl rfl 0 (by decide) k0 (fun _ h9 => h9) rfl dX7_known_44 ?_
          refine va_get (D := D) (ci := 5) (v := .ref (o_t_play 4)) (C := RX5) (T := TX5) (N := 7) hx hb hts k4 hown hK hP 1 rfl rfl 3 (by decide) k3 (fun _ h9 => h9) rfl dX7_known_47 ?_
          refine lv_iconst (v := (3 : Int32)) hx hb dX7_known_50 (by decide) ?_
          obtain ⟨v51, b51, ev51, hf⟩ := rd_s hf
          refine my_iald hx hb hK hP 2 rfl b51 ev51 dX7_known_51 ?_
          refine lv_iload_n hx hb dX7_known_52 rfl (lv_at hl 1 rfl) ?_
          refine lv_iload_n hx hb dX7_known_53 rfl (lv_at hl 2 rfl) ?_
          refine lv_iload_n hx hb dX7_known_54 rfl (lv_at hl 3 rfl) ?_
          obtain ⟨r55, hr55, hf⟩ := bd_s hf
          refine my_Vi (WS2 := (wd_X7_known cy o_t o_t_play o_t_lines o_t_truth o_t_glassTrack o_t_board o_t_otherBoard o_t_fog o_t_crowd o_t_deal x_play_w x_play_h x_play_hands x_play_rules x_play_leftFrom x_play_leftTo x_lines_waits x_lines_lostRow)) ⟨hx, hb, hml, hown, hts⟩ (c_X4_clockOf l D cy t o_t_lines o_t_play x_lines_waits x_lines_lostRow v51 p1 p2 p3 hr55) (cwV 4 hts gX7_known_X4_clockOf rfl rfl rfl ⟨rfl, hd_X4_clockOf⟩ ⟨Nat.le_of_ble_eq_true rfl, Nat.le_of_ble_eq_true rfl⟩) hK hE hP hD hS hA [5, 6, 7] 8 4 0 rfl rfl rfl rfl (by decide +kernel) rfl rfl hl.1 rfl (Nat.le_of_ble_eq_true rfl) dX7_known_55 ⟨Nat.le_of_ble_eq_true rfl, Nat.le_of_ble_eq_true rfl⟩ (fun H locs hP hD hS => ?_)
          refine lv_bipush (v := (100 : Int32)) hx hb dX7_known_58 (by decide) ?_
          refine lv_iadd hx hb dX7_known_60 ?_
          obtain rfl := Option.some.inj hf
          exact hR _ _ _ _ hP hD hS dX7_known_61
        · have hf := ifn c34 hf
          refine lv_iconst (v := (0 : Int32)) hx hb dX7_known_37 (by decide) ?_
          obtain rfl := Option.some.inj hf
          exact hR _ _ _ _ hP hD hS dX7_known_38
      · have hf := ifp c20 hf
        refine lv_iconst (v := (-1 : Int32)) hx hb dX7_known_23 (by decide) ?_
        obtain rfl := Option.some.inj hf
        exact hR _ _ _ _ hP hD hS dX7_known_24
theorem hd_X7_known : yX7_known.cls ≠ "java/lang/invoke/MethodHandle" ∧ yX7_known.cls ≠ "java/lang/invoke/VarHandle" ∧ (parseMethodDescriptor yX7_known.desc).map (fun d => d.parameters.length) = some 3 := by decide +kernel
set_option maxRecDepth 100000 in
theorem c_X7_known (l : Launch) (D : va_G) (cy : Nat → ClassId) (t : Nat → Nat) (o_t o_t_play o_t_lines o_t_truth o_t_glassTrack o_t_board o_t_otherBoard o_t_fog o_t_crowd o_t_deal : Nat → Nat) (x_play_w : Int32) (x_play_h : Int32) (x_play_hands : Int32) (x_play_rules : Nat → Int32) (x_play_leftFrom : Nat → Int32) (x_play_leftTo : Nat → Int32) (x_lines_waits : Nat → Int32) (x_lines_lostRow : Nat → Int32) (p1 : Int32) (p2 : Int32) (p3 : Int32) {out : Int32} (hf : X7_known x_play_hands x_play_rules x_play_leftFrom x_play_leftTo x_lines_waits x_lines_lostRow p1 p2 p3 = some out) : ctI l yX7_known wsX7_known 1 26 D cy t [.ref (o_t 0), .int p1, .int p2, .int p3] (wd_X7_known cy o_t o_t_play o_t_lines o_t_truth o_t_glassTrack o_t_board o_t_otherBoard o_t_fog o_t_crowd o_t_deal x_play_w x_play_h x_play_hands x_play_rules x_play_leftFrom x_play_leftTo x_lines_waits x_lines_lostRow) (wd_X7_known cy o_t o_t_play o_t_lines o_t_truth o_t_glassTrack o_t_board o_t_otherBoard o_t_fog o_t_crowd o_t_deal x_play_w x_play_h x_play_hands x_play_rules x_play_leftFrom x_play_leftTo x_lines_waits x_lines_lostRow) out := by
  refine ⟨rfl, ?_⟩
  intro sz
  refine Met.ofW (cc := cX7_known) (maxL := 4) (ret := (some .int)) (by decide) rfl ?_
  intro p e s m args below meth c s₁ B hml hv
  obtain ⟨rfl, hsz, hP, hK, hD0, hE⟩ := hv
  have hts := atoms_spec (ws := wsX7_known) B.pre
  have hown : s.vm.findClass RX7 = some m.cls := findClass_of_methodNamed B.named
  have hlocks := B.notSynchronized
  subst hsz
  have hD := hD0.self (sz := s.heap.size)
  have hl := lv_entry ([.ref (o_t 0), .int p1, .int p2, .int p3]) (n := 4) (Nat.le_of_ble_eq_true rfl)
  rw [lg_entry_eq]
  generalize (lg_sl ([.ref (o_t 0), .int p1, .int p2, .int p3]) ++ List.replicate (4 - (lg_sl ([.ref (o_t 0), .int p1, .int p2, .int p3])).length) Slot.unset).toArray = ls at hl ⊢
  exact w_X7_known D cy t o_t o_t_play o_t_lines o_t_truth o_t_glassTrack o_t_board o_t_otherBoard o_t_fog o_t_crowd o_t_deal x_play_w x_play_h x_play_hands x_play_rules x_play_leftFrom x_play_leftTo x_lines_waits x_lines_lostRow p1 p2 p3 hf B.exec B.bytes hml hown hts hK hE (fun q h => Or.inr h) hP hD va_S.rf hl (fun H locs ls pc hP hD hS hdg => W.iret B.exec B.bytes B.returns (fun t ht hW => ⟨⟨_, (), rfl, rfl, ctB_of ht hP⟩, hS.F ht⟩) hS.2.2 hdg)
