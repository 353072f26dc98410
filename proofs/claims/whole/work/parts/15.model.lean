noncomputable def X8_in (p0 : Int64) (p2 : Int64) (p4 : Int64) : Option (Int32) :=
  if (lg_cmp p0 p2) < (0 : Int32) then (zb (0 : Int32) <| some (0 : Int32)) else (if (0 : Int32) < (lg_cmp p0 p4) then (zb (0 : Int32) <| some (0 : Int32)) else (zb (1 : Int32) <| some (1 : Int32)))
abbrev wd_X8_in (cy : Nat → ClassId) : va_W := []
set_option maxHeartbeats 4000000 in
set_option maxRecDepth 100000 in
theorem w_X8_in {p : Program} {l : Launch} {e : Env} {s : State} {m : MethodId} {args : Array Value} {below : List Frame} {meth : Method} {c : Code} {Q : State → Prop} {A : Nat → Prop} {H : Heap} {locs : List Loc} {ls : Array Slot} (D : va_G) (cy : Nat → ClassId) (t : Nat → Nat) (p0 : Int64) (p2 : Int64) (p4 : Int64) {out : Int32} (hf : X8_in p0 p2 p4 = some out) (hx : p.tables.exec = Jvm.exec) (hb : c.code = cX8_in) (hml : c.maxLocals = 6) (hown : s.vm.findClass RX8 = some m.cls) (hts : ∀ w ∈ wsX8_in, w.before args s = true) (hK : va_K D vwCl (TYS cy) s) (hE : EV t A s s.heap) (hA : ∀ q, s.heap.size ≤ q → A q) (hP : va_P D vwCl (wd_X8_in cy) H) (hD : va_D A (wd_X8_in cy)) (hS : va_S A s.heap H locs) (hl : lv_has ls 6 [(0, .long p0), (2, .long p2), (4, .long p4)]) (hR : ∀ (H : Heap) (locs : List Loc) (ls : Array Slot) (pc : Nat), va_P D vwCl (wd_X8_in cy) H → va_D A (wd_X8_in cy) → va_S A s.heap H locs → narrow .boolean (.int out) = .int out → decode cX8_in pc = .ok (.ireturn, 1) → W p l e (rmm 0 0) s m args below meth c H locs 0 0 Q (F0 m pc ls [.int out])) : W p l e (rmm 0 0) s m args below meth c H locs 0 0 Q (F0 m 0 ls []) := by
  rw [X8_in] at hf
  refine lv_lload_n hx hb dX8_in_0 rfl (lv_at hl 0 rfl) ?_
  refine lv_lload_n hx hb dX8_in_1 rfl (lv_at hl 1 rfl) ?_
  refine W.lcmp hx hb dX8_in_2 ?_
  refine lv_if_lt (tgt := 17) hx hb dX8_in_3 (by decide) (fun c3 => ?_) (fun c3 => ?_)
  · have hf := ifp c3 hf
    refine lv_iconst (v := (0 : Int32)) hx hb dX8_in_17 (by decide) ?_
    obtain ⟨z18, hf⟩ := zb_s hf
    obtain rfl := Option.some.inj hf
    exact hR _ _ _ _ hP hD hS z18 dX8_in_18
  · have hf := ifn c3 hf
    refine lv_lload_n hx hb dX8_in_6 rfl (lv_at hl 0 rfl) ?_
    refine lv_lload hx hb dX8_in_7 (lv_at hl 2 rfl) ?_
    refine W.lcmp hx hb dX8_in_9 ?_
    refine lv_if_gt (tgt := 17) hx hb dX8_in_10 (by decide) (fun c10 => ?_) (fun c10 => ?_)
    · have hf := ifp c10 hf
      refine lv_iconst (v := (0 : Int32)) hx hb dX8_in_17 (by decide) ?_
      obtain ⟨z18, hf⟩ := zb_s hf
      obtain rfl := Option.some.inj hf
      exact hR _ _ _ _ hP hD hS z18 dX8_in_18
    · have hf := ifn c10 hf
      refine lv_iconst (v := (1 : Int32)) hx hb dX8_in_13 (by decide) ?_
      refine lv_goto (tgt := 18) hx hb dX8_in_14 (by decide) ?_
      obtain ⟨z18, hf⟩ := zb_s hf
      obtain rfl := Option.some.inj hf
      exact hR _ _ _ _ hP hD hS z18 dX8_in_18
theorem hd_X8_in : yX8_in.cls ≠ "java/lang/invoke/MethodHandle" ∧ yX8_in.cls ≠ "java/lang/invoke/VarHandle" ∧ (parseMethodDescriptor yX8_in.desc).map (fun d => d.parameters.length) = some 3 := by decide +kernel
set_option maxRecDepth 100000 in
theorem c_X8_in (l : Launch) (D : va_G) (cy : Nat → ClassId) (t : Nat → Nat) (p0 : Int64) (p2 : Int64) (p4 : Int64) {out : Int32} (hf : X8_in p0 p2 p4 = some out) : ctI l yX8_in wsX8_in 0 0 D cy t [.long p0, .long p2, .long p4] (wd_X8_in cy) (wd_X8_in cy) out := by
  refine ⟨rfl, ?_⟩
  intro sz
  refine Met.ofW (cc := cX8_in) (maxL := 6) (ret := (some .boolean)) (by decide) rfl ?_
  intro p e s m args below meth c s₁ B hml hv
  obtain ⟨rfl, hsz, hP, hK, hD0, hE⟩ := hv
  have hts := atoms_spec (ws := wsX8_in) B.pre
  have hown : s.vm.findClass RX8 = some m.cls := findClass_of_methodNamed B.named
  have hlocks := B.notSynchronized
  subst hsz
  have hD := hD0.self (sz := s.heap.size)
  have hl := lv_entry ([.long p0, .long p2, .long p4]) (n := 6) (Nat.le_of_ble_eq_true rfl)
  rw [lg_entry_eq]
  generalize (lg_sl ([.long p0, .long p2, .long p4]) ++ List.replicate (6 - (lg_sl ([.long p0, .long p2, .long p4])).length) Slot.unset).toArray = ls at hl ⊢
  exact w_X8_in D cy t  p0 p2 p4 hf B.exec B.bytes hml hown hts hK hE (fun q h => Or.inr h) hP hD va_S.rf hl (fun H locs ls pc hP hD hS z hdg => W.zret B.exec B.bytes B.returns z (fun t ht hW => ⟨⟨_, (), rfl, rfl, ctB_of ht hP⟩, hS.F ht⟩) hS.2.2 hdg)

noncomputable def X8_field_J170 (x_thrown : Int32) (x_wide : Nat → Int32) (x_tall : Nat → Int32) (x_hands : Nat → Int32) (x_pressed : Nat → Int32) (x_leftFrom : Nat → Int32) (x_leftTo : Nat → Int32) (x_wait : Nat → Int32) (x_isLost : Nat → Int32) (l1 : Int32) (l2 : Int32) : Option (Int32 × Int32 × (Nat → Int32) × (Nat → Int32) × (Nat → Int32) × (Nat → Int32) × (Nat → Int32) × (Nat → Int32) × (Nat → Int32) × (Nat → Int32)) :=
  some ((l1 * l2), x_thrown, x_wide, x_tall, x_hands, x_pressed, x_leftFrom, x_leftTo, x_wait, x_isLost)
noncomputable def X8_field_L149_B (rec149 : Int32 → (Nat → Int32) → (Nat → Int32) → (Nat → Int32) → (Nat → Int32) → (Nat → Int32) → (Nat → Int32) → (Nat → Int32) → (Nat → Int32) → Int32 → Int32 → Int32 → Option (Int32 × Int32 × (Nat → Int32) × (Nat → Int32) × (Nat → Int32) × (Nat → Int32) × (Nat → Int32) × (Nat → Int32) × (Nat → Int32) × (Nat → Int32))) (x_thrown : Int32) (x_wide : Nat → Int32) (x_tall : Nat → Int32) (x_hands : Nat → Int32) (x_pressed : Nat → Int32) (x_leftFrom : Nat → Int32) (x_leftTo : Nat → Int32) (x_wait : Nat → Int32) (x_isLost : Nat → Int32) (l1 : Int32) (l2 : Int32) (l4 : Int32) : Option (Int32 × Int32 × (Nat → Int32) × (Nat → Int32) × (Nat → Int32) × (Nat → Int32) × (Nat → Int32) × (Nat → Int32) × (Nat → Int32) × (Nat → Int32)) :=
  if (36 : Int32) ≤ l4 then (X8_field_J170  x_thrown x_wide x_tall x_hands x_pressed x_leftFrom x_leftTo x_wait x_isLost l1 l2) else (wrI x_wait 36 l4 (0 : Int32) fun w163 => nm (l4 + (1 : Int32)) fun v164 => rec149 x_thrown x_wide x_tall x_hands x_pressed x_leftFrom x_leftTo w163 x_isLost l1 l2 v164)
noncomputable def X8_field_L149 : Nat → Int32 → (Nat → Int32) → (Nat → Int32) → (Nat → Int32) → (Nat → Int32) → (Nat → Int32) → (Nat → Int32) → (Nat → Int32) → (Nat → Int32) → Int32 → Int32 → Int32 → Option (Int32 × Int32 × (Nat → Int32) × (Nat → Int32) × (Nat → Int32) × (Nat → Int32) × (Nat → Int32) × (Nat → Int32) × (Nat → Int32) × (Nat → Int32))
  | 0, _, _, _, _, _, _, _, _, _, _, _, _ => none
  | n + 1, y0, y1, y2, y3, y4, y5, y6, y7, y8, y9, y10, y11 => X8_field_L149_B  (X8_field_L149  n) y0 y1 y2 y3 y4 y5 y6 y7 y8 y9 y10 y11
noncomputable def X8_field_J146 (x_thrown : Int32) (x_wide : Nat → Int32) (x_tall : Nat → Int32) (x_hands : Nat → Int32) (x_pressed : Nat → Int32) (x_leftFrom : Nat → Int32) (x_leftTo : Nat → Int32) (x_wait : Nat → Int32) (x_isLost : Nat → Int32) (l1 : Int32) (l2 : Int32) : Option (Int32 × Int32 × (Nat → Int32) × (Nat → Int32) × (Nat → Int32) × (Nat → Int32) × (Nat → Int32) × (Nat → Int32) × (Nat → Int32) × (Nat → Int32)) :=
  X8_field_L149  FU x_thrown x_wide x_tall x_hands x_pressed x_leftFrom x_leftTo x_wait x_isLost l1 l2 (0 : Int32)
noncomputable def X8_field_L111_B (rec111 : Int32 → (Nat → Int32) → (Nat → Int32) → (Nat → Int32) → (Nat → Int32) → (Nat → Int32) → (Nat → Int32) → (Nat → Int32) → (Nat → Int32) → Int32 → Int32 → Int32 → Option (Int32 × Int32 × (Nat → Int32) × (Nat → Int32) × (Nat → Int32) × (Nat → Int32) × (Nat → Int32) × (Nat → Int32) × (Nat → Int32) × (Nat → Int32))) (x_thrown : Int32) (x_wide : Nat → Int32) (x_tall : Nat → Int32) (x_hands : Nat → Int32) (x_pressed : Nat → Int32) (x_leftFrom : Nat → Int32) (x_leftTo : Nat → Int32) (x_wait : Nat → Int32) (x_isLost : Nat → Int32) (l1 : Int32) (l2 : Int32) (l4 : Int32) : Option (Int32 × Int32 × (Nat → Int32) × (Nat → Int32) × (Nat → Int32) × (Nat → Int32) × (Nat → Int32) × (Nat → Int32) × (Nat → Int32) × (Nat → Int32)) :=
  if (6 : Int32) ≤ l4 then (X8_field_J146  x_thrown x_wide x_tall x_hands x_pressed x_leftFrom x_leftTo x_wait x_isLost l1 l2) else (wrI x_leftFrom 30 ((24 : Int32) + l4) (0 : Int32) fun w128 => wrI x_leftTo 30 ((24 : Int32) + l4) (0 : Int32) fun w139 => nm (l4 + (1 : Int32)) fun v140 => rec111 x_thrown x_wide x_tall x_hands x_pressed w128 w139 x_wait x_isLost l1 l2 v140)
noncomputable def X8_field_L111 : Nat → Int32 → (Nat → Int32) → (Nat → Int32) → (Nat → Int32) → (Nat → Int32) → (Nat → Int32) → (Nat → Int32) → (Nat → Int32) → (Nat → Int32) → Int32 → Int32 → Int32 → Option (Int32 × Int32 × (Nat → Int32) × (Nat → Int32) × (Nat → Int32) × (Nat → Int32) × (Nat → Int32) × (Nat → Int32) × (Nat → Int32) × (Nat → Int32))
  | 0, _, _, _, _, _, _, _, _, _, _, _, _ => none
  | n + 1, y0, y1, y2, y3, y4, y5, y6, y7, y8, y9, y10, y11 => X8_field_L111_B  (X8_field_L111  n) y0 y1 y2 y3 y4 y5 y6 y7 y8 y9 y10 y11
noncomputable def X8_field_J108 (x_thrown : Int32) (x_wide : Nat → Int32) (x_tall : Nat → Int32) (x_hands : Nat → Int32) (x_pressed : Nat → Int32) (x_leftFrom : Nat → Int32) (x_leftTo : Nat → Int32) (x_wait : Nat → Int32) (x_isLost : Nat → Int32) (l1 : Int32) (l2 : Int32) : Option (Int32 × Int32 × (Nat → Int32) × (Nat → Int32) × (Nat → Int32) × (Nat → Int32) × (Nat → Int32) × (Nat → Int32) × (Nat → Int32) × (Nat → Int32)) :=
  X8_field_L111  FU x_thrown x_wide x_tall x_hands x_pressed x_leftFrom x_leftTo x_wait x_isLost l1 l2 (0 : Int32)
noncomputable def X8_field_L74_B (rec74 : Int32 → (Nat → Int32) → (Nat → Int32) → (Nat → Int32) → (Nat → Int32) → (Nat → Int32) → (Nat → Int32) → (Nat → Int32) → (Nat → Int32) → Int32 → Int32 → Int32 → Option (Int32 × Int32 × (Nat → Int32) × (Nat → Int32) × (Nat → Int32) × (Nat → Int32) × (Nat → Int32) × (Nat → Int32) × (Nat → Int32) × (Nat → Int32))) (x_thrown : Int32) (x_wide : Nat → Int32) (x_tall : Nat → Int32) (x_hands : Nat → Int32) (x_pressed : Nat → Int32) (x_leftFrom : Nat → Int32) (x_leftTo : Nat → Int32) (x_wait : Nat → Int32) (x_isLost : Nat → Int32) (l1 : Int32) (l2 : Int32) (l4 : Int32) : Option (Int32 × Int32 × (Nat → Int32) × (Nat → Int32) × (Nat → Int32) × (Nat → Int32) × (Nat → Int32) × (Nat → Int32) × (Nat → Int32) × (Nat → Int32)) :=
  if (600 : Int32) ≤ l4 then (X8_field_J108  x_thrown x_wide x_tall x_hands x_pressed x_leftFrom x_leftTo x_wait x_isLost l1 l2) else (wrI x_pressed 3000 ((2400 : Int32) + l4) (0 : Int32) fun w93 => wrZ x_isLost 600 l4 (0 : Int32) fun w101 => nm (l4 + (1 : Int32)) fun v102 => rec74 x_thrown x_wide x_tall x_hands w93 x_leftFrom x_leftTo x_wait w101 l1 l2 v102)
noncomputable def X8_field_L74 : Nat → Int32 → (Nat → Int32) → (Nat → Int32) → (Nat → Int32) → (Nat → Int32) → (Nat → Int32) → (Nat → Int32) → (Nat → Int32) → (Nat → Int32) → Int32 → Int32 → Int32 → Option (Int32 × Int32 × (Nat → Int32) × (Nat → Int32) × (Nat → Int32) × (Nat → Int32) × (Nat → Int32) × (Nat → Int32) × (Nat → Int32) × (Nat → Int32))
  | 0, _, _, _, _, _, _, _, _, _, _, _, _ => none
  | n + 1, y0, y1, y2, y3, y4, y5, y6, y7, y8, y9, y10, y11 => X8_field_L74_B  (X8_field_L74  n) y0 y1 y2 y3 y4 y5 y6 y7 y8 y9 y10 y11
noncomputable def X8_field (x_thrown : Int32) (x_wide : Nat → Int32) (x_tall : Nat → Int32) (x_hands : Nat → Int32) (x_pressed : Nat → Int32) (x_leftFrom : Nat → Int32) (x_leftTo : Nat → Int32) (x_wait : Nat → Int32) (x_isLost : Nat → Int32) (p1 : Int32) (p2 : Int32) (p3 : Int32) : Option (Int32 × Int32 × (Nat → Int32) × (Nat → Int32) × (Nat → Int32) × (Nat → Int32) × (Nat → Int32) × (Nat → Int32) × (Nat → Int32) × (Nat → Int32)) :=
  bd (X8_in (Int32.toInt64 p1) (3 : Int64) (9 : Int64)) fun r13 => if r13 = (0 : Int32) then (some ((-2 : Int32), (0 : Int32), x_wide, x_tall, x_hands, x_pressed, x_leftFrom, x_leftTo, x_wait, x_isLost)) else (bd (X8_in (Int32.toInt64 p2) (3 : Int64) (9 : Int64)) fun r27 => if r27 = (0 : Int32) then (some ((-2 : Int32), (0 : Int32), x_wide, x_tall, x_hands, x_pressed, x_leftFrom, x_leftTo, x_wait, x_isLost)) else (bd (X8_in (Int32.toInt64 p3) (2 : Int64) (6 : Int64)) fun r41 => if r41 = (0 : Int32) then (some ((-2 : Int32), (0 : Int32), x_wide, x_tall, x_hands, x_pressed, x_leftFrom, x_leftTo, x_wait, x_isLost)) else (wrI x_wide 5 (4 : Int32) p1 fun w56 => wrI x_tall 5 (4 : Int32) p2 fun w63 => wrI x_hands 5 (4 : Int32) p3 fun w70 => X8_field_L74  FU (0 : Int32) w56 w63 w70 x_pressed x_leftFrom x_leftTo x_wait x_isLost p1 p2 (0 : Int32))))
abbrev wd_X8_field (cy : Nat → ClassId) (o_t : Nat → Nat) (x_thrown : Int32) (x_delay : Int32) (x_feel : Int32) (x_turn : Int32) (x_sight : Int32) (x_ball : Int32) (x_w : Int32) (x_h : Int32) (x_n : Int32) (x_players : Int32) (x_wide : Nat → Int32) (x_tall : Nat → Int32) (x_hands : Nat → Int32) (x_pressed : Nat → Int32) (x_leftFrom : Nat → Int32) (x_leftTo : Nat → Int32) (x_wait : Nat → Int32) (x_isLost : Nat → Int32) : va_W := [(o_t 0, .inr (8, [.int x_thrown, .ref (o_t 2), .ref (o_t 3), .ref (o_t 4), .ref (o_t 5), .ref (o_t 6), .ref (o_t 7), .ref (o_t 8), .ref (o_t 9), .ref (o_t 10), .ref (o_t 11), .int x_delay, .int x_feel, .int x_turn, .int x_sight, .ref (o_t 16), .ref (o_t 17), .ref (o_t 18), .ref (o_t 19), .int x_ball, .int x_w, .int x_h, .int x_n, .ref (o_t 24), .ref (o_t 25), .ref (o_t 26), .ref (o_t 27), .ref (o_t 28), .ref (o_t 29), .int x_players, .ref (o_t 31), .ref (o_t 32), .ref (o_t 33), .ref (o_t 34), .ref (o_t 35), .ref (o_t 36)])), (o_t 2, .inl (cy 0, 5, .inl x_wide)), (o_t 3, .inl (cy 0, 5, .inl x_tall)), (o_t 4, .inl (cy 0, 5, .inl x_hands)), (o_t 8, .inl (cy 0, 3000, .inl x_pressed)), (o_t 9, .inl (cy 0, 30, .inl x_leftFrom)), (o_t 10, .inl (cy 0, 30, .inl x_leftTo)), (o_t 16, .inl (cy 0, 36, .inl x_wait)), (o_t 17, .inl (cy 1, 600, .inl x_isLost))]
set_option maxHeartbeats 4000000 in
set_option maxRecDepth 100000 in
theorem w_X8_field {p : Program} {l : Launch} {e : Env} {s : State} {m : MethodId} {args : Array Value} {below : List Frame} {meth : Method} {c : Code} {Q : State → Prop} {A : Nat → Prop} {H : Heap} {locs : List Loc} {ls : Array Slot} (D : va_G) (cy : Nat → ClassId) (t : Nat → Nat) (o_t : Nat → Nat) (x_thrown : Int32) (x_delay : Int32) (x_feel : Int32) (x_turn : Int32) (x_sight : Int32) (x_ball : Int32) (x_w : Int32) (x_h : Int32) (x_n : Int32) (x_players : Int32) (x_wide : Nat → Int32) (x_tall : Nat → Int32) (x_hands : Nat → Int32) (x_pressed : Nat → Int32) (x_leftFrom : Nat → Int32) (x_leftTo : Nat → Int32) (x_wait : Nat → Int32) (x_isLost : Nat → Int32) (p1 : Int32) (p2 : Int32) (p3 : Int32) {out : Int32 × Int32 × (Nat → Int32) × (Nat → Int32) × (Nat → Int32) × (Nat → Int32) × (Nat → Int32) × (Nat → Int32) × (Nat → Int32) × (Nat → Int32)} (hf : X8_field x_thrown x_wide x_tall x_hands x_pressed x_leftFrom x_leftTo x_wait x_isLost p1 p2 p3 = some out) (hx : p.tables.exec = Jvm.exec) (hb : c.code = cX8_field) (hml : c.maxLocals = 5) (hown : s.vm.findClass RX8 = some m.cls) (hts : ∀ w ∈ wsX8_field, w.before args s = true) (hK : va_K D vwCl (TYS cy) s) (hE : EV t A s s.heap) (hA : ∀ q, s.heap.size ≤ q → A q) (hP : va_P D vwCl (wd_X8_field cy o_t x_thrown x_delay x_feel x_turn x_sight x_ball x_w x_h x_n x_players x_wide x_tall x_hands x_pressed x_leftFrom x_leftTo x_wait x_isLost) H) (hD : va_D A (wd_X8_field cy o_t x_thrown x_delay x_feel x_turn x_sight x_ball x_w x_h x_n x_players x_wide x_tall x_hands x_pressed x_leftFrom x_leftTo x_wait x_isLost)) (hS : va_S A s.heap H locs) (hl : lv_has ls 5 [(0, .ref (o_t 0)), (1, .int p1), (2, .int p2), (3, .int p3)]) (hR : ∀ (H : Heap) (locs : List Loc) (ls : Array Slot) (pc : Nat), va_P D vwCl (wd_X8_field cy o_t out.2.1 x_delay x_feel x_turn x_sight x_ball x_w x_h x_n x_players out.2.2.1 out.2.2.2.1 out.2.2.2.2.1 out.2.2.2.2.2.1 out.2.2.2.2.2.2.1 out.2.2.2.2.2.2.2.1 out.2.2.2.2.2.2.2.2.1 out.2.2.2.2.2.2.2.2.2) H → va_D A (wd_X8_field cy o_t out.2.1 x_delay x_feel x_turn x_sight x_ball x_w x_h x_n x_players out.2.2.1 out.2.2.2.1 out.2.2.2.2.1 out.2.2.2.2.2.1 out.2.2.2.2.2.2.1 out.2.2.2.2.2.2.2.1 out.2.2.2.2.2.2.2.2.1 out.2.2.2.2.2.2.2.2.2) → va_S A s.heap H locs → decode cX8_field pc = .ok (.ireturn, 1) → W p l e (rmm 1 25) s m args below meth c H locs 0 0 Q (F0 m pc ls [.int out.1])) : W p l e (rmm 1 25) s m args below meth c H locs 0 0 Q (F0 m 0 ls []) := by
  have k0 := hts (.fieldLink RX8 100 "SeaGamesModel" "thrown" "I") (List.mem_cons_of_mem _ (List.mem_append_left _ (List.mem_of_getElem? (i := 0) rfl)))
  have k1 : ∀ w ∈ u_ws RX8 TX8 36, w ∈ wsX8_field := fun _ h => List.mem_cons_of_mem _ (List.mem_append_right _ h)
  have k2 := hts (.constantLong RX8 109 (3)) (List.mem_cons_of_mem _ (List.mem_append_left _ (List.mem_of_getElem? (i := 1) rfl)))
  have k3 := hts (.constantLong RX8 111 (9)) (List.mem_cons_of_mem _ (List.mem_append_left _ (List.mem_of_getElem? (i := 2) rfl)))
  have k4 := hts (.constantLong RX8 113 (2)) (List.mem_cons_of_mem _ (List.mem_append_left _ (List.mem_of_getElem? (i := 3) rfl)))
  have k5 := hts (.constantLong RX8 115 (6)) (List.mem_cons_of_mem _ (List.mem_append_left _ (List.mem_of_getElem? (i := 4) rfl)))
  have k6 := hts (.fieldLink RX8 7 "SeaGamesModel" "wide" "[I") (List.mem_cons_of_mem _ (List.mem_append_left _ (List.mem_of_getElem? (i := 5) rfl)))
  have k7 := hts (.fieldLink RX8 13 "SeaGamesModel" "tall" "[I") (List.mem_cons_of_mem _ (List.mem_append_left _ (List.mem_of_getElem? (i := 6) rfl)))
  have k8 := hts (.fieldLink RX8 16 "SeaGamesModel" "hands" "[I") (List.mem_cons_of_mem _ (List.mem_append_left _ (List.mem_of_getElem? (i := 7) rfl)))
  have k9 := hts (.fieldLink RX8 51 "SeaGamesModel" "wait" "[I") (List.mem_cons_of_mem _ (List.mem_append_left _ (List.mem_of_getElem? (i := 12) rfl)))
  have k10 := hts (.fieldLink RX8 31 "SeaGamesModel" "leftFrom" "[I") (List.mem_cons_of_mem _ (List.mem_append_left _ (List.mem_of_getElem? (i := 10) rfl)))
  have k11 := hts (.fieldLink RX8 34 "SeaGamesModel" "leftTo" "[I") (List.mem_cons_of_mem _ (List.mem_append_left _ (List.mem_of_getElem? (i := 11) rfl)))
  have k12 := hts (.fieldLink RX8 28 "SeaGamesModel" "pressed" "[I") (List.mem_cons_of_mem _ (List.mem_append_left _ (List.mem_of_getElem? (i := 8) rfl)))
  have k13 := hts (.fieldLink RX8 54 "SeaGamesModel" "isLost" "[Z") (List.mem_cons_of_mem _ (List.mem_append_left _ (List.mem_of_getElem? (i := 9) rfl)))
  rw [X8_field] at hf
  refine lv_aload_n hx hb dX8_field_0 rfl (lv_at hl 0 rfl) ?_
  refine lv_iconst (v := (0 : Int32)) hx hb dX8_field_1 (by decide) ?_
  refine va_put (D := D) (ci := 8) (v := .int (0 : Int32)) (ty := .int) (C := RX8) (T := TX8) (N := 36) hx hb hts k1 tyX8 tyX8_ok nmX8 hown hK hP hD hS 0 rfl rfl 0 (by decide) k0 (fun _ h9 => h9) rfl (by decide +kernel) rfl rfl (Nat.le_of_ble_eq_true rfl) dX8_field_2 (fun H locs hP hD hS => ?_)
  have hP : va_P D vwCl (wd_X8_field cy o_t (0 : Int32) x_delay x_feel x_turn x_sight x_ball x_w x_h x_n x_players x_wide x_tall x_hands x_pressed x_leftFrom x_leftTo x_wait x_isLost) H := hP
  have hD : va_D A (wd_X8_field cy o_t (0 : Int32) x_delay x_feel x_turn x_sight x_ball x_w x_h x_n x_players x_wide x_tall x_hands x_pressed x_leftFrom x_leftTo x_wait x_isLost) := hD
  refine lv_iload_n hx hb dX8_field_5 rfl (lv_at hl 1 rfl) ?_
  refine lv_i2l (v := (Int32.toInt64 p1)) hx hb dX8_field_6 rfl ?_
  refine lv_ldc2 (v := (3 : Int64)) hx hb hown k2 dX8_field_7 ?_
  refine lv_ldc2 (v := (9 : Int64)) hx hb hown k3 dX8_field_10 ?_
  obtain ⟨r13, hr13, hf⟩ := bd_s hf
  refine my_Si (WS2 := (wd_X8_field cy o_t (0 : Int32) x_delay x_feel x_turn x_sight x_ball x_w x_h x_n x_players x_wide x_tall x_hands x_pressed x_leftFrom x_leftTo x_wait x_isLost)) ⟨hx, hb, hml, hown, hts⟩ (c_X8_in l D cy t (Int32.toInt64 p1) (3 : Int64) (9 : Int64) hr13) (va_cwS 3 hts gX8_field_X8_in rfl rfl rfl hd_X8_in ⟨Nat.le_of_ble_eq_true rfl, Nat.le_of_ble_eq_true rfl⟩) hK hE hP hD hS hA [] 9 rfl rfl (by decide +kernel) rfl rfl hl.1 rfl (Nat.le_of_ble_eq_true rfl) dX8_field_13 ⟨Nat.le_of_ble_eq_true rfl, Nat.le_of_ble_eq_true rfl⟩ (fun H locs hP hD hS => ?_)
  refine lv_if_eq (tgt := 47) hx hb dX8_field_16 (by decide) (fun c16 => ?_) (fun c16 => ?_)
  · have hf := ifp c16 hf
    refine lv_bipush (v := (-2 : Int32)) hx hb dX8_field_47 (by decide) ?_
    obtain rfl := Option.some.inj hf
    exact hR _ _ _ _ hP hD hS dX8_field_49
  · have hf := ifn c16 hf
    refine lv_iload_n hx hb dX8_field_19 rfl (lv_at hl 2 rfl) ?_
    refine lv_i2l (v := (Int32.toInt64 p2)) hx hb dX8_field_20 rfl ?_
    refine lv_ldc2 (v := (3 : Int64)) hx hb hown k2 dX8_field_21 ?_
    refine lv_ldc2 (v := (9 : Int64)) hx hb hown k3 dX8_field_24 ?_
    obtain ⟨r27, hr27, hf⟩ := bd_s hf
    refine my_Si (WS2 := (wd_X8_field cy o_t (0 : Int32) x_delay x_feel x_turn x_sight x_ball x_w x_h x_n x_players x_wide x_tall x_hands x_pressed x_leftFrom x_leftTo x_wait x_isLost)) ⟨hx, hb, hml, hown, hts⟩ (c_X8_in l D cy t (Int32.toInt64 p2) (3 : Int64) (9 : Int64) hr27) (va_cwS 3 hts gX8_field_X8_in rfl rfl rfl hd_X8_in ⟨Nat.le_of_ble_eq_true rfl, Nat.le_of_ble_eq_true rfl⟩) hK hE hP hD hS hA [] 9 rfl rfl (by decide +kernel) rfl rfl hl.1 rfl (Nat.le_of_ble_eq_true rfl) dX8_field_27 ⟨Nat.le_of_ble_eq_true rfl, Nat.le_of_ble_eq_true rfl⟩ (fun H locs hP hD hS => ?_)
    refine lv_if_eq (tgt := 47) hx hb dX8_field_30 (by decide) (fun c30 => ?_) (fun c30 => ?_)
    · have hf := ifp c30 hf
      refine lv_bipush (v := (-2 : Int32)) hx hb dX8_field_47 (by decide) ?_
      obtain rfl := Option.some.inj hf
      exact hR _ _ _ _ hP hD hS dX8_field_49
    · have hf := ifn c30 hf
      refine lv_iload_n hx hb dX8_field_33 rfl (lv_at hl 3 rfl) ?_
      refine lv_i2l (v := (Int32.toInt64 p3)) hx hb dX8_field_34 rfl ?_
      refine lv_ldc2 (v := (2 : Int64)) hx hb hown k4 dX8_field_35 ?_
      refine lv_ldc2 (v := (6 : Int64)) hx hb hown k5 dX8_field_38 ?_
      obtain ⟨r41, hr41, hf⟩ := bd_s hf
      refine my_Si (WS2 := (wd_X8_field cy o_t (0 : Int32) x_delay x_feel x_turn x_sight x_ball x_w x_h x_n x_players x_wide x_tall x_hands x_pressed x_leftFrom x_leftTo x_wait x_isLost)) ⟨hx, hb, hml, hown, hts⟩ (c_X8_in l D cy t (Int32.toInt64 p3) (2 : Int64) (6 : Int64) hr41) (va_cwS 3 hts gX8_field_X8_in rfl rfl rfl hd_X8_in ⟨Nat.le_of_ble_eq_true rfl, Nat.le_of_ble_eq_true rfl⟩) hK hE hP hD hS hA [] 9 rfl rfl (by decide +kernel) rfl rfl hl.1 rfl (Nat.le_of_ble_eq_true rfl) dX8_field_41 ⟨Nat.le_of_ble_eq_true rfl, Nat.le_of_ble_eq_true rfl⟩ (fun H locs hP hD hS => ?_)
      refine lv_if_ne (tgt := 50) hx hb dX8_field_44 (by decide) (fun c44 => ?_) (fun c44 => ?_)
      · have hf := ifn c44 hf
        have h74 : ∀ (n74 : Nat) (x_thrown : Int32) (x_wide : Nat → Int32) (x_tall : Nat → Int32) (x_hands : Nat → Int32) (x_pressed : Nat → Int32) (x_leftFrom : Nat → Int32) (x_leftTo : Nat → Int32) (x_wait : Nat → Int32) (x_isLost : Nat → Int32) (l1 : Int32) (l2 : Int32) (l4 : Int32) (H : Heap) (locs : List Loc) (ls : Array Slot), X8_field_L74 n74 x_thrown x_wide x_tall x_hands x_pressed x_leftFrom x_leftTo x_wait x_isLost l1 l2 l4 = some out → va_P D vwCl (wd_X8_field cy o_t x_thrown x_delay x_feel x_turn x_sight x_ball x_w x_h x_n x_players x_wide x_tall x_hands x_pressed x_leftFrom x_leftTo x_wait x_isLost) H → va_D A (wd_X8_field cy o_t x_thrown x_delay x_feel x_turn x_sight x_ball x_w x_h x_n x_players x_wide x_tall x_hands x_pressed x_leftFrom x_leftTo x_wait x_isLost) → va_S A s.heap H locs → lv_has ls 5 [(0, .ref (o_t 0)), (1, .int l1), (2, .int l2), (4, .int l4)] → W p l e (rmm 1 25) s m args below meth c H locs 0 0 Q (F0 m 74 ls []) := by
          intro n74
          induction n74 with
          | zero =>
            intro _ _ _ _ _ _ _ _ _ _ _ _ _ _ _ hf
            exact nomatch (show (none : Option _) = some out from hf)
          | succ n74 ih74 =>
            intro x_thrown x_wide x_tall x_hands x_pressed x_leftFrom x_leftTo x_wait x_isLost l1 l2 l4 H locs ls hf hP hD hS hl
            have hf : X8_field_L74_B (X8_field_L74 n74) x_thrown x_wide x_tall x_hands x_pressed x_leftFrom x_leftTo x_wait x_isLost l1 l2 l4 = some out := hf
            rw [X8_field_L74_B] at hf
            have h108 : ∀ (x_thrown : Int32) (x_wide : Nat → Int32) (x_tall : Nat → Int32) (x_hands : Nat → Int32) (x_pressed : Nat → Int32) (x_leftFrom : Nat → Int32) (x_leftTo : Nat → Int32) (x_wait : Nat → Int32) (x_isLost : Nat → Int32) (l1 : Int32) (l2 : Int32) (H : Heap) (locs : List Loc) (ls : Array Slot), X8_field_J108 x_thrown x_wide x_tall x_hands x_pressed x_leftFrom x_leftTo x_wait x_isLost l1 l2 = some out → va_P D vwCl (wd_X8_field cy o_t x_thrown x_delay x_feel x_turn x_sight x_ball x_w x_h x_n x_players x_wide x_tall x_hands x_pressed x_leftFrom x_leftTo x_wait x_isLost) H → va_D A (wd_X8_field cy o_t x_thrown x_delay x_feel x_turn x_sight x_ball x_w x_h x_n x_players x_wide x_tall x_hands x_pressed x_leftFrom x_leftTo x_wait x_isLost) → va_S A s.heap H locs → lv_has ls 5 [(0, .ref (o_t 0)), (1, .int l1), (2, .int l2)] → W p l e (rmm 1 25) s m args below meth c H locs 0 0 Q (F0 m 108 ls []) := by
              intro x_thrown x_wide x_tall x_hands x_pressed x_leftFrom x_leftTo x_wait x_isLost l1 l2 H locs ls hf hP hD hS hl
              rw [X8_field_J108] at hf
              have h111 : ∀ (n111 : Nat) (x_thrown : Int32) (x_wide : Nat → Int32) (x_tall : Nat → Int32) (x_hands : Nat → Int32) (x_pressed : Nat → Int32) (x_leftFrom : Nat → Int32) (x_leftTo : Nat → Int32) (x_wait : Nat → Int32) (x_isLost : Nat → Int32) (l1 : Int32) (l2 : Int32) (l4 : Int32) (H : Heap) (locs : List Loc) (ls : Array Slot), X8_field_L111 n111 x_thrown x_wide x_tall x_hands x_pressed x_leftFrom x_leftTo x_wait x_isLost l1 l2 l4 = some out → va_P D vwCl (wd_X8_field cy o_t x_thrown x_delay x_feel x_turn x_sight x_ball x_w x_h x_n x_players x_wide x_tall x_hands x_pressed x_leftFrom x_leftTo x_wait x_isLost) H → va_D A (wd_X8_field cy o_t x_thrown x_delay x_feel x_turn x_sight x_ball x_w x_h x_n x_players x_wide x_tall x_hands x_pressed x_leftFrom x_leftTo x_wait x_isLost) → va_S A s.heap H locs → lv_has ls 5 [(0, .ref (o_t 0)), (1, .int l1), (2, .int l2), (4, .int l4)] → W p l e (rmm 1 25) s m args below meth c H locs 0 0 Q (F0 m 111 ls []) := by
                intro n111
                induction n111 with
                | zero =>
                  intro _ _ _ _ _ _ _ _ _ _ _ _ _ _ _ hf
                  exact nomatch (show (none : Option _) = some out from hf)
                | succ n111 ih111 =>
                  intro x_thrown x_wide x_tall x_hands x_pressed x_leftFrom x_leftTo x_wait x_isLost l1 l2 l4 H locs ls hf hP hD hS hl
                  have hf : X8_field_L111_B (X8_field_L111 n111) x_thrown x_wide x_tall x_hands x_pressed x_leftFrom x_leftTo x_wait x_isLost l1 l2 l4 = some out := hf
                  rw [X8_field_L111_B] at hf
                  have h146 : ∀ (x_thrown : Int32) (x_wide : Nat → Int32) (x_tall : Nat → Int32) (x_hands : Nat → Int32) (x_pressed : Nat → Int32) (x_leftFrom : Nat → Int32) (x_leftTo : Nat → Int32) (x_wait : Nat → Int32) (x_isLost : Nat → Int32) (l1 : Int32) (l2 : Int32) (H : Heap) (locs : List Loc) (ls : Array Slot), X8_field_J146 x_thrown x_wide x_tall x_hands x_pressed x_leftFrom x_leftTo x_wait x_isLost l1 l2 = some out → va_P D vwCl (wd_X8_field cy o_t x_thrown x_delay x_feel x_turn x_sight x_ball x_w x_h x_n x_players x_wide x_tall x_hands x_pressed x_leftFrom x_leftTo x_wait x_isLost) H → va_D A (wd_X8_field cy o_t x_thrown x_delay x_feel x_turn x_sight x_ball x_w x_h x_n x_players x_wide x_tall x_hands x_pressed x_leftFrom x_leftTo x_wait x_isLost) → va_S A s.heap H locs → lv_has ls 5 [(0, .ref (o_t 0)), (1, .int l1), (2, .int l2)] → W p l e (rmm 1 25) s m args below meth c H locs 0 0 Q (F0 m 146 ls []) := by
                    intro x_thrown x_wide x_tall x_hands x_pressed x_leftFrom x_leftTo x_wait x_isLost l1 l2 H locs ls hf hP hD hS hl
                    rw [X8_field_J146] at hf
                    have h149 : ∀ (n149 : Nat) (x_thrown : Int32) (x_wide : Nat → Int32) (x_tall : Nat → Int32) (x_hands : Nat → Int32) (x_pressed : Nat → Int32) (x_leftFrom : Nat → Int32) (x_leftTo : Nat → Int32) (x_wait : Nat → Int32) (x_isLost : Nat → Int32) (l1 : Int32) (l2 : Int32) (l4 : Int32) (H : Heap) (locs : List Loc) (ls : Array Slot), X8_field_L149 n149 x_thrown x_wide x_tall x_hands x_pressed x_leftFrom x_leftTo x_wait x_isLost l1 l2 l4 = some out → va_P D vwCl (wd_X8_field cy o_t x_thrown x_delay x_feel x_turn x_sight x_ball x_w x_h x_n x_players x_wide x_tall x_hands x_pressed x_leftFrom x_leftTo x_wait x_isLost) H → va_D A (wd_X8_field cy o_t x_thrown x_delay x_feel x_turn x_sight x_ball x_w x_h x_n x_players x_wide x_tall x_hands x_pressed x_leftFrom x_leftTo x_wait x_isLost) → va_S A s.heap H locs → lv_has ls 5 [(0, .ref (o_t 0)), (1, .int l1), (2, .int l2), (4, .int l4)] → W p l e (rmm 1 25) s m args below meth c H locs 0 0 Q (F0 m 149 ls []) := by
                      intro n149
                      induction n149 with
                      | zero =>
                        intro _ _ _ _ _ _ _ _ _ _ _ _ _ _ _ hf
                        exact nomatch (show (none : Option _) = some out from hf)
                      | succ n149 ih149 =>
                        intro x_thrown x_wide x_tall x_hands x_pressed x_leftFrom x_leftTo x_wait x_isLost l1 l2 l4 H locs ls hf hP hD hS hl
                        have hf : X8_field_L149_B (X8_field_L149 n149) x_thrown x_wide x_tall x_hands x_pressed x_leftFrom x_leftTo x_wait x_isLost l1 l2 l4 = some out := hf
                        rw [X8_field_L149_B] at hf
                        have h170 : ∀ (x_thrown : Int32) (x_wide : Nat → Int32) (x_tall : Nat → Int32) (x_hands : Nat → Int32) (x_pressed : Nat → Int32) (x_leftFrom : Nat → Int32) (x_leftTo : Nat → Int32) (x_wait : Nat → Int32) (x_isLost : Nat → Int32) (l1 : Int32) (l2 : Int32) (H : Heap) (locs : List Loc) (ls : Array Slot), X8_field_J170 x_thrown x_wide x_tall x_hands x_pressed x_leftFrom x_leftTo x_wait x_isLost l1 l2 = some out → va_P D vwCl (wd_X8_field cy o_t x_thrown x_delay x_feel x_turn x_sight x_ball x_w x_h x_n x_players x_wide x_tall x_hands x_pressed x_leftFrom x_leftTo x_wait x_isLost) H → va_D A (wd_X8_field cy o_t x_thrown x_delay x_feel x_turn x_sight x_ball x_w x_h x_n x_players x_wide x_tall x_hands x_pressed x_leftFrom x_leftTo x_wait x_isLost) → va_S A s.heap H locs → lv_has ls 5 [(1, .int l1), (2, .int l2)] → W p l e (rmm 1 25) s m args below meth c H locs 0 0 Q (F0 m 170 ls []) := by
                          intro x_thrown x_wide x_tall x_hands x_pressed x_leftFrom x_leftTo x_wait x_isLost l1 l2 H locs ls hf hP hD hS hl
                          rw [X8_field_J170] at hf
                          refine lv_iload_n hx hb dX8_field_170 rfl (lv_at hl 0 rfl) ?_
                          refine lv_iload_n hx hb dX8_field_171 rfl (lv_at hl 1 rfl) ?_
                          refine lv_imul hx hb dX8_field_172 ?_
                          obtain rfl := Option.some.inj hf
                          exact hR _ _ _ _ hP hD hS dX8_field_173
                        refine lv_iload hx hb dX8_field_149 (lv_at hl 3 rfl) ?_
                        refine lv_bipush (v := (36 : Int32)) hx hb dX8_field_151 (by decide) ?_
                        refine lv_icmp_ge (tgt := 170) hx hb dX8_field_153 (by decide) (fun c153 => ?_) (fun c153 => ?_)
                        · have hf := ifp c153 hf
                          exact h170 _ _ _ _ _ _ _ _ _ _ _ _ _ _ hf hP hD hS (lv_sub hl [1, 2] rfl)
                        · have hf := ifn c153 hf
                          refine lv_aload_n hx hb dX8_field_156 rfl (lv_at hl 0 rfl) ?_
                          refine va_get (D := D) (ci := 8) (v := .ref (o_t 16)) (C := RX8) (T := TX8) (N := 36) hx hb hts k1 hown hK hP 0 rfl rfl 15 (by decide) k9 (fun _ h9 => h9) rfl dX8_field_157 ?_
                          refine lv_iload hx hb dX8_field_160 (lv_at hl 3 rfl) ?_
                          refine lv_iconst (v := (0 : Int32)) hx hb dX8_field_162 (by decide) ?_
                          obtain ⟨w163, b163, ew163, hf⟩ := wrI_s hf
                          refine my_iast (ws2 := (wd_X8_field cy o_t x_thrown x_delay x_feel x_turn x_sight x_ball x_w x_h x_n x_players x_wide x_tall x_hands x_pressed x_leftFrom x_leftTo w163 x_isLost)) hx hb hK hP hD hS 7 rfl b163 ew163 rfl dX8_field_163 (fun H locs hP hD hS => ?_)
                          obtain ⟨v164, ev164, hf⟩ := nm_s hf
                          refine lv_iinc (v := v164) (lv' := [(4, .int v164), (0, .ref (o_t 0)), (1, .int l1), (2, .int l2)]) hx hb dX8_field_164 hl (k := 3) rfl (by rw [ev164]; rfl) (by decide) rfl (fun ls hl => ?_)
                          refine lv_goto (tgt := 149) hx hb dX8_field_167 (by decide) ?_
                          exact ih149 _ _ _ _ _ _ _ _ _ _ _ _ _ _ _ hf hP hD hS (lv_sub hl [1, 2, 3, 0] rfl)
                    refine lv_iconst (v := (0 : Int32)) hx hb dX8_field_146 (by decide) ?_
                    refine lv_istore (lv' := [(4, .int (0 : Int32)), (0, .ref (o_t 0)), (1, .int l1), (2, .int l2)]) hx hb dX8_field_147 hl (by decide) rfl (fun ls hl => ?_)
                    exact h149 FU _ _ _ _ _ _ _ _ _ _ _ _ _ _ _ hf hP hD hS (lv_sub hl [1, 2, 3, 0] rfl)
                  refine lv_iload hx hb dX8_field_111 (lv_at hl 3 rfl) ?_
                  refine lv_bipush (v := (6 : Int32)) hx hb dX8_field_113 (by decide) ?_
                  refine lv_icmp_ge (tgt := 146) hx hb dX8_field_115 (by decide) (fun c115 => ?_) (fun c115 => ?_)
                  · have hf := ifp c115 hf
                    exact h146 _ _ _ _ _ _ _ _ _ _ _ _ _ _ hf hP hD hS (lv_sub hl [0, 1, 2] rfl)
                  · have hf := ifn c115 hf
                    refine lv_aload_n hx hb dX8_field_118 rfl (lv_at hl 0 rfl) ?_
                    refine va_get (D := D) (ci := 8) (v := .ref (o_t 9)) (C := RX8) (T := TX8) (N := 36) hx hb hts k1 hown hK hP 0 rfl rfl 8 (by decide) k10 (fun _ h9 => h9) rfl dX8_field_119 ?_
                    refine lv_bipush (v := (24 : Int32)) hx hb dX8_field_122 (by decide) ?_
                    refine lv_iload hx hb dX8_field_124 (lv_at hl 3 rfl) ?_
                    refine lv_iadd hx hb dX8_field_126 ?_
                    refine lv_iconst (v := (0 : Int32)) hx hb dX8_field_127 (by decide) ?_
                    obtain ⟨w128, b128, ew128, hf⟩ := wrI_s hf
                    refine my_iast (ws2 := (wd_X8_field cy o_t x_thrown x_delay x_feel x_turn x_sight x_ball x_w x_h x_n x_players x_wide x_tall x_hands x_pressed w128 x_leftTo x_wait x_isLost)) hx hb hK hP hD hS 5 rfl b128 ew128 rfl dX8_field_128 (fun H locs hP hD hS => ?_)
                    refine lv_aload_n hx hb dX8_field_129 rfl (lv_at hl 0 rfl) ?_
                    refine va_get (D := D) (ci := 8) (v := .ref (o_t 10)) (C := RX8) (T := TX8) (N := 36) hx hb hts k1 hown hK hP 0 rfl rfl 9 (by decide) k11 (fun _ h9 => h9) rfl dX8_field_130 ?_
                    refine lv_bipush (v := (24 : Int32)) hx hb dX8_field_133 (by decide) ?_
                    refine lv_iload hx hb dX8_field_135 (lv_at hl 3 rfl) ?_
                    refine lv_iadd hx hb dX8_field_137 ?_
                    refine lv_iconst (v := (0 : Int32)) hx hb dX8_field_138 (by decide) ?_
                    obtain ⟨w139, b139, ew139, hf⟩ := wrI_s hf
                    refine my_iast (ws2 := (wd_X8_field cy o_t x_thrown x_delay x_feel x_turn x_sight x_ball x_w x_h x_n x_players x_wide x_tall x_hands x_pressed w128 w139 x_wait x_isLost)) hx hb hK hP hD hS 6 rfl b139 ew139 rfl dX8_field_139 (fun H locs hP hD hS => ?_)
                    obtain ⟨v140, ev140, hf⟩ := nm_s hf
                    refine lv_iinc (v := v140) (lv' := [(4, .int v140), (0, .ref (o_t 0)), (1, .int l1), (2, .int l2)]) hx hb dX8_field_140 hl (k := 3) rfl (by rw [ev140]; rfl) (by decide) rfl (fun ls hl => ?_)
                    refine lv_goto (tgt := 111) hx hb dX8_field_143 (by decide) ?_
                    exact ih111 _ _ _ _ _ _ _ _ _ _ _ _ _ _ _ hf hP hD hS (lv_sub hl [1, 2, 3, 0] rfl)
              refine lv_iconst (v := (0 : Int32)) hx hb dX8_field_108 (by decide) ?_
              refine lv_istore (lv' := [(4, .int (0 : Int32)), (0, .ref (o_t 0)), (1, .int l1), (2, .int l2)]) hx hb dX8_field_109 hl (by decide) rfl (fun ls hl => ?_)
              exact h111 FU _ _ _ _ _ _ _ _ _ _ _ _ _ _ _ hf hP hD hS (lv_sub hl [1, 2, 3, 0] rfl)
            refine lv_iload hx hb dX8_field_74 (lv_at hl 3 rfl) ?_
            refine lv_sipush (v := (600 : Int32)) hx hb dX8_field_76 (by decide) ?_
            refine lv_icmp_ge (tgt := 108) hx hb dX8_field_79 (by decide) (fun c79 => ?_) (fun c79 => ?_)
            · have hf := ifp c79 hf
              exact h108 _ _ _ _ _ _ _ _ _ _ _ _ _ _ hf hP hD hS (lv_sub hl [0, 1, 2] rfl)
            · have hf := ifn c79 hf
              refine lv_aload_n hx hb dX8_field_82 rfl (lv_at hl 0 rfl) ?_
              refine va_get (D := D) (ci := 8) (v := .ref (o_t 8)) (C := RX8) (T := TX8) (N := 36) hx hb hts k1 hown hK hP 0 rfl rfl 7 (by decide) k12 (fun _ h9 => h9) rfl dX8_field_83 ?_
              refine lv_sipush (v := (2400 : Int32)) hx hb dX8_field_86 (by decide) ?_
              refine lv_iload hx hb dX8_field_89 (lv_at hl 3 rfl) ?_
              refine lv_iadd hx hb dX8_field_91 ?_
              refine lv_iconst (v := (0 : Int32)) hx hb dX8_field_92 (by decide) ?_
              obtain ⟨w93, b93, ew93, hf⟩ := wrI_s hf
              refine my_iast (ws2 := (wd_X8_field cy o_t x_thrown x_delay x_feel x_turn x_sight x_ball x_w x_h x_n x_players x_wide x_tall x_hands w93 x_leftFrom x_leftTo x_wait x_isLost)) hx hb hK hP hD hS 4 rfl b93 ew93 rfl dX8_field_93 (fun H locs hP hD hS => ?_)
              refine lv_aload_n hx hb dX8_field_94 rfl (lv_at hl 0 rfl) ?_
              refine va_get (D := D) (ci := 8) (v := .ref (o_t 17)) (C := RX8) (T := TX8) (N := 36) hx hb hts k1 hown hK hP 0 rfl rfl 16 (by decide) k13 (fun _ h9 => h9) rfl dX8_field_95 ?_
              refine lv_iload hx hb dX8_field_98 (lv_at hl 3 rfl) ?_
              refine lv_iconst (v := (0 : Int32)) hx hb dX8_field_100 (by decide) ?_
              obtain ⟨w101, b101, ew101, hf⟩ := wrZ_s hf
              refine my_zast (ws2 := (wd_X8_field cy o_t x_thrown x_delay x_feel x_turn x_sight x_ball x_w x_h x_n x_players x_wide x_tall x_hands w93 x_leftFrom x_leftTo x_wait w101)) hx hb hK hP hD hS 8 rfl b101 ew101 rfl dX8_field_101 (fun H locs hP hD hS => ?_)
              obtain ⟨v102, ev102, hf⟩ := nm_s hf
              refine lv_iinc (v := v102) (lv' := [(4, .int v102), (0, .ref (o_t 0)), (1, .int l1), (2, .int l2)]) hx hb dX8_field_102 hl (k := 3) rfl (by rw [ev102]; rfl) (by decide) rfl (fun ls hl => ?_)
              refine lv_goto (tgt := 74) hx hb dX8_field_105 (by decide) ?_
              exact ih74 _ _ _ _ _ _ _ _ _ _ _ _ _ _ _ hf hP hD hS (lv_sub hl [1, 2, 3, 0] rfl)
        refine lv_aload_n hx hb dX8_field_50 rfl (lv_at hl 0 rfl) ?_
        refine va_get (D := D) (ci := 8) (v := .ref (o_t 2)) (C := RX8) (T := TX8) (N := 36) hx hb hts k1 hown hK hP 0 rfl rfl 1 (by decide) k6 (fun _ h9 => h9) rfl dX8_field_51 ?_
        refine lv_iconst (v := (4 : Int32)) hx hb dX8_field_54 (by decide) ?_
        refine lv_iload_n hx hb dX8_field_55 rfl (lv_at hl 1 rfl) ?_
        obtain ⟨w56, b56, ew56, hf⟩ := wrI_s hf
        refine my_iast (ws2 := (wd_X8_field cy o_t (0 : Int32) x_delay x_feel x_turn x_sight x_ball x_w x_h x_n x_players w56 x_tall x_hands x_pressed x_leftFrom x_leftTo x_wait x_isLost)) hx hb hK hP hD hS 1 rfl b56 ew56 rfl dX8_field_56 (fun H locs hP hD hS => ?_)
        refine lv_aload_n hx hb dX8_field_57 rfl (lv_at hl 0 rfl) ?_
        refine va_get (D := D) (ci := 8) (v := .ref (o_t 3)) (C := RX8) (T := TX8) (N := 36) hx hb hts k1 hown hK hP 0 rfl rfl 2 (by decide) k7 (fun _ h9 => h9) rfl dX8_field_58 ?_
        refine lv_iconst (v := (4 : Int32)) hx hb dX8_field_61 (by decide) ?_
        refine lv_iload_n hx hb dX8_field_62 rfl (lv_at hl 2 rfl) ?_
        obtain ⟨w63, b63, ew63, hf⟩ := wrI_s hf
        refine my_iast (ws2 := (wd_X8_field cy o_t (0 : Int32) x_delay x_feel x_turn x_sight x_ball x_w x_h x_n x_players w56 w63 x_hands x_pressed x_leftFrom x_leftTo x_wait x_isLost)) hx hb hK hP hD hS 2 rfl b63 ew63 rfl dX8_field_63 (fun H locs hP hD hS => ?_)
        refine lv_aload_n hx hb dX8_field_64 rfl (lv_at hl 0 rfl) ?_
        refine va_get (D := D) (ci := 8) (v := .ref (o_t 4)) (C := RX8) (T := TX8) (N := 36) hx hb hts k1 hown hK hP 0 rfl rfl 3 (by decide) k8 (fun _ h9 => h9) rfl dX8_field_65 ?_
        refine lv_iconst (v := (4 : Int32)) hx hb dX8_field_68 (by decide) ?_
        refine lv_iload_n hx hb dX8_field_69 rfl (lv_at hl 3 rfl) ?_
        obtain ⟨w70, b70, ew70, hf⟩ := wrI_s hf
        refine my_iast (ws2 := (wd_X8_field cy o_t (0 : Int32) x_delay x_feel x_turn x_sight x_ball x_w x_h x_n x_players w56 w63 w70 x_pressed x_leftFrom x_leftTo x_wait x_isLost)) hx hb hK hP hD hS 3 rfl b70 ew70 rfl dX8_field_70 (fun H locs hP hD hS => ?_)
        refine lv_iconst (v := (0 : Int32)) hx hb dX8_field_71 (by decide) ?_
        refine lv_istore (lv' := [(4, .int (0 : Int32)), (0, .ref (o_t 0)), (1, .int p1), (2, .int p2), (3, .int p3)]) hx hb dX8_field_72 hl (by decide) rfl (fun ls hl => ?_)
        exact h74 FU _ _ _ _ _ _ _ _ _ _ _ _ _ _ _ hf hP hD hS (lv_sub hl [1, 2, 3, 0] rfl)
      · have hf := ifp c44 hf
        refine lv_bipush (v := (-2 : Int32)) hx hb dX8_field_47 (by decide) ?_
        obtain rfl := Option.some.inj hf
        exact hR _ _ _ _ hP hD hS dX8_field_49
theorem hd_X8_field : yX8_field.cls ≠ "java/lang/invoke/MethodHandle" ∧ yX8_field.cls ≠ "java/lang/invoke/VarHandle" ∧ (parseMethodDescriptor yX8_field.desc).map (fun d => d.parameters.length) = some 3 := by decide +kernel
set_option maxRecDepth 100000 in
theorem c_X8_field (l : Launch) (D : va_G) (cy : Nat → ClassId) (t : Nat → Nat) (o_t : Nat → Nat) (x_thrown : Int32) (x_delay : Int32) (x_feel : Int32) (x_turn : Int32) (x_sight : Int32) (x_ball : Int32) (x_w : Int32) (x_h : Int32) (x_n : Int32) (x_players : Int32) (x_wide : Nat → Int32) (x_tall : Nat → Int32) (x_hands : Nat → Int32) (x_pressed : Nat → Int32) (x_leftFrom : Nat → Int32) (x_leftTo : Nat → Int32) (x_wait : Nat → Int32) (x_isLost : Nat → Int32) (p1 : Int32) (p2 : Int32) (p3 : Int32) {out : Int32 × Int32 × (Nat → Int32) × (Nat → Int32) × (Nat → Int32) × (Nat → Int32) × (Nat → Int32) × (Nat → Int32) × (Nat → Int32) × (Nat → Int32)} (hf : X8_field x_thrown x_wide x_tall x_hands x_pressed x_leftFrom x_leftTo x_wait x_isLost p1 p2 p3 = some out) : ctI l yX8_field wsX8_field 1 25 D cy t [.ref (o_t 0), .int p1, .int p2, .int p3] (wd_X8_field cy o_t x_thrown x_delay x_feel x_turn x_sight x_ball x_w x_h x_n x_players x_wide x_tall x_hands x_pressed x_leftFrom x_leftTo x_wait x_isLost) (wd_X8_field cy o_t out.2.1 x_delay x_feel x_turn x_sight x_ball x_w x_h x_n x_players out.2.2.1 out.2.2.2.1 out.2.2.2.2.1 out.2.2.2.2.2.1 out.2.2.2.2.2.2.1 out.2.2.2.2.2.2.2.1 out.2.2.2.2.2.2.2.2.1 out.2.2.2.2.2.2.2.2.2) out.1 := by
  refine ⟨rfl, ?_⟩
  intro sz
  refine Met.ofW (cc := cX8_field) (maxL := 5) (ret := (some .int)) (by decide) rfl ?_
  intro p e s m args below meth c s₁ B hml hv
  obtain ⟨rfl, hsz, hP, hK, hD0, hE⟩ := hv
  have hts := atoms_spec (ws := wsX8_field) B.pre
  have hown : s.vm.findClass RX8 = some m.cls := findClass_of_methodNamed B.named
  have hlocks := B.notSynchronized
  subst hsz
  have hD := hD0.self (sz := s.heap.size)
  have hl := lv_entry ([.ref (o_t 0), .int p1, .int p2, .int p3]) (n := 5) (Nat.le_of_ble_eq_true rfl)
  rw [lg_entry_eq]
  generalize (lg_sl ([.ref (o_t 0), .int p1, .int p2, .int p3]) ++ List.replicate (5 - (lg_sl ([.ref (o_t 0), .int p1, .int p2, .int p3])).length) Slot.unset).toArray = ls at hl ⊢
  exact w_X8_field D cy t o_t x_thrown x_delay x_feel x_turn x_sight x_ball x_w x_h x_n x_players x_wide x_tall x_hands x_pressed x_leftFrom x_leftTo x_wait x_isLost p1 p2 p3 hf B.exec B.bytes hml hown hts hK hE (fun q h => Or.inr h) hP hD va_S.rf hl (fun H locs ls pc hP hD hS hdg => W.iret B.exec B.bytes B.returns (fun t ht hW => ⟨⟨_, (), rfl, rfl, ctB_of ht hP⟩, hS.F ht⟩) hS.2.2 hdg)

noncomputable def X8_rule_J68 (x_thrown : Int32) (x_delay : Int32) (x_feel : Int32) (x_turn : Int32) (x_sight : Int32) (x_power : Nat → Int32) (x_spin : Nat → Int32) (x_seed : Nat → Int32) (l1 : Int32) (l2 : Int32) (l3 : Int32) (s0 : Int64) (s1 : Int64) : Option (Int32 × Int32 × Int32 × Int32 × Int32 × Int32 × (Nat → Int32) × (Nat → Int32) × (Nat → Int32)) :=
  bd (X8_in s0 s1 (Int32.toInt64 l3)) fun r70 => if r70 = (0 : Int32) then (some ((-2 : Int32), x_thrown, x_delay, x_feel, x_turn, x_sight, x_power, x_spin, x_seed)) else (if l1 = (0 : Int32) then (rd x_power 5 (4 : Int32) fun v125 => wrI x_power 5 (4 : Int32) l2 fun w134 => some (v125, x_thrown, x_delay, x_feel, x_turn, x_sight, w134, x_spin, x_seed)) else if l1 = (1 : Int32) then (rd x_spin 5 (4 : Int32) fun v143 => wrI x_spin 5 (4 : Int32) l2 fun w152 => some (v143, x_thrown, x_delay, x_feel, x_turn, x_sight, x_power, w152, x_seed)) else if l1 = (2 : Int32) then (rd x_seed 5 (4 : Int32) fun v161 => wrI x_seed 5 (4 : Int32) l2 fun w170 => some (v161, x_thrown, x_delay, x_feel, x_turn, x_sight, x_power, x_spin, w170)) else if l1 = (3 : Int32) then (some (x_delay, x_thrown, l2, x_feel, x_turn, x_sight, x_power, x_spin, x_seed)) else if l1 = (4 : Int32) then (some (x_feel, x_thrown, x_delay, l2, x_turn, x_sight, x_power, x_spin, x_seed)) else if l1 = (5 : Int32) then (some (x_turn, x_thrown, x_delay, x_feel, l2, x_sight, x_power, x_spin, x_seed)) else (some (x_sight, x_thrown, x_delay, x_feel, x_turn, l2, x_power, x_spin, x_seed)))
noncomputable def X8_rule_J56 (x_thrown : Int32) (x_delay : Int32) (x_feel : Int32) (x_turn : Int32) (x_sight : Int32) (x_power : Nat → Int32) (x_spin : Nat → Int32) (x_seed : Nat → Int32) (l1 : Int32) (l2 : Int32) (s0 : Int32) : Option (Int32 × Int32 × Int32 × Int32 × Int32 × Int32 × (Nat → Int32) × (Nat → Int32) × (Nat → Int32)) :=
  if l1 = (0 : Int32) then (X8_rule_J68  x_thrown x_delay x_feel x_turn x_sight x_power x_spin x_seed l1 l2 s0 (Int32.toInt64 l2) (1 : Int64)) else (X8_rule_J68  x_thrown x_delay x_feel x_turn x_sight x_power x_spin x_seed l1 l2 s0 (Int32.toInt64 l2) (0 : Int64))
noncomputable def X8_rule_J49 (x_thrown : Int32) (x_delay : Int32) (x_feel : Int32) (x_turn : Int32) (x_sight : Int32) (x_power : Nat → Int32) (x_spin : Nat → Int32) (x_seed : Nat → Int32) (l1 : Int32) (l2 : Int32) : Option (Int32 × Int32 × Int32 × Int32 × Int32 × Int32 × (Nat → Int32) × (Nat → Int32) × (Nat → Int32)) :=
  X8_rule_J56  x_thrown x_delay x_feel x_turn x_sight x_power x_spin x_seed l1 l2 (99 : Int32)
noncomputable def X8_rule (x_thrown : Int32) (x_delay : Int32) (x_feel : Int32) (x_turn : Int32) (x_sight : Int32) (x_power : Nat → Int32) (x_spin : Nat → Int32) (x_seed : Nat → Int32) (p1 : Int32) (p2 : Int32) : Option (Int32 × Int32 × Int32 × Int32 × Int32 × Int32 × (Nat → Int32) × (Nat → Int32) × (Nat → Int32)) :=
  bd (X8_in (Int32.toInt64 p1) (0 : Int64) (6 : Int64)) fun r11 => if r11 = (0 : Int32) then (some ((-2 : Int32), (0 : Int32), x_delay, x_feel, x_turn, x_sight, x_power, x_spin, x_seed)) else (if p1 = (0 : Int32) then (X8_rule_J56  (0 : Int32) x_delay x_feel x_turn x_sight x_power x_spin x_seed p1 p2 (5 : Int32)) else (if p1 = (2 : Int32) then (X8_rule_J56  (0 : Int32) x_delay x_feel x_turn x_sight x_power x_spin x_seed p1 p2 (999 : Int32)) else (if p1 = (4 : Int32) then (X8_rule_J49  (0 : Int32) x_delay x_feel x_turn x_sight x_power x_spin x_seed p1 p2) else (if p1 = (5 : Int32) then (X8_rule_J49  (0 : Int32) x_delay x_feel x_turn x_sight x_power x_spin x_seed p1 p2) else (X8_rule_J56  (0 : Int32) x_delay x_feel x_turn x_sight x_power x_spin x_seed p1 p2 (9 : Int32))))))
abbrev wd_X8_rule (cy : Nat → ClassId) (o_t : Nat → Nat) (x_thrown : Int32) (x_delay : Int32) (x_feel : Int32) (x_turn : Int32) (x_sight : Int32) (x_ball : Int32) (x_w : Int32) (x_h : Int32) (x_n : Int32) (x_players : Int32) (x_power : Nat → Int32) (x_spin : Nat → Int32) (x_seed : Nat → Int32) : va_W := [(o_t 0, .inr (8, [.int x_thrown, .ref (o_t 2), .ref (o_t 3), .ref (o_t 4), .ref (o_t 5), .ref (o_t 6), .ref (o_t 7), .ref (o_t 8), .ref (o_t 9), .ref (o_t 10), .ref (o_t 11), .int x_delay, .int x_feel, .int x_turn, .int x_sight, .ref (o_t 16), .ref (o_t 17), .ref (o_t 18), .ref (o_t 19), .int x_ball, .int x_w, .int x_h, .int x_n, .ref (o_t 24), .ref (o_t 25), .ref (o_t 26), .ref (o_t 27), .ref (o_t 28), .ref (o_t 29), .int x_players, .ref (o_t 31), .ref (o_t 32), .ref (o_t 33), .ref (o_t 34), .ref (o_t 35), .ref (o_t 36)])), (o_t 5, .inl (cy 0, 5, .inl x_power)), (o_t 6, .inl (cy 0, 5, .inl x_spin)), (o_t 7, .inl (cy 0, 5, .inl x_seed))]
set_option maxHeartbeats 4000000 in
set_option maxRecDepth 100000 in
theorem w_X8_rule {p : Program} {l : Launch} {e : Env} {s : State} {m : MethodId} {args : Array Value} {below : List Frame} {meth : Method} {c : Code} {Q : State → Prop} {A : Nat → Prop} {H : Heap} {locs : List Loc} {ls : Array Slot} (D : va_G) (cy : Nat → ClassId) (t : Nat → Nat) (o_t : Nat → Nat) (x_thrown : Int32) (x_delay : Int32) (x_feel : Int32) (x_turn : Int32) (x_sight : Int32) (x_ball : Int32) (x_w : Int32) (x_h : Int32) (x_n : Int32) (x_players : Int32) (x_power : Nat → Int32) (x_spin : Nat → Int32) (x_seed : Nat → Int32) (p1 : Int32) (p2 : Int32) {out : Int32 × Int32 × Int32 × Int32 × Int32 × Int32 × (Nat → Int32) × (Nat → Int32) × (Nat → Int32)} (hf : X8_rule x_thrown x_delay x_feel x_turn x_sight x_power x_spin x_seed p1 p2 = some out) (hx : p.tables.exec = Jvm.exec) (hb : c.code = cX8_rule) (hml : c.maxLocals = 5) (hown : s.vm.findClass RX8 = some m.cls) (hts : ∀ w ∈ wsX8_rule, w.before args s = true) (hK : va_K D vwCl (TYS cy) s) (hE : EV t A s s.heap) (hA : ∀ q, s.heap.size ≤ q → A q) (hP : va_P D vwCl (wd_X8_rule cy o_t x_thrown x_delay x_feel x_turn x_sight x_ball x_w x_h x_n x_players x_power x_spin x_seed) H) (hD : va_D A (wd_X8_rule cy o_t x_thrown x_delay x_feel x_turn x_sight x_ball x_w x_h x_n x_players x_power x_spin x_seed)) (hS : va_S A s.heap H locs) (hl : lv_has ls 5 [(0, .ref (o_t 0)), (1, .int p1), (2, .int p2)]) (hR : ∀ (H : Heap) (locs : List Loc) (ls : Array Slot) (pc : Nat), va_P D vwCl (wd_X8_rule cy o_t out.2.1 out.2.2.1 out.2.2.2.1 out.2.2.2.2.1 out.2.2.2.2.2.1 x_ball x_w x_h x_n x_players out.2.2.2.2.2.2.1 out.2.2.2.2.2.2.2.1 out.2.2.2.2.2.2.2.2) H → va_D A (wd_X8_rule cy o_t out.2.1 out.2.2.1 out.2.2.2.1 out.2.2.2.2.1 out.2.2.2.2.2.1 x_ball x_w x_h x_n x_players out.2.2.2.2.2.2.1 out.2.2.2.2.2.2.2.1 out.2.2.2.2.2.2.2.2) → va_S A s.heap H locs → decode cX8_rule pc = .ok (.ireturn, 1) → W p l e (rmm 1 25) s m args below meth c H locs 0 0 Q (F0 m pc ls [.int out.1])) : W p l e (rmm 1 25) s m args below meth c H locs 0 0 Q (F0 m 0 ls []) := by
  have k0 := hts (.fieldLink RX8 100 "SeaGamesModel" "thrown" "I") (List.mem_cons_of_mem _ (List.mem_append_left _ (List.mem_of_getElem? (i := 0) rfl)))
  have k1 : ∀ w ∈ u_ws RX8 TX8 36, w ∈ wsX8_rule := fun _ h => List.mem_cons_of_mem _ (List.mem_append_right _ h)
  have k2 := hts (.constantLong RX8 115 (6)) (List.mem_cons_of_mem _ (List.mem_append_left _ (List.mem_of_getElem? (i := 1) rfl)))
  have k3 := hts (.fieldLink RX8 19 "SeaGamesModel" "power" "[I") (List.mem_cons_of_mem _ (List.mem_append_left _ (List.mem_of_getElem? (i := 2) rfl)))
  have k4 := hts (.fieldLink RX8 22 "SeaGamesModel" "spin" "[I") (List.mem_cons_of_mem _ (List.mem_append_left _ (List.mem_of_getElem? (i := 3) rfl)))
  have k5 := hts (.fieldLink RX8 25 "SeaGamesModel" "seed" "[I") (List.mem_cons_of_mem _ (List.mem_append_left _ (List.mem_of_getElem? (i := 4) rfl)))
  have k6 := hts (.fieldLink RX8 117 "SeaGamesModel" "delay" "I") (List.mem_cons_of_mem _ (List.mem_append_left _ (List.mem_of_getElem? (i := 5) rfl)))
  have k7 := hts (.fieldLink RX8 41 "SeaGamesModel" "feel" "I") (List.mem_cons_of_mem _ (List.mem_append_left _ (List.mem_of_getElem? (i := 6) rfl)))
  have k8 := hts (.fieldLink RX8 45 "SeaGamesModel" "turn" "I") (List.mem_cons_of_mem _ (List.mem_append_left _ (List.mem_of_getElem? (i := 7) rfl)))
  have k9 := hts (.fieldLink RX8 48 "SeaGamesModel" "sight" "I") (List.mem_cons_of_mem _ (List.mem_append_left _ (List.mem_of_getElem? (i := 8) rfl)))
  rw [X8_rule] at hf
  refine lv_aload_n hx hb dX8_rule_0 rfl (lv_at hl 0 rfl) ?_
  refine lv_iconst (v := (0 : Int32)) hx hb dX8_rule_1 (by decide) ?_
  refine va_put (D := D) (ci := 8) (v := .int (0 : Int32)) (ty := .int) (C := RX8) (T := TX8) (N := 36) hx hb hts k1 tyX8 tyX8_ok nmX8 hown hK hP hD hS 0 rfl rfl 0 (by decide) k0 (fun _ h9 => h9) rfl (by decide +kernel) rfl rfl (Nat.le_of_ble_eq_true rfl) dX8_rule_2 (fun H locs hP hD hS => ?_)
  have hP : va_P D vwCl (wd_X8_rule cy o_t (0 : Int32) x_delay x_feel x_turn x_sight x_ball x_w x_h x_n x_players x_power x_spin x_seed) H := hP
  have hD : va_D A (wd_X8_rule cy o_t (0 : Int32) x_delay x_feel x_turn x_sight x_ball x_w x_h x_n x_players x_power x_spin x_seed) := hD
  refine lv_iload_n hx hb dX8_rule_5 rfl (lv_at hl 1 rfl) ?_
  refine lv_i2l (v := (Int32.toInt64 p1)) hx hb dX8_rule_6 rfl ?_
  refine lv_lconst (v := (0 : Int64)) hx hb dX8_rule_7 (by decide) ?_
  refine lv_ldc2 (v := (6 : Int64)) hx hb hown k2 dX8_rule_8 ?_
  obtain ⟨r11, hr11, hf⟩ := bd_s hf
  refine my_Si (WS2 := (wd_X8_rule cy o_t (0 : Int32) x_delay x_feel x_turn x_sight x_ball x_w x_h x_n x_players x_power x_spin x_seed)) ⟨hx, hb, hml, hown, hts⟩ (c_X8_in l D cy t (Int32.toInt64 p1) (0 : Int64) (6 : Int64) hr11) (va_cwS 3 hts gX8_rule_X8_in rfl rfl rfl hd_X8_in ⟨Nat.le_of_ble_eq_true rfl, Nat.le_of_ble_eq_true rfl⟩) hK hE hP hD hS hA [] 4 rfl rfl (by decide +kernel) rfl rfl hl.1 rfl (Nat.le_of_ble_eq_true rfl) dX8_rule_11 ⟨Nat.le_of_ble_eq_true rfl, Nat.le_of_ble_eq_true rfl⟩ (fun H locs hP hD hS => ?_)
  refine lv_if_ne (tgt := 20) hx hb dX8_rule_14 (by decide) (fun c14 => ?_) (fun c14 => ?_)
  · have hf := ifn c14 hf
    have h56 : ∀ (x_thrown : Int32) (x_delay : Int32) (x_feel : Int32) (x_turn : Int32) (x_sight : Int32) (x_power : Nat → Int32) (x_spin : Nat → Int32) (x_seed : Nat → Int32) (l1 : Int32) (l2 : Int32) (s0 : Int32) (H : Heap) (locs : List Loc) (ls : Array Slot), X8_rule_J56 x_thrown x_delay x_feel x_turn x_sight x_power x_spin x_seed l1 l2 s0 = some out → va_P D vwCl (wd_X8_rule cy o_t x_thrown x_delay x_feel x_turn x_sight x_ball x_w x_h x_n x_players x_power x_spin x_seed) H → va_D A (wd_X8_rule cy o_t x_thrown x_delay x_feel x_turn x_sight x_ball x_w x_h x_n x_players x_power x_spin x_seed) → va_S A s.heap H locs → lv_has ls 5 [(0, .ref (o_t 0)), (1, .int l1), (2, .int l2)] → W p l e (rmm 1 25) s m args below meth c H locs 0 0 Q (F0 m 56 ls [.int s0]) := by
      intro x_thrown x_delay x_feel x_turn x_sight x_power x_spin x_seed l1 l2 s0 H locs ls hf hP hD hS hl
      rw [X8_rule_J56] at hf
      have h68 : ∀ (x_thrown : Int32) (x_delay : Int32) (x_feel : Int32) (x_turn : Int32) (x_sight : Int32) (x_power : Nat → Int32) (x_spin : Nat → Int32) (x_seed : Nat → Int32) (l1 : Int32) (l2 : Int32) (l3 : Int32) (s0 : Int64) (s1 : Int64) (H : Heap) (locs : List Loc) (ls : Array Slot), X8_rule_J68 x_thrown x_delay x_feel x_turn x_sight x_power x_spin x_seed l1 l2 l3 s0 s1 = some out → va_P D vwCl (wd_X8_rule cy o_t x_thrown x_delay x_feel x_turn x_sight x_ball x_w x_h x_n x_players x_power x_spin x_seed) H → va_D A (wd_X8_rule cy o_t x_thrown x_delay x_feel x_turn x_sight x_ball x_w x_h x_n x_players x_power x_spin x_seed) → va_S A s.heap H locs → lv_has ls 5 [(0, .ref (o_t 0)), (1, .int l1), (2, .int l2), (3, .int l3)] → W p l e (rmm 1 25) s m args below meth c H locs 0 0 Q (F0 m 68 ls [.long s1, .long s0]) := by
        intro x_thrown x_delay x_feel x_turn x_sight x_power x_spin x_seed l1 l2 l3 s0 s1 H locs ls hf hP hD hS hl
        rw [X8_rule_J68] at hf
        refine lv_iload_n hx hb dX8_rule_68 rfl (lv_at hl 3 rfl) ?_
        refine lv_i2l (v := (Int32.toInt64 l3)) hx hb dX8_rule_69 rfl ?_
        obtain ⟨r70, hr70, hf⟩ := bd_s hf
        refine my_Si (WS2 := (wd_X8_rule cy o_t x_thrown x_delay x_feel x_turn x_sight x_ball x_w x_h x_n x_players x_power x_spin x_seed)) ⟨hx, hb, hml, hown, hts⟩ (c_X8_in l D cy t s0 s1 (Int32.toInt64 l3) hr70) (va_cwS 3 hts gX8_rule_X8_in rfl rfl rfl hd_X8_in ⟨Nat.le_of_ble_eq_true rfl, Nat.le_of_ble_eq_true rfl⟩) hK hE hP hD hS hA [] 4 rfl rfl (by decide +kernel) rfl rfl hl.1 rfl (Nat.le_of_ble_eq_true rfl) dX8_rule_70 ⟨Nat.le_of_ble_eq_true rfl, Nat.le_of_ble_eq_true rfl⟩ (fun H locs hP hD hS => ?_)
        refine lv_if_ne (tgt := 79) hx hb dX8_rule_73 (by decide) (fun c73 => ?_) (fun c73 => ?_)
        · have hf := ifn c73 hf
          refine lv_iconst (v := (0 : Int32)) hx hb dX8_rule_79 (by decide) ?_
          refine lv_istore (lv' := [(4, .int (0 : Int32)), (0, .ref (o_t 0)), (1, .int l1), (2, .int l2), (3, .int l3)]) hx hb dX8_rule_80 hl (by decide) rfl (fun ls hl => ?_)
          refine lv_iload_n hx hb dX8_rule_82 rfl (lv_at hl 2 rfl) ?_
          by_cases c83_0 : l1 = (0 : Int32)
          · have hf := ifp c83_0 hf
            refine lv_tableIn (tgt := 120) hx hb dX8_rule_83 (by rw [c83_0]; decide) (by rw [c83_0]; decide) (by rw [c83_0]; rfl) (by decide) ?_
            refine lv_aload_n hx hb dX8_rule_120 rfl (lv_at hl 1 rfl) ?_
            refine va_get (D := D) (ci := 8) (v := .ref (o_t 5)) (C := RX8) (T := TX8) (N := 36) hx hb hts k1 hown hK hP 0 rfl rfl 4 (by decide) k3 (fun _ h9 => h9) rfl dX8_rule_121 ?_
            refine lv_iconst (v := (4 : Int32)) hx hb dX8_rule_124 (by decide) ?_
            obtain ⟨v125, b125, ev125, hf⟩ := rd_s hf
            refine my_iald hx hb hK hP 1 rfl b125 ev125 dX8_rule_125 ?_
            refine lv_istore (lv' := [(4, .int v125), (0, .ref (o_t 0)), (1, .int l1), (2, .int l2), (3, .int l3)]) hx hb dX8_rule_126 hl (by decide) rfl (fun ls hl => ?_)
            refine lv_aload_n hx hb dX8_rule_128 rfl (lv_at hl 1 rfl) ?_
            refine va_get (D := D) (ci := 8) (v := .ref (o_t 5)) (C := RX8) (T := TX8) (N := 36) hx hb hts k1 hown hK hP 0 rfl rfl 4 (by decide) k3 (fun _ h9 => h9) rfl dX8_rule_129 ?_
            refine lv_iconst (v := (4 : Int32)) hx hb dX8_rule_132 (by decide) ?_
            refine lv_iload_n hx hb dX8_rule_133 rfl (lv_at hl 3 rfl) ?_
            obtain ⟨w134, b134, ew134, hf⟩ := wrI_s hf
            refine my_iast (ws2 := (wd_X8_rule cy o_t x_thrown x_delay x_feel x_turn x_sight x_ball x_w x_h x_n x_players w134 x_spin x_seed)) hx hb hK hP hD hS 1 rfl b134 ew134 rfl dX8_rule_134 (fun H locs hP hD hS => ?_)
            refine lv_goto (tgt := 227) hx hb dX8_rule_135 (by decide) ?_
            refine lv_iload hx hb dX8_rule_227 (lv_at hl 0 rfl) ?_
            obtain rfl := Option.some.inj hf
            exact hR _ _ _ _ hP hD hS dX8_rule_229
          have hf := ifn c83_0 hf
          by_cases c83_1 : l1 = (1 : Int32)
          · have hf := ifp c83_1 hf
            refine lv_tableIn (tgt := 138) hx hb dX8_rule_83 (by rw [c83_1]; decide) (by rw [c83_1]; decide) (by rw [c83_1]; rfl) (by decide) ?_
            refine lv_aload_n hx hb dX8_rule_138 rfl (lv_at hl 1 rfl) ?_
            refine va_get (D := D) (ci := 8) (v := .ref (o_t 6)) (C := RX8) (T := TX8) (N := 36) hx hb hts k1 hown hK hP 0 rfl rfl 5 (by decide) k4 (fun _ h9 => h9) rfl dX8_rule_139 ?_
            refine lv_iconst (v := (4 : Int32)) hx hb dX8_rule_142 (by decide) ?_
            obtain ⟨v143, b143, ev143, hf⟩ := rd_s hf
            refine my_iald hx hb hK hP 2 rfl b143 ev143 dX8_rule_143 ?_
            refine lv_istore (lv' := [(4, .int v143), (0, .ref (o_t 0)), (1, .int l1), (2, .int l2), (3, .int l3)]) hx hb dX8_rule_144 hl (by decide) rfl (fun ls hl => ?_)
            refine lv_aload_n hx hb dX8_rule_146 rfl (lv_at hl 1 rfl) ?_
            refine va_get (D := D) (ci := 8) (v := .ref (o_t 6)) (C := RX8) (T := TX8) (N := 36) hx hb hts k1 hown hK hP 0 rfl rfl 5 (by decide) k4 (fun _ h9 => h9) rfl dX8_rule_147 ?_
            refine lv_iconst (v := (4 : Int32)) hx hb dX8_rule_150 (by decide) ?_
            refine lv_iload_n hx hb dX8_rule_151 rfl (lv_at hl 3 rfl) ?_
            obtain ⟨w152, b152, ew152, hf⟩ := wrI_s hf
            refine my_iast (ws2 := (wd_X8_rule cy o_t x_thrown x_delay x_feel x_turn x_sight x_ball x_w x_h x_n x_players x_power w152 x_seed)) hx hb hK hP hD hS 2 rfl b152 ew152 rfl dX8_rule_152 (fun H locs hP hD hS => ?_)
            refine lv_goto (tgt := 227) hx hb dX8_rule_153 (by decide) ?_
            refine lv_iload hx hb dX8_rule_227 (lv_at hl 0 rfl) ?_
            obtain rfl := Option.some.inj hf
            exact hR _ _ _ _ hP hD hS dX8_rule_229
          have hf := ifn c83_1 hf
          by_cases c83_2 : l1 = (2 : Int32)
          · have hf := ifp c83_2 hf
            refine lv_tableIn (tgt := 156) hx hb dX8_rule_83 (by rw [c83_2]; decide) (by rw [c83_2]; decide) (by rw [c83_2]; rfl) (by decide) ?_
            refine lv_aload_n hx hb dX8_rule_156 rfl (lv_at hl 1 rfl) ?_
            refine va_get (D := D) (ci := 8) (v := .ref (o_t 7)) (C := RX8) (T := TX8) (N := 36) hx hb hts k1 hown hK hP 0 rfl rfl 6 (by decide) k5 (fun _ h9 => h9) rfl dX8_rule_157 ?_
            refine lv_iconst (v := (4 : Int32)) hx hb dX8_rule_160 (by decide) ?_
            obtain ⟨v161, b161, ev161, hf⟩ := rd_s hf
            refine my_iald hx hb hK hP 3 rfl b161 ev161 dX8_rule_161 ?_
            refine lv_istore (lv' := [(4, .int v161), (0, .ref (o_t 0)), (1, .int l1), (2, .int l2), (3, .int l3)]) hx hb dX8_rule_162 hl (by decide) rfl (fun ls hl => ?_)
            refine lv_aload_n hx hb dX8_rule_164 rfl (lv_at hl 1 rfl) ?_
            refine va_get (D := D) (ci := 8) (v := .ref (o_t 7)) (C := RX8) (T := TX8) (N := 36) hx hb hts k1 hown hK hP 0 rfl rfl 6 (by decide) k5 (fun _ h9 => h9) rfl dX8_rule_165 ?_
            refine lv_iconst (v := (4 : Int32)) hx hb dX8_rule_168 (by decide) ?_
            refine lv_iload_n hx hb dX8_rule_169 rfl (lv_at hl 3 rfl) ?_
            obtain ⟨w170, b170, ew170, hf⟩ := wrI_s hf
            refine my_iast (ws2 := (wd_X8_rule cy o_t x_thrown x_delay x_feel x_turn x_sight x_ball x_w x_h x_n x_players x_power x_spin w170)) hx hb hK hP hD hS 3 rfl b170 ew170 rfl dX8_rule_170 (fun H locs hP hD hS => ?_)
            refine lv_goto (tgt := 227) hx hb dX8_rule_171 (by decide) ?_
            refine lv_iload hx hb dX8_rule_227 (lv_at hl 0 rfl) ?_
            obtain rfl := Option.some.inj hf
            exact hR _ _ _ _ hP hD hS dX8_rule_229
          have hf := ifn c83_2 hf
          by_cases c83_3 : l1 = (3 : Int32)
          · have hf := ifp c83_3 hf
            refine lv_tableIn (tgt := 174) hx hb dX8_rule_83 (by rw [c83_3]; decide) (by rw [c83_3]; decide) (by rw [c83_3]; rfl) (by decide) ?_
            refine lv_aload_n hx hb dX8_rule_174 rfl (lv_at hl 1 rfl) ?_
            refine va_get (D := D) (ci := 8) (v := .int x_delay) (C := RX8) (T := TX8) (N := 36) hx hb hts k1 hown hK hP 0 rfl rfl 11 (by decide) k6 (fun _ h9 => h9) rfl dX8_rule_175 ?_
            refine lv_istore (lv' := [(4, .int x_delay), (0, .ref (o_t 0)), (1, .int l1), (2, .int l2), (3, .int l3)]) hx hb dX8_rule_178 hl (by decide) rfl (fun ls hl => ?_)
            refine lv_aload_n hx hb dX8_rule_180 rfl (lv_at hl 1 rfl) ?_
            refine lv_iload_n hx hb dX8_rule_181 rfl (lv_at hl 3 rfl) ?_
            refine va_put (D := D) (ci := 8) (v := .int l2) (ty := .int) (C := RX8) (T := TX8) (N := 36) hx hb hts k1 tyX8 tyX8_ok nmX8 hown hK hP hD hS 0 rfl rfl 11 (by decide) k6 (fun _ h9 => h9) rfl (by decide +kernel) rfl rfl (Nat.le_of_ble_eq_true rfl) dX8_rule_182 (fun H locs hP hD hS => ?_)
            have hP : va_P D vwCl (wd_X8_rule cy o_t x_thrown l2 x_feel x_turn x_sight x_ball x_w x_h x_n x_players x_power x_spin x_seed) H := hP
            have hD : va_D A (wd_X8_rule cy o_t x_thrown l2 x_feel x_turn x_sight x_ball x_w x_h x_n x_players x_power x_spin x_seed) := hD
            refine lv_goto (tgt := 227) hx hb dX8_rule_185 (by decide) ?_
            refine lv_iload hx hb dX8_rule_227 (lv_at hl 0 rfl) ?_
            obtain rfl := Option.some.inj hf
            exact hR _ _ _ _ hP hD hS dX8_rule_229
          have hf := ifn c83_3 hf
          by_cases c83_4 : l1 = (4 : Int32)
          · have hf := ifp c83_4 hf
            refine lv_tableIn (tgt := 188) hx hb dX8_rule_83 (by rw [c83_4]; decide) (by rw [c83_4]; decide) (by rw [c83_4]; rfl) (by decide) ?_
            refine lv_aload_n hx hb dX8_rule_188 rfl (lv_at hl 1 rfl) ?_
            refine va_get (D := D) (ci := 8) (v := .int x_feel) (C := RX8) (T := TX8) (N := 36) hx hb hts k1 hown hK hP 0 rfl rfl 12 (by decide) k7 (fun _ h9 => h9) rfl dX8_rule_189 ?_
            refine lv_istore (lv' := [(4, .int x_feel), (0, .ref (o_t 0)), (1, .int l1), (2, .int l2), (3, .int l3)]) hx hb dX8_rule_192 hl (by decide) rfl (fun ls hl => ?_)
            refine lv_aload_n hx hb dX8_rule_194 rfl (lv_at hl 1 rfl) ?_
            refine lv_iload_n hx hb dX8_rule_195 rfl (lv_at hl 3 rfl) ?_
            refine va_put (D := D) (ci := 8) (v := .int l2) (ty := .int) (C := RX8) (T := TX8) (N := 36) hx hb hts k1 tyX8 tyX8_ok nmX8 hown hK hP hD hS 0 rfl rfl 12 (by decide) k7 (fun _ h9 => h9) rfl (by decide +kernel) rfl rfl (Nat.le_of_ble_eq_true rfl) dX8_rule_196 (fun H locs hP hD hS => ?_)
            have hP : va_P D vwCl (wd_X8_rule cy o_t x_thrown x_delay l2 x_turn x_sight x_ball x_w x_h x_n x_players x_power x_spin x_seed) H := hP
            have hD : va_D A (wd_X8_rule cy o_t x_thrown x_delay l2 x_turn x_sight x_ball x_w x_h x_n x_players x_power x_spin x_seed) := hD
            refine lv_goto (tgt := 227) hx hb dX8_rule_199 (by decide) ?_
            refine lv_iload hx hb dX8_rule_227 (lv_at hl 0 rfl) ?_
            obtain rfl := Option.some.inj hf
            exact hR _ _ _ _ hP hD hS dX8_rule_229
          have hf := ifn c83_4 hf
          by_cases c83_5 : l1 = (5 : Int32)
          · have hf := ifp c83_5 hf
            refine lv_tableIn (tgt := 202) hx hb dX8_rule_83 (by rw [c83_5]; decide) (by rw [c83_5]; decide) (by rw [c83_5]; rfl) (by decide) ?_
            refine lv_aload_n hx hb dX8_rule_202 rfl (lv_at hl 1 rfl) ?_
            refine va_get (D := D) (ci := 8) (v := .int x_turn) (C := RX8) (T := TX8) (N := 36) hx hb hts k1 hown hK hP 0 rfl rfl 13 (by decide) k8 (fun _ h9 => h9) rfl dX8_rule_203 ?_
            refine lv_istore (lv' := [(4, .int x_turn), (0, .ref (o_t 0)), (1, .int l1), (2, .int l2), (3, .int l3)]) hx hb dX8_rule_206 hl (by decide) rfl (fun ls hl => ?_)
            refine lv_aload_n hx hb dX8_rule_208 rfl (lv_at hl 1 rfl) ?_
            refine lv_iload_n hx hb dX8_rule_209 rfl (lv_at hl 3 rfl) ?_
            refine va_put (D := D) (ci := 8) (v := .int l2) (ty := .int) (C := RX8) (T := TX8) (N := 36) hx hb hts k1 tyX8 tyX8_ok nmX8 hown hK hP hD hS 0 rfl rfl 13 (by decide) k8 (fun _ h9 => h9) rfl (by decide +kernel) rfl rfl (Nat.le_of_ble_eq_true rfl) dX8_rule_210 (fun H locs hP hD hS => ?_)
            have hP : va_P D vwCl (wd_X8_rule cy o_t x_thrown x_delay x_feel l2 x_sight x_ball x_w x_h x_n x_players x_power x_spin x_seed) H := hP
            have hD : va_D A (wd_X8_rule cy o_t x_thrown x_delay x_feel l2 x_sight x_ball x_w x_h x_n x_players x_power x_spin x_seed) := hD
            refine lv_goto (tgt := 227) hx hb dX8_rule_213 (by decide) ?_
            refine lv_iload hx hb dX8_rule_227 (lv_at hl 0 rfl) ?_
            obtain rfl := Option.some.inj hf
            exact hR _ _ _ _ hP hD hS dX8_rule_229
          have hf := ifn c83_5 hf
          have e83_0 := ne_ti c83_0
          have e83_1 := ne_ti c83_1
          have e83_2 := ne_ti c83_2
          have e83_3 := ne_ti c83_3
          have e83_4 := ne_ti c83_4
          have e83_5 := ne_ti c83_5
          refine lv_tableOut (tgt := 216) hx hb dX8_rule_83 (by have q0 : ((0 : Int32)).toInt = 0 := rfl; have q1 : ((1 : Int32)).toInt = 1 := rfl; have q2 : ((2 : Int32)).toInt = 2 := rfl; have q3 : ((3 : Int32)).toInt = 3 := rfl; have q4 : ((4 : Int32)).toInt = 4 := rfl; have q5 : ((5 : Int32)).toInt = 5 := rfl; omega) (by decide) ?_
          refine lv_aload_n hx hb dX8_rule_216 rfl (lv_at hl 1 rfl) ?_
          refine va_get (D := D) (ci := 8) (v := .int x_sight) (C := RX8) (T := TX8) (N := 36) hx hb hts k1 hown hK hP 0 rfl rfl 14 (by decide) k9 (fun _ h9 => h9) rfl dX8_rule_217 ?_
          refine lv_istore (lv' := [(4, .int x_sight), (0, .ref (o_t 0)), (1, .int l1), (2, .int l2), (3, .int l3)]) hx hb dX8_rule_220 hl (by decide) rfl (fun ls hl => ?_)
          refine lv_aload_n hx hb dX8_rule_222 rfl (lv_at hl 1 rfl) ?_
          refine lv_iload_n hx hb dX8_rule_223 rfl (lv_at hl 3 rfl) ?_
          refine va_put (D := D) (ci := 8) (v := .int l2) (ty := .int) (C := RX8) (T := TX8) (N := 36) hx hb hts k1 tyX8 tyX8_ok nmX8 hown hK hP hD hS 0 rfl rfl 14 (by decide) k9 (fun _ h9 => h9) rfl (by decide +kernel) rfl rfl (Nat.le_of_ble_eq_true rfl) dX8_rule_224 (fun H locs hP hD hS => ?_)
          have hP : va_P D vwCl (wd_X8_rule cy o_t x_thrown x_delay x_feel x_turn l2 x_ball x_w x_h x_n x_players x_power x_spin x_seed) H := hP
          have hD : va_D A (wd_X8_rule cy o_t x_thrown x_delay x_feel x_turn l2 x_ball x_w x_h x_n x_players x_power x_spin x_seed) := hD
          refine lv_iload hx hb dX8_rule_227 (lv_at hl 0 rfl) ?_
          obtain rfl := Option.some.inj hf
          exact hR _ _ _ _ hP hD hS dX8_rule_229
        · have hf := ifp c73 hf
          refine lv_bipush (v := (-2 : Int32)) hx hb dX8_rule_76 (by decide) ?_
          obtain rfl := Option.some.inj hf
          exact hR _ _ _ _ hP hD hS dX8_rule_78
      refine lv_istore_n (lv' := [(3, .int s0), (0, .ref (o_t 0)), (1, .int l1), (2, .int l2)]) hx hb dX8_rule_56 rfl hl (by decide) rfl (fun ls hl => ?_)
      refine lv_iload_n hx hb dX8_rule_57 rfl (lv_at hl 3 rfl) ?_
      refine lv_i2l (v := (Int32.toInt64 l2)) hx hb dX8_rule_58 rfl ?_
      refine lv_iload_n hx hb dX8_rule_59 rfl (lv_at hl 2 rfl) ?_
      refine lv_if_ne (tgt := 67) hx hb dX8_rule_60 (by decide) (fun c60 => ?_) (fun c60 => ?_)
      · have hf := ifn c60 hf
        refine lv_lconst (v := (0 : Int64)) hx hb dX8_rule_67 (by decide) ?_
        exact h68 _ _ _ _ _ _ _ _ _ _ _ _ _ _ _ _ hf hP hD hS (lv_sub hl [1, 2, 3, 0] rfl)
      · have hf := ifp c60 hf
        refine lv_lconst (v := (1 : Int64)) hx hb dX8_rule_63 (by decide) ?_
        refine lv_goto (tgt := 68) hx hb dX8_rule_64 (by decide) ?_
        exact h68 _ _ _ _ _ _ _ _ _ _ _ _ _ _ _ _ hf hP hD hS (lv_sub hl [1, 2, 3, 0] rfl)
    refine lv_iload_n hx hb dX8_rule_20 rfl (lv_at hl 1 rfl) ?_
    refine lv_if_ne (tgt := 28) hx hb dX8_rule_21 (by decide) (fun c21 => ?_) (fun c21 => ?_)
    · have hf := ifn c21 hf
      refine lv_iload_n hx hb dX8_rule_28 rfl (lv_at hl 1 rfl) ?_
      refine lv_iconst (v := (2 : Int32)) hx hb dX8_rule_29 (by decide) ?_
      refine lv_icmp_ne (tgt := 39) hx hb dX8_rule_30 (by decide) (fun c30 => ?_) (fun c30 => ?_)
      · have hf := ifn c30 hf
        have h49 : ∀ (x_thrown : Int32) (x_delay : Int32) (x_feel : Int32) (x_turn : Int32) (x_sight : Int32) (x_power : Nat → Int32) (x_spin : Nat → Int32) (x_seed : Nat → Int32) (l1 : Int32) (l2 : Int32) (H : Heap) (locs : List Loc) (ls : Array Slot), X8_rule_J49 x_thrown x_delay x_feel x_turn x_sight x_power x_spin x_seed l1 l2 = some out → va_P D vwCl (wd_X8_rule cy o_t x_thrown x_delay x_feel x_turn x_sight x_ball x_w x_h x_n x_players x_power x_spin x_seed) H → va_D A (wd_X8_rule cy o_t x_thrown x_delay x_feel x_turn x_sight x_ball x_w x_h x_n x_players x_power x_spin x_seed) → va_S A s.heap H locs → lv_has ls 5 [(0, .ref (o_t 0)), (1, .int l1), (2, .int l2)] → W p l e (rmm 1 25) s m args below meth c H locs 0 0 Q (F0 m 49 ls []) := by
          intro x_thrown x_delay x_feel x_turn x_sight x_power x_spin x_seed l1 l2 H locs ls hf hP hD hS hl
          rw [X8_rule_J49] at hf
          refine lv_bipush (v := (99 : Int32)) hx hb dX8_rule_49 (by decide) ?_
          refine lv_goto (tgt := 56) hx hb dX8_rule_51 (by decide) ?_
          exact h56 _ _ _ _ _ _ _ _ _ _ _ _ _ _ hf hP hD hS (lv_sub hl [0, 1, 2] rfl)
        refine lv_iload_n hx hb dX8_rule_39 rfl (lv_at hl 1 rfl) ?_
        refine lv_iconst (v := (4 : Int32)) hx hb dX8_rule_40 (by decide) ?_
        refine lv_icmp_eq (tgt := 49) hx hb dX8_rule_41 (by decide) (fun c41 => ?_) (fun c41 => ?_)
        · have hf := ifp c41 hf
          exact h49 _ _ _ _ _ _ _ _ _ _ _ _ _ hf hP hD hS (lv_sub hl [0, 1, 2] rfl)
        · have hf := ifn c41 hf
          refine lv_iload_n hx hb dX8_rule_44 rfl (lv_at hl 1 rfl) ?_
          refine lv_iconst (v := (5 : Int32)) hx hb dX8_rule_45 (by decide) ?_
          refine lv_icmp_ne (tgt := 54) hx hb dX8_rule_46 (by decide) (fun c46 => ?_) (fun c46 => ?_)
          · have hf := ifn c46 hf
            refine lv_bipush (v := (9 : Int32)) hx hb dX8_rule_54 (by decide) ?_
            exact h56 _ _ _ _ _ _ _ _ _ _ _ _ _ _ hf hP hD hS (lv_sub hl [0, 1, 2] rfl)
          · have hf := ifp c46 hf
            exact h49 _ _ _ _ _ _ _ _ _ _ _ _ _ hf hP hD hS (lv_sub hl [0, 1, 2] rfl)
      · have hf := ifp c30 hf
        refine lv_sipush (v := (999 : Int32)) hx hb dX8_rule_33 (by decide) ?_
        refine lv_goto (tgt := 56) hx hb dX8_rule_36 (by decide) ?_
        exact h56 _ _ _ _ _ _ _ _ _ _ _ _ _ _ hf hP hD hS (lv_sub hl [0, 1, 2] rfl)
    · have hf := ifp c21 hf
      refine lv_iconst (v := (5 : Int32)) hx hb dX8_rule_24 (by decide) ?_
      refine lv_goto (tgt := 56) hx hb dX8_rule_25 (by decide) ?_
      exact h56 _ _ _ _ _ _ _ _ _ _ _ _ _ _ hf hP hD hS (lv_sub hl [0, 1, 2] rfl)
  · have hf := ifp c14 hf
    refine lv_bipush (v := (-2 : Int32)) hx hb dX8_rule_17 (by decide) ?_
    obtain rfl := Option.some.inj hf
    exact hR _ _ _ _ hP hD hS dX8_rule_19
theorem hd_X8_rule : yX8_rule.cls ≠ "java/lang/invoke/MethodHandle" ∧ yX8_rule.cls ≠ "java/lang/invoke/VarHandle" ∧ (parseMethodDescriptor yX8_rule.desc).map (fun d => d.parameters.length) = some 2 := by decide +kernel
set_option maxRecDepth 100000 in
theorem c_X8_rule (l : Launch) (D : va_G) (cy : Nat → ClassId) (t : Nat → Nat) (o_t : Nat → Nat) (x_thrown : Int32) (x_delay : Int32) (x_feel : Int32) (x_turn : Int32) (x_sight : Int32) (x_ball : Int32) (x_w : Int32) (x_h : Int32) (x_n : Int32) (x_players : Int32) (x_power : Nat → Int32) (x_spin : Nat → Int32) (x_seed : Nat → Int32) (p1 : Int32) (p2 : Int32) {out : Int32 × Int32 × Int32 × Int32 × Int32 × Int32 × (Nat → Int32) × (Nat → Int32) × (Nat → Int32)} (hf : X8_rule x_thrown x_delay x_feel x_turn x_sight x_power x_spin x_seed p1 p2 = some out) : ctI l yX8_rule wsX8_rule 1 25 D cy t [.ref (o_t 0), .int p1, .int p2] (wd_X8_rule cy o_t x_thrown x_delay x_feel x_turn x_sight x_ball x_w x_h x_n x_players x_power x_spin x_seed) (wd_X8_rule cy o_t out.2.1 out.2.2.1 out.2.2.2.1 out.2.2.2.2.1 out.2.2.2.2.2.1 x_ball x_w x_h x_n x_players out.2.2.2.2.2.2.1 out.2.2.2.2.2.2.2.1 out.2.2.2.2.2.2.2.2) out.1 := by
  refine ⟨rfl, ?_⟩
  intro sz
  refine Met.ofW (cc := cX8_rule) (maxL := 5) (ret := (some .int)) (by decide) rfl ?_
  intro p e s m args below meth c s₁ B hml hv
  obtain ⟨rfl, hsz, hP, hK, hD0, hE⟩ := hv
  have hts := atoms_spec (ws := wsX8_rule) B.pre
  have hown : s.vm.findClass RX8 = some m.cls := findClass_of_methodNamed B.named
  have hlocks := B.notSynchronized
  subst hsz
  have hD := hD0.self (sz := s.heap.size)
  have hl := lv_entry ([.ref (o_t 0), .int p1, .int p2]) (n := 5) (Nat.le_of_ble_eq_true rfl)
  rw [lg_entry_eq]
  generalize (lg_sl ([.ref (o_t 0), .int p1, .int p2]) ++ List.replicate (5 - (lg_sl ([.ref (o_t 0), .int p1, .int p2])).length) Slot.unset).toArray = ls at hl ⊢
  exact w_X8_rule D cy t o_t x_thrown x_delay x_feel x_turn x_sight x_ball x_w x_h x_n x_players x_power x_spin x_seed p1 p2 hf B.exec B.bytes hml hown hts hK hE (fun q h => Or.inr h) hP hD va_S.rf hl (fun H locs ls pc hP hD hS hdg => W.iret B.exec B.bytes B.returns (fun t ht hW => ⟨⟨_, (), rfl, rfl, ctB_of ht hP⟩, hS.F ht⟩) hS.2.2 hdg)

noncomputable def X8_noHand (x_hands : Nat → Int32) (p1 : Int32) : Option (Int32) :=
  rd x_hands 5 (4 : Int32) fun v8 => bd (X8_in (Int32.toInt64 p1) (0 : Int64) (Int32.toInt64 (v8 - (1 : Int32)))) fun r12 => if r12 = (0 : Int32) then (zb (1 : Int32) <| some (1 : Int32)) else (zb (0 : Int32) <| some (0 : Int32))
abbrev wd_X8_noHand (cy : Nat → ClassId) (o_t : Nat → Nat) (x_thrown : Int32) (x_delay : Int32) (x_feel : Int32) (x_turn : Int32) (x_sight : Int32) (x_ball : Int32) (x_w : Int32) (x_h : Int32) (x_n : Int32) (x_players : Int32) (x_hands : Nat → Int32) : va_W := [(o_t 0, .inr (8, [.int x_thrown, .ref (o_t 2), .ref (o_t 3), .ref (o_t 4), .ref (o_t 5), .ref (o_t 6), .ref (o_t 7), .ref (o_t 8), .ref (o_t 9), .ref (o_t 10), .ref (o_t 11), .int x_delay, .int x_feel, .int x_turn, .int x_sight, .ref (o_t 16), .ref (o_t 17), .ref (o_t 18), .ref (o_t 19), .int x_ball, .int x_w, .int x_h, .int x_n, .ref (o_t 24), .ref (o_t 25), .ref (o_t 26), .ref (o_t 27), .ref (o_t 28), .ref (o_t 29), .int x_players, .ref (o_t 31), .ref (o_t 32), .ref (o_t 33), .ref (o_t 34), .ref (o_t 35), .ref (o_t 36)])), (o_t 4, .inl (cy 0, 5, .inl x_hands))]
set_option maxHeartbeats 4000000 in
set_option maxRecDepth 100000 in
theorem w_X8_noHand {p : Program} {l : Launch} {e : Env} {s : State} {m : MethodId} {args : Array Value} {below : List Frame} {meth : Method} {c : Code} {Q : State → Prop} {A : Nat → Prop} {H : Heap} {locs : List Loc} {ls : Array Slot} (D : va_G) (cy : Nat → ClassId) (t : Nat → Nat) (o_t : Nat → Nat) (x_thrown : Int32) (x_delay : Int32) (x_feel : Int32) (x_turn : Int32) (x_sight : Int32) (x_ball : Int32) (x_w : Int32) (x_h : Int32) (x_n : Int32) (x_players : Int32) (x_hands : Nat → Int32) (p1 : Int32) {out : Int32} (hf : X8_noHand x_hands p1 = some out) (hx : p.tables.exec = Jvm.exec) (hb : c.code = cX8_noHand) (hml : c.maxLocals = 2) (hown : s.vm.findClass RX8 = some m.cls) (hts : ∀ w ∈ wsX8_noHand, w.before args s = true) (hK : va_K D vwCl (TYS cy) s) (hE : EV t A s s.heap) (hA : ∀ q, s.heap.size ≤ q → A q) (hP : va_P D vwCl (wd_X8_noHand cy o_t x_thrown x_delay x_feel x_turn x_sight x_ball x_w x_h x_n x_players x_hands) H) (hD : va_D A (wd_X8_noHand cy o_t x_thrown x_delay x_feel x_turn x_sight x_ball x_w x_h x_n x_players x_hands)) (hS : va_S A s.heap H locs) (hl : lv_has ls 2 [(0, .ref (o_t 0)), (1, .int p1)]) (hR : ∀ (H : Heap) (locs : List Loc) (ls : Array Slot) (pc : Nat), va_P D vwCl (wd_X8_noHand cy o_t x_thrown x_delay x_feel x_turn x_sight x_ball x_w x_h x_n x_players x_hands) H → va_D A (wd_X8_noHand cy o_t x_thrown x_delay x_feel x_turn x_sight x_ball x_w x_h x_n x_players x_hands) → va_S A s.heap H locs → narrow .boolean (.int out) = .int out → decode cX8_noHand pc = .ok (.ireturn, 1) → W p l e (rmm 1 25) s m args below meth c H locs 0 0 Q (F0 m pc ls [.int out])) : W p l e (rmm 1 25) s m args below meth c H locs 0 0 Q (F0 m 0 ls []) := by
  have k0 := hts (.fieldLink RX8 16 "SeaGamesModel" "hands" "[I") (List.mem_cons_of_mem _ (List.mem_append_left _ (List.mem_of_getElem? (i := 0) rfl)))
  have k1 : ∀ w ∈ u_ws RX8 TX8 36, w ∈ wsX8_noHand := fun _ h => List.mem_cons_of_mem _ (List.mem_append_right _ h)
  rw [X8_noHand] at hf
  refine lv_iload_n hx hb dX8_noHand_0 rfl (lv_at hl 1 rfl) ?_
  refine lv_i2l (v := (Int32.toInt64 p1)) hx hb dX8_noHand_1 rfl ?_
  refine lv_lconst (v := (0 : Int64)) hx hb dX8_noHand_2 (by decide) ?_
  refine lv_aload_n hx hb dX8_noHand_3 rfl (lv_at hl 0 rfl) ?_
  refine va_get (D := D) (ci := 8) (v := .ref (o_t 4)) (C := RX8) (T := TX8) (N := 36) hx hb hts k1 hown hK hP 0 rfl rfl 3 (by decide) k0 (fun _ h9 => h9) rfl dX8_noHand_4 ?_
  refine lv_iconst (v := (4 : Int32)) hx hb dX8_noHand_7 (by decide) ?_
  obtain ⟨v8, b8, ev8, hf⟩ := rd_s hf
  refine my_iald hx hb hK hP 1 rfl b8 ev8 dX8_noHand_8 ?_
  refine lv_iconst (v := (1 : Int32)) hx hb dX8_noHand_9 (by decide) ?_
  refine lv_isub hx hb dX8_noHand_10 ?_
  refine lv_i2l (v := (Int32.toInt64 (v8 - (1 : Int32)))) hx hb dX8_noHand_11 rfl ?_
  obtain ⟨r12, hr12, hf⟩ := bd_s hf
  refine my_Si (WS2 := (wd_X8_noHand cy o_t x_thrown x_delay x_feel x_turn x_sight x_ball x_w x_h x_n x_players x_hands)) ⟨hx, hb, hml, hown, hts⟩ (c_X8_in l D cy t (Int32.toInt64 p1) (0 : Int64) (Int32.toInt64 (v8 - (1 : Int32))) hr12) (va_cwS 3 hts gX8_noHand_X8_in rfl rfl rfl hd_X8_in ⟨Nat.le_of_ble_eq_true rfl, Nat.le_of_ble_eq_true rfl⟩) hK hE hP hD hS hA [] 2 rfl rfl (by decide +kernel) rfl rfl hl.1 rfl (Nat.le_of_ble_eq_true rfl) dX8_noHand_12 ⟨Nat.le_of_ble_eq_true rfl, Nat.le_of_ble_eq_true rfl⟩ (fun H locs hP hD hS => ?_)
  refine lv_if_ne (tgt := 22) hx hb dX8_noHand_15 (by decide) (fun c15 => ?_) (fun c15 => ?_)
  · have hf := ifn c15 hf
    refine lv_iconst (v := (0 : Int32)) hx hb dX8_noHand_22 (by decide) ?_
    obtain ⟨z23, hf⟩ := zb_s hf
    obtain rfl := Option.some.inj hf
    exact hR _ _ _ _ hP hD hS z23 dX8_noHand_23
  · have hf := ifp c15 hf
    refine lv_iconst (v := (1 : Int32)) hx hb dX8_noHand_18 (by decide) ?_
    refine lv_goto (tgt := 23) hx hb dX8_noHand_19 (by decide) ?_
    obtain ⟨z23, hf⟩ := zb_s hf
    obtain rfl := Option.some.inj hf
    exact hR _ _ _ _ hP hD hS z23 dX8_noHand_23
theorem hd_X8_noHand : yX8_noHand.cls ≠ "java/lang/invoke/MethodHandle" ∧ yX8_noHand.cls ≠ "java/lang/invoke/VarHandle" ∧ (parseMethodDescriptor yX8_noHand.desc).map (fun d => d.parameters.length) = some 1 := by decide +kernel
set_option maxRecDepth 100000 in
theorem c_X8_noHand (l : Launch) (D : va_G) (cy : Nat → ClassId) (t : Nat → Nat) (o_t : Nat → Nat) (x_thrown : Int32) (x_delay : Int32) (x_feel : Int32) (x_turn : Int32) (x_sight : Int32) (x_ball : Int32) (x_w : Int32) (x_h : Int32) (x_n : Int32) (x_players : Int32) (x_hands : Nat → Int32) (p1 : Int32) {out : Int32} (hf : X8_noHand x_hands p1 = some out) : ctI l yX8_noHand wsX8_noHand 1 25 D cy t [.ref (o_t 0), .int p1] (wd_X8_noHand cy o_t x_thrown x_delay x_feel x_turn x_sight x_ball x_w x_h x_n x_players x_hands) (wd_X8_noHand cy o_t x_thrown x_delay x_feel x_turn x_sight x_ball x_w x_h x_n x_players x_hands) out := by
  refine ⟨rfl, ?_⟩
  intro sz
  refine Met.ofW (cc := cX8_noHand) (maxL := 2) (ret := (some .boolean)) (by decide) rfl ?_
  intro p e s m args below meth c s₁ B hml hv
  obtain ⟨rfl, hsz, hP, hK, hD0, hE⟩ := hv
  have hts := atoms_spec (ws := wsX8_noHand) B.pre
  have hown : s.vm.findClass RX8 = some m.cls := findClass_of_methodNamed B.named
  have hlocks := B.notSynchronized
  subst hsz
  have hD := hD0.self (sz := s.heap.size)
  have hl := lv_entry ([.ref (o_t 0), .int p1]) (n := 2) (Nat.le_of_ble_eq_true rfl)
  rw [lg_entry_eq]
  generalize (lg_sl ([.ref (o_t 0), .int p1]) ++ List.replicate (2 - (lg_sl ([.ref (o_t 0), .int p1])).length) Slot.unset).toArray = ls at hl ⊢
  exact w_X8_noHand D cy t o_t x_thrown x_delay x_feel x_turn x_sight x_ball x_w x_h x_n x_players x_hands p1 hf B.exec B.bytes hml hown hts hK hE (fun q h => Or.inr h) hP hD va_S.rf hl (fun H locs ls pc hP hD hS z hdg => W.zret B.exec B.bytes B.returns z (fun t ht hW => ⟨⟨_, (), rfl, rfl, ctB_of ht hP⟩, hS.F ht⟩) hS.2.2 hdg)

noncomputable def X8_noTick (p0 : Int32) : Option (Int32) :=
  bd (X8_in (Int32.toInt64 p0) (0 : Int64) (99 : Int64)) fun r6 => if r6 = (0 : Int32) then (zb (1 : Int32) <| some (1 : Int32)) else (zb (0 : Int32) <| some (0 : Int32))
abbrev wd_X8_noTick (cy : Nat → ClassId) : va_W := []
set_option maxHeartbeats 4000000 in
set_option maxRecDepth 100000 in
theorem w_X8_noTick {p : Program} {l : Launch} {e : Env} {s : State} {m : MethodId} {args : Array Value} {below : List Frame} {meth : Method} {c : Code} {Q : State → Prop} {A : Nat → Prop} {H : Heap} {locs : List Loc} {ls : Array Slot} (D : va_G) (cy : Nat → ClassId) (t : Nat → Nat) (p0 : Int32) {out : Int32} (hf : X8_noTick p0 = some out) (hx : p.tables.exec = Jvm.exec) (hb : c.code = cX8_noTick) (hml : c.maxLocals = 1) (hown : s.vm.findClass RX8 = some m.cls) (hts : ∀ w ∈ wsX8_noTick, w.before args s = true) (hK : va_K D vwCl (TYS cy) s) (hE : EV t A s s.heap) (hA : ∀ q, s.heap.size ≤ q → A q) (hP : va_P D vwCl (wd_X8_noTick cy) H) (hD : va_D A (wd_X8_noTick cy)) (hS : va_S A s.heap H locs) (hl : lv_has ls 1 [(0, .int p0)]) (hR : ∀ (H : Heap) (locs : List Loc) (ls : Array Slot) (pc : Nat), va_P D vwCl (wd_X8_noTick cy) H → va_D A (wd_X8_noTick cy) → va_S A s.heap H locs → narrow .boolean (.int out) = .int out → decode cX8_noTick pc = .ok (.ireturn, 1) → W p l e (rmm 1 25) s m args below meth c H locs 0 0 Q (F0 m pc ls [.int out])) : W p l e (rmm 1 25) s m args below meth c H locs 0 0 Q (F0 m 0 ls []) := by
  have k0 := hts (.constantLong RX8 107 (99)) (List.mem_cons_of_mem _ (List.mem_of_getElem? (i := 0) rfl))
  rw [X8_noTick] at hf
  refine lv_iload_n hx hb dX8_noTick_0 rfl (lv_at hl 0 rfl) ?_
  refine lv_i2l (v := (Int32.toInt64 p0)) hx hb dX8_noTick_1 rfl ?_
  refine lv_lconst (v := (0 : Int64)) hx hb dX8_noTick_2 (by decide) ?_
  refine lv_ldc2 (v := (99 : Int64)) hx hb hown k0 dX8_noTick_3 ?_
  obtain ⟨r6, hr6, hf⟩ := bd_s hf
  refine my_Si (WS2 := (wd_X8_noTick cy)) ⟨hx, hb, hml, hown, hts⟩ (c_X8_in l D cy t (Int32.toInt64 p0) (0 : Int64) (99 : Int64) hr6) (va_cwS 3 hts gX8_noTick_X8_in rfl rfl rfl hd_X8_in ⟨Nat.le_of_ble_eq_true rfl, Nat.le_of_ble_eq_true rfl⟩) hK hE hP hD hS hA [] 0 rfl rfl (by decide +kernel) rfl rfl hl.1 rfl (Nat.le_of_ble_eq_true rfl) dX8_noTick_6 ⟨Nat.le_of_ble_eq_true rfl, Nat.le_of_ble_eq_true rfl⟩ (fun H locs hP hD hS => ?_)
  refine lv_if_ne (tgt := 16) hx hb dX8_noTick_9 (by decide) (fun c9 => ?_) (fun c9 => ?_)
  · have hf := ifn c9 hf
    refine lv_iconst (v := (0 : Int32)) hx hb dX8_noTick_16 (by decide) ?_
    obtain ⟨z17, hf⟩ := zb_s hf
    obtain rfl := Option.some.inj hf
    exact hR _ _ _ _ hP hD hS z17 dX8_noTick_17
  · have hf := ifp c9 hf
    refine lv_iconst (v := (1 : Int32)) hx hb dX8_noTick_12 (by decide) ?_
    refine lv_goto (tgt := 17) hx hb dX8_noTick_13 (by decide) ?_
    obtain ⟨z17, hf⟩ := zb_s hf
    obtain rfl := Option.some.inj hf
    exact hR _ _ _ _ hP hD hS z17 dX8_noTick_17
theorem hd_X8_noTick : yX8_noTick.cls ≠ "java/lang/invoke/MethodHandle" ∧ yX8_noTick.cls ≠ "java/lang/invoke/VarHandle" ∧ (parseMethodDescriptor yX8_noTick.desc).map (fun d => d.parameters.length) = some 1 := by decide +kernel
set_option maxRecDepth 100000 in
theorem c_X8_noTick (l : Launch) (D : va_G) (cy : Nat → ClassId) (t : Nat → Nat) (p0 : Int32) {out : Int32} (hf : X8_noTick p0 = some out) : ctI l yX8_noTick wsX8_noTick 1 25 D cy t [.int p0] (wd_X8_noTick cy) (wd_X8_noTick cy) out := by
  refine ⟨rfl, ?_⟩
  intro sz
  refine Met.ofW (cc := cX8_noTick) (maxL := 1) (ret := (some .boolean)) (by decide) rfl ?_
  intro p e s m args below meth c s₁ B hml hv
  obtain ⟨rfl, hsz, hP, hK, hD0, hE⟩ := hv
  have hts := atoms_spec (ws := wsX8_noTick) B.pre
  have hown : s.vm.findClass RX8 = some m.cls := findClass_of_methodNamed B.named
  have hlocks := B.notSynchronized
  subst hsz
  have hD := hD0.self (sz := s.heap.size)
  have hl := lv_entry ([.int p0]) (n := 1) (Nat.le_of_ble_eq_true rfl)
  rw [lg_entry_eq]
  generalize (lg_sl ([.int p0]) ++ List.replicate (1 - (lg_sl ([.int p0])).length) Slot.unset).toArray = ls at hl ⊢
  exact w_X8_noTick D cy t  p0 hf B.exec B.bytes hml hown hts hK hE (fun q h => Or.inr h) hP hD va_S.rf hl (fun H locs ls pc hP hD hS z hdg => W.zret B.exec B.bytes B.returns z (fun t ht hW => ⟨⟨_, (), rfl, rfl, ctB_of ht hP⟩, hS.F ht⟩) hS.2.2 hdg)

noncomputable def X8_press (x_hands : Nat → Int32) (x_thrown : Int32) (x_pressed : Nat → Int32) (p1 : Int32) (p2 : Int32) (p3 : Int32) : Option (Int32 × Int32 × (Nat → Int32)) :=
  bd (X8_noHand x_hands p1) fun r7 => if r7 = (0 : Int32) then (bd (X8_noTick p2) fun r14 => if r14 = (0 : Int32) then (bd (X8_in (Int32.toInt64 p3) (0 : Int64) (5 : Int64)) fun r28 => if r28 = (0 : Int32) then (some ((-2 : Int32), (0 : Int32), x_pressed)) else (nm (((2400 : Int32) + ((100 : Int32) * p1)) + p2) fun v47 => rd x_pressed 3000 v47 fun v55 => wrI x_pressed 3000 v47 p3 fun w65 => some (v55, (0 : Int32), w65))) else (some ((-1 : Int32), (0 : Int32), x_pressed))) else (some ((-1 : Int32), (0 : Int32), x_pressed))
abbrev wd_X8_press (cy : Nat → ClassId) (o_t : Nat → Nat) (x_thrown : Int32) (x_delay : Int32) (x_feel : Int32) (x_turn : Int32) (x_sight : Int32) (x_ball : Int32) (x_w : Int32) (x_h : Int32) (x_n : Int32) (x_players : Int32) (x_hands : Nat → Int32) (x_pressed : Nat → Int32) : va_W := [(o_t 0, .inr (8, [.int x_thrown, .ref (o_t 2), .ref (o_t 3), .ref (o_t 4), .ref (o_t 5), .ref (o_t 6), .ref (o_t 7), .ref (o_t 8), .ref (o_t 9), .ref (o_t 10), .ref (o_t 11), .int x_delay, .int x_feel, .int x_turn, .int x_sight, .ref (o_t 16), .ref (o_t 17), .ref (o_t 18), .ref (o_t 19), .int x_ball, .int x_w, .int x_h, .int x_n, .ref (o_t 24), .ref (o_t 25), .ref (o_t 26), .ref (o_t 27), .ref (o_t 28), .ref (o_t 29), .int x_players, .ref (o_t 31), .ref (o_t 32), .ref (o_t 33), .ref (o_t 34), .ref (o_t 35), .ref (o_t 36)])), (o_t 4, .inl (cy 0, 5, .inl x_hands)), (o_t 8, .inl (cy 0, 3000, .inl x_pressed))]
set_option maxHeartbeats 4000000 in
set_option maxRecDepth 100000 in
theorem w_X8_press {p : Program} {l : Launch} {e : Env} {s : State} {m : MethodId} {args : Array Value} {below : List Frame} {meth : Method} {c : Code} {Q : State → Prop} {A : Nat → Prop} {H : Heap} {locs : List Loc} {ls : Array Slot} (D : va_G) (cy : Nat → ClassId) (t : Nat → Nat) (o_t : Nat → Nat) (x_thrown : Int32) (x_delay : Int32) (x_feel : Int32) (x_turn : Int32) (x_sight : Int32) (x_ball : Int32) (x_w : Int32) (x_h : Int32) (x_n : Int32) (x_players : Int32) (x_hands : Nat → Int32) (x_pressed : Nat → Int32) (p1 : Int32) (p2 : Int32) (p3 : Int32) {out : Int32 × Int32 × (Nat → Int32)} (hf : X8_press x_hands x_thrown x_pressed p1 p2 p3 = some out) (hx : p.tables.exec = Jvm.exec) (hb : c.code = cX8_press) (hml : c.maxLocals = 6) (hown : s.vm.findClass RX8 = some m.cls) (hts : ∀ w ∈ wsX8_press, w.before args s = true) (hK : va_K D vwCl (TYS cy) s) (hE : EV t A s s.heap) (hA : ∀ q, s.heap.size ≤ q → A q) (hP : va_P D vwCl (wd_X8_press cy o_t x_thrown x_delay x_feel x_turn x_sight x_ball x_w x_h x_n x_players x_hands x_pressed) H) (hD : va_D A (wd_X8_press cy o_t x_thrown x_delay x_feel x_turn x_sight x_ball x_w x_h x_n x_players x_hands x_pressed)) (hS : va_S A s.heap H locs) (hl : lv_has ls 6 [(0, .ref (o_t 0)), (1, .int p1), (2, .int p2), (3, .int p3)]) (hR : ∀ (H : Heap) (locs : List Loc) (ls : Array Slot) (pc : Nat), va_P D vwCl (wd_X8_press cy o_t out.2.1 x_delay x_feel x_turn x_sight x_ball x_w x_h x_n x_players x_hands out.2.2) H → va_D A (wd_X8_press cy o_t out.2.1 x_delay x_feel x_turn x_sight x_ball x_w x_h x_n x_players x_hands out.2.2) → va_S A s.heap H locs → decode cX8_press pc = .ok (.ireturn, 1) → W p l e (rmm 2 46) s m args below meth c H locs 0 0 Q (F0 m pc ls [.int out.1])) : W p l e (rmm 2 46) s m args below meth c H locs 0 0 Q (F0 m 0 ls []) := by
  have k0 := hts (.fieldLink RX8 100 "SeaGamesModel" "thrown" "I") (List.mem_cons_of_mem _ (List.mem_append_left _ (List.mem_of_getElem? (i := 0) rfl)))
  have k1 : ∀ w ∈ u_ws RX8 TX8 36, w ∈ wsX8_press := fun _ h => List.mem_cons_of_mem _ (List.mem_append_right _ h)
  have k2 := hts (.constantLong RX8 127 (5)) (List.mem_cons_of_mem _ (List.mem_append_left _ (List.mem_of_getElem? (i := 1) rfl)))
  have k3 := hts (.fieldLink RX8 28 "SeaGamesModel" "pressed" "[I") (List.mem_cons_of_mem _ (List.mem_append_left _ (List.mem_of_getElem? (i := 2) rfl)))
  rw [X8_press] at hf
  refine lv_aload_n hx hb dX8_press_0 rfl (lv_at hl 0 rfl) ?_
  refine lv_iconst (v := (0 : Int32)) hx hb dX8_press_1 (by decide) ?_
  refine va_put (D := D) (ci := 8) (v := .int (0 : Int32)) (ty := .int) (C := RX8) (T := TX8) (N := 36) hx hb hts k1 tyX8 tyX8_ok nmX8 hown hK hP hD hS 0 rfl rfl 0 (by decide) k0 (fun _ h9 => h9) rfl (by decide +kernel) rfl rfl (Nat.le_of_ble_eq_true rfl) dX8_press_2 (fun H locs hP hD hS => ?_)
  have hP : va_P D vwCl (wd_X8_press cy o_t (0 : Int32) x_delay x_feel x_turn x_sight x_ball x_w x_h x_n x_players x_hands x_pressed) H := hP
  have hD : va_D A (wd_X8_press cy o_t (0 : Int32) x_delay x_feel x_turn x_sight x_ball x_w x_h x_n x_players x_hands x_pressed) := hD
  refine lv_aload_n hx hb dX8_press_5 rfl (lv_at hl 0 rfl) ?_
  refine lv_iload_n hx hb dX8_press_6 rfl (lv_at hl 1 rfl) ?_
  obtain ⟨r7, hr7, hf⟩ := bd_s hf
  refine my_Vi (WS2 := (wd_X8_press cy o_t (0 : Int32) x_delay x_feel x_turn x_sight x_ball x_w x_h x_n x_players x_hands x_pressed)) ⟨hx, hb, hml, hown, hts⟩ (c_X8_noHand l D cy t o_t (0 : Int32) x_delay x_feel x_turn x_sight x_ball x_w x_h x_n x_players x_hands p1 hr7) (cwV 1 hts gX8_press_X8_noHand rfl rfl rfl ⟨rfl, hd_X8_noHand⟩ ⟨Nat.le_of_ble_eq_true rfl, Nat.le_of_ble_eq_true rfl⟩) hK hE hP hD hS hA [0, 1] 3 8 0 rfl rfl rfl rfl (by decide +kernel) rfl rfl hl.1 rfl (Nat.le_of_ble_eq_true rfl) dX8_press_7 ⟨Nat.le_of_ble_eq_true rfl, Nat.le_of_ble_eq_true rfl⟩ (fun H locs hP hD hS => ?_)
  refine lv_if_ne (tgt := 20) hx hb dX8_press_10 (by decide) (fun c10 => ?_) (fun c10 => ?_)
  · have hf := ifn c10 hf
    refine lv_iconst (v := (-1 : Int32)) hx hb dX8_press_20 (by decide) ?_
    obtain rfl := Option.some.inj hf
    exact hR _ _ _ _ hP hD hS dX8_press_21
  · have hf := ifp c10 hf
    refine lv_iload_n hx hb dX8_press_13 rfl (lv_at hl 2 rfl) ?_
    obtain ⟨r14, hr14, hf⟩ := bd_s hf
    refine my_Si (WS2 := (wd_X8_press cy o_t (0 : Int32) x_delay x_feel x_turn x_sight x_ball x_w x_h x_n x_players x_hands x_pressed)) ⟨hx, hb, hml, hown, hts⟩ (c_X8_noTick l D cy t p2 hr14) (va_cwS 1 hts gX8_press_X8_noTick rfl rfl rfl hd_X8_noTick ⟨Nat.le_of_ble_eq_true rfl, Nat.le_of_ble_eq_true rfl⟩) hK hE hP hD hS hA [] 3 rfl rfl (by decide +kernel) rfl rfl hl.1 rfl (Nat.le_of_ble_eq_true rfl) dX8_press_14 ⟨Nat.le_of_ble_eq_true rfl, Nat.le_of_ble_eq_true rfl⟩ (fun H locs hP hD hS => ?_)
    refine lv_if_eq (tgt := 22) hx hb dX8_press_17 (by decide) (fun c17 => ?_) (fun c17 => ?_)
    · have hf := ifp c17 hf
      refine lv_iload_n hx hb dX8_press_22 rfl (lv_at hl 3 rfl) ?_
      refine lv_i2l (v := (Int32.toInt64 p3)) hx hb dX8_press_23 rfl ?_
      refine lv_lconst (v := (0 : Int64)) hx hb dX8_press_24 (by decide) ?_
      refine lv_ldc2 (v := (5 : Int64)) hx hb hown k2 dX8_press_25 ?_
      obtain ⟨r28, hr28, hf⟩ := bd_s hf
      refine my_Si (WS2 := (wd_X8_press cy o_t (0 : Int32) x_delay x_feel x_turn x_sight x_ball x_w x_h x_n x_players x_hands x_pressed)) ⟨hx, hb, hml, hown, hts⟩ (c_X8_in l D cy t (Int32.toInt64 p3) (0 : Int64) (5 : Int64) hr28) (va_cwS 3 hts gX8_press_X8_in rfl rfl rfl hd_X8_in ⟨Nat.le_of_ble_eq_true rfl, Nat.le_of_ble_eq_true rfl⟩) hK hE hP hD hS hA [] 3 rfl rfl (by decide +kernel) rfl rfl hl.1 rfl (Nat.le_of_ble_eq_true rfl) dX8_press_28 ⟨Nat.le_of_ble_eq_true rfl, Nat.le_of_ble_eq_true rfl⟩ (fun H locs hP hD hS => ?_)
      refine lv_if_ne (tgt := 37) hx hb dX8_press_31 (by decide) (fun c31 => ?_) (fun c31 => ?_)
      · have hf := ifn c31 hf
        refine lv_sipush (v := (2400 : Int32)) hx hb dX8_press_37 (by decide) ?_
        refine lv_bipush (v := (100 : Int32)) hx hb dX8_press_40 (by decide) ?_
        refine lv_iload_n hx hb dX8_press_42 rfl (lv_at hl 1 rfl) ?_
        refine lv_imul hx hb dX8_press_43 ?_
        refine lv_iadd hx hb dX8_press_44 ?_
        refine lv_iload_n hx hb dX8_press_45 rfl (lv_at hl 2 rfl) ?_
        refine lv_iadd hx hb dX8_press_46 ?_
        obtain ⟨v47, ev47, hf⟩ := nm_s hf
        refine my_topi ev47 ?_
        refine lv_istore (lv' := [(4, .int v47), (0, .ref (o_t 0)), (1, .int p1), (2, .int p2), (3, .int p3)]) hx hb dX8_press_47 hl (by decide) rfl (fun ls hl => ?_)
        refine lv_aload_n hx hb dX8_press_49 rfl (lv_at hl 1 rfl) ?_
        refine va_get (D := D) (ci := 8) (v := .ref (o_t 8)) (C := RX8) (T := TX8) (N := 36) hx hb hts k1 hown hK hP 0 rfl rfl 7 (by decide) k3 (fun _ h9 => h9) rfl dX8_press_50 ?_
        refine lv_iload hx hb dX8_press_53 (lv_at hl 0 rfl) ?_
        obtain ⟨v55, b55, ev55, hf⟩ := rd_s hf
        refine my_iald hx hb hK hP 2 rfl b55 ev55 dX8_press_55 ?_
        refine lv_istore (lv' := [(5, .int v55), (4, .int v47), (0, .ref (o_t 0)), (1, .int p1), (2, .int p2), (3, .int p3)]) hx hb dX8_press_56 hl (by decide) rfl (fun ls hl => ?_)
        refine lv_aload_n hx hb dX8_press_58 rfl (lv_at hl 2 rfl) ?_
        refine va_get (D := D) (ci := 8) (v := .ref (o_t 8)) (C := RX8) (T := TX8) (N := 36) hx hb hts k1 hown hK hP 0 rfl rfl 7 (by decide) k3 (fun _ h9 => h9) rfl dX8_press_59 ?_
        refine lv_iload hx hb dX8_press_62 (lv_at hl 1 rfl) ?_
        refine lv_iload_n hx hb dX8_press_64 rfl (lv_at hl 5 rfl) ?_
        obtain ⟨w65, b65, ew65, hf⟩ := wrI_s hf
        refine my_iast (ws2 := (wd_X8_press cy o_t (0 : Int32) x_delay x_feel x_turn x_sight x_ball x_w x_h x_n x_players x_hands w65)) hx hb hK hP hD hS 2 rfl b65 ew65 rfl dX8_press_65 (fun H locs hP hD hS => ?_)
        refine lv_iload hx hb dX8_press_66 (lv_at hl 0 rfl) ?_
        obtain rfl := Option.some.inj hf
        exact hR _ _ _ _ hP hD hS dX8_press_68
      · have hf := ifp c31 hf
        refine lv_bipush (v := (-2 : Int32)) hx hb dX8_press_34 (by decide) ?_
        obtain rfl := Option.some.inj hf
        exact hR _ _ _ _ hP hD hS dX8_press_36
    · have hf := ifn c17 hf
      refine lv_iconst (v := (-1 : Int32)) hx hb dX8_press_20 (by decide) ?_
      obtain rfl := Option.some.inj hf
      exact hR _ _ _ _ hP hD hS dX8_press_21
theorem hd_X8_press : yX8_press.cls ≠ "java/lang/invoke/MethodHandle" ∧ yX8_press.cls ≠ "java/lang/invoke/VarHandle" ∧ (parseMethodDescriptor yX8_press.desc).map (fun d => d.parameters.length) = some 3 := by decide +kernel
set_option maxRecDepth 100000 in
theorem c_X8_press (l : Launch) (D : va_G) (cy : Nat → ClassId) (t : Nat → Nat) (o_t : Nat → Nat) (x_thrown : Int32) (x_delay : Int32) (x_feel : Int32) (x_turn : Int32) (x_sight : Int32) (x_ball : Int32) (x_w : Int32) (x_h : Int32) (x_n : Int32) (x_players : Int32) (x_hands : Nat → Int32) (x_pressed : Nat → Int32) (p1 : Int32) (p2 : Int32) (p3 : Int32) {out : Int32 × Int32 × (Nat → Int32)} (hf : X8_press x_hands x_thrown x_pressed p1 p2 p3 = some out) : ctI l yX8_press wsX8_press 2 46 D cy t [.ref (o_t 0), .int p1, .int p2, .int p3] (wd_X8_press cy o_t x_thrown x_delay x_feel x_turn x_sight x_ball x_w x_h x_n x_players x_hands x_pressed) (wd_X8_press cy o_t out.2.1 x_delay x_feel x_turn x_sight x_ball x_w x_h x_n x_players x_hands out.2.2) out.1 := by
  refine ⟨rfl, ?_⟩
  intro sz
  refine Met.ofW (cc := cX8_press) (maxL := 6) (ret := (some .int)) (by decide) rfl ?_
  intro p e s m args below meth c s₁ B hml hv
  obtain ⟨rfl, hsz, hP, hK, hD0, hE⟩ := hv
  have hts := atoms_spec (ws := wsX8_press) B.pre
  have hown : s.vm.findClass RX8 = some m.cls := findClass_of_methodNamed B.named
  have hlocks := B.notSynchronized
  subst hsz
  have hD := hD0.self (sz := s.heap.size)
  have hl := lv_entry ([.ref (o_t 0), .int p1, .int p2, .int p3]) (n := 6) (Nat.le_of_ble_eq_true rfl)
  rw [lg_entry_eq]
  generalize (lg_sl ([.ref (o_t 0), .int p1, .int p2, .int p3]) ++ List.replicate (6 - (lg_sl ([.ref (o_t 0), .int p1, .int p2, .int p3])).length) Slot.unset).toArray = ls at hl ⊢
  exact w_X8_press D cy t o_t x_thrown x_delay x_feel x_turn x_sight x_ball x_w x_h x_n x_players x_hands x_pressed p1 p2 p3 hf B.exec B.bytes hml hown hts hK hE (fun q h => Or.inr h) hP hD va_S.rf hl (fun H locs ls pc hP hD hS hdg => W.iret B.exec B.bytes B.returns (fun t ht hW => ⟨⟨_, (), rfl, rfl, ctB_of ht hP⟩, hS.F ht⟩) hS.2.2 hdg)

noncomputable def X8_hold_J94 (x_hands : Nat → Int32) (rec56 : Int32 → (Nat → Int32) → Int32 → Int32 → Int32 → Int32 → Int32 → Option (Int32 × Int32 × (Nat → Int32))) (x_thrown : Int32) (x_pressed : Nat → Int32) (l1 : Int32) (l3 : Int32) (l4 : Int32) (l6 : Int32) (l7 : Int32) (s0 : Int32) (s1 : Int32) : Option (Int32 × Int32 × (Nat → Int32)) :=
  nm (s0 + s1) fun v95 => wrI x_pressed 3000 l7 l4 fun w105 => nm (l6 + (1 : Int32)) fun v106 => rec56 x_thrown w105 l1 l3 l4 v95 v106
noncomputable def X8_hold_L56_B (x_hands : Nat → Int32) (rec56 : Int32 → (Nat → Int32) → Int32 → Int32 → Int32 → Int32 → Int32 → Option (Int32 × Int32 × (Nat → Int32))) (x_thrown : Int32) (x_pressed : Nat → Int32) (l1 : Int32) (l3 : Int32) (l4 : Int32) (l5 : Int32) (l6 : Int32) : Option (Int32 × Int32 × (Nat → Int32)) :=
  if l3 < l6 then (some (l5, x_thrown, x_pressed)) else (nm (((2400 : Int32) + ((100 : Int32) * l1)) + l6) fun v73 => rd x_pressed 3000 v73 fun v83 => if v83 = l4 then (X8_hold_J94 x_hands rec56 x_thrown x_pressed l1 l3 l4 l6 v73 l5 (0 : Int32)) else (X8_hold_J94 x_hands rec56 x_thrown x_pressed l1 l3 l4 l6 v73 l5 (1 : Int32)))
noncomputable def X8_hold_L56 (x_hands : Nat → Int32) : Nat → Int32 → (Nat → Int32) → Int32 → Int32 → Int32 → Int32 → Int32 → Option (Int32 × Int32 × (Nat → Int32))
  | 0, _, _, _, _, _, _, _ => none
  | n + 1, y0, y1, y2, y3, y4, y5, y6 => X8_hold_L56_B x_hands  (X8_hold_L56 x_hands  n) y0 y1 y2 y3 y4 y5 y6
noncomputable def X8_hold (x_hands : Nat → Int32) (x_thrown : Int32) (x_pressed : Nat → Int32) (p1 : Int32) (p2 : Int32) (p3 : Int32) (p4 : Int32) : Option (Int32 × Int32 × (Nat → Int32)) :=
  bd (X8_noHand x_hands p1) fun r7 => if r7 = (0 : Int32) then (bd (X8_noTick p2) fun r14 => if r14 = (0 : Int32) then (bd (X8_noTick p3) fun r21 => if r21 = (0 : Int32) then (if p3 < p2 then (some ((-2 : Int32), (0 : Int32), x_pressed)) else (bd (X8_in (Int32.toInt64 p4) (0 : Int64) (5 : Int64)) fun r41 => if r41 = (0 : Int32) then (some ((-2 : Int32), (0 : Int32), x_pressed)) else (X8_hold_L56 x_hands  FU (0 : Int32) x_pressed p1 p3 p4 (0 : Int32) p2))) else (some ((-1 : Int32), (0 : Int32), x_pressed))) else (some ((-1 : Int32), (0 : Int32), x_pressed))) else (some ((-1 : Int32), (0 : Int32), x_pressed))
abbrev wd_X8_hold (cy : Nat → ClassId) (o_t : Nat → Nat) (x_thrown : Int32) (x_delay : Int32) (x_feel : Int32) (x_turn : Int32) (x_sight : Int32) (x_ball : Int32) (x_w : Int32) (x_h : Int32) (x_n : Int32) (x_players : Int32) (x_hands : Nat → Int32) (x_pressed : Nat → Int32) : va_W := [(o_t 0, .inr (8, [.int x_thrown, .ref (o_t 2), .ref (o_t 3), .ref (o_t 4), .ref (o_t 5), .ref (o_t 6), .ref (o_t 7), .ref (o_t 8), .ref (o_t 9), .ref (o_t 10), .ref (o_t 11), .int x_delay, .int x_feel, .int x_turn, .int x_sight, .ref (o_t 16), .ref (o_t 17), .ref (o_t 18), .ref (o_t 19), .int x_ball, .int x_w, .int x_h, .int x_n, .ref (o_t 24), .ref (o_t 25), .ref (o_t 26), .ref (o_t 27), .ref (o_t 28), .ref (o_t 29), .int x_players, .ref (o_t 31), .ref (o_t 32), .ref (o_t 33), .ref (o_t 34), .ref (o_t 35), .ref (o_t 36)])), (o_t 4, .inl (cy 0, 5, .inl x_hands)), (o_t 8, .inl (cy 0, 3000, .inl x_pressed))]
set_option maxHeartbeats 4000000 in
set_option maxRecDepth 100000 in
theorem w_X8_hold {p : Program} {l : Launch} {e : Env} {s : State} {m : MethodId} {args : Array Value} {below : List Frame} {meth : Method} {c : Code} {Q : State → Prop} {A : Nat → Prop} {H : Heap} {locs : List Loc} {ls : Array Slot} (D : va_G) (cy : Nat → ClassId) (t : Nat → Nat) (o_t : Nat → Nat) (x_thrown : Int32) (x_delay : Int32) (x_feel : Int32) (x_turn : Int32) (x_sight : Int32) (x_ball : Int32) (x_w : Int32) (x_h : Int32) (x_n : Int32) (x_players : Int32) (x_hands : Nat → Int32) (x_pressed : Nat → Int32) (p1 : Int32) (p2 : Int32) (p3 : Int32) (p4 : Int32) {out : Int32 × Int32 × (Nat → Int32)} (hf : X8_hold x_hands x_thrown x_pressed p1 p2 p3 p4 = some out) (hx : p.tables.exec = Jvm.exec) (hb : c.code = cX8_hold) (hml : c.maxLocals = 8) (hown : s.vm.findClass RX8 = some m.cls) (hts : ∀ w ∈ wsX8_hold, w.before args s = true) (hK : va_K D vwCl (TYS cy) s) (hE : EV t A s s.heap) (hA : ∀ q, s.heap.size ≤ q → A q) (hP : va_P D vwCl (wd_X8_hold cy o_t x_thrown x_delay x_feel x_turn x_sight x_ball x_w x_h x_n x_players x_hands x_pressed) H) (hD : va_D A (wd_X8_hold cy o_t x_thrown x_delay x_feel x_turn x_sight x_ball x_w x_h x_n x_players x_hands x_pressed)) (hS : va_S A s.heap H locs) (hl : lv_has ls 8 [(0, .ref (o_t 0)), (1, .int p1), (2, .int p2), (3, .int p3), (4, .int p4)]) (hR : ∀ (H : Heap) (locs : List Loc) (ls : Array Slot) (pc : Nat), va_P D vwCl (wd_X8_hold cy o_t out.2.1 x_delay x_feel x_turn x_sight x_ball x_w x_h x_n x_players x_hands out.2.2) H → va_D A (wd_X8_hold cy o_t out.2.1 x_delay x_feel x_turn x_sight x_ball x_w x_h x_n x_players x_hands out.2.2) → va_S A s.heap H locs → decode cX8_hold pc = .ok (.ireturn, 1) → W p l e (rmm 2 46) s m args below meth c H locs 0 0 Q (F0 m pc ls [.int out.1])) : W p l e (rmm 2 46) s m args below meth c H locs 0 0 Q (F0 m 0 ls []) := by
  have k0 := hts (.fieldLink RX8 100 "SeaGamesModel" "thrown" "I") (List.mem_cons_of_mem _ (List.mem_append_left _ (List.mem_of_getElem? (i := 0) rfl)))
  have k1 : ∀ w ∈ u_ws RX8 TX8 36, w ∈ wsX8_hold := fun _ h => List.mem_cons_of_mem _ (List.mem_append_right _ h)
  have k2 := hts (.constantLong RX8 127 (5)) (List.mem_cons_of_mem _ (List.mem_append_left _ (List.mem_of_getElem? (i := 1) rfl)))
  have k3 := hts (.fieldLink RX8 28 "SeaGamesModel" "pressed" "[I") (List.mem_cons_of_mem _ (List.mem_append_left _ (List.mem_of_getElem? (i := 2) rfl)))
  rw [X8_hold] at hf
  refine lv_aload_n hx hb dX8_hold_0 rfl (lv_at hl 0 rfl) ?_
  refine lv_iconst (v := (0 : Int32)) hx hb dX8_hold_1 (by decide) ?_
  refine va_put (D := D) (ci := 8) (v := .int (0 : Int32)) (ty := .int) (C := RX8) (T := TX8) (N := 36) hx hb hts k1 tyX8 tyX8_ok nmX8 hown hK hP hD hS 0 rfl rfl 0 (by decide) k0 (fun _ h9 => h9) rfl (by decide +kernel) rfl rfl (Nat.le_of_ble_eq_true rfl) dX8_hold_2 (fun H locs hP hD hS => ?_)
  have hP : va_P D vwCl (wd_X8_hold cy o_t (0 : Int32) x_delay x_feel x_turn x_sight x_ball x_w x_h x_n x_players x_hands x_pressed) H := hP
  have hD : va_D A (wd_X8_hold cy o_t (0 : Int32) x_delay x_feel x_turn x_sight x_ball x_w x_h x_n x_players x_hands x_pressed) := hD
  refine lv_aload_n hx hb dX8_hold_5 rfl (lv_at hl 0 rfl) ?_
  refine lv_iload_n hx hb dX8_hold_6 rfl (lv_at hl 1 rfl) ?_
  obtain ⟨r7, hr7, hf⟩ := bd_s hf
  refine my_Vi (WS2 := (wd_X8_hold cy o_t (0 : Int32) x_delay x_feel x_turn x_sight x_ball x_w x_h x_n x_players x_hands x_pressed)) ⟨hx, hb, hml, hown, hts⟩ (c_X8_noHand l D cy t o_t (0 : Int32) x_delay x_feel x_turn x_sight x_ball x_w x_h x_n x_players x_hands p1 hr7) (cwV 1 hts gX8_hold_X8_noHand rfl rfl rfl ⟨rfl, hd_X8_noHand⟩ ⟨Nat.le_of_ble_eq_true rfl, Nat.le_of_ble_eq_true rfl⟩) hK hE hP hD hS hA [0, 1] 3 8 0 rfl rfl rfl rfl (by decide +kernel) rfl rfl hl.1 rfl (Nat.le_of_ble_eq_true rfl) dX8_hold_7 ⟨Nat.le_of_ble_eq_true rfl, Nat.le_of_ble_eq_true rfl⟩ (fun H locs hP hD hS => ?_)
  refine lv_if_ne (tgt := 27) hx hb dX8_hold_10 (by decide) (fun c10 => ?_) (fun c10 => ?_)
  · have hf := ifn c10 hf
    refine lv_iconst (v := (-1 : Int32)) hx hb dX8_hold_27 (by decide) ?_
    obtain rfl := Option.some.inj hf
    exact hR _ _ _ _ hP hD hS dX8_hold_28
  · have hf := ifp c10 hf
    refine lv_iload_n hx hb dX8_hold_13 rfl (lv_at hl 2 rfl) ?_
    obtain ⟨r14, hr14, hf⟩ := bd_s hf
    refine my_Si (WS2 := (wd_X8_hold cy o_t (0 : Int32) x_delay x_feel x_turn x_sight x_ball x_w x_h x_n x_players x_hands x_pressed)) ⟨hx, hb, hml, hown, hts⟩ (c_X8_noTick l D cy t p2 hr14) (va_cwS 1 hts gX8_hold_X8_noTick rfl rfl rfl hd_X8_noTick ⟨Nat.le_of_ble_eq_true rfl, Nat.le_of_ble_eq_true rfl⟩) hK hE hP hD hS hA [] 3 rfl rfl (by decide +kernel) rfl rfl hl.1 rfl (Nat.le_of_ble_eq_true rfl) dX8_hold_14 ⟨Nat.le_of_ble_eq_true rfl, Nat.le_of_ble_eq_true rfl⟩ (fun H locs hP hD hS => ?_)
    refine lv_if_ne (tgt := 27) hx hb dX8_hold_17 (by decide) (fun c17 => ?_) (fun c17 => ?_)
    · have hf := ifn c17 hf
      refine lv_iconst (v := (-1 : Int32)) hx hb dX8_hold_27 (by decide) ?_
      obtain rfl := Option.some.inj hf
      exact hR _ _ _ _ hP hD hS dX8_hold_28
    · have hf := ifp c17 hf
      refine lv_iload_n hx hb dX8_hold_20 rfl (lv_at hl 3 rfl) ?_
      obtain ⟨r21, hr21, hf⟩ := bd_s hf
      refine my_Si (WS2 := (wd_X8_hold cy o_t (0 : Int32) x_delay x_feel x_turn x_sight x_ball x_w x_h x_n x_players x_hands x_pressed)) ⟨hx, hb, hml, hown, hts⟩ (c_X8_noTick l D cy t p3 hr21) (va_cwS 1 hts gX8_hold_X8_noTick rfl rfl rfl hd_X8_noTick ⟨Nat.le_of_ble_eq_true rfl, Nat.le_of_ble_eq_true rfl⟩) hK hE hP hD hS hA [] 3 rfl rfl (by decide +kernel) rfl rfl hl.1 rfl (Nat.le_of_ble_eq_true rfl) dX8_hold_21 ⟨Nat.le_of_ble_eq_true rfl, Nat.le_of_ble_eq_true rfl⟩ (fun H locs hP hD hS => ?_)
      refine lv_if_eq (tgt := 29) hx hb dX8_hold_24 (by decide) (fun c24 => ?_) (fun c24 => ?_)
      · have hf := ifp c24 hf
        refine lv_iload_n hx hb dX8_hold_29 rfl (lv_at hl 3 rfl) ?_
        refine lv_iload_n hx hb dX8_hold_30 rfl (lv_at hl 2 rfl) ?_
        refine lv_icmp_lt (tgt := 47) hx hb dX8_hold_31 (by decide) (fun c31 => ?_) (fun c31 => ?_)
        · have hf := ifp c31 hf
          refine lv_bipush (v := (-2 : Int32)) hx hb dX8_hold_47 (by decide) ?_
          obtain rfl := Option.some.inj hf
          exact hR _ _ _ _ hP hD hS dX8_hold_49
        · have hf := ifn c31 hf
          refine lv_iload hx hb dX8_hold_34 (lv_at hl 4 rfl) ?_
          refine lv_i2l (v := (Int32.toInt64 p4)) hx hb dX8_hold_36 rfl ?_
          refine lv_lconst (v := (0 : Int64)) hx hb dX8_hold_37 (by decide) ?_
          refine lv_ldc2 (v := (5 : Int64)) hx hb hown k2 dX8_hold_38 ?_
          obtain ⟨r41, hr41, hf⟩ := bd_s hf
          refine my_Si (WS2 := (wd_X8_hold cy o_t (0 : Int32) x_delay x_feel x_turn x_sight x_ball x_w x_h x_n x_players x_hands x_pressed)) ⟨hx, hb, hml, hown, hts⟩ (c_X8_in l D cy t (Int32.toInt64 p4) (0 : Int64) (5 : Int64) hr41) (va_cwS 3 hts gX8_hold_X8_in rfl rfl rfl hd_X8_in ⟨Nat.le_of_ble_eq_true rfl, Nat.le_of_ble_eq_true rfl⟩) hK hE hP hD hS hA [] 3 rfl rfl (by decide +kernel) rfl rfl hl.1 rfl (Nat.le_of_ble_eq_true rfl) dX8_hold_41 ⟨Nat.le_of_ble_eq_true rfl, Nat.le_of_ble_eq_true rfl⟩ (fun H locs hP hD hS => ?_)
          refine lv_if_ne (tgt := 50) hx hb dX8_hold_44 (by decide) (fun c44 => ?_) (fun c44 => ?_)
          · have hf := ifn c44 hf
            have h56 : ∀ (n56 : Nat) (x_thrown : Int32) (x_pressed : Nat → Int32) (l1 : Int32) (l3 : Int32) (l4 : Int32) (l5 : Int32) (l6 : Int32) (H : Heap) (locs : List Loc) (ls : Array Slot), X8_hold_L56 x_hands n56 x_thrown x_pressed l1 l3 l4 l5 l6 = some out → va_P D vwCl (wd_X8_hold cy o_t x_thrown x_delay x_feel x_turn x_sight x_ball x_w x_h x_n x_players x_hands x_pressed) H → va_D A (wd_X8_hold cy o_t x_thrown x_delay x_feel x_turn x_sight x_ball x_w x_h x_n x_players x_hands x_pressed) → va_S A s.heap H locs → lv_has ls 8 [(0, .ref (o_t 0)), (1, .int l1), (3, .int l3), (4, .int l4), (5, .int l5), (6, .int l6)] → W p l e (rmm 2 46) s m args below meth c H locs 0 0 Q (F0 m 56 ls []) := by
              intro n56
              induction n56 with
              | zero =>
                intro _ _ _ _ _ _ _ _ _ _ hf
                exact nomatch (show (none : Option _) = some out from hf)
              | succ n56 ih56 =>
                intro x_thrown x_pressed l1 l3 l4 l5 l6 H locs ls hf hP hD hS hl
                have hf : X8_hold_L56_B x_hands (X8_hold_L56 x_hands n56) x_thrown x_pressed l1 l3 l4 l5 l6 = some out := hf
                rw [X8_hold_L56_B] at hf
                refine lv_iload hx hb dX8_hold_56 (lv_at hl 5 rfl) ?_
                refine lv_iload_n hx hb dX8_hold_58 rfl (lv_at hl 2 rfl) ?_
                refine lv_icmp_gt (tgt := 112) hx hb dX8_hold_59 (by decide) (fun c59 => ?_) (fun c59 => ?_)
                · have hf := ifp c59 hf
                  refine lv_iload hx hb dX8_hold_112 (lv_at hl 4 rfl) ?_
                  obtain rfl := Option.some.inj hf
                  exact hR _ _ _ _ hP hD hS dX8_hold_114
                · have hf := ifn c59 hf
                  have h94 : ∀ (x_thrown : Int32) (x_pressed : Nat → Int32) (l1 : Int32) (l3 : Int32) (l4 : Int32) (l6 : Int32) (l7 : Int32) (s0 : Int32) (s1 : Int32) (H : Heap) (locs : List Loc) (ls : Array Slot), X8_hold_J94 x_hands (X8_hold_L56 x_hands n56) x_thrown x_pressed l1 l3 l4 l6 l7 s0 s1 = some out → va_P D vwCl (wd_X8_hold cy o_t x_thrown x_delay x_feel x_turn x_sight x_ball x_w x_h x_n x_players x_hands x_pressed) H → va_D A (wd_X8_hold cy o_t x_thrown x_delay x_feel x_turn x_sight x_ball x_w x_h x_n x_players x_hands x_pressed) → va_S A s.heap H locs → lv_has ls 8 [(0, .ref (o_t 0)), (1, .int l1), (3, .int l3), (4, .int l4), (6, .int l6), (7, .int l7)] → W p l e (rmm 2 46) s m args below meth c H locs 0 0 Q (F0 m 94 ls [.int s1, .int s0]) := by
                    intro x_thrown x_pressed l1 l3 l4 l6 l7 s0 s1 H locs ls hf hP hD hS hl
                    rw [X8_hold_J94] at hf
                    refine lv_iadd hx hb dX8_hold_94 ?_
                    obtain ⟨v95, ev95, hf⟩ := nm_s hf
                    refine my_topi ev95 ?_
                    refine lv_istore (lv' := [(5, .int v95), (0, .ref (o_t 0)), (1, .int l1), (3, .int l3), (4, .int l4), (6, .int l6), (7, .int l7)]) hx hb dX8_hold_95 hl (by decide) rfl (fun ls hl => ?_)
                    refine lv_aload_n hx hb dX8_hold_97 rfl (lv_at hl 1 rfl) ?_
                    refine va_get (D := D) (ci := 8) (v := .ref (o_t 8)) (C := RX8) (T := TX8) (N := 36) hx hb hts k1 hown hK hP 0 rfl rfl 7 (by decide) k3 (fun _ h9 => h9) rfl dX8_hold_98 ?_
                    refine lv_iload hx hb dX8_hold_101 (lv_at hl 6 rfl) ?_
                    refine lv_iload hx hb dX8_hold_103 (lv_at hl 4 rfl) ?_
                    obtain ⟨w105, b105, ew105, hf⟩ := wrI_s hf
                    refine my_iast (ws2 := (wd_X8_hold cy o_t x_thrown x_delay x_feel x_turn x_sight x_ball x_w x_h x_n x_players x_hands w105)) hx hb hK hP hD hS 2 rfl b105 ew105 rfl dX8_hold_105 (fun H locs hP hD hS => ?_)
                    obtain ⟨v106, ev106, hf⟩ := nm_s hf
                    refine lv_iinc (v := v106) (lv' := [(6, .int v106), (5, .int v95), (0, .ref (o_t 0)), (1, .int l1), (3, .int l3), (4, .int l4), (7, .int l7)]) hx hb dX8_hold_106 hl (k := 5) rfl (by rw [ev106]; rfl) (by decide) rfl (fun ls hl => ?_)
                    refine lv_goto (tgt := 56) hx hb dX8_hold_109 (by decide) ?_
                    exact ih56 _ _ _ _ _ _ _ _ _ _ hf hP hD hS (lv_sub hl [2, 3, 4, 5, 1, 0] rfl)
                  refine lv_sipush (v := (2400 : Int32)) hx hb dX8_hold_62 (by decide) ?_
                  refine lv_bipush (v := (100 : Int32)) hx hb dX8_hold_65 (by decide) ?_
                  refine lv_iload_n hx hb dX8_hold_67 rfl (lv_at hl 1 rfl) ?_
                  refine lv_imul hx hb dX8_hold_68 ?_
                  refine lv_iadd hx hb dX8_hold_69 ?_
                  refine lv_iload hx hb dX8_hold_70 (lv_at hl 5 rfl) ?_
                  refine lv_iadd hx hb dX8_hold_72 ?_
                  obtain ⟨v73, ev73, hf⟩ := nm_s hf
                  refine my_topi ev73 ?_
                  refine lv_istore (lv' := [(7, .int v73), (0, .ref (o_t 0)), (1, .int l1), (3, .int l3), (4, .int l4), (5, .int l5), (6, .int l6)]) hx hb dX8_hold_73 hl (by decide) rfl (fun ls hl => ?_)
                  refine lv_iload hx hb dX8_hold_75 (lv_at hl 5 rfl) ?_
                  refine lv_aload_n hx hb dX8_hold_77 rfl (lv_at hl 1 rfl) ?_
                  refine va_get (D := D) (ci := 8) (v := .ref (o_t 8)) (C := RX8) (T := TX8) (N := 36) hx hb hts k1 hown hK hP 0 rfl rfl 7 (by decide) k3 (fun _ h9 => h9) rfl dX8_hold_78 ?_
                  refine lv_iload hx hb dX8_hold_81 (lv_at hl 0 rfl) ?_
                  obtain ⟨v83, b83, ev83, hf⟩ := rd_s hf
                  refine my_iald hx hb hK hP 2 rfl b83 ev83 dX8_hold_83 ?_
                  refine lv_iload hx hb dX8_hold_84 (lv_at hl 4 rfl) ?_
                  refine lv_icmp_ne (tgt := 93) hx hb dX8_hold_86 (by decide) (fun c86 => ?_) (fun c86 => ?_)
                  · have hf := ifn c86 hf
                    refine lv_iconst (v := (1 : Int32)) hx hb dX8_hold_93 (by decide) ?_
                    exact h94 _ _ _ _ _ _ _ _ _ _ _ _ hf hP hD hS (lv_sub hl [1, 2, 3, 4, 6, 0] rfl)
                  · have hf := ifp c86 hf
                    refine lv_iconst (v := (0 : Int32)) hx hb dX8_hold_89 (by decide) ?_
                    refine lv_goto (tgt := 94) hx hb dX8_hold_90 (by decide) ?_
                    exact h94 _ _ _ _ _ _ _ _ _ _ _ _ hf hP hD hS (lv_sub hl [1, 2, 3, 4, 6, 0] rfl)
            refine lv_iconst (v := (0 : Int32)) hx hb dX8_hold_50 (by decide) ?_
            refine lv_istore (lv' := [(5, .int (0 : Int32)), (0, .ref (o_t 0)), (1, .int p1), (2, .int p2), (3, .int p3), (4, .int p4)]) hx hb dX8_hold_51 hl (by decide) rfl (fun ls hl => ?_)
            refine lv_iload_n hx hb dX8_hold_53 rfl (lv_at hl 3 rfl) ?_
            refine lv_istore (lv' := [(6, .int p2), (5, .int (0 : Int32)), (0, .ref (o_t 0)), (1, .int p1), (2, .int p2), (3, .int p3), (4, .int p4)]) hx hb dX8_hold_54 hl (by decide) rfl (fun ls hl => ?_)
            exact h56 FU _ _ _ _ _ _ _ _ _ _ hf hP hD hS (lv_sub hl [2, 3, 5, 6, 1, 0] rfl)
          · have hf := ifp c44 hf
            refine lv_bipush (v := (-2 : Int32)) hx hb dX8_hold_47 (by decide) ?_
            obtain rfl := Option.some.inj hf
            exact hR _ _ _ _ hP hD hS dX8_hold_49
      · have hf := ifn c24 hf
        refine lv_iconst (v := (-1 : Int32)) hx hb dX8_hold_27 (by decide) ?_
        obtain rfl := Option.some.inj hf
        exact hR _ _ _ _ hP hD hS dX8_hold_28
theorem hd_X8_hold : yX8_hold.cls ≠ "java/lang/invoke/MethodHandle" ∧ yX8_hold.cls ≠ "java/lang/invoke/VarHandle" ∧ (parseMethodDescriptor yX8_hold.desc).map (fun d => d.parameters.length) = some 4 := by decide +kernel
set_option maxRecDepth 100000 in
theorem c_X8_hold (l : Launch) (D : va_G) (cy : Nat → ClassId) (t : Nat → Nat) (o_t : Nat → Nat) (x_thrown : Int32) (x_delay : Int32) (x_feel : Int32) (x_turn : Int32) (x_sight : Int32) (x_ball : Int32) (x_w : Int32) (x_h : Int32) (x_n : Int32) (x_players : Int32) (x_hands : Nat → Int32) (x_pressed : Nat → Int32) (p1 : Int32) (p2 : Int32) (p3 : Int32) (p4 : Int32) {out : Int32 × Int32 × (Nat → Int32)} (hf : X8_hold x_hands x_thrown x_pressed p1 p2 p3 p4 = some out) : ctI l yX8_hold wsX8_hold 2 46 D cy t [.ref (o_t 0), .int p1, .int p2, .int p3, .int p4] (wd_X8_hold cy o_t x_thrown x_delay x_feel x_turn x_sight x_ball x_w x_h x_n x_players x_hands x_pressed) (wd_X8_hold cy o_t out.2.1 x_delay x_feel x_turn x_sight x_ball x_w x_h x_n x_players x_hands out.2.2) out.1 := by
  refine ⟨rfl, ?_⟩
  intro sz
  refine Met.ofW (cc := cX8_hold) (maxL := 8) (ret := (some .int)) (by decide) rfl ?_
  intro p e s m args below meth c s₁ B hml hv
  obtain ⟨rfl, hsz, hP, hK, hD0, hE⟩ := hv
  have hts := atoms_spec (ws := wsX8_hold) B.pre
  have hown : s.vm.findClass RX8 = some m.cls := findClass_of_methodNamed B.named
  have hlocks := B.notSynchronized
  subst hsz
  have hD := hD0.self (sz := s.heap.size)
  have hl := lv_entry ([.ref (o_t 0), .int p1, .int p2, .int p3, .int p4]) (n := 8) (Nat.le_of_ble_eq_true rfl)
  rw [lg_entry_eq]
  generalize (lg_sl ([.ref (o_t 0), .int p1, .int p2, .int p3, .int p4]) ++ List.replicate (8 - (lg_sl ([.ref (o_t 0), .int p1, .int p2, .int p3, .int p4])).length) Slot.unset).toArray = ls at hl ⊢
  exact w_X8_hold D cy t o_t x_thrown x_delay x_feel x_turn x_sight x_ball x_w x_h x_n x_players x_hands x_pressed p1 p2 p3 p4 hf B.exec B.bytes hml hown hts hK hE (fun q h => Or.inr h) hP hD va_S.rf hl (fun H locs ls pc hP hD hS hdg => W.iret B.exec B.bytes B.returns (fun t ht hW => ⟨⟨_, (), rfl, rfl, ctB_of ht hP⟩, hS.F ht⟩) hS.2.2 hdg)

noncomputable def X8_leave (x_hands : Nat → Int32) (x_thrown : Int32) (x_leftFrom : Nat → Int32) (x_leftTo : Nat → Int32) (p1 : Int32) (p2 : Int32) (p3 : Int32) : Option (Int32 × Int32 × (Nat → Int32) × (Nat → Int32)) :=
  bd (X8_noHand x_hands p1) fun r7 => if r7 = (0 : Int32) then (bd (X8_in (Int32.toInt64 p2) (0 : Int64) (Int32.toInt64 p3)) fun r20 => if r20 = (0 : Int32) then (some ((-2 : Int32), (0 : Int32), x_leftFrom, x_leftTo)) else (if p3 ≤ (100 : Int32) then (wrI x_leftFrom 30 ((24 : Int32) + p1) p2 fun w44 => wrI x_leftTo 30 ((24 : Int32) + p1) p3 fun w54 => some ((p3 - p2), (0 : Int32), w44, w54)) else (some ((-2 : Int32), (0 : Int32), x_leftFrom, x_leftTo)))) else (some ((-1 : Int32), (0 : Int32), x_leftFrom, x_leftTo))
abbrev wd_X8_leave (cy : Nat → ClassId) (o_t : Nat → Nat) (x_thrown : Int32) (x_delay : Int32) (x_feel : Int32) (x_turn : Int32) (x_sight : Int32) (x_ball : Int32) (x_w : Int32) (x_h : Int32) (x_n : Int32) (x_players : Int32) (x_hands : Nat → Int32) (x_leftFrom : Nat → Int32) (x_leftTo : Nat → Int32) : va_W := [(o_t 0, .inr (8, [.int x_thrown, .ref (o_t 2), .ref (o_t 3), .ref (o_t 4), .ref (o_t 5), .ref (o_t 6), .ref (o_t 7), .ref (o_t 8), .ref (o_t 9), .ref (o_t 10), .ref (o_t 11), .int x_delay, .int x_feel, .int x_turn, .int x_sight, .ref (o_t 16), .ref (o_t 17), .ref (o_t 18), .ref (o_t 19), .int x_ball, .int x_w, .int x_h, .int x_n, .ref (o_t 24), .ref (o_t 25), .ref (o_t 26), .ref (o_t 27), .ref (o_t 28), .ref (o_t 29), .int x_players, .ref (o_t 31), .ref (o_t 32), .ref (o_t 33), .ref (o_t 34), .ref (o_t 35), .ref (o_t 36)])), (o_t 4, .inl (cy 0, 5, .inl x_hands)), (o_t 9, .inl (cy 0, 30, .inl x_leftFrom)), (o_t 10, .inl (cy 0, 30, .inl x_leftTo))]
set_option maxHeartbeats 4000000 in
set_option maxRecDepth 100000 in
theorem w_X8_leave {p : Program} {l : Launch} {e : Env} {s : State} {m : MethodId} {args : Array Value} {below : List Frame} {meth : Method} {c : Code} {Q : State → Prop} {A : Nat → Prop} {H : Heap} {locs : List Loc} {ls : Array Slot} (D : va_G) (cy : Nat → ClassId) (t : Nat → Nat) (o_t : Nat → Nat) (x_thrown : Int32) (x_delay : Int32) (x_feel : Int32) (x_turn : Int32) (x_sight : Int32) (x_ball : Int32) (x_w : Int32) (x_h : Int32) (x_n : Int32) (x_players : Int32) (x_hands : Nat → Int32) (x_leftFrom : Nat → Int32) (x_leftTo : Nat → Int32) (p1 : Int32) (p2 : Int32) (p3 : Int32) {out : Int32 × Int32 × (Nat → Int32) × (Nat → Int32)} (hf : X8_leave x_hands x_thrown x_leftFrom x_leftTo p1 p2 p3 = some out) (hx : p.tables.exec = Jvm.exec) (hb : c.code = cX8_leave) (hml : c.maxLocals = 4) (hown : s.vm.findClass RX8 = some m.cls) (hts : ∀ w ∈ wsX8_leave, w.before args s = true) (hK : va_K D vwCl (TYS cy) s) (hE : EV t A s s.heap) (hA : ∀ q, s.heap.size ≤ q → A q) (hP : va_P D vwCl (wd_X8_leave cy o_t x_thrown x_delay x_feel x_turn x_sight x_ball x_w x_h x_n x_players x_hands x_leftFrom x_leftTo) H) (hD : va_D A (wd_X8_leave cy o_t x_thrown x_delay x_feel x_turn x_sight x_ball x_w x_h x_n x_players x_hands x_leftFrom x_leftTo)) (hS : va_S A s.heap H locs) (hl : lv_has ls 4 [(0, .ref (o_t 0)), (1, .int p1), (2, .int p2), (3, .int p3)]) (hR : ∀ (H : Heap) (locs : List Loc) (ls : Array Slot) (pc : Nat), va_P D vwCl (wd_X8_leave cy o_t out.2.1 x_delay x_feel x_turn x_sight x_ball x_w x_h x_n x_players x_hands out.2.2.1 out.2.2.2) H → va_D A (wd_X8_leave cy o_t out.2.1 x_delay x_feel x_turn x_sight x_ball x_w x_h x_n x_players x_hands out.2.2.1 out.2.2.2) → va_S A s.heap H locs → decode cX8_leave pc = .ok (.ireturn, 1) → W p l e (rmm 2 46) s m args below meth c H locs 0 0 Q (F0 m pc ls [.int out.1])) : W p l e (rmm 2 46) s m args below meth c H locs 0 0 Q (F0 m 0 ls []) := by
  have k0 := hts (.fieldLink RX8 100 "SeaGamesModel" "thrown" "I") (List.mem_cons_of_mem _ (List.mem_append_left _ (List.mem_of_getElem? (i := 0) rfl)))
  have k1 : ∀ w ∈ u_ws RX8 TX8 36, w ∈ wsX8_leave := fun _ h => List.mem_cons_of_mem _ (List.mem_append_right _ h)
  have k2 := hts (.fieldLink RX8 31 "SeaGamesModel" "leftFrom" "[I") (List.mem_cons_of_mem _ (List.mem_append_left _ (List.mem_of_getElem? (i := 1) rfl)))
  have k3 := hts (.fieldLink RX8 34 "SeaGamesModel" "leftTo" "[I") (List.mem_cons_of_mem _ (List.mem_append_left _ (List.mem_of_getElem? (i := 2) rfl)))
  rw [X8_leave] at hf
  refine lv_aload_n hx hb dX8_leave_0 rfl (lv_at hl 0 rfl) ?_
  refine lv_iconst (v := (0 : Int32)) hx hb dX8_leave_1 (by decide) ?_
  refine va_put (D := D) (ci := 8) (v := .int (0 : Int32)) (ty := .int) (C := RX8) (T := TX8) (N := 36) hx hb hts k1 tyX8 tyX8_ok nmX8 hown hK hP hD hS 0 rfl rfl 0 (by decide) k0 (fun _ h9 => h9) rfl (by decide +kernel) rfl rfl (Nat.le_of_ble_eq_true rfl) dX8_leave_2 (fun H locs hP hD hS => ?_)
  have hP : va_P D vwCl (wd_X8_leave cy o_t (0 : Int32) x_delay x_feel x_turn x_sight x_ball x_w x_h x_n x_players x_hands x_leftFrom x_leftTo) H := hP
  have hD : va_D A (wd_X8_leave cy o_t (0 : Int32) x_delay x_feel x_turn x_sight x_ball x_w x_h x_n x_players x_hands x_leftFrom x_leftTo) := hD
  refine lv_aload_n hx hb dX8_leave_5 rfl (lv_at hl 0 rfl) ?_
  refine lv_iload_n hx hb dX8_leave_6 rfl (lv_at hl 1 rfl) ?_
  obtain ⟨r7, hr7, hf⟩ := bd_s hf
  refine my_Vi (WS2 := (wd_X8_leave cy o_t (0 : Int32) x_delay x_feel x_turn x_sight x_ball x_w x_h x_n x_players x_hands x_leftFrom x_leftTo)) ⟨hx, hb, hml, hown, hts⟩ (c_X8_noHand l D cy t o_t (0 : Int32) x_delay x_feel x_turn x_sight x_ball x_w x_h x_n x_players x_hands p1 hr7) (cwV 1 hts gX8_leave_X8_noHand rfl rfl rfl ⟨rfl, hd_X8_noHand⟩ ⟨Nat.le_of_ble_eq_true rfl, Nat.le_of_ble_eq_true rfl⟩) hK hE hP hD hS hA [0, 1] 4 8 0 rfl rfl rfl rfl (by decide +kernel) rfl rfl hl.1 rfl (Nat.le_of_ble_eq_true rfl) dX8_leave_7 ⟨Nat.le_of_ble_eq_true rfl, Nat.le_of_ble_eq_true rfl⟩ (fun H locs hP hD hS => ?_)
  refine lv_if_eq (tgt := 15) hx hb dX8_leave_10 (by decide) (fun c10 => ?_) (fun c10 => ?_)
  · have hf := ifp c10 hf
    refine lv_iload_n hx hb dX8_leave_15 rfl (lv_at hl 2 rfl) ?_
    refine lv_i2l (v := (Int32.toInt64 p2)) hx hb dX8_leave_16 rfl ?_
    refine lv_lconst (v := (0 : Int64)) hx hb dX8_leave_17 (by decide) ?_
    refine lv_iload_n hx hb dX8_leave_18 rfl (lv_at hl 3 rfl) ?_
    refine lv_i2l (v := (Int32.toInt64 p3)) hx hb dX8_leave_19 rfl ?_
    obtain ⟨r20, hr20, hf⟩ := bd_s hf
    refine my_Si (WS2 := (wd_X8_leave cy o_t (0 : Int32) x_delay x_feel x_turn x_sight x_ball x_w x_h x_n x_players x_hands x_leftFrom x_leftTo)) ⟨hx, hb, hml, hown, hts⟩ (c_X8_in l D cy t (Int32.toInt64 p2) (0 : Int64) (Int32.toInt64 p3) hr20) (va_cwS 3 hts gX8_leave_X8_in rfl rfl rfl hd_X8_in ⟨Nat.le_of_ble_eq_true rfl, Nat.le_of_ble_eq_true rfl⟩) hK hE hP hD hS hA [] 4 rfl rfl (by decide +kernel) rfl rfl hl.1 rfl (Nat.le_of_ble_eq_true rfl) dX8_leave_20 ⟨Nat.le_of_ble_eq_true rfl, Nat.le_of_ble_eq_true rfl⟩ (fun H locs hP hD hS => ?_)
    refine lv_if_eq (tgt := 32) hx hb dX8_leave_23 (by decide) (fun c23 => ?_) (fun c23 => ?_)
    · have hf := ifp c23 hf
      refine lv_bipush (v := (-2 : Int32)) hx hb dX8_leave_32 (by decide) ?_
      obtain rfl := Option.some.inj hf
      exact hR _ _ _ _ hP hD hS dX8_leave_34
    · have hf := ifn c23 hf
      refine lv_iload_n hx hb dX8_leave_26 rfl (lv_at hl 3 rfl) ?_
      refine lv_bipush (v := (100 : Int32)) hx hb dX8_leave_27 (by decide) ?_
      refine lv_icmp_le (tgt := 35) hx hb dX8_leave_29 (by decide) (fun c29 => ?_) (fun c29 => ?_)
      · have hf := ifp c29 hf
        refine lv_aload_n hx hb dX8_leave_35 rfl (lv_at hl 0 rfl) ?_
        refine va_get (D := D) (ci := 8) (v := .ref (o_t 9)) (C := RX8) (T := TX8) (N := 36) hx hb hts k1 hown hK hP 0 rfl rfl 8 (by decide) k2 (fun _ h9 => h9) rfl dX8_leave_36 ?_
        refine lv_bipush (v := (24 : Int32)) hx hb dX8_leave_39 (by decide) ?_
        refine lv_iload_n hx hb dX8_leave_41 rfl (lv_at hl 1 rfl) ?_
        refine lv_iadd hx hb dX8_leave_42 ?_
        refine lv_iload_n hx hb dX8_leave_43 rfl (lv_at hl 2 rfl) ?_
        obtain ⟨w44, b44, ew44, hf⟩ := wrI_s hf
        refine my_iast (ws2 := (wd_X8_leave cy o_t (0 : Int32) x_delay x_feel x_turn x_sight x_ball x_w x_h x_n x_players x_hands w44 x_leftTo)) hx hb hK hP hD hS 2 rfl b44 ew44 rfl dX8_leave_44 (fun H locs hP hD hS => ?_)
        refine lv_aload_n hx hb dX8_leave_45 rfl (lv_at hl 0 rfl) ?_
        refine va_get (D := D) (ci := 8) (v := .ref (o_t 10)) (C := RX8) (T := TX8) (N := 36) hx hb hts k1 hown hK hP 0 rfl rfl 9 (by decide) k3 (fun _ h9 => h9) rfl dX8_leave_46 ?_
        refine lv_bipush (v := (24 : Int32)) hx hb dX8_leave_49 (by decide) ?_
        refine lv_iload_n hx hb dX8_leave_51 rfl (lv_at hl 1 rfl) ?_
        refine lv_iadd hx hb dX8_leave_52 ?_
        refine lv_iload_n hx hb dX8_leave_53 rfl (lv_at hl 3 rfl) ?_
        obtain ⟨w54, b54, ew54, hf⟩ := wrI_s hf
        refine my_iast (ws2 := (wd_X8_leave cy o_t (0 : Int32) x_delay x_feel x_turn x_sight x_ball x_w x_h x_n x_players x_hands w44 w54)) hx hb hK hP hD hS 3 rfl b54 ew54 rfl dX8_leave_54 (fun H locs hP hD hS => ?_)
        refine lv_iload_n hx hb dX8_leave_55 rfl (lv_at hl 3 rfl) ?_
        refine lv_iload_n hx hb dX8_leave_56 rfl (lv_at hl 2 rfl) ?_
        refine lv_isub hx hb dX8_leave_57 ?_
        obtain rfl := Option.some.inj hf
        exact hR _ _ _ _ hP hD hS dX8_leave_58
      · have hf := ifn c29 hf
        refine lv_bipush (v := (-2 : Int32)) hx hb dX8_leave_32 (by decide) ?_
        obtain rfl := Option.some.inj hf
        exact hR _ _ _ _ hP hD hS dX8_leave_34
  · have hf := ifn c10 hf
    refine lv_iconst (v := (-1 : Int32)) hx hb dX8_leave_13 (by decide) ?_
    obtain rfl := Option.some.inj hf
    exact hR _ _ _ _ hP hD hS dX8_leave_14
theorem hd_X8_leave : yX8_leave.cls ≠ "java/lang/invoke/MethodHandle" ∧ yX8_leave.cls ≠ "java/lang/invoke/VarHandle" ∧ (parseMethodDescriptor yX8_leave.desc).map (fun d => d.parameters.length) = some 3 := by decide +kernel
set_option maxRecDepth 100000 in
theorem c_X8_leave (l : Launch) (D : va_G) (cy : Nat → ClassId) (t : Nat → Nat) (o_t : Nat → Nat) (x_thrown : Int32) (x_delay : Int32) (x_feel : Int32) (x_turn : Int32) (x_sight : Int32) (x_ball : Int32) (x_w : Int32) (x_h : Int32) (x_n : Int32) (x_players : Int32) (x_hands : Nat → Int32) (x_leftFrom : Nat → Int32) (x_leftTo : Nat → Int32) (p1 : Int32) (p2 : Int32) (p3 : Int32) {out : Int32 × Int32 × (Nat → Int32) × (Nat → Int32)} (hf : X8_leave x_hands x_thrown x_leftFrom x_leftTo p1 p2 p3 = some out) : ctI l yX8_leave wsX8_leave 2 46 D cy t [.ref (o_t 0), .int p1, .int p2, .int p3] (wd_X8_leave cy o_t x_thrown x_delay x_feel x_turn x_sight x_ball x_w x_h x_n x_players x_hands x_leftFrom x_leftTo) (wd_X8_leave cy o_t out.2.1 x_delay x_feel x_turn x_sight x_ball x_w x_h x_n x_players x_hands out.2.2.1 out.2.2.2) out.1 := by
  refine ⟨rfl, ?_⟩
  intro sz
  refine Met.ofW (cc := cX8_leave) (maxL := 4) (ret := (some .int)) (by decide) rfl ?_
  intro p e s m args below meth c s₁ B hml hv
  obtain ⟨rfl, hsz, hP, hK, hD0, hE⟩ := hv
  have hts := atoms_spec (ws := wsX8_leave) B.pre
  have hown : s.vm.findClass RX8 = some m.cls := findClass_of_methodNamed B.named
  have hlocks := B.notSynchronized
  subst hsz
  have hD := hD0.self (sz := s.heap.size)
  have hl := lv_entry ([.ref (o_t 0), .int p1, .int p2, .int p3]) (n := 4) (Nat.le_of_ble_eq_true rfl)
  rw [lg_entry_eq]
  generalize (lg_sl ([.ref (o_t 0), .int p1, .int p2, .int p3]) ++ List.replicate (4 - (lg_sl ([.ref (o_t 0), .int p1, .int p2, .int p3])).length) Slot.unset).toArray = ls at hl ⊢
  exact w_X8_leave D cy t o_t x_thrown x_delay x_feel x_turn x_sight x_ball x_w x_h x_n x_players x_hands x_leftFrom x_leftTo p1 p2 p3 hf B.exec B.bytes hml hown hts hK hE (fun q h => Or.inr h) hP hD va_S.rf hl (fun H locs ls pc hP hD hS hdg => W.iret B.exec B.bytes B.returns (fun t ht hW => ⟨⟨_, (), rfl, rfl, ctB_of ht hP⟩, hS.F ht⟩) hS.2.2 hdg)

noncomputable def X8_by_J52 (x_w : Int32) (x_h : Int32) (l3 : Int32) (s0 : Int32) (s1 : Int32) : Option (Int32) :=
  nm (s0 + s1) fun v53 => bd (X8_in (Int32.toInt64 l3) (0 : Int64) (Int32.toInt64 (x_w - (1 : Int32)))) fun r65 => if r65 = (0 : Int32) then (some (-9 : Int32)) else (bd (X8_in (Int32.toInt64 v53) (0 : Int64) (Int32.toInt64 (x_h - (1 : Int32)))) fun r82 => if r82 = (0 : Int32) then (some (-9 : Int32)) else (some ((v53 * x_w) + l3)))
noncomputable def X8_by_J25 (x_w : Int32) (x_h : Int32) (l1 : Int32) (l2 : Int32) (s0 : Int32) (s1 : Int32) : Option (Int32) :=
  nm (s0 + s1) fun v26 => dvI x_w <| if l2 = (2 : Int32) then (X8_by_J52 x_w x_h   v26 (l1 / x_w) (1 : Int32)) else (if l2 = (4 : Int32) then (X8_by_J52 x_w x_h   v26 (l1 / x_w) (-1 : Int32)) else (X8_by_J52 x_w x_h   v26 (l1 / x_w) (0 : Int32)))
noncomputable def X8_by (x_w : Int32) (x_h : Int32) (p1 : Int32) (p2 : Int32) : Option (Int32) :=
  dvI x_w <| if p2 = (1 : Int32) then (X8_by_J25 x_w x_h   p1 p2 (p1 - p1 / x_w * x_w) (1 : Int32)) else (if p2 = (3 : Int32) then (X8_by_J25 x_w x_h   p1 p2 (p1 - p1 / x_w * x_w) (-1 : Int32)) else (X8_by_J25 x_w x_h   p1 p2 (p1 - p1 / x_w * x_w) (0 : Int32)))
abbrev wd_X8_by (cy : Nat → ClassId) (o_t : Nat → Nat) (x_thrown : Int32) (x_delay : Int32) (x_feel : Int32) (x_turn : Int32) (x_sight : Int32) (x_ball : Int32) (x_w : Int32) (x_h : Int32) (x_n : Int32) (x_players : Int32) : va_W := [(o_t 0, .inr (8, [.int x_thrown, .ref (o_t 2), .ref (o_t 3), .ref (o_t 4), .ref (o_t 5), .ref (o_t 6), .ref (o_t 7), .ref (o_t 8), .ref (o_t 9), .ref (o_t 10), .ref (o_t 11), .int x_delay, .int x_feel, .int x_turn, .int x_sight, .ref (o_t 16), .ref (o_t 17), .ref (o_t 18), .ref (o_t 19), .int x_ball, .int x_w, .int x_h, .int x_n, .ref (o_t 24), .ref (o_t 25), .ref (o_t 26), .ref (o_t 27), .ref (o_t 28), .ref (o_t 29), .int x_players, .ref (o_t 31), .ref (o_t 32), .ref (o_t 33), .ref (o_t 34), .ref (o_t 35), .ref (o_t 36)]))]
set_option maxHeartbeats 4000000 in
set_option maxRecDepth 100000 in
theorem w_X8_by {p : Program} {l : Launch} {e : Env} {s : State} {m : MethodId} {args : Array Value} {below : List Frame} {meth : Method} {c : Code} {Q : State → Prop} {A : Nat → Prop} {H : Heap} {locs : List Loc} {ls : Array Slot} (D : va_G) (cy : Nat → ClassId) (t : Nat → Nat) (o_t : Nat → Nat) (x_thrown : Int32) (x_delay : Int32) (x_feel : Int32) (x_turn : Int32) (x_sight : Int32) (x_ball : Int32) (x_w : Int32) (x_h : Int32) (x_n : Int32) (x_players : Int32) (p1 : Int32) (p2 : Int32) {out : Int32} (hf : X8_by x_w x_h p1 p2 = some out) (hx : p.tables.exec = Jvm.exec) (hb : c.code = cX8_by) (hml : c.maxLocals = 5) (hown : s.vm.findClass RX8 = some m.cls) (hts : ∀ w ∈ wsX8_by, w.before args s = true) (hK : va_K D vwCl (TYS cy) s) (hE : EV t A s s.heap) (hA : ∀ q, s.heap.size ≤ q → A q) (hP : va_P D vwCl (wd_X8_by cy o_t x_thrown x_delay x_feel x_turn x_sight x_ball x_w x_h x_n x_players) H) (hD : va_D A (wd_X8_by cy o_t x_thrown x_delay x_feel x_turn x_sight x_ball x_w x_h x_n x_players)) (hS : va_S A s.heap H locs) (hl : lv_has ls 5 [(0, .ref (o_t 0)), (1, .int p1), (2, .int p2)]) (hR : ∀ (H : Heap) (locs : List Loc) (ls : Array Slot) (pc : Nat), va_P D vwCl (wd_X8_by cy o_t x_thrown x_delay x_feel x_turn x_sight x_ball x_w x_h x_n x_players) H → va_D A (wd_X8_by cy o_t x_thrown x_delay x_feel x_turn x_sight x_ball x_w x_h x_n x_players) → va_S A s.heap H locs → decode cX8_by pc = .ok (.ireturn, 1) → W p l e (rmm 1 25) s m args below meth c H locs 0 0 Q (F0 m pc ls [.int out])) : W p l e (rmm 1 25) s m args below meth c H locs 0 0 Q (F0 m 0 ls []) := by
  have k0 := hts (.fieldLink RX8 129 "SeaGamesModel" "w" "I") (List.mem_cons_of_mem _ (List.mem_append_left _ (List.mem_of_getElem? (i := 0) rfl)))
  have k1 : ∀ w ∈ u_ws RX8 TX8 36, w ∈ wsX8_by := fun _ h => List.mem_cons_of_mem _ (List.mem_append_right _ h)
  have k2 := hts (.fieldLink RX8 132 "SeaGamesModel" "h" "I") (List.mem_cons_of_mem _ (List.mem_append_left _ (List.mem_of_getElem? (i := 1) rfl)))
  rw [X8_by] at hf
  have h25 : ∀ (l1 : Int32) (l2 : Int32) (s0 : Int32) (s1 : Int32) (H : Heap) (locs : List Loc) (ls : Array Slot), X8_by_J25 x_w x_h l1 l2 s0 s1 = some out → va_P D vwCl (wd_X8_by cy o_t x_thrown x_delay x_feel x_turn x_sight x_ball x_w x_h x_n x_players) H → va_D A (wd_X8_by cy o_t x_thrown x_delay x_feel x_turn x_sight x_ball x_w x_h x_n x_players) → va_S A s.heap H locs → lv_has ls 5 [(0, .ref (o_t 0)), (1, .int l1), (2, .int l2)] → W p l e (rmm 1 25) s m args below meth c H locs 0 0 Q (F0 m 25 ls [.int s1, .int s0]) := by
    intro l1 l2 s0 s1 H locs ls hf hP hD hS hl
    rw [X8_by_J25] at hf
    have h52 : ∀ (l3 : Int32) (s0 : Int32) (s1 : Int32) (H : Heap) (locs : List Loc) (ls : Array Slot), X8_by_J52 x_w x_h l3 s0 s1 = some out → va_P D vwCl (wd_X8_by cy o_t x_thrown x_delay x_feel x_turn x_sight x_ball x_w x_h x_n x_players) H → va_D A (wd_X8_by cy o_t x_thrown x_delay x_feel x_turn x_sight x_ball x_w x_h x_n x_players) → va_S A s.heap H locs → lv_has ls 5 [(0, .ref (o_t 0)), (3, .int l3)] → W p l e (rmm 1 25) s m args below meth c H locs 0 0 Q (F0 m 52 ls [.int s1, .int s0]) := by
      intro l3 s0 s1 H locs ls hf hP hD hS hl
      rw [X8_by_J52] at hf
      refine lv_iadd hx hb dX8_by_52 ?_
      obtain ⟨v53, ev53, hf⟩ := nm_s hf
      refine my_topi ev53 ?_
      refine lv_istore (lv' := [(4, .int v53), (0, .ref (o_t 0)), (3, .int l3)]) hx hb dX8_by_53 hl (by decide) rfl (fun ls hl => ?_)
      refine lv_iload_n hx hb dX8_by_55 rfl (lv_at hl 2 rfl) ?_
      refine lv_i2l (v := (Int32.toInt64 l3)) hx hb dX8_by_56 rfl ?_
      refine lv_lconst (v := (0 : Int64)) hx hb dX8_by_57 (by decide) ?_
      refine lv_aload_n hx hb dX8_by_58 rfl (lv_at hl 1 rfl) ?_
      refine va_get (D := D) (ci := 8) (v := .int x_w) (C := RX8) (T := TX8) (N := 36) hx hb hts k1 hown hK hP 0 rfl rfl 20 (by decide) k0 (fun _ h9 => h9) rfl dX8_by_59 ?_
      refine lv_iconst (v := (1 : Int32)) hx hb dX8_by_62 (by decide) ?_
      refine lv_isub hx hb dX8_by_63 ?_
      refine lv_i2l (v := (Int32.toInt64 (x_w - (1 : Int32)))) hx hb dX8_by_64 rfl ?_
      obtain ⟨r65, hr65, hf⟩ := bd_s hf
      refine my_Si (WS2 := (wd_X8_by cy o_t x_thrown x_delay x_feel x_turn x_sight x_ball x_w x_h x_n x_players)) ⟨hx, hb, hml, hown, hts⟩ (c_X8_in l D cy t (Int32.toInt64 l3) (0 : Int64) (Int32.toInt64 (x_w - (1 : Int32))) hr65) (va_cwS 3 hts gX8_by_X8_in rfl rfl rfl hd_X8_in ⟨Nat.le_of_ble_eq_true rfl, Nat.le_of_ble_eq_true rfl⟩) hK hE hP hD hS hA [] 1 rfl rfl (by decide +kernel) rfl rfl hl.1 rfl (Nat.le_of_ble_eq_true rfl) dX8_by_65 ⟨Nat.le_of_ble_eq_true rfl, Nat.le_of_ble_eq_true rfl⟩ (fun H locs hP hD hS => ?_)
      refine lv_if_eq (tgt := 100) hx hb dX8_by_68 (by decide) (fun c68 => ?_) (fun c68 => ?_)
      · have hf := ifp c68 hf
        refine lv_bipush (v := (-9 : Int32)) hx hb dX8_by_100 (by decide) ?_
        obtain rfl := Option.some.inj hf
        exact hR _ _ _ _ hP hD hS dX8_by_102
      · have hf := ifn c68 hf
        refine lv_iload hx hb dX8_by_71 (lv_at hl 0 rfl) ?_
        refine lv_i2l (v := (Int32.toInt64 v53)) hx hb dX8_by_73 rfl ?_
        refine lv_lconst (v := (0 : Int64)) hx hb dX8_by_74 (by decide) ?_
        refine lv_aload_n hx hb dX8_by_75 rfl (lv_at hl 1 rfl) ?_
        refine va_get (D := D) (ci := 8) (v := .int x_h) (C := RX8) (T := TX8) (N := 36) hx hb hts k1 hown hK hP 0 rfl rfl 21 (by decide) k2 (fun _ h9 => h9) rfl dX8_by_76 ?_
        refine lv_iconst (v := (1 : Int32)) hx hb dX8_by_79 (by decide) ?_
        refine lv_isub hx hb dX8_by_80 ?_
        refine lv_i2l (v := (Int32.toInt64 (x_h - (1 : Int32)))) hx hb dX8_by_81 rfl ?_
        obtain ⟨r82, hr82, hf⟩ := bd_s hf
        refine my_Si (WS2 := (wd_X8_by cy o_t x_thrown x_delay x_feel x_turn x_sight x_ball x_w x_h x_n x_players)) ⟨hx, hb, hml, hown, hts⟩ (c_X8_in l D cy t (Int32.toInt64 v53) (0 : Int64) (Int32.toInt64 (x_h - (1 : Int32))) hr82) (va_cwS 3 hts gX8_by_X8_in rfl rfl rfl hd_X8_in ⟨Nat.le_of_ble_eq_true rfl, Nat.le_of_ble_eq_true rfl⟩) hK hE hP hD hS hA [] 1 rfl rfl (by decide +kernel) rfl rfl hl.1 rfl (Nat.le_of_ble_eq_true rfl) dX8_by_82 ⟨Nat.le_of_ble_eq_true rfl, Nat.le_of_ble_eq_true rfl⟩ (fun H locs hP hD hS => ?_)
        refine lv_if_eq (tgt := 100) hx hb dX8_by_85 (by decide) (fun c85 => ?_) (fun c85 => ?_)
        · have hf := ifp c85 hf
          refine lv_bipush (v := (-9 : Int32)) hx hb dX8_by_100 (by decide) ?_
          obtain rfl := Option.some.inj hf
          exact hR _ _ _ _ hP hD hS dX8_by_102
        · have hf := ifn c85 hf
          refine lv_iload hx hb dX8_by_88 (lv_at hl 0 rfl) ?_
          refine lv_aload_n hx hb dX8_by_90 rfl (lv_at hl 1 rfl) ?_
          refine va_get (D := D) (ci := 8) (v := .int x_w) (C := RX8) (T := TX8) (N := 36) hx hb hts k1 hown hK hP 0 rfl rfl 20 (by decide) k0 (fun _ h9 => h9) rfl dX8_by_91 ?_
          refine lv_imul hx hb dX8_by_94 ?_
          refine lv_iload_n hx hb dX8_by_95 rfl (lv_at hl 2 rfl) ?_
          refine lv_iadd hx hb dX8_by_96 ?_
          refine lv_goto (tgt := 102) hx hb dX8_by_97 (by decide) ?_
          obtain rfl := Option.some.inj hf
          exact hR _ _ _ _ hP hD hS dX8_by_102
    refine lv_iadd hx hb dX8_by_25 ?_
    obtain ⟨v26, ev26, hf⟩ := nm_s hf
    refine my_topi ev26 ?_
    refine lv_istore_n (lv' := [(3, .int v26), (0, .ref (o_t 0)), (1, .int l1), (2, .int l2)]) hx hb dX8_by_26 rfl hl (by decide) rfl (fun ls hl => ?_)
    refine lv_iload_n hx hb dX8_by_27 rfl (lv_at hl 2 rfl) ?_
    refine lv_aload_n hx hb dX8_by_28 rfl (lv_at hl 1 rfl) ?_
    refine va_get (D := D) (ci := 8) (v := .int x_w) (C := RX8) (T := TX8) (N := 36) hx hb hts k1 hown hK hP 0 rfl rfl 20 (by decide) k0 (fun _ h9 => h9) rfl dX8_by_29 ?_
    obtain ⟨z32, hf⟩ := dvI_s hf
    refine lv_idiv hx hb dX8_by_32 z32 ?_
    refine lv_iload_n hx hb dX8_by_33 rfl (lv_at hl 3 rfl) ?_
    refine lv_iconst (v := (2 : Int32)) hx hb dX8_by_34 (by decide) ?_
    refine lv_icmp_ne (tgt := 42) hx hb dX8_by_35 (by decide) (fun c35 => ?_) (fun c35 => ?_)
    · have hf := ifn c35 hf
      refine lv_iload_n hx hb dX8_by_42 rfl (lv_at hl 3 rfl) ?_
      refine lv_iconst (v := (4 : Int32)) hx hb dX8_by_43 (by decide) ?_
      refine lv_icmp_ne (tgt := 51) hx hb dX8_by_44 (by decide) (fun c44 => ?_) (fun c44 => ?_)
      · have hf := ifn c44 hf
        refine lv_iconst (v := (0 : Int32)) hx hb dX8_by_51 (by decide) ?_
        exact h52 _ _ _ _ _ _ hf hP hD hS (lv_sub hl [1, 0] rfl)
      · have hf := ifp c44 hf
        refine lv_iconst (v := (-1 : Int32)) hx hb dX8_by_47 (by decide) ?_
        refine lv_goto (tgt := 52) hx hb dX8_by_48 (by decide) ?_
        exact h52 _ _ _ _ _ _ hf hP hD hS (lv_sub hl [1, 0] rfl)
    · have hf := ifp c35 hf
      refine lv_iconst (v := (1 : Int32)) hx hb dX8_by_38 (by decide) ?_
      refine lv_goto (tgt := 52) hx hb dX8_by_39 (by decide) ?_
      exact h52 _ _ _ _ _ _ hf hP hD hS (lv_sub hl [1, 0] rfl)
  refine lv_iload_n hx hb dX8_by_0 rfl (lv_at hl 1 rfl) ?_
  refine lv_aload_n hx hb dX8_by_1 rfl (lv_at hl 0 rfl) ?_
  refine va_get (D := D) (ci := 8) (v := .int x_w) (C := RX8) (T := TX8) (N := 36) hx hb hts k1 hown hK hP 0 rfl rfl 20 (by decide) k0 (fun _ h9 => h9) rfl dX8_by_2 ?_
  obtain ⟨z5, hf⟩ := dvI_s hf
  refine lv_irem hx hb dX8_by_5 z5 ?_
  refine lv_iload_n hx hb dX8_by_6 rfl (lv_at hl 2 rfl) ?_
  refine lv_iconst (v := (1 : Int32)) hx hb dX8_by_7 (by decide) ?_
  refine lv_icmp_ne (tgt := 15) hx hb dX8_by_8 (by decide) (fun c8 => ?_) (fun c8 => ?_)
  · have hf := ifn c8 hf
    refine lv_iload_n hx hb dX8_by_15 rfl (lv_at hl 2 rfl) ?_
    refine lv_iconst (v := (3 : Int32)) hx hb dX8_by_16 (by decide) ?_
    refine lv_icmp_ne (tgt := 24) hx hb dX8_by_17 (by decide) (fun c17 => ?_) (fun c17 => ?_)
    · have hf := ifn c17 hf
      refine lv_iconst (v := (0 : Int32)) hx hb dX8_by_24 (by decide) ?_
      exact h25 _ _ _ _ _ _ _ hf hP hD hS (lv_sub hl [0, 1, 2] rfl)
    · have hf := ifp c17 hf
      refine lv_iconst (v := (-1 : Int32)) hx hb dX8_by_20 (by decide) ?_
      refine lv_goto (tgt := 25) hx hb dX8_by_21 (by decide) ?_
      exact h25 _ _ _ _ _ _ _ hf hP hD hS (lv_sub hl [0, 1, 2] rfl)
  · have hf := ifp c8 hf
    refine lv_iconst (v := (1 : Int32)) hx hb dX8_by_11 (by decide) ?_
    refine lv_goto (tgt := 25) hx hb dX8_by_12 (by decide) ?_
    exact h25 _ _ _ _ _ _ _ hf hP hD hS (lv_sub hl [0, 1, 2] rfl)
theorem hd_X8_by : yX8_by.cls ≠ "java/lang/invoke/MethodHandle" ∧ yX8_by.cls ≠ "java/lang/invoke/VarHandle" ∧ (parseMethodDescriptor yX8_by.desc).map (fun d => d.parameters.length) = some 2 := by decide +kernel
set_option maxRecDepth 100000 in
theorem c_X8_by (l : Launch) (D : va_G) (cy : Nat → ClassId) (t : Nat → Nat) (o_t : Nat → Nat) (x_thrown : Int32) (x_delay : Int32) (x_feel : Int32) (x_turn : Int32) (x_sight : Int32) (x_ball : Int32) (x_w : Int32) (x_h : Int32) (x_n : Int32) (x_players : Int32) (p1 : Int32) (p2 : Int32) {out : Int32} (hf : X8_by x_w x_h p1 p2 = some out) : ctI l yX8_by wsX8_by 1 25 D cy t [.ref (o_t 0), .int p1, .int p2] (wd_X8_by cy o_t x_thrown x_delay x_feel x_turn x_sight x_ball x_w x_h x_n x_players) (wd_X8_by cy o_t x_thrown x_delay x_feel x_turn x_sight x_ball x_w x_h x_n x_players) out := by
  refine ⟨rfl, ?_⟩
  intro sz
  refine Met.ofW (cc := cX8_by) (maxL := 5) (ret := (some .int)) (by decide) rfl ?_
  intro p e s m args below meth c s₁ B hml hv
  obtain ⟨rfl, hsz, hP, hK, hD0, hE⟩ := hv
  have hts := atoms_spec (ws := wsX8_by) B.pre
  have hown : s.vm.findClass RX8 = some m.cls := findClass_of_methodNamed B.named
  have hlocks := B.notSynchronized
  subst hsz
  have hD := hD0.self (sz := s.heap.size)
  have hl := lv_entry ([.ref (o_t 0), .int p1, .int p2]) (n := 5) (Nat.le_of_ble_eq_true rfl)
  rw [lg_entry_eq]
  generalize (lg_sl ([.ref (o_t 0), .int p1, .int p2]) ++ List.replicate (5 - (lg_sl ([.ref (o_t 0), .int p1, .int p2])).length) Slot.unset).toArray = ls at hl ⊢
  exact w_X8_by D cy t o_t x_thrown x_delay x_feel x_turn x_sight x_ball x_w x_h x_n x_players p1 p2 hf B.exec B.bytes hml hown hts hK hE (fun q h => Or.inr h) hP hD va_S.rf hl (fun H locs ls pc hP hD hS hdg => W.iret B.exec B.bytes B.returns (fun t ht hW => ⟨⟨_, (), rfl, rfl, ctB_of ht hP⟩, hS.F ht⟩) hS.2.2 hdg)

noncomputable def X8_isFree_J41 (x_n : Int32) (x_place : Nat → Int32) (rec14 : Int32 → Int32 → Int32 → Option (Int32)) (l1 : Int32) (l3 : Int32) (s0 : Int32) : Option (Int32) :=
  nm (l3 + (1 : Int32)) fun v42 => rec14  l1 s0 v42
noncomputable def X8_isFree_J40 (x_n : Int32) (x_place : Nat → Int32) (rec14 : Int32 → Int32 → Int32 → Option (Int32)) (l1 : Int32) (l3 : Int32) : Option (Int32) :=
  X8_isFree_J41 x_n x_place rec14  l1 l3 (0 : Int32)
noncomputable def X8_isFree_L14_B (x_n : Int32) (x_place : Nat → Int32) (rec14 : Int32 → Int32 → Int32 → Option (Int32)) (l1 : Int32) (l2 : Int32) (l3 : Int32) : Option (Int32) :=
  if x_n ≤ l3 then (zb l2 <| some l2) else (if l2 = (0 : Int32) then (X8_isFree_J40 x_n x_place rec14  l1 l3) else (rd x_place 6 l3 fun v31 => if v31 = l1 then (X8_isFree_J40 x_n x_place rec14  l1 l3) else (X8_isFree_J41 x_n x_place rec14  l1 l3 (1 : Int32))))
noncomputable def X8_isFree_L14 (x_n : Int32) (x_place : Nat → Int32) : Nat → Int32 → Int32 → Int32 → Option (Int32)
  | 0, _, _, _ => none
  | n + 1, y0, y1, y2 => X8_isFree_L14_B x_n x_place  (X8_isFree_L14 x_n x_place  n) y0 y1 y2
noncomputable def X8_isFree_J11 (x_n : Int32) (x_place : Nat → Int32) (l1 : Int32) (s0 : Int32) : Option (Int32) :=
  X8_isFree_L14 x_n x_place  FU  l1 s0 (0 : Int32)
noncomputable def X8_isFree (x_n : Int32) (x_place : Nat → Int32) (p1 : Int32) : Option (Int32) :=
  if p1 = (-9 : Int32) then (X8_isFree_J11 x_n x_place   p1 (0 : Int32)) else (X8_isFree_J11 x_n x_place   p1 (1 : Int32))
abbrev wd_X8_isFree (cy : Nat → ClassId) (o_t : Nat → Nat) (x_thrown : Int32) (x_delay : Int32) (x_feel : Int32) (x_turn : Int32) (x_sight : Int32) (x_ball : Int32) (x_w : Int32) (x_h : Int32) (x_n : Int32) (x_players : Int32) (x_place : Nat → Int32) : va_W := [(o_t 0, .inr (8, [.int x_thrown, .ref (o_t 2), .ref (o_t 3), .ref (o_t 4), .ref (o_t 5), .ref (o_t 6), .ref (o_t 7), .ref (o_t 8), .ref (o_t 9), .ref (o_t 10), .ref (o_t 11), .int x_delay, .int x_feel, .int x_turn, .int x_sight, .ref (o_t 16), .ref (o_t 17), .ref (o_t 18), .ref (o_t 19), .int x_ball, .int x_w, .int x_h, .int x_n, .ref (o_t 24), .ref (o_t 25), .ref (o_t 26), .ref (o_t 27), .ref (o_t 28), .ref (o_t 29), .int x_players, .ref (o_t 31), .ref (o_t 32), .ref (o_t 33), .ref (o_t 34), .ref (o_t 35), .ref (o_t 36)])), (o_t 18, .inl (cy 0, 6, .inl x_place))]
set_option maxHeartbeats 4000000 in
set_option maxRecDepth 100000 in
theorem w_X8_isFree {p : Program} {l : Launch} {e : Env} {s : State} {m : MethodId} {args : Array Value} {below : List Frame} {meth : Method} {c : Code} {Q : State → Prop} {A : Nat → Prop} {H : Heap} {locs : List Loc} {ls : Array Slot} (D : va_G) (cy : Nat → ClassId) (t : Nat → Nat) (o_t : Nat → Nat) (x_thrown : Int32) (x_delay : Int32) (x_feel : Int32) (x_turn : Int32) (x_sight : Int32) (x_ball : Int32) (x_w : Int32) (x_h : Int32) (x_n : Int32) (x_players : Int32) (x_place : Nat → Int32) (p1 : Int32) {out : Int32} (hf : X8_isFree x_n x_place p1 = some out) (hx : p.tables.exec = Jvm.exec) (hb : c.code = cX8_isFree) (hml : c.maxLocals = 4) (hown : s.vm.findClass RX8 = some m.cls) (hts : ∀ w ∈ wsX8_isFree, w.before args s = true) (hK : va_K D vwCl (TYS cy) s) (hE : EV t A s s.heap) (hA : ∀ q, s.heap.size ≤ q → A q) (hP : va_P D vwCl (wd_X8_isFree cy o_t x_thrown x_delay x_feel x_turn x_sight x_ball x_w x_h x_n x_players x_place) H) (hD : va_D A (wd_X8_isFree cy o_t x_thrown x_delay x_feel x_turn x_sight x_ball x_w x_h x_n x_players x_place)) (hS : va_S A s.heap H locs) (hl : lv_has ls 4 [(0, .ref (o_t 0)), (1, .int p1)]) (hR : ∀ (H : Heap) (locs : List Loc) (ls : Array Slot) (pc : Nat), va_P D vwCl (wd_X8_isFree cy o_t x_thrown x_delay x_feel x_turn x_sight x_ball x_w x_h x_n x_players x_place) H → va_D A (wd_X8_isFree cy o_t x_thrown x_delay x_feel x_turn x_sight x_ball x_w x_h x_n x_players x_place) → va_S A s.heap H locs → narrow .boolean (.int out) = .int out → decode cX8_isFree pc = .ok (.ireturn, 1) → W p l e (rmm 0 0) s m args below meth c H locs 0 0 Q (F0 m pc ls [.int out])) : W p l e (rmm 0 0) s m args below meth c H locs 0 0 Q (F0 m 0 ls []) := by
  have k0 := hts (.fieldLink RX8 135 "SeaGamesModel" "n" "I") (List.mem_cons_of_mem _ (List.mem_append_left _ (List.mem_of_getElem? (i := 0) rfl)))
  have k1 : ∀ w ∈ u_ws RX8 TX8 36, w ∈ wsX8_isFree := fun _ h => List.mem_cons_of_mem _ (List.mem_append_right _ h)
  have k2 := hts (.fieldLink RX8 57 "SeaGamesModel" "place" "[I") (List.mem_cons_of_mem _ (List.mem_append_left _ (List.mem_of_getElem? (i := 1) rfl)))
  rw [X8_isFree] at hf
  have h11 : ∀ (l1 : Int32) (s0 : Int32) (H : Heap) (locs : List Loc) (ls : Array Slot), X8_isFree_J11 x_n x_place l1 s0 = some out → va_P D vwCl (wd_X8_isFree cy o_t x_thrown x_delay x_feel x_turn x_sight x_ball x_w x_h x_n x_players x_place) H → va_D A (wd_X8_isFree cy o_t x_thrown x_delay x_feel x_turn x_sight x_ball x_w x_h x_n x_players x_place) → va_S A s.heap H locs → lv_has ls 4 [(0, .ref (o_t 0)), (1, .int l1)] → W p l e (rmm 0 0) s m args below meth c H locs 0 0 Q (F0 m 11 ls [.int s0]) := by
    intro l1 s0 H locs ls hf hP hD hS hl
    rw [X8_isFree_J11] at hf
    have h14 : ∀ (n14 : Nat) (l1 : Int32) (l2 : Int32) (l3 : Int32) (H : Heap) (locs : List Loc) (ls : Array Slot), X8_isFree_L14 x_n x_place n14 l1 l2 l3 = some out → va_P D vwCl (wd_X8_isFree cy o_t x_thrown x_delay x_feel x_turn x_sight x_ball x_w x_h x_n x_players x_place) H → va_D A (wd_X8_isFree cy o_t x_thrown x_delay x_feel x_turn x_sight x_ball x_w x_h x_n x_players x_place) → va_S A s.heap H locs → lv_has ls 4 [(0, .ref (o_t 0)), (1, .int l1), (2, .int l2), (3, .int l3)] → W p l e (rmm 0 0) s m args below meth c H locs 0 0 Q (F0 m 14 ls []) := by
      intro n14
      induction n14 with
      | zero =>
        intro _ _ _ _ _ _ hf
        exact nomatch (show (none : Option _) = some out from hf)
      | succ n14 ih14 =>
        intro l1 l2 l3 H locs ls hf hP hD hS hl
        have hf : X8_isFree_L14_B x_n x_place (X8_isFree_L14 x_n x_place n14) l1 l2 l3 = some out := hf
        rw [X8_isFree_L14_B] at hf
        refine lv_iload_n hx hb dX8_isFree_14 rfl (lv_at hl 3 rfl) ?_
        refine lv_aload_n hx hb dX8_isFree_15 rfl (lv_at hl 0 rfl) ?_
        refine va_get (D := D) (ci := 8) (v := .int x_n) (C := RX8) (T := TX8) (N := 36) hx hb hts k1 hown hK hP 0 rfl rfl 22 (by decide) k0 (fun _ h9 => h9) rfl dX8_isFree_16 ?_
        refine lv_icmp_ge (tgt := 48) hx hb dX8_isFree_19 (by decide) (fun c19 => ?_) (fun c19 => ?_)
        · have hf := ifp c19 hf
          refine lv_iload_n hx hb dX8_isFree_48 rfl (lv_at hl 2 rfl) ?_
          obtain ⟨z49, hf⟩ := zb_s hf
          obtain rfl := Option.some.inj hf
          exact hR _ _ _ _ hP hD hS z49 dX8_isFree_49
        · have hf := ifn c19 hf
          have h41 : ∀ (l1 : Int32) (l3 : Int32) (s0 : Int32) (H : Heap) (locs : List Loc) (ls : Array Slot), X8_isFree_J41 x_n x_place (X8_isFree_L14 x_n x_place n14) l1 l3 s0 = some out → va_P D vwCl (wd_X8_isFree cy o_t x_thrown x_delay x_feel x_turn x_sight x_ball x_w x_h x_n x_players x_place) H → va_D A (wd_X8_isFree cy o_t x_thrown x_delay x_feel x_turn x_sight x_ball x_w x_h x_n x_players x_place) → va_S A s.heap H locs → lv_has ls 4 [(0, .ref (o_t 0)), (1, .int l1), (3, .int l3)] → W p l e (rmm 0 0) s m args below meth c H locs 0 0 Q (F0 m 41 ls [.int s0]) := by
            intro l1 l3 s0 H locs ls hf hP hD hS hl
            rw [X8_isFree_J41] at hf
            refine lv_istore_n (lv' := [(2, .int s0), (0, .ref (o_t 0)), (1, .int l1), (3, .int l3)]) hx hb dX8_isFree_41 rfl hl (by decide) rfl (fun ls hl => ?_)
            obtain ⟨v42, ev42, hf⟩ := nm_s hf
            refine lv_iinc (v := v42) (lv' := [(3, .int v42), (2, .int s0), (0, .ref (o_t 0)), (1, .int l1)]) hx hb dX8_isFree_42 hl (k := 3) rfl (by rw [ev42]; rfl) (by decide) rfl (fun ls hl => ?_)
            refine lv_goto (tgt := 14) hx hb dX8_isFree_45 (by decide) ?_
            exact ih14 _ _ _ _ _ _ hf hP hD hS (lv_sub hl [2, 3, 1, 0] rfl)
          have h40 : ∀ (l1 : Int32) (l3 : Int32) (H : Heap) (locs : List Loc) (ls : Array Slot), X8_isFree_J40 x_n x_place (X8_isFree_L14 x_n x_place n14) l1 l3 = some out → va_P D vwCl (wd_X8_isFree cy o_t x_thrown x_delay x_feel x_turn x_sight x_ball x_w x_h x_n x_players x_place) H → va_D A (wd_X8_isFree cy o_t x_thrown x_delay x_feel x_turn x_sight x_ball x_w x_h x_n x_players x_place) → va_S A s.heap H locs → lv_has ls 4 [(0, .ref (o_t 0)), (1, .int l1), (3, .int l3)] → W p l e (rmm 0 0) s m args below meth c H locs 0 0 Q (F0 m 40 ls []) := by
            intro l1 l3 H locs ls hf hP hD hS hl
            rw [X8_isFree_J40] at hf
            refine lv_iconst (v := (0 : Int32)) hx hb dX8_isFree_40 (by decide) ?_
            exact h41 _ _ _ _ _ _ hf hP hD hS (lv_sub hl [0, 1, 2] rfl)
          refine lv_iload_n hx hb dX8_isFree_22 rfl (lv_at hl 2 rfl) ?_
          refine lv_if_eq (tgt := 40) hx hb dX8_isFree_23 (by decide) (fun c23 => ?_) (fun c23 => ?_)
          · have hf := ifp c23 hf
            exact h40 _ _ _ _ _ hf hP hD hS (lv_sub hl [0, 1, 3] rfl)
          · have hf := ifn c23 hf
            refine lv_aload_n hx hb dX8_isFree_26 rfl (lv_at hl 0 rfl) ?_
            refine va_get (D := D) (ci := 8) (v := .ref (o_t 18)) (C := RX8) (T := TX8) (N := 36) hx hb hts k1 hown hK hP 0 rfl rfl 17 (by decide) k2 (fun _ h9 => h9) rfl dX8_isFree_27 ?_
            refine lv_iload_n hx hb dX8_isFree_30 rfl (lv_at hl 3 rfl) ?_
            obtain ⟨v31, b31, ev31, hf⟩ := rd_s hf
            refine my_iald hx hb hK hP 1 rfl b31 ev31 dX8_isFree_31 ?_
            refine lv_iload_n hx hb dX8_isFree_32 rfl (lv_at hl 1 rfl) ?_
            refine lv_icmp_eq (tgt := 40) hx hb dX8_isFree_33 (by decide) (fun c33 => ?_) (fun c33 => ?_)
            · have hf := ifp c33 hf
              exact h40 _ _ _ _ _ hf hP hD hS (lv_sub hl [0, 1, 3] rfl)
            · have hf := ifn c33 hf
              refine lv_iconst (v := (1 : Int32)) hx hb dX8_isFree_36 (by decide) ?_
              refine lv_goto (tgt := 41) hx hb dX8_isFree_37 (by decide) ?_
              exact h41 _ _ _ _ _ _ hf hP hD hS (lv_sub hl [0, 1, 3] rfl)
    refine lv_istore_n (lv' := [(2, .int s0), (0, .ref (o_t 0)), (1, .int l1)]) hx hb dX8_isFree_11 rfl hl (by decide) rfl (fun ls hl => ?_)
    refine lv_iconst (v := (0 : Int32)) hx hb dX8_isFree_12 (by decide) ?_
    refine lv_istore_n (lv' := [(3, .int (0 : Int32)), (2, .int s0), (0, .ref (o_t 0)), (1, .int l1)]) hx hb dX8_isFree_13 rfl hl (by decide) rfl (fun ls hl => ?_)
    exact h14 FU _ _ _ _ _ _ hf hP hD hS (lv_sub hl [2, 3, 1, 0] rfl)
  refine lv_iload_n hx hb dX8_isFree_0 rfl (lv_at hl 1 rfl) ?_
  refine lv_bipush (v := (-9 : Int32)) hx hb dX8_isFree_1 (by decide) ?_
  refine lv_icmp_eq (tgt := 10) hx hb dX8_isFree_3 (by decide) (fun c3 => ?_) (fun c3 => ?_)
  · have hf := ifp c3 hf
    refine lv_iconst (v := (0 : Int32)) hx hb dX8_isFree_10 (by decide) ?_
    exact h11 _ _ _ _ _ hf hP hD hS (lv_sub hl [0, 1] rfl)
  · have hf := ifn c3 hf
    refine lv_iconst (v := (1 : Int32)) hx hb dX8_isFree_6 (by decide) ?_
    refine lv_goto (tgt := 11) hx hb dX8_isFree_7 (by decide) ?_
    exact h11 _ _ _ _ _ hf hP hD hS (lv_sub hl [0, 1] rfl)
theorem hd_X8_isFree : yX8_isFree.cls ≠ "java/lang/invoke/MethodHandle" ∧ yX8_isFree.cls ≠ "java/lang/invoke/VarHandle" ∧ (parseMethodDescriptor yX8_isFree.desc).map (fun d => d.parameters.length) = some 1 := by decide +kernel
set_option maxRecDepth 100000 in
theorem c_X8_isFree (l : Launch) (D : va_G) (cy : Nat → ClassId) (t : Nat → Nat) (o_t : Nat → Nat) (x_thrown : Int32) (x_delay : Int32) (x_feel : Int32) (x_turn : Int32) (x_sight : Int32) (x_ball : Int32) (x_w : Int32) (x_h : Int32) (x_n : Int32) (x_players : Int32) (x_place : Nat → Int32) (p1 : Int32) {out : Int32} (hf : X8_isFree x_n x_place p1 = some out) : ctI l yX8_isFree wsX8_isFree 0 0 D cy t [.ref (o_t 0), .int p1] (wd_X8_isFree cy o_t x_thrown x_delay x_feel x_turn x_sight x_ball x_w x_h x_n x_players x_place) (wd_X8_isFree cy o_t x_thrown x_delay x_feel x_turn x_sight x_ball x_w x_h x_n x_players x_place) out := by
  refine ⟨rfl, ?_⟩
  intro sz
  refine Met.ofW (cc := cX8_isFree) (maxL := 4) (ret := (some .boolean)) (by decide) rfl ?_
  intro p e s m args below meth c s₁ B hml hv
  obtain ⟨rfl, hsz, hP, hK, hD0, hE⟩ := hv
  have hts := atoms_spec (ws := wsX8_isFree) B.pre
  have hown : s.vm.findClass RX8 = some m.cls := findClass_of_methodNamed B.named
  have hlocks := B.notSynchronized
  subst hsz
  have hD := hD0.self (sz := s.heap.size)
  have hl := lv_entry ([.ref (o_t 0), .int p1]) (n := 4) (Nat.le_of_ble_eq_true rfl)
  rw [lg_entry_eq]
  generalize (lg_sl ([.ref (o_t 0), .int p1]) ++ List.replicate (4 - (lg_sl ([.ref (o_t 0), .int p1])).length) Slot.unset).toArray = ls at hl ⊢
  exact w_X8_isFree D cy t o_t x_thrown x_delay x_feel x_turn x_sight x_ball x_w x_h x_n x_players x_place p1 hf B.exec B.bytes hml hown hts hK hE (fun q h => Or.inr h) hP hD va_S.rf hl (fun H locs ls pc hP hD hS z hdg => W.zret B.exec B.bytes B.returns z (fun t ht hW => ⟨⟨_, (), rfl, rfl, ctB_of ht hP⟩, hS.F ht⟩) hS.2.2 hdg)

noncomputable def X8_besideBall_J33 (x_ball : Int32) (x_w : Int32) (x_h : Int32) (x_place : Nat → Int32) (rec5 : Int32 → Int32 → Int32 → Option (Int32)) (l1 : Int32) (l3 : Int32) (s0 : Int32) : Option (Int32) :=
  nm (l3 + (-1 : Int32)) fun v34 => rec5  l1 s0 v34
noncomputable def X8_besideBall_L5_B (x_ball : Int32) (x_w : Int32) (x_h : Int32) (x_place : Nat → Int32) (rec5 : Int32 → Int32 → Int32 → Option (Int32)) (l1 : Int32) (l2 : Int32) (l3 : Int32) : Option (Int32) :=
  if l3 < (1 : Int32) then (some l2) else (rd x_place 6 l1 fun v16 => bd (X8_by x_w x_h v16 l3) fun r18 => if r18 = x_ball then (X8_besideBall_J33 x_ball x_w x_h x_place rec5  l1 l3 l3) else (X8_besideBall_J33 x_ball x_w x_h x_place rec5  l1 l3 l2))
noncomputable def X8_besideBall_L5 (x_ball : Int32) (x_w : Int32) (x_h : Int32) (x_place : Nat → Int32) : Nat → Int32 → Int32 → Int32 → Option (Int32)
  | 0, _, _, _ => none
  | n + 1, y0, y1, y2 => X8_besideBall_L5_B x_ball x_w x_h x_place  (X8_besideBall_L5 x_ball x_w x_h x_place  n) y0 y1 y2
noncomputable def X8_besideBall (x_ball : Int32) (x_w : Int32) (x_h : Int32) (x_place : Nat → Int32) (p1 : Int32) : Option (Int32) :=
  X8_besideBall_L5 x_ball x_w x_h x_place  FU  p1 (-9 : Int32) (4 : Int32)
abbrev wd_X8_besideBall (cy : Nat → ClassId) (o_t : Nat → Nat) (x_thrown : Int32) (x_delay : Int32) (x_feel : Int32) (x_turn : Int32) (x_sight : Int32) (x_ball : Int32) (x_w : Int32) (x_h : Int32) (x_n : Int32) (x_players : Int32) (x_place : Nat → Int32) : va_W := [(o_t 0, .inr (8, [.int x_thrown, .ref (o_t 2), .ref (o_t 3), .ref (o_t 4), .ref (o_t 5), .ref (o_t 6), .ref (o_t 7), .ref (o_t 8), .ref (o_t 9), .ref (o_t 10), .ref (o_t 11), .int x_delay, .int x_feel, .int x_turn, .int x_sight, .ref (o_t 16), .ref (o_t 17), .ref (o_t 18), .ref (o_t 19), .int x_ball, .int x_w, .int x_h, .int x_n, .ref (o_t 24), .ref (o_t 25), .ref (o_t 26), .ref (o_t 27), .ref (o_t 28), .ref (o_t 29), .int x_players, .ref (o_t 31), .ref (o_t 32), .ref (o_t 33), .ref (o_t 34), .ref (o_t 35), .ref (o_t 36)])), (o_t 18, .inl (cy 0, 6, .inl x_place))]
set_option maxHeartbeats 4000000 in
set_option maxRecDepth 100000 in
theorem w_X8_besideBall {p : Program} {l : Launch} {e : Env} {s : State} {m : MethodId} {args : Array Value} {below : List Frame} {meth : Method} {c : Code} {Q : State → Prop} {A : Nat → Prop} {H : Heap} {locs : List Loc} {ls : Array Slot} (D : va_G) (cy : Nat → ClassId) (t : Nat → Nat) (o_t : Nat → Nat) (x_thrown : Int32) (x_delay : Int32) (x_feel : Int32) (x_turn : Int32) (x_sight : Int32) (x_ball : Int32) (x_w : Int32) (x_h : Int32) (x_n : Int32) (x_players : Int32) (x_place : Nat → Int32) (p1 : Int32) {out : Int32} (hf : X8_besideBall x_ball x_w x_h x_place p1 = some out) (hx : p.tables.exec = Jvm.exec) (hb : c.code = cX8_besideBall) (hml : c.maxLocals = 4) (hown : s.vm.findClass RX8 = some m.cls) (hts : ∀ w ∈ wsX8_besideBall, w.before args s = true) (hK : va_K D vwCl (TYS cy) s) (hE : EV t A s s.heap) (hA : ∀ q, s.heap.size ≤ q → A q) (hP : va_P D vwCl (wd_X8_besideBall cy o_t x_thrown x_delay x_feel x_turn x_sight x_ball x_w x_h x_n x_players x_place) H) (hD : va_D A (wd_X8_besideBall cy o_t x_thrown x_delay x_feel x_turn x_sight x_ball x_w x_h x_n x_players x_place)) (hS : va_S A s.heap H locs) (hl : lv_has ls 4 [(0, .ref (o_t 0)), (1, .int p1)]) (hR : ∀ (H : Heap) (locs : List Loc) (ls : Array Slot) (pc : Nat), va_P D vwCl (wd_X8_besideBall cy o_t x_thrown x_delay x_feel x_turn x_sight x_ball x_w x_h x_n x_players x_place) H → va_D A (wd_X8_besideBall cy o_t x_thrown x_delay x_feel x_turn x_sight x_ball x_w x_h x_n x_players x_place) → va_S A s.heap H locs → decode cX8_besideBall pc = .ok (.ireturn, 1) → W p l e (rmm 2 49) s m args below meth c H locs 0 0 Q (F0 m pc ls [.int out])) : W p l e (rmm 2 49) s m args below meth c H locs 0 0 Q (F0 m 0 ls []) := by
  have k0 := hts (.fieldLink RX8 57 "SeaGamesModel" "place" "[I") (List.mem_cons_of_mem _ (List.mem_append_left _ (List.mem_of_getElem? (i := 0) rfl)))
  have k1 : ∀ w ∈ u_ws RX8 TX8 36, w ∈ wsX8_besideBall := fun _ h => List.mem_cons_of_mem _ (List.mem_append_right _ h)
  have k2 := hts (.fieldLink RX8 138 "SeaGamesModel" "ball" "I") (List.mem_cons_of_mem _ (List.mem_append_left _ (List.mem_of_getElem? (i := 1) rfl)))
  rw [X8_besideBall] at hf
  have h5 : ∀ (n5 : Nat) (l1 : Int32) (l2 : Int32) (l3 : Int32) (H : Heap) (locs : List Loc) (ls : Array Slot), X8_besideBall_L5 x_ball x_w x_h x_place n5 l1 l2 l3 = some out → va_P D vwCl (wd_X8_besideBall cy o_t x_thrown x_delay x_feel x_turn x_sight x_ball x_w x_h x_n x_players x_place) H → va_D A (wd_X8_besideBall cy o_t x_thrown x_delay x_feel x_turn x_sight x_ball x_w x_h x_n x_players x_place) → va_S A s.heap H locs → lv_has ls 4 [(0, .ref (o_t 0)), (1, .int l1), (2, .int l2), (3, .int l3)] → W p l e (rmm 2 49) s m args below meth c H locs 0 0 Q (F0 m 5 ls []) := by
    intro n5
    induction n5 with
    | zero =>
      intro _ _ _ _ _ _ hf
      exact nomatch (show (none : Option _) = some out from hf)
    | succ n5 ih5 =>
      intro l1 l2 l3 H locs ls hf hP hD hS hl
      have hf : X8_besideBall_L5_B x_ball x_w x_h x_place (X8_besideBall_L5 x_ball x_w x_h x_place n5) l1 l2 l3 = some out := hf
      rw [X8_besideBall_L5_B] at hf
      refine lv_iload_n hx hb dX8_besideBall_5 rfl (lv_at hl 3 rfl) ?_
      refine lv_iconst (v := (1 : Int32)) hx hb dX8_besideBall_6 (by decide) ?_
      refine lv_icmp_lt (tgt := 40) hx hb dX8_besideBall_7 (by decide) (fun c7 => ?_) (fun c7 => ?_)
      · have hf := ifp c7 hf
        refine lv_iload_n hx hb dX8_besideBall_40 rfl (lv_at hl 2 rfl) ?_
        obtain rfl := Option.some.inj hf
        exact hR _ _ _ _ hP hD hS dX8_besideBall_41
      · have hf := ifn c7 hf
        have h33 : ∀ (l1 : Int32) (l3 : Int32) (s0 : Int32) (H : Heap) (locs : List Loc) (ls : Array Slot), X8_besideBall_J33 x_ball x_w x_h x_place (X8_besideBall_L5 x_ball x_w x_h x_place n5) l1 l3 s0 = some out → va_P D vwCl (wd_X8_besideBall cy o_t x_thrown x_delay x_feel x_turn x_sight x_ball x_w x_h x_n x_players x_place) H → va_D A (wd_X8_besideBall cy o_t x_thrown x_delay x_feel x_turn x_sight x_ball x_w x_h x_n x_players x_place) → va_S A s.heap H locs → lv_has ls 4 [(0, .ref (o_t 0)), (1, .int l1), (3, .int l3)] → W p l e (rmm 2 49) s m args below meth c H locs 0 0 Q (F0 m 33 ls [.int s0]) := by
          intro l1 l3 s0 H locs ls hf hP hD hS hl
          rw [X8_besideBall_J33] at hf
          refine lv_istore_n (lv' := [(2, .int s0), (0, .ref (o_t 0)), (1, .int l1), (3, .int l3)]) hx hb dX8_besideBall_33 rfl hl (by decide) rfl (fun ls hl => ?_)
          obtain ⟨v34, ev34, hf⟩ := nm_s hf
          refine lv_iinc (v := v34) (lv' := [(3, .int v34), (2, .int s0), (0, .ref (o_t 0)), (1, .int l1)]) hx hb dX8_besideBall_34 hl (k := 3) rfl (by rw [ev34]; rfl) (by decide) rfl (fun ls hl => ?_)
          refine lv_goto (tgt := 5) hx hb dX8_besideBall_37 (by decide) ?_
          exact ih5 _ _ _ _ _ _ hf hP hD hS (lv_sub hl [2, 3, 1, 0] rfl)
        refine lv_aload_n hx hb dX8_besideBall_10 rfl (lv_at hl 0 rfl) ?_
        refine lv_aload_n hx hb dX8_besideBall_11 rfl (lv_at hl 0 rfl) ?_
        refine va_get (D := D) (ci := 8) (v := .ref (o_t 18)) (C := RX8) (T := TX8) (N := 36) hx hb hts k1 hown hK hP 0 rfl rfl 17 (by decide) k0 (fun _ h9 => h9) rfl dX8_besideBall_12 ?_
        refine lv_iload_n hx hb dX8_besideBall_15 rfl (lv_at hl 1 rfl) ?_
        obtain ⟨v16, b16, ev16, hf⟩ := rd_s hf
        refine my_iald hx hb hK hP 1 rfl b16 ev16 dX8_besideBall_16 ?_
        refine lv_iload_n hx hb dX8_besideBall_17 rfl (lv_at hl 3 rfl) ?_
        obtain ⟨r18, hr18, hf⟩ := bd_s hf
        refine my_Vi (WS2 := (wd_X8_besideBall cy o_t x_thrown x_delay x_feel x_turn x_sight x_ball x_w x_h x_n x_players x_place)) ⟨hx, hb, hml, hown, hts⟩ (c_X8_by l D cy t o_t x_thrown x_delay x_feel x_turn x_sight x_ball x_w x_h x_n x_players v16 l3 hr18) (cwV 2 hts gX8_besideBall_X8_by rfl rfl rfl ⟨rfl, hd_X8_by⟩ ⟨Nat.le_of_ble_eq_true rfl, Nat.le_of_ble_eq_true rfl⟩) hK hE hP hD hS hA [0] 2 8 0 rfl rfl rfl rfl (by decide +kernel) rfl rfl hl.1 rfl (Nat.le_of_ble_eq_true rfl) dX8_besideBall_18 ⟨Nat.le_of_ble_eq_true rfl, Nat.le_of_ble_eq_true rfl⟩ (fun H locs hP hD hS => ?_)
        refine lv_aload_n hx hb dX8_besideBall_21 rfl (lv_at hl 0 rfl) ?_
        refine va_get (D := D) (ci := 8) (v := .int x_ball) (C := RX8) (T := TX8) (N := 36) hx hb hts k1 hown hK hP 0 rfl rfl 19 (by decide) k2 (fun _ h9 => h9) rfl dX8_besideBall_22 ?_
        refine lv_icmp_ne (tgt := 32) hx hb dX8_besideBall_25 (by decide) (fun c25 => ?_) (fun c25 => ?_)
        · have hf := ifn c25 hf
          refine lv_iload_n hx hb dX8_besideBall_32 rfl (lv_at hl 2 rfl) ?_
          exact h33 _ _ _ _ _ _ hf hP hD hS (lv_sub hl [0, 1, 3] rfl)
        · have hf := ifp c25 hf
          refine lv_iload_n hx hb dX8_besideBall_28 rfl (lv_at hl 3 rfl) ?_
          refine lv_goto (tgt := 33) hx hb dX8_besideBall_29 (by decide) ?_
          exact h33 _ _ _ _ _ _ hf hP hD hS (lv_sub hl [0, 1, 3] rfl)
  refine lv_bipush (v := (-9 : Int32)) hx hb dX8_besideBall_0 (by decide) ?_
  refine lv_istore_n (lv' := [(2, .int (-9 : Int32)), (0, .ref (o_t 0)), (1, .int p1)]) hx hb dX8_besideBall_2 rfl hl (by decide) rfl (fun ls hl => ?_)
  refine lv_iconst (v := (4 : Int32)) hx hb dX8_besideBall_3 (by decide) ?_
  refine lv_istore_n (lv' := [(3, .int (4 : Int32)), (2, .int (-9 : Int32)), (0, .ref (o_t 0)), (1, .int p1)]) hx hb dX8_besideBall_4 rfl hl (by decide) rfl (fun ls hl => ?_)
  exact h5 FU _ _ _ _ _ _ hf hP hD hS (lv_sub hl [2, 3, 1, 0] rfl)
theorem hd_X8_besideBall : yX8_besideBall.cls ≠ "java/lang/invoke/MethodHandle" ∧ yX8_besideBall.cls ≠ "java/lang/invoke/VarHandle" ∧ (parseMethodDescriptor yX8_besideBall.desc).map (fun d => d.parameters.length) = some 1 := by decide +kernel
set_option maxRecDepth 100000 in
theorem c_X8_besideBall (l : Launch) (D : va_G) (cy : Nat → ClassId) (t : Nat → Nat) (o_t : Nat → Nat) (x_thrown : Int32) (x_delay : Int32) (x_feel : Int32) (x_turn : Int32) (x_sight : Int32) (x_ball : Int32) (x_w : Int32) (x_h : Int32) (x_n : Int32) (x_players : Int32) (x_place : Nat → Int32) (p1 : Int32) {out : Int32} (hf : X8_besideBall x_ball x_w x_h x_place p1 = some out) : ctI l yX8_besideBall wsX8_besideBall 2 49 D cy t [.ref (o_t 0), .int p1] (wd_X8_besideBall cy o_t x_thrown x_delay x_feel x_turn x_sight x_ball x_w x_h x_n x_players x_place) (wd_X8_besideBall cy o_t x_thrown x_delay x_feel x_turn x_sight x_ball x_w x_h x_n x_players x_place) out := by
  refine ⟨rfl, ?_⟩
  intro sz
  refine Met.ofW (cc := cX8_besideBall) (maxL := 4) (ret := (some .int)) (by decide) rfl ?_
  intro p e s m args below meth c s₁ B hml hv
  obtain ⟨rfl, hsz, hP, hK, hD0, hE⟩ := hv
  have hts := atoms_spec (ws := wsX8_besideBall) B.pre
  have hown : s.vm.findClass RX8 = some m.cls := findClass_of_methodNamed B.named
  have hlocks := B.notSynchronized
  subst hsz
  have hD := hD0.self (sz := s.heap.size)
  have hl := lv_entry ([.ref (o_t 0), .int p1]) (n := 4) (Nat.le_of_ble_eq_true rfl)
  rw [lg_entry_eq]
  generalize (lg_sl ([.ref (o_t 0), .int p1]) ++ List.replicate (4 - (lg_sl ([.ref (o_t 0), .int p1])).length) Slot.unset).toArray = ls at hl ⊢
  exact w_X8_besideBall D cy t o_t x_thrown x_delay x_feel x_turn x_sight x_ball x_w x_h x_n x_players x_place p1 hf B.exec B.bytes hml hown hts hK hE (fun q h => Or.inr h) hP hD va_S.rf hl (fun H locs ls pc hP hD hS hdg => W.iret B.exec B.bytes B.returns (fun t ht hW => ⟨⟨_, (), rfl, rfl, ctB_of ht hP⟩, hS.F ht⟩) hS.2.2 hdg)

noncomputable def X8_act_J179 (x_w : Int32) (x_h : Int32) (x_n : Int32) (rec135 : Int32 → (Nat → Int32) → Int32 → Int32 → Int32 → Option (Int32 × (Nat → Int32))) (x_ball : Int32) (x_place : Nat → Int32) (l3 : Int32) (l4 : Int32) (l5 : Int32) (s1 : Int32) : Option (Int32 × (Nat → Int32)) :=
  nm (l5 + (1 : Int32)) fun v182 => rec135 s1 x_place l3 l4 v182
noncomputable def X8_act_L135_B (x_w : Int32) (x_h : Int32) (x_n : Int32) (rec135 : Int32 → (Nat → Int32) → Int32 → Int32 → Int32 → Option (Int32 × (Nat → Int32))) (x_ball : Int32) (x_place : Nat → Int32) (l3 : Int32) (l4 : Int32) (l5 : Int32) : Option (Int32 × (Nat → Int32)) :=
  if l3 ≤ l5 then (some (x_ball, x_place)) else (if l4 = (-9 : Int32) then (some (x_ball, x_place)) else (bd (X8_by x_w x_h x_ball l4) fun r155 => bd (X8_isFree x_n x_place r155) fun r164 => if r164 = (0 : Int32) then (X8_act_J179 x_w x_h x_n rec135 x_ball x_place l3 l4 l5 x_ball) else (X8_act_J179 x_w x_h x_n rec135 x_ball x_place l3 l4 l5 r155)))
noncomputable def X8_act_L135 (x_w : Int32) (x_h : Int32) (x_n : Int32) : Nat → Int32 → (Nat → Int32) → Int32 → Int32 → Int32 → Option (Int32 × (Nat → Int32))
  | 0, _, _, _, _, _ => none
  | n + 1, y0, y1, y2, y3, y4 => X8_act_L135_B x_w x_h x_n  (X8_act_L135 x_w x_h x_n  n) y0 y1 y2 y3 y4
noncomputable def X8_act_J116 (x_w : Int32) (x_h : Int32) (x_n : Int32) (x_ball : Int32) (x_place : Nat → Int32) (s1 : Int32) (s2 : Int32) : Option (Int32 × (Nat → Int32)) :=
  wrI x_place 6 s1 s2 fun w116 => some (x_ball, w116)
noncomputable def X8_act_J92 (x_w : Int32) (x_h : Int32) (x_n : Int32) (x_ball : Int32) (x_place : Nat → Int32) (l1 : Int32) (l4 : Int32) (l6 : Int32) (s1 : Int32) : Option (Int32 × (Nat → Int32)) :=
  if l6 = (0 : Int32) then (rd x_place 6 l1 fun v115 => X8_act_J116 x_w x_h x_n  s1 x_place l1 v115) else (X8_act_J116 x_w x_h x_n  s1 x_place l1 l4)
noncomputable def X8_act_J88 (x_w : Int32) (x_h : Int32) (x_n : Int32) (x_ball : Int32) (x_place : Nat → Int32) (l1 : Int32) (l4 : Int32) (l6 : Int32) : Option (Int32 × (Nat → Int32)) :=
  X8_act_J92 x_w x_h x_n  x_ball x_place l1 l4 l6 x_ball
noncomputable def X8_act_J66 (x_w : Int32) (x_h : Int32) (x_n : Int32) (x_ball : Int32) (x_place : Nat → Int32) (l1 : Int32) (l4 : Int32) (l5 : Int32) (s0 : Int32) : Option (Int32 × (Nat → Int32)) :=
  if l4 = x_ball then (if s0 = (0 : Int32) then (X8_act_J88 x_w x_h x_n  x_ball x_place l1 l4 s0) else (X8_act_J92 x_w x_h x_n  x_ball x_place l1 l4 s0 l5)) else (X8_act_J88 x_w x_h x_n  x_ball x_place l1 l4 s0)
noncomputable def X8_act_J61 (x_w : Int32) (x_h : Int32) (x_n : Int32) (x_ball : Int32) (x_place : Nat → Int32) (l1 : Int32) (l4 : Int32) (l5 : Int32) : Option (Int32 × (Nat → Int32)) :=
  X8_act_J66 x_w x_h x_n  x_ball x_place l1 l4 l5 (1 : Int32)
noncomputable def X8_act (x_w : Int32) (x_h : Int32) (x_n : Int32) (x_ball : Int32) (x_place : Nat → Int32) (p1 : Int32) (p2 : Int32) (p3 : Int32) : Option (Int32 × (Nat → Int32)) :=
  bd (X8_in (Int32.toInt64 p2) (1 : Int64) (4 : Int64)) fun r6 => if r6 = (0 : Int32) then (if p2 = (5 : Int32) then (bd (X8_besideBall x_ball x_w x_h x_place p1) fun r127 => X8_act_L135 x_w x_h x_n  FU x_ball x_place p3 r127 (0 : Int32)) else (some (x_ball, x_place))) else (rd x_place 6 p1 fun v18 => bd (X8_by x_w x_h v18 p2) fun r20 => bd (X8_isFree x_n x_place r20) fun r28 => if r28 = (0 : Int32) then (some (x_ball, x_place)) else (bd (X8_by x_w x_h r20 p2) fun r38 => if r20 = x_ball then (bd (X8_isFree x_n x_place r38) fun r55 => if r55 = (0 : Int32) then (X8_act_J66 x_w x_h x_n  x_ball x_place p1 r20 r38 (0 : Int32)) else (X8_act_J61 x_w x_h x_n  x_ball x_place p1 r20 r38)) else (X8_act_J61 x_w x_h x_n  x_ball x_place p1 r20 r38)))
abbrev wd_X8_act (cy : Nat → ClassId) (o_t : Nat → Nat) (x_thrown : Int32) (x_delay : Int32) (x_feel : Int32) (x_turn : Int32) (x_sight : Int32) (x_ball : Int32) (x_w : Int32) (x_h : Int32) (x_n : Int32) (x_players : Int32) (x_place : Nat → Int32) : va_W := [(o_t 0, .inr (8, [.int x_thrown, .ref (o_t 2), .ref (o_t 3), .ref (o_t 4), .ref (o_t 5), .ref (o_t 6), .ref (o_t 7), .ref (o_t 8), .ref (o_t 9), .ref (o_t 10), .ref (o_t 11), .int x_delay, .int x_feel, .int x_turn, .int x_sight, .ref (o_t 16), .ref (o_t 17), .ref (o_t 18), .ref (o_t 19), .int x_ball, .int x_w, .int x_h, .int x_n, .ref (o_t 24), .ref (o_t 25), .ref (o_t 26), .ref (o_t 27), .ref (o_t 28), .ref (o_t 29), .int x_players, .ref (o_t 31), .ref (o_t 32), .ref (o_t 33), .ref (o_t 34), .ref (o_t 35), .ref (o_t 36)])), (o_t 18, .inl (cy 0, 6, .inl x_place))]
set_option maxHeartbeats 4000000 in
set_option maxRecDepth 100000 in
theorem w_X8_act {p : Program} {l : Launch} {e : Env} {s : State} {m : MethodId} {args : Array Value} {below : List Frame} {meth : Method} {c : Code} {Q : State → Prop} {A : Nat → Prop} {H : Heap} {locs : List Loc} {ls : Array Slot} (D : va_G) (cy : Nat → ClassId) (t : Nat → Nat) (o_t : Nat → Nat) (x_thrown : Int32) (x_delay : Int32) (x_feel : Int32) (x_turn : Int32) (x_sight : Int32) (x_ball : Int32) (x_w : Int32) (x_h : Int32) (x_n : Int32) (x_players : Int32) (x_place : Nat → Int32) (p1 : Int32) (p2 : Int32) (p3 : Int32) {out : Int32 × (Nat → Int32)} (hf : X8_act x_w x_h x_n x_ball x_place p1 p2 p3 = some out) (hx : p.tables.exec = Jvm.exec) (hb : c.code = cX8_act) (hml : c.maxLocals = 7) (hown : s.vm.findClass RX8 = some m.cls) (hts : ∀ w ∈ wsX8_act, w.before args s = true) (hK : va_K D vwCl (TYS cy) s) (hE : EV t A s s.heap) (hA : ∀ q, s.heap.size ≤ q → A q) (hP : va_P D vwCl (wd_X8_act cy o_t x_thrown x_delay x_feel x_turn x_sight x_ball x_w x_h x_n x_players x_place) H) (hD : va_D A (wd_X8_act cy o_t x_thrown x_delay x_feel x_turn x_sight x_ball x_w x_h x_n x_players x_place)) (hS : va_S A s.heap H locs) (hl : lv_has ls 7 [(0, .ref (o_t 0)), (1, .int p1), (2, .int p2), (3, .int p3)]) (hR : ∀ (H : Heap) (locs : List Loc) (ls : Array Slot) (pc : Nat), va_P D vwCl (wd_X8_act cy o_t x_thrown x_delay x_feel x_turn x_sight out.1 x_w x_h x_n x_players out.2) H → va_D A (wd_X8_act cy o_t x_thrown x_delay x_feel x_turn x_sight out.1 x_w x_h x_n x_players out.2) → va_S A s.heap H locs → decode cX8_act pc = .ok (.return_, 1) → W p l e (rmm 3 72) s m args below meth c H locs 0 0 Q (F0 m pc ls [])) : W p l e (rmm 3 72) s m args below meth c H locs 0 0 Q (F0 m 0 ls []) := by
  have k0 := hts (.constantLong RX8 152 (4)) (List.mem_cons_of_mem _ (List.mem_append_left _ (List.mem_of_getElem? (i := 0) rfl)))
  have k1 := hts (.fieldLink RX8 138 "SeaGamesModel" "ball" "I") (List.mem_cons_of_mem _ (List.mem_append_left _ (List.mem_of_getElem? (i := 2) rfl)))
  have k2 : ∀ w ∈ u_ws RX8 TX8 36, w ∈ wsX8_act := fun _ h => List.mem_cons_of_mem _ (List.mem_append_right _ h)
  have k3 := hts (.fieldLink RX8 57 "SeaGamesModel" "place" "[I") (List.mem_cons_of_mem _ (List.mem_append_left _ (List.mem_of_getElem? (i := 1) rfl)))
  rw [X8_act] at hf
  refine lv_iload_n hx hb dX8_act_0 rfl (lv_at hl 2 rfl) ?_
  refine lv_i2l (v := (Int32.toInt64 p2)) hx hb dX8_act_1 rfl ?_
  refine lv_lconst (v := (1 : Int64)) hx hb dX8_act_2 (by decide) ?_
  refine lv_ldc2 (v := (4 : Int64)) hx hb hown k0 dX8_act_3 ?_
  obtain ⟨r6, hr6, hf⟩ := bd_s hf
  refine my_Si (WS2 := (wd_X8_act cy o_t x_thrown x_delay x_feel x_turn x_sight x_ball x_w x_h x_n x_players x_place)) ⟨hx, hb, hml, hown, hts⟩ (c_X8_in l D cy t (Int32.toInt64 p2) (1 : Int64) (4 : Int64) hr6) (va_cwS 3 hts gX8_act_X8_in rfl rfl rfl hd_X8_in ⟨Nat.le_of_ble_eq_true rfl, Nat.le_of_ble_eq_true rfl⟩) hK hE hP hD hS hA [] 2 rfl rfl (by decide +kernel) rfl rfl hl.1 rfl (Nat.le_of_ble_eq_true rfl) dX8_act_6 ⟨Nat.le_of_ble_eq_true rfl, Nat.le_of_ble_eq_true rfl⟩ (fun H locs hP hD hS => ?_)
  refine lv_if_eq (tgt := 120) hx hb dX8_act_9 (by decide) (fun c9 => ?_) (fun c9 => ?_)
  · have hf := ifp c9 hf
    refine lv_iload_n hx hb dX8_act_120 rfl (lv_at hl 2 rfl) ?_
    refine lv_iconst (v := (5 : Int32)) hx hb dX8_act_121 (by decide) ?_
    refine lv_icmp_ne (tgt := 188) hx hb dX8_act_122 (by decide) (fun c122 => ?_) (fun c122 => ?_)
    · have hf := ifn c122 hf
      obtain rfl := Option.some.inj hf
      exact hR _ _ _ _ hP hD hS dX8_act_188
    · have hf := ifp c122 hf
      have h135 : ∀ (n135 : Nat) (x_ball : Int32) (x_place : Nat → Int32) (l3 : Int32) (l4 : Int32) (l5 : Int32) (H : Heap) (locs : List Loc) (ls : Array Slot), X8_act_L135 x_w x_h x_n n135 x_ball x_place l3 l4 l5 = some out → va_P D vwCl (wd_X8_act cy o_t x_thrown x_delay x_feel x_turn x_sight x_ball x_w x_h x_n x_players x_place) H → va_D A (wd_X8_act cy o_t x_thrown x_delay x_feel x_turn x_sight x_ball x_w x_h x_n x_players x_place) → va_S A s.heap H locs → lv_has ls 7 [(0, .ref (o_t 0)), (3, .int l3), (4, .int l4), (5, .int l5)] → W p l e (rmm 3 72) s m args below meth c H locs 0 0 Q (F0 m 135 ls []) := by
        intro n135
        induction n135 with
        | zero =>
          intro _ _ _ _ _ _ _ _ hf
          exact nomatch (show (none : Option _) = some out from hf)
        | succ n135 ih135 =>
          intro x_ball x_place l3 l4 l5 H locs ls hf hP hD hS hl
          have hf : X8_act_L135_B x_w x_h x_n (X8_act_L135 x_w x_h x_n n135) x_ball x_place l3 l4 l5 = some out := hf
          rw [X8_act_L135_B] at hf
          refine lv_iload hx hb dX8_act_135 (lv_at hl 3 rfl) ?_
          refine lv_iload_n hx hb dX8_act_137 rfl (lv_at hl 1 rfl) ?_
          refine lv_icmp_ge (tgt := 188) hx hb dX8_act_138 (by decide) (fun c138 => ?_) (fun c138 => ?_)
          · have hf := ifp c138 hf
            obtain rfl := Option.some.inj hf
            exact hR _ _ _ _ hP hD hS dX8_act_188
          · have hf := ifn c138 hf
            refine lv_iload hx hb dX8_act_141 (lv_at hl 2 rfl) ?_
            refine lv_bipush (v := (-9 : Int32)) hx hb dX8_act_143 (by decide) ?_
            refine lv_icmp_eq (tgt := 188) hx hb dX8_act_145 (by decide) (fun c145 => ?_) (fun c145 => ?_)
            · have hf := ifp c145 hf
              obtain rfl := Option.some.inj hf
              exact hR _ _ _ _ hP hD hS dX8_act_188
            · have hf := ifn c145 hf
              have h179 : ∀ (x_ball : Int32) (x_place : Nat → Int32) (l3 : Int32) (l4 : Int32) (l5 : Int32) (s1 : Int32) (H : Heap) (locs : List Loc) (ls : Array Slot), X8_act_J179 x_w x_h x_n (X8_act_L135 x_w x_h x_n n135) x_ball x_place l3 l4 l5 s1 = some out → va_P D vwCl (wd_X8_act cy o_t x_thrown x_delay x_feel x_turn x_sight x_ball x_w x_h x_n x_players x_place) H → va_D A (wd_X8_act cy o_t x_thrown x_delay x_feel x_turn x_sight x_ball x_w x_h x_n x_players x_place) → va_S A s.heap H locs → lv_has ls 7 [(0, .ref (o_t 0)), (3, .int l3), (4, .int l4), (5, .int l5)] → W p l e (rmm 3 72) s m args below meth c H locs 0 0 Q (F0 m 179 ls [.int s1, .ref (o_t 0)]) := by
                intro x_ball x_place l3 l4 l5 s1 H locs ls hf hP hD hS hl
                rw [X8_act_J179] at hf
                refine va_put (D := D) (ci := 8) (v := .int s1) (ty := .int) (C := RX8) (T := TX8) (N := 36) hx hb hts k2 tyX8 tyX8_ok nmX8 hown hK hP hD hS 0 rfl rfl 19 (by decide) k1 (fun _ h9 => h9) rfl (by decide +kernel) rfl rfl (Nat.le_of_ble_eq_true rfl) dX8_act_179 (fun H locs hP hD hS => ?_)
                have hP : va_P D vwCl (wd_X8_act cy o_t x_thrown x_delay x_feel x_turn x_sight s1 x_w x_h x_n x_players x_place) H := hP
                have hD : va_D A (wd_X8_act cy o_t x_thrown x_delay x_feel x_turn x_sight s1 x_w x_h x_n x_players x_place) := hD
                obtain ⟨v182, ev182, hf⟩ := nm_s hf
                refine lv_iinc (v := v182) (lv' := [(5, .int v182), (0, .ref (o_t 0)), (3, .int l3), (4, .int l4)]) hx hb dX8_act_182 hl (k := 3) rfl (by rw [ev182]; rfl) (by decide) rfl (fun ls hl => ?_)
                refine lv_goto (tgt := 135) hx hb dX8_act_185 (by decide) ?_
                exact ih135 _ _ _ _ _ _ _ _ hf hP hD hS (lv_sub hl [1, 2, 3, 0] rfl)
              refine lv_aload_n hx hb dX8_act_148 rfl (lv_at hl 0 rfl) ?_
              refine lv_aload_n hx hb dX8_act_149 rfl (lv_at hl 0 rfl) ?_
              refine va_get (D := D) (ci := 8) (v := .int x_ball) (C := RX8) (T := TX8) (N := 36) hx hb hts k2 hown hK hP 0 rfl rfl 19 (by decide) k1 (fun _ h9 => h9) rfl dX8_act_150 ?_
              refine lv_iload hx hb dX8_act_153 (lv_at hl 2 rfl) ?_
              obtain ⟨r155, hr155, hf⟩ := bd_s hf
              refine my_Vi (WS2 := (wd_X8_act cy o_t x_thrown x_delay x_feel x_turn x_sight x_ball x_w x_h x_n x_players x_place)) ⟨hx, hb, hml, hown, hts⟩ (c_X8_by l D cy t o_t x_thrown x_delay x_feel x_turn x_sight x_ball x_w x_h x_n x_players x_ball l4 hr155) (cwV 2 hts gX8_act_X8_by rfl rfl rfl ⟨rfl, hd_X8_by⟩ ⟨Nat.le_of_ble_eq_true rfl, Nat.le_of_ble_eq_true rfl⟩) hK hE hP hD hS hA [0] 2 8 0 rfl rfl rfl rfl (by decide +kernel) rfl rfl hl.1 rfl (Nat.le_of_ble_eq_true rfl) dX8_act_155 ⟨Nat.le_of_ble_eq_true rfl, Nat.le_of_ble_eq_true rfl⟩ (fun H locs hP hD hS => ?_)
              refine lv_istore (lv' := [(6, .int r155), (0, .ref (o_t 0)), (3, .int l3), (4, .int l4), (5, .int l5)]) hx hb dX8_act_158 hl (by decide) rfl (fun ls hl => ?_)
              refine lv_aload_n hx hb dX8_act_160 rfl (lv_at hl 1 rfl) ?_
              refine lv_aload_n hx hb dX8_act_161 rfl (lv_at hl 1 rfl) ?_
              refine lv_iload hx hb dX8_act_162 (lv_at hl 0 rfl) ?_
              obtain ⟨r164, hr164, hf⟩ := bd_s hf
              refine my_Vi (WS2 := (wd_X8_act cy o_t x_thrown x_delay x_feel x_turn x_sight x_ball x_w x_h x_n x_players x_place)) ⟨hx, hb, hml, hown, hts⟩ (c_X8_isFree l D cy t o_t x_thrown x_delay x_feel x_turn x_sight x_ball x_w x_h x_n x_players x_place r155 hr164) (cwV 1 hts gX8_act_X8_isFree rfl rfl rfl ⟨rfl, hd_X8_isFree⟩ ⟨Nat.le_of_ble_eq_true rfl, Nat.le_of_ble_eq_true rfl⟩) hK hE hP hD hS hA [0, 1] 2 8 0 rfl rfl rfl rfl (by decide +kernel) rfl rfl hl.1 rfl (Nat.le_of_ble_eq_true rfl) dX8_act_164 ⟨Nat.le_of_ble_eq_true rfl, Nat.le_of_ble_eq_true rfl⟩ (fun H locs hP hD hS => ?_)
              refine lv_if_eq (tgt := 175) hx hb dX8_act_167 (by decide) (fun c167 => ?_) (fun c167 => ?_)
              · have hf := ifp c167 hf
                refine lv_aload_n hx hb dX8_act_175 rfl (lv_at hl 1 rfl) ?_
                refine va_get (D := D) (ci := 8) (v := .int x_ball) (C := RX8) (T := TX8) (N := 36) hx hb hts k2 hown hK hP 0 rfl rfl 19 (by decide) k1 (fun _ h9 => h9) rfl dX8_act_176 ?_
                exact h179 _ _ _ _ _ _ _ _ _ hf hP hD hS (lv_sub hl [1, 2, 3, 4] rfl)
              · have hf := ifn c167 hf
                refine lv_iload hx hb dX8_act_170 (lv_at hl 0 rfl) ?_
                refine lv_goto (tgt := 179) hx hb dX8_act_172 (by decide) ?_
                exact h179 _ _ _ _ _ _ _ _ _ hf hP hD hS (lv_sub hl [1, 2, 3, 4] rfl)
      refine lv_aload_n hx hb dX8_act_125 rfl (lv_at hl 0 rfl) ?_
      refine lv_iload_n hx hb dX8_act_126 rfl (lv_at hl 1 rfl) ?_
      obtain ⟨r127, hr127, hf⟩ := bd_s hf
      refine my_Vi (WS2 := (wd_X8_act cy o_t x_thrown x_delay x_feel x_turn x_sight x_ball x_w x_h x_n x_players x_place)) ⟨hx, hb, hml, hown, hts⟩ (c_X8_besideBall l D cy t o_t x_thrown x_delay x_feel x_turn x_sight x_ball x_w x_h x_n x_players x_place p1 hr127) (cwV 1 hts gX8_act_X8_besideBall rfl rfl rfl ⟨rfl, hd_X8_besideBall⟩ ⟨Nat.le_of_ble_eq_true rfl, Nat.le_of_ble_eq_true rfl⟩) hK hE hP hD hS hA [0, 1] 2 8 0 rfl rfl rfl rfl (by decide +kernel) rfl rfl hl.1 rfl (Nat.le_of_ble_eq_true rfl) dX8_act_127 ⟨Nat.le_of_ble_eq_true rfl, Nat.le_of_ble_eq_true rfl⟩ (fun H locs hP hD hS => ?_)
      refine lv_istore (lv' := [(4, .int r127), (0, .ref (o_t 0)), (1, .int p1), (2, .int p2), (3, .int p3)]) hx hb dX8_act_130 hl (by decide) rfl (fun ls hl => ?_)
      refine lv_iconst (v := (0 : Int32)) hx hb dX8_act_132 (by decide) ?_
      refine lv_istore (lv' := [(5, .int (0 : Int32)), (4, .int r127), (0, .ref (o_t 0)), (1, .int p1), (2, .int p2), (3, .int p3)]) hx hb dX8_act_133 hl (by decide) rfl (fun ls hl => ?_)
      exact h135 FU _ _ _ _ _ _ _ _ hf hP hD hS (lv_sub hl [2, 5, 1, 0] rfl)
  · have hf := ifn c9 hf
    refine lv_aload_n hx hb dX8_act_12 rfl (lv_at hl 0 rfl) ?_
    refine lv_aload_n hx hb dX8_act_13 rfl (lv_at hl 0 rfl) ?_
    refine va_get (D := D) (ci := 8) (v := .ref (o_t 18)) (C := RX8) (T := TX8) (N := 36) hx hb hts k2 hown hK hP 0 rfl rfl 17 (by decide) k3 (fun _ h9 => h9) rfl dX8_act_14 ?_
    refine lv_iload_n hx hb dX8_act_17 rfl (lv_at hl 1 rfl) ?_
    obtain ⟨v18, b18, ev18, hf⟩ := rd_s hf
    refine my_iald hx hb hK hP 1 rfl b18 ev18 dX8_act_18 ?_
    refine lv_iload_n hx hb dX8_act_19 rfl (lv_at hl 2 rfl) ?_
    obtain ⟨r20, hr20, hf⟩ := bd_s hf
    refine my_Vi (WS2 := (wd_X8_act cy o_t x_thrown x_delay x_feel x_turn x_sight x_ball x_w x_h x_n x_players x_place)) ⟨hx, hb, hml, hown, hts⟩ (c_X8_by l D cy t o_t x_thrown x_delay x_feel x_turn x_sight x_ball x_w x_h x_n x_players v18 p2 hr20) (cwV 2 hts gX8_act_X8_by rfl rfl rfl ⟨rfl, hd_X8_by⟩ ⟨Nat.le_of_ble_eq_true rfl, Nat.le_of_ble_eq_true rfl⟩) hK hE hP hD hS hA [0] 2 8 0 rfl rfl rfl rfl (by decide +kernel) rfl rfl hl.1 rfl (Nat.le_of_ble_eq_true rfl) dX8_act_20 ⟨Nat.le_of_ble_eq_true rfl, Nat.le_of_ble_eq_true rfl⟩ (fun H locs hP hD hS => ?_)
    refine lv_istore (lv' := [(4, .int r20), (0, .ref (o_t 0)), (1, .int p1), (2, .int p2), (3, .int p3)]) hx hb dX8_act_23 hl (by decide) rfl (fun ls hl => ?_)
    refine lv_aload_n hx hb dX8_act_25 rfl (lv_at hl 1 rfl) ?_
    refine lv_iload hx hb dX8_act_26 (lv_at hl 0 rfl) ?_
    obtain ⟨r28, hr28, hf⟩ := bd_s hf
    refine my_Vi (WS2 := (wd_X8_act cy o_t x_thrown x_delay x_feel x_turn x_sight x_ball x_w x_h x_n x_players x_place)) ⟨hx, hb, hml, hown, hts⟩ (c_X8_isFree l D cy t o_t x_thrown x_delay x_feel x_turn x_sight x_ball x_w x_h x_n x_players x_place r20 hr28) (cwV 1 hts gX8_act_X8_isFree rfl rfl rfl ⟨rfl, hd_X8_isFree⟩ ⟨Nat.le_of_ble_eq_true rfl, Nat.le_of_ble_eq_true rfl⟩) hK hE hP hD hS hA [0, 1] 2 8 0 rfl rfl rfl rfl (by decide +kernel) rfl rfl hl.1 rfl (Nat.le_of_ble_eq_true rfl) dX8_act_28 ⟨Nat.le_of_ble_eq_true rfl, Nat.le_of_ble_eq_true rfl⟩ (fun H locs hP hD hS => ?_)
    refine lv_if_eq (tgt := 117) hx hb dX8_act_31 (by decide) (fun c31 => ?_) (fun c31 => ?_)
    · have hf := ifp c31 hf
      refine lv_goto (tgt := 188) hx hb dX8_act_117 (by decide) ?_
      obtain rfl := Option.some.inj hf
      exact hR _ _ _ _ hP hD hS dX8_act_188
    · have hf := ifn c31 hf
      have h66 : ∀ (x_ball : Int32) (x_place : Nat → Int32) (l1 : Int32) (l4 : Int32) (l5 : Int32) (s0 : Int32) (H : Heap) (locs : List Loc) (ls : Array Slot), X8_act_J66 x_w x_h x_n x_ball x_place l1 l4 l5 s0 = some out → va_P D vwCl (wd_X8_act cy o_t x_thrown x_delay x_feel x_turn x_sight x_ball x_w x_h x_n x_players x_place) H → va_D A (wd_X8_act cy o_t x_thrown x_delay x_feel x_turn x_sight x_ball x_w x_h x_n x_players x_place) → va_S A s.heap H locs → lv_has ls 7 [(0, .ref (o_t 0)), (1, .int l1), (4, .int l4), (5, .int l5)] → W p l e (rmm 3 72) s m args below meth c H locs 0 0 Q (F0 m 66 ls [.int s0]) := by
        intro x_ball x_place l1 l4 l5 s0 H locs ls hf hP hD hS hl
        rw [X8_act_J66] at hf
        have h92 : ∀ (x_ball : Int32) (x_place : Nat → Int32) (l1 : Int32) (l4 : Int32) (l6 : Int32) (s1 : Int32) (H : Heap) (locs : List Loc) (ls : Array Slot), X8_act_J92 x_w x_h x_n x_ball x_place l1 l4 l6 s1 = some out → va_P D vwCl (wd_X8_act cy o_t x_thrown x_delay x_feel x_turn x_sight x_ball x_w x_h x_n x_players x_place) H → va_D A (wd_X8_act cy o_t x_thrown x_delay x_feel x_turn x_sight x_ball x_w x_h x_n x_players x_place) → va_S A s.heap H locs → lv_has ls 7 [(0, .ref (o_t 0)), (1, .int l1), (4, .int l4), (6, .int l6)] → W p l e (rmm 3 72) s m args below meth c H locs 0 0 Q (F0 m 92 ls [.int s1, .ref (o_t 0)]) := by
          intro x_ball x_place l1 l4 l6 s1 H locs ls hf hP hD hS hl
          rw [X8_act_J92] at hf
          have h116 : ∀ (x_ball : Int32) (x_place : Nat → Int32) (s1 : Int32) (s2 : Int32) (H : Heap) (locs : List Loc) (ls : Array Slot), X8_act_J116 x_w x_h x_n x_ball x_place s1 s2 = some out → va_P D vwCl (wd_X8_act cy o_t x_thrown x_delay x_feel x_turn x_sight x_ball x_w x_h x_n x_players x_place) H → va_D A (wd_X8_act cy o_t x_thrown x_delay x_feel x_turn x_sight x_ball x_w x_h x_n x_players x_place) → va_S A s.heap H locs → lv_has ls 7 [] → W p l e (rmm 3 72) s m args below meth c H locs 0 0 Q (F0 m 116 ls [.int s2, .int s1, .ref (o_t 18)]) := by
            intro x_ball x_place s1 s2 H locs ls hf hP hD hS hl
            rw [X8_act_J116] at hf
            obtain ⟨w116, b116, ew116, hf⟩ := wrI_s hf
            refine my_iast (ws2 := (wd_X8_act cy o_t x_thrown x_delay x_feel x_turn x_sight x_ball x_w x_h x_n x_players w116)) hx hb hK hP hD hS 1 rfl b116 ew116 rfl dX8_act_116 (fun H locs hP hD hS => ?_)
            refine lv_goto (tgt := 188) hx hb dX8_act_117 (by decide) ?_
            obtain rfl := Option.some.inj hf
            exact hR _ _ _ _ hP hD hS dX8_act_188
          refine va_put (D := D) (ci := 8) (v := .int s1) (ty := .int) (C := RX8) (T := TX8) (N := 36) hx hb hts k2 tyX8 tyX8_ok nmX8 hown hK hP hD hS 0 rfl rfl 19 (by decide) k1 (fun _ h9 => h9) rfl (by decide +kernel) rfl rfl (Nat.le_of_ble_eq_true rfl) dX8_act_92 (fun H locs hP hD hS => ?_)
          have hP : va_P D vwCl (wd_X8_act cy o_t x_thrown x_delay x_feel x_turn x_sight s1 x_w x_h x_n x_players x_place) H := hP
          have hD : va_D A (wd_X8_act cy o_t x_thrown x_delay x_feel x_turn x_sight s1 x_w x_h x_n x_players x_place) := hD
          refine lv_aload_n hx hb dX8_act_95 rfl (lv_at hl 0 rfl) ?_
          refine va_get (D := D) (ci := 8) (v := .ref (o_t 18)) (C := RX8) (T := TX8) (N := 36) hx hb hts k2 hown hK hP 0 rfl rfl 17 (by decide) k3 (fun _ h9 => h9) rfl dX8_act_96 ?_
          refine lv_iload_n hx hb dX8_act_99 rfl (lv_at hl 1 rfl) ?_
          refine lv_iload hx hb dX8_act_100 (lv_at hl 3 rfl) ?_
          refine lv_if_eq (tgt := 110) hx hb dX8_act_102 (by decide) (fun c102 => ?_) (fun c102 => ?_)
          · have hf := ifp c102 hf
            refine lv_aload_n hx hb dX8_act_110 rfl (lv_at hl 0 rfl) ?_
            refine va_get (D := D) (ci := 8) (v := .ref (o_t 18)) (C := RX8) (T := TX8) (N := 36) hx hb hts k2 hown hK hP 0 rfl rfl 17 (by decide) k3 (fun _ h9 => h9) rfl dX8_act_111 ?_
            refine lv_iload_n hx hb dX8_act_114 rfl (lv_at hl 1 rfl) ?_
            obtain ⟨v115, b115, ev115, hf⟩ := rd_s hf
            refine my_iald hx hb hK hP 1 rfl b115 ev115 dX8_act_115 ?_
            exact h116 _ _ _ _ _ _ _ hf hP hD hS (lv_sub hl [] rfl)
          · have hf := ifn c102 hf
            refine lv_iload hx hb dX8_act_105 (lv_at hl 2 rfl) ?_
            refine lv_goto (tgt := 116) hx hb dX8_act_107 (by decide) ?_
            exact h116 _ _ _ _ _ _ _ hf hP hD hS (lv_sub hl [] rfl)
        have h88 : ∀ (x_ball : Int32) (x_place : Nat → Int32) (l1 : Int32) (l4 : Int32) (l6 : Int32) (H : Heap) (locs : List Loc) (ls : Array Slot), X8_act_J88 x_w x_h x_n x_ball x_place l1 l4 l6 = some out → va_P D vwCl (wd_X8_act cy o_t x_thrown x_delay x_feel x_turn x_sight x_ball x_w x_h x_n x_players x_place) H → va_D A (wd_X8_act cy o_t x_thrown x_delay x_feel x_turn x_sight x_ball x_w x_h x_n x_players x_place) → va_S A s.heap H locs → lv_has ls 7 [(0, .ref (o_t 0)), (1, .int l1), (4, .int l4), (6, .int l6)] → W p l e (rmm 3 72) s m args below meth c H locs 0 0 Q (F0 m 88 ls [.ref (o_t 0)]) := by
          intro x_ball x_place l1 l4 l6 H locs ls hf hP hD hS hl
          rw [X8_act_J88] at hf
          refine lv_aload_n hx hb dX8_act_88 rfl (lv_at hl 0 rfl) ?_
          refine va_get (D := D) (ci := 8) (v := .int x_ball) (C := RX8) (T := TX8) (N := 36) hx hb hts k2 hown hK hP 0 rfl rfl 19 (by decide) k1 (fun _ h9 => h9) rfl dX8_act_89 ?_
          exact h92 _ _ _ _ _ _ _ _ _ hf hP hD hS (lv_sub hl [0, 1, 2, 3] rfl)
        refine lv_istore (lv' := [(6, .int s0), (0, .ref (o_t 0)), (1, .int l1), (4, .int l4), (5, .int l5)]) hx hb dX8_act_66 hl (by decide) rfl (fun ls hl => ?_)
        refine lv_aload_n hx hb dX8_act_68 rfl (lv_at hl 1 rfl) ?_
        refine lv_iload hx hb dX8_act_69 (lv_at hl 3 rfl) ?_
        refine lv_aload_n hx hb dX8_act_71 rfl (lv_at hl 1 rfl) ?_
        refine va_get (D := D) (ci := 8) (v := .int x_ball) (C := RX8) (T := TX8) (N := 36) hx hb hts k2 hown hK hP 0 rfl rfl 19 (by decide) k1 (fun _ h9 => h9) rfl dX8_act_72 ?_
        refine lv_icmp_ne (tgt := 88) hx hb dX8_act_75 (by decide) (fun c75 => ?_) (fun c75 => ?_)
        · have hf := ifn c75 hf
          exact h88 _ _ _ _ _ _ _ _ hf hP hD hS (lv_sub hl [1, 2, 3, 0] rfl)
        · have hf := ifp c75 hf
          refine lv_iload hx hb dX8_act_78 (lv_at hl 0 rfl) ?_
          refine lv_if_eq (tgt := 88) hx hb dX8_act_80 (by decide) (fun c80 => ?_) (fun c80 => ?_)
          · have hf := ifp c80 hf
            exact h88 _ _ _ _ _ _ _ _ hf hP hD hS (lv_sub hl [1, 2, 3, 0] rfl)
          · have hf := ifn c80 hf
            refine lv_iload hx hb dX8_act_83 (lv_at hl 4 rfl) ?_
            refine lv_goto (tgt := 92) hx hb dX8_act_85 (by decide) ?_
            exact h92 _ _ _ _ _ _ _ _ _ hf hP hD hS (lv_sub hl [1, 2, 3, 0] rfl)
      have h61 : ∀ (x_ball : Int32) (x_place : Nat → Int32) (l1 : Int32) (l4 : Int32) (l5 : Int32) (H : Heap) (locs : List Loc) (ls : Array Slot), X8_act_J61 x_w x_h x_n x_ball x_place l1 l4 l5 = some out → va_P D vwCl (wd_X8_act cy o_t x_thrown x_delay x_feel x_turn x_sight x_ball x_w x_h x_n x_players x_place) H → va_D A (wd_X8_act cy o_t x_thrown x_delay x_feel x_turn x_sight x_ball x_w x_h x_n x_players x_place) → va_S A s.heap H locs → lv_has ls 7 [(0, .ref (o_t 0)), (1, .int l1), (4, .int l4), (5, .int l5)] → W p l e (rmm 3 72) s m args below meth c H locs 0 0 Q (F0 m 61 ls []) := by
        intro x_ball x_place l1 l4 l5 H locs ls hf hP hD hS hl
        rw [X8_act_J61] at hf
        refine lv_iconst (v := (1 : Int32)) hx hb dX8_act_61 (by decide) ?_
        refine lv_goto (tgt := 66) hx hb dX8_act_62 (by decide) ?_
        exact h66 _ _ _ _ _ _ _ _ _ hf hP hD hS (lv_sub hl [0, 1, 2, 3] rfl)
      refine lv_aload_n hx hb dX8_act_34 rfl (lv_at hl 1 rfl) ?_
      refine lv_iload hx hb dX8_act_35 (lv_at hl 0 rfl) ?_
      refine lv_iload_n hx hb dX8_act_37 rfl (lv_at hl 3 rfl) ?_
      obtain ⟨r38, hr38, hf⟩ := bd_s hf
      refine my_Vi (WS2 := (wd_X8_act cy o_t x_thrown x_delay x_feel x_turn x_sight x_ball x_w x_h x_n x_players x_place)) ⟨hx, hb, hml, hown, hts⟩ (c_X8_by l D cy t o_t x_thrown x_delay x_feel x_turn x_sight x_ball x_w x_h x_n x_players r20 p2 hr38) (cwV 2 hts gX8_act_X8_by rfl rfl rfl ⟨rfl, hd_X8_by⟩ ⟨Nat.le_of_ble_eq_true rfl, Nat.le_of_ble_eq_true rfl⟩) hK hE hP hD hS hA [0] 2 8 0 rfl rfl rfl rfl (by decide +kernel) rfl rfl hl.1 rfl (Nat.le_of_ble_eq_true rfl) dX8_act_38 ⟨Nat.le_of_ble_eq_true rfl, Nat.le_of_ble_eq_true rfl⟩ (fun H locs hP hD hS => ?_)
      refine lv_istore (lv' := [(5, .int r38), (4, .int r20), (0, .ref (o_t 0)), (1, .int p1), (2, .int p2), (3, .int p3)]) hx hb dX8_act_41 hl (by decide) rfl (fun ls hl => ?_)
      refine lv_iload hx hb dX8_act_43 (lv_at hl 1 rfl) ?_
      refine lv_aload_n hx hb dX8_act_45 rfl (lv_at hl 2 rfl) ?_
      refine va_get (D := D) (ci := 8) (v := .int x_ball) (C := RX8) (T := TX8) (N := 36) hx hb hts k2 hown hK hP 0 rfl rfl 19 (by decide) k1 (fun _ h9 => h9) rfl dX8_act_46 ?_
      refine lv_icmp_ne (tgt := 61) hx hb dX8_act_49 (by decide) (fun c49 => ?_) (fun c49 => ?_)
      · have hf := ifn c49 hf
        exact h61 _ _ _ _ _ _ _ _ hf hP hD hS (lv_sub hl [2, 3, 1, 0] rfl)
      · have hf := ifp c49 hf
        refine lv_aload_n hx hb dX8_act_52 rfl (lv_at hl 2 rfl) ?_
        refine lv_iload hx hb dX8_act_53 (lv_at hl 0 rfl) ?_
        obtain ⟨r55, hr55, hf⟩ := bd_s hf
        refine my_Vi (WS2 := (wd_X8_act cy o_t x_thrown x_delay x_feel x_turn x_sight x_ball x_w x_h x_n x_players x_place)) ⟨hx, hb, hml, hown, hts⟩ (c_X8_isFree l D cy t o_t x_thrown x_delay x_feel x_turn x_sight x_ball x_w x_h x_n x_players x_place r38 hr55) (cwV 1 hts gX8_act_X8_isFree rfl rfl rfl ⟨rfl, hd_X8_isFree⟩ ⟨Nat.le_of_ble_eq_true rfl, Nat.le_of_ble_eq_true rfl⟩) hK hE hP hD hS hA [0, 1] 2 8 0 rfl rfl rfl rfl (by decide +kernel) rfl rfl hl.1 rfl (Nat.le_of_ble_eq_true rfl) dX8_act_55 ⟨Nat.le_of_ble_eq_true rfl, Nat.le_of_ble_eq_true rfl⟩ (fun H locs hP hD hS => ?_)
        refine lv_if_eq (tgt := 65) hx hb dX8_act_58 (by decide) (fun c58 => ?_) (fun c58 => ?_)
        · have hf := ifp c58 hf
          refine lv_iconst (v := (0 : Int32)) hx hb dX8_act_65 (by decide) ?_
          exact h66 _ _ _ _ _ _ _ _ _ hf hP hD hS (lv_sub hl [2, 3, 1, 0] rfl)
        · have hf := ifn c58 hf
          exact h61 _ _ _ _ _ _ _ _ hf hP hD hS (lv_sub hl [2, 3, 1, 0] rfl)
theorem hd_X8_act : yX8_act.cls ≠ "java/lang/invoke/MethodHandle" ∧ yX8_act.cls ≠ "java/lang/invoke/VarHandle" ∧ (parseMethodDescriptor yX8_act.desc).map (fun d => d.parameters.length) = some 3 := by decide +kernel
set_option maxRecDepth 100000 in
theorem c_X8_act (l : Launch) (D : va_G) (cy : Nat → ClassId) (t : Nat → Nat) (o_t : Nat → Nat) (x_thrown : Int32) (x_delay : Int32) (x_feel : Int32) (x_turn : Int32) (x_sight : Int32) (x_ball : Int32) (x_w : Int32) (x_h : Int32) (x_n : Int32) (x_players : Int32) (x_place : Nat → Int32) (p1 : Int32) (p2 : Int32) (p3 : Int32) {out : Int32 × (Nat → Int32)} (hf : X8_act x_w x_h x_n x_ball x_place p1 p2 p3 = some out) : ctV l yX8_act wsX8_act 3 72 D cy t [.ref (o_t 0), .int p1, .int p2, .int p3] (wd_X8_act cy o_t x_thrown x_delay x_feel x_turn x_sight x_ball x_w x_h x_n x_players x_place) (wd_X8_act cy o_t x_thrown x_delay x_feel x_turn x_sight out.1 x_w x_h x_n x_players out.2) := by
  refine ⟨rfl, ?_⟩
  intro sz
  refine Met.ofW (cc := cX8_act) (maxL := 7) (ret := none) (by decide) rfl ?_
  intro p e s m args below meth c s₁ B hml hv
  obtain ⟨rfl, hsz, hP, hK, hD0, hE⟩ := hv
  have hts := atoms_spec (ws := wsX8_act) B.pre
  have hown : s.vm.findClass RX8 = some m.cls := findClass_of_methodNamed B.named
  have hlocks := B.notSynchronized
  subst hsz
  have hD := hD0.self (sz := s.heap.size)
  have hl := lv_entry ([.ref (o_t 0), .int p1, .int p2, .int p3]) (n := 7) (Nat.le_of_ble_eq_true rfl)
  rw [lg_entry_eq]
  generalize (lg_sl ([.ref (o_t 0), .int p1, .int p2, .int p3]) ++ List.replicate (7 - (lg_sl ([.ref (o_t 0), .int p1, .int p2, .int p3])).length) Slot.unset).toArray = ls at hl ⊢
  exact w_X8_act D cy t o_t x_thrown x_delay x_feel x_turn x_sight x_ball x_w x_h x_n x_players x_place p1 p2 p3 hf B.exec B.bytes hml hown hts hK hE (fun q h => Or.inr h) hP hD va_S.rf hl (fun H locs ls pc hP hD hS hdg => W.vret B.exec B.bytes B.returns (fun t ht hW => ⟨⟨(), rfl, trivial, ctB_of ht hP⟩, hS.F ht⟩) hS.2.2 hdg)

noncomputable def X8_isLeft (x_leftFrom : Nat → Int32) (x_leftTo : Nat → Int32) (p1 : Int32) (p2 : Int32) (p3 : Int32) : Option (Int32) :=
  rd x_leftFrom 30 (((6 : Int32) * p1) + p2) fun v11 => if p3 < v11 then (zb (0 : Int32) <| some (0 : Int32)) else (rd x_leftTo 30 (((6 : Int32) * p1) + p2) fun v26 => if v26 ≤ p3 then (zb (0 : Int32) <| some (0 : Int32)) else (zb (1 : Int32) <| some (1 : Int32)))
abbrev wd_X8_isLeft (cy : Nat → ClassId) (o_t : Nat → Nat) (x_thrown : Int32) (x_delay : Int32) (x_feel : Int32) (x_turn : Int32) (x_sight : Int32) (x_ball : Int32) (x_w : Int32) (x_h : Int32) (x_n : Int32) (x_players : Int32) (x_leftFrom : Nat → Int32) (x_leftTo : Nat → Int32) : va_W := [(o_t 0, .inr (8, [.int x_thrown, .ref (o_t 2), .ref (o_t 3), .ref (o_t 4), .ref (o_t 5), .ref (o_t 6), .ref (o_t 7), .ref (o_t 8), .ref (o_t 9), .ref (o_t 10), .ref (o_t 11), .int x_delay, .int x_feel, .int x_turn, .int x_sight, .ref (o_t 16), .ref (o_t 17), .ref (o_t 18), .ref (o_t 19), .int x_ball, .int x_w, .int x_h, .int x_n, .ref (o_t 24), .ref (o_t 25), .ref (o_t 26), .ref (o_t 27), .ref (o_t 28), .ref (o_t 29), .int x_players, .ref (o_t 31), .ref (o_t 32), .ref (o_t 33), .ref (o_t 34), .ref (o_t 35), .ref (o_t 36)])), (o_t 9, .inl (cy 0, 30, .inl x_leftFrom)), (o_t 10, .inl (cy 0, 30, .inl x_leftTo))]
set_option maxHeartbeats 4000000 in
set_option maxRecDepth 100000 in
theorem w_X8_isLeft {p : Program} {l : Launch} {e : Env} {s : State} {m : MethodId} {args : Array Value} {below : List Frame} {meth : Method} {c : Code} {Q : State → Prop} {A : Nat → Prop} {H : Heap} {locs : List Loc} {ls : Array Slot} (D : va_G) (cy : Nat → ClassId) (t : Nat → Nat) (o_t : Nat → Nat) (x_thrown : Int32) (x_delay : Int32) (x_feel : Int32) (x_turn : Int32) (x_sight : Int32) (x_ball : Int32) (x_w : Int32) (x_h : Int32) (x_n : Int32) (x_players : Int32) (x_leftFrom : Nat → Int32) (x_leftTo : Nat → Int32) (p1 : Int32) (p2 : Int32) (p3 : Int32) {out : Int32} (hf : X8_isLeft x_leftFrom x_leftTo p1 p2 p3 = some out) (hx : p.tables.exec = Jvm.exec) (hb : c.code = cX8_isLeft) (hml : c.maxLocals = 4) (hown : s.vm.findClass RX8 = some m.cls) (hts : ∀ w ∈ wsX8_isLeft, w.before args s = true) (hK : va_K D vwCl (TYS cy) s) (hE : EV t A s s.heap) (hA : ∀ q, s.heap.size ≤ q → A q) (hP : va_P D vwCl (wd_X8_isLeft cy o_t x_thrown x_delay x_feel x_turn x_sight x_ball x_w x_h x_n x_players x_leftFrom x_leftTo) H) (hD : va_D A (wd_X8_isLeft cy o_t x_thrown x_delay x_feel x_turn x_sight x_ball x_w x_h x_n x_players x_leftFrom x_leftTo)) (hS : va_S A s.heap H locs) (hl : lv_has ls 4 [(0, .ref (o_t 0)), (1, .int p1), (2, .int p2), (3, .int p3)]) (hR : ∀ (H : Heap) (locs : List Loc) (ls : Array Slot) (pc : Nat), va_P D vwCl (wd_X8_isLeft cy o_t x_thrown x_delay x_feel x_turn x_sight x_ball x_w x_h x_n x_players x_leftFrom x_leftTo) H → va_D A (wd_X8_isLeft cy o_t x_thrown x_delay x_feel x_turn x_sight x_ball x_w x_h x_n x_players x_leftFrom x_leftTo) → va_S A s.heap H locs → narrow .boolean (.int out) = .int out → decode cX8_isLeft pc = .ok (.ireturn, 1) → W p l e (rmm 0 0) s m args below meth c H locs 0 0 Q (F0 m pc ls [.int out])) : W p l e (rmm 0 0) s m args below meth c H locs 0 0 Q (F0 m 0 ls []) := by
  have k0 := hts (.fieldLink RX8 31 "SeaGamesModel" "leftFrom" "[I") (List.mem_cons_of_mem _ (List.mem_append_left _ (List.mem_of_getElem? (i := 0) rfl)))
  have k1 : ∀ w ∈ u_ws RX8 TX8 36, w ∈ wsX8_isLeft := fun _ h => List.mem_cons_of_mem _ (List.mem_append_right _ h)
  have k2 := hts (.fieldLink RX8 34 "SeaGamesModel" "leftTo" "[I") (List.mem_cons_of_mem _ (List.mem_append_left _ (List.mem_of_getElem? (i := 1) rfl)))
  rw [X8_isLeft] at hf
  refine lv_iload_n hx hb dX8_isLeft_0 rfl (lv_at hl 3 rfl) ?_
  refine lv_aload_n hx hb dX8_isLeft_1 rfl (lv_at hl 0 rfl) ?_
  refine va_get (D := D) (ci := 8) (v := .ref (o_t 9)) (C := RX8) (T := TX8) (N := 36) hx hb hts k1 hown hK hP 0 rfl rfl 8 (by decide) k0 (fun _ h9 => h9) rfl dX8_isLeft_2 ?_
  refine lv_bipush (v := (6 : Int32)) hx hb dX8_isLeft_5 (by decide) ?_
  refine lv_iload_n hx hb dX8_isLeft_7 rfl (lv_at hl 1 rfl) ?_
  refine lv_imul hx hb dX8_isLeft_8 ?_
  refine lv_iload_n hx hb dX8_isLeft_9 rfl (lv_at hl 2 rfl) ?_
  refine lv_iadd hx hb dX8_isLeft_10 ?_
  obtain ⟨v11, b11, ev11, hf⟩ := rd_s hf
  refine my_iald hx hb hK hP 1 rfl b11 ev11 dX8_isLeft_11 ?_
  refine lv_icmp_lt (tgt := 34) hx hb dX8_isLeft_12 (by decide) (fun c12 => ?_) (fun c12 => ?_)
  · have hf := ifp c12 hf
    refine lv_iconst (v := (0 : Int32)) hx hb dX8_isLeft_34 (by decide) ?_
    obtain ⟨z35, hf⟩ := zb_s hf
    obtain rfl := Option.some.inj hf
    exact hR _ _ _ _ hP hD hS z35 dX8_isLeft_35
  · have hf := ifn c12 hf
    refine lv_iload_n hx hb dX8_isLeft_15 rfl (lv_at hl 3 rfl) ?_
    refine lv_aload_n hx hb dX8_isLeft_16 rfl (lv_at hl 0 rfl) ?_
    refine va_get (D := D) (ci := 8) (v := .ref (o_t 10)) (C := RX8) (T := TX8) (N := 36) hx hb hts k1 hown hK hP 0 rfl rfl 9 (by decide) k2 (fun _ h9 => h9) rfl dX8_isLeft_17 ?_
    refine lv_bipush (v := (6 : Int32)) hx hb dX8_isLeft_20 (by decide) ?_
    refine lv_iload_n hx hb dX8_isLeft_22 rfl (lv_at hl 1 rfl) ?_
    refine lv_imul hx hb dX8_isLeft_23 ?_
    refine lv_iload_n hx hb dX8_isLeft_24 rfl (lv_at hl 2 rfl) ?_
    refine lv_iadd hx hb dX8_isLeft_25 ?_
    obtain ⟨v26, b26, ev26, hf⟩ := rd_s hf
    refine my_iald hx hb hK hP 2 rfl b26 ev26 dX8_isLeft_26 ?_
    refine lv_icmp_ge (tgt := 34) hx hb dX8_isLeft_27 (by decide) (fun c27 => ?_) (fun c27 => ?_)
    · have hf := ifp c27 hf
      refine lv_iconst (v := (0 : Int32)) hx hb dX8_isLeft_34 (by decide) ?_
      obtain ⟨z35, hf⟩ := zb_s hf
      obtain rfl := Option.some.inj hf
      exact hR _ _ _ _ hP hD hS z35 dX8_isLeft_35
    · have hf := ifn c27 hf
      refine lv_iconst (v := (1 : Int32)) hx hb dX8_isLeft_30 (by decide) ?_
      refine lv_goto (tgt := 35) hx hb dX8_isLeft_31 (by decide) ?_
      obtain ⟨z35, hf⟩ := zb_s hf
      obtain rfl := Option.some.inj hf
      exact hR _ _ _ _ hP hD hS z35 dX8_isLeft_35
theorem hd_X8_isLeft : yX8_isLeft.cls ≠ "java/lang/invoke/MethodHandle" ∧ yX8_isLeft.cls ≠ "java/lang/invoke/VarHandle" ∧ (parseMethodDescriptor yX8_isLeft.desc).map (fun d => d.parameters.length) = some 3 := by decide +kernel
set_option maxRecDepth 100000 in
theorem c_X8_isLeft (l : Launch) (D : va_G) (cy : Nat → ClassId) (t : Nat → Nat) (o_t : Nat → Nat) (x_thrown : Int32) (x_delay : Int32) (x_feel : Int32) (x_turn : Int32) (x_sight : Int32) (x_ball : Int32) (x_w : Int32) (x_h : Int32) (x_n : Int32) (x_players : Int32) (x_leftFrom : Nat → Int32) (x_leftTo : Nat → Int32) (p1 : Int32) (p2 : Int32) (p3 : Int32) {out : Int32} (hf : X8_isLeft x_leftFrom x_leftTo p1 p2 p3 = some out) : ctI l yX8_isLeft wsX8_isLeft 0 0 D cy t [.ref (o_t 0), .int p1, .int p2, .int p3] (wd_X8_isLeft cy o_t x_thrown x_delay x_feel x_turn x_sight x_ball x_w x_h x_n x_players x_leftFrom x_leftTo) (wd_X8_isLeft cy o_t x_thrown x_delay x_feel x_turn x_sight x_ball x_w x_h x_n x_players x_leftFrom x_leftTo) out := by
  refine ⟨rfl, ?_⟩
  intro sz
  refine Met.ofW (cc := cX8_isLeft) (maxL := 4) (ret := (some .boolean)) (by decide) rfl ?_
  intro p e s m args below meth c s₁ B hml hv
  obtain ⟨rfl, hsz, hP, hK, hD0, hE⟩ := hv
  have hts := atoms_spec (ws := wsX8_isLeft) B.pre
  have hown : s.vm.findClass RX8 = some m.cls := findClass_of_methodNamed B.named
  have hlocks := B.notSynchronized
  subst hsz
  have hD := hD0.self (sz := s.heap.size)
  have hl := lv_entry ([.ref (o_t 0), .int p1, .int p2, .int p3]) (n := 4) (Nat.le_of_ble_eq_true rfl)
  rw [lg_entry_eq]
  generalize (lg_sl ([.ref (o_t 0), .int p1, .int p2, .int p3]) ++ List.replicate (4 - (lg_sl ([.ref (o_t 0), .int p1, .int p2, .int p3])).length) Slot.unset).toArray = ls at hl ⊢
  exact w_X8_isLeft D cy t o_t x_thrown x_delay x_feel x_turn x_sight x_ball x_w x_h x_n x_players x_leftFrom x_leftTo p1 p2 p3 hf B.exec B.bytes hml hown hts hK hE (fun q h => Or.inr h) hP hD va_S.rf hl (fun H locs ls pc hP hD hS z hdg => W.zret B.exec B.bytes B.returns z (fun t ht hW => ⟨⟨_, (), rfl, rfl, ctB_of ht hP⟩, hS.F ht⟩) hS.2.2 hdg)

noncomputable def X8_size (p0 : Int32) : Option (Int32) :=
  if (0 : Int32) ≤ p0 then (some p0) else (some (-p0))
abbrev wd_X8_size (cy : Nat → ClassId) : va_W := []
set_option maxHeartbeats 4000000 in
set_option maxRecDepth 100000 in
theorem w_X8_size {p : Program} {l : Launch} {e : Env} {s : State} {m : MethodId} {args : Array Value} {below : List Frame} {meth : Method} {c : Code} {Q : State → Prop} {A : Nat → Prop} {H : Heap} {locs : List Loc} {ls : Array Slot} (D : va_G) (cy : Nat → ClassId) (t : Nat → Nat) (p0 : Int32) {out : Int32} (hf : X8_size p0 = some out) (hx : p.tables.exec = Jvm.exec) (hb : c.code = cX8_size) (hml : c.maxLocals = 1) (hown : s.vm.findClass RX8 = some m.cls) (hts : ∀ w ∈ wsX8_size, w.before args s = true) (hK : va_K D vwCl (TYS cy) s) (hE : EV t A s s.heap) (hA : ∀ q, s.heap.size ≤ q → A q) (hP : va_P D vwCl (wd_X8_size cy) H) (hD : va_D A (wd_X8_size cy)) (hS : va_S A s.heap H locs) (hl : lv_has ls 1 [(0, .int p0)]) (hR : ∀ (H : Heap) (locs : List Loc) (ls : Array Slot) (pc : Nat), va_P D vwCl (wd_X8_size cy) H → va_D A (wd_X8_size cy) → va_S A s.heap H locs → decode cX8_size pc = .ok (.ireturn, 1) → W p l e (rmm 0 0) s m args below meth c H locs 0 0 Q (F0 m pc ls [.int out])) : W p l e (rmm 0 0) s m args below meth c H locs 0 0 Q (F0 m 0 ls []) := by
  rw [X8_size] at hf
  refine lv_iload_n hx hb dX8_size_0 rfl (lv_at hl 0 rfl) ?_
  refine lv_if_ge (tgt := 9) hx hb dX8_size_1 (by decide) (fun c1 => ?_) (fun c1 => ?_)
  · have hf := ifp c1 hf
    refine lv_iload_n hx hb dX8_size_9 rfl (lv_at hl 0 rfl) ?_
    obtain rfl := Option.some.inj hf
    exact hR _ _ _ _ hP hD hS dX8_size_10
  · have hf := ifn c1 hf
    refine lv_iload_n hx hb dX8_size_4 rfl (lv_at hl 0 rfl) ?_
    refine lv_ineg hx hb dX8_size_5 ?_
    refine lv_goto (tgt := 10) hx hb dX8_size_6 (by decide) ?_
    obtain rfl := Option.some.inj hf
    exact hR _ _ _ _ hP hD hS dX8_size_10
theorem hd_X8_size : yX8_size.cls ≠ "java/lang/invoke/MethodHandle" ∧ yX8_size.cls ≠ "java/lang/invoke/VarHandle" ∧ (parseMethodDescriptor yX8_size.desc).map (fun d => d.parameters.length) = some 1 := by decide +kernel
set_option maxRecDepth 100000 in
theorem c_X8_size (l : Launch) (D : va_G) (cy : Nat → ClassId) (t : Nat → Nat) (p0 : Int32) {out : Int32} (hf : X8_size p0 = some out) : ctI l yX8_size wsX8_size 0 0 D cy t [.int p0] (wd_X8_size cy) (wd_X8_size cy) out := by
  refine ⟨rfl, ?_⟩
  intro sz
  refine Met.ofW (cc := cX8_size) (maxL := 1) (ret := (some .int)) (by decide) rfl ?_
  intro p e s m args below meth c s₁ B hml hv
  obtain ⟨rfl, hsz, hP, hK, hD0, hE⟩ := hv
  have hts := atoms_spec (ws := wsX8_size) B.pre
  have hown : s.vm.findClass RX8 = some m.cls := findClass_of_methodNamed B.named
  have hlocks := B.notSynchronized
  subst hsz
  have hD := hD0.self (sz := s.heap.size)
  have hl := lv_entry ([.int p0]) (n := 1) (Nat.le_of_ble_eq_true rfl)
  rw [lg_entry_eq]
  generalize (lg_sl ([.int p0]) ++ List.replicate (1 - (lg_sl ([.int p0])).length) Slot.unset).toArray = ls at hl ⊢
  exact w_X8_size D cy t  p0 hf B.exec B.bytes hml hown hts hK hE (fun q h => Or.inr h) hP hD va_S.rf hl (fun H locs ls pc hP hD hS hdg => W.iret B.exec B.bytes B.returns (fun t ht hW => ⟨⟨_, (), rfl, rfl, ctB_of ht hP⟩, hS.F ht⟩) hS.2.2 hdg)

noncomputable def X8_thinks (x_ball : Int32) (x_w : Int32) (x_h : Int32) (x_place : Nat → Int32) (p1 : Int32) : Option (Int32) :=
  bd (X8_besideBall x_ball x_w x_h x_place p1) fun r2 => if r2 = (-9 : Int32) then (dvI x_w <| rd x_place 6 p1 fun v26 => dvI x_w <| nm ((x_ball - x_ball / x_w * x_w) - (v26 - v26 / x_w * x_w)) fun v33 => dvI x_w <| rd x_place 6 p1 fun v48 => dvI x_w <| nm ((x_ball / x_w) - (v48 / x_w)) fun v55 => bd (X8_size v33) fun r57 => bd (X8_size v55) fun r61 => if r57 < r61 then (if v55 ≤ (0 : Int32) then (some (4 : Int32)) else (some (2 : Int32))) else (if v33 ≤ (0 : Int32) then (some (3 : Int32)) else (some (1 : Int32)))) else (some (5 : Int32))
abbrev wd_X8_thinks (cy : Nat → ClassId) (o_t : Nat → Nat) (x_thrown : Int32) (x_delay : Int32) (x_feel : Int32) (x_turn : Int32) (x_sight : Int32) (x_ball : Int32) (x_w : Int32) (x_h : Int32) (x_n : Int32) (x_players : Int32) (x_place : Nat → Int32) : va_W := [(o_t 0, .inr (8, [.int x_thrown, .ref (o_t 2), .ref (o_t 3), .ref (o_t 4), .ref (o_t 5), .ref (o_t 6), .ref (o_t 7), .ref (o_t 8), .ref (o_t 9), .ref (o_t 10), .ref (o_t 11), .int x_delay, .int x_feel, .int x_turn, .int x_sight, .ref (o_t 16), .ref (o_t 17), .ref (o_t 18), .ref (o_t 19), .int x_ball, .int x_w, .int x_h, .int x_n, .ref (o_t 24), .ref (o_t 25), .ref (o_t 26), .ref (o_t 27), .ref (o_t 28), .ref (o_t 29), .int x_players, .ref (o_t 31), .ref (o_t 32), .ref (o_t 33), .ref (o_t 34), .ref (o_t 35), .ref (o_t 36)])), (o_t 18, .inl (cy 0, 6, .inl x_place))]
set_option maxHeartbeats 4000000 in
set_option maxRecDepth 100000 in
theorem w_X8_thinks {p : Program} {l : Launch} {e : Env} {s : State} {m : MethodId} {args : Array Value} {below : List Frame} {meth : Method} {c : Code} {Q : State → Prop} {A : Nat → Prop} {H : Heap} {locs : List Loc} {ls : Array Slot} (D : va_G) (cy : Nat → ClassId) (t : Nat → Nat) (o_t : Nat → Nat) (x_thrown : Int32) (x_delay : Int32) (x_feel : Int32) (x_turn : Int32) (x_sight : Int32) (x_ball : Int32) (x_w : Int32) (x_h : Int32) (x_n : Int32) (x_players : Int32) (x_place : Nat → Int32) (p1 : Int32) {out : Int32} (hf : X8_thinks x_ball x_w x_h x_place p1 = some out) (hx : p.tables.exec = Jvm.exec) (hb : c.code = cX8_thinks) (hml : c.maxLocals = 4) (hown : s.vm.findClass RX8 = some m.cls) (hts : ∀ w ∈ wsX8_thinks, w.before args s = true) (hK : va_K D vwCl (TYS cy) s) (hE : EV t A s s.heap) (hA : ∀ q, s.heap.size ≤ q → A q) (hP : va_P D vwCl (wd_X8_thinks cy o_t x_thrown x_delay x_feel x_turn x_sight x_ball x_w x_h x_n x_players x_place) H) (hD : va_D A (wd_X8_thinks cy o_t x_thrown x_delay x_feel x_turn x_sight x_ball x_w x_h x_n x_players x_place)) (hS : va_S A s.heap H locs) (hl : lv_has ls 4 [(0, .ref (o_t 0)), (1, .int p1)]) (hR : ∀ (H : Heap) (locs : List Loc) (ls : Array Slot) (pc : Nat), va_P D vwCl (wd_X8_thinks cy o_t x_thrown x_delay x_feel x_turn x_sight x_ball x_w x_h x_n x_players x_place) H → va_D A (wd_X8_thinks cy o_t x_thrown x_delay x_feel x_turn x_sight x_ball x_w x_h x_n x_players x_place) → va_S A s.heap H locs → decode cX8_thinks pc = .ok (.ireturn, 1) → W p l e (rmm 3 72) s m args below meth c H locs 0 0 Q (F0 m pc ls [.int out])) : W p l e (rmm 3 72) s m args below meth c H locs 0 0 Q (F0 m 0 ls []) := by
  have k0 := hts (.fieldLink RX8 138 "SeaGamesModel" "ball" "I") (List.mem_cons_of_mem _ (List.mem_append_left _ (List.mem_of_getElem? (i := 0) rfl)))
  have k1 : ∀ w ∈ u_ws RX8 TX8 36, w ∈ wsX8_thinks := fun _ h => List.mem_cons_of_mem _ (List.mem_append_right _ h)
  have k2 := hts (.fieldLink RX8 129 "SeaGamesModel" "w" "I") (List.mem_cons_of_mem _ (List.mem_append_left _ (List.mem_of_getElem? (i := 1) rfl)))
  have k3 := hts (.fieldLink RX8 57 "SeaGamesModel" "place" "[I") (List.mem_cons_of_mem _ (List.mem_append_left _ (List.mem_of_getElem? (i := 2) rfl)))
  rw [X8_thinks] at hf
  refine lv_aload_n hx hb dX8_thinks_0 rfl (lv_at hl 0 rfl) ?_
  refine lv_iload_n hx hb dX8_thinks_1 rfl (lv_at hl 1 rfl) ?_
  obtain ⟨r2, hr2, hf⟩ := bd_s hf
  refine my_Vi (WS2 := (wd_X8_thinks cy o_t x_thrown x_delay x_feel x_turn x_sight x_ball x_w x_h x_n x_players x_place)) ⟨hx, hb, hml, hown, hts⟩ (c_X8_besideBall l D cy t o_t x_thrown x_delay x_feel x_turn x_sight x_ball x_w x_h x_n x_players x_place p1 hr2) (cwV 1 hts gX8_thinks_X8_besideBall rfl rfl rfl ⟨rfl, hd_X8_besideBall⟩ ⟨Nat.le_of_ble_eq_true rfl, Nat.le_of_ble_eq_true rfl⟩) hK hE hP hD hS hA [0, 1] 2 8 0 rfl rfl rfl rfl (by decide +kernel) rfl rfl hl.1 rfl (Nat.le_of_ble_eq_true rfl) dX8_thinks_2 ⟨Nat.le_of_ble_eq_true rfl, Nat.le_of_ble_eq_true rfl⟩ (fun H locs hP hD hS => ?_)
  refine lv_bipush (v := (-9 : Int32)) hx hb dX8_thinks_5 (by decide) ?_
  refine lv_icmp_eq (tgt := 12) hx hb dX8_thinks_7 (by decide) (fun c7 => ?_) (fun c7 => ?_)
  · have hf := ifp c7 hf
    refine lv_aload_n hx hb dX8_thinks_12 rfl (lv_at hl 0 rfl) ?_
    refine va_get (D := D) (ci := 8) (v := .int x_ball) (C := RX8) (T := TX8) (N := 36) hx hb hts k1 hown hK hP 0 rfl rfl 19 (by decide) k0 (fun _ h9 => h9) rfl dX8_thinks_13 ?_
    refine lv_aload_n hx hb dX8_thinks_16 rfl (lv_at hl 0 rfl) ?_
    refine va_get (D := D) (ci := 8) (v := .int x_w) (C := RX8) (T := TX8) (N := 36) hx hb hts k1 hown hK hP 0 rfl rfl 20 (by decide) k2 (fun _ h9 => h9) rfl dX8_thinks_17 ?_
    obtain ⟨z20, hf⟩ := dvI_s hf
    refine lv_irem hx hb dX8_thinks_20 z20 ?_
    refine lv_aload_n hx hb dX8_thinks_21 rfl (lv_at hl 0 rfl) ?_
    refine va_get (D := D) (ci := 8) (v := .ref (o_t 18)) (C := RX8) (T := TX8) (N := 36) hx hb hts k1 hown hK hP 0 rfl rfl 17 (by decide) k3 (fun _ h9 => h9) rfl dX8_thinks_22 ?_
    refine lv_iload_n hx hb dX8_thinks_25 rfl (lv_at hl 1 rfl) ?_
    obtain ⟨v26, b26, ev26, hf⟩ := rd_s hf
    refine my_iald hx hb hK hP 1 rfl b26 ev26 dX8_thinks_26 ?_
    refine lv_aload_n hx hb dX8_thinks_27 rfl (lv_at hl 0 rfl) ?_
    refine va_get (D := D) (ci := 8) (v := .int x_w) (C := RX8) (T := TX8) (N := 36) hx hb hts k1 hown hK hP 0 rfl rfl 20 (by decide) k2 (fun _ h9 => h9) rfl dX8_thinks_28 ?_
    obtain ⟨z31, hf⟩ := dvI_s hf
    refine lv_irem hx hb dX8_thinks_31 z31 ?_
    refine lv_isub hx hb dX8_thinks_32 ?_
    obtain ⟨v33, ev33, hf⟩ := nm_s hf
    refine my_topi ev33 ?_
    refine lv_istore_n (lv' := [(2, .int v33), (0, .ref (o_t 0)), (1, .int p1)]) hx hb dX8_thinks_33 rfl hl (by decide) rfl (fun ls hl => ?_)
    refine lv_aload_n hx hb dX8_thinks_34 rfl (lv_at hl 1 rfl) ?_
    refine va_get (D := D) (ci := 8) (v := .int x_ball) (C := RX8) (T := TX8) (N := 36) hx hb hts k1 hown hK hP 0 rfl rfl 19 (by decide) k0 (fun _ h9 => h9) rfl dX8_thinks_35 ?_
    refine lv_aload_n hx hb dX8_thinks_38 rfl (lv_at hl 1 rfl) ?_
    refine va_get (D := D) (ci := 8) (v := .int x_w) (C := RX8) (T := TX8) (N := 36) hx hb hts k1 hown hK hP 0 rfl rfl 20 (by decide) k2 (fun _ h9 => h9) rfl dX8_thinks_39 ?_
    obtain ⟨z42, hf⟩ := dvI_s hf
    refine lv_idiv hx hb dX8_thinks_42 z42 ?_
    refine lv_aload_n hx hb dX8_thinks_43 rfl (lv_at hl 1 rfl) ?_
    refine va_get (D := D) (ci := 8) (v := .ref (o_t 18)) (C := RX8) (T := TX8) (N := 36) hx hb hts k1 hown hK hP 0 rfl rfl 17 (by decide) k3 (fun _ h9 => h9) rfl dX8_thinks_44 ?_
    refine lv_iload_n hx hb dX8_thinks_47 rfl (lv_at hl 2 rfl) ?_
    obtain ⟨v48, b48, ev48, hf⟩ := rd_s hf
    refine my_iald hx hb hK hP 1 rfl b48 ev48 dX8_thinks_48 ?_
    refine lv_aload_n hx hb dX8_thinks_49 rfl (lv_at hl 1 rfl) ?_
    refine va_get (D := D) (ci := 8) (v := .int x_w) (C := RX8) (T := TX8) (N := 36) hx hb hts k1 hown hK hP 0 rfl rfl 20 (by decide) k2 (fun _ h9 => h9) rfl dX8_thinks_50 ?_
    obtain ⟨z53, hf⟩ := dvI_s hf
    refine lv_idiv hx hb dX8_thinks_53 z53 ?_
    refine lv_isub hx hb dX8_thinks_54 ?_
    obtain ⟨v55, ev55, hf⟩ := nm_s hf
    refine my_topi ev55 ?_
    refine lv_istore_n (lv' := [(3, .int v55), (2, .int v33), (0, .ref (o_t 0)), (1, .int p1)]) hx hb dX8_thinks_55 rfl hl (by decide) rfl (fun ls hl => ?_)
    refine lv_iload_n hx hb dX8_thinks_56 rfl (lv_at hl 1 rfl) ?_
    obtain ⟨r57, hr57, hf⟩ := bd_s hf
    refine my_Si (WS2 := (wd_X8_thinks cy o_t x_thrown x_delay x_feel x_turn x_sight x_ball x_w x_h x_n x_players x_place)) ⟨hx, hb, hml, hown, hts⟩ (c_X8_size l D cy t v33 hr57) (va_cwS 1 hts gX8_thinks_X8_size rfl rfl rfl hd_X8_size ⟨Nat.le_of_ble_eq_true rfl, Nat.le_of_ble_eq_true rfl⟩) hK hE hP hD hS hA [] 2 rfl rfl (by decide +kernel) rfl rfl hl.1 rfl (Nat.le_of_ble_eq_true rfl) dX8_thinks_57 ⟨Nat.le_of_ble_eq_true rfl, Nat.le_of_ble_eq_true rfl⟩ (fun H locs hP hD hS => ?_)
    refine lv_iload_n hx hb dX8_thinks_60 rfl (lv_at hl 0 rfl) ?_
    obtain ⟨r61, hr61, hf⟩ := bd_s hf
    refine my_Si (WS2 := (wd_X8_thinks cy o_t x_thrown x_delay x_feel x_turn x_sight x_ball x_w x_h x_n x_players x_place)) ⟨hx, hb, hml, hown, hts⟩ (c_X8_size l D cy t v55 hr61) (va_cwS 1 hts gX8_thinks_X8_size rfl rfl rfl hd_X8_size ⟨Nat.le_of_ble_eq_true rfl, Nat.le_of_ble_eq_true rfl⟩) hK hE hP hD hS hA [] 2 rfl rfl (by decide +kernel) rfl rfl hl.1 rfl (Nat.le_of_ble_eq_true rfl) dX8_thinks_61 ⟨Nat.le_of_ble_eq_true rfl, Nat.le_of_ble_eq_true rfl⟩ (fun H locs hP hD hS => ?_)
    refine lv_icmp_lt (tgt := 77) hx hb dX8_thinks_64 (by decide) (fun c64 => ?_) (fun c64 => ?_)
    · have hf := ifp c64 hf
      refine lv_iload_n hx hb dX8_thinks_77 rfl (lv_at hl 0 rfl) ?_
      refine lv_if_le (tgt := 85) hx hb dX8_thinks_78 (by decide) (fun c78 => ?_) (fun c78 => ?_)
      · have hf := ifp c78 hf
        refine lv_iconst (v := (4 : Int32)) hx hb dX8_thinks_85 (by decide) ?_
        obtain rfl := Option.some.inj hf
        exact hR _ _ _ _ hP hD hS dX8_thinks_86
      · have hf := ifn c78 hf
        refine lv_iconst (v := (2 : Int32)) hx hb dX8_thinks_81 (by decide) ?_
        refine lv_goto (tgt := 86) hx hb dX8_thinks_82 (by decide) ?_
        obtain rfl := Option.some.inj hf
        exact hR _ _ _ _ hP hD hS dX8_thinks_86
    · have hf := ifn c64 hf
      refine lv_iload_n hx hb dX8_thinks_67 rfl (lv_at hl 1 rfl) ?_
      refine lv_if_le (tgt := 75) hx hb dX8_thinks_68 (by decide) (fun c68 => ?_) (fun c68 => ?_)
      · have hf := ifp c68 hf
        refine lv_iconst (v := (3 : Int32)) hx hb dX8_thinks_75 (by decide) ?_
        obtain rfl := Option.some.inj hf
        exact hR _ _ _ _ hP hD hS dX8_thinks_76
      · have hf := ifn c68 hf
        refine lv_iconst (v := (1 : Int32)) hx hb dX8_thinks_71 (by decide) ?_
        refine lv_goto (tgt := 76) hx hb dX8_thinks_72 (by decide) ?_
        obtain rfl := Option.some.inj hf
        exact hR _ _ _ _ hP hD hS dX8_thinks_76
  · have hf := ifn c7 hf
    refine lv_iconst (v := (5 : Int32)) hx hb dX8_thinks_10 (by decide) ?_
    obtain rfl := Option.some.inj hf
    exact hR _ _ _ _ hP hD hS dX8_thinks_11
theorem hd_X8_thinks : yX8_thinks.cls ≠ "java/lang/invoke/MethodHandle" ∧ yX8_thinks.cls ≠ "java/lang/invoke/VarHandle" ∧ (parseMethodDescriptor yX8_thinks.desc).map (fun d => d.parameters.length) = some 1 := by decide +kernel
set_option maxRecDepth 100000 in
theorem c_X8_thinks (l : Launch) (D : va_G) (cy : Nat → ClassId) (t : Nat → Nat) (o_t : Nat → Nat) (x_thrown : Int32) (x_delay : Int32) (x_feel : Int32) (x_turn : Int32) (x_sight : Int32) (x_ball : Int32) (x_w : Int32) (x_h : Int32) (x_n : Int32) (x_players : Int32) (x_place : Nat → Int32) (p1 : Int32) {out : Int32} (hf : X8_thinks x_ball x_w x_h x_place p1 = some out) : ctI l yX8_thinks wsX8_thinks 3 72 D cy t [.ref (o_t 0), .int p1] (wd_X8_thinks cy o_t x_thrown x_delay x_feel x_turn x_sight x_ball x_w x_h x_n x_players x_place) (wd_X8_thinks cy o_t x_thrown x_delay x_feel x_turn x_sight x_ball x_w x_h x_n x_players x_place) out := by
  refine ⟨rfl, ?_⟩
  intro sz
  refine Met.ofW (cc := cX8_thinks) (maxL := 4) (ret := (some .int)) (by decide) rfl ?_
  intro p e s m args below meth c s₁ B hml hv
  obtain ⟨rfl, hsz, hP, hK, hD0, hE⟩ := hv
  have hts := atoms_spec (ws := wsX8_thinks) B.pre
  have hown : s.vm.findClass RX8 = some m.cls := findClass_of_methodNamed B.named
  have hlocks := B.notSynchronized
  subst hsz
  have hD := hD0.self (sz := s.heap.size)
  have hl := lv_entry ([.ref (o_t 0), .int p1]) (n := 4) (Nat.le_of_ble_eq_true rfl)
  rw [lg_entry_eq]
  generalize (lg_sl ([.ref (o_t 0), .int p1]) ++ List.replicate (4 - (lg_sl ([.ref (o_t 0), .int p1])).length) Slot.unset).toArray = ls at hl ⊢
  exact w_X8_thinks D cy t o_t x_thrown x_delay x_feel x_turn x_sight x_ball x_w x_h x_n x_players x_place p1 hf B.exec B.bytes hml hown hts hK hE (fun q h => Or.inr h) hP hD va_S.rf hl (fun H locs ls pc hP hD hS hdg => W.iret B.exec B.bytes B.returns (fun t ht hW => ⟨⟨_, (), rfl, rfl, ctB_of ht hP⟩, hS.F ht⟩) hS.2.2 hdg)

noncomputable def X8_step_J253 (n_a3 : Nat) (x_w : Int32) (x_h : Int32) (x_n : Int32) (x_spin : Nat → Int32) (x_seed : Nat → Int32) (x_leftFrom : Nat → Int32) (x_leftTo : Nat → Int32) (x_a3 : Nat → Int32) (x_ball : Int32) (x_place : Nat → Int32) (x_points : Nat → Int32) (l7 : Int32) : Option (Int32 × (Nat → Int32) × (Nat → Int32)) :=
  if l7 = (-9 : Int32) then (some (x_ball, x_place, x_points)) else (rd x_points 6 l7 fun v267 => wrI x_points 6 l7 (v267 + (1 : Int32)) fun w270 => some (x_ball, x_place, w270))
noncomputable def X8_step_J245 (n_a3 : Nat) (x_w : Int32) (x_h : Int32) (x_n : Int32) (x_spin : Nat → Int32) (x_seed : Nat → Int32) (x_leftFrom : Nat → Int32) (x_leftTo : Nat → Int32) (x_a3 : Nat → Int32) (rec141 : Int32 → (Nat → Int32) → (Nat → Int32) → Int32 → Int32 → Int32 → Option (Int32 × (Nat → Int32) × (Nat → Int32))) (x_ball : Int32) (x_place : Nat → Int32) (x_points : Nat → Int32) (l7 : Int32) (l8 : Int32) (s0 : Int32) : Option (Int32 × (Nat → Int32) × (Nat → Int32)) :=
  nm (l8 + (1 : Int32)) fun v247 => rec141 x_ball x_place x_points s0 l7 v247
noncomputable def X8_step_J229 (n_a3 : Nat) (x_w : Int32) (x_h : Int32) (x_n : Int32) (x_spin : Nat → Int32) (x_seed : Nat → Int32) (x_leftFrom : Nat → Int32) (x_leftTo : Nat → Int32) (x_a3 : Nat → Int32) (rec141 : Int32 → (Nat → Int32) → (Nat → Int32) → Int32 → Int32 → Int32 → Option (Int32 × (Nat → Int32) × (Nat → Int32))) (x_ball : Int32) (x_place : Nat → Int32) (x_points : Nat → Int32) (l6 : Int32) (l8 : Int32) (l9 : Int32) (s0 : Int32) : Option (Int32 × (Nat → Int32) × (Nat → Int32)) :=
  if l6 ≤ l9 then (X8_step_J245 n_a3 x_w x_h x_n x_spin x_seed x_leftFrom x_leftTo x_a3 rec141 x_ball x_place x_points s0 l8 l6) else (X8_step_J245 n_a3 x_w x_h x_n x_spin x_seed x_leftFrom x_leftTo x_a3 rec141 x_ball x_place x_points s0 l8 l9)
noncomputable def X8_step_L141_B (n_a3 : Nat) (x_w : Int32) (x_h : Int32) (x_n : Int32) (x_spin : Nat → Int32) (x_seed : Nat → Int32) (x_leftFrom : Nat → Int32) (x_leftTo : Nat → Int32) (x_a3 : Nat → Int32) (rec141 : Int32 → (Nat → Int32) → (Nat → Int32) → Int32 → Int32 → Int32 → Option (Int32 × (Nat → Int32) × (Nat → Int32))) (x_ball : Int32) (x_place : Nat → Int32) (x_points : Nat → Int32) (l6 : Int32) (l7 : Int32) (l8 : Int32) : Option (Int32 × (Nat → Int32) × (Nat → Int32)) :=
  if x_n ≤ l8 then (X8_step_J253 n_a3 x_w x_h x_n x_spin x_seed x_leftFrom x_leftTo x_a3  x_ball x_place x_points l7) else (dvI x_w <| rd x_place 6 l8 fun v165 => dvI x_w <| bd (X8_size ((x_ball - x_ball / x_w * x_w) - (v165 - v165 / x_w * x_w))) fun r172 => dvI x_w <| rd x_place 6 l8 fun v190 => dvI x_w <| bd (X8_size ((x_ball / x_w) - (v190 / x_w))) fun r197 => nm (r172 + r197) fun v201 => if l6 ≤ v201 then (if v201 = l6 then (X8_step_J229 n_a3 x_w x_h x_n x_spin x_seed x_leftFrom x_leftTo x_a3 rec141 x_ball x_place x_points l6 l8 v201 (-9 : Int32)) else (X8_step_J229 n_a3 x_w x_h x_n x_spin x_seed x_leftFrom x_leftTo x_a3 rec141 x_ball x_place x_points l6 l8 v201 l7)) else (X8_step_J229 n_a3 x_w x_h x_n x_spin x_seed x_leftFrom x_leftTo x_a3 rec141 x_ball x_place x_points l6 l8 v201 l8))
noncomputable def X8_step_L141 (n_a3 : Nat) (x_w : Int32) (x_h : Int32) (x_n : Int32) (x_spin : Nat → Int32) (x_seed : Nat → Int32) (x_leftFrom : Nat → Int32) (x_leftTo : Nat → Int32) (x_a3 : Nat → Int32) : Nat → Int32 → (Nat → Int32) → (Nat → Int32) → Int32 → Int32 → Int32 → Option (Int32 × (Nat → Int32) × (Nat → Int32))
  | 0, _, _, _, _, _, _ => none
  | n + 1, y0, y1, y2, y3, y4, y5 => X8_step_L141_B n_a3 x_w x_h x_n x_spin x_seed x_leftFrom x_leftTo x_a3  (X8_step_L141 n_a3 x_w x_h x_n x_spin x_seed x_leftFrom x_leftTo x_a3  n) y0 y1 y2 y3 y4 y5
noncomputable def X8_step_J130 (n_a3 : Nat) (x_w : Int32) (x_h : Int32) (x_n : Int32) (x_spin : Nat → Int32) (x_seed : Nat → Int32) (x_leftFrom : Nat → Int32) (x_leftTo : Nat → Int32) (x_a3 : Nat → Int32) (x_ball : Int32) (x_place : Nat → Int32) (x_points : Nat → Int32) : Option (Int32 × (Nat → Int32) × (Nat → Int32)) :=
  X8_step_L141 n_a3 x_w x_h x_n x_spin x_seed x_leftFrom x_leftTo x_a3  FU x_ball x_place x_points (1000000000 : Int32) (-9 : Int32) (0 : Int32)
noncomputable def X8_step_J127 (n_a3 : Nat) (x_w : Int32) (x_h : Int32) (x_n : Int32) (x_spin : Nat → Int32) (x_seed : Nat → Int32) (x_leftFrom : Nat → Int32) (x_leftTo : Nat → Int32) (x_a3 : Nat → Int32) (x_ball : Int32) (x_place : Nat → Int32) (x_points : Nat → Int32) (s1 : Int32) : Option (Int32 × (Nat → Int32) × (Nat → Int32)) :=
  X8_step_J130 n_a3 x_w x_h x_n x_spin x_seed x_leftFrom x_leftTo x_a3  s1 x_place x_points 
noncomputable def X8_step_J58 (n_a3 : Nat) (x_w : Int32) (x_h : Int32) (x_n : Int32) (x_spin : Nat → Int32) (x_seed : Nat → Int32) (x_leftFrom : Nat → Int32) (x_leftTo : Nat → Int32) (x_a3 : Nat → Int32) (x_ball : Int32) (x_place : Nat → Int32) (x_points : Nat → Int32) (l1 : Int32) (l2 : Int32) : Option (Int32 × (Nat → Int32) × (Nat → Int32)) :=
  rd x_spin 5 l1 fun v63 => if v63 ≤ (0 : Int32) then (X8_step_J130 n_a3 x_w x_h x_n x_spin x_seed x_leftFrom x_leftTo x_a3  x_ball x_place x_points ) else (rd x_spin 5 l1 fun v75 => dvI v75 <| if ((l2 + (1 : Int32)) - (l2 + (1 : Int32)) / v75 * v75) = (0 : Int32) then (rd x_seed 5 l1 fun v92 => dvI (4 : Int32) <| bd (X8_by x_w x_h x_ball (((((31 : Int32) * v92) + ((17 : Int32) * l2)) - (((31 : Int32) * v92) + ((17 : Int32) * l2)) / (4 : Int32) * (4 : Int32)) + (1 : Int32))) fun r103 => bd (X8_isFree x_n x_place r103) fun r112 => if r112 = (0 : Int32) then (X8_step_J127 n_a3 x_w x_h x_n x_spin x_seed x_leftFrom x_leftTo x_a3  x_ball x_place x_points x_ball) else (X8_step_J127 n_a3 x_w x_h x_n x_spin x_seed x_leftFrom x_leftTo x_a3  x_ball x_place x_points r103)) else (X8_step_J130 n_a3 x_w x_h x_n x_spin x_seed x_leftFrom x_leftTo x_a3  x_ball x_place x_points ))
noncomputable def X8_step_J47 (n_a3 : Nat) (x_w : Int32) (x_h : Int32) (x_n : Int32) (x_spin : Nat → Int32) (x_seed : Nat → Int32) (x_leftFrom : Nat → Int32) (x_leftTo : Nat → Int32) (x_a3 : Nat → Int32) (rec3 : Int32 → (Nat → Int32) → (Nat → Int32) → Int32 → Int32 → Int32 → Int32 → Int32 → Option (Int32 × (Nat → Int32) × (Nat → Int32))) (x_ball : Int32) (x_place : Nat → Int32) (x_points : Nat → Int32) (l1 : Int32) (l2 : Int32) (l4 : Int32) (l5 : Int32) (l6 : Int32) (s1 : Int32) (s2 : Int32) : Option (Int32 × (Nat → Int32) × (Nat → Int32)) :=
  bd (X8_act x_w x_h x_n x_ball x_place s1 s2 l5) fun r49 => nm (l6 + (1 : Int32)) fun v52 => rec3 r49.1 r49.2 x_points l1 l2 l4 l5 v52
noncomputable def X8_step_L3_B (n_a3 : Nat) (x_w : Int32) (x_h : Int32) (x_n : Int32) (x_spin : Nat → Int32) (x_seed : Nat → Int32) (x_leftFrom : Nat → Int32) (x_leftTo : Nat → Int32) (x_a3 : Nat → Int32) (rec3 : Int32 → (Nat → Int32) → (Nat → Int32) → Int32 → Int32 → Int32 → Int32 → Int32 → Option (Int32 × (Nat → Int32) × (Nat → Int32))) (x_ball : Int32) (x_place : Nat → Int32) (x_points : Nat → Int32) (l1 : Int32) (l2 : Int32) (l4 : Int32) (l5 : Int32) (l6 : Int32) : Option (Int32 × (Nat → Int32) × (Nat → Int32)) :=
  if x_n ≤ l6 then (X8_step_J58 n_a3 x_w x_h x_n x_spin x_seed x_leftFrom x_leftTo x_a3  x_ball x_place x_points l1 l2) else (bd (X8_isLeft x_leftFrom x_leftTo l1 l6 l2) fun r20 => if r20 = (0 : Int32) then (rd x_a3 n_a3 ((l4 + ((100 : Int32) * l6)) + l2) fun v46 => X8_step_J47 n_a3 x_w x_h x_n x_spin x_seed x_leftFrom x_leftTo x_a3 rec3 x_ball x_place x_points l1 l2 l4 l5 l6 l6 v46) else (bd (X8_thinks x_ball x_w x_h x_place l6) fun r29 => X8_step_J47 n_a3 x_w x_h x_n x_spin x_seed x_leftFrom x_leftTo x_a3 rec3 x_ball x_place x_points l1 l2 l4 l5 l6 l6 r29))
noncomputable def X8_step_L3 (n_a3 : Nat) (x_w : Int32) (x_h : Int32) (x_n : Int32) (x_spin : Nat → Int32) (x_seed : Nat → Int32) (x_leftFrom : Nat → Int32) (x_leftTo : Nat → Int32) (x_a3 : Nat → Int32) : Nat → Int32 → (Nat → Int32) → (Nat → Int32) → Int32 → Int32 → Int32 → Int32 → Int32 → Option (Int32 × (Nat → Int32) × (Nat → Int32))
  | 0, _, _, _, _, _, _, _, _ => none
  | n + 1, y0, y1, y2, y3, y4, y5, y6, y7 => X8_step_L3_B n_a3 x_w x_h x_n x_spin x_seed x_leftFrom x_leftTo x_a3  (X8_step_L3 n_a3 x_w x_h x_n x_spin x_seed x_leftFrom x_leftTo x_a3  n) y0 y1 y2 y3 y4 y5 y6 y7
noncomputable def X8_step (n_a3 : Nat) (x_w : Int32) (x_h : Int32) (x_n : Int32) (x_spin : Nat → Int32) (x_seed : Nat → Int32) (x_leftFrom : Nat → Int32) (x_leftTo : Nat → Int32) (x_a3 : Nat → Int32) (x_ball : Int32) (x_place : Nat → Int32) (x_points : Nat → Int32) (p1 : Int32) (p2 : Int32) (p4 : Int32) (p5 : Int32) : Option (Int32 × (Nat → Int32) × (Nat → Int32)) :=
  X8_step_L3 n_a3 x_w x_h x_n x_spin x_seed x_leftFrom x_leftTo x_a3  FU x_ball x_place x_points p1 p2 p4 p5 (0 : Int32)
abbrev wd_X8_step (cy : Nat → ClassId) (o_t : Nat → Nat) (r_a3 n_a3 : Nat) (x_thrown : Int32) (x_delay : Int32) (x_feel : Int32) (x_turn : Int32) (x_sight : Int32) (x_ball : Int32) (x_w : Int32) (x_h : Int32) (x_n : Int32) (x_players : Int32) (x_spin : Nat → Int32) (x_seed : Nat → Int32) (x_leftFrom : Nat → Int32) (x_leftTo : Nat → Int32) (x_place : Nat → Int32) (x_points : Nat → Int32) (x_a3 : Nat → Int32) : va_W := [(o_t 0, .inr (8, [.int x_thrown, .ref (o_t 2), .ref (o_t 3), .ref (o_t 4), .ref (o_t 5), .ref (o_t 6), .ref (o_t 7), .ref (o_t 8), .ref (o_t 9), .ref (o_t 10), .ref (o_t 11), .int x_delay, .int x_feel, .int x_turn, .int x_sight, .ref (o_t 16), .ref (o_t 17), .ref (o_t 18), .ref (o_t 19), .int x_ball, .int x_w, .int x_h, .int x_n, .ref (o_t 24), .ref (o_t 25), .ref (o_t 26), .ref (o_t 27), .ref (o_t 28), .ref (o_t 29), .int x_players, .ref (o_t 31), .ref (o_t 32), .ref (o_t 33), .ref (o_t 34), .ref (o_t 35), .ref (o_t 36)])), (o_t 6, .inl (cy 0, 5, .inl x_spin)), (o_t 7, .inl (cy 0, 5, .inl x_seed)), (o_t 9, .inl (cy 0, 30, .inl x_leftFrom)), (o_t 10, .inl (cy 0, 30, .inl x_leftTo)), (o_t 18, .inl (cy 0, 6, .inl x_place)), (o_t 19, .inl (cy 0, 6, .inl x_points)), (r_a3, .inl (cy 0, n_a3, .inl x_a3))]
set_option maxHeartbeats 4000000 in
set_option maxRecDepth 100000 in
theorem w_X8_step {p : Program} {l : Launch} {e : Env} {s : State} {m : MethodId} {args : Array Value} {below : List Frame} {meth : Method} {c : Code} {Q : State → Prop} {A : Nat → Prop} {H : Heap} {locs : List Loc} {ls : Array Slot} (D : va_G) (cy : Nat → ClassId) (t : Nat → Nat) (o_t : Nat → Nat) (r_a3 n_a3 : Nat) (x_thrown : Int32) (x_delay : Int32) (x_feel : Int32) (x_turn : Int32) (x_sight : Int32) (x_ball : Int32) (x_w : Int32) (x_h : Int32) (x_n : Int32) (x_players : Int32) (x_spin : Nat → Int32) (x_seed : Nat → Int32) (x_leftFrom : Nat → Int32) (x_leftTo : Nat → Int32) (x_place : Nat → Int32) (x_points : Nat → Int32) (x_a3 : Nat → Int32) (p1 : Int32) (p2 : Int32) (p4 : Int32) (p5 : Int32) {out : Int32 × (Nat → Int32) × (Nat → Int32)} (hf : X8_step n_a3 x_w x_h x_n x_spin x_seed x_leftFrom x_leftTo x_a3 x_ball x_place x_points p1 p2 p4 p5 = some out) (hx : p.tables.exec = Jvm.exec) (hb : c.code = cX8_step) (hml : c.maxLocals = 10) (hown : s.vm.findClass RX8 = some m.cls) (hts : ∀ w ∈ wsX8_step, w.before args s = true) (hK : va_K D vwCl (TYS cy) s) (hE : EV t A s s.heap) (hA : ∀ q, s.heap.size ≤ q → A q) (hP : va_P D vwCl (wd_X8_step cy o_t r_a3 n_a3 x_thrown x_delay x_feel x_turn x_sight x_ball x_w x_h x_n x_players x_spin x_seed x_leftFrom x_leftTo x_place x_points x_a3) H) (hD : va_D A (wd_X8_step cy o_t r_a3 n_a3 x_thrown x_delay x_feel x_turn x_sight x_ball x_w x_h x_n x_players x_spin x_seed x_leftFrom x_leftTo x_place x_points x_a3)) (hS : va_S A s.heap H locs) (hl : lv_has ls 10 [(0, .ref (o_t 0)), (1, .int p1), (2, .int p2), (3, .ref r_a3), (4, .int p4), (5, .int p5)]) (hR : ∀ (H : Heap) (locs : List Loc) (ls : Array Slot) (pc : Nat), va_P D vwCl (wd_X8_step cy o_t r_a3 n_a3 x_thrown x_delay x_feel x_turn x_sight out.1 x_w x_h x_n x_players x_spin x_seed x_leftFrom x_leftTo out.2.1 out.2.2 x_a3) H → va_D A (wd_X8_step cy o_t r_a3 n_a3 x_thrown x_delay x_feel x_turn x_sight out.1 x_w x_h x_n x_players x_spin x_seed x_leftFrom x_leftTo out.2.1 out.2.2 x_a3) → va_S A s.heap H locs → decode cX8_step pc = .ok (.return_, 1) → W p l e (rmm 4 98) s m args below meth c H locs 0 0 Q (F0 m pc ls [])) : W p l e (rmm 4 98) s m args below meth c H locs 0 0 Q (F0 m 0 ls []) := by
  have k0 := hts (.fieldLink RX8 135 "SeaGamesModel" "n" "I") (List.mem_cons_of_mem _ (List.mem_append_left _ (List.mem_append_left _ (List.mem_of_getElem? (i := 0) rfl))))
  have k1 : ∀ w ∈ u_ws RX8 TX8 36, w ∈ wsX8_step := fun _ h => List.mem_cons_of_mem _ (List.mem_append_right _ h)
  have k2 := hts (.fieldLink RX8 22 "SeaGamesModel" "spin" "[I") (List.mem_cons_of_mem _ (List.mem_append_left _ (List.mem_append_left _ (List.mem_of_getElem? (i := 1) rfl))))
  have k3 := hts (.constant RX8 168 (1000000000)) (List.mem_cons_of_mem _ (List.mem_append_left _ (List.mem_append_left _ (List.mem_of_getElem? (i := 4) rfl))))
  have k4 := hts (.fieldLink RX8 60 "SeaGamesModel" "points" "[I") (List.mem_cons_of_mem _ (List.mem_append_left _ (List.mem_append_left _ (List.mem_of_getElem? (i := 7) rfl))))
  have k5 := hts (.fieldLink RX8 138 "SeaGamesModel" "ball" "I") (List.mem_cons_of_mem _ (List.mem_append_left _ (List.mem_append_left _ (List.mem_of_getElem? (i := 2) rfl))))
  have k6 := hts (.fieldLink RX8 129 "SeaGamesModel" "w" "I") (List.mem_cons_of_mem _ (List.mem_append_left _ (List.mem_append_left _ (List.mem_of_getElem? (i := 5) rfl))))
  have k7 := hts (.fieldLink RX8 57 "SeaGamesModel" "place" "[I") (List.mem_cons_of_mem _ (List.mem_append_left _ (List.mem_append_left _ (List.mem_of_getElem? (i := 6) rfl))))
  have k8 := hts (.fieldLink RX8 25 "SeaGamesModel" "seed" "[I") (List.mem_cons_of_mem _ (List.mem_append_left _ (List.mem_append_left _ (List.mem_of_getElem? (i := 3) rfl))))
  rw [X8_step] at hf
  have h3 : ∀ (n3 : Nat) (x_ball : Int32) (x_place : Nat → Int32) (x_points : Nat → Int32) (l1 : Int32) (l2 : Int32) (l4 : Int32) (l5 : Int32) (l6 : Int32) (H : Heap) (locs : List Loc) (ls : Array Slot), X8_step_L3 n_a3 x_w x_h x_n x_spin x_seed x_leftFrom x_leftTo x_a3 n3 x_ball x_place x_points l1 l2 l4 l5 l6 = some out → va_P D vwCl (wd_X8_step cy o_t r_a3 n_a3 x_thrown x_delay x_feel x_turn x_sight x_ball x_w x_h x_n x_players x_spin x_seed x_leftFrom x_leftTo x_place x_points x_a3) H → va_D A (wd_X8_step cy o_t r_a3 n_a3 x_thrown x_delay x_feel x_turn x_sight x_ball x_w x_h x_n x_players x_spin x_seed x_leftFrom x_leftTo x_place x_points x_a3) → va_S A s.heap H locs → lv_has ls 10 [(0, .ref (o_t 0)), (1, .int l1), (2, .int l2), (3, .ref r_a3), (4, .int l4), (5, .int l5), (6, .int l6)] → W p l e (rmm 4 98) s m args below meth c H locs 0 0 Q (F0 m 3 ls []) := by
    intro n3
    induction n3 with
    | zero =>
      intro _ _ _ _ _ _ _ _ _ _ _ hf
      exact nomatch (show (none : Option _) = some out from hf)
    | succ n3 ih3 =>
      intro x_ball x_place x_points l1 l2 l4 l5 l6 H locs ls hf hP hD hS hl
      have hf : X8_step_L3_B n_a3 x_w x_h x_n x_spin x_seed x_leftFrom x_leftTo x_a3 (X8_step_L3 n_a3 x_w x_h x_n x_spin x_seed x_leftFrom x_leftTo x_a3 n3) x_ball x_place x_points l1 l2 l4 l5 l6 = some out := hf
      rw [X8_step_L3_B] at hf
      have h58 : ∀ (x_ball : Int32) (x_place : Nat → Int32) (x_points : Nat → Int32) (l1 : Int32) (l2 : Int32) (H : Heap) (locs : List Loc) (ls : Array Slot), X8_step_J58 n_a3 x_w x_h x_n x_spin x_seed x_leftFrom x_leftTo x_a3 x_ball x_place x_points l1 l2 = some out → va_P D vwCl (wd_X8_step cy o_t r_a3 n_a3 x_thrown x_delay x_feel x_turn x_sight x_ball x_w x_h x_n x_players x_spin x_seed x_leftFrom x_leftTo x_place x_points x_a3) H → va_D A (wd_X8_step cy o_t r_a3 n_a3 x_thrown x_delay x_feel x_turn x_sight x_ball x_w x_h x_n x_players x_spin x_seed x_leftFrom x_leftTo x_place x_points x_a3) → va_S A s.heap H locs → lv_has ls 10 [(0, .ref (o_t 0)), (1, .int l1), (2, .int l2)] → W p l e (rmm 4 98) s m args below meth c H locs 0 0 Q (F0 m 58 ls []) := by
        intro x_ball x_place x_points l1 l2 H locs ls hf hP hD hS hl
        rw [X8_step_J58] at hf
        have h130 : ∀ (x_ball : Int32) (x_place : Nat → Int32) (x_points : Nat → Int32) (H : Heap) (locs : List Loc) (ls : Array Slot), X8_step_J130 n_a3 x_w x_h x_n x_spin x_seed x_leftFrom x_leftTo x_a3 x_ball x_place x_points = some out → va_P D vwCl (wd_X8_step cy o_t r_a3 n_a3 x_thrown x_delay x_feel x_turn x_sight x_ball x_w x_h x_n x_players x_spin x_seed x_leftFrom x_leftTo x_place x_points x_a3) H → va_D A (wd_X8_step cy o_t r_a3 n_a3 x_thrown x_delay x_feel x_turn x_sight x_ball x_w x_h x_n x_players x_spin x_seed x_leftFrom x_leftTo x_place x_points x_a3) → va_S A s.heap H locs → lv_has ls 10 [(0, .ref (o_t 0))] → W p l e (rmm 4 98) s m args below meth c H locs 0 0 Q (F0 m 130 ls []) := by
          intro x_ball x_place x_points H locs ls hf hP hD hS hl
          rw [X8_step_J130] at hf
          have h141 : ∀ (n141 : Nat) (x_ball : Int32) (x_place : Nat → Int32) (x_points : Nat → Int32) (l6 : Int32) (l7 : Int32) (l8 : Int32) (H : Heap) (locs : List Loc) (ls : Array Slot), X8_step_L141 n_a3 x_w x_h x_n x_spin x_seed x_leftFrom x_leftTo x_a3 n141 x_ball x_place x_points l6 l7 l8 = some out → va_P D vwCl (wd_X8_step cy o_t r_a3 n_a3 x_thrown x_delay x_feel x_turn x_sight x_ball x_w x_h x_n x_players x_spin x_seed x_leftFrom x_leftTo x_place x_points x_a3) H → va_D A (wd_X8_step cy o_t r_a3 n_a3 x_thrown x_delay x_feel x_turn x_sight x_ball x_w x_h x_n x_players x_spin x_seed x_leftFrom x_leftTo x_place x_points x_a3) → va_S A s.heap H locs → lv_has ls 10 [(0, .ref (o_t 0)), (6, .int l6), (7, .int l7), (8, .int l8)] → W p l e (rmm 4 98) s m args below meth c H locs 0 0 Q (F0 m 141 ls []) := by
            intro n141
            induction n141 with
            | zero =>
              intro _ _ _ _ _ _ _ _ _ hf
              exact nomatch (show (none : Option _) = some out from hf)
            | succ n141 ih141 =>
              intro x_ball x_place x_points l6 l7 l8 H locs ls hf hP hD hS hl
              have hf : X8_step_L141_B n_a3 x_w x_h x_n x_spin x_seed x_leftFrom x_leftTo x_a3 (X8_step_L141 n_a3 x_w x_h x_n x_spin x_seed x_leftFrom x_leftTo x_a3 n141) x_ball x_place x_points l6 l7 l8 = some out := hf
              rw [X8_step_L141_B] at hf
              have h253 : ∀ (x_ball : Int32) (x_place : Nat → Int32) (x_points : Nat → Int32) (l7 : Int32) (H : Heap) (locs : List Loc) (ls : Array Slot), X8_step_J253 n_a3 x_w x_h x_n x_spin x_seed x_leftFrom x_leftTo x_a3 x_ball x_place x_points l7 = some out → va_P D vwCl (wd_X8_step cy o_t r_a3 n_a3 x_thrown x_delay x_feel x_turn x_sight x_ball x_w x_h x_n x_players x_spin x_seed x_leftFrom x_leftTo x_place x_points x_a3) H → va_D A (wd_X8_step cy o_t r_a3 n_a3 x_thrown x_delay x_feel x_turn x_sight x_ball x_w x_h x_n x_players x_spin x_seed x_leftFrom x_leftTo x_place x_points x_a3) → va_S A s.heap H locs → lv_has ls 10 [(0, .ref (o_t 0)), (7, .int l7)] → W p l e (rmm 4 98) s m args below meth c H locs 0 0 Q (F0 m 253 ls []) := by
                intro x_ball x_place x_points l7 H locs ls hf hP hD hS hl
                rw [X8_step_J253] at hf
                refine lv_iload hx hb dX8_step_253 (lv_at hl 1 rfl) ?_
                refine lv_bipush (v := (-9 : Int32)) hx hb dX8_step_255 (by decide) ?_
                refine lv_icmp_eq (tgt := 271) hx hb dX8_step_257 (by decide) (fun c257 => ?_) (fun c257 => ?_)
                · have hf := ifp c257 hf
                  obtain rfl := Option.some.inj hf
                  exact hR _ _ _ _ hP hD hS dX8_step_271
                · have hf := ifn c257 hf
                  refine lv_aload_n hx hb dX8_step_260 rfl (lv_at hl 0 rfl) ?_
                  refine va_get (D := D) (ci := 8) (v := .ref (o_t 19)) (C := RX8) (T := TX8) (N := 36) hx hb hts k1 hown hK hP 0 rfl rfl 18 (by decide) k4 (fun _ h9 => h9) rfl dX8_step_261 ?_
                  refine lv_iload hx hb dX8_step_264 (lv_at hl 1 rfl) ?_
                  refine lv_dup2_11 hx hb dX8_step_266 rfl rfl ?_
                  obtain ⟨v267, b267, ev267, hf⟩ := rd_s hf
                  refine my_iald hx hb hK hP 6 rfl b267 ev267 dX8_step_267 ?_
                  refine lv_iconst (v := (1 : Int32)) hx hb dX8_step_268 (by decide) ?_
                  refine lv_iadd hx hb dX8_step_269 ?_
                  obtain ⟨w270, b270, ew270, hf⟩ := wrI_s hf
                  refine my_iast (ws2 := (wd_X8_step cy o_t r_a3 n_a3 x_thrown x_delay x_feel x_turn x_sight x_ball x_w x_h x_n x_players x_spin x_seed x_leftFrom x_leftTo x_place w270 x_a3)) hx hb hK hP hD hS 6 rfl b270 ew270 rfl dX8_step_270 (fun H locs hP hD hS => ?_)
                  obtain rfl := Option.some.inj hf
                  exact hR _ _ _ _ hP hD hS dX8_step_271
              refine lv_iload hx hb dX8_step_141 (lv_at hl 3 rfl) ?_
              refine lv_aload_n hx hb dX8_step_143 rfl (lv_at hl 0 rfl) ?_
              refine va_get (D := D) (ci := 8) (v := .int x_n) (C := RX8) (T := TX8) (N := 36) hx hb hts k1 hown hK hP 0 rfl rfl 22 (by decide) k0 (fun _ h9 => h9) rfl dX8_step_144 ?_
              refine lv_icmp_ge (tgt := 253) hx hb dX8_step_147 (by decide) (fun c147 => ?_) (fun c147 => ?_)
              · have hf := ifp c147 hf
                exact h253 _ _ _ _ _ _ _ hf hP hD hS (lv_sub hl [0, 2] rfl)
              · have hf := ifn c147 hf
                have h229 : ∀ (x_ball : Int32) (x_place : Nat → Int32) (x_points : Nat → Int32) (l6 : Int32) (l8 : Int32) (l9 : Int32) (s0 : Int32) (H : Heap) (locs : List Loc) (ls : Array Slot), X8_step_J229 n_a3 x_w x_h x_n x_spin x_seed x_leftFrom x_leftTo x_a3 (X8_step_L141 n_a3 x_w x_h x_n x_spin x_seed x_leftFrom x_leftTo x_a3 n141) x_ball x_place x_points l6 l8 l9 s0 = some out → va_P D vwCl (wd_X8_step cy o_t r_a3 n_a3 x_thrown x_delay x_feel x_turn x_sight x_ball x_w x_h x_n x_players x_spin x_seed x_leftFrom x_leftTo x_place x_points x_a3) H → va_D A (wd_X8_step cy o_t r_a3 n_a3 x_thrown x_delay x_feel x_turn x_sight x_ball x_w x_h x_n x_players x_spin x_seed x_leftFrom x_leftTo x_place x_points x_a3) → va_S A s.heap H locs → lv_has ls 10 [(0, .ref (o_t 0)), (6, .int l6), (8, .int l8), (9, .int l9)] → W p l e (rmm 4 98) s m args below meth c H locs 0 0 Q (F0 m 229 ls [.int s0]) := by
                  intro x_ball x_place x_points l6 l8 l9 s0 H locs ls hf hP hD hS hl
                  rw [X8_step_J229] at hf
                  have h245 : ∀ (x_ball : Int32) (x_place : Nat → Int32) (x_points : Nat → Int32) (l7 : Int32) (l8 : Int32) (s0 : Int32) (H : Heap) (locs : List Loc) (ls : Array Slot), X8_step_J245 n_a3 x_w x_h x_n x_spin x_seed x_leftFrom x_leftTo x_a3 (X8_step_L141 n_a3 x_w x_h x_n x_spin x_seed x_leftFrom x_leftTo x_a3 n141) x_ball x_place x_points l7 l8 s0 = some out → va_P D vwCl (wd_X8_step cy o_t r_a3 n_a3 x_thrown x_delay x_feel x_turn x_sight x_ball x_w x_h x_n x_players x_spin x_seed x_leftFrom x_leftTo x_place x_points x_a3) H → va_D A (wd_X8_step cy o_t r_a3 n_a3 x_thrown x_delay x_feel x_turn x_sight x_ball x_w x_h x_n x_players x_spin x_seed x_leftFrom x_leftTo x_place x_points x_a3) → va_S A s.heap H locs → lv_has ls 10 [(0, .ref (o_t 0)), (7, .int l7), (8, .int l8)] → W p l e (rmm 4 98) s m args below meth c H locs 0 0 Q (F0 m 245 ls [.int s0]) := by
                    intro x_ball x_place x_points l7 l8 s0 H locs ls hf hP hD hS hl
                    rw [X8_step_J245] at hf
                    refine lv_istore (lv' := [(6, .int s0), (0, .ref (o_t 0)), (7, .int l7), (8, .int l8)]) hx hb dX8_step_245 hl (by decide) rfl (fun ls hl => ?_)
                    obtain ⟨v247, ev247, hf⟩ := nm_s hf
                    refine lv_iinc (v := v247) (lv' := [(8, .int v247), (6, .int s0), (0, .ref (o_t 0)), (7, .int l7)]) hx hb dX8_step_247 hl (k := 3) rfl (by rw [ev247]; rfl) (by decide) rfl (fun ls hl => ?_)
                    refine lv_goto (tgt := 141) hx hb dX8_step_250 (by decide) ?_
                    exact ih141 _ _ _ _ _ _ _ _ _ hf hP hD hS (lv_sub hl [2, 1, 3, 0] rfl)
                  refine lv_istore (lv' := [(7, .int s0), (0, .ref (o_t 0)), (6, .int l6), (8, .int l8), (9, .int l9)]) hx hb dX8_step_229 hl (by decide) rfl (fun ls hl => ?_)
                  refine lv_iload hx hb dX8_step_231 (lv_at hl 4 rfl) ?_
                  refine lv_iload hx hb dX8_step_233 (lv_at hl 2 rfl) ?_
                  refine lv_icmp_ge (tgt := 243) hx hb dX8_step_235 (by decide) (fun c235 => ?_) (fun c235 => ?_)
                  · have hf := ifp c235 hf
                    refine lv_iload hx hb dX8_step_243 (lv_at hl 2 rfl) ?_
                    exact h245 _ _ _ _ _ _ _ _ _ hf hP hD hS (lv_sub hl [1, 0, 3] rfl)
                  · have hf := ifn c235 hf
                    refine lv_iload hx hb dX8_step_238 (lv_at hl 4 rfl) ?_
                    refine lv_goto (tgt := 245) hx hb dX8_step_240 (by decide) ?_
                    exact h245 _ _ _ _ _ _ _ _ _ hf hP hD hS (lv_sub hl [1, 0, 3] rfl)
                refine lv_aload_n hx hb dX8_step_150 rfl (lv_at hl 0 rfl) ?_
                refine va_get (D := D) (ci := 8) (v := .int x_ball) (C := RX8) (T := TX8) (N := 36) hx hb hts k1 hown hK hP 0 rfl rfl 19 (by decide) k5 (fun _ h9 => h9) rfl dX8_step_151 ?_
                refine lv_aload_n hx hb dX8_step_154 rfl (lv_at hl 0 rfl) ?_
                refine va_get (D := D) (ci := 8) (v := .int x_w) (C := RX8) (T := TX8) (N := 36) hx hb hts k1 hown hK hP 0 rfl rfl 20 (by decide) k6 (fun _ h9 => h9) rfl dX8_step_155 ?_
                obtain ⟨z158, hf⟩ := dvI_s hf
                refine lv_irem hx hb dX8_step_158 z158 ?_
                refine lv_aload_n hx hb dX8_step_159 rfl (lv_at hl 0 rfl) ?_
                refine va_get (D := D) (ci := 8) (v := .ref (o_t 18)) (C := RX8) (T := TX8) (N := 36) hx hb hts k1 hown hK hP 0 rfl rfl 17 (by decide) k7 (fun _ h9 => h9) rfl dX8_step_160 ?_
                refine lv_iload hx hb dX8_step_163 (lv_at hl 3 rfl) ?_
                obtain ⟨v165, b165, ev165, hf⟩ := rd_s hf
                refine my_iald hx hb hK hP 5 rfl b165 ev165 dX8_step_165 ?_
                refine lv_aload_n hx hb dX8_step_166 rfl (lv_at hl 0 rfl) ?_
                refine va_get (D := D) (ci := 8) (v := .int x_w) (C := RX8) (T := TX8) (N := 36) hx hb hts k1 hown hK hP 0 rfl rfl 20 (by decide) k6 (fun _ h9 => h9) rfl dX8_step_167 ?_
                obtain ⟨z170, hf⟩ := dvI_s hf
                refine lv_irem hx hb dX8_step_170 z170 ?_
                refine lv_isub hx hb dX8_step_171 ?_
                obtain ⟨r172, hr172, hf⟩ := bd_s hf
                refine my_Si (WS2 := (wd_X8_step cy o_t r_a3 n_a3 x_thrown x_delay x_feel x_turn x_sight x_ball x_w x_h x_n x_players x_spin x_seed x_leftFrom x_leftTo x_place x_points x_a3)) ⟨hx, hb, hml, hown, hts⟩ (c_X8_size l D cy t ((x_ball - x_ball / x_w * x_w) - (v165 - v165 / x_w * x_w)) hr172) (va_cwS 1 hts gX8_step_X8_size rfl rfl rfl hd_X8_size ⟨Nat.le_of_ble_eq_true rfl, Nat.le_of_ble_eq_true rfl⟩) hK hE hP hD hS hA [] 8 rfl rfl (by decide +kernel) rfl rfl hl.1 rfl (Nat.le_of_ble_eq_true rfl) dX8_step_172 ⟨Nat.le_of_ble_eq_true rfl, Nat.le_of_ble_eq_true rfl⟩ (fun H locs hP hD hS => ?_)
                refine lv_aload_n hx hb dX8_step_175 rfl (lv_at hl 0 rfl) ?_
                refine va_get (D := D) (ci := 8) (v := .int x_ball) (C := RX8) (T := TX8) (N := 36) hx hb hts k1 hown hK hP 0 rfl rfl 19 (by decide) k5 (fun _ h9 => h9) rfl dX8_step_176 ?_
                refine lv_aload_n hx hb dX8_step_179 rfl (lv_at hl 0 rfl) ?_
                refine va_get (D := D) (ci := 8) (v := .int x_w) (C := RX8) (T := TX8) (N := 36) hx hb hts k1 hown hK hP 0 rfl rfl 20 (by decide) k6 (fun _ h9 => h9) rfl dX8_step_180 ?_
                obtain ⟨z183, hf⟩ := dvI_s hf
                refine lv_idiv hx hb dX8_step_183 z183 ?_
                refine lv_aload_n hx hb dX8_step_184 rfl (lv_at hl 0 rfl) ?_
                refine va_get (D := D) (ci := 8) (v := .ref (o_t 18)) (C := RX8) (T := TX8) (N := 36) hx hb hts k1 hown hK hP 0 rfl rfl 17 (by decide) k7 (fun _ h9 => h9) rfl dX8_step_185 ?_
                refine lv_iload hx hb dX8_step_188 (lv_at hl 3 rfl) ?_
                obtain ⟨v190, b190, ev190, hf⟩ := rd_s hf
                refine my_iald hx hb hK hP 5 rfl b190 ev190 dX8_step_190 ?_
                refine lv_aload_n hx hb dX8_step_191 rfl (lv_at hl 0 rfl) ?_
                refine va_get (D := D) (ci := 8) (v := .int x_w) (C := RX8) (T := TX8) (N := 36) hx hb hts k1 hown hK hP 0 rfl rfl 20 (by decide) k6 (fun _ h9 => h9) rfl dX8_step_192 ?_
                obtain ⟨z195, hf⟩ := dvI_s hf
                refine lv_idiv hx hb dX8_step_195 z195 ?_
                refine lv_isub hx hb dX8_step_196 ?_
                obtain ⟨r197, hr197, hf⟩ := bd_s hf
                refine my_Si (WS2 := (wd_X8_step cy o_t r_a3 n_a3 x_thrown x_delay x_feel x_turn x_sight x_ball x_w x_h x_n x_players x_spin x_seed x_leftFrom x_leftTo x_place x_points x_a3)) ⟨hx, hb, hml, hown, hts⟩ (c_X8_size l D cy t ((x_ball / x_w) - (v190 / x_w)) hr197) (va_cwS 1 hts gX8_step_X8_size rfl rfl rfl hd_X8_size ⟨Nat.le_of_ble_eq_true rfl, Nat.le_of_ble_eq_true rfl⟩) hK hE hP hD hS hA [] 8 rfl rfl (by decide +kernel) rfl rfl hl.1 rfl (Nat.le_of_ble_eq_true rfl) dX8_step_197 ⟨Nat.le_of_ble_eq_true rfl, Nat.le_of_ble_eq_true rfl⟩ (fun H locs hP hD hS => ?_)
                refine lv_iadd hx hb dX8_step_200 ?_
                obtain ⟨v201, ev201, hf⟩ := nm_s hf
                refine my_topi ev201 ?_
                refine lv_istore (lv' := [(9, .int v201), (0, .ref (o_t 0)), (6, .int l6), (7, .int l7), (8, .int l8)]) hx hb dX8_step_201 hl (by decide) rfl (fun ls hl => ?_)
                refine lv_iload hx hb dX8_step_203 (lv_at hl 0 rfl) ?_
                refine lv_iload hx hb dX8_step_205 (lv_at hl 2 rfl) ?_
                refine lv_icmp_ge (tgt := 215) hx hb dX8_step_207 (by decide) (fun c207 => ?_) (fun c207 => ?_)
                · have hf := ifp c207 hf
                  refine lv_iload hx hb dX8_step_215 (lv_at hl 0 rfl) ?_
                  refine lv_iload hx hb dX8_step_217 (lv_at hl 2 rfl) ?_
                  refine lv_icmp_ne (tgt := 227) hx hb dX8_step_219 (by decide) (fun c219 => ?_) (fun c219 => ?_)
                  · have hf := ifn c219 hf
                    refine lv_iload hx hb dX8_step_227 (lv_at hl 3 rfl) ?_
                    exact h229 _ _ _ _ _ _ _ _ _ _ hf hP hD hS (lv_sub hl [1, 2, 4, 0] rfl)
                  · have hf := ifp c219 hf
                    refine lv_bipush (v := (-9 : Int32)) hx hb dX8_step_222 (by decide) ?_
                    refine lv_goto (tgt := 229) hx hb dX8_step_224 (by decide) ?_
                    exact h229 _ _ _ _ _ _ _ _ _ _ hf hP hD hS (lv_sub hl [1, 2, 4, 0] rfl)
                · have hf := ifn c207 hf
                  refine lv_iload hx hb dX8_step_210 (lv_at hl 4 rfl) ?_
                  refine lv_goto (tgt := 229) hx hb dX8_step_212 (by decide) ?_
                  exact h229 _ _ _ _ _ _ _ _ _ _ hf hP hD hS (lv_sub hl [1, 2, 4, 0] rfl)
          refine lv_ldc (v := (1000000000 : Int32)) hx hb hown k3 dX8_step_130 ?_
          refine lv_istore (lv' := [(6, .int (1000000000 : Int32)), (0, .ref (o_t 0))]) hx hb dX8_step_132 hl (by decide) rfl (fun ls hl => ?_)
          refine lv_bipush (v := (-9 : Int32)) hx hb dX8_step_134 (by decide) ?_
          refine lv_istore (lv' := [(7, .int (-9 : Int32)), (6, .int (1000000000 : Int32)), (0, .ref (o_t 0))]) hx hb dX8_step_136 hl (by decide) rfl (fun ls hl => ?_)
          refine lv_iconst (v := (0 : Int32)) hx hb dX8_step_138 (by decide) ?_
          refine lv_istore (lv' := [(8, .int (0 : Int32)), (7, .int (-9 : Int32)), (6, .int (1000000000 : Int32)), (0, .ref (o_t 0))]) hx hb dX8_step_139 hl (by decide) rfl (fun ls hl => ?_)
          exact h141 FU _ _ _ _ _ _ _ _ _ hf hP hD hS (lv_sub hl [3, 2, 1, 0] rfl)
        refine lv_aload_n hx hb dX8_step_58 rfl (lv_at hl 0 rfl) ?_
        refine va_get (D := D) (ci := 8) (v := .ref (o_t 6)) (C := RX8) (T := TX8) (N := 36) hx hb hts k1 hown hK hP 0 rfl rfl 5 (by decide) k2 (fun _ h9 => h9) rfl dX8_step_59 ?_
        refine lv_iload_n hx hb dX8_step_62 rfl (lv_at hl 1 rfl) ?_
        obtain ⟨v63, b63, ev63, hf⟩ := rd_s hf
        refine my_iald hx hb hK hP 1 rfl b63 ev63 dX8_step_63 ?_
        refine lv_if_le (tgt := 130) hx hb dX8_step_64 (by decide) (fun c64 => ?_) (fun c64 => ?_)
        · have hf := ifp c64 hf
          exact h130 _ _ _ _ _ _ hf hP hD hS (lv_sub hl [0] rfl)
        · have hf := ifn c64 hf
          refine lv_iload_n hx hb dX8_step_67 rfl (lv_at hl 2 rfl) ?_
          refine lv_iconst (v := (1 : Int32)) hx hb dX8_step_68 (by decide) ?_
          refine lv_iadd hx hb dX8_step_69 ?_
          refine lv_aload_n hx hb dX8_step_70 rfl (lv_at hl 0 rfl) ?_
          refine va_get (D := D) (ci := 8) (v := .ref (o_t 6)) (C := RX8) (T := TX8) (N := 36) hx hb hts k1 hown hK hP 0 rfl rfl 5 (by decide) k2 (fun _ h9 => h9) rfl dX8_step_71 ?_
          refine lv_iload_n hx hb dX8_step_74 rfl (lv_at hl 1 rfl) ?_
          obtain ⟨v75, b75, ev75, hf⟩ := rd_s hf
          refine my_iald hx hb hK hP 1 rfl b75 ev75 dX8_step_75 ?_
          obtain ⟨z76, hf⟩ := dvI_s hf
          refine lv_irem hx hb dX8_step_76 z76 ?_
          refine lv_if_ne (tgt := 130) hx hb dX8_step_77 (by decide) (fun c77 => ?_) (fun c77 => ?_)
          · have hf := ifn c77 hf
            exact h130 _ _ _ _ _ _ hf hP hD hS (lv_sub hl [0] rfl)
          · have hf := ifp c77 hf
            have h127 : ∀ (x_ball : Int32) (x_place : Nat → Int32) (x_points : Nat → Int32) (s1 : Int32) (H : Heap) (locs : List Loc) (ls : Array Slot), X8_step_J127 n_a3 x_w x_h x_n x_spin x_seed x_leftFrom x_leftTo x_a3 x_ball x_place x_points s1 = some out → va_P D vwCl (wd_X8_step cy o_t r_a3 n_a3 x_thrown x_delay x_feel x_turn x_sight x_ball x_w x_h x_n x_players x_spin x_seed x_leftFrom x_leftTo x_place x_points x_a3) H → va_D A (wd_X8_step cy o_t r_a3 n_a3 x_thrown x_delay x_feel x_turn x_sight x_ball x_w x_h x_n x_players x_spin x_seed x_leftFrom x_leftTo x_place x_points x_a3) → va_S A s.heap H locs → lv_has ls 10 [(0, .ref (o_t 0))] → W p l e (rmm 4 98) s m args below meth c H locs 0 0 Q (F0 m 127 ls [.int s1, .ref (o_t 0)]) := by
              intro x_ball x_place x_points s1 H locs ls hf hP hD hS hl
              rw [X8_step_J127] at hf
              refine va_put (D := D) (ci := 8) (v := .int s1) (ty := .int) (C := RX8) (T := TX8) (N := 36) hx hb hts k1 tyX8 tyX8_ok nmX8 hown hK hP hD hS 0 rfl rfl 19 (by decide) k5 (fun _ h9 => h9) rfl (by decide +kernel) rfl rfl (Nat.le_of_ble_eq_true rfl) dX8_step_127 (fun H locs hP hD hS => ?_)
              have hP : va_P D vwCl (wd_X8_step cy o_t r_a3 n_a3 x_thrown x_delay x_feel x_turn x_sight s1 x_w x_h x_n x_players x_spin x_seed x_leftFrom x_leftTo x_place x_points x_a3) H := hP
              have hD : va_D A (wd_X8_step cy o_t r_a3 n_a3 x_thrown x_delay x_feel x_turn x_sight s1 x_w x_h x_n x_players x_spin x_seed x_leftFrom x_leftTo x_place x_points x_a3) := hD
              exact h130 _ _ _ _ _ _ hf hP hD hS (lv_sub hl [0] rfl)
            refine lv_aload_n hx hb dX8_step_80 rfl (lv_at hl 0 rfl) ?_
            refine lv_aload_n hx hb dX8_step_81 rfl (lv_at hl 0 rfl) ?_
            refine va_get (D := D) (ci := 8) (v := .int x_ball) (C := RX8) (T := TX8) (N := 36) hx hb hts k1 hown hK hP 0 rfl rfl 19 (by decide) k5 (fun _ h9 => h9) rfl dX8_step_82 ?_
            refine lv_bipush (v := (31 : Int32)) hx hb dX8_step_85 (by decide) ?_
            refine lv_aload_n hx hb dX8_step_87 rfl (lv_at hl 0 rfl) ?_
            refine va_get (D := D) (ci := 8) (v := .ref (o_t 7)) (C := RX8) (T := TX8) (N := 36) hx hb hts k1 hown hK hP 0 rfl rfl 6 (by decide) k8 (fun _ h9 => h9) rfl dX8_step_88 ?_
            refine lv_iload_n hx hb dX8_step_91 rfl (lv_at hl 1 rfl) ?_
            obtain ⟨v92, b92, ev92, hf⟩ := rd_s hf
            refine my_iald hx hb hK hP 2 rfl b92 ev92 dX8_step_92 ?_
            refine lv_imul hx hb dX8_step_93 ?_
            refine lv_bipush (v := (17 : Int32)) hx hb dX8_step_94 (by decide) ?_
            refine lv_iload_n hx hb dX8_step_96 rfl (lv_at hl 2 rfl) ?_
            refine lv_imul hx hb dX8_step_97 ?_
            refine lv_iadd hx hb dX8_step_98 ?_
            refine lv_iconst (v := (4 : Int32)) hx hb dX8_step_99 (by decide) ?_
            obtain ⟨z100, hf⟩ := dvI_s hf
            refine lv_irem hx hb dX8_step_100 z100 ?_
            refine lv_iconst (v := (1 : Int32)) hx hb dX8_step_101 (by decide) ?_
            refine lv_iadd hx hb dX8_step_102 ?_
            obtain ⟨r103, hr103, hf⟩ := bd_s hf
            refine my_Vi (WS2 := (wd_X8_step cy o_t r_a3 n_a3 x_thrown x_delay x_feel x_turn x_sight x_ball x_w x_h x_n x_players x_spin x_seed x_leftFrom x_leftTo x_place x_points x_a3)) ⟨hx, hb, hml, hown, hts⟩ (c_X8_by l D cy t o_t x_thrown x_delay x_feel x_turn x_sight x_ball x_w x_h x_n x_players x_ball (((((31 : Int32) * v92) + ((17 : Int32) * l2)) - (((31 : Int32) * v92) + ((17 : Int32) * l2)) / (4 : Int32) * (4 : Int32)) + (1 : Int32)) hr103) (cwV 2 hts gX8_step_X8_by rfl rfl rfl ⟨rfl, hd_X8_by⟩ ⟨Nat.le_of_ble_eq_true rfl, Nat.le_of_ble_eq_true rfl⟩) hK hE hP hD hS hA [0] 8 8 0 rfl rfl rfl rfl (by decide +kernel) rfl rfl hl.1 rfl (Nat.le_of_ble_eq_true rfl) dX8_step_103 ⟨Nat.le_of_ble_eq_true rfl, Nat.le_of_ble_eq_true rfl⟩ (fun H locs hP hD hS => ?_)
            refine lv_istore (lv' := [(6, .int r103), (0, .ref (o_t 0)), (1, .int l1), (2, .int l2)]) hx hb dX8_step_106 hl (by decide) rfl (fun ls hl => ?_)
            refine lv_aload_n hx hb dX8_step_108 rfl (lv_at hl 1 rfl) ?_
            refine lv_aload_n hx hb dX8_step_109 rfl (lv_at hl 1 rfl) ?_
            refine lv_iload hx hb dX8_step_110 (lv_at hl 0 rfl) ?_
            obtain ⟨r112, hr112, hf⟩ := bd_s hf
            refine my_Vi (WS2 := (wd_X8_step cy o_t r_a3 n_a3 x_thrown x_delay x_feel x_turn x_sight x_ball x_w x_h x_n x_players x_spin x_seed x_leftFrom x_leftTo x_place x_points x_a3)) ⟨hx, hb, hml, hown, hts⟩ (c_X8_isFree l D cy t o_t x_thrown x_delay x_feel x_turn x_sight x_ball x_w x_h x_n x_players x_place r103 hr112) (cwV 1 hts gX8_step_X8_isFree rfl rfl rfl ⟨rfl, hd_X8_isFree⟩ ⟨Nat.le_of_ble_eq_true rfl, Nat.le_of_ble_eq_true rfl⟩) hK hE hP hD hS hA [0, 5] 8 8 0 rfl rfl rfl rfl (by decide +kernel) rfl rfl hl.1 rfl (Nat.le_of_ble_eq_true rfl) dX8_step_112 ⟨Nat.le_of_ble_eq_true rfl, Nat.le_of_ble_eq_true rfl⟩ (fun H locs hP hD hS => ?_)
            refine lv_if_eq (tgt := 123) hx hb dX8_step_115 (by decide) (fun c115 => ?_) (fun c115 => ?_)
            · have hf := ifp c115 hf
              refine lv_aload_n hx hb dX8_step_123 rfl (lv_at hl 1 rfl) ?_
              refine va_get (D := D) (ci := 8) (v := .int x_ball) (C := RX8) (T := TX8) (N := 36) hx hb hts k1 hown hK hP 0 rfl rfl 19 (by decide) k5 (fun _ h9 => h9) rfl dX8_step_124 ?_
              exact h127 _ _ _ _ _ _ _ hf hP hD hS (lv_sub hl [1] rfl)
            · have hf := ifn c115 hf
              refine lv_iload hx hb dX8_step_118 (lv_at hl 0 rfl) ?_
              refine lv_goto (tgt := 127) hx hb dX8_step_120 (by decide) ?_
              exact h127 _ _ _ _ _ _ _ hf hP hD hS (lv_sub hl [1] rfl)
      refine lv_iload hx hb dX8_step_3 (lv_at hl 6 rfl) ?_
      refine lv_aload_n hx hb dX8_step_5 rfl (lv_at hl 0 rfl) ?_
      refine va_get (D := D) (ci := 8) (v := .int x_n) (C := RX8) (T := TX8) (N := 36) hx hb hts k1 hown hK hP 0 rfl rfl 22 (by decide) k0 (fun _ h9 => h9) rfl dX8_step_6 ?_
      refine lv_icmp_ge (tgt := 58) hx hb dX8_step_9 (by decide) (fun c9 => ?_) (fun c9 => ?_)
      · have hf := ifp c9 hf
        exact h58 _ _ _ _ _ _ _ _ hf hP hD hS (lv_sub hl [0, 1, 2] rfl)
      · have hf := ifn c9 hf
        have h47 : ∀ (x_ball : Int32) (x_place : Nat → Int32) (x_points : Nat → Int32) (l1 : Int32) (l2 : Int32) (l4 : Int32) (l5 : Int32) (l6 : Int32) (s1 : Int32) (s2 : Int32) (H : Heap) (locs : List Loc) (ls : Array Slot), X8_step_J47 n_a3 x_w x_h x_n x_spin x_seed x_leftFrom x_leftTo x_a3 (X8_step_L3 n_a3 x_w x_h x_n x_spin x_seed x_leftFrom x_leftTo x_a3 n3) x_ball x_place x_points l1 l2 l4 l5 l6 s1 s2 = some out → va_P D vwCl (wd_X8_step cy o_t r_a3 n_a3 x_thrown x_delay x_feel x_turn x_sight x_ball x_w x_h x_n x_players x_spin x_seed x_leftFrom x_leftTo x_place x_points x_a3) H → va_D A (wd_X8_step cy o_t r_a3 n_a3 x_thrown x_delay x_feel x_turn x_sight x_ball x_w x_h x_n x_players x_spin x_seed x_leftFrom x_leftTo x_place x_points x_a3) → va_S A s.heap H locs → lv_has ls 10 [(0, .ref (o_t 0)), (1, .int l1), (2, .int l2), (3, .ref r_a3), (4, .int l4), (5, .int l5), (6, .int l6)] → W p l e (rmm 4 98) s m args below meth c H locs 0 0 Q (F0 m 47 ls [.int s2, .int s1, .ref (o_t 0)]) := by
          intro x_ball x_place x_points l1 l2 l4 l5 l6 s1 s2 H locs ls hf hP hD hS hl
          rw [X8_step_J47] at hf
          refine lv_iload hx hb dX8_step_47 (lv_at hl 5 rfl) ?_
          obtain ⟨r49, hr49, hf⟩ := bd_s hf
          refine my_Vv (WS2 := (wd_X8_step cy o_t r_a3 n_a3 x_thrown x_delay x_feel x_turn x_sight r49.1 x_w x_h x_n x_players x_spin x_seed x_leftFrom x_leftTo r49.2 x_points x_a3)) ⟨hx, hb, hml, hown, hts⟩ (c_X8_act l D cy t o_t x_thrown x_delay x_feel x_turn x_sight x_ball x_w x_h x_n x_players x_place s1 s2 l5 hr49) (cwV 3 hts gX8_step_X8_act rfl rfl rfl ⟨rfl, hd_X8_act⟩ ⟨Nat.le_of_ble_eq_true rfl, Nat.le_of_ble_eq_true rfl⟩) hK hE hP hD hS hA [0, 5] 8 8 0 rfl rfl rfl rfl (by decide +kernel) rfl rfl hl.1 rfl (Nat.le_of_ble_eq_true rfl) dX8_step_49 ⟨Nat.le_of_ble_eq_true rfl, Nat.le_of_ble_eq_true rfl⟩ (fun H locs hP hD hS => ?_)
          obtain ⟨v52, ev52, hf⟩ := nm_s hf
          refine lv_iinc (v := v52) (lv' := [(6, .int v52), (0, .ref (o_t 0)), (1, .int l1), (2, .int l2), (3, .ref r_a3), (4, .int l4), (5, .int l5)]) hx hb dX8_step_52 hl (k := 6) rfl (by rw [ev52]; rfl) (by decide) rfl (fun ls hl => ?_)
          refine lv_goto (tgt := 3) hx hb dX8_step_55 (by decide) ?_
          exact ih3 _ _ _ _ _ _ _ _ _ _ _ hf hP hD hS (lv_sub hl [1, 2, 3, 4, 5, 6, 0] rfl)
        refine lv_aload_n hx hb dX8_step_12 rfl (lv_at hl 0 rfl) ?_
        refine lv_iload hx hb dX8_step_13 (lv_at hl 6 rfl) ?_
        refine lv_aload_n hx hb dX8_step_15 rfl (lv_at hl 0 rfl) ?_
        refine lv_iload_n hx hb dX8_step_16 rfl (lv_at hl 1 rfl) ?_
        refine lv_iload hx hb dX8_step_17 (lv_at hl 6 rfl) ?_
        refine lv_iload_n hx hb dX8_step_19 rfl (lv_at hl 2 rfl) ?_
        obtain ⟨r20, hr20, hf⟩ := bd_s hf
        refine my_Vi (WS2 := (wd_X8_step cy o_t r_a3 n_a3 x_thrown x_delay x_feel x_turn x_sight x_ball x_w x_h x_n x_players x_spin x_seed x_leftFrom x_leftTo x_place x_points x_a3)) ⟨hx, hb, hml, hown, hts⟩ (c_X8_isLeft l D cy t o_t x_thrown x_delay x_feel x_turn x_sight x_ball x_w x_h x_n x_players x_leftFrom x_leftTo l1 l6 l2 hr20) (cwV 3 hts gX8_step_X8_isLeft rfl rfl rfl ⟨rfl, hd_X8_isLeft⟩ ⟨Nat.le_of_ble_eq_true rfl, Nat.le_of_ble_eq_true rfl⟩) hK hE hP hD hS hA [0, 3, 4] 8 8 0 rfl rfl rfl rfl (by decide +kernel) rfl rfl hl.1 rfl (Nat.le_of_ble_eq_true rfl) dX8_step_20 ⟨Nat.le_of_ble_eq_true rfl, Nat.le_of_ble_eq_true rfl⟩ (fun H locs hP hD hS => ?_)
        refine lv_if_eq (tgt := 35) hx hb dX8_step_23 (by decide) (fun c23 => ?_) (fun c23 => ?_)
        · have hf := ifp c23 hf
          refine lv_aload_n hx hb dX8_step_35 rfl (lv_at hl 3 rfl) ?_
          refine lv_iload hx hb dX8_step_36 (lv_at hl 4 rfl) ?_
          refine lv_bipush (v := (100 : Int32)) hx hb dX8_step_38 (by decide) ?_
          refine lv_iload hx hb dX8_step_40 (lv_at hl 6 rfl) ?_
          refine lv_imul hx hb dX8_step_42 ?_
          refine lv_iadd hx hb dX8_step_43 ?_
          refine lv_iload_n hx hb dX8_step_44 rfl (lv_at hl 2 rfl) ?_
          refine lv_iadd hx hb dX8_step_45 ?_
          obtain ⟨v46, b46, ev46, hf⟩ := rd_s hf
          refine my_iald hx hb hK hP 7 rfl b46 ev46 dX8_step_46 ?_
          exact h47 _ _ _ _ _ _ _ _ _ _ _ _ _ hf hP hD hS (lv_sub hl [0, 1, 2, 3, 4, 5, 6] rfl)
        · have hf := ifn c23 hf
          refine lv_aload_n hx hb dX8_step_26 rfl (lv_at hl 0 rfl) ?_
          refine lv_iload hx hb dX8_step_27 (lv_at hl 6 rfl) ?_
          obtain ⟨r29, hr29, hf⟩ := bd_s hf
          refine my_Vi (WS2 := (wd_X8_step cy o_t r_a3 n_a3 x_thrown x_delay x_feel x_turn x_sight x_ball x_w x_h x_n x_players x_spin x_seed x_leftFrom x_leftTo x_place x_points x_a3)) ⟨hx, hb, hml, hown, hts⟩ (c_X8_thinks l D cy t o_t x_thrown x_delay x_feel x_turn x_sight x_ball x_w x_h x_n x_players x_place l6 hr29) (cwV 1 hts gX8_step_X8_thinks rfl rfl rfl ⟨rfl, hd_X8_thinks⟩ ⟨Nat.le_of_ble_eq_true rfl, Nat.le_of_ble_eq_true rfl⟩) hK hE hP hD hS hA [0, 5] 8 8 0 rfl rfl rfl rfl (by decide +kernel) rfl rfl hl.1 rfl (Nat.le_of_ble_eq_true rfl) dX8_step_29 ⟨Nat.le_of_ble_eq_true rfl, Nat.le_of_ble_eq_true rfl⟩ (fun H locs hP hD hS => ?_)
          refine lv_goto (tgt := 47) hx hb dX8_step_32 (by decide) ?_
          exact h47 _ _ _ _ _ _ _ _ _ _ _ _ _ hf hP hD hS (lv_sub hl [0, 1, 2, 3, 4, 5, 6] rfl)
  refine lv_iconst (v := (0 : Int32)) hx hb dX8_step_0 (by decide) ?_
  refine lv_istore (lv' := [(6, .int (0 : Int32)), (0, .ref (o_t 0)), (1, .int p1), (2, .int p2), (3, .ref r_a3), (4, .int p4), (5, .int p5)]) hx hb dX8_step_1 hl (by decide) rfl (fun ls hl => ?_)
  exact h3 FU _ _ _ _ _ _ _ _ _ _ _ hf hP hD hS (lv_sub hl [1, 2, 3, 4, 5, 6, 0] rfl)
theorem hd_X8_step : yX8_step.cls ≠ "java/lang/invoke/MethodHandle" ∧ yX8_step.cls ≠ "java/lang/invoke/VarHandle" ∧ (parseMethodDescriptor yX8_step.desc).map (fun d => d.parameters.length) = some 5 := by decide +kernel
set_option maxRecDepth 100000 in
theorem c_X8_step (l : Launch) (D : va_G) (cy : Nat → ClassId) (t : Nat → Nat) (o_t : Nat → Nat) (r_a3 n_a3 : Nat) (x_thrown : Int32) (x_delay : Int32) (x_feel : Int32) (x_turn : Int32) (x_sight : Int32) (x_ball : Int32) (x_w : Int32) (x_h : Int32) (x_n : Int32) (x_players : Int32) (x_spin : Nat → Int32) (x_seed : Nat → Int32) (x_leftFrom : Nat → Int32) (x_leftTo : Nat → Int32) (x_place : Nat → Int32) (x_points : Nat → Int32) (x_a3 : Nat → Int32) (p1 : Int32) (p2 : Int32) (p4 : Int32) (p5 : Int32) {out : Int32 × (Nat → Int32) × (Nat → Int32)} (hf : X8_step n_a3 x_w x_h x_n x_spin x_seed x_leftFrom x_leftTo x_a3 x_ball x_place x_points p1 p2 p4 p5 = some out) : ctV l yX8_step wsX8_step 4 98 D cy t [.ref (o_t 0), .int p1, .int p2, .ref r_a3, .int p4, .int p5] (wd_X8_step cy o_t r_a3 n_a3 x_thrown x_delay x_feel x_turn x_sight x_ball x_w x_h x_n x_players x_spin x_seed x_leftFrom x_leftTo x_place x_points x_a3) (wd_X8_step cy o_t r_a3 n_a3 x_thrown x_delay x_feel x_turn x_sight out.1 x_w x_h x_n x_players x_spin x_seed x_leftFrom x_leftTo out.2.1 out.2.2 x_a3) := by
  refine ⟨rfl, ?_⟩
  intro sz
  refine Met.ofW (cc := cX8_step) (maxL := 10) (ret := none) (by decide) rfl ?_
  intro p e s m args below meth c s₁ B hml hv
  obtain ⟨rfl, hsz, hP, hK, hD0, hE⟩ := hv
  have hts := atoms_spec (ws := wsX8_step) B.pre
  have hown : s.vm.findClass RX8 = some m.cls := findClass_of_methodNamed B.named
  have hlocks := B.notSynchronized
  subst hsz
  have hD := hD0.self (sz := s.heap.size)
  have hl := lv_entry ([.ref (o_t 0), .int p1, .int p2, .ref r_a3, .int p4, .int p5]) (n := 10) (Nat.le_of_ble_eq_true rfl)
  rw [lg_entry_eq]
  generalize (lg_sl ([.ref (o_t 0), .int p1, .int p2, .ref r_a3, .int p4, .int p5]) ++ List.replicate (10 - (lg_sl ([.ref (o_t 0), .int p1, .int p2, .ref r_a3, .int p4, .int p5])).length) Slot.unset).toArray = ls at hl ⊢
  exact w_X8_step D cy t o_t r_a3 n_a3 x_thrown x_delay x_feel x_turn x_sight x_ball x_w x_h x_n x_players x_spin x_seed x_leftFrom x_leftTo x_place x_points x_a3 p1 p2 p4 p5 hf B.exec B.bytes hml hown hts hK hE (fun q h => Or.inr h) hP hD va_S.rf hl (fun H locs ls pc hP hD hS hdg => W.vret B.exec B.bytes B.returns (fun t ht hW => ⟨⟨(), rfl, trivial, ctB_of ht hP⟩, hS.F ht⟩) hS.2.2 hdg)
