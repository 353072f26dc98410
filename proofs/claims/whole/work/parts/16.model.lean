noncomputable def X8_start_J71 (x_wide : Nat → Int32) (x_tall : Nat → Int32) (x_hands : Nat → Int32) (x_ball : Int32) (x_w : Int32) (x_h : Int32) (x_n : Int32) (x_place : Nat → Int32) (x_points : Nat → Int32) : Option (Int32 × Int32 × Int32 × Int32 × (Nat → Int32) × (Nat → Int32)) :=
  some (((x_w * x_h) - (1 : Int32)), x_w, x_h, x_n, x_place, x_points)
noncomputable def X8_start_J57 (x_wide : Nat → Int32) (x_tall : Nat → Int32) (x_hands : Nat → Int32) (rec32 : Int32 → Int32 → Int32 → Int32 → (Nat → Int32) → (Nat → Int32) → Int32 → Option (Int32 × Int32 × Int32 × Int32 × (Nat → Int32) × (Nat → Int32))) (x_ball : Int32) (x_w : Int32) (x_h : Int32) (x_n : Int32) (x_place : Nat → Int32) (x_points : Nat → Int32) (l2 : Int32) (s1 : Int32) (s2 : Int32) : Option (Int32 × Int32 × Int32 × Int32 × (Nat → Int32) × (Nat → Int32)) :=
  wrI x_place 6 s1 s2 fun w57 => wrI x_points 6 l2 (0 : Int32) fun w64 => nm (l2 + (1 : Int32)) fun v65 => rec32 x_ball x_w x_h x_n w57 w64 v65
noncomputable def X8_start_L32_B (x_wide : Nat → Int32) (x_tall : Nat → Int32) (x_hands : Nat → Int32) (rec32 : Int32 → Int32 → Int32 → Int32 → (Nat → Int32) → (Nat → Int32) → Int32 → Option (Int32 × Int32 × Int32 × Int32 × (Nat → Int32) × (Nat → Int32))) (x_ball : Int32) (x_w : Int32) (x_h : Int32) (x_n : Int32) (x_place : Nat → Int32) (x_points : Nat → Int32) (l2 : Int32) : Option (Int32 × Int32 × Int32 × Int32 × (Nat → Int32) × (Nat → Int32)) :=
  if (6 : Int32) ≤ l2 then (X8_start_J71 x_wide x_tall x_hands  x_ball x_w x_h x_n x_place x_points ) else (if x_n ≤ l2 then (X8_start_J57 x_wide x_tall x_hands rec32 x_ball x_w x_h x_n x_place x_points l2 l2 (-9 : Int32)) else (X8_start_J57 x_wide x_tall x_hands rec32 x_ball x_w x_h x_n x_place x_points l2 l2 l2))
noncomputable def X8_start_L32 (x_wide : Nat → Int32) (x_tall : Nat → Int32) (x_hands : Nat → Int32) : Nat → Int32 → Int32 → Int32 → Int32 → (Nat → Int32) → (Nat → Int32) → Int32 → Option (Int32 × Int32 × Int32 × Int32 × (Nat → Int32) × (Nat → Int32))
  | 0, _, _, _, _, _, _, _ => none
  | n + 1, y0, y1, y2, y3, y4, y5, y6 => X8_start_L32_B x_wide x_tall x_hands  (X8_start_L32 x_wide x_tall x_hands  n) y0 y1 y2 y3 y4 y5 y6
noncomputable def X8_start (x_wide : Nat → Int32) (x_tall : Nat → Int32) (x_hands : Nat → Int32) (x_ball : Int32) (x_w : Int32) (x_h : Int32) (x_n : Int32) (x_place : Nat → Int32) (x_points : Nat → Int32) (p1 : Int32) : Option (Int32 × Int32 × Int32 × Int32 × (Nat → Int32) × (Nat → Int32)) :=
  rd x_wide 5 p1 fun v6 => rd x_tall 5 p1 fun v16 => rd x_hands 5 p1 fun v26 => X8_start_L32 x_wide x_tall x_hands  FU x_ball v6 v16 v26 x_place x_points (0 : Int32)
abbrev wd_X8_start (cy : Nat → ClassId) (o_t : Nat → Nat) (x_thrown : Int32) (x_delay : Int32) (x_feel : Int32) (x_turn : Int32) (x_sight : Int32) (x_ball : Int32) (x_w : Int32) (x_h : Int32) (x_n : Int32) (x_players : Int32) (x_wide : Nat → Int32) (x_tall : Nat → Int32) (x_hands : Nat → Int32) (x_place : Nat → Int32) (x_points : Nat → Int32) : va_W := [(o_t 0, .inr (8, [.int x_thrown, .ref (o_t 2), .ref (o_t 3), .ref (o_t 4), .ref (o_t 5), .ref (o_t 6), .ref (o_t 7), .ref (o_t 8), .ref (o_t 9), .ref (o_t 10), .ref (o_t 11), .int x_delay, .int x_feel, .int x_turn, .int x_sight, .ref (o_t 16), .ref (o_t 17), .ref (o_t 18), .ref (o_t 19), .int x_ball, .int x_w, .int x_h, .int x_n, .ref (o_t 24), .ref (o_t 25), .ref (o_t 26), .ref (o_t 27), .ref (o_t 28), .ref (o_t 29), .int x_players, .ref (o_t 31), .ref (o_t 32), .ref (o_t 33), .ref (o_t 34), .ref (o_t 35), .ref (o_t 36)])), (o_t 2, .inl (cy 0, 5, .inl x_wide)), (o_t 3, .inl (cy 0, 5, .inl x_tall)), (o_t 4, .inl (cy 0, 5, .inl x_hands)), (o_t 18, .inl (cy 0, 6, .inl x_place)), (o_t 19, .inl (cy 0, 6, .inl x_points))]
set_option maxHeartbeats 4000000 in
set_option maxRecDepth 100000 in
theorem w_X8_start {p : Program} {l : Launch} {e : Env} {s : State} {m : MethodId} {args : Array Value} {below : List Frame} {meth : Method} {c : Code} {Q : State → Prop} {A : Nat → Prop} {H : Heap} {locs : List Loc} {ls : Array Slot} (D : va_G) (cy : Nat → ClassId) (t : Nat → Nat) (o_t : Nat → Nat) (x_thrown : Int32) (x_delay : Int32) (x_feel : Int32) (x_turn : Int32) (x_sight : Int32) (x_ball : Int32) (x_w : Int32) (x_h : Int32) (x_n : Int32) (x_players : Int32) (x_wide : Nat → Int32) (x_tall : Nat → Int32) (x_hands : Nat → Int32) (x_place : Nat → Int32) (x_points : Nat → Int32) (p1 : Int32) {out : Int32 × Int32 × Int32 × Int32 × (Nat → Int32) × (Nat → Int32)} (hf : X8_start x_wide x_tall x_hands x_ball x_w x_h x_n x_place x_points p1 = some out) (hx : p.tables.exec = Jvm.exec) (hb : c.code = cX8_start) (hml : c.maxLocals = 3) (hown : s.vm.findClass RX8 = some m.cls) (hts : ∀ w ∈ wsX8_start, w.before args s = true) (hK : va_K D vwCl (TYS cy) s) (hE : EV t A s s.heap) (hA : ∀ q, s.heap.size ≤ q → A q) (hP : va_P D vwCl (wd_X8_start cy o_t x_thrown x_delay x_feel x_turn x_sight x_ball x_w x_h x_n x_players x_wide x_tall x_hands x_place x_points) H) (hD : va_D A (wd_X8_start cy o_t x_thrown x_delay x_feel x_turn x_sight x_ball x_w x_h x_n x_players x_wide x_tall x_hands x_place x_points)) (hS : va_S A s.heap H locs) (hl : lv_has ls 3 [(0, .ref (o_t 0)), (1, .int p1)]) (hR : ∀ (H : Heap) (locs : List Loc) (ls : Array Slot) (pc : Nat), va_P D vwCl (wd_X8_start cy o_t x_thrown x_delay x_feel x_turn x_sight out.1 out.2.1 out.2.2.1 out.2.2.2.1 x_players x_wide x_tall x_hands out.2.2.2.2.1 out.2.2.2.2.2) H → va_D A (wd_X8_start cy o_t x_thrown x_delay x_feel x_turn x_sight out.1 out.2.1 out.2.2.1 out.2.2.2.1 x_players x_wide x_tall x_hands out.2.2.2.2.1 out.2.2.2.2.2) → va_S A s.heap H locs → decode cX8_start pc = .ok (.return_, 1) → W p l e (rmm 0 0) s m args below meth c H locs 0 0 Q (F0 m pc ls [])) : W p l e (rmm 0 0) s m args below meth c H locs 0 0 Q (F0 m 0 ls []) := by
  have k0 := hts (.fieldLink RX8 7 "SeaGamesModel" "wide" "[I") (List.mem_cons_of_mem _ (List.mem_append_left _ (List.mem_of_getElem? (i := 0) rfl)))
  have k1 : ∀ w ∈ u_ws RX8 TX8 36, w ∈ wsX8_start := fun _ h => List.mem_cons_of_mem _ (List.mem_append_right _ h)
  have k2 := hts (.fieldLink RX8 129 "SeaGamesModel" "w" "I") (List.mem_cons_of_mem _ (List.mem_append_left _ (List.mem_of_getElem? (i := 1) rfl)))
  have k3 := hts (.fieldLink RX8 13 "SeaGamesModel" "tall" "[I") (List.mem_cons_of_mem _ (List.mem_append_left _ (List.mem_of_getElem? (i := 2) rfl)))
  have k4 := hts (.fieldLink RX8 132 "SeaGamesModel" "h" "I") (List.mem_cons_of_mem _ (List.mem_append_left _ (List.mem_of_getElem? (i := 3) rfl)))
  have k5 := hts (.fieldLink RX8 16 "SeaGamesModel" "hands" "[I") (List.mem_cons_of_mem _ (List.mem_append_left _ (List.mem_of_getElem? (i := 4) rfl)))
  have k6 := hts (.fieldLink RX8 135 "SeaGamesModel" "n" "I") (List.mem_cons_of_mem _ (List.mem_append_left _ (List.mem_of_getElem? (i := 5) rfl)))
  have k7 := hts (.fieldLink RX8 138 "SeaGamesModel" "ball" "I") (List.mem_cons_of_mem _ (List.mem_append_left _ (List.mem_of_getElem? (i := 8) rfl)))
  have k8 := hts (.fieldLink RX8 57 "SeaGamesModel" "place" "[I") (List.mem_cons_of_mem _ (List.mem_append_left _ (List.mem_of_getElem? (i := 6) rfl)))
  have k9 := hts (.fieldLink RX8 60 "SeaGamesModel" "points" "[I") (List.mem_cons_of_mem _ (List.mem_append_left _ (List.mem_of_getElem? (i := 7) rfl)))
  rw [X8_start] at hf
  have h32 : ∀ (n32 : Nat) (x_ball : Int32) (x_w : Int32) (x_h : Int32) (x_n : Int32) (x_place : Nat → Int32) (x_points : Nat → Int32) (l2 : Int32) (H : Heap) (locs : List Loc) (ls : Array Slot), X8_start_L32 x_wide x_tall x_hands n32 x_ball x_w x_h x_n x_place x_points l2 = some out → va_P D vwCl (wd_X8_start cy o_t x_thrown x_delay x_feel x_turn x_sight x_ball x_w x_h x_n x_players x_wide x_tall x_hands x_place x_points) H → va_D A (wd_X8_start cy o_t x_thrown x_delay x_feel x_turn x_sight x_ball x_w x_h x_n x_players x_wide x_tall x_hands x_place x_points) → va_S A s.heap H locs → lv_has ls 3 [(0, .ref (o_t 0)), (2, .int l2)] → W p l e (rmm 0 0) s m args below meth c H locs 0 0 Q (F0 m 32 ls []) := by
    intro n32
    induction n32 with
    | zero =>
      intro _ _ _ _ _ _ _ _ _ _ hf
      exact nomatch (show (none : Option _) = some out from hf)
    | succ n32 ih32 =>
      intro x_ball x_w x_h x_n x_place x_points l2 H locs ls hf hP hD hS hl
      have hf : X8_start_L32_B x_wide x_tall x_hands (X8_start_L32 x_wide x_tall x_hands n32) x_ball x_w x_h x_n x_place x_points l2 = some out := hf
      rw [X8_start_L32_B] at hf
      have h71 : ∀ (x_ball : Int32) (x_w : Int32) (x_h : Int32) (x_n : Int32) (x_place : Nat → Int32) (x_points : Nat → Int32) (H : Heap) (locs : List Loc) (ls : Array Slot), X8_start_J71 x_wide x_tall x_hands x_ball x_w x_h x_n x_place x_points = some out → va_P D vwCl (wd_X8_start cy o_t x_thrown x_delay x_feel x_turn x_sight x_ball x_w x_h x_n x_players x_wide x_tall x_hands x_place x_points) H → va_D A (wd_X8_start cy o_t x_thrown x_delay x_feel x_turn x_sight x_ball x_w x_h x_n x_players x_wide x_tall x_hands x_place x_points) → va_S A s.heap H locs → lv_has ls 3 [(0, .ref (o_t 0))] → W p l e (rmm 0 0) s m args below meth c H locs 0 0 Q (F0 m 71 ls []) := by
        intro x_ball x_w x_h x_n x_place x_points H locs ls hf hP hD hS hl
        rw [X8_start_J71] at hf
        refine lv_aload_n hx hb dX8_start_71 rfl (lv_at hl 0 rfl) ?_
        refine lv_aload_n hx hb dX8_start_72 rfl (lv_at hl 0 rfl) ?_
        refine va_get (D := D) (ci := 8) (v := .int x_w) (C := RX8) (T := TX8) (N := 36) hx hb hts k1 hown hK hP 0 rfl rfl 20 (by decide) k2 (fun _ h9 => h9) rfl dX8_start_73 ?_
        refine lv_aload_n hx hb dX8_start_76 rfl (lv_at hl 0 rfl) ?_
        refine va_get (D := D) (ci := 8) (v := .int x_h) (C := RX8) (T := TX8) (N := 36) hx hb hts k1 hown hK hP 0 rfl rfl 21 (by decide) k4 (fun _ h9 => h9) rfl dX8_start_77 ?_
        refine lv_imul hx hb dX8_start_80 ?_
        refine lv_iconst (v := (1 : Int32)) hx hb dX8_start_81 (by decide) ?_
        refine lv_isub hx hb dX8_start_82 ?_
        refine va_put (D := D) (ci := 8) (v := .int ((x_w * x_h) - (1 : Int32))) (ty := .int) (C := RX8) (T := TX8) (N := 36) hx hb hts k1 tyX8 tyX8_ok nmX8 hown hK hP hD hS 0 rfl rfl 19 (by decide) k7 (fun _ h9 => h9) rfl (by decide +kernel) rfl rfl (Nat.le_of_ble_eq_true rfl) dX8_start_83 (fun H locs hP hD hS => ?_)
        have hP : va_P D vwCl (wd_X8_start cy o_t x_thrown x_delay x_feel x_turn x_sight ((x_w * x_h) - (1 : Int32)) x_w x_h x_n x_players x_wide x_tall x_hands x_place x_points) H := hP
        have hD : va_D A (wd_X8_start cy o_t x_thrown x_delay x_feel x_turn x_sight ((x_w * x_h) - (1 : Int32)) x_w x_h x_n x_players x_wide x_tall x_hands x_place x_points) := hD
        obtain rfl := Option.some.inj hf
        exact hR _ _ _ _ hP hD hS dX8_start_86
      refine lv_iload_n hx hb dX8_start_32 rfl (lv_at hl 1 rfl) ?_
      refine lv_bipush (v := (6 : Int32)) hx hb dX8_start_33 (by decide) ?_
      refine lv_icmp_ge (tgt := 71) hx hb dX8_start_35 (by decide) (fun c35 => ?_) (fun c35 => ?_)
      · have hf := ifp c35 hf
        exact h71 _ _ _ _ _ _ _ _ _ hf hP hD hS (lv_sub hl [0] rfl)
      · have hf := ifn c35 hf
        have h57 : ∀ (x_ball : Int32) (x_w : Int32) (x_h : Int32) (x_n : Int32) (x_place : Nat → Int32) (x_points : Nat → Int32) (l2 : Int32) (s1 : Int32) (s2 : Int32) (H : Heap) (locs : List Loc) (ls : Array Slot), X8_start_J57 x_wide x_tall x_hands (X8_start_L32 x_wide x_tall x_hands n32) x_ball x_w x_h x_n x_place x_points l2 s1 s2 = some out → va_P D vwCl (wd_X8_start cy o_t x_thrown x_delay x_feel x_turn x_sight x_ball x_w x_h x_n x_players x_wide x_tall x_hands x_place x_points) H → va_D A (wd_X8_start cy o_t x_thrown x_delay x_feel x_turn x_sight x_ball x_w x_h x_n x_players x_wide x_tall x_hands x_place x_points) → va_S A s.heap H locs → lv_has ls 3 [(0, .ref (o_t 0)), (2, .int l2)] → W p l e (rmm 0 0) s m args below meth c H locs 0 0 Q (F0 m 57 ls [.int s2, .int s1, .ref (o_t 18)]) := by
          intro x_ball x_w x_h x_n x_place x_points l2 s1 s2 H locs ls hf hP hD hS hl
          rw [X8_start_J57] at hf
          obtain ⟨w57, b57, ew57, hf⟩ := wrI_s hf
          refine my_iast (ws2 := (wd_X8_start cy o_t x_thrown x_delay x_feel x_turn x_sight x_ball x_w x_h x_n x_players x_wide x_tall x_hands w57 x_points)) hx hb hK hP hD hS 4 rfl b57 ew57 rfl dX8_start_57 (fun H locs hP hD hS => ?_)
          refine lv_aload_n hx hb dX8_start_58 rfl (lv_at hl 0 rfl) ?_
          refine va_get (D := D) (ci := 8) (v := .ref (o_t 19)) (C := RX8) (T := TX8) (N := 36) hx hb hts k1 hown hK hP 0 rfl rfl 18 (by decide) k9 (fun _ h9 => h9) rfl dX8_start_59 ?_
          refine lv_iload_n hx hb dX8_start_62 rfl (lv_at hl 1 rfl) ?_
          refine lv_iconst (v := (0 : Int32)) hx hb dX8_start_63 (by decide) ?_
          obtain ⟨w64, b64, ew64, hf⟩ := wrI_s hf
          refine my_iast (ws2 := (wd_X8_start cy o_t x_thrown x_delay x_feel x_turn x_sight x_ball x_w x_h x_n x_players x_wide x_tall x_hands w57 w64)) hx hb hK hP hD hS 5 rfl b64 ew64 rfl dX8_start_64 (fun H locs hP hD hS => ?_)
          obtain ⟨v65, ev65, hf⟩ := nm_s hf
          refine lv_iinc (v := v65) (lv' := [(2, .int v65), (0, .ref (o_t 0))]) hx hb dX8_start_65 hl (k := 1) rfl (by rw [ev65]; rfl) (by decide) rfl (fun ls hl => ?_)
          refine lv_goto (tgt := 32) hx hb dX8_start_68 (by decide) ?_
          exact ih32 _ _ _ _ _ _ _ _ _ _ hf hP hD hS (lv_sub hl [1, 0] rfl)
        refine lv_aload_n hx hb dX8_start_38 rfl (lv_at hl 0 rfl) ?_
        refine va_get (D := D) (ci := 8) (v := .ref (o_t 18)) (C := RX8) (T := TX8) (N := 36) hx hb hts k1 hown hK hP 0 rfl rfl 17 (by decide) k8 (fun _ h9 => h9) rfl dX8_start_39 ?_
        refine lv_iload_n hx hb dX8_start_42 rfl (lv_at hl 1 rfl) ?_
        refine lv_iload_n hx hb dX8_start_43 rfl (lv_at hl 1 rfl) ?_
        refine lv_aload_n hx hb dX8_start_44 rfl (lv_at hl 0 rfl) ?_
        refine va_get (D := D) (ci := 8) (v := .int x_n) (C := RX8) (T := TX8) (N := 36) hx hb hts k1 hown hK hP 0 rfl rfl 22 (by decide) k6 (fun _ h9 => h9) rfl dX8_start_45 ?_
        refine lv_icmp_ge (tgt := 55) hx hb dX8_start_48 (by decide) (fun c48 => ?_) (fun c48 => ?_)
        · have hf := ifp c48 hf
          refine lv_bipush (v := (-9 : Int32)) hx hb dX8_start_55 (by decide) ?_
          exact h57 _ _ _ _ _ _ _ _ _ _ _ _ hf hP hD hS (lv_sub hl [0, 1] rfl)
        · have hf := ifn c48 hf
          refine lv_iload_n hx hb dX8_start_51 rfl (lv_at hl 1 rfl) ?_
          refine lv_goto (tgt := 57) hx hb dX8_start_52 (by decide) ?_
          exact h57 _ _ _ _ _ _ _ _ _ _ _ _ hf hP hD hS (lv_sub hl [0, 1] rfl)
  refine lv_aload_n hx hb dX8_start_0 rfl (lv_at hl 0 rfl) ?_
  refine lv_aload_n hx hb dX8_start_1 rfl (lv_at hl 0 rfl) ?_
  refine va_get (D := D) (ci := 8) (v := .ref (o_t 2)) (C := RX8) (T := TX8) (N := 36) hx hb hts k1 hown hK hP 0 rfl rfl 1 (by decide) k0 (fun _ h9 => h9) rfl dX8_start_2 ?_
  refine lv_iload_n hx hb dX8_start_5 rfl (lv_at hl 1 rfl) ?_
  obtain ⟨v6, b6, ev6, hf⟩ := rd_s hf
  refine my_iald hx hb hK hP 1 rfl b6 ev6 dX8_start_6 ?_
  refine va_put (D := D) (ci := 8) (v := .int v6) (ty := .int) (C := RX8) (T := TX8) (N := 36) hx hb hts k1 tyX8 tyX8_ok nmX8 hown hK hP hD hS 0 rfl rfl 20 (by decide) k2 (fun _ h9 => h9) rfl (by decide +kernel) rfl rfl (Nat.le_of_ble_eq_true rfl) dX8_start_7 (fun H locs hP hD hS => ?_)
  have hP : va_P D vwCl (wd_X8_start cy o_t x_thrown x_delay x_feel x_turn x_sight x_ball v6 x_h x_n x_players x_wide x_tall x_hands x_place x_points) H := hP
  have hD : va_D A (wd_X8_start cy o_t x_thrown x_delay x_feel x_turn x_sight x_ball v6 x_h x_n x_players x_wide x_tall x_hands x_place x_points) := hD
  refine lv_aload_n hx hb dX8_start_10 rfl (lv_at hl 0 rfl) ?_
  refine lv_aload_n hx hb dX8_start_11 rfl (lv_at hl 0 rfl) ?_
  refine va_get (D := D) (ci := 8) (v := .ref (o_t 3)) (C := RX8) (T := TX8) (N := 36) hx hb hts k1 hown hK hP 0 rfl rfl 2 (by decide) k3 (fun _ h9 => h9) rfl dX8_start_12 ?_
  refine lv_iload_n hx hb dX8_start_15 rfl (lv_at hl 1 rfl) ?_
  obtain ⟨v16, b16, ev16, hf⟩ := rd_s hf
  refine my_iald hx hb hK hP 2 rfl b16 ev16 dX8_start_16 ?_
  refine va_put (D := D) (ci := 8) (v := .int v16) (ty := .int) (C := RX8) (T := TX8) (N := 36) hx hb hts k1 tyX8 tyX8_ok nmX8 hown hK hP hD hS 0 rfl rfl 21 (by decide) k4 (fun _ h9 => h9) rfl (by decide +kernel) rfl rfl (Nat.le_of_ble_eq_true rfl) dX8_start_17 (fun H locs hP hD hS => ?_)
  have hP : va_P D vwCl (wd_X8_start cy o_t x_thrown x_delay x_feel x_turn x_sight x_ball v6 v16 x_n x_players x_wide x_tall x_hands x_place x_points) H := hP
  have hD : va_D A (wd_X8_start cy o_t x_thrown x_delay x_feel x_turn x_sight x_ball v6 v16 x_n x_players x_wide x_tall x_hands x_place x_points) := hD
  refine lv_aload_n hx hb dX8_start_20 rfl (lv_at hl 0 rfl) ?_
  refine lv_aload_n hx hb dX8_start_21 rfl (lv_at hl 0 rfl) ?_
  refine va_get (D := D) (ci := 8) (v := .ref (o_t 4)) (C := RX8) (T := TX8) (N := 36) hx hb hts k1 hown hK hP 0 rfl rfl 3 (by decide) k5 (fun _ h9 => h9) rfl dX8_start_22 ?_
  refine lv_iload_n hx hb dX8_start_25 rfl (lv_at hl 1 rfl) ?_
  obtain ⟨v26, b26, ev26, hf⟩ := rd_s hf
  refine my_iald hx hb hK hP 3 rfl b26 ev26 dX8_start_26 ?_
  refine va_put (D := D) (ci := 8) (v := .int v26) (ty := .int) (C := RX8) (T := TX8) (N := 36) hx hb hts k1 tyX8 tyX8_ok nmX8 hown hK hP hD hS 0 rfl rfl 22 (by decide) k6 (fun _ h9 => h9) rfl (by decide +kernel) rfl rfl (Nat.le_of_ble_eq_true rfl) dX8_start_27 (fun H locs hP hD hS => ?_)
  have hP : va_P D vwCl (wd_X8_start cy o_t x_thrown x_delay x_feel x_turn x_sight x_ball v6 v16 v26 x_players x_wide x_tall x_hands x_place x_points) H := hP
  have hD : va_D A (wd_X8_start cy o_t x_thrown x_delay x_feel x_turn x_sight x_ball v6 v16 v26 x_players x_wide x_tall x_hands x_place x_points) := hD
  refine lv_iconst (v := (0 : Int32)) hx hb dX8_start_30 (by decide) ?_
  refine lv_istore_n (lv' := [(2, .int (0 : Int32)), (0, .ref (o_t 0)), (1, .int p1)]) hx hb dX8_start_31 rfl hl (by decide) rfl (fun ls hl => ?_)
  exact h32 FU _ _ _ _ _ _ _ _ _ _ hf hP hD hS (lv_sub hl [1, 0] rfl)
theorem hd_X8_start : yX8_start.cls ≠ "java/lang/invoke/MethodHandle" ∧ yX8_start.cls ≠ "java/lang/invoke/VarHandle" ∧ (parseMethodDescriptor yX8_start.desc).map (fun d => d.parameters.length) = some 1 := by decide +kernel
set_option maxRecDepth 100000 in
theorem c_X8_start (l : Launch) (D : va_G) (cy : Nat → ClassId) (t : Nat → Nat) (o_t : Nat → Nat) (x_thrown : Int32) (x_delay : Int32) (x_feel : Int32) (x_turn : Int32) (x_sight : Int32) (x_ball : Int32) (x_w : Int32) (x_h : Int32) (x_n : Int32) (x_players : Int32) (x_wide : Nat → Int32) (x_tall : Nat → Int32) (x_hands : Nat → Int32) (x_place : Nat → Int32) (x_points : Nat → Int32) (p1 : Int32) {out : Int32 × Int32 × Int32 × Int32 × (Nat → Int32) × (Nat → Int32)} (hf : X8_start x_wide x_tall x_hands x_ball x_w x_h x_n x_place x_points p1 = some out) : ctV l yX8_start wsX8_start 0 0 D cy t [.ref (o_t 0), .int p1] (wd_X8_start cy o_t x_thrown x_delay x_feel x_turn x_sight x_ball x_w x_h x_n x_players x_wide x_tall x_hands x_place x_points) (wd_X8_start cy o_t x_thrown x_delay x_feel x_turn x_sight out.1 out.2.1 out.2.2.1 out.2.2.2.1 x_players x_wide x_tall x_hands out.2.2.2.2.1 out.2.2.2.2.2) := by
  refine ⟨rfl, ?_⟩
  intro sz
  refine Met.ofW (cc := cX8_start) (maxL := 3) (ret := none) (by decide) rfl ?_
  intro p e s m args below meth c s₁ B hml hv
  obtain ⟨rfl, hsz, hP, hK, hD0, hE⟩ := hv
  have hts := atoms_spec (ws := wsX8_start) B.pre
  have hown : s.vm.findClass RX8 = some m.cls := findClass_of_methodNamed B.named
  have hlocks := B.notSynchronized
  subst hsz
  have hD := hD0.self (sz := s.heap.size)
  have hl := lv_entry ([.ref (o_t 0), .int p1]) (n := 3) (Nat.le_of_ble_eq_true rfl)
  rw [lg_entry_eq]
  generalize (lg_sl ([.ref (o_t 0), .int p1]) ++ List.replicate (3 - (lg_sl ([.ref (o_t 0), .int p1])).length) Slot.unset).toArray = ls at hl ⊢
  exact w_X8_start D cy t o_t x_thrown x_delay x_feel x_turn x_sight x_ball x_w x_h x_n x_players x_wide x_tall x_hands x_place x_points p1 hf B.exec B.bytes hml hown hts hK hE (fun q h => Or.inr h) hP hD va_S.rf hl (fun H locs ls pc hP hD hS hdg => W.vret B.exec B.bytes B.returns (fun t ht hW => ⟨⟨(), rfl, trivial, ctB_of ht hP⟩, hS.F ht⟩) hS.2.2 hdg)

noncomputable def X8_live_L8_B (x_wide : Nat → Int32) (x_tall : Nat → Int32) (x_hands : Nat → Int32) (x_spin : Nat → Int32) (x_seed : Nat → Int32) (x_pressed : Nat → Int32) (x_leftFrom : Nat → Int32) (x_leftTo : Nat → Int32) (rec8 : Int32 → Int32 → Int32 → Int32 → (Nat → Int32) → (Nat → Int32) → Int32 → Int32 → Int32 → Int32 → Option (Int32 × Int32 × Int32 × Int32 × (Nat → Int32) × (Nat → Int32))) (x_ball : Int32) (x_w : Int32) (x_h : Int32) (x_n : Int32) (x_place : Nat → Int32) (x_points : Nat → Int32) (l1 : Int32) (l2 : Int32) (l3 : Int32) (l4 : Int32) : Option (Int32 × Int32 × Int32 × Int32 × (Nat → Int32) × (Nat → Int32)) :=
  if l2 < l4 then (some (x_ball, x_w, x_h, x_n, x_place, x_points)) else (bd (X8_step 3000 x_w x_h x_n x_spin x_seed x_leftFrom x_leftTo x_pressed x_ball x_place x_points l1 l4 ((600 : Int32) * l1) l3) fun r28 => nm (l4 + (1 : Int32)) fun v31 => rec8 r28.1 x_w x_h x_n r28.2.1 r28.2.2 l1 l2 l3 v31)
noncomputable def X8_live_L8 (x_wide : Nat → Int32) (x_tall : Nat → Int32) (x_hands : Nat → Int32) (x_spin : Nat → Int32) (x_seed : Nat → Int32) (x_pressed : Nat → Int32) (x_leftFrom : Nat → Int32) (x_leftTo : Nat → Int32) : Nat → Int32 → Int32 → Int32 → Int32 → (Nat → Int32) → (Nat → Int32) → Int32 → Int32 → Int32 → Int32 → Option (Int32 × Int32 × Int32 × Int32 × (Nat → Int32) × (Nat → Int32))
  | 0, _, _, _, _, _, _, _, _, _, _ => none
  | n + 1, y0, y1, y2, y3, y4, y5, y6, y7, y8, y9 => X8_live_L8_B x_wide x_tall x_hands x_spin x_seed x_pressed x_leftFrom x_leftTo  (X8_live_L8 x_wide x_tall x_hands x_spin x_seed x_pressed x_leftFrom x_leftTo  n) y0 y1 y2 y3 y4 y5 y6 y7 y8 y9
noncomputable def X8_live (x_wide : Nat → Int32) (x_tall : Nat → Int32) (x_hands : Nat → Int32) (x_spin : Nat → Int32) (x_seed : Nat → Int32) (x_pressed : Nat → Int32) (x_leftFrom : Nat → Int32) (x_leftTo : Nat → Int32) (x_ball : Int32) (x_w : Int32) (x_h : Int32) (x_n : Int32) (x_place : Nat → Int32) (x_points : Nat → Int32) (p1 : Int32) (p2 : Int32) (p3 : Int32) : Option (Int32 × Int32 × Int32 × Int32 × (Nat → Int32) × (Nat → Int32)) :=
  bd (X8_start x_wide x_tall x_hands x_ball x_w x_h x_n x_place x_points p1) fun r2 => X8_live_L8 x_wide x_tall x_hands x_spin x_seed x_pressed x_leftFrom x_leftTo  FU r2.1 r2.2.1 r2.2.2.1 r2.2.2.2.1 r2.2.2.2.2.1 r2.2.2.2.2.2 p1 p2 p3 (0 : Int32)
abbrev wd_X8_live (cy : Nat → ClassId) (o_t : Nat → Nat) (x_thrown : Int32) (x_delay : Int32) (x_feel : Int32) (x_turn : Int32) (x_sight : Int32) (x_ball : Int32) (x_w : Int32) (x_h : Int32) (x_n : Int32) (x_players : Int32) (x_wide : Nat → Int32) (x_tall : Nat → Int32) (x_hands : Nat → Int32) (x_spin : Nat → Int32) (x_seed : Nat → Int32) (x_pressed : Nat → Int32) (x_leftFrom : Nat → Int32) (x_leftTo : Nat → Int32) (x_place : Nat → Int32) (x_points : Nat → Int32) : va_W := [(o_t 0, .inr (8, [.int x_thrown, .ref (o_t 2), .ref (o_t 3), .ref (o_t 4), .ref (o_t 5), .ref (o_t 6), .ref (o_t 7), .ref (o_t 8), .ref (o_t 9), .ref (o_t 10), .ref (o_t 11), .int x_delay, .int x_feel, .int x_turn, .int x_sight, .ref (o_t 16), .ref (o_t 17), .ref (o_t 18), .ref (o_t 19), .int x_ball, .int x_w, .int x_h, .int x_n, .ref (o_t 24), .ref (o_t 25), .ref (o_t 26), .ref (o_t 27), .ref (o_t 28), .ref (o_t 29), .int x_players, .ref (o_t 31), .ref (o_t 32), .ref (o_t 33), .ref (o_t 34), .ref (o_t 35), .ref (o_t 36)])), (o_t 2, .inl (cy 0, 5, .inl x_wide)), (o_t 3, .inl (cy 0, 5, .inl x_tall)), (o_t 4, .inl (cy 0, 5, .inl x_hands)), (o_t 6, .inl (cy 0, 5, .inl x_spin)), (o_t 7, .inl (cy 0, 5, .inl x_seed)), (o_t 8, .inl (cy 0, 3000, .inl x_pressed)), (o_t 9, .inl (cy 0, 30, .inl x_leftFrom)), (o_t 10, .inl (cy 0, 30, .inl x_leftTo)), (o_t 18, .inl (cy 0, 6, .inl x_place)), (o_t 19, .inl (cy 0, 6, .inl x_points))]
set_option maxHeartbeats 4000000 in
set_option maxRecDepth 100000 in
theorem w_X8_live {p : Program} {l : Launch} {e : Env} {s : State} {m : MethodId} {args : Array Value} {below : List Frame} {meth : Method} {c : Code} {Q : State → Prop} {A : Nat → Prop} {H : Heap} {locs : List Loc} {ls : Array Slot} (D : va_G) (cy : Nat → ClassId) (t : Nat → Nat) (o_t : Nat → Nat) (x_thrown : Int32) (x_delay : Int32) (x_feel : Int32) (x_turn : Int32) (x_sight : Int32) (x_ball : Int32) (x_w : Int32) (x_h : Int32) (x_n : Int32) (x_players : Int32) (x_wide : Nat → Int32) (x_tall : Nat → Int32) (x_hands : Nat → Int32) (x_spin : Nat → Int32) (x_seed : Nat → Int32) (x_pressed : Nat → Int32) (x_leftFrom : Nat → Int32) (x_leftTo : Nat → Int32) (x_place : Nat → Int32) (x_points : Nat → Int32) (p1 : Int32) (p2 : Int32) (p3 : Int32) {out : Int32 × Int32 × Int32 × Int32 × (Nat → Int32) × (Nat → Int32)} (hf : X8_live x_wide x_tall x_hands x_spin x_seed x_pressed x_leftFrom x_leftTo x_ball x_w x_h x_n x_place x_points p1 p2 p3 = some out) (hx : p.tables.exec = Jvm.exec) (hb : c.code = cX8_live) (hml : c.maxLocals = 5) (hown : s.vm.findClass RX8 = some m.cls) (hts : ∀ w ∈ wsX8_live, w.before args s = true) (hK : va_K D vwCl (TYS cy) s) (hE : EV t A s s.heap) (hA : ∀ q, s.heap.size ≤ q → A q) (hP : va_P D vwCl (wd_X8_live cy o_t x_thrown x_delay x_feel x_turn x_sight x_ball x_w x_h x_n x_players x_wide x_tall x_hands x_spin x_seed x_pressed x_leftFrom x_leftTo x_place x_points) H) (hD : va_D A (wd_X8_live cy o_t x_thrown x_delay x_feel x_turn x_sight x_ball x_w x_h x_n x_players x_wide x_tall x_hands x_spin x_seed x_pressed x_leftFrom x_leftTo x_place x_points)) (hS : va_S A s.heap H locs) (hl : lv_has ls 5 [(0, .ref (o_t 0)), (1, .int p1), (2, .int p2), (3, .int p3)]) (hR : ∀ (H : Heap) (locs : List Loc) (ls : Array Slot) (pc : Nat), va_P D vwCl (wd_X8_live cy o_t x_thrown x_delay x_feel x_turn x_sight out.1 out.2.1 out.2.2.1 out.2.2.2.1 x_players x_wide x_tall x_hands x_spin x_seed x_pressed x_leftFrom x_leftTo out.2.2.2.2.1 out.2.2.2.2.2) H → va_D A (wd_X8_live cy o_t x_thrown x_delay x_feel x_turn x_sight out.1 out.2.1 out.2.2.1 out.2.2.2.1 x_players x_wide x_tall x_hands x_spin x_seed x_pressed x_leftFrom x_leftTo out.2.2.2.2.1 out.2.2.2.2.2) → va_S A s.heap H locs → decode cX8_live pc = .ok (.return_, 1) → W p l e (rmm 5 127) s m args below meth c H locs 0 0 Q (F0 m pc ls [])) : W p l e (rmm 5 127) s m args below meth c H locs 0 0 Q (F0 m 0 ls []) := by
  have k0 := hts (.fieldLink RX8 28 "SeaGamesModel" "pressed" "[I") (List.mem_cons_of_mem _ (List.mem_append_left _ (List.mem_append_left _ (List.mem_of_getElem? (i := 0) rfl))))
  have k1 : ∀ w ∈ u_ws RX8 TX8 36, w ∈ wsX8_live := fun _ h => List.mem_cons_of_mem _ (List.mem_append_right _ h)
  rw [X8_live] at hf
  have h8 : ∀ (n8 : Nat) (x_ball : Int32) (x_w : Int32) (x_h : Int32) (x_n : Int32) (x_place : Nat → Int32) (x_points : Nat → Int32) (l1 : Int32) (l2 : Int32) (l3 : Int32) (l4 : Int32) (H : Heap) (locs : List Loc) (ls : Array Slot), X8_live_L8 x_wide x_tall x_hands x_spin x_seed x_pressed x_leftFrom x_leftTo n8 x_ball x_w x_h x_n x_place x_points l1 l2 l3 l4 = some out → va_P D vwCl (wd_X8_live cy o_t x_thrown x_delay x_feel x_turn x_sight x_ball x_w x_h x_n x_players x_wide x_tall x_hands x_spin x_seed x_pressed x_leftFrom x_leftTo x_place x_points) H → va_D A (wd_X8_live cy o_t x_thrown x_delay x_feel x_turn x_sight x_ball x_w x_h x_n x_players x_wide x_tall x_hands x_spin x_seed x_pressed x_leftFrom x_leftTo x_place x_points) → va_S A s.heap H locs → lv_has ls 5 [(0, .ref (o_t 0)), (1, .int l1), (2, .int l2), (3, .int l3), (4, .int l4)] → W p l e (rmm 5 127) s m args below meth c H locs 0 0 Q (F0 m 8 ls []) := by
    intro n8
    induction n8 with
    | zero =>
      intro _ _ _ _ _ _ _ _ _ _ _ _ _ hf
      exact nomatch (show (none : Option _) = some out from hf)
    | succ n8 ih8 =>
      intro x_ball x_w x_h x_n x_place x_points l1 l2 l3 l4 H locs ls hf hP hD hS hl
      have hf : X8_live_L8_B x_wide x_tall x_hands x_spin x_seed x_pressed x_leftFrom x_leftTo (X8_live_L8 x_wide x_tall x_hands x_spin x_seed x_pressed x_leftFrom x_leftTo n8) x_ball x_w x_h x_n x_place x_points l1 l2 l3 l4 = some out := hf
      rw [X8_live_L8_B] at hf
      refine lv_iload hx hb dX8_live_8 (lv_at hl 4 rfl) ?_
      refine lv_iload_n hx hb dX8_live_10 rfl (lv_at hl 2 rfl) ?_
      refine lv_icmp_gt (tgt := 37) hx hb dX8_live_11 (by decide) (fun c11 => ?_) (fun c11 => ?_)
      · have hf := ifp c11 hf
        obtain rfl := Option.some.inj hf
        exact hR _ _ _ _ hP hD hS dX8_live_37
      · have hf := ifn c11 hf
        refine lv_aload_n hx hb dX8_live_14 rfl (lv_at hl 0 rfl) ?_
        refine lv_iload_n hx hb dX8_live_15 rfl (lv_at hl 1 rfl) ?_
        refine lv_iload hx hb dX8_live_16 (lv_at hl 4 rfl) ?_
        refine lv_aload_n hx hb dX8_live_18 rfl (lv_at hl 0 rfl) ?_
        refine va_get (D := D) (ci := 8) (v := .ref (o_t 8)) (C := RX8) (T := TX8) (N := 36) hx hb hts k1 hown hK hP 0 rfl rfl 7 (by decide) k0 (fun _ h9 => h9) rfl dX8_live_19 ?_
        refine lv_sipush (v := (600 : Int32)) hx hb dX8_live_22 (by decide) ?_
        refine lv_iload_n hx hb dX8_live_25 rfl (lv_at hl 1 rfl) ?_
        refine lv_imul hx hb dX8_live_26 ?_
        refine lv_iload_n hx hb dX8_live_27 rfl (lv_at hl 3 rfl) ?_
        obtain ⟨r28, hr28, hf⟩ := bd_s hf
        refine my_Vv (WS2 := (wd_X8_live cy o_t x_thrown x_delay x_feel x_turn x_sight r28.1 x_w x_h x_n x_players x_wide x_tall x_hands x_spin x_seed x_pressed x_leftFrom x_leftTo r28.2.1 r28.2.2)) ⟨hx, hb, hml, hown, hts⟩ (c_X8_step l D cy t o_t (o_t 8) 3000 x_thrown x_delay x_feel x_turn x_sight x_ball x_w x_h x_n x_players x_spin x_seed x_leftFrom x_leftTo x_place x_points x_pressed l1 l4 ((600 : Int32) * l1) l3 hr28) (cwV 5 hts gX8_live_X8_step rfl rfl rfl ⟨rfl, hd_X8_step⟩ ⟨Nat.le_of_ble_eq_true rfl, Nat.le_of_ble_eq_true rfl⟩) hK hE hP hD hS hA [0, 4, 5, 7, 8, 9, 10, 6] 11 8 0 rfl rfl rfl rfl (by decide +kernel) rfl rfl hl.1 rfl (Nat.le_of_ble_eq_true rfl) dX8_live_28 ⟨Nat.le_of_ble_eq_true rfl, Nat.le_of_ble_eq_true rfl⟩ (fun H locs hP hD hS => ?_)
        obtain ⟨v31, ev31, hf⟩ := nm_s hf
        refine lv_iinc (v := v31) (lv' := [(4, .int v31), (0, .ref (o_t 0)), (1, .int l1), (2, .int l2), (3, .int l3)]) hx hb dX8_live_31 hl (k := 4) rfl (by rw [ev31]; rfl) (by decide) rfl (fun ls hl => ?_)
        refine lv_goto (tgt := 8) hx hb dX8_live_34 (by decide) ?_
        exact ih8 _ _ _ _ _ _ _ _ _ _ _ _ _ hf hP hD hS (lv_sub hl [1, 2, 3, 4, 0] rfl)
  refine lv_aload_n hx hb dX8_live_0 rfl (lv_at hl 0 rfl) ?_
  refine lv_iload_n hx hb dX8_live_1 rfl (lv_at hl 1 rfl) ?_
  obtain ⟨r2, hr2, hf⟩ := bd_s hf
  refine my_Vv (WS2 := (wd_X8_live cy o_t x_thrown x_delay x_feel x_turn x_sight r2.1 r2.2.1 r2.2.2.1 r2.2.2.2.1 x_players x_wide x_tall x_hands x_spin x_seed x_pressed x_leftFrom x_leftTo r2.2.2.2.2.1 r2.2.2.2.2.2)) ⟨hx, hb, hml, hown, hts⟩ (c_X8_start l D cy t o_t x_thrown x_delay x_feel x_turn x_sight x_ball x_w x_h x_n x_players x_wide x_tall x_hands x_place x_points p1 hr2) (cwV 1 hts gX8_live_X8_start rfl rfl rfl ⟨rfl, hd_X8_start⟩ ⟨Nat.le_of_ble_eq_true rfl, Nat.le_of_ble_eq_true rfl⟩) hK hE hP hD hS hA [0, 1, 2, 3, 9, 10] 11 8 0 rfl rfl rfl rfl (by decide +kernel) rfl rfl hl.1 rfl (Nat.le_of_ble_eq_true rfl) dX8_live_2 ⟨Nat.le_of_ble_eq_true rfl, Nat.le_of_ble_eq_true rfl⟩ (fun H locs hP hD hS => ?_)
  refine lv_iconst (v := (0 : Int32)) hx hb dX8_live_5 (by decide) ?_
  refine lv_istore (lv' := [(4, .int (0 : Int32)), (0, .ref (o_t 0)), (1, .int p1), (2, .int p2), (3, .int p3)]) hx hb dX8_live_6 hl (by decide) rfl (fun ls hl => ?_)
  exact h8 FU _ _ _ _ _ _ _ _ _ _ _ _ _ hf hP hD hS (lv_sub hl [1, 2, 3, 4, 0] rfl)
theorem hd_X8_live : yX8_live.cls ≠ "java/lang/invoke/MethodHandle" ∧ yX8_live.cls ≠ "java/lang/invoke/VarHandle" ∧ (parseMethodDescriptor yX8_live.desc).map (fun d => d.parameters.length) = some 3 := by decide +kernel
set_option maxRecDepth 100000 in
theorem c_X8_live (l : Launch) (D : va_G) (cy : Nat → ClassId) (t : Nat → Nat) (o_t : Nat → Nat) (x_thrown : Int32) (x_delay : Int32) (x_feel : Int32) (x_turn : Int32) (x_sight : Int32) (x_ball : Int32) (x_w : Int32) (x_h : Int32) (x_n : Int32) (x_players : Int32) (x_wide : Nat → Int32) (x_tall : Nat → Int32) (x_hands : Nat → Int32) (x_spin : Nat → Int32) (x_seed : Nat → Int32) (x_pressed : Nat → Int32) (x_leftFrom : Nat → Int32) (x_leftTo : Nat → Int32) (x_place : Nat → Int32) (x_points : Nat → Int32) (p1 : Int32) (p2 : Int32) (p3 : Int32) {out : Int32 × Int32 × Int32 × Int32 × (Nat → Int32) × (Nat → Int32)} (hf : X8_live x_wide x_tall x_hands x_spin x_seed x_pressed x_leftFrom x_leftTo x_ball x_w x_h x_n x_place x_points p1 p2 p3 = some out) : ctV l yX8_live wsX8_live 5 127 D cy t [.ref (o_t 0), .int p1, .int p2, .int p3] (wd_X8_live cy o_t x_thrown x_delay x_feel x_turn x_sight x_ball x_w x_h x_n x_players x_wide x_tall x_hands x_spin x_seed x_pressed x_leftFrom x_leftTo x_place x_points) (wd_X8_live cy o_t x_thrown x_delay x_feel x_turn x_sight out.1 out.2.1 out.2.2.1 out.2.2.2.1 x_players x_wide x_tall x_hands x_spin x_seed x_pressed x_leftFrom x_leftTo out.2.2.2.2.1 out.2.2.2.2.2) := by
  refine ⟨rfl, ?_⟩
  intro sz
  refine Met.ofW (cc := cX8_live) (maxL := 5) (ret := none) (by decide) rfl ?_
  intro p e s m args below meth c s₁ B hml hv
  obtain ⟨rfl, hsz, hP, hK, hD0, hE⟩ := hv
  have hts := atoms_spec (ws := wsX8_live) B.pre
  have hown : s.vm.findClass RX8 = some m.cls := findClass_of_methodNamed B.named
  have hlocks := B.notSynchronized
  subst hsz
  have hD := hD0.self (sz := s.heap.size)
  have hl := lv_entry ([.ref (o_t 0), .int p1, .int p2, .int p3]) (n := 5) (Nat.le_of_ble_eq_true rfl)
  rw [lg_entry_eq]
  generalize (lg_sl ([.ref (o_t 0), .int p1, .int p2, .int p3]) ++ List.replicate (5 - (lg_sl ([.ref (o_t 0), .int p1, .int p2, .int p3])).length) Slot.unset).toArray = ls at hl ⊢
  exact w_X8_live D cy t o_t x_thrown x_delay x_feel x_turn x_sight x_ball x_w x_h x_n x_players x_wide x_tall x_hands x_spin x_seed x_pressed x_leftFrom x_leftTo x_place x_points p1 p2 p3 hf B.exec B.bytes hml hown hts hK hE (fun q h => Or.inr h) hP hD va_S.rf hl (fun H locs ls pc hP hD hS hdg => W.vret B.exec B.bytes B.returns (fun t ht hW => ⟨⟨(), rfl, trivial, ctB_of ht hP⟩, hS.F ht⟩) hS.2.2 hdg)

noncomputable def X8_liveNow (x_wide : Nat → Int32) (x_tall : Nat → Int32) (x_hands : Nat → Int32) (x_power : Nat → Int32) (x_spin : Nat → Int32) (x_seed : Nat → Int32) (x_pressed : Nat → Int32) (x_leftFrom : Nat → Int32) (x_leftTo : Nat → Int32) (x_ball : Int32) (x_w : Int32) (x_h : Int32) (x_n : Int32) (x_place : Nat → Int32) (x_points : Nat → Int32) (p1 : Int32) : Option (Int32 × Int32 × Int32 × Int32 × (Nat → Int32) × (Nat → Int32)) :=
  rd x_power 5 (4 : Int32) fun v8 => bd (X8_live x_wide x_tall x_hands x_spin x_seed x_pressed x_leftFrom x_leftTo x_ball x_w x_h x_n x_place x_points (4 : Int32) p1 v8) fun r9 => some (r9.1, r9.2.1, r9.2.2.1, r9.2.2.2.1, r9.2.2.2.2.1, r9.2.2.2.2.2)
abbrev wd_X8_liveNow (cy : Nat → ClassId) (o_t : Nat → Nat) (x_thrown : Int32) (x_delay : Int32) (x_feel : Int32) (x_turn : Int32) (x_sight : Int32) (x_ball : Int32) (x_w : Int32) (x_h : Int32) (x_n : Int32) (x_players : Int32) (x_wide : Nat → Int32) (x_tall : Nat → Int32) (x_hands : Nat → Int32) (x_power : Nat → Int32) (x_spin : Nat → Int32) (x_seed : Nat → Int32) (x_pressed : Nat → Int32) (x_leftFrom : Nat → Int32) (x_leftTo : Nat → Int32) (x_place : Nat → Int32) (x_points : Nat → Int32) : va_W := [(o_t 0, .inr (8, [.int x_thrown, .ref (o_t 2), .ref (o_t 3), .ref (o_t 4), .ref (o_t 5), .ref (o_t 6), .ref (o_t 7), .ref (o_t 8), .ref (o_t 9), .ref (o_t 10), .ref (o_t 11), .int x_delay, .int x_feel, .int x_turn, .int x_sight, .ref (o_t 16), .ref (o_t 17), .ref (o_t 18), .ref (o_t 19), .int x_ball, .int x_w, .int x_h, .int x_n, .ref (o_t 24), .ref (o_t 25), .ref (o_t 26), .ref (o_t 27), .ref (o_t 28), .ref (o_t 29), .int x_players, .ref (o_t 31), .ref (o_t 32), .ref (o_t 33), .ref (o_t 34), .ref (o_t 35), .ref (o_t 36)])), (o_t 2, .inl (cy 0, 5, .inl x_wide)), (o_t 3, .inl (cy 0, 5, .inl x_tall)), (o_t 4, .inl (cy 0, 5, .inl x_hands)), (o_t 5, .inl (cy 0, 5, .inl x_power)), (o_t 6, .inl (cy 0, 5, .inl x_spin)), (o_t 7, .inl (cy 0, 5, .inl x_seed)), (o_t 8, .inl (cy 0, 3000, .inl x_pressed)), (o_t 9, .inl (cy 0, 30, .inl x_leftFrom)), (o_t 10, .inl (cy 0, 30, .inl x_leftTo)), (o_t 18, .inl (cy 0, 6, .inl x_place)), (o_t 19, .inl (cy 0, 6, .inl x_points))]
set_option maxHeartbeats 4000000 in
set_option maxRecDepth 100000 in
theorem w_X8_liveNow {p : Program} {l : Launch} {e : Env} {s : State} {m : MethodId} {args : Array Value} {below : List Frame} {meth : Method} {c : Code} {Q : State → Prop} {A : Nat → Prop} {H : Heap} {locs : List Loc} {ls : Array Slot} (D : va_G) (cy : Nat → ClassId) (t : Nat → Nat) (o_t : Nat → Nat) (x_thrown : Int32) (x_delay : Int32) (x_feel : Int32) (x_turn : Int32) (x_sight : Int32) (x_ball : Int32) (x_w : Int32) (x_h : Int32) (x_n : Int32) (x_players : Int32) (x_wide : Nat → Int32) (x_tall : Nat → Int32) (x_hands : Nat → Int32) (x_power : Nat → Int32) (x_spin : Nat → Int32) (x_seed : Nat → Int32) (x_pressed : Nat → Int32) (x_leftFrom : Nat → Int32) (x_leftTo : Nat → Int32) (x_place : Nat → Int32) (x_points : Nat → Int32) (p1 : Int32) {out : Int32 × Int32 × Int32 × Int32 × (Nat → Int32) × (Nat → Int32)} (hf : X8_liveNow x_wide x_tall x_hands x_power x_spin x_seed x_pressed x_leftFrom x_leftTo x_ball x_w x_h x_n x_place x_points p1 = some out) (hx : p.tables.exec = Jvm.exec) (hb : c.code = cX8_liveNow) (hml : c.maxLocals = 2) (hown : s.vm.findClass RX8 = some m.cls) (hts : ∀ w ∈ wsX8_liveNow, w.before args s = true) (hK : va_K D vwCl (TYS cy) s) (hE : EV t A s s.heap) (hA : ∀ q, s.heap.size ≤ q → A q) (hP : va_P D vwCl (wd_X8_liveNow cy o_t x_thrown x_delay x_feel x_turn x_sight x_ball x_w x_h x_n x_players x_wide x_tall x_hands x_power x_spin x_seed x_pressed x_leftFrom x_leftTo x_place x_points) H) (hD : va_D A (wd_X8_liveNow cy o_t x_thrown x_delay x_feel x_turn x_sight x_ball x_w x_h x_n x_players x_wide x_tall x_hands x_power x_spin x_seed x_pressed x_leftFrom x_leftTo x_place x_points)) (hS : va_S A s.heap H locs) (hl : lv_has ls 2 [(0, .ref (o_t 0)), (1, .int p1)]) (hR : ∀ (H : Heap) (locs : List Loc) (ls : Array Slot) (pc : Nat), va_P D vwCl (wd_X8_liveNow cy o_t x_thrown x_delay x_feel x_turn x_sight out.1 out.2.1 out.2.2.1 out.2.2.2.1 x_players x_wide x_tall x_hands x_power x_spin x_seed x_pressed x_leftFrom x_leftTo out.2.2.2.2.1 out.2.2.2.2.2) H → va_D A (wd_X8_liveNow cy o_t x_thrown x_delay x_feel x_turn x_sight out.1 out.2.1 out.2.2.1 out.2.2.2.1 x_players x_wide x_tall x_hands x_power x_spin x_seed x_pressed x_leftFrom x_leftTo out.2.2.2.2.1 out.2.2.2.2.2) → va_S A s.heap H locs → decode cX8_liveNow pc = .ok (.return_, 1) → W p l e (rmm 6 151) s m args below meth c H locs 0 0 Q (F0 m pc ls [])) : W p l e (rmm 6 151) s m args below meth c H locs 0 0 Q (F0 m 0 ls []) := by
  have k0 := hts (.fieldLink RX8 19 "SeaGamesModel" "power" "[I") (List.mem_cons_of_mem _ (List.mem_append_left _ (List.mem_append_left _ (List.mem_of_getElem? (i := 0) rfl))))
  have k1 : ∀ w ∈ u_ws RX8 TX8 36, w ∈ wsX8_liveNow := fun _ h => List.mem_cons_of_mem _ (List.mem_append_right _ h)
  rw [X8_liveNow] at hf
  refine lv_aload_n hx hb dX8_liveNow_0 rfl (lv_at hl 0 rfl) ?_
  refine lv_iconst (v := (4 : Int32)) hx hb dX8_liveNow_1 (by decide) ?_
  refine lv_iload_n hx hb dX8_liveNow_2 rfl (lv_at hl 1 rfl) ?_
  refine lv_aload_n hx hb dX8_liveNow_3 rfl (lv_at hl 0 rfl) ?_
  refine va_get (D := D) (ci := 8) (v := .ref (o_t 5)) (C := RX8) (T := TX8) (N := 36) hx hb hts k1 hown hK hP 0 rfl rfl 4 (by decide) k0 (fun _ h9 => h9) rfl dX8_liveNow_4 ?_
  refine lv_iconst (v := (4 : Int32)) hx hb dX8_liveNow_7 (by decide) ?_
  obtain ⟨v8, b8, ev8, hf⟩ := rd_s hf
  refine my_iald hx hb hK hP 4 rfl b8 ev8 dX8_liveNow_8 ?_
  obtain ⟨r9, hr9, hf⟩ := bd_s hf
  refine my_Vv (WS2 := (wd_X8_liveNow cy o_t x_thrown x_delay x_feel x_turn x_sight r9.1 r9.2.1 r9.2.2.1 r9.2.2.2.1 x_players x_wide x_tall x_hands x_power x_spin x_seed x_pressed x_leftFrom x_leftTo r9.2.2.2.2.1 r9.2.2.2.2.2)) ⟨hx, hb, hml, hown, hts⟩ (c_X8_live l D cy t o_t x_thrown x_delay x_feel x_turn x_sight x_ball x_w x_h x_n x_players x_wide x_tall x_hands x_spin x_seed x_pressed x_leftFrom x_leftTo x_place x_points (4 : Int32) p1 v8 hr9) (cwV 3 hts gX8_liveNow_X8_live rfl rfl rfl ⟨rfl, hd_X8_live⟩ ⟨Nat.le_of_ble_eq_true rfl, Nat.le_of_ble_eq_true rfl⟩) hK hE hP hD hS hA [0, 1, 2, 3, 5, 6, 7, 8, 9, 10, 11] 12 8 0 rfl rfl rfl rfl (by decide +kernel) rfl rfl hl.1 rfl (Nat.le_of_ble_eq_true rfl) dX8_liveNow_9 ⟨Nat.le_of_ble_eq_true rfl, Nat.le_of_ble_eq_true rfl⟩ (fun H locs hP hD hS => ?_)
  obtain rfl := Option.some.inj hf
  exact hR _ _ _ _ hP hD hS dX8_liveNow_12
theorem hd_X8_liveNow : yX8_liveNow.cls ≠ "java/lang/invoke/MethodHandle" ∧ yX8_liveNow.cls ≠ "java/lang/invoke/VarHandle" ∧ (parseMethodDescriptor yX8_liveNow.desc).map (fun d => d.parameters.length) = some 1 := by decide +kernel
set_option maxRecDepth 100000 in
theorem c_X8_liveNow (l : Launch) (D : va_G) (cy : Nat → ClassId) (t : Nat → Nat) (o_t : Nat → Nat) (x_thrown : Int32) (x_delay : Int32) (x_feel : Int32) (x_turn : Int32) (x_sight : Int32) (x_ball : Int32) (x_w : Int32) (x_h : Int32) (x_n : Int32) (x_players : Int32) (x_wide : Nat → Int32) (x_tall : Nat → Int32) (x_hands : Nat → Int32) (x_power : Nat → Int32) (x_spin : Nat → Int32) (x_seed : Nat → Int32) (x_pressed : Nat → Int32) (x_leftFrom : Nat → Int32) (x_leftTo : Nat → Int32) (x_place : Nat → Int32) (x_points : Nat → Int32) (p1 : Int32) {out : Int32 × Int32 × Int32 × Int32 × (Nat → Int32) × (Nat → Int32)} (hf : X8_liveNow x_wide x_tall x_hands x_power x_spin x_seed x_pressed x_leftFrom x_leftTo x_ball x_w x_h x_n x_place x_points p1 = some out) : ctV l yX8_liveNow wsX8_liveNow 6 151 D cy t [.ref (o_t 0), .int p1] (wd_X8_liveNow cy o_t x_thrown x_delay x_feel x_turn x_sight x_ball x_w x_h x_n x_players x_wide x_tall x_hands x_power x_spin x_seed x_pressed x_leftFrom x_leftTo x_place x_points) (wd_X8_liveNow cy o_t x_thrown x_delay x_feel x_turn x_sight out.1 out.2.1 out.2.2.1 out.2.2.2.1 x_players x_wide x_tall x_hands x_power x_spin x_seed x_pressed x_leftFrom x_leftTo out.2.2.2.2.1 out.2.2.2.2.2) := by
  refine ⟨rfl, ?_⟩
  intro sz
  refine Met.ofW (cc := cX8_liveNow) (maxL := 2) (ret := none) (by decide) rfl ?_
  intro p e s m args below meth c s₁ B hml hv
  obtain ⟨rfl, hsz, hP, hK, hD0, hE⟩ := hv
  have hts := atoms_spec (ws := wsX8_liveNow) B.pre
  have hown : s.vm.findClass RX8 = some m.cls := findClass_of_methodNamed B.named
  have hlocks := B.notSynchronized
  subst hsz
  have hD := hD0.self (sz := s.heap.size)
  have hl := lv_entry ([.ref (o_t 0), .int p1]) (n := 2) (Nat.le_of_ble_eq_true rfl)
  rw [lg_entry_eq]
  generalize (lg_sl ([.ref (o_t 0), .int p1]) ++ List.replicate (2 - (lg_sl ([.ref (o_t 0), .int p1])).length) Slot.unset).toArray = ls at hl ⊢
  exact w_X8_liveNow D cy t o_t x_thrown x_delay x_feel x_turn x_sight x_ball x_w x_h x_n x_players x_wide x_tall x_hands x_power x_spin x_seed x_pressed x_leftFrom x_leftTo x_place x_points p1 hf B.exec B.bytes hml hown hts hK hE (fun q h => Or.inr h) hP hD va_S.rf hl (fun H locs ls pc hP hD hS hdg => W.vret B.exec B.bytes B.returns (fun t ht hW => ⟨⟨(), rfl, trivial, ctB_of ht hP⟩, hS.F ht⟩) hS.2.2 hdg)

noncomputable def X8_noWhat (p1 : Int32) (p2 : Int32) : Option (Int32) :=
  bd (X8_in (Int32.toInt64 p1) (0 : Int64) (Int32.toInt64 (p2 - (1 : Int32)))) fun r7 => if r7 = (0 : Int32) then (if p1 = (6 : Int32) then (zb (0 : Int32) <| some (0 : Int32)) else (bd (X8_in (Int32.toInt64 p1) (10 : Int64) (Int32.toInt64 ((9 : Int32) + p2))) fun r29 => if r29 = (0 : Int32) then (zb (1 : Int32) <| some (1 : Int32)) else (zb (0 : Int32) <| some (0 : Int32)))) else (zb (0 : Int32) <| some (0 : Int32))
abbrev wd_X8_noWhat (cy : Nat → ClassId) (o_t : Nat → Nat) (x_thrown : Int32) (x_delay : Int32) (x_feel : Int32) (x_turn : Int32) (x_sight : Int32) (x_ball : Int32) (x_w : Int32) (x_h : Int32) (x_n : Int32) (x_players : Int32) : va_W := [(o_t 0, .inr (8, [.int x_thrown, .ref (o_t 2), .ref (o_t 3), .ref (o_t 4), .ref (o_t 5), .ref (o_t 6), .ref (o_t 7), .ref (o_t 8), .ref (o_t 9), .ref (o_t 10), .ref (o_t 11), .int x_delay, .int x_feel, .int x_turn, .int x_sight, .ref (o_t 16), .ref (o_t 17), .ref (o_t 18), .ref (o_t 19), .int x_ball, .int x_w, .int x_h, .int x_n, .ref (o_t 24), .ref (o_t 25), .ref (o_t 26), .ref (o_t 27), .ref (o_t 28), .ref (o_t 29), .int x_players, .ref (o_t 31), .ref (o_t 32), .ref (o_t 33), .ref (o_t 34), .ref (o_t 35), .ref (o_t 36)]))]
set_option maxHeartbeats 4000000 in
set_option maxRecDepth 100000 in
theorem w_X8_noWhat {p : Program} {l : Launch} {e : Env} {s : State} {m : MethodId} {args : Array Value} {below : List Frame} {meth : Method} {c : Code} {Q : State → Prop} {A : Nat → Prop} {H : Heap} {locs : List Loc} {ls : Array Slot} (D : va_G) (cy : Nat → ClassId) (t : Nat → Nat) (o_t : Nat → Nat) (x_thrown : Int32) (x_delay : Int32) (x_feel : Int32) (x_turn : Int32) (x_sight : Int32) (x_ball : Int32) (x_w : Int32) (x_h : Int32) (x_n : Int32) (x_players : Int32) (p1 : Int32) (p2 : Int32) {out : Int32} (hf : X8_noWhat p1 p2 = some out) (hx : p.tables.exec = Jvm.exec) (hb : c.code = cX8_noWhat) (hml : c.maxLocals = 3) (hown : s.vm.findClass RX8 = some m.cls) (hts : ∀ w ∈ wsX8_noWhat, w.before args s = true) (hK : va_K D vwCl (TYS cy) s) (hE : EV t A s s.heap) (hA : ∀ q, s.heap.size ≤ q → A q) (hP : va_P D vwCl (wd_X8_noWhat cy o_t x_thrown x_delay x_feel x_turn x_sight x_ball x_w x_h x_n x_players) H) (hD : va_D A (wd_X8_noWhat cy o_t x_thrown x_delay x_feel x_turn x_sight x_ball x_w x_h x_n x_players)) (hS : va_S A s.heap H locs) (hl : lv_has ls 3 [(0, .ref (o_t 0)), (1, .int p1), (2, .int p2)]) (hR : ∀ (H : Heap) (locs : List Loc) (ls : Array Slot) (pc : Nat), va_P D vwCl (wd_X8_noWhat cy o_t x_thrown x_delay x_feel x_turn x_sight x_ball x_w x_h x_n x_players) H → va_D A (wd_X8_noWhat cy o_t x_thrown x_delay x_feel x_turn x_sight x_ball x_w x_h x_n x_players) → va_S A s.heap H locs → narrow .boolean (.int out) = .int out → decode cX8_noWhat pc = .ok (.ireturn, 1) → W p l e (rmm 1 25) s m args below meth c H locs 0 0 Q (F0 m pc ls [.int out])) : W p l e (rmm 1 25) s m args below meth c H locs 0 0 Q (F0 m 0 ls []) := by
  have k0 := hts (.constantLong RX8 180 (10)) (List.mem_cons_of_mem _ (List.mem_of_getElem? (i := 0) rfl))
  rw [X8_noWhat] at hf
  refine lv_iload_n hx hb dX8_noWhat_0 rfl (lv_at hl 1 rfl) ?_
  refine lv_i2l (v := (Int32.toInt64 p1)) hx hb dX8_noWhat_1 rfl ?_
  refine lv_lconst (v := (0 : Int64)) hx hb dX8_noWhat_2 (by decide) ?_
  refine lv_iload_n hx hb dX8_noWhat_3 rfl (lv_at hl 2 rfl) ?_
  refine lv_iconst (v := (1 : Int32)) hx hb dX8_noWhat_4 (by decide) ?_
  refine lv_isub hx hb dX8_noWhat_5 ?_
  refine lv_i2l (v := (Int32.toInt64 (p2 - (1 : Int32)))) hx hb dX8_noWhat_6 rfl ?_
  obtain ⟨r7, hr7, hf⟩ := bd_s hf
  refine my_Si (WS2 := (wd_X8_noWhat cy o_t x_thrown x_delay x_feel x_turn x_sight x_ball x_w x_h x_n x_players)) ⟨hx, hb, hml, hown, hts⟩ (c_X8_in l D cy t (Int32.toInt64 p1) (0 : Int64) (Int32.toInt64 (p2 - (1 : Int32))) hr7) (va_cwS 3 hts gX8_noWhat_X8_in rfl rfl rfl hd_X8_in ⟨Nat.le_of_ble_eq_true rfl, Nat.le_of_ble_eq_true rfl⟩) hK hE hP hD hS hA [] 1 rfl rfl (by decide +kernel) rfl rfl hl.1 rfl (Nat.le_of_ble_eq_true rfl) dX8_noWhat_7 ⟨Nat.le_of_ble_eq_true rfl, Nat.le_of_ble_eq_true rfl⟩ (fun H locs hP hD hS => ?_)
  refine lv_if_ne (tgt := 39) hx hb dX8_noWhat_10 (by decide) (fun c10 => ?_) (fun c10 => ?_)
  · have hf := ifn c10 hf
    refine lv_iconst (v := (0 : Int32)) hx hb dX8_noWhat_39 (by decide) ?_
    obtain ⟨z40, hf⟩ := zb_s hf
    obtain rfl := Option.some.inj hf
    exact hR _ _ _ _ hP hD hS z40 dX8_noWhat_40
  · have hf := ifp c10 hf
    refine lv_iload_n hx hb dX8_noWhat_13 rfl (lv_at hl 1 rfl) ?_
    refine lv_bipush (v := (6 : Int32)) hx hb dX8_noWhat_14 (by decide) ?_
    refine lv_icmp_eq (tgt := 39) hx hb dX8_noWhat_16 (by decide) (fun c16 => ?_) (fun c16 => ?_)
    · have hf := ifp c16 hf
      refine lv_iconst (v := (0 : Int32)) hx hb dX8_noWhat_39 (by decide) ?_
      obtain ⟨z40, hf⟩ := zb_s hf
      obtain rfl := Option.some.inj hf
      exact hR _ _ _ _ hP hD hS z40 dX8_noWhat_40
    · have hf := ifn c16 hf
      refine lv_iload_n hx hb dX8_noWhat_19 rfl (lv_at hl 1 rfl) ?_
      refine lv_i2l (v := (Int32.toInt64 p1)) hx hb dX8_noWhat_20 rfl ?_
      refine lv_ldc2 (v := (10 : Int64)) hx hb hown k0 dX8_noWhat_21 ?_
      refine lv_bipush (v := (9 : Int32)) hx hb dX8_noWhat_24 (by decide) ?_
      refine lv_iload_n hx hb dX8_noWhat_26 rfl (lv_at hl 2 rfl) ?_
      refine lv_iadd hx hb dX8_noWhat_27 ?_
      refine lv_i2l (v := (Int32.toInt64 ((9 : Int32) + p2))) hx hb dX8_noWhat_28 rfl ?_
      obtain ⟨r29, hr29, hf⟩ := bd_s hf
      refine my_Si (WS2 := (wd_X8_noWhat cy o_t x_thrown x_delay x_feel x_turn x_sight x_ball x_w x_h x_n x_players)) ⟨hx, hb, hml, hown, hts⟩ (c_X8_in l D cy t (Int32.toInt64 p1) (10 : Int64) (Int32.toInt64 ((9 : Int32) + p2)) hr29) (va_cwS 3 hts gX8_noWhat_X8_in rfl rfl rfl hd_X8_in ⟨Nat.le_of_ble_eq_true rfl, Nat.le_of_ble_eq_true rfl⟩) hK hE hP hD hS hA [] 1 rfl rfl (by decide +kernel) rfl rfl hl.1 rfl (Nat.le_of_ble_eq_true rfl) dX8_noWhat_29 ⟨Nat.le_of_ble_eq_true rfl, Nat.le_of_ble_eq_true rfl⟩ (fun H locs hP hD hS => ?_)
      refine lv_if_ne (tgt := 39) hx hb dX8_noWhat_32 (by decide) (fun c32 => ?_) (fun c32 => ?_)
      · have hf := ifn c32 hf
        refine lv_iconst (v := (0 : Int32)) hx hb dX8_noWhat_39 (by decide) ?_
        obtain ⟨z40, hf⟩ := zb_s hf
        obtain rfl := Option.some.inj hf
        exact hR _ _ _ _ hP hD hS z40 dX8_noWhat_40
      · have hf := ifp c32 hf
        refine lv_iconst (v := (1 : Int32)) hx hb dX8_noWhat_35 (by decide) ?_
        refine lv_goto (tgt := 40) hx hb dX8_noWhat_36 (by decide) ?_
        obtain ⟨z40, hf⟩ := zb_s hf
        obtain rfl := Option.some.inj hf
        exact hR _ _ _ _ hP hD hS z40 dX8_noWhat_40
theorem hd_X8_noWhat : yX8_noWhat.cls ≠ "java/lang/invoke/MethodHandle" ∧ yX8_noWhat.cls ≠ "java/lang/invoke/VarHandle" ∧ (parseMethodDescriptor yX8_noWhat.desc).map (fun d => d.parameters.length) = some 2 := by decide +kernel
set_option maxRecDepth 100000 in
theorem c_X8_noWhat (l : Launch) (D : va_G) (cy : Nat → ClassId) (t : Nat → Nat) (o_t : Nat → Nat) (x_thrown : Int32) (x_delay : Int32) (x_feel : Int32) (x_turn : Int32) (x_sight : Int32) (x_ball : Int32) (x_w : Int32) (x_h : Int32) (x_n : Int32) (x_players : Int32) (p1 : Int32) (p2 : Int32) {out : Int32} (hf : X8_noWhat p1 p2 = some out) : ctI l yX8_noWhat wsX8_noWhat 1 25 D cy t [.ref (o_t 0), .int p1, .int p2] (wd_X8_noWhat cy o_t x_thrown x_delay x_feel x_turn x_sight x_ball x_w x_h x_n x_players) (wd_X8_noWhat cy o_t x_thrown x_delay x_feel x_turn x_sight x_ball x_w x_h x_n x_players) out := by
  refine ⟨rfl, ?_⟩
  intro sz
  refine Met.ofW (cc := cX8_noWhat) (maxL := 3) (ret := (some .boolean)) (by decide) rfl ?_
  intro p e s m args below meth c s₁ B hml hv
  obtain ⟨rfl, hsz, hP, hK, hD0, hE⟩ := hv
  have hts := atoms_spec (ws := wsX8_noWhat) B.pre
  have hown : s.vm.findClass RX8 = some m.cls := findClass_of_methodNamed B.named
  have hlocks := B.notSynchronized
  subst hsz
  have hD := hD0.self (sz := s.heap.size)
  have hl := lv_entry ([.ref (o_t 0), .int p1, .int p2]) (n := 3) (Nat.le_of_ble_eq_true rfl)
  rw [lg_entry_eq]
  generalize (lg_sl ([.ref (o_t 0), .int p1, .int p2]) ++ List.replicate (3 - (lg_sl ([.ref (o_t 0), .int p1, .int p2])).length) Slot.unset).toArray = ls at hl ⊢
  exact w_X8_noWhat D cy t o_t x_thrown x_delay x_feel x_turn x_sight x_ball x_w x_h x_n x_players p1 p2 hf B.exec B.bytes hml hown hts hK hE (fun q h => Or.inr h) hP hD va_S.rf hl (fun H locs ls pc hP hD hS z hdg => W.zret B.exec B.bytes B.returns z (fun t ht hW => ⟨⟨_, (), rfl, rfl, ctB_of ht hP⟩, hS.F ht⟩) hS.2.2 hdg)

noncomputable def X8_seen (x_ball : Int32) (x_place : Nat → Int32) (x_points : Nat → Int32) (p1 : Int32) : Option (Int32) :=
  if (6 : Int32) ≤ p1 then (if p1 = (6 : Int32) then (some x_ball) else (rd x_points 6 (p1 - (10 : Int32)) fun v36 => some v36)) else (rd x_place 6 p1 fun v11 => some v11)
abbrev wd_X8_seen (cy : Nat → ClassId) (o_t : Nat → Nat) (x_thrown : Int32) (x_delay : Int32) (x_feel : Int32) (x_turn : Int32) (x_sight : Int32) (x_ball : Int32) (x_w : Int32) (x_h : Int32) (x_n : Int32) (x_players : Int32) (x_place : Nat → Int32) (x_points : Nat → Int32) : va_W := [(o_t 0, .inr (8, [.int x_thrown, .ref (o_t 2), .ref (o_t 3), .ref (o_t 4), .ref (o_t 5), .ref (o_t 6), .ref (o_t 7), .ref (o_t 8), .ref (o_t 9), .ref (o_t 10), .ref (o_t 11), .int x_delay, .int x_feel, .int x_turn, .int x_sight, .ref (o_t 16), .ref (o_t 17), .ref (o_t 18), .ref (o_t 19), .int x_ball, .int x_w, .int x_h, .int x_n, .ref (o_t 24), .ref (o_t 25), .ref (o_t 26), .ref (o_t 27), .ref (o_t 28), .ref (o_t 29), .int x_players, .ref (o_t 31), .ref (o_t 32), .ref (o_t 33), .ref (o_t 34), .ref (o_t 35), .ref (o_t 36)])), (o_t 18, .inl (cy 0, 6, .inl x_place)), (o_t 19, .inl (cy 0, 6, .inl x_points))]
set_option maxHeartbeats 4000000 in
set_option maxRecDepth 100000 in
theorem w_X8_seen {p : Program} {l : Launch} {e : Env} {s : State} {m : MethodId} {args : Array Value} {below : List Frame} {meth : Method} {c : Code} {Q : State → Prop} {A : Nat → Prop} {H : Heap} {locs : List Loc} {ls : Array Slot} (D : va_G) (cy : Nat → ClassId) (t : Nat → Nat) (o_t : Nat → Nat) (x_thrown : Int32) (x_delay : Int32) (x_feel : Int32) (x_turn : Int32) (x_sight : Int32) (x_ball : Int32) (x_w : Int32) (x_h : Int32) (x_n : Int32) (x_players : Int32) (x_place : Nat → Int32) (x_points : Nat → Int32) (p1 : Int32) {out : Int32} (hf : X8_seen x_ball x_place x_points p1 = some out) (hx : p.tables.exec = Jvm.exec) (hb : c.code = cX8_seen) (hml : c.maxLocals = 2) (hown : s.vm.findClass RX8 = some m.cls) (hts : ∀ w ∈ wsX8_seen, w.before args s = true) (hK : va_K D vwCl (TYS cy) s) (hE : EV t A s s.heap) (hA : ∀ q, s.heap.size ≤ q → A q) (hP : va_P D vwCl (wd_X8_seen cy o_t x_thrown x_delay x_feel x_turn x_sight x_ball x_w x_h x_n x_players x_place x_points) H) (hD : va_D A (wd_X8_seen cy o_t x_thrown x_delay x_feel x_turn x_sight x_ball x_w x_h x_n x_players x_place x_points)) (hS : va_S A s.heap H locs) (hl : lv_has ls 2 [(0, .ref (o_t 0)), (1, .int p1)]) (hR : ∀ (H : Heap) (locs : List Loc) (ls : Array Slot) (pc : Nat), va_P D vwCl (wd_X8_seen cy o_t x_thrown x_delay x_feel x_turn x_sight x_ball x_w x_h x_n x_players x_place x_points) H → va_D A (wd_X8_seen cy o_t x_thrown x_delay x_feel x_turn x_sight x_ball x_w x_h x_n x_players x_place x_points) → va_S A s.heap H locs → decode cX8_seen pc = .ok (.ireturn, 1) → W p l e (rmm 0 0) s m args below meth c H locs 0 0 Q (F0 m pc ls [.int out])) : W p l e (rmm 0 0) s m args below meth c H locs 0 0 Q (F0 m 0 ls []) := by
  have k0 := hts (.fieldLink RX8 60 "SeaGamesModel" "points" "[I") (List.mem_cons_of_mem _ (List.mem_append_left _ (List.mem_of_getElem? (i := 2) rfl)))
  have k1 : ∀ w ∈ u_ws RX8 TX8 36, w ∈ wsX8_seen := fun _ h => List.mem_cons_of_mem _ (List.mem_append_right _ h)
  have k2 := hts (.fieldLink RX8 138 "SeaGamesModel" "ball" "I") (List.mem_cons_of_mem _ (List.mem_append_left _ (List.mem_of_getElem? (i := 1) rfl)))
  have k3 := hts (.fieldLink RX8 57 "SeaGamesModel" "place" "[I") (List.mem_cons_of_mem _ (List.mem_append_left _ (List.mem_of_getElem? (i := 0) rfl)))
  rw [X8_seen] at hf
  refine lv_iload_n hx hb dX8_seen_0 rfl (lv_at hl 1 rfl) ?_
  refine lv_bipush (v := (6 : Int32)) hx hb dX8_seen_1 (by decide) ?_
  refine lv_icmp_ge (tgt := 15) hx hb dX8_seen_3 (by decide) (fun c3 => ?_) (fun c3 => ?_)
  · have hf := ifp c3 hf
    refine lv_iload_n hx hb dX8_seen_15 rfl (lv_at hl 1 rfl) ?_
    refine lv_bipush (v := (6 : Int32)) hx hb dX8_seen_16 (by decide) ?_
    refine lv_icmp_ne (tgt := 28) hx hb dX8_seen_18 (by decide) (fun c18 => ?_) (fun c18 => ?_)
    · have hf := ifn c18 hf
      refine lv_aload_n hx hb dX8_seen_28 rfl (lv_at hl 0 rfl) ?_
      refine va_get (D := D) (ci := 8) (v := .ref (o_t 19)) (C := RX8) (T := TX8) (N := 36) hx hb hts k1 hown hK hP 0 rfl rfl 18 (by decide) k0 (fun _ h9 => h9) rfl dX8_seen_29 ?_
      refine lv_iload_n hx hb dX8_seen_32 rfl (lv_at hl 1 rfl) ?_
      refine lv_bipush (v := (10 : Int32)) hx hb dX8_seen_33 (by decide) ?_
      refine lv_isub hx hb dX8_seen_35 ?_
      obtain ⟨v36, b36, ev36, hf⟩ := rd_s hf
      refine my_iald hx hb hK hP 2 rfl b36 ev36 dX8_seen_36 ?_
      obtain rfl := Option.some.inj hf
      exact hR _ _ _ _ hP hD hS dX8_seen_37
    · have hf := ifp c18 hf
      refine lv_aload_n hx hb dX8_seen_21 rfl (lv_at hl 0 rfl) ?_
      refine va_get (D := D) (ci := 8) (v := .int x_ball) (C := RX8) (T := TX8) (N := 36) hx hb hts k1 hown hK hP 0 rfl rfl 19 (by decide) k2 (fun _ h9 => h9) rfl dX8_seen_22 ?_
      refine lv_goto (tgt := 37) hx hb dX8_seen_25 (by decide) ?_
      obtain rfl := Option.some.inj hf
      exact hR _ _ _ _ hP hD hS dX8_seen_37
  · have hf := ifn c3 hf
    refine lv_aload_n hx hb dX8_seen_6 rfl (lv_at hl 0 rfl) ?_
    refine va_get (D := D) (ci := 8) (v := .ref (o_t 18)) (C := RX8) (T := TX8) (N := 36) hx hb hts k1 hown hK hP 0 rfl rfl 17 (by decide) k3 (fun _ h9 => h9) rfl dX8_seen_7 ?_
    refine lv_iload_n hx hb dX8_seen_10 rfl (lv_at hl 1 rfl) ?_
    obtain ⟨v11, b11, ev11, hf⟩ := rd_s hf
    refine my_iald hx hb hK hP 1 rfl b11 ev11 dX8_seen_11 ?_
    refine lv_goto (tgt := 37) hx hb dX8_seen_12 (by decide) ?_
    obtain rfl := Option.some.inj hf
    exact hR _ _ _ _ hP hD hS dX8_seen_37
theorem hd_X8_seen : yX8_seen.cls ≠ "java/lang/invoke/MethodHandle" ∧ yX8_seen.cls ≠ "java/lang/invoke/VarHandle" ∧ (parseMethodDescriptor yX8_seen.desc).map (fun d => d.parameters.length) = some 1 := by decide +kernel
set_option maxRecDepth 100000 in
theorem c_X8_seen (l : Launch) (D : va_G) (cy : Nat → ClassId) (t : Nat → Nat) (o_t : Nat → Nat) (x_thrown : Int32) (x_delay : Int32) (x_feel : Int32) (x_turn : Int32) (x_sight : Int32) (x_ball : Int32) (x_w : Int32) (x_h : Int32) (x_n : Int32) (x_players : Int32) (x_place : Nat → Int32) (x_points : Nat → Int32) (p1 : Int32) {out : Int32} (hf : X8_seen x_ball x_place x_points p1 = some out) : ctI l yX8_seen wsX8_seen 0 0 D cy t [.ref (o_t 0), .int p1] (wd_X8_seen cy o_t x_thrown x_delay x_feel x_turn x_sight x_ball x_w x_h x_n x_players x_place x_points) (wd_X8_seen cy o_t x_thrown x_delay x_feel x_turn x_sight x_ball x_w x_h x_n x_players x_place x_points) out := by
  refine ⟨rfl, ?_⟩
  intro sz
  refine Met.ofW (cc := cX8_seen) (maxL := 2) (ret := (some .int)) (by decide) rfl ?_
  intro p e s m args below meth c s₁ B hml hv
  obtain ⟨rfl, hsz, hP, hK, hD0, hE⟩ := hv
  have hts := atoms_spec (ws := wsX8_seen) B.pre
  have hown : s.vm.findClass RX8 = some m.cls := findClass_of_methodNamed B.named
  have hlocks := B.notSynchronized
  subst hsz
  have hD := hD0.self (sz := s.heap.size)
  have hl := lv_entry ([.ref (o_t 0), .int p1]) (n := 2) (Nat.le_of_ble_eq_true rfl)
  rw [lg_entry_eq]
  generalize (lg_sl ([.ref (o_t 0), .int p1]) ++ List.replicate (2 - (lg_sl ([.ref (o_t 0), .int p1])).length) Slot.unset).toArray = ls at hl ⊢
  exact w_X8_seen D cy t o_t x_thrown x_delay x_feel x_turn x_sight x_ball x_w x_h x_n x_players x_place x_points p1 hf B.exec B.bytes hml hown hts hK hE (fun q h => Or.inr h) hP hD va_S.rf hl (fun H locs ls pc hP hD hS hdg => W.iret B.exec B.bytes B.returns (fun t ht hW => ⟨⟨_, (), rfl, rfl, ctB_of ht hP⟩, hS.F ht⟩) hS.2.2 hdg)

noncomputable def X8_truly (x_wide : Nat → Int32) (x_tall : Nat → Int32) (x_hands : Nat → Int32) (x_power : Nat → Int32) (x_spin : Nat → Int32) (x_seed : Nat → Int32) (x_pressed : Nat → Int32) (x_leftFrom : Nat → Int32) (x_leftTo : Nat → Int32) (x_thrown : Int32) (x_ball : Int32) (x_w : Int32) (x_h : Int32) (x_n : Int32) (x_place : Nat → Int32) (x_points : Nat → Int32) (p1 : Int32) (p2 : Int32) : Option (Int32 × Int32 × Int32 × Int32 × Int32 × Int32 × (Nat → Int32) × (Nat → Int32)) :=
  bd (X8_noTick p1) fun r6 => if r6 = (0 : Int32) then (rd x_hands 5 (4 : Int32) fun v21 => bd (X8_noWhat p2 v21) fun r22 => if r22 = (0 : Int32) then (bd (X8_liveNow x_wide x_tall x_hands x_power x_spin x_seed x_pressed x_leftFrom x_leftTo x_ball x_w x_h x_n x_place x_points p1) fun r33 => bd (X8_seen r33.1 r33.2.2.2.2.1 r33.2.2.2.2.2 p2) fun r38 => some (r38, (0 : Int32), r33.1, r33.2.1, r33.2.2.1, r33.2.2.2.1, r33.2.2.2.2.1, r33.2.2.2.2.2)) else (some ((-2 : Int32), (0 : Int32), x_ball, x_w, x_h, x_n, x_place, x_points))) else (some ((-1 : Int32), (0 : Int32), x_ball, x_w, x_h, x_n, x_place, x_points))
abbrev wd_X8_truly (cy : Nat → ClassId) (o_t : Nat → Nat) (x_thrown : Int32) (x_delay : Int32) (x_feel : Int32) (x_turn : Int32) (x_sight : Int32) (x_ball : Int32) (x_w : Int32) (x_h : Int32) (x_n : Int32) (x_players : Int32) (x_wide : Nat → Int32) (x_tall : Nat → Int32) (x_hands : Nat → Int32) (x_power : Nat → Int32) (x_spin : Nat → Int32) (x_seed : Nat → Int32) (x_pressed : Nat → Int32) (x_leftFrom : Nat → Int32) (x_leftTo : Nat → Int32) (x_place : Nat → Int32) (x_points : Nat → Int32) : va_W := [(o_t 0, .inr (8, [.int x_thrown, .ref (o_t 2), .ref (o_t 3), .ref (o_t 4), .ref (o_t 5), .ref (o_t 6), .ref (o_t 7), .ref (o_t 8), .ref (o_t 9), .ref (o_t 10), .ref (o_t 11), .int x_delay, .int x_feel, .int x_turn, .int x_sight, .ref (o_t 16), .ref (o_t 17), .ref (o_t 18), .ref (o_t 19), .int x_ball, .int x_w, .int x_h, .int x_n, .ref (o_t 24), .ref (o_t 25), .ref (o_t 26), .ref (o_t 27), .ref (o_t 28), .ref (o_t 29), .int x_players, .ref (o_t 31), .ref (o_t 32), .ref (o_t 33), .ref (o_t 34), .ref (o_t 35), .ref (o_t 36)])), (o_t 2, .inl (cy 0, 5, .inl x_wide)), (o_t 3, .inl (cy 0, 5, .inl x_tall)), (o_t 4, .inl (cy 0, 5, .inl x_hands)), (o_t 5, .inl (cy 0, 5, .inl x_power)), (o_t 6, .inl (cy 0, 5, .inl x_spin)), (o_t 7, .inl (cy 0, 5, .inl x_seed)), (o_t 8, .inl (cy 0, 3000, .inl x_pressed)), (o_t 9, .inl (cy 0, 30, .inl x_leftFrom)), (o_t 10, .inl (cy 0, 30, .inl x_leftTo)), (o_t 18, .inl (cy 0, 6, .inl x_place)), (o_t 19, .inl (cy 0, 6, .inl x_points))]
set_option maxHeartbeats 4000000 in
set_option maxRecDepth 100000 in
theorem w_X8_truly {p : Program} {l : Launch} {e : Env} {s : State} {m : MethodId} {args : Array Value} {below : List Frame} {meth : Method} {c : Code} {Q : State → Prop} {A : Nat → Prop} {H : Heap} {locs : List Loc} {ls : Array Slot} (D : va_G) (cy : Nat → ClassId) (t : Nat → Nat) (o_t : Nat → Nat) (x_thrown : Int32) (x_delay : Int32) (x_feel : Int32) (x_turn : Int32) (x_sight : Int32) (x_ball : Int32) (x_w : Int32) (x_h : Int32) (x_n : Int32) (x_players : Int32) (x_wide : Nat → Int32) (x_tall : Nat → Int32) (x_hands : Nat → Int32) (x_power : Nat → Int32) (x_spin : Nat → Int32) (x_seed : Nat → Int32) (x_pressed : Nat → Int32) (x_leftFrom : Nat → Int32) (x_leftTo : Nat → Int32) (x_place : Nat → Int32) (x_points : Nat → Int32) (p1 : Int32) (p2 : Int32) {out : Int32 × Int32 × Int32 × Int32 × Int32 × Int32 × (Nat → Int32) × (Nat → Int32)} (hf : X8_truly x_wide x_tall x_hands x_power x_spin x_seed x_pressed x_leftFrom x_leftTo x_thrown x_ball x_w x_h x_n x_place x_points p1 p2 = some out) (hx : p.tables.exec = Jvm.exec) (hb : c.code = cX8_truly) (hml : c.maxLocals = 3) (hown : s.vm.findClass RX8 = some m.cls) (hts : ∀ w ∈ wsX8_truly, w.before args s = true) (hK : va_K D vwCl (TYS cy) s) (hE : EV t A s s.heap) (hA : ∀ q, s.heap.size ≤ q → A q) (hP : va_P D vwCl (wd_X8_truly cy o_t x_thrown x_delay x_feel x_turn x_sight x_ball x_w x_h x_n x_players x_wide x_tall x_hands x_power x_spin x_seed x_pressed x_leftFrom x_leftTo x_place x_points) H) (hD : va_D A (wd_X8_truly cy o_t x_thrown x_delay x_feel x_turn x_sight x_ball x_w x_h x_n x_players x_wide x_tall x_hands x_power x_spin x_seed x_pressed x_leftFrom x_leftTo x_place x_points)) (hS : va_S A s.heap H locs) (hl : lv_has ls 3 [(0, .ref (o_t 0)), (1, .int p1), (2, .int p2)]) (hR : ∀ (H : Heap) (locs : List Loc) (ls : Array Slot) (pc : Nat), va_P D vwCl (wd_X8_truly cy o_t out.2.1 x_delay x_feel x_turn x_sight out.2.2.1 out.2.2.2.1 out.2.2.2.2.1 out.2.2.2.2.2.1 x_players x_wide x_tall x_hands x_power x_spin x_seed x_pressed x_leftFrom x_leftTo out.2.2.2.2.2.2.1 out.2.2.2.2.2.2.2) H → va_D A (wd_X8_truly cy o_t out.2.1 x_delay x_feel x_turn x_sight out.2.2.1 out.2.2.2.1 out.2.2.2.2.1 out.2.2.2.2.2.1 x_players x_wide x_tall x_hands x_power x_spin x_seed x_pressed x_leftFrom x_leftTo out.2.2.2.2.2.2.1 out.2.2.2.2.2.2.2) → va_S A s.heap H locs → decode cX8_truly pc = .ok (.ireturn, 1) → W p l e (rmm 7 172) s m args below meth c H locs 0 0 Q (F0 m pc ls [.int out.1])) : W p l e (rmm 7 172) s m args below meth c H locs 0 0 Q (F0 m 0 ls []) := by
  have k0 := hts (.fieldLink RX8 100 "SeaGamesModel" "thrown" "I") (List.mem_cons_of_mem _ (List.mem_append_left _ (List.mem_append_left _ (List.mem_of_getElem? (i := 0) rfl))))
  have k1 : ∀ w ∈ u_ws RX8 TX8 36, w ∈ wsX8_truly := fun _ h => List.mem_cons_of_mem _ (List.mem_append_right _ h)
  have k2 := hts (.fieldLink RX8 16 "SeaGamesModel" "hands" "[I") (List.mem_cons_of_mem _ (List.mem_append_left _ (List.mem_append_left _ (List.mem_of_getElem? (i := 1) rfl))))
  rw [X8_truly] at hf
  refine lv_aload_n hx hb dX8_truly_0 rfl (lv_at hl 0 rfl) ?_
  refine lv_iconst (v := (0 : Int32)) hx hb dX8_truly_1 (by decide) ?_
  refine va_put (D := D) (ci := 8) (v := .int (0 : Int32)) (ty := .int) (C := RX8) (T := TX8) (N := 36) hx hb hts k1 tyX8 tyX8_ok nmX8 hown hK hP hD hS 0 rfl rfl 0 (by decide) k0 (fun _ h9 => h9) rfl (by decide +kernel) rfl rfl (Nat.le_of_ble_eq_true rfl) dX8_truly_2 (fun H locs hP hD hS => ?_)
  have hP : va_P D vwCl (wd_X8_truly cy o_t (0 : Int32) x_delay x_feel x_turn x_sight x_ball x_w x_h x_n x_players x_wide x_tall x_hands x_power x_spin x_seed x_pressed x_leftFrom x_leftTo x_place x_points) H := hP
  have hD : va_D A (wd_X8_truly cy o_t (0 : Int32) x_delay x_feel x_turn x_sight x_ball x_w x_h x_n x_players x_wide x_tall x_hands x_power x_spin x_seed x_pressed x_leftFrom x_leftTo x_place x_points) := hD
  refine lv_iload_n hx hb dX8_truly_5 rfl (lv_at hl 1 rfl) ?_
  obtain ⟨r6, hr6, hf⟩ := bd_s hf
  refine my_Si (WS2 := (wd_X8_truly cy o_t (0 : Int32) x_delay x_feel x_turn x_sight x_ball x_w x_h x_n x_players x_wide x_tall x_hands x_power x_spin x_seed x_pressed x_leftFrom x_leftTo x_place x_points)) ⟨hx, hb, hml, hown, hts⟩ (c_X8_noTick l D cy t p1 hr6) (va_cwS 1 hts gX8_truly_X8_noTick rfl rfl rfl hd_X8_noTick ⟨Nat.le_of_ble_eq_true rfl, Nat.le_of_ble_eq_true rfl⟩) hK hE hP hD hS hA [] 12 rfl rfl (by decide +kernel) rfl rfl hl.1 rfl (Nat.le_of_ble_eq_true rfl) dX8_truly_6 ⟨Nat.le_of_ble_eq_true rfl, Nat.le_of_ble_eq_true rfl⟩ (fun H locs hP hD hS => ?_)
  refine lv_if_eq (tgt := 14) hx hb dX8_truly_9 (by decide) (fun c9 => ?_) (fun c9 => ?_)
  · have hf := ifp c9 hf
    refine lv_aload_n hx hb dX8_truly_14 rfl (lv_at hl 0 rfl) ?_
    refine lv_iload_n hx hb dX8_truly_15 rfl (lv_at hl 2 rfl) ?_
    refine lv_aload_n hx hb dX8_truly_16 rfl (lv_at hl 0 rfl) ?_
    refine va_get (D := D) (ci := 8) (v := .ref (o_t 4)) (C := RX8) (T := TX8) (N := 36) hx hb hts k1 hown hK hP 0 rfl rfl 3 (by decide) k2 (fun _ h9 => h9) rfl dX8_truly_17 ?_
    refine lv_iconst (v := (4 : Int32)) hx hb dX8_truly_20 (by decide) ?_
    obtain ⟨v21, b21, ev21, hf⟩ := rd_s hf
    refine my_iald hx hb hK hP 3 rfl b21 ev21 dX8_truly_21 ?_
    obtain ⟨r22, hr22, hf⟩ := bd_s hf
    refine my_Vi (WS2 := (wd_X8_truly cy o_t (0 : Int32) x_delay x_feel x_turn x_sight x_ball x_w x_h x_n x_players x_wide x_tall x_hands x_power x_spin x_seed x_pressed x_leftFrom x_leftTo x_place x_points)) ⟨hx, hb, hml, hown, hts⟩ (c_X8_noWhat l D cy t o_t (0 : Int32) x_delay x_feel x_turn x_sight x_ball x_w x_h x_n x_players p2 v21 hr22) (cwV 2 hts gX8_truly_X8_noWhat rfl rfl rfl ⟨rfl, hd_X8_noWhat⟩ ⟨Nat.le_of_ble_eq_true rfl, Nat.le_of_ble_eq_true rfl⟩) hK hE hP hD hS hA [0] 12 8 0 rfl rfl rfl rfl (by decide +kernel) rfl rfl hl.1 rfl (Nat.le_of_ble_eq_true rfl) dX8_truly_22 ⟨Nat.le_of_ble_eq_true rfl, Nat.le_of_ble_eq_true rfl⟩ (fun H locs hP hD hS => ?_)
    refine lv_if_eq (tgt := 31) hx hb dX8_truly_25 (by decide) (fun c25 => ?_) (fun c25 => ?_)
    · have hf := ifp c25 hf
      refine lv_aload_n hx hb dX8_truly_31 rfl (lv_at hl 0 rfl) ?_
      refine lv_iload_n hx hb dX8_truly_32 rfl (lv_at hl 1 rfl) ?_
      obtain ⟨r33, hr33, hf⟩ := bd_s hf
      refine my_Vv (WS2 := (wd_X8_truly cy o_t (0 : Int32) x_delay x_feel x_turn x_sight r33.1 r33.2.1 r33.2.2.1 r33.2.2.2.1 x_players x_wide x_tall x_hands x_power x_spin x_seed x_pressed x_leftFrom x_leftTo r33.2.2.2.2.1 r33.2.2.2.2.2)) ⟨hx, hb, hml, hown, hts⟩ (c_X8_liveNow l D cy t o_t (0 : Int32) x_delay x_feel x_turn x_sight x_ball x_w x_h x_n x_players x_wide x_tall x_hands x_power x_spin x_seed x_pressed x_leftFrom x_leftTo x_place x_points p1 hr33) (cwV 1 hts gX8_truly_X8_liveNow rfl rfl rfl ⟨rfl, hd_X8_liveNow⟩ ⟨Nat.le_of_ble_eq_true rfl, Nat.le_of_ble_eq_true rfl⟩) hK hE hP hD hS hA [0, 1, 2, 3, 4, 5, 6, 7, 8, 9, 10, 11] 12 8 0 rfl rfl rfl rfl (by decide +kernel) rfl rfl hl.1 rfl (Nat.le_of_ble_eq_true rfl) dX8_truly_33 ⟨Nat.le_of_ble_eq_true rfl, Nat.le_of_ble_eq_true rfl⟩ (fun H locs hP hD hS => ?_)
      refine lv_aload_n hx hb dX8_truly_36 rfl (lv_at hl 0 rfl) ?_
      refine lv_iload_n hx hb dX8_truly_37 rfl (lv_at hl 2 rfl) ?_
      obtain ⟨r38, hr38, hf⟩ := bd_s hf
      refine my_Vi (WS2 := (wd_X8_truly cy o_t (0 : Int32) x_delay x_feel x_turn x_sight r33.1 r33.2.1 r33.2.2.1 r33.2.2.2.1 x_players x_wide x_tall x_hands x_power x_spin x_seed x_pressed x_leftFrom x_leftTo r33.2.2.2.2.1 r33.2.2.2.2.2)) ⟨hx, hb, hml, hown, hts⟩ (c_X8_seen l D cy t o_t (0 : Int32) x_delay x_feel x_turn x_sight r33.1 r33.2.1 r33.2.2.1 r33.2.2.2.1 x_players r33.2.2.2.2.1 r33.2.2.2.2.2 p2 hr38) (cwV 1 hts gX8_truly_X8_seen rfl rfl rfl ⟨rfl, hd_X8_seen⟩ ⟨Nat.le_of_ble_eq_true rfl, Nat.le_of_ble_eq_true rfl⟩) hK hE hP hD hS hA [0, 10, 11] 12 8 0 rfl rfl rfl rfl (by decide +kernel) rfl rfl hl.1 rfl (Nat.le_of_ble_eq_true rfl) dX8_truly_38 ⟨Nat.le_of_ble_eq_true rfl, Nat.le_of_ble_eq_true rfl⟩ (fun H locs hP hD hS => ?_)
      obtain rfl := Option.some.inj hf
      exact hR _ _ _ _ hP hD hS dX8_truly_41
    · have hf := ifn c25 hf
      refine lv_bipush (v := (-2 : Int32)) hx hb dX8_truly_28 (by decide) ?_
      obtain rfl := Option.some.inj hf
      exact hR _ _ _ _ hP hD hS dX8_truly_30
  · have hf := ifn c9 hf
    refine lv_iconst (v := (-1 : Int32)) hx hb dX8_truly_12 (by decide) ?_
    obtain rfl := Option.some.inj hf
    exact hR _ _ _ _ hP hD hS dX8_truly_13
theorem hd_X8_truly : yX8_truly.cls ≠ "java/lang/invoke/MethodHandle" ∧ yX8_truly.cls ≠ "java/lang/invoke/VarHandle" ∧ (parseMethodDescriptor yX8_truly.desc).map (fun d => d.parameters.length) = some 2 := by decide +kernel
set_option maxRecDepth 100000 in
theorem c_X8_truly (l : Launch) (D : va_G) (cy : Nat → ClassId) (t : Nat → Nat) (o_t : Nat → Nat) (x_thrown : Int32) (x_delay : Int32) (x_feel : Int32) (x_turn : Int32) (x_sight : Int32) (x_ball : Int32) (x_w : Int32) (x_h : Int32) (x_n : Int32) (x_players : Int32) (x_wide : Nat → Int32) (x_tall : Nat → Int32) (x_hands : Nat → Int32) (x_power : Nat → Int32) (x_spin : Nat → Int32) (x_seed : Nat → Int32) (x_pressed : Nat → Int32) (x_leftFrom : Nat → Int32) (x_leftTo : Nat → Int32) (x_place : Nat → Int32) (x_points : Nat → Int32) (p1 : Int32) (p2 : Int32) {out : Int32 × Int32 × Int32 × Int32 × Int32 × Int32 × (Nat → Int32) × (Nat → Int32)} (hf : X8_truly x_wide x_tall x_hands x_power x_spin x_seed x_pressed x_leftFrom x_leftTo x_thrown x_ball x_w x_h x_n x_place x_points p1 p2 = some out) : ctI l yX8_truly wsX8_truly 7 172 D cy t [.ref (o_t 0), .int p1, .int p2] (wd_X8_truly cy o_t x_thrown x_delay x_feel x_turn x_sight x_ball x_w x_h x_n x_players x_wide x_tall x_hands x_power x_spin x_seed x_pressed x_leftFrom x_leftTo x_place x_points) (wd_X8_truly cy o_t out.2.1 x_delay x_feel x_turn x_sight out.2.2.1 out.2.2.2.1 out.2.2.2.2.1 out.2.2.2.2.2.1 x_players x_wide x_tall x_hands x_power x_spin x_seed x_pressed x_leftFrom x_leftTo out.2.2.2.2.2.2.1 out.2.2.2.2.2.2.2) out.1 := by
  refine ⟨rfl, ?_⟩
  intro sz
  refine Met.ofW (cc := cX8_truly) (maxL := 3) (ret := (some .int)) (by decide) rfl ?_
  intro p e s m args below meth c s₁ B hml hv
  obtain ⟨rfl, hsz, hP, hK, hD0, hE⟩ := hv
  have hts := atoms_spec (ws := wsX8_truly) B.pre
  have hown : s.vm.findClass RX8 = some m.cls := findClass_of_methodNamed B.named
  have hlocks := B.notSynchronized
  subst hsz
  have hD := hD0.self (sz := s.heap.size)
  have hl := lv_entry ([.ref (o_t 0), .int p1, .int p2]) (n := 3) (Nat.le_of_ble_eq_true rfl)
  rw [lg_entry_eq]
  generalize (lg_sl ([.ref (o_t 0), .int p1, .int p2]) ++ List.replicate (3 - (lg_sl ([.ref (o_t 0), .int p1, .int p2])).length) Slot.unset).toArray = ls at hl ⊢
  exact w_X8_truly D cy t o_t x_thrown x_delay x_feel x_turn x_sight x_ball x_w x_h x_n x_players x_wide x_tall x_hands x_power x_spin x_seed x_pressed x_leftFrom x_leftTo x_place x_points p1 p2 hf B.exec B.bytes hml hown hts hK hE (fun q h => Or.inr h) hP hD va_S.rf hl (fun H locs ls pc hP hD hS hdg => W.iret B.exec B.bytes B.returns (fun t ht hW => ⟨⟨_, (), rfl, rfl, ctB_of ht hP⟩, hS.F ht⟩) hS.2.2 hdg)

noncomputable def X8_machine (x_wide : Nat → Int32) (x_tall : Nat → Int32) (x_hands : Nat → Int32) (x_power : Nat → Int32) (x_spin : Nat → Int32) (x_seed : Nat → Int32) (x_pressed : Nat → Int32) (x_leftFrom : Nat → Int32) (x_leftTo : Nat → Int32) (x_thrown : Int32) (x_ball : Int32) (x_w : Int32) (x_h : Int32) (x_n : Int32) (x_place : Nat → Int32) (x_points : Nat → Int32) (p1 : Int32) (p2 : Int32) : Option (Int32 × Int32 × Int32 × Int32 × Int32 × Int32 × (Nat → Int32) × (Nat → Int32)) :=
  bd (X8_noHand x_hands p1) fun r7 => if r7 = (0 : Int32) then (bd (X8_noTick p2) fun r14 => if r14 = (0 : Int32) then (bd (X8_liveNow x_wide x_tall x_hands x_power x_spin x_seed x_pressed x_leftFrom x_leftTo x_ball x_w x_h x_n x_place x_points p2) fun r24 => bd (X8_thinks r24.1 r24.2.1 r24.2.2.1 r24.2.2.2.2.1 p1) fun r29 => some (r29, (0 : Int32), r24.1, r24.2.1, r24.2.2.1, r24.2.2.2.1, r24.2.2.2.2.1, r24.2.2.2.2.2)) else (some ((-1 : Int32), (0 : Int32), x_ball, x_w, x_h, x_n, x_place, x_points))) else (some ((-1 : Int32), (0 : Int32), x_ball, x_w, x_h, x_n, x_place, x_points))
abbrev wd_X8_machine (cy : Nat → ClassId) (o_t : Nat → Nat) (x_thrown : Int32) (x_delay : Int32) (x_feel : Int32) (x_turn : Int32) (x_sight : Int32) (x_ball : Int32) (x_w : Int32) (x_h : Int32) (x_n : Int32) (x_players : Int32) (x_wide : Nat → Int32) (x_tall : Nat → Int32) (x_hands : Nat → Int32) (x_power : Nat → Int32) (x_spin : Nat → Int32) (x_seed : Nat → Int32) (x_pressed : Nat → Int32) (x_leftFrom : Nat → Int32) (x_leftTo : Nat → Int32) (x_place : Nat → Int32) (x_points : Nat → Int32) : va_W := [(o_t 0, .inr (8, [.int x_thrown, .ref (o_t 2), .ref (o_t 3), .ref (o_t 4), .ref (o_t 5), .ref (o_t 6), .ref (o_t 7), .ref (o_t 8), .ref (o_t 9), .ref (o_t 10), .ref (o_t 11), .int x_delay, .int x_feel, .int x_turn, .int x_sight, .ref (o_t 16), .ref (o_t 17), .ref (o_t 18), .ref (o_t 19), .int x_ball, .int x_w, .int x_h, .int x_n, .ref (o_t 24), .ref (o_t 25), .ref (o_t 26), .ref (o_t 27), .ref (o_t 28), .ref (o_t 29), .int x_players, .ref (o_t 31), .ref (o_t 32), .ref (o_t 33), .ref (o_t 34), .ref (o_t 35), .ref (o_t 36)])), (o_t 2, .inl (cy 0, 5, .inl x_wide)), (o_t 3, .inl (cy 0, 5, .inl x_tall)), (o_t 4, .inl (cy 0, 5, .inl x_hands)), (o_t 5, .inl (cy 0, 5, .inl x_power)), (o_t 6, .inl (cy 0, 5, .inl x_spin)), (o_t 7, .inl (cy 0, 5, .inl x_seed)), (o_t 8, .inl (cy 0, 3000, .inl x_pressed)), (o_t 9, .inl (cy 0, 30, .inl x_leftFrom)), (o_t 10, .inl (cy 0, 30, .inl x_leftTo)), (o_t 18, .inl (cy 0, 6, .inl x_place)), (o_t 19, .inl (cy 0, 6, .inl x_points))]
set_option maxHeartbeats 4000000 in
set_option maxRecDepth 100000 in
theorem w_X8_machine {p : Program} {l : Launch} {e : Env} {s : State} {m : MethodId} {args : Array Value} {below : List Frame} {meth : Method} {c : Code} {Q : State → Prop} {A : Nat → Prop} {H : Heap} {locs : List Loc} {ls : Array Slot} (D : va_G) (cy : Nat → ClassId) (t : Nat → Nat) (o_t : Nat → Nat) (x_thrown : Int32) (x_delay : Int32) (x_feel : Int32) (x_turn : Int32) (x_sight : Int32) (x_ball : Int32) (x_w : Int32) (x_h : Int32) (x_n : Int32) (x_players : Int32) (x_wide : Nat → Int32) (x_tall : Nat → Int32) (x_hands : Nat → Int32) (x_power : Nat → Int32) (x_spin : Nat → Int32) (x_seed : Nat → Int32) (x_pressed : Nat → Int32) (x_leftFrom : Nat → Int32) (x_leftTo : Nat → Int32) (x_place : Nat → Int32) (x_points : Nat → Int32) (p1 : Int32) (p2 : Int32) {out : Int32 × Int32 × Int32 × Int32 × Int32 × Int32 × (Nat → Int32) × (Nat → Int32)} (hf : X8_machine x_wide x_tall x_hands x_power x_spin x_seed x_pressed x_leftFrom x_leftTo x_thrown x_ball x_w x_h x_n x_place x_points p1 p2 = some out) (hx : p.tables.exec = Jvm.exec) (hb : c.code = cX8_machine) (hml : c.maxLocals = 3) (hown : s.vm.findClass RX8 = some m.cls) (hts : ∀ w ∈ wsX8_machine, w.before args s = true) (hK : va_K D vwCl (TYS cy) s) (hE : EV t A s s.heap) (hA : ∀ q, s.heap.size ≤ q → A q) (hP : va_P D vwCl (wd_X8_machine cy o_t x_thrown x_delay x_feel x_turn x_sight x_ball x_w x_h x_n x_players x_wide x_tall x_hands x_power x_spin x_seed x_pressed x_leftFrom x_leftTo x_place x_points) H) (hD : va_D A (wd_X8_machine cy o_t x_thrown x_delay x_feel x_turn x_sight x_ball x_w x_h x_n x_players x_wide x_tall x_hands x_power x_spin x_seed x_pressed x_leftFrom x_leftTo x_place x_points)) (hS : va_S A s.heap H locs) (hl : lv_has ls 3 [(0, .ref (o_t 0)), (1, .int p1), (2, .int p2)]) (hR : ∀ (H : Heap) (locs : List Loc) (ls : Array Slot) (pc : Nat), va_P D vwCl (wd_X8_machine cy o_t out.2.1 x_delay x_feel x_turn x_sight out.2.2.1 out.2.2.2.1 out.2.2.2.2.1 out.2.2.2.2.2.1 x_players x_wide x_tall x_hands x_power x_spin x_seed x_pressed x_leftFrom x_leftTo out.2.2.2.2.2.2.1 out.2.2.2.2.2.2.2) H → va_D A (wd_X8_machine cy o_t out.2.1 x_delay x_feel x_turn x_sight out.2.2.1 out.2.2.2.1 out.2.2.2.2.1 out.2.2.2.2.2.1 x_players x_wide x_tall x_hands x_power x_spin x_seed x_pressed x_leftFrom x_leftTo out.2.2.2.2.2.2.1 out.2.2.2.2.2.2.2) → va_S A s.heap H locs → decode cX8_machine pc = .ok (.ireturn, 1) → W p l e (rmm 7 172) s m args below meth c H locs 0 0 Q (F0 m pc ls [.int out.1])) : W p l e (rmm 7 172) s m args below meth c H locs 0 0 Q (F0 m 0 ls []) := by
  have k0 := hts (.fieldLink RX8 100 "SeaGamesModel" "thrown" "I") (List.mem_cons_of_mem _ (List.mem_append_left _ (List.mem_append_left _ (List.mem_of_getElem? (i := 0) rfl))))
  have k1 : ∀ w ∈ u_ws RX8 TX8 36, w ∈ wsX8_machine := fun _ h => List.mem_cons_of_mem _ (List.mem_append_right _ h)
  rw [X8_machine] at hf
  refine lv_aload_n hx hb dX8_machine_0 rfl (lv_at hl 0 rfl) ?_
  refine lv_iconst (v := (0 : Int32)) hx hb dX8_machine_1 (by decide) ?_
  refine va_put (D := D) (ci := 8) (v := .int (0 : Int32)) (ty := .int) (C := RX8) (T := TX8) (N := 36) hx hb hts k1 tyX8 tyX8_ok nmX8 hown hK hP hD hS 0 rfl rfl 0 (by decide) k0 (fun _ h9 => h9) rfl (by decide +kernel) rfl rfl (Nat.le_of_ble_eq_true rfl) dX8_machine_2 (fun H locs hP hD hS => ?_)
  have hP : va_P D vwCl (wd_X8_machine cy o_t (0 : Int32) x_delay x_feel x_turn x_sight x_ball x_w x_h x_n x_players x_wide x_tall x_hands x_power x_spin x_seed x_pressed x_leftFrom x_leftTo x_place x_points) H := hP
  have hD : va_D A (wd_X8_machine cy o_t (0 : Int32) x_delay x_feel x_turn x_sight x_ball x_w x_h x_n x_players x_wide x_tall x_hands x_power x_spin x_seed x_pressed x_leftFrom x_leftTo x_place x_points) := hD
  refine lv_aload_n hx hb dX8_machine_5 rfl (lv_at hl 0 rfl) ?_
  refine lv_iload_n hx hb dX8_machine_6 rfl (lv_at hl 1 rfl) ?_
  obtain ⟨r7, hr7, hf⟩ := bd_s hf
  refine my_Vi (WS2 := (wd_X8_machine cy o_t (0 : Int32) x_delay x_feel x_turn x_sight x_ball x_w x_h x_n x_players x_wide x_tall x_hands x_power x_spin x_seed x_pressed x_leftFrom x_leftTo x_place x_points)) ⟨hx, hb, hml, hown, hts⟩ (c_X8_noHand l D cy t o_t (0 : Int32) x_delay x_feel x_turn x_sight x_ball x_w x_h x_n x_players x_hands p1 hr7) (cwV 1 hts gX8_machine_X8_noHand rfl rfl rfl ⟨rfl, hd_X8_noHand⟩ ⟨Nat.le_of_ble_eq_true rfl, Nat.le_of_ble_eq_true rfl⟩) hK hE hP hD hS hA [0, 3] 12 8 0 rfl rfl rfl rfl (by decide +kernel) rfl rfl hl.1 rfl (Nat.le_of_ble_eq_true rfl) dX8_machine_7 ⟨Nat.le_of_ble_eq_true rfl, Nat.le_of_ble_eq_true rfl⟩ (fun H locs hP hD hS => ?_)
  refine lv_if_ne (tgt := 20) hx hb dX8_machine_10 (by decide) (fun c10 => ?_) (fun c10 => ?_)
  · have hf := ifn c10 hf
    refine lv_iconst (v := (-1 : Int32)) hx hb dX8_machine_20 (by decide) ?_
    obtain rfl := Option.some.inj hf
    exact hR _ _ _ _ hP hD hS dX8_machine_21
  · have hf := ifp c10 hf
    refine lv_iload_n hx hb dX8_machine_13 rfl (lv_at hl 2 rfl) ?_
    obtain ⟨r14, hr14, hf⟩ := bd_s hf
    refine my_Si (WS2 := (wd_X8_machine cy o_t (0 : Int32) x_delay x_feel x_turn x_sight x_ball x_w x_h x_n x_players x_wide x_tall x_hands x_power x_spin x_seed x_pressed x_leftFrom x_leftTo x_place x_points)) ⟨hx, hb, hml, hown, hts⟩ (c_X8_noTick l D cy t p2 hr14) (va_cwS 1 hts gX8_machine_X8_noTick rfl rfl rfl hd_X8_noTick ⟨Nat.le_of_ble_eq_true rfl, Nat.le_of_ble_eq_true rfl⟩) hK hE hP hD hS hA [] 12 rfl rfl (by decide +kernel) rfl rfl hl.1 rfl (Nat.le_of_ble_eq_true rfl) dX8_machine_14 ⟨Nat.le_of_ble_eq_true rfl, Nat.le_of_ble_eq_true rfl⟩ (fun H locs hP hD hS => ?_)
    refine lv_if_eq (tgt := 22) hx hb dX8_machine_17 (by decide) (fun c17 => ?_) (fun c17 => ?_)
    · have hf := ifp c17 hf
      refine lv_aload_n hx hb dX8_machine_22 rfl (lv_at hl 0 rfl) ?_
      refine lv_iload_n hx hb dX8_machine_23 rfl (lv_at hl 2 rfl) ?_
      obtain ⟨r24, hr24, hf⟩ := bd_s hf
      refine my_Vv (WS2 := (wd_X8_machine cy o_t (0 : Int32) x_delay x_feel x_turn x_sight r24.1 r24.2.1 r24.2.2.1 r24.2.2.2.1 x_players x_wide x_tall x_hands x_power x_spin x_seed x_pressed x_leftFrom x_leftTo r24.2.2.2.2.1 r24.2.2.2.2.2)) ⟨hx, hb, hml, hown, hts⟩ (c_X8_liveNow l D cy t o_t (0 : Int32) x_delay x_feel x_turn x_sight x_ball x_w x_h x_n x_players x_wide x_tall x_hands x_power x_spin x_seed x_pressed x_leftFrom x_leftTo x_place x_points p2 hr24) (cwV 1 hts gX8_machine_X8_liveNow rfl rfl rfl ⟨rfl, hd_X8_liveNow⟩ ⟨Nat.le_of_ble_eq_true rfl, Nat.le_of_ble_eq_true rfl⟩) hK hE hP hD hS hA [0, 1, 2, 3, 4, 5, 6, 7, 8, 9, 10, 11] 12 8 0 rfl rfl rfl rfl (by decide +kernel) rfl rfl hl.1 rfl (Nat.le_of_ble_eq_true rfl) dX8_machine_24 ⟨Nat.le_of_ble_eq_true rfl, Nat.le_of_ble_eq_true rfl⟩ (fun H locs hP hD hS => ?_)
      refine lv_aload_n hx hb dX8_machine_27 rfl (lv_at hl 0 rfl) ?_
      refine lv_iload_n hx hb dX8_machine_28 rfl (lv_at hl 1 rfl) ?_
      obtain ⟨r29, hr29, hf⟩ := bd_s hf
      refine my_Vi (WS2 := (wd_X8_machine cy o_t (0 : Int32) x_delay x_feel x_turn x_sight r24.1 r24.2.1 r24.2.2.1 r24.2.2.2.1 x_players x_wide x_tall x_hands x_power x_spin x_seed x_pressed x_leftFrom x_leftTo r24.2.2.2.2.1 r24.2.2.2.2.2)) ⟨hx, hb, hml, hown, hts⟩ (c_X8_thinks l D cy t o_t (0 : Int32) x_delay x_feel x_turn x_sight r24.1 r24.2.1 r24.2.2.1 r24.2.2.2.1 x_players r24.2.2.2.2.1 p1 hr29) (cwV 1 hts gX8_machine_X8_thinks rfl rfl rfl ⟨rfl, hd_X8_thinks⟩ ⟨Nat.le_of_ble_eq_true rfl, Nat.le_of_ble_eq_true rfl⟩) hK hE hP hD hS hA [0, 10] 12 8 0 rfl rfl rfl rfl (by decide +kernel) rfl rfl hl.1 rfl (Nat.le_of_ble_eq_true rfl) dX8_machine_29 ⟨Nat.le_of_ble_eq_true rfl, Nat.le_of_ble_eq_true rfl⟩ (fun H locs hP hD hS => ?_)
      obtain rfl := Option.some.inj hf
      exact hR _ _ _ _ hP hD hS dX8_machine_32
    · have hf := ifn c17 hf
      refine lv_iconst (v := (-1 : Int32)) hx hb dX8_machine_20 (by decide) ?_
      obtain rfl := Option.some.inj hf
      exact hR _ _ _ _ hP hD hS dX8_machine_21
theorem hd_X8_machine : yX8_machine.cls ≠ "java/lang/invoke/MethodHandle" ∧ yX8_machine.cls ≠ "java/lang/invoke/VarHandle" ∧ (parseMethodDescriptor yX8_machine.desc).map (fun d => d.parameters.length) = some 2 := by decide +kernel
set_option maxRecDepth 100000 in
theorem c_X8_machine (l : Launch) (D : va_G) (cy : Nat → ClassId) (t : Nat → Nat) (o_t : Nat → Nat) (x_thrown : Int32) (x_delay : Int32) (x_feel : Int32) (x_turn : Int32) (x_sight : Int32) (x_ball : Int32) (x_w : Int32) (x_h : Int32) (x_n : Int32) (x_players : Int32) (x_wide : Nat → Int32) (x_tall : Nat → Int32) (x_hands : Nat → Int32) (x_power : Nat → Int32) (x_spin : Nat → Int32) (x_seed : Nat → Int32) (x_pressed : Nat → Int32) (x_leftFrom : Nat → Int32) (x_leftTo : Nat → Int32) (x_place : Nat → Int32) (x_points : Nat → Int32) (p1 : Int32) (p2 : Int32) {out : Int32 × Int32 × Int32 × Int32 × Int32 × Int32 × (Nat → Int32) × (Nat → Int32)} (hf : X8_machine x_wide x_tall x_hands x_power x_spin x_seed x_pressed x_leftFrom x_leftTo x_thrown x_ball x_w x_h x_n x_place x_points p1 p2 = some out) : ctI l yX8_machine wsX8_machine 7 172 D cy t [.ref (o_t 0), .int p1, .int p2] (wd_X8_machine cy o_t x_thrown x_delay x_feel x_turn x_sight x_ball x_w x_h x_n x_players x_wide x_tall x_hands x_power x_spin x_seed x_pressed x_leftFrom x_leftTo x_place x_points) (wd_X8_machine cy o_t out.2.1 x_delay x_feel x_turn x_sight out.2.2.1 out.2.2.2.1 out.2.2.2.2.1 out.2.2.2.2.2.1 x_players x_wide x_tall x_hands x_power x_spin x_seed x_pressed x_leftFrom x_leftTo out.2.2.2.2.2.2.1 out.2.2.2.2.2.2.2) out.1 := by
  refine ⟨rfl, ?_⟩
  intro sz
  refine Met.ofW (cc := cX8_machine) (maxL := 3) (ret := (some .int)) (by decide) rfl ?_
  intro p e s m args below meth c s₁ B hml hv
  obtain ⟨rfl, hsz, hP, hK, hD0, hE⟩ := hv
  have hts := atoms_spec (ws := wsX8_machine) B.pre
  have hown : s.vm.findClass RX8 = some m.cls := findClass_of_methodNamed B.named
  have hlocks := B.notSynchronized
  subst hsz
  have hD := hD0.self (sz := s.heap.size)
  have hl := lv_entry ([.ref (o_t 0), .int p1, .int p2]) (n := 3) (Nat.le_of_ble_eq_true rfl)
  rw [lg_entry_eq]
  generalize (lg_sl ([.ref (o_t 0), .int p1, .int p2]) ++ List.replicate (3 - (lg_sl ([.ref (o_t 0), .int p1, .int p2])).length) Slot.unset).toArray = ls at hl ⊢
  exact w_X8_machine D cy t o_t x_thrown x_delay x_feel x_turn x_sight x_ball x_w x_h x_n x_players x_wide x_tall x_hands x_power x_spin x_seed x_pressed x_leftFrom x_leftTo x_place x_points p1 p2 hf B.exec B.bytes hml hown hts hK hE (fun q h => Or.inr h) hP hD va_S.rf hl (fun H locs ls pc hP hD hS hdg => W.iret B.exec B.bytes B.returns (fun t ht hW => ⟨⟨_, (), rfl, rfl, ctB_of ht hP⟩, hS.F ht⟩) hS.2.2 hdg)

noncomputable def X8_line (x_hands : Nat → Int32) (x_thrown : Int32) (x_wait : Nat → Int32) (p1 : Int32) (p2 : Int32) (p3 : Int32) : Option (Int32 × Int32 × (Nat → Int32)) :=
  bd (X8_noHand x_hands p1) fun r7 => if r7 = (0 : Int32) then (bd (X8_noHand x_hands p2) fun r15 => if r15 = (0 : Int32) then (bd (X8_in (Int32.toInt64 p3) (0 : Int64) (9 : Int64)) fun r29 => if r29 = (0 : Int32) then (some ((-2 : Int32), (0 : Int32), x_wait)) else (if p1 = p2 then (some ((-3 : Int32), (0 : Int32), x_wait)) else (rd x_wait 36 (((6 : Int32) * p1) + p2) fun v56 => wrI x_wait 36 (((6 : Int32) * p1) + p2) p3 fun w70 => wrI w70 36 (((6 : Int32) * p2) + p1) p3 fun w82 => some (v56, (0 : Int32), w82)))) else (some ((-1 : Int32), (0 : Int32), x_wait))) else (some ((-1 : Int32), (0 : Int32), x_wait))
abbrev wd_X8_line (cy : Nat → ClassId) (o_t : Nat → Nat) (x_thrown : Int32) (x_delay : Int32) (x_feel : Int32) (x_turn : Int32) (x_sight : Int32) (x_ball : Int32) (x_w : Int32) (x_h : Int32) (x_n : Int32) (x_players : Int32) (x_hands : Nat → Int32) (x_wait : Nat → Int32) : va_W := [(o_t 0, .inr (8, [.int x_thrown, .ref (o_t 2), .ref (o_t 3), .ref (o_t 4), .ref (o_t 5), .ref (o_t 6), .ref (o_t 7), .ref (o_t 8), .ref (o_t 9), .ref (o_t 10), .ref (o_t 11), .int x_delay, .int x_feel, .int x_turn, .int x_sight, .ref (o_t 16), .ref (o_t 17), .ref (o_t 18), .ref (o_t 19), .int x_ball, .int x_w, .int x_h, .int x_n, .ref (o_t 24), .ref (o_t 25), .ref (o_t 26), .ref (o_t 27), .ref (o_t 28), .ref (o_t 29), .int x_players, .ref (o_t 31), .ref (o_t 32), .ref (o_t 33), .ref (o_t 34), .ref (o_t 35), .ref (o_t 36)])), (o_t 4, .inl (cy 0, 5, .inl x_hands)), (o_t 16, .inl (cy 0, 36, .inl x_wait))]
set_option maxHeartbeats 4000000 in
set_option maxRecDepth 100000 in
theorem w_X8_line {p : Program} {l : Launch} {e : Env} {s : State} {m : MethodId} {args : Array Value} {below : List Frame} {meth : Method} {c : Code} {Q : State → Prop} {A : Nat → Prop} {H : Heap} {locs : List Loc} {ls : Array Slot} (D : va_G) (cy : Nat → ClassId) (t : Nat → Nat) (o_t : Nat → Nat) (x_thrown : Int32) (x_delay : Int32) (x_feel : Int32) (x_turn : Int32) (x_sight : Int32) (x_ball : Int32) (x_w : Int32) (x_h : Int32) (x_n : Int32) (x_players : Int32) (x_hands : Nat → Int32) (x_wait : Nat → Int32) (p1 : Int32) (p2 : Int32) (p3 : Int32) {out : Int32 × Int32 × (Nat → Int32)} (hf : X8_line x_hands x_thrown x_wait p1 p2 p3 = some out) (hx : p.tables.exec = Jvm.exec) (hb : c.code = cX8_line) (hml : c.maxLocals = 5) (hown : s.vm.findClass RX8 = some m.cls) (hts : ∀ w ∈ wsX8_line, w.before args s = true) (hK : va_K D vwCl (TYS cy) s) (hE : EV t A s s.heap) (hA : ∀ q, s.heap.size ≤ q → A q) (hP : va_P D vwCl (wd_X8_line cy o_t x_thrown x_delay x_feel x_turn x_sight x_ball x_w x_h x_n x_players x_hands x_wait) H) (hD : va_D A (wd_X8_line cy o_t x_thrown x_delay x_feel x_turn x_sight x_ball x_w x_h x_n x_players x_hands x_wait)) (hS : va_S A s.heap H locs) (hl : lv_has ls 5 [(0, .ref (o_t 0)), (1, .int p1), (2, .int p2), (3, .int p3)]) (hR : ∀ (H : Heap) (locs : List Loc) (ls : Array Slot) (pc : Nat), va_P D vwCl (wd_X8_line cy o_t out.2.1 x_delay x_feel x_turn x_sight x_ball x_w x_h x_n x_players x_hands out.2.2) H → va_D A (wd_X8_line cy o_t out.2.1 x_delay x_feel x_turn x_sight x_ball x_w x_h x_n x_players x_hands out.2.2) → va_S A s.heap H locs → decode cX8_line pc = .ok (.ireturn, 1) → W p l e (rmm 2 46) s m args below meth c H locs 0 0 Q (F0 m pc ls [.int out.1])) : W p l e (rmm 2 46) s m args below meth c H locs 0 0 Q (F0 m 0 ls []) := by
  have k0 := hts (.fieldLink RX8 100 "SeaGamesModel" "thrown" "I") (List.mem_cons_of_mem _ (List.mem_append_left _ (List.mem_of_getElem? (i := 0) rfl)))
  have k1 : ∀ w ∈ u_ws RX8 TX8 36, w ∈ wsX8_line := fun _ h => List.mem_cons_of_mem _ (List.mem_append_right _ h)
  have k2 := hts (.constantLong RX8 111 (9)) (List.mem_cons_of_mem _ (List.mem_append_left _ (List.mem_of_getElem? (i := 1) rfl)))
  have k3 := hts (.fieldLink RX8 51 "SeaGamesModel" "wait" "[I") (List.mem_cons_of_mem _ (List.mem_append_left _ (List.mem_of_getElem? (i := 2) rfl)))
  rw [X8_line] at hf
  refine lv_aload_n hx hb dX8_line_0 rfl (lv_at hl 0 rfl) ?_
  refine lv_iconst (v := (0 : Int32)) hx hb dX8_line_1 (by decide) ?_
  refine va_put (D := D) (ci := 8) (v := .int (0 : Int32)) (ty := .int) (C := RX8) (T := TX8) (N := 36) hx hb hts k1 tyX8 tyX8_ok nmX8 hown hK hP hD hS 0 rfl rfl 0 (by decide) k0 (fun _ h9 => h9) rfl (by decide +kernel) rfl rfl (Nat.le_of_ble_eq_true rfl) dX8_line_2 (fun H locs hP hD hS => ?_)
  have hP : va_P D vwCl (wd_X8_line cy o_t (0 : Int32) x_delay x_feel x_turn x_sight x_ball x_w x_h x_n x_players x_hands x_wait) H := hP
  have hD : va_D A (wd_X8_line cy o_t (0 : Int32) x_delay x_feel x_turn x_sight x_ball x_w x_h x_n x_players x_hands x_wait) := hD
  refine lv_aload_n hx hb dX8_line_5 rfl (lv_at hl 0 rfl) ?_
  refine lv_iload_n hx hb dX8_line_6 rfl (lv_at hl 1 rfl) ?_
  obtain ⟨r7, hr7, hf⟩ := bd_s hf
  refine my_Vi (WS2 := (wd_X8_line cy o_t (0 : Int32) x_delay x_feel x_turn x_sight x_ball x_w x_h x_n x_players x_hands x_wait)) ⟨hx, hb, hml, hown, hts⟩ (c_X8_noHand l D cy t o_t (0 : Int32) x_delay x_feel x_turn x_sight x_ball x_w x_h x_n x_players x_hands p1 hr7) (cwV 1 hts gX8_line_X8_noHand rfl rfl rfl ⟨rfl, hd_X8_noHand⟩ ⟨Nat.le_of_ble_eq_true rfl, Nat.le_of_ble_eq_true rfl⟩) hK hE hP hD hS hA [0, 1] 3 8 0 rfl rfl rfl rfl (by decide +kernel) rfl rfl hl.1 rfl (Nat.le_of_ble_eq_true rfl) dX8_line_7 ⟨Nat.le_of_ble_eq_true rfl, Nat.le_of_ble_eq_true rfl⟩ (fun H locs hP hD hS => ?_)
  refine lv_if_ne (tgt := 21) hx hb dX8_line_10 (by decide) (fun c10 => ?_) (fun c10 => ?_)
  · have hf := ifn c10 hf
    refine lv_iconst (v := (-1 : Int32)) hx hb dX8_line_21 (by decide) ?_
    obtain rfl := Option.some.inj hf
    exact hR _ _ _ _ hP hD hS dX8_line_22
  · have hf := ifp c10 hf
    refine lv_aload_n hx hb dX8_line_13 rfl (lv_at hl 0 rfl) ?_
    refine lv_iload_n hx hb dX8_line_14 rfl (lv_at hl 2 rfl) ?_
    obtain ⟨r15, hr15, hf⟩ := bd_s hf
    refine my_Vi (WS2 := (wd_X8_line cy o_t (0 : Int32) x_delay x_feel x_turn x_sight x_ball x_w x_h x_n x_players x_hands x_wait)) ⟨hx, hb, hml, hown, hts⟩ (c_X8_noHand l D cy t o_t (0 : Int32) x_delay x_feel x_turn x_sight x_ball x_w x_h x_n x_players x_hands p2 hr15) (cwV 1 hts gX8_line_X8_noHand rfl rfl rfl ⟨rfl, hd_X8_noHand⟩ ⟨Nat.le_of_ble_eq_true rfl, Nat.le_of_ble_eq_true rfl⟩) hK hE hP hD hS hA [0, 1] 3 8 0 rfl rfl rfl rfl (by decide +kernel) rfl rfl hl.1 rfl (Nat.le_of_ble_eq_true rfl) dX8_line_15 ⟨Nat.le_of_ble_eq_true rfl, Nat.le_of_ble_eq_true rfl⟩ (fun H locs hP hD hS => ?_)
    refine lv_if_eq (tgt := 23) hx hb dX8_line_18 (by decide) (fun c18 => ?_) (fun c18 => ?_)
    · have hf := ifp c18 hf
      refine lv_iload_n hx hb dX8_line_23 rfl (lv_at hl 3 rfl) ?_
      refine lv_i2l (v := (Int32.toInt64 p3)) hx hb dX8_line_24 rfl ?_
      refine lv_lconst (v := (0 : Int64)) hx hb dX8_line_25 (by decide) ?_
      refine lv_ldc2 (v := (9 : Int64)) hx hb hown k2 dX8_line_26 ?_
      obtain ⟨r29, hr29, hf⟩ := bd_s hf
      refine my_Si (WS2 := (wd_X8_line cy o_t (0 : Int32) x_delay x_feel x_turn x_sight x_ball x_w x_h x_n x_players x_hands x_wait)) ⟨hx, hb, hml, hown, hts⟩ (c_X8_in l D cy t (Int32.toInt64 p3) (0 : Int64) (9 : Int64) hr29) (va_cwS 3 hts gX8_line_X8_in rfl rfl rfl hd_X8_in ⟨Nat.le_of_ble_eq_true rfl, Nat.le_of_ble_eq_true rfl⟩) hK hE hP hD hS hA [] 3 rfl rfl (by decide +kernel) rfl rfl hl.1 rfl (Nat.le_of_ble_eq_true rfl) dX8_line_29 ⟨Nat.le_of_ble_eq_true rfl, Nat.le_of_ble_eq_true rfl⟩ (fun H locs hP hD hS => ?_)
      refine lv_if_ne (tgt := 38) hx hb dX8_line_32 (by decide) (fun c32 => ?_) (fun c32 => ?_)
      · have hf := ifn c32 hf
        refine lv_iload_n hx hb dX8_line_38 rfl (lv_at hl 1 rfl) ?_
        refine lv_iload_n hx hb dX8_line_39 rfl (lv_at hl 2 rfl) ?_
        refine lv_icmp_ne (tgt := 46) hx hb dX8_line_40 (by decide) (fun c40 => ?_) (fun c40 => ?_)
        · have hf := ifn c40 hf
          refine lv_aload_n hx hb dX8_line_46 rfl (lv_at hl 0 rfl) ?_
          refine va_get (D := D) (ci := 8) (v := .ref (o_t 16)) (C := RX8) (T := TX8) (N := 36) hx hb hts k1 hown hK hP 0 rfl rfl 15 (by decide) k3 (fun _ h9 => h9) rfl dX8_line_47 ?_
          refine lv_bipush (v := (6 : Int32)) hx hb dX8_line_50 (by decide) ?_
          refine lv_iload_n hx hb dX8_line_52 rfl (lv_at hl 1 rfl) ?_
          refine lv_imul hx hb dX8_line_53 ?_
          refine lv_iload_n hx hb dX8_line_54 rfl (lv_at hl 2 rfl) ?_
          refine lv_iadd hx hb dX8_line_55 ?_
          obtain ⟨v56, b56, ev56, hf⟩ := rd_s hf
          refine my_iald hx hb hK hP 2 rfl b56 ev56 dX8_line_56 ?_
          refine lv_istore (lv' := [(4, .int v56), (0, .ref (o_t 0)), (1, .int p1), (2, .int p2), (3, .int p3)]) hx hb dX8_line_57 hl (by decide) rfl (fun ls hl => ?_)
          refine lv_aload_n hx hb dX8_line_59 rfl (lv_at hl 1 rfl) ?_
          refine va_get (D := D) (ci := 8) (v := .ref (o_t 16)) (C := RX8) (T := TX8) (N := 36) hx hb hts k1 hown hK hP 0 rfl rfl 15 (by decide) k3 (fun _ h9 => h9) rfl dX8_line_60 ?_
          refine lv_bipush (v := (6 : Int32)) hx hb dX8_line_63 (by decide) ?_
          refine lv_iload_n hx hb dX8_line_65 rfl (lv_at hl 2 rfl) ?_
          refine lv_imul hx hb dX8_line_66 ?_
          refine lv_iload_n hx hb dX8_line_67 rfl (lv_at hl 3 rfl) ?_
          refine lv_iadd hx hb dX8_line_68 ?_
          refine lv_iload_n hx hb dX8_line_69 rfl (lv_at hl 4 rfl) ?_
          obtain ⟨w70, b70, ew70, hf⟩ := wrI_s hf
          refine my_iast (ws2 := (wd_X8_line cy o_t (0 : Int32) x_delay x_feel x_turn x_sight x_ball x_w x_h x_n x_players x_hands w70)) hx hb hK hP hD hS 2 rfl b70 ew70 rfl dX8_line_70 (fun H locs hP hD hS => ?_)
          refine lv_aload_n hx hb dX8_line_71 rfl (lv_at hl 1 rfl) ?_
          refine va_get (D := D) (ci := 8) (v := .ref (o_t 16)) (C := RX8) (T := TX8) (N := 36) hx hb hts k1 hown hK hP 0 rfl rfl 15 (by decide) k3 (fun _ h9 => h9) rfl dX8_line_72 ?_
          refine lv_bipush (v := (6 : Int32)) hx hb dX8_line_75 (by decide) ?_
          refine lv_iload_n hx hb dX8_line_77 rfl (lv_at hl 3 rfl) ?_
          refine lv_imul hx hb dX8_line_78 ?_
          refine lv_iload_n hx hb dX8_line_79 rfl (lv_at hl 2 rfl) ?_
          refine lv_iadd hx hb dX8_line_80 ?_
          refine lv_iload_n hx hb dX8_line_81 rfl (lv_at hl 4 rfl) ?_
          obtain ⟨w82, b82, ew82, hf⟩ := wrI_s hf
          refine my_iast (ws2 := (wd_X8_line cy o_t (0 : Int32) x_delay x_feel x_turn x_sight x_ball x_w x_h x_n x_players x_hands w82)) hx hb hK hP hD hS 2 rfl b82 ew82 rfl dX8_line_82 (fun H locs hP hD hS => ?_)
          refine lv_iload hx hb dX8_line_83 (lv_at hl 0 rfl) ?_
          obtain rfl := Option.some.inj hf
          exact hR _ _ _ _ hP hD hS dX8_line_85
        · have hf := ifp c40 hf
          refine lv_bipush (v := (-3 : Int32)) hx hb dX8_line_43 (by decide) ?_
          obtain rfl := Option.some.inj hf
          exact hR _ _ _ _ hP hD hS dX8_line_45
      · have hf := ifp c32 hf
        refine lv_bipush (v := (-2 : Int32)) hx hb dX8_line_35 (by decide) ?_
        obtain rfl := Option.some.inj hf
        exact hR _ _ _ _ hP hD hS dX8_line_37
    · have hf := ifn c18 hf
      refine lv_iconst (v := (-1 : Int32)) hx hb dX8_line_21 (by decide) ?_
      obtain rfl := Option.some.inj hf
      exact hR _ _ _ _ hP hD hS dX8_line_22
theorem hd_X8_line : yX8_line.cls ≠ "java/lang/invoke/MethodHandle" ∧ yX8_line.cls ≠ "java/lang/invoke/VarHandle" ∧ (parseMethodDescriptor yX8_line.desc).map (fun d => d.parameters.length) = some 3 := by decide +kernel
set_option maxRecDepth 100000 in
theorem c_X8_line (l : Launch) (D : va_G) (cy : Nat → ClassId) (t : Nat → Nat) (o_t : Nat → Nat) (x_thrown : Int32) (x_delay : Int32) (x_feel : Int32) (x_turn : Int32) (x_sight : Int32) (x_ball : Int32) (x_w : Int32) (x_h : Int32) (x_n : Int32) (x_players : Int32) (x_hands : Nat → Int32) (x_wait : Nat → Int32) (p1 : Int32) (p2 : Int32) (p3 : Int32) {out : Int32 × Int32 × (Nat → Int32)} (hf : X8_line x_hands x_thrown x_wait p1 p2 p3 = some out) : ctI l yX8_line wsX8_line 2 46 D cy t [.ref (o_t 0), .int p1, .int p2, .int p3] (wd_X8_line cy o_t x_thrown x_delay x_feel x_turn x_sight x_ball x_w x_h x_n x_players x_hands x_wait) (wd_X8_line cy o_t out.2.1 x_delay x_feel x_turn x_sight x_ball x_w x_h x_n x_players x_hands out.2.2) out.1 := by
  refine ⟨rfl, ?_⟩
  intro sz
  refine Met.ofW (cc := cX8_line) (maxL := 5) (ret := (some .int)) (by decide) rfl ?_
  intro p e s m args below meth c s₁ B hml hv
  obtain ⟨rfl, hsz, hP, hK, hD0, hE⟩ := hv
  have hts := atoms_spec (ws := wsX8_line) B.pre
  have hown : s.vm.findClass RX8 = some m.cls := findClass_of_methodNamed B.named
  have hlocks := B.notSynchronized
  subst hsz
  have hD := hD0.self (sz := s.heap.size)
  have hl := lv_entry ([.ref (o_t 0), .int p1, .int p2, .int p3]) (n := 5) (Nat.le_of_ble_eq_true rfl)
  rw [lg_entry_eq]
  generalize (lg_sl ([.ref (o_t 0), .int p1, .int p2, .int p3]) ++ List.replicate (5 - (lg_sl ([.ref (o_t 0), .int p1, .int p2, .int p3])).length) Slot.unset).toArray = ls at hl ⊢
  exact w_X8_line D cy t o_t x_thrown x_delay x_feel x_turn x_sight x_ball x_w x_h x_n x_players x_hands x_wait p1 p2 p3 hf B.exec B.bytes hml hown hts hK hE (fun q h => Or.inr h) hP hD va_S.rf hl (fun H locs ls pc hP hD hS hdg => W.iret B.exec B.bytes B.returns (fun t ht hW => ⟨⟨_, (), rfl, rfl, ctB_of ht hP⟩, hS.F ht⟩) hS.2.2 hdg)

noncomputable def X8_lose_J41 (x_hands : Nat → Int32) (x_thrown : Int32) (x_isLost : Nat → Int32) (l1 : Int32) (l2 : Int32) (l3 : Int32) (s0 : Int32) : Option (Int32 × Int32 × (Nat → Int32)) :=
  wrZ x_isLost 600 (((100 : Int32) * l1) + l2) l3 fun w54 => some (s0, x_thrown, w54)
noncomputable def X8_lose (x_hands : Nat → Int32) (x_thrown : Int32) (x_isLost : Nat → Int32) (p1 : Int32) (p2 : Int32) (p3 : Int32) : Option (Int32 × Int32 × (Nat → Int32)) :=
  bd (X8_noHand x_hands p1) fun r7 => if r7 = (0 : Int32) then (bd (X8_noTick p2) fun r14 => if r14 = (0 : Int32) then (rd x_isLost 600 (((100 : Int32) * p1) + p2) fun v32 => if v32 = (0 : Int32) then (X8_lose_J41 x_hands  (0 : Int32) x_isLost p1 p2 p3 (0 : Int32)) else (X8_lose_J41 x_hands  (0 : Int32) x_isLost p1 p2 p3 (1 : Int32))) else (some ((-1 : Int32), (0 : Int32), x_isLost))) else (some ((-1 : Int32), (0 : Int32), x_isLost))
abbrev wd_X8_lose (cy : Nat → ClassId) (o_t : Nat → Nat) (x_thrown : Int32) (x_delay : Int32) (x_feel : Int32) (x_turn : Int32) (x_sight : Int32) (x_ball : Int32) (x_w : Int32) (x_h : Int32) (x_n : Int32) (x_players : Int32) (x_hands : Nat → Int32) (x_isLost : Nat → Int32) : va_W := [(o_t 0, .inr (8, [.int x_thrown, .ref (o_t 2), .ref (o_t 3), .ref (o_t 4), .ref (o_t 5), .ref (o_t 6), .ref (o_t 7), .ref (o_t 8), .ref (o_t 9), .ref (o_t 10), .ref (o_t 11), .int x_delay, .int x_feel, .int x_turn, .int x_sight, .ref (o_t 16), .ref (o_t 17), .ref (o_t 18), .ref (o_t 19), .int x_ball, .int x_w, .int x_h, .int x_n, .ref (o_t 24), .ref (o_t 25), .ref (o_t 26), .ref (o_t 27), .ref (o_t 28), .ref (o_t 29), .int x_players, .ref (o_t 31), .ref (o_t 32), .ref (o_t 33), .ref (o_t 34), .ref (o_t 35), .ref (o_t 36)])), (o_t 4, .inl (cy 0, 5, .inl x_hands)), (o_t 17, .inl (cy 1, 600, .inl x_isLost))]
set_option maxHeartbeats 4000000 in
set_option maxRecDepth 100000 in
theorem w_X8_lose {p : Program} {l : Launch} {e : Env} {s : State} {m : MethodId} {args : Array Value} {below : List Frame} {meth : Method} {c : Code} {Q : State → Prop} {A : Nat → Prop} {H : Heap} {locs : List Loc} {ls : Array Slot} (D : va_G) (cy : Nat → ClassId) (t : Nat → Nat) (o_t : Nat → Nat) (x_thrown : Int32) (x_delay : Int32) (x_feel : Int32) (x_turn : Int32) (x_sight : Int32) (x_ball : Int32) (x_w : Int32) (x_h : Int32) (x_n : Int32) (x_players : Int32) (x_hands : Nat → Int32) (x_isLost : Nat → Int32) (p1 : Int32) (p2 : Int32) (p3 : Int32) {out : Int32 × Int32 × (Nat → Int32)} (hf : X8_lose x_hands x_thrown x_isLost p1 p2 p3 = some out) (hx : p.tables.exec = Jvm.exec) (hb : c.code = cX8_lose) (hml : c.maxLocals = 5) (hown : s.vm.findClass RX8 = some m.cls) (hts : ∀ w ∈ wsX8_lose, w.before args s = true) (hK : va_K D vwCl (TYS cy) s) (hE : EV t A s s.heap) (hA : ∀ q, s.heap.size ≤ q → A q) (hP : va_P D vwCl (wd_X8_lose cy o_t x_thrown x_delay x_feel x_turn x_sight x_ball x_w x_h x_n x_players x_hands x_isLost) H) (hD : va_D A (wd_X8_lose cy o_t x_thrown x_delay x_feel x_turn x_sight x_ball x_w x_h x_n x_players x_hands x_isLost)) (hS : va_S A s.heap H locs) (hl : lv_has ls 5 [(0, .ref (o_t 0)), (1, .int p1), (2, .int p2), (3, .int p3)]) (hR : ∀ (H : Heap) (locs : List Loc) (ls : Array Slot) (pc : Nat), va_P D vwCl (wd_X8_lose cy o_t out.2.1 x_delay x_feel x_turn x_sight x_ball x_w x_h x_n x_players x_hands out.2.2) H → va_D A (wd_X8_lose cy o_t out.2.1 x_delay x_feel x_turn x_sight x_ball x_w x_h x_n x_players x_hands out.2.2) → va_S A s.heap H locs → decode cX8_lose pc = .ok (.ireturn, 1) → W p l e (rmm 2 46) s m args below meth c H locs 0 0 Q (F0 m pc ls [.int out.1])) : W p l e (rmm 2 46) s m args below meth c H locs 0 0 Q (F0 m 0 ls []) := by
  have k0 := hts (.fieldLink RX8 100 "SeaGamesModel" "thrown" "I") (List.mem_cons_of_mem _ (List.mem_append_left _ (List.mem_of_getElem? (i := 0) rfl)))
  have k1 : ∀ w ∈ u_ws RX8 TX8 36, w ∈ wsX8_lose := fun _ h => List.mem_cons_of_mem _ (List.mem_append_right _ h)
  have k2 := hts (.fieldLink RX8 54 "SeaGamesModel" "isLost" "[Z") (List.mem_cons_of_mem _ (List.mem_append_left _ (List.mem_of_getElem? (i := 1) rfl)))
  rw [X8_lose] at hf
  refine lv_aload_n hx hb dX8_lose_0 rfl (lv_at hl 0 rfl) ?_
  refine lv_iconst (v := (0 : Int32)) hx hb dX8_lose_1 (by decide) ?_
  refine va_put (D := D) (ci := 8) (v := .int (0 : Int32)) (ty := .int) (C := RX8) (T := TX8) (N := 36) hx hb hts k1 tyX8 tyX8_ok nmX8 hown hK hP hD hS 0 rfl rfl 0 (by decide) k0 (fun _ h9 => h9) rfl (by decide +kernel) rfl rfl (Nat.le_of_ble_eq_true rfl) dX8_lose_2 (fun H locs hP hD hS => ?_)
  have hP : va_P D vwCl (wd_X8_lose cy o_t (0 : Int32) x_delay x_feel x_turn x_sight x_ball x_w x_h x_n x_players x_hands x_isLost) H := hP
  have hD : va_D A (wd_X8_lose cy o_t (0 : Int32) x_delay x_feel x_turn x_sight x_ball x_w x_h x_n x_players x_hands x_isLost) := hD
  refine lv_aload_n hx hb dX8_lose_5 rfl (lv_at hl 0 rfl) ?_
  refine lv_iload_n hx hb dX8_lose_6 rfl (lv_at hl 1 rfl) ?_
  obtain ⟨r7, hr7, hf⟩ := bd_s hf
  refine my_Vi (WS2 := (wd_X8_lose cy o_t (0 : Int32) x_delay x_feel x_turn x_sight x_ball x_w x_h x_n x_players x_hands x_isLost)) ⟨hx, hb, hml, hown, hts⟩ (c_X8_noHand l D cy t o_t (0 : Int32) x_delay x_feel x_turn x_sight x_ball x_w x_h x_n x_players x_hands p1 hr7) (cwV 1 hts gX8_lose_X8_noHand rfl rfl rfl ⟨rfl, hd_X8_noHand⟩ ⟨Nat.le_of_ble_eq_true rfl, Nat.le_of_ble_eq_true rfl⟩) hK hE hP hD hS hA [0, 1] 3 8 0 rfl rfl rfl rfl (by decide +kernel) rfl rfl hl.1 rfl (Nat.le_of_ble_eq_true rfl) dX8_lose_7 ⟨Nat.le_of_ble_eq_true rfl, Nat.le_of_ble_eq_true rfl⟩ (fun H locs hP hD hS => ?_)
  refine lv_if_ne (tgt := 20) hx hb dX8_lose_10 (by decide) (fun c10 => ?_) (fun c10 => ?_)
  · have hf := ifn c10 hf
    refine lv_iconst (v := (-1 : Int32)) hx hb dX8_lose_20 (by decide) ?_
    obtain rfl := Option.some.inj hf
    exact hR _ _ _ _ hP hD hS dX8_lose_21
  · have hf := ifp c10 hf
    refine lv_iload_n hx hb dX8_lose_13 rfl (lv_at hl 2 rfl) ?_
    obtain ⟨r14, hr14, hf⟩ := bd_s hf
    refine my_Si (WS2 := (wd_X8_lose cy o_t (0 : Int32) x_delay x_feel x_turn x_sight x_ball x_w x_h x_n x_players x_hands x_isLost)) ⟨hx, hb, hml, hown, hts⟩ (c_X8_noTick l D cy t p2 hr14) (va_cwS 1 hts gX8_lose_X8_noTick rfl rfl rfl hd_X8_noTick ⟨Nat.le_of_ble_eq_true rfl, Nat.le_of_ble_eq_true rfl⟩) hK hE hP hD hS hA [] 3 rfl rfl (by decide +kernel) rfl rfl hl.1 rfl (Nat.le_of_ble_eq_true rfl) dX8_lose_14 ⟨Nat.le_of_ble_eq_true rfl, Nat.le_of_ble_eq_true rfl⟩ (fun H locs hP hD hS => ?_)
    refine lv_if_eq (tgt := 22) hx hb dX8_lose_17 (by decide) (fun c17 => ?_) (fun c17 => ?_)
    · have hf := ifp c17 hf
      have h41 : ∀ (x_thrown : Int32) (x_isLost : Nat → Int32) (l1 : Int32) (l2 : Int32) (l3 : Int32) (s0 : Int32) (H : Heap) (locs : List Loc) (ls : Array Slot), X8_lose_J41 x_hands x_thrown x_isLost l1 l2 l3 s0 = some out → va_P D vwCl (wd_X8_lose cy o_t x_thrown x_delay x_feel x_turn x_sight x_ball x_w x_h x_n x_players x_hands x_isLost) H → va_D A (wd_X8_lose cy o_t x_thrown x_delay x_feel x_turn x_sight x_ball x_w x_h x_n x_players x_hands x_isLost) → va_S A s.heap H locs → lv_has ls 5 [(0, .ref (o_t 0)), (1, .int l1), (2, .int l2), (3, .int l3)] → W p l e (rmm 2 46) s m args below meth c H locs 0 0 Q (F0 m 41 ls [.int s0]) := by
        intro x_thrown x_isLost l1 l2 l3 s0 H locs ls hf hP hD hS hl
        rw [X8_lose_J41] at hf
        refine lv_istore (lv' := [(4, .int s0), (0, .ref (o_t 0)), (1, .int l1), (2, .int l2), (3, .int l3)]) hx hb dX8_lose_41 hl (by decide) rfl (fun ls hl => ?_)
        refine lv_aload_n hx hb dX8_lose_43 rfl (lv_at hl 1 rfl) ?_
        refine va_get (D := D) (ci := 8) (v := .ref (o_t 17)) (C := RX8) (T := TX8) (N := 36) hx hb hts k1 hown hK hP 0 rfl rfl 16 (by decide) k2 (fun _ h9 => h9) rfl dX8_lose_44 ?_
        refine lv_bipush (v := (100 : Int32)) hx hb dX8_lose_47 (by decide) ?_
        refine lv_iload_n hx hb dX8_lose_49 rfl (lv_at hl 2 rfl) ?_
        refine lv_imul hx hb dX8_lose_50 ?_
        refine lv_iload_n hx hb dX8_lose_51 rfl (lv_at hl 3 rfl) ?_
        refine lv_iadd hx hb dX8_lose_52 ?_
        refine lv_iload_n hx hb dX8_lose_53 rfl (lv_at hl 4 rfl) ?_
        obtain ⟨w54, b54, ew54, hf⟩ := wrZ_s hf
        refine my_zast (ws2 := (wd_X8_lose cy o_t x_thrown x_delay x_feel x_turn x_sight x_ball x_w x_h x_n x_players x_hands w54)) hx hb hK hP hD hS 2 rfl b54 ew54 rfl dX8_lose_54 (fun H locs hP hD hS => ?_)
        refine lv_iload hx hb dX8_lose_55 (lv_at hl 0 rfl) ?_
        obtain rfl := Option.some.inj hf
        exact hR _ _ _ _ hP hD hS dX8_lose_57
      refine lv_aload_n hx hb dX8_lose_22 rfl (lv_at hl 0 rfl) ?_
      refine va_get (D := D) (ci := 8) (v := .ref (o_t 17)) (C := RX8) (T := TX8) (N := 36) hx hb hts k1 hown hK hP 0 rfl rfl 16 (by decide) k2 (fun _ h9 => h9) rfl dX8_lose_23 ?_
      refine lv_bipush (v := (100 : Int32)) hx hb dX8_lose_26 (by decide) ?_
      refine lv_iload_n hx hb dX8_lose_28 rfl (lv_at hl 1 rfl) ?_
      refine lv_imul hx hb dX8_lose_29 ?_
      refine lv_iload_n hx hb dX8_lose_30 rfl (lv_at hl 2 rfl) ?_
      refine lv_iadd hx hb dX8_lose_31 ?_
      obtain ⟨v32, b32, ev32, hf⟩ := rd_s hf
      refine my_zald hx hb hK hP 2 rfl b32 ev32 dX8_lose_32 ?_
      refine lv_if_eq (tgt := 40) hx hb dX8_lose_33 (by decide) (fun c33 => ?_) (fun c33 => ?_)
      · have hf := ifp c33 hf
        refine lv_iconst (v := (0 : Int32)) hx hb dX8_lose_40 (by decide) ?_
        exact h41 _ _ _ _ _ _ _ _ _ hf hP hD hS (lv_sub hl [0, 1, 2, 3] rfl)
      · have hf := ifn c33 hf
        refine lv_iconst (v := (1 : Int32)) hx hb dX8_lose_36 (by decide) ?_
        refine lv_goto (tgt := 41) hx hb dX8_lose_37 (by decide) ?_
        exact h41 _ _ _ _ _ _ _ _ _ hf hP hD hS (lv_sub hl [0, 1, 2, 3] rfl)
    · have hf := ifn c17 hf
      refine lv_iconst (v := (-1 : Int32)) hx hb dX8_lose_20 (by decide) ?_
      obtain rfl := Option.some.inj hf
      exact hR _ _ _ _ hP hD hS dX8_lose_21
theorem hd_X8_lose : yX8_lose.cls ≠ "java/lang/invoke/MethodHandle" ∧ yX8_lose.cls ≠ "java/lang/invoke/VarHandle" ∧ (parseMethodDescriptor yX8_lose.desc).map (fun d => d.parameters.length) = some 3 := by decide +kernel
set_option maxRecDepth 100000 in
theorem c_X8_lose (l : Launch) (D : va_G) (cy : Nat → ClassId) (t : Nat → Nat) (o_t : Nat → Nat) (x_thrown : Int32) (x_delay : Int32) (x_feel : Int32) (x_turn : Int32) (x_sight : Int32) (x_ball : Int32) (x_w : Int32) (x_h : Int32) (x_n : Int32) (x_players : Int32) (x_hands : Nat → Int32) (x_isLost : Nat → Int32) (p1 : Int32) (p2 : Int32) (p3 : Int32) {out : Int32 × Int32 × (Nat → Int32)} (hf : X8_lose x_hands x_thrown x_isLost p1 p2 p3 = some out) : ctI l yX8_lose wsX8_lose 2 46 D cy t [.ref (o_t 0), .int p1, .int p2, .int p3] (wd_X8_lose cy o_t x_thrown x_delay x_feel x_turn x_sight x_ball x_w x_h x_n x_players x_hands x_isLost) (wd_X8_lose cy o_t out.2.1 x_delay x_feel x_turn x_sight x_ball x_w x_h x_n x_players x_hands out.2.2) out.1 := by
  refine ⟨rfl, ?_⟩
  intro sz
  refine Met.ofW (cc := cX8_lose) (maxL := 5) (ret := (some .int)) (by decide) rfl ?_
  intro p e s m args below meth c s₁ B hml hv
  obtain ⟨rfl, hsz, hP, hK, hD0, hE⟩ := hv
  have hts := atoms_spec (ws := wsX8_lose) B.pre
  have hown : s.vm.findClass RX8 = some m.cls := findClass_of_methodNamed B.named
  have hlocks := B.notSynchronized
  subst hsz
  have hD := hD0.self (sz := s.heap.size)
  have hl := lv_entry ([.ref (o_t 0), .int p1, .int p2, .int p3]) (n := 5) (Nat.le_of_ble_eq_true rfl)
  rw [lg_entry_eq]
  generalize (lg_sl ([.ref (o_t 0), .int p1, .int p2, .int p3]) ++ List.replicate (5 - (lg_sl ([.ref (o_t 0), .int p1, .int p2, .int p3])).length) Slot.unset).toArray = ls at hl ⊢
  exact w_X8_lose D cy t o_t x_thrown x_delay x_feel x_turn x_sight x_ball x_w x_h x_n x_players x_hands x_isLost p1 p2 p3 hf B.exec B.bytes hml hown hts hK hE (fun q h => Or.inr h) hP hD va_S.rf hl (fun H locs ls pc hP hD hS hdg => W.iret B.exec B.bytes B.returns (fun t ht hW => ⟨⟨_, (), rfl, rfl, ctB_of ht hP⟩, hS.F ht⟩) hS.2.2 hdg)

noncomputable def X8_knownAt_J64 (x_leftFrom : Nat → Int32) (x_leftTo : Nat → Int32) (x_wait : Nat → Int32) (x_isLost : Nat → Int32) (s0 : Int32) (s1 : Int32) : Option (Int32) :=
  some (s0 + s1)
noncomputable def X8_knownAt (x_leftFrom : Nat → Int32) (x_leftTo : Nat → Int32) (x_wait : Nat → Int32) (x_isLost : Nat → Int32) (p1 : Int32) (p2 : Int32) (p3 : Int32) (p4 : Int32) : Option (Int32) :=
  bd (X8_isLeft x_leftFrom x_leftTo (4 : Int32) p2 p3) fun r4 => if r4 = (0 : Int32) then (rd x_wait 36 (((6 : Int32) * p1) + p2) fun v23 => if p1 = p2 then (X8_knownAt_J64 x_leftFrom x_leftTo x_wait x_isLost   (p3 - p4) (0 : Int32)) else (rd x_isLost 600 (((100 : Int32) * p2) + p3) fun v49 => if v49 = (0 : Int32) then (X8_knownAt_J64 x_leftFrom x_leftTo x_wait x_isLost   (p3 - p4) v23) else (X8_knownAt_J64 x_leftFrom x_leftTo x_wait x_isLost   (p3 - p4) (((3 : Int32) * v23) + (1 : Int32))))) else (some (-1000000000 : Int32))
abbrev wd_X8_knownAt (cy : Nat → ClassId) (o_t : Nat → Nat) (x_thrown : Int32) (x_delay : Int32) (x_feel : Int32) (x_turn : Int32) (x_sight : Int32) (x_ball : Int32) (x_w : Int32) (x_h : Int32) (x_n : Int32) (x_players : Int32) (x_leftFrom : Nat → Int32) (x_leftTo : Nat → Int32) (x_wait : Nat → Int32) (x_isLost : Nat → Int32) : va_W := [(o_t 0, .inr (8, [.int x_thrown, .ref (o_t 2), .ref (o_t 3), .ref (o_t 4), .ref (o_t 5), .ref (o_t 6), .ref (o_t 7), .ref (o_t 8), .ref (o_t 9), .ref (o_t 10), .ref (o_t 11), .int x_delay, .int x_feel, .int x_turn, .int x_sight, .ref (o_t 16), .ref (o_t 17), .ref (o_t 18), .ref (o_t 19), .int x_ball, .int x_w, .int x_h, .int x_n, .ref (o_t 24), .ref (o_t 25), .ref (o_t 26), .ref (o_t 27), .ref (o_t 28), .ref (o_t 29), .int x_players, .ref (o_t 31), .ref (o_t 32), .ref (o_t 33), .ref (o_t 34), .ref (o_t 35), .ref (o_t 36)])), (o_t 9, .inl (cy 0, 30, .inl x_leftFrom)), (o_t 10, .inl (cy 0, 30, .inl x_leftTo)), (o_t 16, .inl (cy 0, 36, .inl x_wait)), (o_t 17, .inl (cy 1, 600, .inl x_isLost))]
set_option maxHeartbeats 4000000 in
set_option maxRecDepth 100000 in
theorem w_X8_knownAt {p : Program} {l : Launch} {e : Env} {s : State} {m : MethodId} {args : Array Value} {below : List Frame} {meth : Method} {c : Code} {Q : State → Prop} {A : Nat → Prop} {H : Heap} {locs : List Loc} {ls : Array Slot} (D : va_G) (cy : Nat → ClassId) (t : Nat → Nat) (o_t : Nat → Nat) (x_thrown : Int32) (x_delay : Int32) (x_feel : Int32) (x_turn : Int32) (x_sight : Int32) (x_ball : Int32) (x_w : Int32) (x_h : Int32) (x_n : Int32) (x_players : Int32) (x_leftFrom : Nat → Int32) (x_leftTo : Nat → Int32) (x_wait : Nat → Int32) (x_isLost : Nat → Int32) (p1 : Int32) (p2 : Int32) (p3 : Int32) (p4 : Int32) {out : Int32} (hf : X8_knownAt x_leftFrom x_leftTo x_wait x_isLost p1 p2 p3 p4 = some out) (hx : p.tables.exec = Jvm.exec) (hb : c.code = cX8_knownAt) (hml : c.maxLocals = 6) (hown : s.vm.findClass RX8 = some m.cls) (hts : ∀ w ∈ wsX8_knownAt, w.before args s = true) (hK : va_K D vwCl (TYS cy) s) (hE : EV t A s s.heap) (hA : ∀ q, s.heap.size ≤ q → A q) (hP : va_P D vwCl (wd_X8_knownAt cy o_t x_thrown x_delay x_feel x_turn x_sight x_ball x_w x_h x_n x_players x_leftFrom x_leftTo x_wait x_isLost) H) (hD : va_D A (wd_X8_knownAt cy o_t x_thrown x_delay x_feel x_turn x_sight x_ball x_w x_h x_n x_players x_leftFrom x_leftTo x_wait x_isLost)) (hS : va_S A s.heap H locs) (hl : lv_has ls 6 [(0, .ref (o_t 0)), (1, .int p1), (2, .int p2), (3, .int p3), (4, .int p4)]) (hR : ∀ (H : Heap) (locs : List Loc) (ls : Array Slot) (pc : Nat), va_P D vwCl (wd_X8_knownAt cy o_t x_thrown x_delay x_feel x_turn x_sight x_ball x_w x_h x_n x_players x_leftFrom x_leftTo x_wait x_isLost) H → va_D A (wd_X8_knownAt cy o_t x_thrown x_delay x_feel x_turn x_sight x_ball x_w x_h x_n x_players x_leftFrom x_leftTo x_wait x_isLost) → va_S A s.heap H locs → decode cX8_knownAt pc = .ok (.ireturn, 1) → W p l e (rmm 1 23) s m args below meth c H locs 0 0 Q (F0 m pc ls [.int out])) : W p l e (rmm 1 23) s m args below meth c H locs 0 0 Q (F0 m 0 ls []) := by
  have k0 := hts (.fieldLink RX8 51 "SeaGamesModel" "wait" "[I") (List.mem_cons_of_mem _ (List.mem_append_left _ (List.mem_of_getElem? (i := 1) rfl)))
  have k1 : ∀ w ∈ u_ws RX8 TX8 36, w ∈ wsX8_knownAt := fun _ h => List.mem_cons_of_mem _ (List.mem_append_right _ h)
  have k2 := hts (.fieldLink RX8 54 "SeaGamesModel" "isLost" "[Z") (List.mem_cons_of_mem _ (List.mem_append_left _ (List.mem_of_getElem? (i := 2) rfl)))
  have k3 := hts (.constant RX8 192 (-1000000000)) (List.mem_cons_of_mem _ (List.mem_append_left _ (List.mem_of_getElem? (i := 0) rfl)))
  rw [X8_knownAt] at hf
  refine lv_aload_n hx hb dX8_knownAt_0 rfl (lv_at hl 0 rfl) ?_
  refine lv_iconst (v := (4 : Int32)) hx hb dX8_knownAt_1 (by decide) ?_
  refine lv_iload_n hx hb dX8_knownAt_2 rfl (lv_at hl 2 rfl) ?_
  refine lv_iload_n hx hb dX8_knownAt_3 rfl (lv_at hl 3 rfl) ?_
  obtain ⟨r4, hr4, hf⟩ := bd_s hf
  refine my_Vi (WS2 := (wd_X8_knownAt cy o_t x_thrown x_delay x_feel x_turn x_sight x_ball x_w x_h x_n x_players x_leftFrom x_leftTo x_wait x_isLost)) ⟨hx, hb, hml, hown, hts⟩ (c_X8_isLeft l D cy t o_t x_thrown x_delay x_feel x_turn x_sight x_ball x_w x_h x_n x_players x_leftFrom x_leftTo (4 : Int32) p2 p3 hr4) (cwV 3 hts gX8_knownAt_X8_isLeft rfl rfl rfl ⟨rfl, hd_X8_isLeft⟩ ⟨Nat.le_of_ble_eq_true rfl, Nat.le_of_ble_eq_true rfl⟩) hK hE hP hD hS hA [0, 1, 2] 5 8 0 rfl rfl rfl rfl (by decide +kernel) rfl rfl hl.1 rfl (Nat.le_of_ble_eq_true rfl) dX8_knownAt_4 ⟨Nat.le_of_ble_eq_true rfl, Nat.le_of_ble_eq_true rfl⟩ (fun H locs hP hD hS => ?_)
  refine lv_if_eq (tgt := 13) hx hb dX8_knownAt_7 (by decide) (fun c7 => ?_) (fun c7 => ?_)
  · have hf := ifp c7 hf
    have h64 : ∀ (s0 : Int32) (s1 : Int32) (H : Heap) (locs : List Loc) (ls : Array Slot), X8_knownAt_J64 x_leftFrom x_leftTo x_wait x_isLost s0 s1 = some out → va_P D vwCl (wd_X8_knownAt cy o_t x_thrown x_delay x_feel x_turn x_sight x_ball x_w x_h x_n x_players x_leftFrom x_leftTo x_wait x_isLost) H → va_D A (wd_X8_knownAt cy o_t x_thrown x_delay x_feel x_turn x_sight x_ball x_w x_h x_n x_players x_leftFrom x_leftTo x_wait x_isLost) → va_S A s.heap H locs → lv_has ls 6 [] → W p l e (rmm 1 23) s m args below meth c H locs 0 0 Q (F0 m 64 ls [.int s1, .int s0]) := by
      intro s0 s1 H locs ls hf hP hD hS hl
      rw [X8_knownAt_J64] at hf
      refine lv_iadd hx hb dX8_knownAt_64 ?_
      obtain rfl := Option.some.inj hf
      exact hR _ _ _ _ hP hD hS dX8_knownAt_65
    refine lv_aload_n hx hb dX8_knownAt_13 rfl (lv_at hl 0 rfl) ?_
    refine va_get (D := D) (ci := 8) (v := .ref (o_t 16)) (C := RX8) (T := TX8) (N := 36) hx hb hts k1 hown hK hP 0 rfl rfl 15 (by decide) k0 (fun _ h9 => h9) rfl dX8_knownAt_14 ?_
    refine lv_bipush (v := (6 : Int32)) hx hb dX8_knownAt_17 (by decide) ?_
    refine lv_iload_n hx hb dX8_knownAt_19 rfl (lv_at hl 1 rfl) ?_
    refine lv_imul hx hb dX8_knownAt_20 ?_
    refine lv_iload_n hx hb dX8_knownAt_21 rfl (lv_at hl 2 rfl) ?_
    refine lv_iadd hx hb dX8_knownAt_22 ?_
    obtain ⟨v23, b23, ev23, hf⟩ := rd_s hf
    refine my_iald hx hb hK hP 3 rfl b23 ev23 dX8_knownAt_23 ?_
    refine lv_istore (lv' := [(5, .int v23), (0, .ref (o_t 0)), (1, .int p1), (2, .int p2), (3, .int p3), (4, .int p4)]) hx hb dX8_knownAt_24 hl (by decide) rfl (fun ls hl => ?_)
    refine lv_iload_n hx hb dX8_knownAt_26 rfl (lv_at hl 4 rfl) ?_
    refine lv_iload hx hb dX8_knownAt_27 (lv_at hl 5 rfl) ?_
    refine lv_isub hx hb dX8_knownAt_29 ?_
    refine lv_iload_n hx hb dX8_knownAt_30 rfl (lv_at hl 2 rfl) ?_
    refine lv_iload_n hx hb dX8_knownAt_31 rfl (lv_at hl 3 rfl) ?_
    refine lv_icmp_ne (tgt := 39) hx hb dX8_knownAt_32 (by decide) (fun c32 => ?_) (fun c32 => ?_)
    · have hf := ifn c32 hf
      refine lv_aload_n hx hb dX8_knownAt_39 rfl (lv_at hl 1 rfl) ?_
      refine va_get (D := D) (ci := 8) (v := .ref (o_t 17)) (C := RX8) (T := TX8) (N := 36) hx hb hts k1 hown hK hP 0 rfl rfl 16 (by decide) k2 (fun _ h9 => h9) rfl dX8_knownAt_40 ?_
      refine lv_bipush (v := (100 : Int32)) hx hb dX8_knownAt_43 (by decide) ?_
      refine lv_iload_n hx hb dX8_knownAt_45 rfl (lv_at hl 3 rfl) ?_
      refine lv_imul hx hb dX8_knownAt_46 ?_
      refine lv_iload_n hx hb dX8_knownAt_47 rfl (lv_at hl 4 rfl) ?_
      refine lv_iadd hx hb dX8_knownAt_48 ?_
      obtain ⟨v49, b49, ev49, hf⟩ := rd_s hf
      refine my_zald hx hb hK hP 4 rfl b49 ev49 dX8_knownAt_49 ?_
      refine lv_if_eq (tgt := 62) hx hb dX8_knownAt_50 (by decide) (fun c50 => ?_) (fun c50 => ?_)
      · have hf := ifp c50 hf
        refine lv_iload hx hb dX8_knownAt_62 (lv_at hl 0 rfl) ?_
        exact h64 _ _ _ _ _ hf hP hD hS (lv_sub hl [] rfl)
      · have hf := ifn c50 hf
        refine lv_iconst (v := (3 : Int32)) hx hb dX8_knownAt_53 (by decide) ?_
        refine lv_iload hx hb dX8_knownAt_54 (lv_at hl 0 rfl) ?_
        refine lv_imul hx hb dX8_knownAt_56 ?_
        refine lv_iconst (v := (1 : Int32)) hx hb dX8_knownAt_57 (by decide) ?_
        refine lv_iadd hx hb dX8_knownAt_58 ?_
        refine lv_goto (tgt := 64) hx hb dX8_knownAt_59 (by decide) ?_
        exact h64 _ _ _ _ _ hf hP hD hS (lv_sub hl [] rfl)
    · have hf := ifp c32 hf
      refine lv_iconst (v := (0 : Int32)) hx hb dX8_knownAt_35 (by decide) ?_
      refine lv_goto (tgt := 64) hx hb dX8_knownAt_36 (by decide) ?_
      exact h64 _ _ _ _ _ hf hP hD hS (lv_sub hl [] rfl)
  · have hf := ifn c7 hf
    refine lv_ldc (v := (-1000000000 : Int32)) hx hb hown k3 dX8_knownAt_10 ?_
    obtain rfl := Option.some.inj hf
    exact hR _ _ _ _ hP hD hS dX8_knownAt_12
theorem hd_X8_knownAt : yX8_knownAt.cls ≠ "java/lang/invoke/MethodHandle" ∧ yX8_knownAt.cls ≠ "java/lang/invoke/VarHandle" ∧ (parseMethodDescriptor yX8_knownAt.desc).map (fun d => d.parameters.length) = some 4 := by decide +kernel
set_option maxRecDepth 100000 in
theorem c_X8_knownAt (l : Launch) (D : va_G) (cy : Nat → ClassId) (t : Nat → Nat) (o_t : Nat → Nat) (x_thrown : Int32) (x_delay : Int32) (x_feel : Int32) (x_turn : Int32) (x_sight : Int32) (x_ball : Int32) (x_w : Int32) (x_h : Int32) (x_n : Int32) (x_players : Int32) (x_leftFrom : Nat → Int32) (x_leftTo : Nat → Int32) (x_wait : Nat → Int32) (x_isLost : Nat → Int32) (p1 : Int32) (p2 : Int32) (p3 : Int32) (p4 : Int32) {out : Int32} (hf : X8_knownAt x_leftFrom x_leftTo x_wait x_isLost p1 p2 p3 p4 = some out) : ctI l yX8_knownAt wsX8_knownAt 1 23 D cy t [.ref (o_t 0), .int p1, .int p2, .int p3, .int p4] (wd_X8_knownAt cy o_t x_thrown x_delay x_feel x_turn x_sight x_ball x_w x_h x_n x_players x_leftFrom x_leftTo x_wait x_isLost) (wd_X8_knownAt cy o_t x_thrown x_delay x_feel x_turn x_sight x_ball x_w x_h x_n x_players x_leftFrom x_leftTo x_wait x_isLost) out := by
  refine ⟨rfl, ?_⟩
  intro sz
  refine Met.ofW (cc := cX8_knownAt) (maxL := 6) (ret := (some .int)) (by decide) rfl ?_
  intro p e s m args below meth c s₁ B hml hv
  obtain ⟨rfl, hsz, hP, hK, hD0, hE⟩ := hv
  have hts := atoms_spec (ws := wsX8_knownAt) B.pre
  have hown : s.vm.findClass RX8 = some m.cls := findClass_of_methodNamed B.named
  have hlocks := B.notSynchronized
  subst hsz
  have hD := hD0.self (sz := s.heap.size)
  have hl := lv_entry ([.ref (o_t 0), .int p1, .int p2, .int p3, .int p4]) (n := 6) (Nat.le_of_ble_eq_true rfl)
  rw [lg_entry_eq]
  generalize (lg_sl ([.ref (o_t 0), .int p1, .int p2, .int p3, .int p4]) ++ List.replicate (6 - (lg_sl ([.ref (o_t 0), .int p1, .int p2, .int p3, .int p4])).length) Slot.unset).toArray = ls at hl ⊢
  exact w_X8_knownAt D cy t o_t x_thrown x_delay x_feel x_turn x_sight x_ball x_w x_h x_n x_players x_leftFrom x_leftTo x_wait x_isLost p1 p2 p3 p4 hf B.exec B.bytes hml hown hts hK hE (fun q h => Or.inr h) hP hD va_S.rf hl (fun H locs ls pc hP hD hS hdg => W.iret B.exec B.bytes B.returns (fun t ht hW => ⟨⟨_, (), rfl, rfl, ctB_of ht hP⟩, hS.F ht⟩) hS.2.2 hdg)

noncomputable def X8_known (x_delay : Int32) (x_hands : Nat → Int32) (x_leftFrom : Nat → Int32) (x_leftTo : Nat → Int32) (x_wait : Nat → Int32) (x_isLost : Nat → Int32) (x_thrown : Int32) (p1 : Int32) (p2 : Int32) (p3 : Int32) : Option (Int32 × Int32) :=
  bd (X8_noHand x_hands p1) fun r7 => if r7 = (0 : Int32) then (bd (X8_noHand x_hands p2) fun r15 => if r15 = (0 : Int32) then (bd (X8_noTick p3) fun r22 => if r22 = (0 : Int32) then (bd (X8_knownAt x_leftFrom x_leftTo x_wait x_isLost p1 p2 p3 x_delay) fun r38 => if r38 = (-1000000000 : Int32) then (some ((0 : Int32), (0 : Int32))) else (some ((r38 + (100 : Int32)), (0 : Int32)))) else (some ((-1 : Int32), (0 : Int32)))) else (some ((-1 : Int32), (0 : Int32)))) else (some ((-1 : Int32), (0 : Int32)))
abbrev wd_X8_known (cy : Nat → ClassId) (o_t : Nat → Nat) (x_thrown : Int32) (x_delay : Int32) (x_feel : Int32) (x_turn : Int32) (x_sight : Int32) (x_ball : Int32) (x_w : Int32) (x_h : Int32) (x_n : Int32) (x_players : Int32) (x_hands : Nat → Int32) (x_leftFrom : Nat → Int32) (x_leftTo : Nat → Int32) (x_wait : Nat → Int32) (x_isLost : Nat → Int32) : va_W := [(o_t 0, .inr (8, [.int x_thrown, .ref (o_t 2), .ref (o_t 3), .ref (o_t 4), .ref (o_t 5), .ref (o_t 6), .ref (o_t 7), .ref (o_t 8), .ref (o_t 9), .ref (o_t 10), .ref (o_t 11), .int x_delay, .int x_feel, .int x_turn, .int x_sight, .ref (o_t 16), .ref (o_t 17), .ref (o_t 18), .ref (o_t 19), .int x_ball, .int x_w, .int x_h, .int x_n, .ref (o_t 24), .ref (o_t 25), .ref (o_t 26), .ref (o_t 27), .ref (o_t 28), .ref (o_t 29), .int x_players, .ref (o_t 31), .ref (o_t 32), .ref (o_t 33), .ref (o_t 34), .ref (o_t 35), .ref (o_t 36)])), (o_t 4, .inl (cy 0, 5, .inl x_hands)), (o_t 9, .inl (cy 0, 30, .inl x_leftFrom)), (o_t 10, .inl (cy 0, 30, .inl x_leftTo)), (o_t 16, .inl (cy 0, 36, .inl x_wait)), (o_t 17, .inl (cy 1, 600, .inl x_isLost))]
set_option maxHeartbeats 4000000 in
set_option maxRecDepth 100000 in
theorem w_X8_known {p : Program} {l : Launch} {e : Env} {s : State} {m : MethodId} {args : Array Value} {below : List Frame} {meth : Method} {c : Code} {Q : State → Prop} {A : Nat → Prop} {H : Heap} {locs : List Loc} {ls : Array Slot} (D : va_G) (cy : Nat → ClassId) (t : Nat → Nat) (o_t : Nat → Nat) (x_thrown : Int32) (x_delay : Int32) (x_feel : Int32) (x_turn : Int32) (x_sight : Int32) (x_ball : Int32) (x_w : Int32) (x_h : Int32) (x_n : Int32) (x_players : Int32) (x_hands : Nat → Int32) (x_leftFrom : Nat → Int32) (x_leftTo : Nat → Int32) (x_wait : Nat → Int32) (x_isLost : Nat → Int32) (p1 : Int32) (p2 : Int32) (p3 : Int32) {out : Int32 × Int32} (hf : X8_known x_delay x_hands x_leftFrom x_leftTo x_wait x_isLost x_thrown p1 p2 p3 = some out) (hx : p.tables.exec = Jvm.exec) (hb : c.code = cX8_known) (hml : c.maxLocals = 5) (hown : s.vm.findClass RX8 = some m.cls) (hts : ∀ w ∈ wsX8_known, w.before args s = true) (hK : va_K D vwCl (TYS cy) s) (hE : EV t A s s.heap) (hA : ∀ q, s.heap.size ≤ q → A q) (hP : va_P D vwCl (wd_X8_known cy o_t x_thrown x_delay x_feel x_turn x_sight x_ball x_w x_h x_n x_players x_hands x_leftFrom x_leftTo x_wait x_isLost) H) (hD : va_D A (wd_X8_known cy o_t x_thrown x_delay x_feel x_turn x_sight x_ball x_w x_h x_n x_players x_hands x_leftFrom x_leftTo x_wait x_isLost)) (hS : va_S A s.heap H locs) (hl : lv_has ls 5 [(0, .ref (o_t 0)), (1, .int p1), (2, .int p2), (3, .int p3)]) (hR : ∀ (H : Heap) (locs : List Loc) (ls : Array Slot) (pc : Nat), va_P D vwCl (wd_X8_known cy o_t out.2 x_delay x_feel x_turn x_sight x_ball x_w x_h x_n x_players x_hands x_leftFrom x_leftTo x_wait x_isLost) H → va_D A (wd_X8_known cy o_t out.2 x_delay x_feel x_turn x_sight x_ball x_w x_h x_n x_players x_hands x_leftFrom x_leftTo x_wait x_isLost) → va_S A s.heap H locs → decode cX8_known pc = .ok (.ireturn, 1) → W p l e (rmm 2 48) s m args below meth c H locs 0 0 Q (F0 m pc ls [.int out.1])) : W p l e (rmm 2 48) s m args below meth c H locs 0 0 Q (F0 m 0 ls []) := by
  have k0 := hts (.fieldLink RX8 100 "SeaGamesModel" "thrown" "I") (List.mem_cons_of_mem _ (List.mem_append_left _ (List.mem_append_left _ (List.mem_of_getElem? (i := 0) rfl))))
  have k1 : ∀ w ∈ u_ws RX8 TX8 36, w ∈ wsX8_known := fun _ h => List.mem_cons_of_mem _ (List.mem_append_right _ h)
  have k2 := hts (.fieldLink RX8 117 "SeaGamesModel" "delay" "I") (List.mem_cons_of_mem _ (List.mem_append_left _ (List.mem_append_left _ (List.mem_of_getElem? (i := 1) rfl))))
  have k3 := hts (.constant RX8 192 (-1000000000)) (List.mem_cons_of_mem _ (List.mem_append_left _ (List.mem_append_left _ (List.mem_of_getElem? (i := 2) rfl))))
  rw [X8_known] at hf
  refine lv_aload_n hx hb dX8_known_0 rfl (lv_at hl 0 rfl) ?_
  refine lv_iconst (v := (0 : Int32)) hx hb dX8_known_1 (by decide) ?_
  refine va_put (D := D) (ci := 8) (v := .int (0 : Int32)) (ty := .int) (C := RX8) (T := TX8) (N := 36) hx hb hts k1 tyX8 tyX8_ok nmX8 hown hK hP hD hS 0 rfl rfl 0 (by decide) k0 (fun _ h9 => h9) rfl (by decide +kernel) rfl rfl (Nat.le_of_ble_eq_true rfl) dX8_known_2 (fun H locs hP hD hS => ?_)
  have hP : va_P D vwCl (wd_X8_known cy o_t (0 : Int32) x_delay x_feel x_turn x_sight x_ball x_w x_h x_n x_players x_hands x_leftFrom x_leftTo x_wait x_isLost) H := hP
  have hD : va_D A (wd_X8_known cy o_t (0 : Int32) x_delay x_feel x_turn x_sight x_ball x_w x_h x_n x_players x_hands x_leftFrom x_leftTo x_wait x_isLost) := hD
  refine lv_aload_n hx hb dX8_known_5 rfl (lv_at hl 0 rfl) ?_
  refine lv_iload_n hx hb dX8_known_6 rfl (lv_at hl 1 rfl) ?_
  obtain ⟨r7, hr7, hf⟩ := bd_s hf
  refine my_Vi (WS2 := (wd_X8_known cy o_t (0 : Int32) x_delay x_feel x_turn x_sight x_ball x_w x_h x_n x_players x_hands x_leftFrom x_leftTo x_wait x_isLost)) ⟨hx, hb, hml, hown, hts⟩ (c_X8_noHand l D cy t o_t (0 : Int32) x_delay x_feel x_turn x_sight x_ball x_w x_h x_n x_players x_hands p1 hr7) (cwV 1 hts gX8_known_X8_noHand rfl rfl rfl ⟨rfl, hd_X8_noHand⟩ ⟨Nat.le_of_ble_eq_true rfl, Nat.le_of_ble_eq_true rfl⟩) hK hE hP hD hS hA [0, 1] 6 8 0 rfl rfl rfl rfl (by decide +kernel) rfl rfl hl.1 rfl (Nat.le_of_ble_eq_true rfl) dX8_known_7 ⟨Nat.le_of_ble_eq_true rfl, Nat.le_of_ble_eq_true rfl⟩ (fun H locs hP hD hS => ?_)
  refine lv_if_ne (tgt := 28) hx hb dX8_known_10 (by decide) (fun c10 => ?_) (fun c10 => ?_)
  · have hf := ifn c10 hf
    refine lv_iconst (v := (-1 : Int32)) hx hb dX8_known_28 (by decide) ?_
    obtain rfl := Option.some.inj hf
    exact hR _ _ _ _ hP hD hS dX8_known_29
  · have hf := ifp c10 hf
    refine lv_aload_n hx hb dX8_known_13 rfl (lv_at hl 0 rfl) ?_
    refine lv_iload_n hx hb dX8_known_14 rfl (lv_at hl 2 rfl) ?_
    obtain ⟨r15, hr15, hf⟩ := bd_s hf
    refine my_Vi (WS2 := (wd_X8_known cy o_t (0 : Int32) x_delay x_feel x_turn x_sight x_ball x_w x_h x_n x_players x_hands x_leftFrom x_leftTo x_wait x_isLost)) ⟨hx, hb, hml, hown, hts⟩ (c_X8_noHand l D cy t o_t (0 : Int32) x_delay x_feel x_turn x_sight x_ball x_w x_h x_n x_players x_hands p2 hr15) (cwV 1 hts gX8_known_X8_noHand rfl rfl rfl ⟨rfl, hd_X8_noHand⟩ ⟨Nat.le_of_ble_eq_true rfl, Nat.le_of_ble_eq_true rfl⟩) hK hE hP hD hS hA [0, 1] 6 8 0 rfl rfl rfl rfl (by decide +kernel) rfl rfl hl.1 rfl (Nat.le_of_ble_eq_true rfl) dX8_known_15 ⟨Nat.le_of_ble_eq_true rfl, Nat.le_of_ble_eq_true rfl⟩ (fun H locs hP hD hS => ?_)
    refine lv_if_ne (tgt := 28) hx hb dX8_known_18 (by decide) (fun c18 => ?_) (fun c18 => ?_)
    · have hf := ifn c18 hf
      refine lv_iconst (v := (-1 : Int32)) hx hb dX8_known_28 (by decide) ?_
      obtain rfl := Option.some.inj hf
      exact hR _ _ _ _ hP hD hS dX8_known_29
    · have hf := ifp c18 hf
      refine lv_iload_n hx hb dX8_known_21 rfl (lv_at hl 3 rfl) ?_
      obtain ⟨r22, hr22, hf⟩ := bd_s hf
      refine my_Si (WS2 := (wd_X8_known cy o_t (0 : Int32) x_delay x_feel x_turn x_sight x_ball x_w x_h x_n x_players x_hands x_leftFrom x_leftTo x_wait x_isLost)) ⟨hx, hb, hml, hown, hts⟩ (c_X8_noTick l D cy t p3 hr22) (va_cwS 1 hts gX8_known_X8_noTick rfl rfl rfl hd_X8_noTick ⟨Nat.le_of_ble_eq_true rfl, Nat.le_of_ble_eq_true rfl⟩) hK hE hP hD hS hA [] 6 rfl rfl (by decide +kernel) rfl rfl hl.1 rfl (Nat.le_of_ble_eq_true rfl) dX8_known_22 ⟨Nat.le_of_ble_eq_true rfl, Nat.le_of_ble_eq_true rfl⟩ (fun H locs hP hD hS => ?_)
      refine lv_if_eq (tgt := 30) hx hb dX8_known_25 (by decide) (fun c25 => ?_) (fun c25 => ?_)
      · have hf := ifp c25 hf
        refine lv_aload_n hx hb dX8_known_30 rfl (lv_at hl 0 rfl) ?_
        refine lv_iload_n hx hb dX8_known_31 rfl (lv_at hl 1 rfl) ?_
        refine lv_iload_n hx hb dX8_known_32 rfl (lv_at hl 2 rfl) ?_
        refine lv_iload_n hx hb dX8_known_33 rfl (lv_at hl 3 rfl) ?_
        refine lv_aload_n hx hb dX8_known_34 rfl (lv_at hl 0 rfl) ?_
        refine va_get (D := D) (ci := 8) (v := .int x_delay) (C := RX8) (T := TX8) (N := 36) hx hb hts k1 hown hK hP 0 rfl rfl 11 (by decide) k2 (fun _ h9 => h9) rfl dX8_known_35 ?_
        obtain ⟨r38, hr38, hf⟩ := bd_s hf
        refine my_Vi (WS2 := (wd_X8_known cy o_t (0 : Int32) x_delay x_feel x_turn x_sight x_ball x_w x_h x_n x_players x_hands x_leftFrom x_leftTo x_wait x_isLost)) ⟨hx, hb, hml, hown, hts⟩ (c_X8_knownAt l D cy t o_t (0 : Int32) x_delay x_feel x_turn x_sight x_ball x_w x_h x_n x_players x_leftFrom x_leftTo x_wait x_isLost p1 p2 p3 x_delay hr38) (cwV 4 hts gX8_known_X8_knownAt rfl rfl rfl ⟨rfl, hd_X8_knownAt⟩ ⟨Nat.le_of_ble_eq_true rfl, Nat.le_of_ble_eq_true rfl⟩) hK hE hP hD hS hA [0, 2, 3, 4, 5] 6 8 0 rfl rfl rfl rfl (by decide +kernel) rfl rfl hl.1 rfl (Nat.le_of_ble_eq_true rfl) dX8_known_38 ⟨Nat.le_of_ble_eq_true rfl, Nat.le_of_ble_eq_true rfl⟩ (fun H locs hP hD hS => ?_)
        refine lv_istore (lv' := [(4, .int r38), (0, .ref (o_t 0)), (1, .int p1), (2, .int p2), (3, .int p3)]) hx hb dX8_known_41 hl (by decide) rfl (fun ls hl => ?_)
        refine lv_iload hx hb dX8_known_43 (lv_at hl 0 rfl) ?_
        refine lv_ldc (v := (-1000000000 : Int32)) hx hb hown k3 dX8_known_45 ?_
        refine lv_icmp_ne (tgt := 54) hx hb dX8_known_47 (by decide) (fun c47 => ?_) (fun c47 => ?_)
        · have hf := ifn c47 hf
          refine lv_iload hx hb dX8_known_54 (lv_at hl 0 rfl) ?_
          refine lv_bipush (v := (100 : Int32)) hx hb dX8_known_56 (by decide) ?_
          refine lv_iadd hx hb dX8_known_58 ?_
          obtain rfl := Option.some.inj hf
          exact hR _ _ _ _ hP hD hS dX8_known_59
        · have hf := ifp c47 hf
          refine lv_iconst (v := (0 : Int32)) hx hb dX8_known_50 (by decide) ?_
          refine lv_goto (tgt := 59) hx hb dX8_known_51 (by decide) ?_
          obtain rfl := Option.some.inj hf
          exact hR _ _ _ _ hP hD hS dX8_known_59
      · have hf := ifn c25 hf
        refine lv_iconst (v := (-1 : Int32)) hx hb dX8_known_28 (by decide) ?_
        obtain rfl := Option.some.inj hf
        exact hR _ _ _ _ hP hD hS dX8_known_29
theorem hd_X8_known : yX8_known.cls ≠ "java/lang/invoke/MethodHandle" ∧ yX8_known.cls ≠ "java/lang/invoke/VarHandle" ∧ (parseMethodDescriptor yX8_known.desc).map (fun d => d.parameters.length) = some 3 := by decide +kernel
set_option maxRecDepth 100000 in
theorem c_X8_known (l : Launch) (D : va_G) (cy : Nat → ClassId) (t : Nat → Nat) (o_t : Nat → Nat) (x_thrown : Int32) (x_delay : Int32) (x_feel : Int32) (x_turn : Int32) (x_sight : Int32) (x_ball : Int32) (x_w : Int32) (x_h : Int32) (x_n : Int32) (x_players : Int32) (x_hands : Nat → Int32) (x_leftFrom : Nat → Int32) (x_leftTo : Nat → Int32) (x_wait : Nat → Int32) (x_isLost : Nat → Int32) (p1 : Int32) (p2 : Int32) (p3 : Int32) {out : Int32 × Int32} (hf : X8_known x_delay x_hands x_leftFrom x_leftTo x_wait x_isLost x_thrown p1 p2 p3 = some out) : ctI l yX8_known wsX8_known 2 48 D cy t [.ref (o_t 0), .int p1, .int p2, .int p3] (wd_X8_known cy o_t x_thrown x_delay x_feel x_turn x_sight x_ball x_w x_h x_n x_players x_hands x_leftFrom x_leftTo x_wait x_isLost) (wd_X8_known cy o_t out.2 x_delay x_feel x_turn x_sight x_ball x_w x_h x_n x_players x_hands x_leftFrom x_leftTo x_wait x_isLost) out.1 := by
  refine ⟨rfl, ?_⟩
  intro sz
  refine Met.ofW (cc := cX8_known) (maxL := 5) (ret := (some .int)) (by decide) rfl ?_
  intro p e s m args below meth c s₁ B hml hv
  obtain ⟨rfl, hsz, hP, hK, hD0, hE⟩ := hv
  have hts := atoms_spec (ws := wsX8_known) B.pre
  have hown : s.vm.findClass RX8 = some m.cls := findClass_of_methodNamed B.named
  have hlocks := B.notSynchronized
  subst hsz
  have hD := hD0.self (sz := s.heap.size)
  have hl := lv_entry ([.ref (o_t 0), .int p1, .int p2, .int p3]) (n := 5) (Nat.le_of_ble_eq_true rfl)
  rw [lg_entry_eq]
  generalize (lg_sl ([.ref (o_t 0), .int p1, .int p2, .int p3]) ++ List.replicate (5 - (lg_sl ([.ref (o_t 0), .int p1, .int p2, .int p3])).length) Slot.unset).toArray = ls at hl ⊢
  exact w_X8_known D cy t o_t x_thrown x_delay x_feel x_turn x_sight x_ball x_w x_h x_n x_players x_hands x_leftFrom x_leftTo x_wait x_isLost p1 p2 p3 hf B.exec B.bytes hml hown hts hK hE (fun q h => Or.inr h) hP hD va_S.rf hl (fun H locs ls pc hP hD hS hdg => W.iret B.exec B.bytes B.returns (fun t ht hW => ⟨⟨_, (), rfl, rfl, ctB_of ht hP⟩, hS.F ht⟩) hS.2.2 hdg)

noncomputable def X8_take_J125 (n_a4 : Nat) (x_hands : Nat → Int32) (x_pressed : Nat → Int32) (x_leftFrom : Nat → Int32) (x_leftTo : Nat → Int32) (x_wait : Nat → Int32) (x_isLost : Nat → Int32) (rec3 : (Nat → Int32) → Int32 → Int32 → Int32 → Int32 → Option ((Nat → Int32))) (x_a4 : Nat → Int32) (l1 : Int32) (l2 : Int32) (l3 : Int32) (l5 : Int32) : Option ((Nat → Int32)) :=
  nm (l5 + (1 : Int32)) fun v125 => rec3 x_a4 l1 l2 l3 v125
noncomputable def X8_take_J117 (n_a4 : Nat) (x_hands : Nat → Int32) (x_pressed : Nat → Int32) (x_leftFrom : Nat → Int32) (x_leftTo : Nat → Int32) (x_wait : Nat → Int32) (x_isLost : Nat → Int32) (rec3 : (Nat → Int32) → Int32 → Int32 → Int32 → Int32 → Option ((Nat → Int32))) (rec20 : (Nat → Int32) → Int32 → Int32 → Int32 → Int32 → Int32 → Int32 → Option ((Nat → Int32))) (x_a4 : Nat → Int32) (l1 : Int32) (l2 : Int32) (l3 : Int32) (l5 : Int32) (l7 : Int32) (s0 : Int32) : Option ((Nat → Int32)) :=
  nm (l7 + (1 : Int32)) fun v119 => rec20 x_a4 l1 l2 l3 l5 s0 v119
noncomputable def X8_take_J88 (n_a4 : Nat) (x_hands : Nat → Int32) (x_pressed : Nat → Int32) (x_leftFrom : Nat → Int32) (x_leftTo : Nat → Int32) (x_wait : Nat → Int32) (x_isLost : Nat → Int32) (rec3 : (Nat → Int32) → Int32 → Int32 → Int32 → Int32 → Option ((Nat → Int32))) (rec20 : (Nat → Int32) → Int32 → Int32 → Int32 → Int32 → Int32 → Int32 → Option ((Nat → Int32))) (x_a4 : Nat → Int32) (l1 : Int32) (l2 : Int32) (l3 : Int32) (l5 : Int32) (l6 : Int32) (l7 : Int32) (l8 : Int32) (l9 : Int32) (s1 : Int32) (s2 : Int32) : Option ((Nat → Int32)) :=
  wrI x_a4 n_a4 s1 s2 fun w88 => if l8 = (0 : Int32) then (X8_take_J117 n_a4 x_hands x_pressed x_leftFrom x_leftTo x_wait x_isLost rec3 rec20 w88 l1 l2 l3 l5 l7 l6) else (bd (X8_isLeft x_leftFrom x_leftTo (4 : Int32) l5 l7) fun r105 => if r105 = (0 : Int32) then (X8_take_J117 n_a4 x_hands x_pressed x_leftFrom x_leftTo x_wait x_isLost rec3 rec20 w88 l1 l2 l3 l5 l7 l9) else (X8_take_J117 n_a4 x_hands x_pressed x_leftFrom x_leftTo x_wait x_isLost rec3 rec20 w88 l1 l2 l3 l5 l7 (0 : Int32)))
noncomputable def X8_take_J45 (n_a4 : Nat) (x_hands : Nat → Int32) (x_pressed : Nat → Int32) (x_leftFrom : Nat → Int32) (x_leftTo : Nat → Int32) (x_wait : Nat → Int32) (x_isLost : Nat → Int32) (rec3 : (Nat → Int32) → Int32 → Int32 → Int32 → Int32 → Option ((Nat → Int32))) (rec20 : (Nat → Int32) → Int32 → Int32 → Int32 → Int32 → Int32 → Int32 → Option ((Nat → Int32))) (x_a4 : Nat → Int32) (l1 : Int32) (l2 : Int32) (l3 : Int32) (l5 : Int32) (l6 : Int32) (l7 : Int32) (s0 : Int32) : Option ((Nat → Int32)) :=
  rd x_pressed 3000 (((2400 : Int32) + ((100 : Int32) * l5)) + l7) fun v63 => if s0 = (0 : Int32) then (X8_take_J88 n_a4 x_hands x_pressed x_leftFrom x_leftTo x_wait x_isLost rec3 rec20 x_a4 l1 l2 l3 l5 l6 l7 s0 v63 (((100 : Int32) * l5) + l7) l6) else (X8_take_J88 n_a4 x_hands x_pressed x_leftFrom x_leftTo x_wait x_isLost rec3 rec20 x_a4 l1 l2 l3 l5 l6 l7 s0 v63 (((100 : Int32) * l5) + l7) v63)
noncomputable def X8_take_L20_B (n_a4 : Nat) (x_hands : Nat → Int32) (x_pressed : Nat → Int32) (x_leftFrom : Nat → Int32) (x_leftTo : Nat → Int32) (x_wait : Nat → Int32) (x_isLost : Nat → Int32) (rec3 : (Nat → Int32) → Int32 → Int32 → Int32 → Int32 → Option ((Nat → Int32))) (rec20 : (Nat → Int32) → Int32 → Int32 → Int32 → Int32 → Int32 → Int32 → Option ((Nat → Int32))) (x_a4 : Nat → Int32) (l1 : Int32) (l2 : Int32) (l3 : Int32) (l5 : Int32) (l6 : Int32) (l7 : Int32) : Option ((Nat → Int32)) :=
  if l2 < l7 then (X8_take_J125 n_a4 x_hands x_pressed x_leftFrom x_leftTo x_wait x_isLost rec3 x_a4 l1 l2 l3 l5) else (bd (X8_knownAt x_leftFrom x_leftTo x_wait x_isLost l1 l5 l7 l3) fun r33 => if l2 < r33 then (X8_take_J45 n_a4 x_hands x_pressed x_leftFrom x_leftTo x_wait x_isLost rec3 rec20 x_a4 l1 l2 l3 l5 l6 l7 (0 : Int32)) else (X8_take_J45 n_a4 x_hands x_pressed x_leftFrom x_leftTo x_wait x_isLost rec3 rec20 x_a4 l1 l2 l3 l5 l6 l7 (1 : Int32)))
noncomputable def X8_take_L20 (n_a4 : Nat) (x_hands : Nat → Int32) (x_pressed : Nat → Int32) (x_leftFrom : Nat → Int32) (x_leftTo : Nat → Int32) (x_wait : Nat → Int32) (x_isLost : Nat → Int32) (rec3 : (Nat → Int32) → Int32 → Int32 → Int32 → Int32 → Option ((Nat → Int32))) : Nat → (Nat → Int32) → Int32 → Int32 → Int32 → Int32 → Int32 → Int32 → Option ((Nat → Int32))
  | 0, _, _, _, _, _, _, _ => none
  | n + 1, y0, y1, y2, y3, y4, y5, y6 => X8_take_L20_B n_a4 x_hands x_pressed x_leftFrom x_leftTo x_wait x_isLost rec3 (X8_take_L20 n_a4 x_hands x_pressed x_leftFrom x_leftTo x_wait x_isLost rec3 n) y0 y1 y2 y3 y4 y5 y6
noncomputable def X8_take_L3_B (n_a4 : Nat) (x_hands : Nat → Int32) (x_pressed : Nat → Int32) (x_leftFrom : Nat → Int32) (x_leftTo : Nat → Int32) (x_wait : Nat → Int32) (x_isLost : Nat → Int32) (rec3 : (Nat → Int32) → Int32 → Int32 → Int32 → Int32 → Option ((Nat → Int32))) (x_a4 : Nat → Int32) (l1 : Int32) (l2 : Int32) (l3 : Int32) (l5 : Int32) : Option ((Nat → Int32)) :=
  rd x_hands 5 (4 : Int32) fun v10 => if v10 ≤ l5 then (some x_a4) else (X8_take_L20 n_a4 x_hands x_pressed x_leftFrom x_leftTo x_wait x_isLost rec3 FU x_a4 l1 l2 l3 l5 (0 : Int32) (0 : Int32))
noncomputable def X8_take_L3 (n_a4 : Nat) (x_hands : Nat → Int32) (x_pressed : Nat → Int32) (x_leftFrom : Nat → Int32) (x_leftTo : Nat → Int32) (x_wait : Nat → Int32) (x_isLost : Nat → Int32) : Nat → (Nat → Int32) → Int32 → Int32 → Int32 → Int32 → Option ((Nat → Int32))
  | 0, _, _, _, _, _ => none
  | n + 1, y0, y1, y2, y3, y4 => X8_take_L3_B n_a4 x_hands x_pressed x_leftFrom x_leftTo x_wait x_isLost  (X8_take_L3 n_a4 x_hands x_pressed x_leftFrom x_leftTo x_wait x_isLost  n) y0 y1 y2 y3 y4
noncomputable def X8_take (n_a4 : Nat) (x_hands : Nat → Int32) (x_pressed : Nat → Int32) (x_leftFrom : Nat → Int32) (x_leftTo : Nat → Int32) (x_wait : Nat → Int32) (x_isLost : Nat → Int32) (x_a4 : Nat → Int32) (p1 : Int32) (p2 : Int32) (p3 : Int32) : Option ((Nat → Int32)) :=
  X8_take_L3 n_a4 x_hands x_pressed x_leftFrom x_leftTo x_wait x_isLost  FU x_a4 p1 p2 p3 (0 : Int32)
abbrev wd_X8_take (cy : Nat → ClassId) (o_t : Nat → Nat) (r_a4 n_a4 : Nat) (x_thrown : Int32) (x_delay : Int32) (x_feel : Int32) (x_turn : Int32) (x_sight : Int32) (x_ball : Int32) (x_w : Int32) (x_h : Int32) (x_n : Int32) (x_players : Int32) (x_hands : Nat → Int32) (x_pressed : Nat → Int32) (x_leftFrom : Nat → Int32) (x_leftTo : Nat → Int32) (x_wait : Nat → Int32) (x_isLost : Nat → Int32) (x_a4 : Nat → Int32) : va_W := [(o_t 0, .inr (8, [.int x_thrown, .ref (o_t 2), .ref (o_t 3), .ref (o_t 4), .ref (o_t 5), .ref (o_t 6), .ref (o_t 7), .ref (o_t 8), .ref (o_t 9), .ref (o_t 10), .ref (o_t 11), .int x_delay, .int x_feel, .int x_turn, .int x_sight, .ref (o_t 16), .ref (o_t 17), .ref (o_t 18), .ref (o_t 19), .int x_ball, .int x_w, .int x_h, .int x_n, .ref (o_t 24), .ref (o_t 25), .ref (o_t 26), .ref (o_t 27), .ref (o_t 28), .ref (o_t 29), .int x_players, .ref (o_t 31), .ref (o_t 32), .ref (o_t 33), .ref (o_t 34), .ref (o_t 35), .ref (o_t 36)])), (o_t 4, .inl (cy 0, 5, .inl x_hands)), (o_t 8, .inl (cy 0, 3000, .inl x_pressed)), (o_t 9, .inl (cy 0, 30, .inl x_leftFrom)), (o_t 10, .inl (cy 0, 30, .inl x_leftTo)), (o_t 16, .inl (cy 0, 36, .inl x_wait)), (o_t 17, .inl (cy 1, 600, .inl x_isLost)), (r_a4, .inl (cy 0, n_a4, .inl x_a4))]
set_option maxHeartbeats 4000000 in
set_option maxRecDepth 100000 in
theorem w_X8_take {p : Program} {l : Launch} {e : Env} {s : State} {m : MethodId} {args : Array Value} {below : List Frame} {meth : Method} {c : Code} {Q : State → Prop} {A : Nat → Prop} {H : Heap} {locs : List Loc} {ls : Array Slot} (D : va_G) (cy : Nat → ClassId) (t : Nat → Nat) (o_t : Nat → Nat) (r_a4 n_a4 : Nat) (x_thrown : Int32) (x_delay : Int32) (x_feel : Int32) (x_turn : Int32) (x_sight : Int32) (x_ball : Int32) (x_w : Int32) (x_h : Int32) (x_n : Int32) (x_players : Int32) (x_hands : Nat → Int32) (x_pressed : Nat → Int32) (x_leftFrom : Nat → Int32) (x_leftTo : Nat → Int32) (x_wait : Nat → Int32) (x_isLost : Nat → Int32) (x_a4 : Nat → Int32) (p1 : Int32) (p2 : Int32) (p3 : Int32) {out : (Nat → Int32)} (hf : X8_take n_a4 x_hands x_pressed x_leftFrom x_leftTo x_wait x_isLost x_a4 p1 p2 p3 = some out) (hx : p.tables.exec = Jvm.exec) (hb : c.code = cX8_take) (hml : c.maxLocals = 10) (hown : s.vm.findClass RX8 = some m.cls) (hts : ∀ w ∈ wsX8_take, w.before args s = true) (hK : va_K D vwCl (TYS cy) s) (hE : EV t A s s.heap) (hA : ∀ q, s.heap.size ≤ q → A q) (hP : va_P D vwCl (wd_X8_take cy o_t r_a4 n_a4 x_thrown x_delay x_feel x_turn x_sight x_ball x_w x_h x_n x_players x_hands x_pressed x_leftFrom x_leftTo x_wait x_isLost x_a4) H) (hD : va_D A (wd_X8_take cy o_t r_a4 n_a4 x_thrown x_delay x_feel x_turn x_sight x_ball x_w x_h x_n x_players x_hands x_pressed x_leftFrom x_leftTo x_wait x_isLost x_a4)) (hS : va_S A s.heap H locs) (hl : lv_has ls 10 [(0, .ref (o_t 0)), (1, .int p1), (2, .int p2), (3, .int p3), (4, .ref r_a4)]) (hR : ∀ (H : Heap) (locs : List Loc) (ls : Array Slot) (pc : Nat), va_P D vwCl (wd_X8_take cy o_t r_a4 n_a4 x_thrown x_delay x_feel x_turn x_sight x_ball x_w x_h x_n x_players x_hands x_pressed x_leftFrom x_leftTo x_wait x_isLost out) H → va_D A (wd_X8_take cy o_t r_a4 n_a4 x_thrown x_delay x_feel x_turn x_sight x_ball x_w x_h x_n x_players x_hands x_pressed x_leftFrom x_leftTo x_wait x_isLost out) → va_S A s.heap H locs → decode cX8_take pc = .ok (.return_, 1) → W p l e (rmm 2 48) s m args below meth c H locs 0 0 Q (F0 m pc ls [])) : W p l e (rmm 2 48) s m args below meth c H locs 0 0 Q (F0 m 0 ls []) := by
  have k0 := hts (.fieldLink RX8 16 "SeaGamesModel" "hands" "[I") (List.mem_cons_of_mem _ (List.mem_append_left _ (List.mem_of_getElem? (i := 0) rfl)))
  have k1 : ∀ w ∈ u_ws RX8 TX8 36, w ∈ wsX8_take := fun _ h => List.mem_cons_of_mem _ (List.mem_append_right _ h)
  have k2 := hts (.fieldLink RX8 28 "SeaGamesModel" "pressed" "[I") (List.mem_cons_of_mem _ (List.mem_append_left _ (List.mem_of_getElem? (i := 1) rfl)))
  rw [X8_take] at hf
  have h3 : ∀ (n3 : Nat) (x_a4 : Nat → Int32) (l1 : Int32) (l2 : Int32) (l3 : Int32) (l5 : Int32) (H : Heap) (locs : List Loc) (ls : Array Slot), X8_take_L3 n_a4 x_hands x_pressed x_leftFrom x_leftTo x_wait x_isLost n3 x_a4 l1 l2 l3 l5 = some out → va_P D vwCl (wd_X8_take cy o_t r_a4 n_a4 x_thrown x_delay x_feel x_turn x_sight x_ball x_w x_h x_n x_players x_hands x_pressed x_leftFrom x_leftTo x_wait x_isLost x_a4) H → va_D A (wd_X8_take cy o_t r_a4 n_a4 x_thrown x_delay x_feel x_turn x_sight x_ball x_w x_h x_n x_players x_hands x_pressed x_leftFrom x_leftTo x_wait x_isLost x_a4) → va_S A s.heap H locs → lv_has ls 10 [(0, .ref (o_t 0)), (1, .int l1), (2, .int l2), (3, .int l3), (4, .ref r_a4), (5, .int l5)] → W p l e (rmm 2 48) s m args below meth c H locs 0 0 Q (F0 m 3 ls []) := by
    intro n3
    induction n3 with
    | zero =>
      intro _ _ _ _ _ _ _ _ hf
      exact nomatch (show (none : Option _) = some out from hf)
    | succ n3 ih3 =>
      intro x_a4 l1 l2 l3 l5 H locs ls hf hP hD hS hl
      have hf : X8_take_L3_B n_a4 x_hands x_pressed x_leftFrom x_leftTo x_wait x_isLost (X8_take_L3 n_a4 x_hands x_pressed x_leftFrom x_leftTo x_wait x_isLost n3) x_a4 l1 l2 l3 l5 = some out := hf
      rw [X8_take_L3_B] at hf
      refine lv_iload hx hb dX8_take_3 (lv_at hl 5 rfl) ?_
      refine lv_aload_n hx hb dX8_take_5 rfl (lv_at hl 0 rfl) ?_
      refine va_get (D := D) (ci := 8) (v := .ref (o_t 4)) (C := RX8) (T := TX8) (N := 36) hx hb hts k1 hown hK hP 0 rfl rfl 3 (by decide) k0 (fun _ h9 => h9) rfl dX8_take_6 ?_
      refine lv_iconst (v := (4 : Int32)) hx hb dX8_take_9 (by decide) ?_
      obtain ⟨v10, b10, ev10, hf⟩ := rd_s hf
      refine my_iald hx hb hK hP 1 rfl b10 ev10 dX8_take_10 ?_
      refine lv_icmp_ge (tgt := 131) hx hb dX8_take_11 (by decide) (fun c11 => ?_) (fun c11 => ?_)
      · have hf := ifp c11 hf
        obtain rfl := Option.some.inj hf
        exact hR _ _ _ _ hP hD hS dX8_take_131
      · have hf := ifn c11 hf
        have h20 : ∀ (n20 : Nat) (x_a4 : Nat → Int32) (l1 : Int32) (l2 : Int32) (l3 : Int32) (l5 : Int32) (l6 : Int32) (l7 : Int32) (H : Heap) (locs : List Loc) (ls : Array Slot), X8_take_L20 n_a4 x_hands x_pressed x_leftFrom x_leftTo x_wait x_isLost (X8_take_L3 n_a4 x_hands x_pressed x_leftFrom x_leftTo x_wait x_isLost n3) n20 x_a4 l1 l2 l3 l5 l6 l7 = some out → va_P D vwCl (wd_X8_take cy o_t r_a4 n_a4 x_thrown x_delay x_feel x_turn x_sight x_ball x_w x_h x_n x_players x_hands x_pressed x_leftFrom x_leftTo x_wait x_isLost x_a4) H → va_D A (wd_X8_take cy o_t r_a4 n_a4 x_thrown x_delay x_feel x_turn x_sight x_ball x_w x_h x_n x_players x_hands x_pressed x_leftFrom x_leftTo x_wait x_isLost x_a4) → va_S A s.heap H locs → lv_has ls 10 [(0, .ref (o_t 0)), (1, .int l1), (2, .int l2), (3, .int l3), (4, .ref r_a4), (5, .int l5), (6, .int l6), (7, .int l7)] → W p l e (rmm 2 48) s m args below meth c H locs 0 0 Q (F0 m 20 ls []) := by
          intro n20
          induction n20 with
          | zero =>
            intro _ _ _ _ _ _ _ _ _ _ hf
            exact nomatch (show (none : Option _) = some out from hf)
          | succ n20 ih20 =>
            intro x_a4 l1 l2 l3 l5 l6 l7 H locs ls hf hP hD hS hl
            have hf : X8_take_L20_B n_a4 x_hands x_pressed x_leftFrom x_leftTo x_wait x_isLost (X8_take_L3 n_a4 x_hands x_pressed x_leftFrom x_leftTo x_wait x_isLost n3) (X8_take_L20 n_a4 x_hands x_pressed x_leftFrom x_leftTo x_wait x_isLost (X8_take_L3 n_a4 x_hands x_pressed x_leftFrom x_leftTo x_wait x_isLost n3) n20) x_a4 l1 l2 l3 l5 l6 l7 = some out := hf
            rw [X8_take_L20_B] at hf
            have h125 : ∀ (x_a4 : Nat → Int32) (l1 : Int32) (l2 : Int32) (l3 : Int32) (l5 : Int32) (H : Heap) (locs : List Loc) (ls : Array Slot), X8_take_J125 n_a4 x_hands x_pressed x_leftFrom x_leftTo x_wait x_isLost (X8_take_L3 n_a4 x_hands x_pressed x_leftFrom x_leftTo x_wait x_isLost n3) x_a4 l1 l2 l3 l5 = some out → va_P D vwCl (wd_X8_take cy o_t r_a4 n_a4 x_thrown x_delay x_feel x_turn x_sight x_ball x_w x_h x_n x_players x_hands x_pressed x_leftFrom x_leftTo x_wait x_isLost x_a4) H → va_D A (wd_X8_take cy o_t r_a4 n_a4 x_thrown x_delay x_feel x_turn x_sight x_ball x_w x_h x_n x_players x_hands x_pressed x_leftFrom x_leftTo x_wait x_isLost x_a4) → va_S A s.heap H locs → lv_has ls 10 [(0, .ref (o_t 0)), (1, .int l1), (2, .int l2), (3, .int l3), (4, .ref r_a4), (5, .int l5)] → W p l e (rmm 2 48) s m args below meth c H locs 0 0 Q (F0 m 125 ls []) := by
              intro x_a4 l1 l2 l3 l5 H locs ls hf hP hD hS hl
              rw [X8_take_J125] at hf
              obtain ⟨v125, ev125, hf⟩ := nm_s hf
              refine lv_iinc (v := v125) (lv' := [(5, .int v125), (0, .ref (o_t 0)), (1, .int l1), (2, .int l2), (3, .int l3), (4, .ref r_a4)]) hx hb dX8_take_125 hl (k := 5) rfl (by rw [ev125]; rfl) (by decide) rfl (fun ls hl => ?_)
              refine lv_goto (tgt := 3) hx hb dX8_take_128 (by decide) ?_
              exact ih3 _ _ _ _ _ _ _ _ hf hP hD hS (lv_sub hl [1, 2, 3, 4, 5, 0] rfl)
            refine lv_iload hx hb dX8_take_20 (lv_at hl 7 rfl) ?_
            refine lv_iload_n hx hb dX8_take_22 rfl (lv_at hl 2 rfl) ?_
            refine lv_icmp_gt (tgt := 125) hx hb dX8_take_23 (by decide) (fun c23 => ?_) (fun c23 => ?_)
            · have hf := ifp c23 hf
              exact h125 _ _ _ _ _ _ _ _ hf hP hD hS (lv_sub hl [0, 1, 2, 3, 4, 5] rfl)
            · have hf := ifn c23 hf
              have h45 : ∀ (x_a4 : Nat → Int32) (l1 : Int32) (l2 : Int32) (l3 : Int32) (l5 : Int32) (l6 : Int32) (l7 : Int32) (s0 : Int32) (H : Heap) (locs : List Loc) (ls : Array Slot), X8_take_J45 n_a4 x_hands x_pressed x_leftFrom x_leftTo x_wait x_isLost (X8_take_L3 n_a4 x_hands x_pressed x_leftFrom x_leftTo x_wait x_isLost n3) (X8_take_L20 n_a4 x_hands x_pressed x_leftFrom x_leftTo x_wait x_isLost (X8_take_L3 n_a4 x_hands x_pressed x_leftFrom x_leftTo x_wait x_isLost n3) n20) x_a4 l1 l2 l3 l5 l6 l7 s0 = some out → va_P D vwCl (wd_X8_take cy o_t r_a4 n_a4 x_thrown x_delay x_feel x_turn x_sight x_ball x_w x_h x_n x_players x_hands x_pressed x_leftFrom x_leftTo x_wait x_isLost x_a4) H → va_D A (wd_X8_take cy o_t r_a4 n_a4 x_thrown x_delay x_feel x_turn x_sight x_ball x_w x_h x_n x_players x_hands x_pressed x_leftFrom x_leftTo x_wait x_isLost x_a4) → va_S A s.heap H locs → lv_has ls 10 [(0, .ref (o_t 0)), (1, .int l1), (2, .int l2), (3, .int l3), (4, .ref r_a4), (5, .int l5), (6, .int l6), (7, .int l7)] → W p l e (rmm 2 48) s m args below meth c H locs 0 0 Q (F0 m 45 ls [.int s0]) := by
                intro x_a4 l1 l2 l3 l5 l6 l7 s0 H locs ls hf hP hD hS hl
                rw [X8_take_J45] at hf
                have h88 : ∀ (x_a4 : Nat → Int32) (l1 : Int32) (l2 : Int32) (l3 : Int32) (l5 : Int32) (l6 : Int32) (l7 : Int32) (l8 : Int32) (l9 : Int32) (s1 : Int32) (s2 : Int32) (H : Heap) (locs : List Loc) (ls : Array Slot), X8_take_J88 n_a4 x_hands x_pressed x_leftFrom x_leftTo x_wait x_isLost (X8_take_L3 n_a4 x_hands x_pressed x_leftFrom x_leftTo x_wait x_isLost n3) (X8_take_L20 n_a4 x_hands x_pressed x_leftFrom x_leftTo x_wait x_isLost (X8_take_L3 n_a4 x_hands x_pressed x_leftFrom x_leftTo x_wait x_isLost n3) n20) x_a4 l1 l2 l3 l5 l6 l7 l8 l9 s1 s2 = some out → va_P D vwCl (wd_X8_take cy o_t r_a4 n_a4 x_thrown x_delay x_feel x_turn x_sight x_ball x_w x_h x_n x_players x_hands x_pressed x_leftFrom x_leftTo x_wait x_isLost x_a4) H → va_D A (wd_X8_take cy o_t r_a4 n_a4 x_thrown x_delay x_feel x_turn x_sight x_ball x_w x_h x_n x_players x_hands x_pressed x_leftFrom x_leftTo x_wait x_isLost x_a4) → va_S A s.heap H locs → lv_has ls 10 [(0, .ref (o_t 0)), (1, .int l1), (2, .int l2), (3, .int l3), (4, .ref r_a4), (5, .int l5), (6, .int l6), (7, .int l7), (8, .int l8), (9, .int l9)] → W p l e (rmm 2 48) s m args below meth c H locs 0 0 Q (F0 m 88 ls [.int s2, .int s1, .ref r_a4]) := by
                  intro x_a4 l1 l2 l3 l5 l6 l7 l8 l9 s1 s2 H locs ls hf hP hD hS hl
                  rw [X8_take_J88] at hf
                  have h117 : ∀ (x_a4 : Nat → Int32) (l1 : Int32) (l2 : Int32) (l3 : Int32) (l5 : Int32) (l7 : Int32) (s0 : Int32) (H : Heap) (locs : List Loc) (ls : Array Slot), X8_take_J117 n_a4 x_hands x_pressed x_leftFrom x_leftTo x_wait x_isLost (X8_take_L3 n_a4 x_hands x_pressed x_leftFrom x_leftTo x_wait x_isLost n3) (X8_take_L20 n_a4 x_hands x_pressed x_leftFrom x_leftTo x_wait x_isLost (X8_take_L3 n_a4 x_hands x_pressed x_leftFrom x_leftTo x_wait x_isLost n3) n20) x_a4 l1 l2 l3 l5 l7 s0 = some out → va_P D vwCl (wd_X8_take cy o_t r_a4 n_a4 x_thrown x_delay x_feel x_turn x_sight x_ball x_w x_h x_n x_players x_hands x_pressed x_leftFrom x_leftTo x_wait x_isLost x_a4) H → va_D A (wd_X8_take cy o_t r_a4 n_a4 x_thrown x_delay x_feel x_turn x_sight x_ball x_w x_h x_n x_players x_hands x_pressed x_leftFrom x_leftTo x_wait x_isLost x_a4) → va_S A s.heap H locs → lv_has ls 10 [(0, .ref (o_t 0)), (1, .int l1), (2, .int l2), (3, .int l3), (4, .ref r_a4), (5, .int l5), (7, .int l7)] → W p l e (rmm 2 48) s m args below meth c H locs 0 0 Q (F0 m 117 ls [.int s0]) := by
                    intro x_a4 l1 l2 l3 l5 l7 s0 H locs ls hf hP hD hS hl
                    rw [X8_take_J117] at hf
                    refine lv_istore (lv' := [(6, .int s0), (0, .ref (o_t 0)), (1, .int l1), (2, .int l2), (3, .int l3), (4, .ref r_a4), (5, .int l5), (7, .int l7)]) hx hb dX8_take_117 hl (by decide) rfl (fun ls hl => ?_)
                    obtain ⟨v119, ev119, hf⟩ := nm_s hf
                    refine lv_iinc (v := v119) (lv' := [(7, .int v119), (6, .int s0), (0, .ref (o_t 0)), (1, .int l1), (2, .int l2), (3, .int l3), (4, .ref r_a4), (5, .int l5)]) hx hb dX8_take_119 hl (k := 7) rfl (by rw [ev119]; rfl) (by decide) rfl (fun ls hl => ?_)
                    refine lv_goto (tgt := 20) hx hb dX8_take_122 (by decide) ?_
                    exact ih20 _ _ _ _ _ _ _ _ _ _ hf hP hD hS (lv_sub hl [2, 3, 4, 5, 6, 7, 1, 0] rfl)
                  obtain ⟨w88, b88, ew88, hf⟩ := wrI_s hf
                  refine my_iast (ws2 := (wd_X8_take cy o_t r_a4 n_a4 x_thrown x_delay x_feel x_turn x_sight x_ball x_w x_h x_n x_players x_hands x_pressed x_leftFrom x_leftTo x_wait x_isLost w88)) hx hb hK hP hD hS 7 rfl b88 ew88 rfl dX8_take_88 (fun H locs hP hD hS => ?_)
                  refine lv_iload hx hb dX8_take_89 (lv_at hl 8 rfl) ?_
                  refine lv_if_ne (tgt := 99) hx hb dX8_take_91 (by decide) (fun c91 => ?_) (fun c91 => ?_)
                  · have hf := ifn c91 hf
                    refine lv_aload_n hx hb dX8_take_99 rfl (lv_at hl 0 rfl) ?_
                    refine lv_iconst (v := (4 : Int32)) hx hb dX8_take_100 (by decide) ?_
                    refine lv_iload hx hb dX8_take_101 (lv_at hl 5 rfl) ?_
                    refine lv_iload hx hb dX8_take_103 (lv_at hl 7 rfl) ?_
                    obtain ⟨r105, hr105, hf⟩ := bd_s hf
                    refine my_Vi (WS2 := (wd_X8_take cy o_t r_a4 n_a4 x_thrown x_delay x_feel x_turn x_sight x_ball x_w x_h x_n x_players x_hands x_pressed x_leftFrom x_leftTo x_wait x_isLost w88)) ⟨hx, hb, hml, hown, hts⟩ (c_X8_isLeft l D cy t o_t x_thrown x_delay x_feel x_turn x_sight x_ball x_w x_h x_n x_players x_leftFrom x_leftTo (4 : Int32) l5 l7 hr105) (cwV 3 hts gX8_take_X8_isLeft rfl rfl rfl ⟨rfl, hd_X8_isLeft⟩ ⟨Nat.le_of_ble_eq_true rfl, Nat.le_of_ble_eq_true rfl⟩) hK hE hP hD hS hA [0, 3, 4] 8 8 0 rfl rfl rfl rfl (by decide +kernel) rfl rfl hl.1 rfl (Nat.le_of_ble_eq_true rfl) dX8_take_105 ⟨Nat.le_of_ble_eq_true rfl, Nat.le_of_ble_eq_true rfl⟩ (fun H locs hP hD hS => ?_)
                    refine lv_if_eq (tgt := 115) hx hb dX8_take_108 (by decide) (fun c108 => ?_) (fun c108 => ?_)
                    · have hf := ifp c108 hf
                      refine lv_iload hx hb dX8_take_115 (lv_at hl 9 rfl) ?_
                      exact h117 _ _ _ _ _ _ _ _ _ _ hf hP hD hS (lv_sub hl [0, 1, 2, 3, 4, 5, 7] rfl)
                    · have hf := ifn c108 hf
                      refine lv_iconst (v := (0 : Int32)) hx hb dX8_take_111 (by decide) ?_
                      refine lv_goto (tgt := 117) hx hb dX8_take_112 (by decide) ?_
                      exact h117 _ _ _ _ _ _ _ _ _ _ hf hP hD hS (lv_sub hl [0, 1, 2, 3, 4, 5, 7] rfl)
                  · have hf := ifp c91 hf
                    refine lv_iload hx hb dX8_take_94 (lv_at hl 6 rfl) ?_
                    refine lv_goto (tgt := 117) hx hb dX8_take_96 (by decide) ?_
                    exact h117 _ _ _ _ _ _ _ _ _ _ hf hP hD hS (lv_sub hl [0, 1, 2, 3, 4, 5, 7] rfl)
                refine lv_istore (lv' := [(8, .int s0), (0, .ref (o_t 0)), (1, .int l1), (2, .int l2), (3, .int l3), (4, .ref r_a4), (5, .int l5), (6, .int l6), (7, .int l7)]) hx hb dX8_take_45 hl (by decide) rfl (fun ls hl => ?_)
                refine lv_aload_n hx hb dX8_take_47 rfl (lv_at hl 1 rfl) ?_
                refine va_get (D := D) (ci := 8) (v := .ref (o_t 8)) (C := RX8) (T := TX8) (N := 36) hx hb hts k1 hown hK hP 0 rfl rfl 7 (by decide) k2 (fun _ h9 => h9) rfl dX8_take_48 ?_
                refine lv_sipush (v := (2400 : Int32)) hx hb dX8_take_51 (by decide) ?_
                refine lv_bipush (v := (100 : Int32)) hx hb dX8_take_54 (by decide) ?_
                refine lv_iload hx hb dX8_take_56 (lv_at hl 6 rfl) ?_
                refine lv_imul hx hb dX8_take_58 ?_
                refine lv_iadd hx hb dX8_take_59 ?_
                refine lv_iload hx hb dX8_take_60 (lv_at hl 8 rfl) ?_
                refine lv_iadd hx hb dX8_take_62 ?_
                obtain ⟨v63, b63, ev63, hf⟩ := rd_s hf
                refine my_iald hx hb hK hP 2 rfl b63 ev63 dX8_take_63 ?_
                refine lv_istore (lv' := [(9, .int v63), (8, .int s0), (0, .ref (o_t 0)), (1, .int l1), (2, .int l2), (3, .int l3), (4, .ref r_a4), (5, .int l5), (6, .int l6), (7, .int l7)]) hx hb dX8_take_64 hl (by decide) rfl (fun ls hl => ?_)
                refine lv_aload hx hb dX8_take_66 (lv_at hl 6 rfl) ?_
                refine lv_bipush (v := (100 : Int32)) hx hb dX8_take_68 (by decide) ?_
                refine lv_iload hx hb dX8_take_70 (lv_at hl 7 rfl) ?_
                refine lv_imul hx hb dX8_take_72 ?_
                refine lv_iload hx hb dX8_take_73 (lv_at hl 9 rfl) ?_
                refine lv_iadd hx hb dX8_take_75 ?_
                refine lv_iload hx hb dX8_take_76 (lv_at hl 1 rfl) ?_
                refine lv_if_eq (tgt := 86) hx hb dX8_take_78 (by decide) (fun c78 => ?_) (fun c78 => ?_)
                · have hf := ifp c78 hf
                  refine lv_iload hx hb dX8_take_86 (lv_at hl 8 rfl) ?_
                  exact h88 _ _ _ _ _ _ _ _ _ _ _ _ _ _ hf hP hD hS (lv_sub hl [2, 3, 4, 5, 6, 7, 8, 9, 1, 0] rfl)
                · have hf := ifn c78 hf
                  refine lv_iload hx hb dX8_take_81 (lv_at hl 0 rfl) ?_
                  refine lv_goto (tgt := 88) hx hb dX8_take_83 (by decide) ?_
                  exact h88 _ _ _ _ _ _ _ _ _ _ _ _ _ _ hf hP hD hS (lv_sub hl [2, 3, 4, 5, 6, 7, 8, 9, 1, 0] rfl)
              refine lv_aload_n hx hb dX8_take_26 rfl (lv_at hl 0 rfl) ?_
              refine lv_iload_n hx hb dX8_take_27 rfl (lv_at hl 1 rfl) ?_
              refine lv_iload hx hb dX8_take_28 (lv_at hl 5 rfl) ?_
              refine lv_iload hx hb dX8_take_30 (lv_at hl 7 rfl) ?_
              refine lv_iload_n hx hb dX8_take_32 rfl (lv_at hl 3 rfl) ?_
              obtain ⟨r33, hr33, hf⟩ := bd_s hf
              refine my_Vi (WS2 := (wd_X8_take cy o_t r_a4 n_a4 x_thrown x_delay x_feel x_turn x_sight x_ball x_w x_h x_n x_players x_hands x_pressed x_leftFrom x_leftTo x_wait x_isLost x_a4)) ⟨hx, hb, hml, hown, hts⟩ (c_X8_knownAt l D cy t o_t x_thrown x_delay x_feel x_turn x_sight x_ball x_w x_h x_n x_players x_leftFrom x_leftTo x_wait x_isLost l1 l5 l7 l3 hr33) (cwV 4 hts gX8_take_X8_knownAt rfl rfl rfl ⟨rfl, hd_X8_knownAt⟩ ⟨Nat.le_of_ble_eq_true rfl, Nat.le_of_ble_eq_true rfl⟩) hK hE hP hD hS hA [0, 3, 4, 5, 6] 8 8 0 rfl rfl rfl rfl (by decide +kernel) rfl rfl hl.1 rfl (Nat.le_of_ble_eq_true rfl) dX8_take_33 ⟨Nat.le_of_ble_eq_true rfl, Nat.le_of_ble_eq_true rfl⟩ (fun H locs hP hD hS => ?_)
              refine lv_iload_n hx hb dX8_take_36 rfl (lv_at hl 2 rfl) ?_
              refine lv_icmp_gt (tgt := 44) hx hb dX8_take_37 (by decide) (fun c37 => ?_) (fun c37 => ?_)
              · have hf := ifp c37 hf
                refine lv_iconst (v := (0 : Int32)) hx hb dX8_take_44 (by decide) ?_
                exact h45 _ _ _ _ _ _ _ _ _ _ _ hf hP hD hS (lv_sub hl [0, 1, 2, 3, 4, 5, 6, 7] rfl)
              · have hf := ifn c37 hf
                refine lv_iconst (v := (1 : Int32)) hx hb dX8_take_40 (by decide) ?_
                refine lv_goto (tgt := 45) hx hb dX8_take_41 (by decide) ?_
                exact h45 _ _ _ _ _ _ _ _ _ _ _ hf hP hD hS (lv_sub hl [0, 1, 2, 3, 4, 5, 6, 7] rfl)
        refine lv_iconst (v := (0 : Int32)) hx hb dX8_take_14 (by decide) ?_
        refine lv_istore (lv' := [(6, .int (0 : Int32)), (0, .ref (o_t 0)), (1, .int l1), (2, .int l2), (3, .int l3), (4, .ref r_a4), (5, .int l5)]) hx hb dX8_take_15 hl (by decide) rfl (fun ls hl => ?_)
        refine lv_iconst (v := (0 : Int32)) hx hb dX8_take_17 (by decide) ?_
        refine lv_istore (lv' := [(7, .int (0 : Int32)), (6, .int (0 : Int32)), (0, .ref (o_t 0)), (1, .int l1), (2, .int l2), (3, .int l3), (4, .ref r_a4), (5, .int l5)]) hx hb dX8_take_18 hl (by decide) rfl (fun ls hl => ?_)
        exact h20 FU _ _ _ _ _ _ _ _ _ _ hf hP hD hS (lv_sub hl [2, 3, 4, 5, 6, 7, 1, 0] rfl)
  refine lv_iconst (v := (0 : Int32)) hx hb dX8_take_0 (by decide) ?_
  refine lv_istore (lv' := [(5, .int (0 : Int32)), (0, .ref (o_t 0)), (1, .int p1), (2, .int p2), (3, .int p3), (4, .ref r_a4)]) hx hb dX8_take_1 hl (by decide) rfl (fun ls hl => ?_)
  exact h3 FU _ _ _ _ _ _ _ _ hf hP hD hS (lv_sub hl [1, 2, 3, 4, 5, 0] rfl)
theorem hd_X8_take : yX8_take.cls ≠ "java/lang/invoke/MethodHandle" ∧ yX8_take.cls ≠ "java/lang/invoke/VarHandle" ∧ (parseMethodDescriptor yX8_take.desc).map (fun d => d.parameters.length) = some 4 := by decide +kernel
set_option maxRecDepth 100000 in
theorem c_X8_take (l : Launch) (D : va_G) (cy : Nat → ClassId) (t : Nat → Nat) (o_t : Nat → Nat) (r_a4 n_a4 : Nat) (x_thrown : Int32) (x_delay : Int32) (x_feel : Int32) (x_turn : Int32) (x_sight : Int32) (x_ball : Int32) (x_w : Int32) (x_h : Int32) (x_n : Int32) (x_players : Int32) (x_hands : Nat → Int32) (x_pressed : Nat → Int32) (x_leftFrom : Nat → Int32) (x_leftTo : Nat → Int32) (x_wait : Nat → Int32) (x_isLost : Nat → Int32) (x_a4 : Nat → Int32) (p1 : Int32) (p2 : Int32) (p3 : Int32) {out : (Nat → Int32)} (hf : X8_take n_a4 x_hands x_pressed x_leftFrom x_leftTo x_wait x_isLost x_a4 p1 p2 p3 = some out) : ctV l yX8_take wsX8_take 2 48 D cy t [.ref (o_t 0), .int p1, .int p2, .int p3, .ref r_a4] (wd_X8_take cy o_t r_a4 n_a4 x_thrown x_delay x_feel x_turn x_sight x_ball x_w x_h x_n x_players x_hands x_pressed x_leftFrom x_leftTo x_wait x_isLost x_a4) (wd_X8_take cy o_t r_a4 n_a4 x_thrown x_delay x_feel x_turn x_sight x_ball x_w x_h x_n x_players x_hands x_pressed x_leftFrom x_leftTo x_wait x_isLost out) := by
  refine ⟨rfl, ?_⟩
  intro sz
  refine Met.ofW (cc := cX8_take) (maxL := 10) (ret := none) (by decide) rfl ?_
  intro p e s m args below meth c s₁ B hml hv
  obtain ⟨rfl, hsz, hP, hK, hD0, hE⟩ := hv
  have hts := atoms_spec (ws := wsX8_take) B.pre
  have hown : s.vm.findClass RX8 = some m.cls := findClass_of_methodNamed B.named
  have hlocks := B.notSynchronized
  subst hsz
  have hD := hD0.self (sz := s.heap.size)
  have hl := lv_entry ([.ref (o_t 0), .int p1, .int p2, .int p3, .ref r_a4]) (n := 10) (Nat.le_of_ble_eq_true rfl)
  rw [lg_entry_eq]
  generalize (lg_sl ([.ref (o_t 0), .int p1, .int p2, .int p3, .ref r_a4]) ++ List.replicate (10 - (lg_sl ([.ref (o_t 0), .int p1, .int p2, .int p3, .ref r_a4])).length) Slot.unset).toArray = ls at hl ⊢
  exact w_X8_take D cy t o_t r_a4 n_a4 x_thrown x_delay x_feel x_turn x_sight x_ball x_w x_h x_n x_players x_hands x_pressed x_leftFrom x_leftTo x_wait x_isLost x_a4 p1 p2 p3 hf B.exec B.bytes hml hown hts hK hE (fun q h => Or.inr h) hP hD va_S.rf hl (fun H locs ls pc hP hD hS hdg => W.vret B.exec B.bytes B.returns (fun t ht hW => ⟨⟨(), rfl, trivial, ctB_of ht hP⟩, hS.F ht⟩) hS.2.2 hdg)

noncomputable def X8_takes (x_delay : Int32) (x_hands : Nat → Int32) (x_pressed : Nat → Int32) (x_leftFrom : Nat → Int32) (x_leftTo : Nat → Int32) (x_wait : Nat → Int32) (x_isLost : Nat → Int32) (x_thrown : Int32) (x_takes : Nat → Int32) (p1 : Int32) (p2 : Int32) (p3 : Int32) (p4 : Int32) : Option (Int32 × Int32 × (Nat → Int32)) :=
  bd (X8_noHand x_hands p1) fun r7 => if r7 = (0 : Int32) then (bd (X8_noHand x_hands p3) fun r15 => if r15 = (0 : Int32) then (bd (X8_noTick p2) fun r22 => if r22 = (0 : Int32) then (bd (X8_in (Int32.toInt64 p4) (0 : Int64) (Int32.toInt64 p2)) fun r34 => if r34 = (0 : Int32) then (some ((-1 : Int32), (0 : Int32), x_takes)) else (bd (X8_take 600 x_hands x_pressed x_leftFrom x_leftTo x_wait x_isLost x_takes p1 p2 x_delay) fun r53 => rd r53 600 (((100 : Int32) * p3) + p4) fun v67 => some (v67, (0 : Int32), r53))) else (some ((-1 : Int32), (0 : Int32), x_takes))) else (some ((-1 : Int32), (0 : Int32), x_takes))) else (some ((-1 : Int32), (0 : Int32), x_takes))
abbrev wd_X8_takes (cy : Nat → ClassId) (o_t : Nat → Nat) (x_thrown : Int32) (x_delay : Int32) (x_feel : Int32) (x_turn : Int32) (x_sight : Int32) (x_ball : Int32) (x_w : Int32) (x_h : Int32) (x_n : Int32) (x_players : Int32) (x_hands : Nat → Int32) (x_pressed : Nat → Int32) (x_leftFrom : Nat → Int32) (x_leftTo : Nat → Int32) (x_wait : Nat → Int32) (x_isLost : Nat → Int32) (x_takes : Nat → Int32) : va_W := [(o_t 0, .inr (8, [.int x_thrown, .ref (o_t 2), .ref (o_t 3), .ref (o_t 4), .ref (o_t 5), .ref (o_t 6), .ref (o_t 7), .ref (o_t 8), .ref (o_t 9), .ref (o_t 10), .ref (o_t 11), .int x_delay, .int x_feel, .int x_turn, .int x_sight, .ref (o_t 16), .ref (o_t 17), .ref (o_t 18), .ref (o_t 19), .int x_ball, .int x_w, .int x_h, .int x_n, .ref (o_t 24), .ref (o_t 25), .ref (o_t 26), .ref (o_t 27), .ref (o_t 28), .ref (o_t 29), .int x_players, .ref (o_t 31), .ref (o_t 32), .ref (o_t 33), .ref (o_t 34), .ref (o_t 35), .ref (o_t 36)])), (o_t 4, .inl (cy 0, 5, .inl x_hands)), (o_t 8, .inl (cy 0, 3000, .inl x_pressed)), (o_t 9, .inl (cy 0, 30, .inl x_leftFrom)), (o_t 10, .inl (cy 0, 30, .inl x_leftTo)), (o_t 16, .inl (cy 0, 36, .inl x_wait)), (o_t 17, .inl (cy 1, 600, .inl x_isLost)), (o_t 25, .inl (cy 0, 600, .inl x_takes))]
set_option maxHeartbeats 4000000 in
set_option maxRecDepth 100000 in
theorem w_X8_takes {p : Program} {l : Launch} {e : Env} {s : State} {m : MethodId} {args : Array Value} {below : List Frame} {meth : Method} {c : Code} {Q : State → Prop} {A : Nat → Prop} {H : Heap} {locs : List Loc} {ls : Array Slot} (D : va_G) (cy : Nat → ClassId) (t : Nat → Nat) (o_t : Nat → Nat) (x_thrown : Int32) (x_delay : Int32) (x_feel : Int32) (x_turn : Int32) (x_sight : Int32) (x_ball : Int32) (x_w : Int32) (x_h : Int32) (x_n : Int32) (x_players : Int32) (x_hands : Nat → Int32) (x_pressed : Nat → Int32) (x_leftFrom : Nat → Int32) (x_leftTo : Nat → Int32) (x_wait : Nat → Int32) (x_isLost : Nat → Int32) (x_takes : Nat → Int32) (p1 : Int32) (p2 : Int32) (p3 : Int32) (p4 : Int32) {out : Int32 × Int32 × (Nat → Int32)} (hf : X8_takes x_delay x_hands x_pressed x_leftFrom x_leftTo x_wait x_isLost x_thrown x_takes p1 p2 p3 p4 = some out) (hx : p.tables.exec = Jvm.exec) (hb : c.code = cX8_takes) (hml : c.maxLocals = 5) (hown : s.vm.findClass RX8 = some m.cls) (hts : ∀ w ∈ wsX8_takes, w.before args s = true) (hK : va_K D vwCl (TYS cy) s) (hE : EV t A s s.heap) (hA : ∀ q, s.heap.size ≤ q → A q) (hP : va_P D vwCl (wd_X8_takes cy o_t x_thrown x_delay x_feel x_turn x_sight x_ball x_w x_h x_n x_players x_hands x_pressed x_leftFrom x_leftTo x_wait x_isLost x_takes) H) (hD : va_D A (wd_X8_takes cy o_t x_thrown x_delay x_feel x_turn x_sight x_ball x_w x_h x_n x_players x_hands x_pressed x_leftFrom x_leftTo x_wait x_isLost x_takes)) (hS : va_S A s.heap H locs) (hl : lv_has ls 5 [(0, .ref (o_t 0)), (1, .int p1), (2, .int p2), (3, .int p3), (4, .int p4)]) (hR : ∀ (H : Heap) (locs : List Loc) (ls : Array Slot) (pc : Nat), va_P D vwCl (wd_X8_takes cy o_t out.2.1 x_delay x_feel x_turn x_sight x_ball x_w x_h x_n x_players x_hands x_pressed x_leftFrom x_leftTo x_wait x_isLost out.2.2) H → va_D A (wd_X8_takes cy o_t out.2.1 x_delay x_feel x_turn x_sight x_ball x_w x_h x_n x_players x_hands x_pressed x_leftFrom x_leftTo x_wait x_isLost out.2.2) → va_S A s.heap H locs → decode cX8_takes pc = .ok (.ireturn, 1) → W p l e (rmm 3 77) s m args below meth c H locs 0 0 Q (F0 m pc ls [.int out.1])) : W p l e (rmm 3 77) s m args below meth c H locs 0 0 Q (F0 m 0 ls []) := by
  have k0 := hts (.fieldLink RX8 100 "SeaGamesModel" "thrown" "I") (List.mem_cons_of_mem _ (List.mem_append_left _ (List.mem_append_left _ (List.mem_of_getElem? (i := 0) rfl))))
  have k1 : ∀ w ∈ u_ws RX8 TX8 36, w ∈ wsX8_takes := fun _ h => List.mem_cons_of_mem _ (List.mem_append_right _ h)
  have k2 := hts (.fieldLink RX8 117 "SeaGamesModel" "delay" "I") (List.mem_cons_of_mem _ (List.mem_append_left _ (List.mem_append_left _ (List.mem_of_getElem? (i := 1) rfl))))
  have k3 := hts (.fieldLink RX8 66 "SeaGamesModel" "takes" "[I") (List.mem_cons_of_mem _ (List.mem_append_left _ (List.mem_append_left _ (List.mem_of_getElem? (i := 2) rfl))))
  rw [X8_takes] at hf
  refine lv_aload_n hx hb dX8_takes_0 rfl (lv_at hl 0 rfl) ?_
  refine lv_iconst (v := (0 : Int32)) hx hb dX8_takes_1 (by decide) ?_
  refine va_put (D := D) (ci := 8) (v := .int (0 : Int32)) (ty := .int) (C := RX8) (T := TX8) (N := 36) hx hb hts k1 tyX8 tyX8_ok nmX8 hown hK hP hD hS 0 rfl rfl 0 (by decide) k0 (fun _ h9 => h9) rfl (by decide +kernel) rfl rfl (Nat.le_of_ble_eq_true rfl) dX8_takes_2 (fun H locs hP hD hS => ?_)
  have hP : va_P D vwCl (wd_X8_takes cy o_t (0 : Int32) x_delay x_feel x_turn x_sight x_ball x_w x_h x_n x_players x_hands x_pressed x_leftFrom x_leftTo x_wait x_isLost x_takes) H := hP
  have hD : va_D A (wd_X8_takes cy o_t (0 : Int32) x_delay x_feel x_turn x_sight x_ball x_w x_h x_n x_players x_hands x_pressed x_leftFrom x_leftTo x_wait x_isLost x_takes) := hD
  refine lv_aload_n hx hb dX8_takes_5 rfl (lv_at hl 0 rfl) ?_
  refine lv_iload_n hx hb dX8_takes_6 rfl (lv_at hl 1 rfl) ?_
  obtain ⟨r7, hr7, hf⟩ := bd_s hf
  refine my_Vi (WS2 := (wd_X8_takes cy o_t (0 : Int32) x_delay x_feel x_turn x_sight x_ball x_w x_h x_n x_players x_hands x_pressed x_leftFrom x_leftTo x_wait x_isLost x_takes)) ⟨hx, hb, hml, hown, hts⟩ (c_X8_noHand l D cy t o_t (0 : Int32) x_delay x_feel x_turn x_sight x_ball x_w x_h x_n x_players x_hands p1 hr7) (cwV 1 hts gX8_takes_X8_noHand rfl rfl rfl ⟨rfl, hd_X8_noHand⟩ ⟨Nat.le_of_ble_eq_true rfl, Nat.le_of_ble_eq_true rfl⟩) hK hE hP hD hS hA [0, 1] 8 8 0 rfl rfl rfl rfl (by decide +kernel) rfl rfl hl.1 rfl (Nat.le_of_ble_eq_true rfl) dX8_takes_7 ⟨Nat.le_of_ble_eq_true rfl, Nat.le_of_ble_eq_true rfl⟩ (fun H locs hP hD hS => ?_)
  refine lv_if_ne (tgt := 40) hx hb dX8_takes_10 (by decide) (fun c10 => ?_) (fun c10 => ?_)
  · have hf := ifn c10 hf
    refine lv_iconst (v := (-1 : Int32)) hx hb dX8_takes_40 (by decide) ?_
    obtain rfl := Option.some.inj hf
    exact hR _ _ _ _ hP hD hS dX8_takes_41
  · have hf := ifp c10 hf
    refine lv_aload_n hx hb dX8_takes_13 rfl (lv_at hl 0 rfl) ?_
    refine lv_iload_n hx hb dX8_takes_14 rfl (lv_at hl 3 rfl) ?_
    obtain ⟨r15, hr15, hf⟩ := bd_s hf
    refine my_Vi (WS2 := (wd_X8_takes cy o_t (0 : Int32) x_delay x_feel x_turn x_sight x_ball x_w x_h x_n x_players x_hands x_pressed x_leftFrom x_leftTo x_wait x_isLost x_takes)) ⟨hx, hb, hml, hown, hts⟩ (c_X8_noHand l D cy t o_t (0 : Int32) x_delay x_feel x_turn x_sight x_ball x_w x_h x_n x_players x_hands p3 hr15) (cwV 1 hts gX8_takes_X8_noHand rfl rfl rfl ⟨rfl, hd_X8_noHand⟩ ⟨Nat.le_of_ble_eq_true rfl, Nat.le_of_ble_eq_true rfl⟩) hK hE hP hD hS hA [0, 1] 8 8 0 rfl rfl rfl rfl (by decide +kernel) rfl rfl hl.1 rfl (Nat.le_of_ble_eq_true rfl) dX8_takes_15 ⟨Nat.le_of_ble_eq_true rfl, Nat.le_of_ble_eq_true rfl⟩ (fun H locs hP hD hS => ?_)
    refine lv_if_ne (tgt := 40) hx hb dX8_takes_18 (by decide) (fun c18 => ?_) (fun c18 => ?_)
    · have hf := ifn c18 hf
      refine lv_iconst (v := (-1 : Int32)) hx hb dX8_takes_40 (by decide) ?_
      obtain rfl := Option.some.inj hf
      exact hR _ _ _ _ hP hD hS dX8_takes_41
    · have hf := ifp c18 hf
      refine lv_iload_n hx hb dX8_takes_21 rfl (lv_at hl 2 rfl) ?_
      obtain ⟨r22, hr22, hf⟩ := bd_s hf
      refine my_Si (WS2 := (wd_X8_takes cy o_t (0 : Int32) x_delay x_feel x_turn x_sight x_ball x_w x_h x_n x_players x_hands x_pressed x_leftFrom x_leftTo x_wait x_isLost x_takes)) ⟨hx, hb, hml, hown, hts⟩ (c_X8_noTick l D cy t p2 hr22) (va_cwS 1 hts gX8_takes_X8_noTick rfl rfl rfl hd_X8_noTick ⟨Nat.le_of_ble_eq_true rfl, Nat.le_of_ble_eq_true rfl⟩) hK hE hP hD hS hA [] 8 rfl rfl (by decide +kernel) rfl rfl hl.1 rfl (Nat.le_of_ble_eq_true rfl) dX8_takes_22 ⟨Nat.le_of_ble_eq_true rfl, Nat.le_of_ble_eq_true rfl⟩ (fun H locs hP hD hS => ?_)
      refine lv_if_ne (tgt := 40) hx hb dX8_takes_25 (by decide) (fun c25 => ?_) (fun c25 => ?_)
      · have hf := ifn c25 hf
        refine lv_iconst (v := (-1 : Int32)) hx hb dX8_takes_40 (by decide) ?_
        obtain rfl := Option.some.inj hf
        exact hR _ _ _ _ hP hD hS dX8_takes_41
      · have hf := ifp c25 hf
        refine lv_iload hx hb dX8_takes_28 (lv_at hl 4 rfl) ?_
        refine lv_i2l (v := (Int32.toInt64 p4)) hx hb dX8_takes_30 rfl ?_
        refine lv_lconst (v := (0 : Int64)) hx hb dX8_takes_31 (by decide) ?_
        refine lv_iload_n hx hb dX8_takes_32 rfl (lv_at hl 2 rfl) ?_
        refine lv_i2l (v := (Int32.toInt64 p2)) hx hb dX8_takes_33 rfl ?_
        obtain ⟨r34, hr34, hf⟩ := bd_s hf
        refine my_Si (WS2 := (wd_X8_takes cy o_t (0 : Int32) x_delay x_feel x_turn x_sight x_ball x_w x_h x_n x_players x_hands x_pressed x_leftFrom x_leftTo x_wait x_isLost x_takes)) ⟨hx, hb, hml, hown, hts⟩ (c_X8_in l D cy t (Int32.toInt64 p4) (0 : Int64) (Int32.toInt64 p2) hr34) (va_cwS 3 hts gX8_takes_X8_in rfl rfl rfl hd_X8_in ⟨Nat.le_of_ble_eq_true rfl, Nat.le_of_ble_eq_true rfl⟩) hK hE hP hD hS hA [] 8 rfl rfl (by decide +kernel) rfl rfl hl.1 rfl (Nat.le_of_ble_eq_true rfl) dX8_takes_34 ⟨Nat.le_of_ble_eq_true rfl, Nat.le_of_ble_eq_true rfl⟩ (fun H locs hP hD hS => ?_)
        refine lv_if_ne (tgt := 42) hx hb dX8_takes_37 (by decide) (fun c37 => ?_) (fun c37 => ?_)
        · have hf := ifn c37 hf
          refine lv_aload_n hx hb dX8_takes_42 rfl (lv_at hl 0 rfl) ?_
          refine lv_iload_n hx hb dX8_takes_43 rfl (lv_at hl 1 rfl) ?_
          refine lv_iload_n hx hb dX8_takes_44 rfl (lv_at hl 2 rfl) ?_
          refine lv_aload_n hx hb dX8_takes_45 rfl (lv_at hl 0 rfl) ?_
          refine va_get (D := D) (ci := 8) (v := .int x_delay) (C := RX8) (T := TX8) (N := 36) hx hb hts k1 hown hK hP 0 rfl rfl 11 (by decide) k2 (fun _ h9 => h9) rfl dX8_takes_46 ?_
          refine lv_aload_n hx hb dX8_takes_49 rfl (lv_at hl 0 rfl) ?_
          refine va_get (D := D) (ci := 8) (v := .ref (o_t 25)) (C := RX8) (T := TX8) (N := 36) hx hb hts k1 hown hK hP 0 rfl rfl 24 (by decide) k3 (fun _ h9 => h9) rfl dX8_takes_50 ?_
          obtain ⟨r53, hr53, hf⟩ := bd_s hf
          refine my_Vv (WS2 := (wd_X8_takes cy o_t (0 : Int32) x_delay x_feel x_turn x_sight x_ball x_w x_h x_n x_players x_hands x_pressed x_leftFrom x_leftTo x_wait x_isLost r53)) ⟨hx, hb, hml, hown, hts⟩ (c_X8_take l D cy t o_t (o_t 25) 600 (0 : Int32) x_delay x_feel x_turn x_sight x_ball x_w x_h x_n x_players x_hands x_pressed x_leftFrom x_leftTo x_wait x_isLost x_takes p1 p2 x_delay hr53) (cwV 4 hts gX8_takes_X8_take rfl rfl rfl ⟨rfl, hd_X8_take⟩ ⟨Nat.le_of_ble_eq_true rfl, Nat.le_of_ble_eq_true rfl⟩) hK hE hP hD hS hA [0, 1, 2, 3, 4, 5, 6, 7] 8 8 0 rfl rfl rfl rfl (by decide +kernel) rfl rfl hl.1 rfl (Nat.le_of_ble_eq_true rfl) dX8_takes_53 ⟨Nat.le_of_ble_eq_true rfl, Nat.le_of_ble_eq_true rfl⟩ (fun H locs hP hD hS => ?_)
          refine lv_aload_n hx hb dX8_takes_56 rfl (lv_at hl 0 rfl) ?_
          refine va_get (D := D) (ci := 8) (v := .ref (o_t 25)) (C := RX8) (T := TX8) (N := 36) hx hb hts k1 hown hK hP 0 rfl rfl 24 (by decide) k3 (fun _ h9 => h9) rfl dX8_takes_57 ?_
          refine lv_bipush (v := (100 : Int32)) hx hb dX8_takes_60 (by decide) ?_
          refine lv_iload_n hx hb dX8_takes_62 rfl (lv_at hl 3 rfl) ?_
          refine lv_imul hx hb dX8_takes_63 ?_
          refine lv_iload hx hb dX8_takes_64 (lv_at hl 4 rfl) ?_
          refine lv_iadd hx hb dX8_takes_66 ?_
          obtain ⟨v67, b67, ev67, hf⟩ := rd_s hf
          refine my_iald hx hb hK hP 7 rfl b67 ev67 dX8_takes_67 ?_
          obtain rfl := Option.some.inj hf
          exact hR _ _ _ _ hP hD hS dX8_takes_68
        · have hf := ifp c37 hf
          refine lv_iconst (v := (-1 : Int32)) hx hb dX8_takes_40 (by decide) ?_
          obtain rfl := Option.some.inj hf
          exact hR _ _ _ _ hP hD hS dX8_takes_41
theorem hd_X8_takes : yX8_takes.cls ≠ "java/lang/invoke/MethodHandle" ∧ yX8_takes.cls ≠ "java/lang/invoke/VarHandle" ∧ (parseMethodDescriptor yX8_takes.desc).map (fun d => d.parameters.length) = some 4 := by decide +kernel
set_option maxRecDepth 100000 in
theorem c_X8_takes (l : Launch) (D : va_G) (cy : Nat → ClassId) (t : Nat → Nat) (o_t : Nat → Nat) (x_thrown : Int32) (x_delay : Int32) (x_feel : Int32) (x_turn : Int32) (x_sight : Int32) (x_ball : Int32) (x_w : Int32) (x_h : Int32) (x_n : Int32) (x_players : Int32) (x_hands : Nat → Int32) (x_pressed : Nat → Int32) (x_leftFrom : Nat → Int32) (x_leftTo : Nat → Int32) (x_wait : Nat → Int32) (x_isLost : Nat → Int32) (x_takes : Nat → Int32) (p1 : Int32) (p2 : Int32) (p3 : Int32) (p4 : Int32) {out : Int32 × Int32 × (Nat → Int32)} (hf : X8_takes x_delay x_hands x_pressed x_leftFrom x_leftTo x_wait x_isLost x_thrown x_takes p1 p2 p3 p4 = some out) : ctI l yX8_takes wsX8_takes 3 77 D cy t [.ref (o_t 0), .int p1, .int p2, .int p3, .int p4] (wd_X8_takes cy o_t x_thrown x_delay x_feel x_turn x_sight x_ball x_w x_h x_n x_players x_hands x_pressed x_leftFrom x_leftTo x_wait x_isLost x_takes) (wd_X8_takes cy o_t out.2.1 x_delay x_feel x_turn x_sight x_ball x_w x_h x_n x_players x_hands x_pressed x_leftFrom x_leftTo x_wait x_isLost out.2.2) out.1 := by
  refine ⟨rfl, ?_⟩
  intro sz
  refine Met.ofW (cc := cX8_takes) (maxL := 5) (ret := (some .int)) (by decide) rfl ?_
  intro p e s m args below meth c s₁ B hml hv
  obtain ⟨rfl, hsz, hP, hK, hD0, hE⟩ := hv
  have hts := atoms_spec (ws := wsX8_takes) B.pre
  have hown : s.vm.findClass RX8 = some m.cls := findClass_of_methodNamed B.named
  have hlocks := B.notSynchronized
  subst hsz
  have hD := hD0.self (sz := s.heap.size)
  have hl := lv_entry ([.ref (o_t 0), .int p1, .int p2, .int p3, .int p4]) (n := 5) (Nat.le_of_ble_eq_true rfl)
  rw [lg_entry_eq]
  generalize (lg_sl ([.ref (o_t 0), .int p1, .int p2, .int p3, .int p4]) ++ List.replicate (5 - (lg_sl ([.ref (o_t 0), .int p1, .int p2, .int p3, .int p4])).length) Slot.unset).toArray = ls at hl ⊢
  exact w_X8_takes D cy t o_t x_thrown x_delay x_feel x_turn x_sight x_ball x_w x_h x_n x_players x_hands x_pressed x_leftFrom x_leftTo x_wait x_isLost x_takes p1 p2 p3 p4 hf B.exec B.bytes hml hown hts hK hE (fun q h => Or.inr h) hP hD va_S.rf hl (fun H locs ls pc hP hD hS hdg => W.iret B.exec B.bytes B.returns (fun t ht hW => ⟨⟨_, (), rfl, rfl, ctB_of ht hP⟩, hS.F ht⟩) hS.2.2 hdg)

noncomputable def X8_show_L21_B (x_delay : Int32) (x_wide : Nat → Int32) (x_tall : Nat → Int32) (x_hands : Nat → Int32) (x_power : Nat → Int32) (x_spin : Nat → Int32) (x_seed : Nat → Int32) (x_pressed : Nat → Int32) (x_leftFrom : Nat → Int32) (x_leftTo : Nat → Int32) (x_wait : Nat → Int32) (x_isLost : Nat → Int32) (rec21 : Int32 → Int32 → Int32 → Int32 → (Nat → Int32) → (Nat → Int32) → (Nat → Int32) → Int32 → Int32 → Option (Int32 × Int32 × Int32 × Int32 × (Nat → Int32) × (Nat → Int32) × (Nat → Int32))) (x_ball : Int32) (x_w : Int32) (x_h : Int32) (x_n : Int32) (x_place : Nat → Int32) (x_points : Nat → Int32) (x_takes : Nat → Int32) (l2 : Int32) (l3 : Int32) : Option (Int32 × Int32 × Int32 × Int32 × (Nat → Int32) × (Nat → Int32) × (Nat → Int32)) :=
  if l2 < l3 then (some (x_ball, x_w, x_h, x_n, x_place, x_points, x_takes)) else (rd x_power 5 (4 : Int32) fun v39 => bd (X8_step 600 x_w x_h x_n x_spin x_seed x_leftFrom x_leftTo x_takes x_ball x_place x_points (4 : Int32) l3 (0 : Int32) v39) fun r40 => nm (l3 + (1 : Int32)) fun v43 => rec21 r40.1 x_w x_h x_n r40.2.1 r40.2.2 x_takes l2 v43)
noncomputable def X8_show_L21 (x_delay : Int32) (x_wide : Nat → Int32) (x_tall : Nat → Int32) (x_hands : Nat → Int32) (x_power : Nat → Int32) (x_spin : Nat → Int32) (x_seed : Nat → Int32) (x_pressed : Nat → Int32) (x_leftFrom : Nat → Int32) (x_leftTo : Nat → Int32) (x_wait : Nat → Int32) (x_isLost : Nat → Int32) : Nat → Int32 → Int32 → Int32 → Int32 → (Nat → Int32) → (Nat → Int32) → (Nat → Int32) → Int32 → Int32 → Option (Int32 × Int32 × Int32 × Int32 × (Nat → Int32) × (Nat → Int32) × (Nat → Int32))
  | 0, _, _, _, _, _, _, _, _, _ => none
  | n + 1, y0, y1, y2, y3, y4, y5, y6, y7, y8 => X8_show_L21_B x_delay x_wide x_tall x_hands x_power x_spin x_seed x_pressed x_leftFrom x_leftTo x_wait x_isLost  (X8_show_L21 x_delay x_wide x_tall x_hands x_power x_spin x_seed x_pressed x_leftFrom x_leftTo x_wait x_isLost  n) y0 y1 y2 y3 y4 y5 y6 y7 y8
noncomputable def X8_show (x_delay : Int32) (x_wide : Nat → Int32) (x_tall : Nat → Int32) (x_hands : Nat → Int32) (x_power : Nat → Int32) (x_spin : Nat → Int32) (x_seed : Nat → Int32) (x_pressed : Nat → Int32) (x_leftFrom : Nat → Int32) (x_leftTo : Nat → Int32) (x_wait : Nat → Int32) (x_isLost : Nat → Int32) (x_ball : Int32) (x_w : Int32) (x_h : Int32) (x_n : Int32) (x_place : Nat → Int32) (x_points : Nat → Int32) (x_takes : Nat → Int32) (p1 : Int32) (p2 : Int32) : Option (Int32 × Int32 × Int32 × Int32 × (Nat → Int32) × (Nat → Int32) × (Nat → Int32)) :=
  bd (X8_take 600 x_hands x_pressed x_leftFrom x_leftTo x_wait x_isLost x_takes p1 p2 x_delay) fun r11 => bd (X8_start x_wide x_tall x_hands x_ball x_w x_h x_n x_place x_points (4 : Int32)) fun r16 => X8_show_L21 x_delay x_wide x_tall x_hands x_power x_spin x_seed x_pressed x_leftFrom x_leftTo x_wait x_isLost  FU r16.1 r16.2.1 r16.2.2.1 r16.2.2.2.1 r16.2.2.2.2.1 r16.2.2.2.2.2 r11 p2 (0 : Int32)
abbrev wd_X8_show (cy : Nat → ClassId) (o_t : Nat → Nat) (x_thrown : Int32) (x_delay : Int32) (x_feel : Int32) (x_turn : Int32) (x_sight : Int32) (x_ball : Int32) (x_w : Int32) (x_h : Int32) (x_n : Int32) (x_players : Int32) (x_wide : Nat → Int32) (x_tall : Nat → Int32) (x_hands : Nat → Int32) (x_power : Nat → Int32) (x_spin : Nat → Int32) (x_seed : Nat → Int32) (x_pressed : Nat → Int32) (x_leftFrom : Nat → Int32) (x_leftTo : Nat → Int32) (x_wait : Nat → Int32) (x_isLost : Nat → Int32) (x_place : Nat → Int32) (x_points : Nat → Int32) (x_takes : Nat → Int32) : va_W := [(o_t 0, .inr (8, [.int x_thrown, .ref (o_t 2), .ref (o_t 3), .ref (o_t 4), .ref (o_t 5), .ref (o_t 6), .ref (o_t 7), .ref (o_t 8), .ref (o_t 9), .ref (o_t 10), .ref (o_t 11), .int x_delay, .int x_feel, .int x_turn, .int x_sight, .ref (o_t 16), .ref (o_t 17), .ref (o_t 18), .ref (o_t 19), .int x_ball, .int x_w, .int x_h, .int x_n, .ref (o_t 24), .ref (o_t 25), .ref (o_t 26), .ref (o_t 27), .ref (o_t 28), .ref (o_t 29), .int x_players, .ref (o_t 31), .ref (o_t 32), .ref (o_t 33), .ref (o_t 34), .ref (o_t 35), .ref (o_t 36)])), (o_t 2, .inl (cy 0, 5, .inl x_wide)), (o_t 3, .inl (cy 0, 5, .inl x_tall)), (o_t 4, .inl (cy 0, 5, .inl x_hands)), (o_t 5, .inl (cy 0, 5, .inl x_power)), (o_t 6, .inl (cy 0, 5, .inl x_spin)), (o_t 7, .inl (cy 0, 5, .inl x_seed)), (o_t 8, .inl (cy 0, 3000, .inl x_pressed)), (o_t 9, .inl (cy 0, 30, .inl x_leftFrom)), (o_t 10, .inl (cy 0, 30, .inl x_leftTo)), (o_t 16, .inl (cy 0, 36, .inl x_wait)), (o_t 17, .inl (cy 1, 600, .inl x_isLost)), (o_t 18, .inl (cy 0, 6, .inl x_place)), (o_t 19, .inl (cy 0, 6, .inl x_points)), (o_t 25, .inl (cy 0, 600, .inl x_takes))]
set_option maxHeartbeats 4000000 in
set_option maxRecDepth 100000 in
theorem w_X8_show {p : Program} {l : Launch} {e : Env} {s : State} {m : MethodId} {args : Array Value} {below : List Frame} {meth : Method} {c : Code} {Q : State → Prop} {A : Nat → Prop} {H : Heap} {locs : List Loc} {ls : Array Slot} (D : va_G) (cy : Nat → ClassId) (t : Nat → Nat) (o_t : Nat → Nat) (x_thrown : Int32) (x_delay : Int32) (x_feel : Int32) (x_turn : Int32) (x_sight : Int32) (x_ball : Int32) (x_w : Int32) (x_h : Int32) (x_n : Int32) (x_players : Int32) (x_wide : Nat → Int32) (x_tall : Nat → Int32) (x_hands : Nat → Int32) (x_power : Nat → Int32) (x_spin : Nat → Int32) (x_seed : Nat → Int32) (x_pressed : Nat → Int32) (x_leftFrom : Nat → Int32) (x_leftTo : Nat → Int32) (x_wait : Nat → Int32) (x_isLost : Nat → Int32) (x_place : Nat → Int32) (x_points : Nat → Int32) (x_takes : Nat → Int32) (p1 : Int32) (p2 : Int32) {out : Int32 × Int32 × Int32 × Int32 × (Nat → Int32) × (Nat → Int32) × (Nat → Int32)} (hf : X8_show x_delay x_wide x_tall x_hands x_power x_spin x_seed x_pressed x_leftFrom x_leftTo x_wait x_isLost x_ball x_w x_h x_n x_place x_points x_takes p1 p2 = some out) (hx : p.tables.exec = Jvm.exec) (hb : c.code = cX8_show) (hml : c.maxLocals = 4) (hown : s.vm.findClass RX8 = some m.cls) (hts : ∀ w ∈ wsX8_show, w.before args s = true) (hK : va_K D vwCl (TYS cy) s) (hE : EV t A s s.heap) (hA : ∀ q, s.heap.size ≤ q → A q) (hP : va_P D vwCl (wd_X8_show cy o_t x_thrown x_delay x_feel x_turn x_sight x_ball x_w x_h x_n x_players x_wide x_tall x_hands x_power x_spin x_seed x_pressed x_leftFrom x_leftTo x_wait x_isLost x_place x_points x_takes) H) (hD : va_D A (wd_X8_show cy o_t x_thrown x_delay x_feel x_turn x_sight x_ball x_w x_h x_n x_players x_wide x_tall x_hands x_power x_spin x_seed x_pressed x_leftFrom x_leftTo x_wait x_isLost x_place x_points x_takes)) (hS : va_S A s.heap H locs) (hl : lv_has ls 4 [(0, .ref (o_t 0)), (1, .int p1), (2, .int p2)]) (hR : ∀ (H : Heap) (locs : List Loc) (ls : Array Slot) (pc : Nat), va_P D vwCl (wd_X8_show cy o_t x_thrown x_delay x_feel x_turn x_sight out.1 out.2.1 out.2.2.1 out.2.2.2.1 x_players x_wide x_tall x_hands x_power x_spin x_seed x_pressed x_leftFrom x_leftTo x_wait x_isLost out.2.2.2.2.1 out.2.2.2.2.2.1 out.2.2.2.2.2.2) H → va_D A (wd_X8_show cy o_t x_thrown x_delay x_feel x_turn x_sight out.1 out.2.1 out.2.2.1 out.2.2.2.1 x_players x_wide x_tall x_hands x_power x_spin x_seed x_pressed x_leftFrom x_leftTo x_wait x_isLost out.2.2.2.2.1 out.2.2.2.2.2.1 out.2.2.2.2.2.2) → va_S A s.heap H locs → decode cX8_show pc = .ok (.return_, 1) → W p l e (rmm 5 127) s m args below meth c H locs 0 0 Q (F0 m pc ls [])) : W p l e (rmm 5 127) s m args below meth c H locs 0 0 Q (F0 m 0 ls []) := by
  have k0 := hts (.fieldLink RX8 117 "SeaGamesModel" "delay" "I") (List.mem_cons_of_mem _ (List.mem_append_left _ (List.mem_append_left _ (List.mem_of_getElem? (i := 0) rfl))))
  have k1 : ∀ w ∈ u_ws RX8 TX8 36, w ∈ wsX8_show := fun _ h => List.mem_cons_of_mem _ (List.mem_append_right _ h)
  have k2 := hts (.fieldLink RX8 66 "SeaGamesModel" "takes" "[I") (List.mem_cons_of_mem _ (List.mem_append_left _ (List.mem_append_left _ (List.mem_of_getElem? (i := 1) rfl))))
  have k3 := hts (.fieldLink RX8 19 "SeaGamesModel" "power" "[I") (List.mem_cons_of_mem _ (List.mem_append_left _ (List.mem_append_left _ (List.mem_of_getElem? (i := 2) rfl))))
  rw [X8_show] at hf
  have h21 : ∀ (n21 : Nat) (x_ball : Int32) (x_w : Int32) (x_h : Int32) (x_n : Int32) (x_place : Nat → Int32) (x_points : Nat → Int32) (x_takes : Nat → Int32) (l2 : Int32) (l3 : Int32) (H : Heap) (locs : List Loc) (ls : Array Slot), X8_show_L21 x_delay x_wide x_tall x_hands x_power x_spin x_seed x_pressed x_leftFrom x_leftTo x_wait x_isLost n21 x_ball x_w x_h x_n x_place x_points x_takes l2 l3 = some out → va_P D vwCl (wd_X8_show cy o_t x_thrown x_delay x_feel x_turn x_sight x_ball x_w x_h x_n x_players x_wide x_tall x_hands x_power x_spin x_seed x_pressed x_leftFrom x_leftTo x_wait x_isLost x_place x_points x_takes) H → va_D A (wd_X8_show cy o_t x_thrown x_delay x_feel x_turn x_sight x_ball x_w x_h x_n x_players x_wide x_tall x_hands x_power x_spin x_seed x_pressed x_leftFrom x_leftTo x_wait x_isLost x_place x_points x_takes) → va_S A s.heap H locs → lv_has ls 4 [(0, .ref (o_t 0)), (2, .int l2), (3, .int l3)] → W p l e (rmm 5 127) s m args below meth c H locs 0 0 Q (F0 m 21 ls []) := by
    intro n21
    induction n21 with
    | zero =>
      intro _ _ _ _ _ _ _ _ _ _ _ _ hf
      exact nomatch (show (none : Option _) = some out from hf)
    | succ n21 ih21 =>
      intro x_ball x_w x_h x_n x_place x_points x_takes l2 l3 H locs ls hf hP hD hS hl
      have hf : X8_show_L21_B x_delay x_wide x_tall x_hands x_power x_spin x_seed x_pressed x_leftFrom x_leftTo x_wait x_isLost (X8_show_L21 x_delay x_wide x_tall x_hands x_power x_spin x_seed x_pressed x_leftFrom x_leftTo x_wait x_isLost n21) x_ball x_w x_h x_n x_place x_points x_takes l2 l3 = some out := hf
      rw [X8_show_L21_B] at hf
      refine lv_iload_n hx hb dX8_show_21 rfl (lv_at hl 2 rfl) ?_
      refine lv_iload_n hx hb dX8_show_22 rfl (lv_at hl 1 rfl) ?_
      refine lv_icmp_gt (tgt := 49) hx hb dX8_show_23 (by decide) (fun c23 => ?_) (fun c23 => ?_)
      · have hf := ifp c23 hf
        obtain rfl := Option.some.inj hf
        exact hR _ _ _ _ hP hD hS dX8_show_49
      · have hf := ifn c23 hf
        refine lv_aload_n hx hb dX8_show_26 rfl (lv_at hl 0 rfl) ?_
        refine lv_iconst (v := (4 : Int32)) hx hb dX8_show_27 (by decide) ?_
        refine lv_iload_n hx hb dX8_show_28 rfl (lv_at hl 2 rfl) ?_
        refine lv_aload_n hx hb dX8_show_29 rfl (lv_at hl 0 rfl) ?_
        refine va_get (D := D) (ci := 8) (v := .ref (o_t 25)) (C := RX8) (T := TX8) (N := 36) hx hb hts k1 hown hK hP 0 rfl rfl 24 (by decide) k2 (fun _ h9 => h9) rfl dX8_show_30 ?_
        refine lv_iconst (v := (0 : Int32)) hx hb dX8_show_33 (by decide) ?_
        refine lv_aload_n hx hb dX8_show_34 rfl (lv_at hl 0 rfl) ?_
        refine va_get (D := D) (ci := 8) (v := .ref (o_t 5)) (C := RX8) (T := TX8) (N := 36) hx hb hts k1 hown hK hP 0 rfl rfl 4 (by decide) k3 (fun _ h9 => h9) rfl dX8_show_35 ?_
        refine lv_iconst (v := (4 : Int32)) hx hb dX8_show_38 (by decide) ?_
        obtain ⟨v39, b39, ev39, hf⟩ := rd_s hf
        refine my_iald hx hb hK hP 4 rfl b39 ev39 dX8_show_39 ?_
        obtain ⟨r40, hr40, hf⟩ := bd_s hf
        refine my_Vv (WS2 := (wd_X8_show cy o_t x_thrown x_delay x_feel x_turn x_sight r40.1 x_w x_h x_n x_players x_wide x_tall x_hands x_power x_spin x_seed x_pressed x_leftFrom x_leftTo x_wait x_isLost r40.2.1 r40.2.2 x_takes)) ⟨hx, hb, hml, hown, hts⟩ (c_X8_step l D cy t o_t (o_t 25) 600 x_thrown x_delay x_feel x_turn x_sight x_ball x_w x_h x_n x_players x_spin x_seed x_leftFrom x_leftTo x_place x_points x_takes (4 : Int32) l3 (0 : Int32) v39 hr40) (cwV 5 hts gX8_show_X8_step rfl rfl rfl ⟨rfl, hd_X8_step⟩ ⟨Nat.le_of_ble_eq_true rfl, Nat.le_of_ble_eq_true rfl⟩) hK hE hP hD hS hA [0, 5, 6, 8, 9, 12, 13, 14] 15 8 0 rfl rfl rfl rfl (by decide +kernel) rfl rfl hl.1 rfl (Nat.le_of_ble_eq_true rfl) dX8_show_40 ⟨Nat.le_of_ble_eq_true rfl, Nat.le_of_ble_eq_true rfl⟩ (fun H locs hP hD hS => ?_)
        obtain ⟨v43, ev43, hf⟩ := nm_s hf
        refine lv_iinc (v := v43) (lv' := [(3, .int v43), (0, .ref (o_t 0)), (2, .int l2)]) hx hb dX8_show_43 hl (k := 2) rfl (by rw [ev43]; rfl) (by decide) rfl (fun ls hl => ?_)
        refine lv_goto (tgt := 21) hx hb dX8_show_46 (by decide) ?_
        exact ih21 _ _ _ _ _ _ _ _ _ _ _ _ hf hP hD hS (lv_sub hl [1, 2, 0] rfl)
  refine lv_aload_n hx hb dX8_show_0 rfl (lv_at hl 0 rfl) ?_
  refine lv_iload_n hx hb dX8_show_1 rfl (lv_at hl 1 rfl) ?_
  refine lv_iload_n hx hb dX8_show_2 rfl (lv_at hl 2 rfl) ?_
  refine lv_aload_n hx hb dX8_show_3 rfl (lv_at hl 0 rfl) ?_
  refine va_get (D := D) (ci := 8) (v := .int x_delay) (C := RX8) (T := TX8) (N := 36) hx hb hts k1 hown hK hP 0 rfl rfl 11 (by decide) k0 (fun _ h9 => h9) rfl dX8_show_4 ?_
  refine lv_aload_n hx hb dX8_show_7 rfl (lv_at hl 0 rfl) ?_
  refine va_get (D := D) (ci := 8) (v := .ref (o_t 25)) (C := RX8) (T := TX8) (N := 36) hx hb hts k1 hown hK hP 0 rfl rfl 24 (by decide) k2 (fun _ h9 => h9) rfl dX8_show_8 ?_
  obtain ⟨r11, hr11, hf⟩ := bd_s hf
  refine my_Vv (WS2 := (wd_X8_show cy o_t x_thrown x_delay x_feel x_turn x_sight x_ball x_w x_h x_n x_players x_wide x_tall x_hands x_power x_spin x_seed x_pressed x_leftFrom x_leftTo x_wait x_isLost x_place x_points r11)) ⟨hx, hb, hml, hown, hts⟩ (c_X8_take l D cy t o_t (o_t 25) 600 x_thrown x_delay x_feel x_turn x_sight x_ball x_w x_h x_n x_players x_hands x_pressed x_leftFrom x_leftTo x_wait x_isLost x_takes p1 p2 x_delay hr11) (cwV 4 hts gX8_show_X8_take rfl rfl rfl ⟨rfl, hd_X8_take⟩ ⟨Nat.le_of_ble_eq_true rfl, Nat.le_of_ble_eq_true rfl⟩) hK hE hP hD hS hA [0, 3, 7, 8, 9, 10, 11, 14] 15 8 0 rfl rfl rfl rfl (by decide +kernel) rfl rfl hl.1 rfl (Nat.le_of_ble_eq_true rfl) dX8_show_11 ⟨Nat.le_of_ble_eq_true rfl, Nat.le_of_ble_eq_true rfl⟩ (fun H locs hP hD hS => ?_)
  refine lv_aload_n hx hb dX8_show_14 rfl (lv_at hl 0 rfl) ?_
  refine lv_iconst (v := (4 : Int32)) hx hb dX8_show_15 (by decide) ?_
  obtain ⟨r16, hr16, hf⟩ := bd_s hf
  refine my_Vv (WS2 := (wd_X8_show cy o_t x_thrown x_delay x_feel x_turn x_sight r16.1 r16.2.1 r16.2.2.1 r16.2.2.2.1 x_players x_wide x_tall x_hands x_power x_spin x_seed x_pressed x_leftFrom x_leftTo x_wait x_isLost r16.2.2.2.2.1 r16.2.2.2.2.2 r11)) ⟨hx, hb, hml, hown, hts⟩ (c_X8_start l D cy t o_t x_thrown x_delay x_feel x_turn x_sight x_ball x_w x_h x_n x_players x_wide x_tall x_hands x_place x_points (4 : Int32) hr16) (cwV 1 hts gX8_show_X8_start rfl rfl rfl ⟨rfl, hd_X8_start⟩ ⟨Nat.le_of_ble_eq_true rfl, Nat.le_of_ble_eq_true rfl⟩) hK hE hP hD hS hA [0, 1, 2, 3, 12, 13] 15 8 0 rfl rfl rfl rfl (by decide +kernel) rfl rfl hl.1 rfl (Nat.le_of_ble_eq_true rfl) dX8_show_16 ⟨Nat.le_of_ble_eq_true rfl, Nat.le_of_ble_eq_true rfl⟩ (fun H locs hP hD hS => ?_)
  refine lv_iconst (v := (0 : Int32)) hx hb dX8_show_19 (by decide) ?_
  refine lv_istore_n (lv' := [(3, .int (0 : Int32)), (0, .ref (o_t 0)), (1, .int p1), (2, .int p2)]) hx hb dX8_show_20 rfl hl (by decide) rfl (fun ls hl => ?_)
  exact h21 FU _ _ _ _ _ _ _ _ _ _ _ _ hf hP hD hS (lv_sub hl [1, 3, 0] rfl)
theorem hd_X8_show : yX8_show.cls ≠ "java/lang/invoke/MethodHandle" ∧ yX8_show.cls ≠ "java/lang/invoke/VarHandle" ∧ (parseMethodDescriptor yX8_show.desc).map (fun d => d.parameters.length) = some 2 := by decide +kernel
set_option maxRecDepth 100000 in
theorem c_X8_show (l : Launch) (D : va_G) (cy : Nat → ClassId) (t : Nat → Nat) (o_t : Nat → Nat) (x_thrown : Int32) (x_delay : Int32) (x_feel : Int32) (x_turn : Int32) (x_sight : Int32) (x_ball : Int32) (x_w : Int32) (x_h : Int32) (x_n : Int32) (x_players : Int32) (x_wide : Nat → Int32) (x_tall : Nat → Int32) (x_hands : Nat → Int32) (x_power : Nat → Int32) (x_spin : Nat → Int32) (x_seed : Nat → Int32) (x_pressed : Nat → Int32) (x_leftFrom : Nat → Int32) (x_leftTo : Nat → Int32) (x_wait : Nat → Int32) (x_isLost : Nat → Int32) (x_place : Nat → Int32) (x_points : Nat → Int32) (x_takes : Nat → Int32) (p1 : Int32) (p2 : Int32) {out : Int32 × Int32 × Int32 × Int32 × (Nat → Int32) × (Nat → Int32) × (Nat → Int32)} (hf : X8_show x_delay x_wide x_tall x_hands x_power x_spin x_seed x_pressed x_leftFrom x_leftTo x_wait x_isLost x_ball x_w x_h x_n x_place x_points x_takes p1 p2 = some out) : ctV l yX8_show wsX8_show 5 127 D cy t [.ref (o_t 0), .int p1, .int p2] (wd_X8_show cy o_t x_thrown x_delay x_feel x_turn x_sight x_ball x_w x_h x_n x_players x_wide x_tall x_hands x_power x_spin x_seed x_pressed x_leftFrom x_leftTo x_wait x_isLost x_place x_points x_takes) (wd_X8_show cy o_t x_thrown x_delay x_feel x_turn x_sight out.1 out.2.1 out.2.2.1 out.2.2.2.1 x_players x_wide x_tall x_hands x_power x_spin x_seed x_pressed x_leftFrom x_leftTo x_wait x_isLost out.2.2.2.2.1 out.2.2.2.2.2.1 out.2.2.2.2.2.2) := by
  refine ⟨rfl, ?_⟩
  intro sz
  refine Met.ofW (cc := cX8_show) (maxL := 4) (ret := none) (by decide) rfl ?_
  intro p e s m args below meth c s₁ B hml hv
  obtain ⟨rfl, hsz, hP, hK, hD0, hE⟩ := hv
  have hts := atoms_spec (ws := wsX8_show) B.pre
  have hown : s.vm.findClass RX8 = some m.cls := findClass_of_methodNamed B.named
  have hlocks := B.notSynchronized
  subst hsz
  have hD := hD0.self (sz := s.heap.size)
  have hl := lv_entry ([.ref (o_t 0), .int p1, .int p2]) (n := 4) (Nat.le_of_ble_eq_true rfl)
  rw [lg_entry_eq]
  generalize (lg_sl ([.ref (o_t 0), .int p1, .int p2]) ++ List.replicate (4 - (lg_sl ([.ref (o_t 0), .int p1, .int p2])).length) Slot.unset).toArray = ls at hl ⊢
  exact w_X8_show D cy t o_t x_thrown x_delay x_feel x_turn x_sight x_ball x_w x_h x_n x_players x_wide x_tall x_hands x_power x_spin x_seed x_pressed x_leftFrom x_leftTo x_wait x_isLost x_place x_points x_takes p1 p2 hf B.exec B.bytes hml hown hts hK hE (fun q h => Or.inr h) hP hD va_S.rf hl (fun H locs ls pc hP hD hS hdg => W.vret B.exec B.bytes B.returns (fun t ht hW => ⟨⟨(), rfl, trivial, ctB_of ht hP⟩, hS.F ht⟩) hS.2.2 hdg)

noncomputable def X8_shown (x_delay : Int32) (x_wide : Nat → Int32) (x_tall : Nat → Int32) (x_hands : Nat → Int32) (x_power : Nat → Int32) (x_spin : Nat → Int32) (x_seed : Nat → Int32) (x_pressed : Nat → Int32) (x_leftFrom : Nat → Int32) (x_leftTo : Nat → Int32) (x_wait : Nat → Int32) (x_isLost : Nat → Int32) (x_thrown : Int32) (x_ball : Int32) (x_w : Int32) (x_h : Int32) (x_n : Int32) (x_place : Nat → Int32) (x_points : Nat → Int32) (x_takes : Nat → Int32) (p1 : Int32) (p2 : Int32) (p3 : Int32) : Option (Int32 × Int32 × Int32 × Int32 × Int32 × Int32 × (Nat → Int32) × (Nat → Int32) × (Nat → Int32)) :=
  bd (X8_noHand x_hands p1) fun r7 => if r7 = (0 : Int32) then (bd (X8_noTick p2) fun r14 => if r14 = (0 : Int32) then (rd x_hands 5 (4 : Int32) fun v29 => bd (X8_noWhat p3 v29) fun r30 => if r30 = (0 : Int32) then (bd (X8_show x_delay x_wide x_tall x_hands x_power x_spin x_seed x_pressed x_leftFrom x_leftTo x_wait x_isLost x_ball x_w x_h x_n x_place x_points x_takes p1 p2) fun r42 => bd (X8_seen r42.1 r42.2.2.2.2.1 r42.2.2.2.2.2.1 p3) fun r47 => some (r47, (0 : Int32), r42.1, r42.2.1, r42.2.2.1, r42.2.2.2.1, r42.2.2.2.2.1, r42.2.2.2.2.2.1, r42.2.2.2.2.2.2)) else (some ((-2 : Int32), (0 : Int32), x_ball, x_w, x_h, x_n, x_place, x_points, x_takes))) else (some ((-1 : Int32), (0 : Int32), x_ball, x_w, x_h, x_n, x_place, x_points, x_takes))) else (some ((-1 : Int32), (0 : Int32), x_ball, x_w, x_h, x_n, x_place, x_points, x_takes))
abbrev wd_X8_shown (cy : Nat → ClassId) (o_t : Nat → Nat) (x_thrown : Int32) (x_delay : Int32) (x_feel : Int32) (x_turn : Int32) (x_sight : Int32) (x_ball : Int32) (x_w : Int32) (x_h : Int32) (x_n : Int32) (x_players : Int32) (x_wide : Nat → Int32) (x_tall : Nat → Int32) (x_hands : Nat → Int32) (x_power : Nat → Int32) (x_spin : Nat → Int32) (x_seed : Nat → Int32) (x_pressed : Nat → Int32) (x_leftFrom : Nat → Int32) (x_leftTo : Nat → Int32) (x_wait : Nat → Int32) (x_isLost : Nat → Int32) (x_place : Nat → Int32) (x_points : Nat → Int32) (x_takes : Nat → Int32) : va_W := [(o_t 0, .inr (8, [.int x_thrown, .ref (o_t 2), .ref (o_t 3), .ref (o_t 4), .ref (o_t 5), .ref (o_t 6), .ref (o_t 7), .ref (o_t 8), .ref (o_t 9), .ref (o_t 10), .ref (o_t 11), .int x_delay, .int x_feel, .int x_turn, .int x_sight, .ref (o_t 16), .ref (o_t 17), .ref (o_t 18), .ref (o_t 19), .int x_ball, .int x_w, .int x_h, .int x_n, .ref (o_t 24), .ref (o_t 25), .ref (o_t 26), .ref (o_t 27), .ref (o_t 28), .ref (o_t 29), .int x_players, .ref (o_t 31), .ref (o_t 32), .ref (o_t 33), .ref (o_t 34), .ref (o_t 35), .ref (o_t 36)])), (o_t 2, .inl (cy 0, 5, .inl x_wide)), (o_t 3, .inl (cy 0, 5, .inl x_tall)), (o_t 4, .inl (cy 0, 5, .inl x_hands)), (o_t 5, .inl (cy 0, 5, .inl x_power)), (o_t 6, .inl (cy 0, 5, .inl x_spin)), (o_t 7, .inl (cy 0, 5, .inl x_seed)), (o_t 8, .inl (cy 0, 3000, .inl x_pressed)), (o_t 9, .inl (cy 0, 30, .inl x_leftFrom)), (o_t 10, .inl (cy 0, 30, .inl x_leftTo)), (o_t 16, .inl (cy 0, 36, .inl x_wait)), (o_t 17, .inl (cy 1, 600, .inl x_isLost)), (o_t 18, .inl (cy 0, 6, .inl x_place)), (o_t 19, .inl (cy 0, 6, .inl x_points)), (o_t 25, .inl (cy 0, 600, .inl x_takes))]
set_option maxHeartbeats 4000000 in
set_option maxRecDepth 100000 in
theorem w_X8_shown {p : Program} {l : Launch} {e : Env} {s : State} {m : MethodId} {args : Array Value} {below : List Frame} {meth : Method} {c : Code} {Q : State → Prop} {A : Nat → Prop} {H : Heap} {locs : List Loc} {ls : Array Slot} (D : va_G) (cy : Nat → ClassId) (t : Nat → Nat) (o_t : Nat → Nat) (x_thrown : Int32) (x_delay : Int32) (x_feel : Int32) (x_turn : Int32) (x_sight : Int32) (x_ball : Int32) (x_w : Int32) (x_h : Int32) (x_n : Int32) (x_players : Int32) (x_wide : Nat → Int32) (x_tall : Nat → Int32) (x_hands : Nat → Int32) (x_power : Nat → Int32) (x_spin : Nat → Int32) (x_seed : Nat → Int32) (x_pressed : Nat → Int32) (x_leftFrom : Nat → Int32) (x_leftTo : Nat → Int32) (x_wait : Nat → Int32) (x_isLost : Nat → Int32) (x_place : Nat → Int32) (x_points : Nat → Int32) (x_takes : Nat → Int32) (p1 : Int32) (p2 : Int32) (p3 : Int32) {out : Int32 × Int32 × Int32 × Int32 × Int32 × Int32 × (Nat → Int32) × (Nat → Int32) × (Nat → Int32)} (hf : X8_shown x_delay x_wide x_tall x_hands x_power x_spin x_seed x_pressed x_leftFrom x_leftTo x_wait x_isLost x_thrown x_ball x_w x_h x_n x_place x_points x_takes p1 p2 p3 = some out) (hx : p.tables.exec = Jvm.exec) (hb : c.code = cX8_shown) (hml : c.maxLocals = 4) (hown : s.vm.findClass RX8 = some m.cls) (hts : ∀ w ∈ wsX8_shown, w.before args s = true) (hK : va_K D vwCl (TYS cy) s) (hE : EV t A s s.heap) (hA : ∀ q, s.heap.size ≤ q → A q) (hP : va_P D vwCl (wd_X8_shown cy o_t x_thrown x_delay x_feel x_turn x_sight x_ball x_w x_h x_n x_players x_wide x_tall x_hands x_power x_spin x_seed x_pressed x_leftFrom x_leftTo x_wait x_isLost x_place x_points x_takes) H) (hD : va_D A (wd_X8_shown cy o_t x_thrown x_delay x_feel x_turn x_sight x_ball x_w x_h x_n x_players x_wide x_tall x_hands x_power x_spin x_seed x_pressed x_leftFrom x_leftTo x_wait x_isLost x_place x_points x_takes)) (hS : va_S A s.heap H locs) (hl : lv_has ls 4 [(0, .ref (o_t 0)), (1, .int p1), (2, .int p2), (3, .int p3)]) (hR : ∀ (H : Heap) (locs : List Loc) (ls : Array Slot) (pc : Nat), va_P D vwCl (wd_X8_shown cy o_t out.2.1 x_delay x_feel x_turn x_sight out.2.2.1 out.2.2.2.1 out.2.2.2.2.1 out.2.2.2.2.2.1 x_players x_wide x_tall x_hands x_power x_spin x_seed x_pressed x_leftFrom x_leftTo x_wait x_isLost out.2.2.2.2.2.2.1 out.2.2.2.2.2.2.2.1 out.2.2.2.2.2.2.2.2) H → va_D A (wd_X8_shown cy o_t out.2.1 x_delay x_feel x_turn x_sight out.2.2.1 out.2.2.2.1 out.2.2.2.2.1 out.2.2.2.2.2.1 x_players x_wide x_tall x_hands x_power x_spin x_seed x_pressed x_leftFrom x_leftTo x_wait x_isLost out.2.2.2.2.2.2.1 out.2.2.2.2.2.2.2.1 out.2.2.2.2.2.2.2.2) → va_S A s.heap H locs → decode cX8_shown pc = .ok (.ireturn, 1) → W p l e (rmm 6 150) s m args below meth c H locs 0 0 Q (F0 m pc ls [.int out.1])) : W p l e (rmm 6 150) s m args below meth c H locs 0 0 Q (F0 m 0 ls []) := by
  have k0 := hts (.fieldLink RX8 100 "SeaGamesModel" "thrown" "I") (List.mem_cons_of_mem _ (List.mem_append_left _ (List.mem_append_left _ (List.mem_of_getElem? (i := 0) rfl))))
  have k1 : ∀ w ∈ u_ws RX8 TX8 36, w ∈ wsX8_shown := fun _ h => List.mem_cons_of_mem _ (List.mem_append_right _ h)
  have k2 := hts (.fieldLink RX8 16 "SeaGamesModel" "hands" "[I") (List.mem_cons_of_mem _ (List.mem_append_left _ (List.mem_append_left _ (List.mem_of_getElem? (i := 1) rfl))))
  rw [X8_shown] at hf
  refine lv_aload_n hx hb dX8_shown_0 rfl (lv_at hl 0 rfl) ?_
  refine lv_iconst (v := (0 : Int32)) hx hb dX8_shown_1 (by decide) ?_
  refine va_put (D := D) (ci := 8) (v := .int (0 : Int32)) (ty := .int) (C := RX8) (T := TX8) (N := 36) hx hb hts k1 tyX8 tyX8_ok nmX8 hown hK hP hD hS 0 rfl rfl 0 (by decide) k0 (fun _ h9 => h9) rfl (by decide +kernel) rfl rfl (Nat.le_of_ble_eq_true rfl) dX8_shown_2 (fun H locs hP hD hS => ?_)
  have hP : va_P D vwCl (wd_X8_shown cy o_t (0 : Int32) x_delay x_feel x_turn x_sight x_ball x_w x_h x_n x_players x_wide x_tall x_hands x_power x_spin x_seed x_pressed x_leftFrom x_leftTo x_wait x_isLost x_place x_points x_takes) H := hP
  have hD : va_D A (wd_X8_shown cy o_t (0 : Int32) x_delay x_feel x_turn x_sight x_ball x_w x_h x_n x_players x_wide x_tall x_hands x_power x_spin x_seed x_pressed x_leftFrom x_leftTo x_wait x_isLost x_place x_points x_takes) := hD
  refine lv_aload_n hx hb dX8_shown_5 rfl (lv_at hl 0 rfl) ?_
  refine lv_iload_n hx hb dX8_shown_6 rfl (lv_at hl 1 rfl) ?_
  obtain ⟨r7, hr7, hf⟩ := bd_s hf
  refine my_Vi (WS2 := (wd_X8_shown cy o_t (0 : Int32) x_delay x_feel x_turn x_sight x_ball x_w x_h x_n x_players x_wide x_tall x_hands x_power x_spin x_seed x_pressed x_leftFrom x_leftTo x_wait x_isLost x_place x_points x_takes)) ⟨hx, hb, hml, hown, hts⟩ (c_X8_noHand l D cy t o_t (0 : Int32) x_delay x_feel x_turn x_sight x_ball x_w x_h x_n x_players x_hands p1 hr7) (cwV 1 hts gX8_shown_X8_noHand rfl rfl rfl ⟨rfl, hd_X8_noHand⟩ ⟨Nat.le_of_ble_eq_true rfl, Nat.le_of_ble_eq_true rfl⟩) hK hE hP hD hS hA [0, 3] 15 8 0 rfl rfl rfl rfl (by decide +kernel) rfl rfl hl.1 rfl (Nat.le_of_ble_eq_true rfl) dX8_shown_7 ⟨Nat.le_of_ble_eq_true rfl, Nat.le_of_ble_eq_true rfl⟩ (fun H locs hP hD hS => ?_)
  refine lv_if_ne (tgt := 20) hx hb dX8_shown_10 (by decide) (fun c10 => ?_) (fun c10 => ?_)
  · have hf := ifn c10 hf
    refine lv_iconst (v := (-1 : Int32)) hx hb dX8_shown_20 (by decide) ?_
    obtain rfl := Option.some.inj hf
    exact hR _ _ _ _ hP hD hS dX8_shown_21
  · have hf := ifp c10 hf
    refine lv_iload_n hx hb dX8_shown_13 rfl (lv_at hl 2 rfl) ?_
    obtain ⟨r14, hr14, hf⟩ := bd_s hf
    refine my_Si (WS2 := (wd_X8_shown cy o_t (0 : Int32) x_delay x_feel x_turn x_sight x_ball x_w x_h x_n x_players x_wide x_tall x_hands x_power x_spin x_seed x_pressed x_leftFrom x_leftTo x_wait x_isLost x_place x_points x_takes)) ⟨hx, hb, hml, hown, hts⟩ (c_X8_noTick l D cy t p2 hr14) (va_cwS 1 hts gX8_shown_X8_noTick rfl rfl rfl hd_X8_noTick ⟨Nat.le_of_ble_eq_true rfl, Nat.le_of_ble_eq_true rfl⟩) hK hE hP hD hS hA [] 15 rfl rfl (by decide +kernel) rfl rfl hl.1 rfl (Nat.le_of_ble_eq_true rfl) dX8_shown_14 ⟨Nat.le_of_ble_eq_true rfl, Nat.le_of_ble_eq_true rfl⟩ (fun H locs hP hD hS => ?_)
    refine lv_if_eq (tgt := 22) hx hb dX8_shown_17 (by decide) (fun c17 => ?_) (fun c17 => ?_)
    · have hf := ifp c17 hf
      refine lv_aload_n hx hb dX8_shown_22 rfl (lv_at hl 0 rfl) ?_
      refine lv_iload_n hx hb dX8_shown_23 rfl (lv_at hl 3 rfl) ?_
      refine lv_aload_n hx hb dX8_shown_24 rfl (lv_at hl 0 rfl) ?_
      refine va_get (D := D) (ci := 8) (v := .ref (o_t 4)) (C := RX8) (T := TX8) (N := 36) hx hb hts k1 hown hK hP 0 rfl rfl 3 (by decide) k2 (fun _ h9 => h9) rfl dX8_shown_25 ?_
      refine lv_iconst (v := (4 : Int32)) hx hb dX8_shown_28 (by decide) ?_
      obtain ⟨v29, b29, ev29, hf⟩ := rd_s hf
      refine my_iald hx hb hK hP 3 rfl b29 ev29 dX8_shown_29 ?_
      obtain ⟨r30, hr30, hf⟩ := bd_s hf
      refine my_Vi (WS2 := (wd_X8_shown cy o_t (0 : Int32) x_delay x_feel x_turn x_sight x_ball x_w x_h x_n x_players x_wide x_tall x_hands x_power x_spin x_seed x_pressed x_leftFrom x_leftTo x_wait x_isLost x_place x_points x_takes)) ⟨hx, hb, hml, hown, hts⟩ (c_X8_noWhat l D cy t o_t (0 : Int32) x_delay x_feel x_turn x_sight x_ball x_w x_h x_n x_players p3 v29 hr30) (cwV 2 hts gX8_shown_X8_noWhat rfl rfl rfl ⟨rfl, hd_X8_noWhat⟩ ⟨Nat.le_of_ble_eq_true rfl, Nat.le_of_ble_eq_true rfl⟩) hK hE hP hD hS hA [0] 15 8 0 rfl rfl rfl rfl (by decide +kernel) rfl rfl hl.1 rfl (Nat.le_of_ble_eq_true rfl) dX8_shown_30 ⟨Nat.le_of_ble_eq_true rfl, Nat.le_of_ble_eq_true rfl⟩ (fun H locs hP hD hS => ?_)
      refine lv_if_eq (tgt := 39) hx hb dX8_shown_33 (by decide) (fun c33 => ?_) (fun c33 => ?_)
      · have hf := ifp c33 hf
        refine lv_aload_n hx hb dX8_shown_39 rfl (lv_at hl 0 rfl) ?_
        refine lv_iload_n hx hb dX8_shown_40 rfl (lv_at hl 1 rfl) ?_
        refine lv_iload_n hx hb dX8_shown_41 rfl (lv_at hl 2 rfl) ?_
        obtain ⟨r42, hr42, hf⟩ := bd_s hf
        refine my_Vv (WS2 := (wd_X8_shown cy o_t (0 : Int32) x_delay x_feel x_turn x_sight r42.1 r42.2.1 r42.2.2.1 r42.2.2.2.1 x_players x_wide x_tall x_hands x_power x_spin x_seed x_pressed x_leftFrom x_leftTo x_wait x_isLost r42.2.2.2.2.1 r42.2.2.2.2.2.1 r42.2.2.2.2.2.2)) ⟨hx, hb, hml, hown, hts⟩ (c_X8_show l D cy t o_t (0 : Int32) x_delay x_feel x_turn x_sight x_ball x_w x_h x_n x_players x_wide x_tall x_hands x_power x_spin x_seed x_pressed x_leftFrom x_leftTo x_wait x_isLost x_place x_points x_takes p1 p2 hr42) (cwV 2 hts gX8_shown_X8_show rfl rfl rfl ⟨rfl, hd_X8_show⟩ ⟨Nat.le_of_ble_eq_true rfl, Nat.le_of_ble_eq_true rfl⟩) hK hE hP hD hS hA [0, 1, 2, 3, 4, 5, 6, 7, 8, 9, 10, 11, 12, 13, 14] 15 8 0 rfl rfl rfl rfl (by decide +kernel) rfl rfl hl.1 rfl (Nat.le_of_ble_eq_true rfl) dX8_shown_42 ⟨Nat.le_of_ble_eq_true rfl, Nat.le_of_ble_eq_true rfl⟩ (fun H locs hP hD hS => ?_)
        refine lv_aload_n hx hb dX8_shown_45 rfl (lv_at hl 0 rfl) ?_
        refine lv_iload_n hx hb dX8_shown_46 rfl (lv_at hl 3 rfl) ?_
        obtain ⟨r47, hr47, hf⟩ := bd_s hf
        refine my_Vi (WS2 := (wd_X8_shown cy o_t (0 : Int32) x_delay x_feel x_turn x_sight r42.1 r42.2.1 r42.2.2.1 r42.2.2.2.1 x_players x_wide x_tall x_hands x_power x_spin x_seed x_pressed x_leftFrom x_leftTo x_wait x_isLost r42.2.2.2.2.1 r42.2.2.2.2.2.1 r42.2.2.2.2.2.2)) ⟨hx, hb, hml, hown, hts⟩ (c_X8_seen l D cy t o_t (0 : Int32) x_delay x_feel x_turn x_sight r42.1 r42.2.1 r42.2.2.1 r42.2.2.2.1 x_players r42.2.2.2.2.1 r42.2.2.2.2.2.1 p3 hr47) (cwV 1 hts gX8_shown_X8_seen rfl rfl rfl ⟨rfl, hd_X8_seen⟩ ⟨Nat.le_of_ble_eq_true rfl, Nat.le_of_ble_eq_true rfl⟩) hK hE hP hD hS hA [0, 12, 13] 15 8 0 rfl rfl rfl rfl (by decide +kernel) rfl rfl hl.1 rfl (Nat.le_of_ble_eq_true rfl) dX8_shown_47 ⟨Nat.le_of_ble_eq_true rfl, Nat.le_of_ble_eq_true rfl⟩ (fun H locs hP hD hS => ?_)
        obtain rfl := Option.some.inj hf
        exact hR _ _ _ _ hP hD hS dX8_shown_50
      · have hf := ifn c33 hf
        refine lv_bipush (v := (-2 : Int32)) hx hb dX8_shown_36 (by decide) ?_
        obtain rfl := Option.some.inj hf
        exact hR _ _ _ _ hP hD hS dX8_shown_38
    · have hf := ifn c17 hf
      refine lv_iconst (v := (-1 : Int32)) hx hb dX8_shown_20 (by decide) ?_
      obtain rfl := Option.some.inj hf
      exact hR _ _ _ _ hP hD hS dX8_shown_21
theorem hd_X8_shown : yX8_shown.cls ≠ "java/lang/invoke/MethodHandle" ∧ yX8_shown.cls ≠ "java/lang/invoke/VarHandle" ∧ (parseMethodDescriptor yX8_shown.desc).map (fun d => d.parameters.length) = some 3 := by decide +kernel
set_option maxRecDepth 100000 in
theorem c_X8_shown (l : Launch) (D : va_G) (cy : Nat → ClassId) (t : Nat → Nat) (o_t : Nat → Nat) (x_thrown : Int32) (x_delay : Int32) (x_feel : Int32) (x_turn : Int32) (x_sight : Int32) (x_ball : Int32) (x_w : Int32) (x_h : Int32) (x_n : Int32) (x_players : Int32) (x_wide : Nat → Int32) (x_tall : Nat → Int32) (x_hands : Nat → Int32) (x_power : Nat → Int32) (x_spin : Nat → Int32) (x_seed : Nat → Int32) (x_pressed : Nat → Int32) (x_leftFrom : Nat → Int32) (x_leftTo : Nat → Int32) (x_wait : Nat → Int32) (x_isLost : Nat → Int32) (x_place : Nat → Int32) (x_points : Nat → Int32) (x_takes : Nat → Int32) (p1 : Int32) (p2 : Int32) (p3 : Int32) {out : Int32 × Int32 × Int32 × Int32 × Int32 × Int32 × (Nat → Int32) × (Nat → Int32) × (Nat → Int32)} (hf : X8_shown x_delay x_wide x_tall x_hands x_power x_spin x_seed x_pressed x_leftFrom x_leftTo x_wait x_isLost x_thrown x_ball x_w x_h x_n x_place x_points x_takes p1 p2 p3 = some out) : ctI l yX8_shown wsX8_shown 6 150 D cy t [.ref (o_t 0), .int p1, .int p2, .int p3] (wd_X8_shown cy o_t x_thrown x_delay x_feel x_turn x_sight x_ball x_w x_h x_n x_players x_wide x_tall x_hands x_power x_spin x_seed x_pressed x_leftFrom x_leftTo x_wait x_isLost x_place x_points x_takes) (wd_X8_shown cy o_t out.2.1 x_delay x_feel x_turn x_sight out.2.2.1 out.2.2.2.1 out.2.2.2.2.1 out.2.2.2.2.2.1 x_players x_wide x_tall x_hands x_power x_spin x_seed x_pressed x_leftFrom x_leftTo x_wait x_isLost out.2.2.2.2.2.2.1 out.2.2.2.2.2.2.2.1 out.2.2.2.2.2.2.2.2) out.1 := by
  refine ⟨rfl, ?_⟩
  intro sz
  refine Met.ofW (cc := cX8_shown) (maxL := 4) (ret := (some .int)) (by decide) rfl ?_
  intro p e s m args below meth c s₁ B hml hv
  obtain ⟨rfl, hsz, hP, hK, hD0, hE⟩ := hv
  have hts := atoms_spec (ws := wsX8_shown) B.pre
  have hown : s.vm.findClass RX8 = some m.cls := findClass_of_methodNamed B.named
  have hlocks := B.notSynchronized
  subst hsz
  have hD := hD0.self (sz := s.heap.size)
  have hl := lv_entry ([.ref (o_t 0), .int p1, .int p2, .int p3]) (n := 4) (Nat.le_of_ble_eq_true rfl)
  rw [lg_entry_eq]
  generalize (lg_sl ([.ref (o_t 0), .int p1, .int p2, .int p3]) ++ List.replicate (4 - (lg_sl ([.ref (o_t 0), .int p1, .int p2, .int p3])).length) Slot.unset).toArray = ls at hl ⊢
  exact w_X8_shown D cy t o_t x_thrown x_delay x_feel x_turn x_sight x_ball x_w x_h x_n x_players x_wide x_tall x_hands x_power x_spin x_seed x_pressed x_leftFrom x_leftTo x_wait x_isLost x_place x_points x_takes p1 p2 p3 hf B.exec B.bytes hml hown hts hK hE (fun q h => Or.inr h) hP hD va_S.rf hl (fun H locs ls pc hP hD hS hdg => W.iret B.exec B.bytes B.returns (fun t ht hW => ⟨⟨_, (), rfl, rfl, ctB_of ht hP⟩, hS.F ht⟩) hS.2.2 hdg)

noncomputable def X8_backOf_J93 (x_hands : Nat → Int32) (x_pressed : Nat → Int32) (x_leftFrom : Nat → Int32) (x_leftTo : Nat → Int32) (x_wait : Nat → Int32) (x_isLost : Nat → Int32) (rec33 : (Nat → Int32) → (Nat → Int32) → Int32 → Int32 → Option (Int32 × (Nat → Int32) × (Nat → Int32))) (x_takes : Nat → Int32) (x_took : Nat → Int32) (l2 : Int32) (l4 : Int32) : Option (Int32 × (Nat → Int32) × (Nat → Int32)) :=
  nm (l4 + (1 : Int32)) fun v93 => rec33 x_takes x_took l2 v93
noncomputable def X8_backOf_J82 (x_hands : Nat → Int32) (x_pressed : Nat → Int32) (x_leftFrom : Nat → Int32) (x_leftTo : Nat → Int32) (x_wait : Nat → Int32) (x_isLost : Nat → Int32) (x_takes : Nat → Int32) (x_took : Nat → Int32) (l2 : Int32) (l4 : Int32) : Option (Int32 × (Nat → Int32) × (Nat → Int32)) :=
  some ((l2 - l4), x_takes, x_took)
noncomputable def X8_backOf_L42_B (x_hands : Nat → Int32) (x_pressed : Nat → Int32) (x_leftFrom : Nat → Int32) (x_leftTo : Nat → Int32) (x_wait : Nat → Int32) (x_isLost : Nat → Int32) (rec33 : (Nat → Int32) → (Nat → Int32) → Int32 → Int32 → Option (Int32 × (Nat → Int32) × (Nat → Int32))) (rec42 : (Nat → Int32) → (Nat → Int32) → Int32 → Int32 → Int32 → Option (Int32 × (Nat → Int32) × (Nat → Int32))) (x_takes : Nat → Int32) (x_took : Nat → Int32) (l2 : Int32) (l4 : Int32) (l5 : Int32) : Option (Int32 × (Nat → Int32) × (Nat → Int32)) :=
  rd x_hands 5 (4 : Int32) fun v49 => if v49 ≤ l5 then (X8_backOf_J93 x_hands x_pressed x_leftFrom x_leftTo x_wait x_isLost rec33 x_takes x_took l2 l4) else (rd x_takes 600 (((100 : Int32) * l5) + l4) fun v65 => rd x_took 600 (((100 : Int32) * l5) + l4) fun v78 => if v65 = v78 then (nm (l5 + (1 : Int32)) fun v87 => rec42 x_takes x_took l2 l4 v87) else (X8_backOf_J82 x_hands x_pressed x_leftFrom x_leftTo x_wait x_isLost  x_takes x_took l2 l4))
noncomputable def X8_backOf_L42 (x_hands : Nat → Int32) (x_pressed : Nat → Int32) (x_leftFrom : Nat → Int32) (x_leftTo : Nat → Int32) (x_wait : Nat → Int32) (x_isLost : Nat → Int32) (rec33 : (Nat → Int32) → (Nat → Int32) → Int32 → Int32 → Option (Int32 × (Nat → Int32) × (Nat → Int32))) : Nat → (Nat → Int32) → (Nat → Int32) → Int32 → Int32 → Int32 → Option (Int32 × (Nat → Int32) × (Nat → Int32))
  | 0, _, _, _, _, _ => none
  | n + 1, y0, y1, y2, y3, y4 => X8_backOf_L42_B x_hands x_pressed x_leftFrom x_leftTo x_wait x_isLost rec33 (X8_backOf_L42 x_hands x_pressed x_leftFrom x_leftTo x_wait x_isLost rec33 n) y0 y1 y2 y3 y4
noncomputable def X8_backOf_L33_B (x_hands : Nat → Int32) (x_pressed : Nat → Int32) (x_leftFrom : Nat → Int32) (x_leftTo : Nat → Int32) (x_wait : Nat → Int32) (x_isLost : Nat → Int32) (rec33 : (Nat → Int32) → (Nat → Int32) → Int32 → Int32 → Option (Int32 × (Nat → Int32) × (Nat → Int32))) (x_takes : Nat → Int32) (x_took : Nat → Int32) (l2 : Int32) (l4 : Int32) : Option (Int32 × (Nat → Int32) × (Nat → Int32)) :=
  if l2 ≤ l4 then (some ((0 : Int32), x_takes, x_took)) else (X8_backOf_L42 x_hands x_pressed x_leftFrom x_leftTo x_wait x_isLost rec33 FU x_takes x_took l2 l4 (0 : Int32))
noncomputable def X8_backOf_L33 (x_hands : Nat → Int32) (x_pressed : Nat → Int32) (x_leftFrom : Nat → Int32) (x_leftTo : Nat → Int32) (x_wait : Nat → Int32) (x_isLost : Nat → Int32) : Nat → (Nat → Int32) → (Nat → Int32) → Int32 → Int32 → Option (Int32 × (Nat → Int32) × (Nat → Int32))
  | 0, _, _, _, _ => none
  | n + 1, y0, y1, y2, y3 => X8_backOf_L33_B x_hands x_pressed x_leftFrom x_leftTo x_wait x_isLost  (X8_backOf_L33 x_hands x_pressed x_leftFrom x_leftTo x_wait x_isLost  n) y0 y1 y2 y3
noncomputable def X8_backOf (x_hands : Nat → Int32) (x_pressed : Nat → Int32) (x_leftFrom : Nat → Int32) (x_leftTo : Nat → Int32) (x_wait : Nat → Int32) (x_isLost : Nat → Int32) (x_takes : Nat → Int32) (x_took : Nat → Int32) (p1 : Int32) (p2 : Int32) (p3 : Int32) : Option (Int32 × (Nat → Int32) × (Nat → Int32)) :=
  if p2 = (0 : Int32) then (some ((0 : Int32), x_takes, x_took)) else (bd (X8_take 600 x_hands x_pressed x_leftFrom x_leftTo x_wait x_isLost x_takes p1 p2 p3) fun r14 => bd (X8_take 600 x_hands x_pressed x_leftFrom x_leftTo x_wait x_isLost x_took p1 (p2 - (1 : Int32)) p3) fun r27 => X8_backOf_L33 x_hands x_pressed x_leftFrom x_leftTo x_wait x_isLost  FU r14 r27 p2 (0 : Int32))
abbrev wd_X8_backOf (cy : Nat → ClassId) (o_t : Nat → Nat) (x_thrown : Int32) (x_delay : Int32) (x_feel : Int32) (x_turn : Int32) (x_sight : Int32) (x_ball : Int32) (x_w : Int32) (x_h : Int32) (x_n : Int32) (x_players : Int32) (x_hands : Nat → Int32) (x_pressed : Nat → Int32) (x_leftFrom : Nat → Int32) (x_leftTo : Nat → Int32) (x_wait : Nat → Int32) (x_isLost : Nat → Int32) (x_takes : Nat → Int32) (x_took : Nat → Int32) : va_W := [(o_t 0, .inr (8, [.int x_thrown, .ref (o_t 2), .ref (o_t 3), .ref (o_t 4), .ref (o_t 5), .ref (o_t 6), .ref (o_t 7), .ref (o_t 8), .ref (o_t 9), .ref (o_t 10), .ref (o_t 11), .int x_delay, .int x_feel, .int x_turn, .int x_sight, .ref (o_t 16), .ref (o_t 17), .ref (o_t 18), .ref (o_t 19), .int x_ball, .int x_w, .int x_h, .int x_n, .ref (o_t 24), .ref (o_t 25), .ref (o_t 26), .ref (o_t 27), .ref (o_t 28), .ref (o_t 29), .int x_players, .ref (o_t 31), .ref (o_t 32), .ref (o_t 33), .ref (o_t 34), .ref (o_t 35), .ref (o_t 36)])), (o_t 4, .inl (cy 0, 5, .inl x_hands)), (o_t 8, .inl (cy 0, 3000, .inl x_pressed)), (o_t 9, .inl (cy 0, 30, .inl x_leftFrom)), (o_t 10, .inl (cy 0, 30, .inl x_leftTo)), (o_t 16, .inl (cy 0, 36, .inl x_wait)), (o_t 17, .inl (cy 1, 600, .inl x_isLost)), (o_t 25, .inl (cy 0, 600, .inl x_takes)), (o_t 26, .inl (cy 0, 600, .inl x_took))]
set_option maxHeartbeats 4000000 in
set_option maxRecDepth 100000 in
theorem w_X8_backOf {p : Program} {l : Launch} {e : Env} {s : State} {m : MethodId} {args : Array Value} {below : List Frame} {meth : Method} {c : Code} {Q : State → Prop} {A : Nat → Prop} {H : Heap} {locs : List Loc} {ls : Array Slot} (D : va_G) (cy : Nat → ClassId) (t : Nat → Nat) (o_t : Nat → Nat) (x_thrown : Int32) (x_delay : Int32) (x_feel : Int32) (x_turn : Int32) (x_sight : Int32) (x_ball : Int32) (x_w : Int32) (x_h : Int32) (x_n : Int32) (x_players : Int32) (x_hands : Nat → Int32) (x_pressed : Nat → Int32) (x_leftFrom : Nat → Int32) (x_leftTo : Nat → Int32) (x_wait : Nat → Int32) (x_isLost : Nat → Int32) (x_takes : Nat → Int32) (x_took : Nat → Int32) (p1 : Int32) (p2 : Int32) (p3 : Int32) {out : Int32 × (Nat → Int32) × (Nat → Int32)} (hf : X8_backOf x_hands x_pressed x_leftFrom x_leftTo x_wait x_isLost x_takes x_took p1 p2 p3 = some out) (hx : p.tables.exec = Jvm.exec) (hb : c.code = cX8_backOf) (hml : c.maxLocals = 6) (hown : s.vm.findClass RX8 = some m.cls) (hts : ∀ w ∈ wsX8_backOf, w.before args s = true) (hK : va_K D vwCl (TYS cy) s) (hE : EV t A s s.heap) (hA : ∀ q, s.heap.size ≤ q → A q) (hP : va_P D vwCl (wd_X8_backOf cy o_t x_thrown x_delay x_feel x_turn x_sight x_ball x_w x_h x_n x_players x_hands x_pressed x_leftFrom x_leftTo x_wait x_isLost x_takes x_took) H) (hD : va_D A (wd_X8_backOf cy o_t x_thrown x_delay x_feel x_turn x_sight x_ball x_w x_h x_n x_players x_hands x_pressed x_leftFrom x_leftTo x_wait x_isLost x_takes x_took)) (hS : va_S A s.heap H locs) (hl : lv_has ls 6 [(0, .ref (o_t 0)), (1, .int p1), (2, .int p2), (3, .int p3)]) (hR : ∀ (H : Heap) (locs : List Loc) (ls : Array Slot) (pc : Nat), va_P D vwCl (wd_X8_backOf cy o_t x_thrown x_delay x_feel x_turn x_sight x_ball x_w x_h x_n x_players x_hands x_pressed x_leftFrom x_leftTo x_wait x_isLost out.2.1 out.2.2) H → va_D A (wd_X8_backOf cy o_t x_thrown x_delay x_feel x_turn x_sight x_ball x_w x_h x_n x_players x_hands x_pressed x_leftFrom x_leftTo x_wait x_isLost out.2.1 out.2.2) → va_S A s.heap H locs → decode cX8_backOf pc = .ok (.ireturn, 1) → W p l e (rmm 3 77) s m args below meth c H locs 0 0 Q (F0 m pc ls [.int out.1])) : W p l e (rmm 3 77) s m args below meth c H locs 0 0 Q (F0 m 0 ls []) := by
  have k0 := hts (.fieldLink RX8 66 "SeaGamesModel" "takes" "[I") (List.mem_cons_of_mem _ (List.mem_append_left _ (List.mem_of_getElem? (i := 0) rfl)))
  have k1 : ∀ w ∈ u_ws RX8 TX8 36, w ∈ wsX8_backOf := fun _ h => List.mem_cons_of_mem _ (List.mem_append_right _ h)
  have k2 := hts (.fieldLink RX8 69 "SeaGamesModel" "took" "[I") (List.mem_cons_of_mem _ (List.mem_append_left _ (List.mem_of_getElem? (i := 1) rfl)))
  have k3 := hts (.fieldLink RX8 16 "SeaGamesModel" "hands" "[I") (List.mem_cons_of_mem _ (List.mem_append_left _ (List.mem_of_getElem? (i := 2) rfl)))
  rw [X8_backOf] at hf
  refine lv_iload_n hx hb dX8_backOf_0 rfl (lv_at hl 2 rfl) ?_
  refine lv_if_ne (tgt := 6) hx hb dX8_backOf_1 (by decide) (fun c1 => ?_) (fun c1 => ?_)
  · have hf := ifn c1 hf
    have h33 : ∀ (n33 : Nat) (x_takes : Nat → Int32) (x_took : Nat → Int32) (l2 : Int32) (l4 : Int32) (H : Heap) (locs : List Loc) (ls : Array Slot), X8_backOf_L33 x_hands x_pressed x_leftFrom x_leftTo x_wait x_isLost n33 x_takes x_took l2 l4 = some out → va_P D vwCl (wd_X8_backOf cy o_t x_thrown x_delay x_feel x_turn x_sight x_ball x_w x_h x_n x_players x_hands x_pressed x_leftFrom x_leftTo x_wait x_isLost x_takes x_took) H → va_D A (wd_X8_backOf cy o_t x_thrown x_delay x_feel x_turn x_sight x_ball x_w x_h x_n x_players x_hands x_pressed x_leftFrom x_leftTo x_wait x_isLost x_takes x_took) → va_S A s.heap H locs → lv_has ls 6 [(0, .ref (o_t 0)), (2, .int l2), (4, .int l4)] → W p l e (rmm 3 77) s m args below meth c H locs 0 0 Q (F0 m 33 ls []) := by
      intro n33
      induction n33 with
      | zero =>
        intro _ _ _ _ _ _ _ hf
        exact nomatch (show (none : Option _) = some out from hf)
      | succ n33 ih33 =>
        intro x_takes x_took l2 l4 H locs ls hf hP hD hS hl
        have hf : X8_backOf_L33_B x_hands x_pressed x_leftFrom x_leftTo x_wait x_isLost (X8_backOf_L33 x_hands x_pressed x_leftFrom x_leftTo x_wait x_isLost n33) x_takes x_took l2 l4 = some out := hf
        rw [X8_backOf_L33_B] at hf
        refine lv_iload hx hb dX8_backOf_33 (lv_at hl 2 rfl) ?_
        refine lv_iload_n hx hb dX8_backOf_35 rfl (lv_at hl 1 rfl) ?_
        refine lv_icmp_ge (tgt := 99) hx hb dX8_backOf_36 (by decide) (fun c36 => ?_) (fun c36 => ?_)
        · have hf := ifp c36 hf
          refine lv_iconst (v := (0 : Int32)) hx hb dX8_backOf_99 (by decide) ?_
          obtain rfl := Option.some.inj hf
          exact hR _ _ _ _ hP hD hS dX8_backOf_100
        · have hf := ifn c36 hf
          have h42 : ∀ (n42 : Nat) (x_takes : Nat → Int32) (x_took : Nat → Int32) (l2 : Int32) (l4 : Int32) (l5 : Int32) (H : Heap) (locs : List Loc) (ls : Array Slot), X8_backOf_L42 x_hands x_pressed x_leftFrom x_leftTo x_wait x_isLost (X8_backOf_L33 x_hands x_pressed x_leftFrom x_leftTo x_wait x_isLost n33) n42 x_takes x_took l2 l4 l5 = some out → va_P D vwCl (wd_X8_backOf cy o_t x_thrown x_delay x_feel x_turn x_sight x_ball x_w x_h x_n x_players x_hands x_pressed x_leftFrom x_leftTo x_wait x_isLost x_takes x_took) H → va_D A (wd_X8_backOf cy o_t x_thrown x_delay x_feel x_turn x_sight x_ball x_w x_h x_n x_players x_hands x_pressed x_leftFrom x_leftTo x_wait x_isLost x_takes x_took) → va_S A s.heap H locs → lv_has ls 6 [(0, .ref (o_t 0)), (2, .int l2), (4, .int l4), (5, .int l5)] → W p l e (rmm 3 77) s m args below meth c H locs 0 0 Q (F0 m 42 ls []) := by
            intro n42
            induction n42 with
            | zero =>
              intro _ _ _ _ _ _ _ _ hf
              exact nomatch (show (none : Option _) = some out from hf)
            | succ n42 ih42 =>
              intro x_takes x_took l2 l4 l5 H locs ls hf hP hD hS hl
              have hf : X8_backOf_L42_B x_hands x_pressed x_leftFrom x_leftTo x_wait x_isLost (X8_backOf_L33 x_hands x_pressed x_leftFrom x_leftTo x_wait x_isLost n33) (X8_backOf_L42 x_hands x_pressed x_leftFrom x_leftTo x_wait x_isLost (X8_backOf_L33 x_hands x_pressed x_leftFrom x_leftTo x_wait x_isLost n33) n42) x_takes x_took l2 l4 l5 = some out := hf
              rw [X8_backOf_L42_B] at hf
              have h93 : ∀ (x_takes : Nat → Int32) (x_took : Nat → Int32) (l2 : Int32) (l4 : Int32) (H : Heap) (locs : List Loc) (ls : Array Slot), X8_backOf_J93 x_hands x_pressed x_leftFrom x_leftTo x_wait x_isLost (X8_backOf_L33 x_hands x_pressed x_leftFrom x_leftTo x_wait x_isLost n33) x_takes x_took l2 l4 = some out → va_P D vwCl (wd_X8_backOf cy o_t x_thrown x_delay x_feel x_turn x_sight x_ball x_w x_h x_n x_players x_hands x_pressed x_leftFrom x_leftTo x_wait x_isLost x_takes x_took) H → va_D A (wd_X8_backOf cy o_t x_thrown x_delay x_feel x_turn x_sight x_ball x_w x_h x_n x_players x_hands x_pressed x_leftFrom x_leftTo x_wait x_isLost x_takes x_took) → va_S A s.heap H locs → lv_has ls 6 [(0, .ref (o_t 0)), (2, .int l2), (4, .int l4)] → W p l e (rmm 3 77) s m args below meth c H locs 0 0 Q (F0 m 93 ls []) := by
                intro x_takes x_took l2 l4 H locs ls hf hP hD hS hl
                rw [X8_backOf_J93] at hf
                obtain ⟨v93, ev93, hf⟩ := nm_s hf
                refine lv_iinc (v := v93) (lv' := [(4, .int v93), (0, .ref (o_t 0)), (2, .int l2)]) hx hb dX8_backOf_93 hl (k := 2) rfl (by rw [ev93]; rfl) (by decide) rfl (fun ls hl => ?_)
                refine lv_goto (tgt := 33) hx hb dX8_backOf_96 (by decide) ?_
                exact ih33 _ _ _ _ _ _ _ hf hP hD hS (lv_sub hl [1, 2, 0] rfl)
              refine lv_iload hx hb dX8_backOf_42 (lv_at hl 3 rfl) ?_
              refine lv_aload_n hx hb dX8_backOf_44 rfl (lv_at hl 0 rfl) ?_
              refine va_get (D := D) (ci := 8) (v := .ref (o_t 4)) (C := RX8) (T := TX8) (N := 36) hx hb hts k1 hown hK hP 0 rfl rfl 3 (by decide) k3 (fun _ h9 => h9) rfl dX8_backOf_45 ?_
              refine lv_iconst (v := (4 : Int32)) hx hb dX8_backOf_48 (by decide) ?_
              obtain ⟨v49, b49, ev49, hf⟩ := rd_s hf
              refine my_iald hx hb hK hP 1 rfl b49 ev49 dX8_backOf_49 ?_
              refine lv_icmp_ge (tgt := 93) hx hb dX8_backOf_50 (by decide) (fun c50 => ?_) (fun c50 => ?_)
              · have hf := ifp c50 hf
                exact h93 _ _ _ _ _ _ _ hf hP hD hS (lv_sub hl [0, 1, 2] rfl)
              · have hf := ifn c50 hf
                have h82 : ∀ (x_takes : Nat → Int32) (x_took : Nat → Int32) (l2 : Int32) (l4 : Int32) (H : Heap) (locs : List Loc) (ls : Array Slot), X8_backOf_J82 x_hands x_pressed x_leftFrom x_leftTo x_wait x_isLost x_takes x_took l2 l4 = some out → va_P D vwCl (wd_X8_backOf cy o_t x_thrown x_delay x_feel x_turn x_sight x_ball x_w x_h x_n x_players x_hands x_pressed x_leftFrom x_leftTo x_wait x_isLost x_takes x_took) H → va_D A (wd_X8_backOf cy o_t x_thrown x_delay x_feel x_turn x_sight x_ball x_w x_h x_n x_players x_hands x_pressed x_leftFrom x_leftTo x_wait x_isLost x_takes x_took) → va_S A s.heap H locs → lv_has ls 6 [(2, .int l2), (4, .int l4)] → W p l e (rmm 3 77) s m args below meth c H locs 0 0 Q (F0 m 82 ls []) := by
                  intro x_takes x_took l2 l4 H locs ls hf hP hD hS hl
                  rw [X8_backOf_J82] at hf
                  refine lv_iload_n hx hb dX8_backOf_82 rfl (lv_at hl 0 rfl) ?_
                  refine lv_iload hx hb dX8_backOf_83 (lv_at hl 1 rfl) ?_
                  refine lv_isub hx hb dX8_backOf_85 ?_
                  obtain rfl := Option.some.inj hf
                  exact hR _ _ _ _ hP hD hS dX8_backOf_86
                refine lv_aload_n hx hb dX8_backOf_53 rfl (lv_at hl 0 rfl) ?_
                refine va_get (D := D) (ci := 8) (v := .ref (o_t 25)) (C := RX8) (T := TX8) (N := 36) hx hb hts k1 hown hK hP 0 rfl rfl 24 (by decide) k0 (fun _ h9 => h9) rfl dX8_backOf_54 ?_
                refine lv_bipush (v := (100 : Int32)) hx hb dX8_backOf_57 (by decide) ?_
                refine lv_iload hx hb dX8_backOf_59 (lv_at hl 3 rfl) ?_
                refine lv_imul hx hb dX8_backOf_61 ?_
                refine lv_iload hx hb dX8_backOf_62 (lv_at hl 2 rfl) ?_
                refine lv_iadd hx hb dX8_backOf_64 ?_
                obtain ⟨v65, b65, ev65, hf⟩ := rd_s hf
                refine my_iald hx hb hK hP 7 rfl b65 ev65 dX8_backOf_65 ?_
                refine lv_aload_n hx hb dX8_backOf_66 rfl (lv_at hl 0 rfl) ?_
                refine va_get (D := D) (ci := 8) (v := .ref (o_t 26)) (C := RX8) (T := TX8) (N := 36) hx hb hts k1 hown hK hP 0 rfl rfl 25 (by decide) k2 (fun _ h9 => h9) rfl dX8_backOf_67 ?_
                refine lv_bipush (v := (100 : Int32)) hx hb dX8_backOf_70 (by decide) ?_
                refine lv_iload hx hb dX8_backOf_72 (lv_at hl 3 rfl) ?_
                refine lv_imul hx hb dX8_backOf_74 ?_
                refine lv_iload hx hb dX8_backOf_75 (lv_at hl 2 rfl) ?_
                refine lv_iadd hx hb dX8_backOf_77 ?_
                obtain ⟨v78, b78, ev78, hf⟩ := rd_s hf
                refine my_iald hx hb hK hP 8 rfl b78 ev78 dX8_backOf_78 ?_
                refine lv_icmp_eq (tgt := 87) hx hb dX8_backOf_79 (by decide) (fun c79 => ?_) (fun c79 => ?_)
                · have hf := ifp c79 hf
                  obtain ⟨v87, ev87, hf⟩ := nm_s hf
                  refine lv_iinc (v := v87) (lv' := [(5, .int v87), (0, .ref (o_t 0)), (2, .int l2), (4, .int l4)]) hx hb dX8_backOf_87 hl (k := 3) rfl (by rw [ev87]; rfl) (by decide) rfl (fun ls hl => ?_)
                  refine lv_goto (tgt := 42) hx hb dX8_backOf_90 (by decide) ?_
                  exact ih42 _ _ _ _ _ _ _ _ hf hP hD hS (lv_sub hl [1, 2, 3, 0] rfl)
                · have hf := ifn c79 hf
                  exact h82 _ _ _ _ _ _ _ hf hP hD hS (lv_sub hl [1, 2] rfl)
          refine lv_iconst (v := (0 : Int32)) hx hb dX8_backOf_39 (by decide) ?_
          refine lv_istore (lv' := [(5, .int (0 : Int32)), (0, .ref (o_t 0)), (2, .int l2), (4, .int l4)]) hx hb dX8_backOf_40 hl (by decide) rfl (fun ls hl => ?_)
          exact h42 FU _ _ _ _ _ _ _ _ hf hP hD hS (lv_sub hl [1, 2, 3, 0] rfl)
    refine lv_aload_n hx hb dX8_backOf_6 rfl (lv_at hl 0 rfl) ?_
    refine lv_iload_n hx hb dX8_backOf_7 rfl (lv_at hl 1 rfl) ?_
    refine lv_iload_n hx hb dX8_backOf_8 rfl (lv_at hl 2 rfl) ?_
    refine lv_iload_n hx hb dX8_backOf_9 rfl (lv_at hl 3 rfl) ?_
    refine lv_aload_n hx hb dX8_backOf_10 rfl (lv_at hl 0 rfl) ?_
    refine va_get (D := D) (ci := 8) (v := .ref (o_t 25)) (C := RX8) (T := TX8) (N := 36) hx hb hts k1 hown hK hP 0 rfl rfl 24 (by decide) k0 (fun _ h9 => h9) rfl dX8_backOf_11 ?_
    obtain ⟨r14, hr14, hf⟩ := bd_s hf
    refine my_Vv (WS2 := (wd_X8_backOf cy o_t x_thrown x_delay x_feel x_turn x_sight x_ball x_w x_h x_n x_players x_hands x_pressed x_leftFrom x_leftTo x_wait x_isLost r14 x_took)) ⟨hx, hb, hml, hown, hts⟩ (c_X8_take l D cy t o_t (o_t 25) 600 x_thrown x_delay x_feel x_turn x_sight x_ball x_w x_h x_n x_players x_hands x_pressed x_leftFrom x_leftTo x_wait x_isLost x_takes p1 p2 p3 hr14) (cwV 4 hts gX8_backOf_X8_take rfl rfl rfl ⟨rfl, hd_X8_take⟩ ⟨Nat.le_of_ble_eq_true rfl, Nat.le_of_ble_eq_true rfl⟩) hK hE hP hD hS hA [0, 1, 2, 3, 4, 5, 6, 7] 9 8 0 rfl rfl rfl rfl (by decide +kernel) rfl rfl hl.1 rfl (Nat.le_of_ble_eq_true rfl) dX8_backOf_14 ⟨Nat.le_of_ble_eq_true rfl, Nat.le_of_ble_eq_true rfl⟩ (fun H locs hP hD hS => ?_)
    refine lv_aload_n hx hb dX8_backOf_17 rfl (lv_at hl 0 rfl) ?_
    refine lv_iload_n hx hb dX8_backOf_18 rfl (lv_at hl 1 rfl) ?_
    refine lv_iload_n hx hb dX8_backOf_19 rfl (lv_at hl 2 rfl) ?_
    refine lv_iconst (v := (1 : Int32)) hx hb dX8_backOf_20 (by decide) ?_
    refine lv_isub hx hb dX8_backOf_21 ?_
    refine lv_iload_n hx hb dX8_backOf_22 rfl (lv_at hl 3 rfl) ?_
    refine lv_aload_n hx hb dX8_backOf_23 rfl (lv_at hl 0 rfl) ?_
    refine va_get (D := D) (ci := 8) (v := .ref (o_t 26)) (C := RX8) (T := TX8) (N := 36) hx hb hts k1 hown hK hP 0 rfl rfl 25 (by decide) k2 (fun _ h9 => h9) rfl dX8_backOf_24 ?_
    obtain ⟨r27, hr27, hf⟩ := bd_s hf
    refine my_Vv (WS2 := (wd_X8_backOf cy o_t x_thrown x_delay x_feel x_turn x_sight x_ball x_w x_h x_n x_players x_hands x_pressed x_leftFrom x_leftTo x_wait x_isLost r14 r27)) ⟨hx, hb, hml, hown, hts⟩ (c_X8_take l D cy t o_t (o_t 26) 600 x_thrown x_delay x_feel x_turn x_sight x_ball x_w x_h x_n x_players x_hands x_pressed x_leftFrom x_leftTo x_wait x_isLost x_took p1 (p2 - (1 : Int32)) p3 hr27) (cwV 4 hts gX8_backOf_X8_take rfl rfl rfl ⟨rfl, hd_X8_take⟩ ⟨Nat.le_of_ble_eq_true rfl, Nat.le_of_ble_eq_true rfl⟩) hK hE hP hD hS hA [0, 1, 2, 3, 4, 5, 6, 8] 9 8 0 rfl rfl rfl rfl (by decide +kernel) rfl rfl hl.1 rfl (Nat.le_of_ble_eq_true rfl) dX8_backOf_27 ⟨Nat.le_of_ble_eq_true rfl, Nat.le_of_ble_eq_true rfl⟩ (fun H locs hP hD hS => ?_)
    refine lv_iconst (v := (0 : Int32)) hx hb dX8_backOf_30 (by decide) ?_
    refine lv_istore (lv' := [(4, .int (0 : Int32)), (0, .ref (o_t 0)), (1, .int p1), (2, .int p2), (3, .int p3)]) hx hb dX8_backOf_31 hl (by decide) rfl (fun ls hl => ?_)
    exact h33 FU _ _ _ _ _ _ _ hf hP hD hS (lv_sub hl [1, 3, 0] rfl)
  · have hf := ifp c1 hf
    refine lv_iconst (v := (0 : Int32)) hx hb dX8_backOf_4 (by decide) ?_
    obtain rfl := Option.some.inj hf
    exact hR _ _ _ _ hP hD hS dX8_backOf_5
theorem hd_X8_backOf : yX8_backOf.cls ≠ "java/lang/invoke/MethodHandle" ∧ yX8_backOf.cls ≠ "java/lang/invoke/VarHandle" ∧ (parseMethodDescriptor yX8_backOf.desc).map (fun d => d.parameters.length) = some 3 := by decide +kernel
set_option maxRecDepth 100000 in
theorem c_X8_backOf (l : Launch) (D : va_G) (cy : Nat → ClassId) (t : Nat → Nat) (o_t : Nat → Nat) (x_thrown : Int32) (x_delay : Int32) (x_feel : Int32) (x_turn : Int32) (x_sight : Int32) (x_ball : Int32) (x_w : Int32) (x_h : Int32) (x_n : Int32) (x_players : Int32) (x_hands : Nat → Int32) (x_pressed : Nat → Int32) (x_leftFrom : Nat → Int32) (x_leftTo : Nat → Int32) (x_wait : Nat → Int32) (x_isLost : Nat → Int32) (x_takes : Nat → Int32) (x_took : Nat → Int32) (p1 : Int32) (p2 : Int32) (p3 : Int32) {out : Int32 × (Nat → Int32) × (Nat → Int32)} (hf : X8_backOf x_hands x_pressed x_leftFrom x_leftTo x_wait x_isLost x_takes x_took p1 p2 p3 = some out) : ctI l yX8_backOf wsX8_backOf 3 77 D cy t [.ref (o_t 0), .int p1, .int p2, .int p3] (wd_X8_backOf cy o_t x_thrown x_delay x_feel x_turn x_sight x_ball x_w x_h x_n x_players x_hands x_pressed x_leftFrom x_leftTo x_wait x_isLost x_takes x_took) (wd_X8_backOf cy o_t x_thrown x_delay x_feel x_turn x_sight x_ball x_w x_h x_n x_players x_hands x_pressed x_leftFrom x_leftTo x_wait x_isLost out.2.1 out.2.2) out.1 := by
  refine ⟨rfl, ?_⟩
  intro sz
  refine Met.ofW (cc := cX8_backOf) (maxL := 6) (ret := (some .int)) (by decide) rfl ?_
  intro p e s m args below meth c s₁ B hml hv
  obtain ⟨rfl, hsz, hP, hK, hD0, hE⟩ := hv
  have hts := atoms_spec (ws := wsX8_backOf) B.pre
  have hown : s.vm.findClass RX8 = some m.cls := findClass_of_methodNamed B.named
  have hlocks := B.notSynchronized
  subst hsz
  have hD := hD0.self (sz := s.heap.size)
  have hl := lv_entry ([.ref (o_t 0), .int p1, .int p2, .int p3]) (n := 6) (Nat.le_of_ble_eq_true rfl)
  rw [lg_entry_eq]
  generalize (lg_sl ([.ref (o_t 0), .int p1, .int p2, .int p3]) ++ List.replicate (6 - (lg_sl ([.ref (o_t 0), .int p1, .int p2, .int p3])).length) Slot.unset).toArray = ls at hl ⊢
  exact w_X8_backOf D cy t o_t x_thrown x_delay x_feel x_turn x_sight x_ball x_w x_h x_n x_players x_hands x_pressed x_leftFrom x_leftTo x_wait x_isLost x_takes x_took p1 p2 p3 hf B.exec B.bytes hml hown hts hK hE (fun q h => Or.inr h) hP hD va_S.rf hl (fun H locs ls pc hP hD hS hdg => W.iret B.exec B.bytes B.returns (fun t ht hW => ⟨⟨_, (), rfl, rfl, ctB_of ht hP⟩, hS.F ht⟩) hS.2.2 hdg)

noncomputable def X8_back (x_delay : Int32) (x_hands : Nat → Int32) (x_pressed : Nat → Int32) (x_leftFrom : Nat → Int32) (x_leftTo : Nat → Int32) (x_wait : Nat → Int32) (x_isLost : Nat → Int32) (x_thrown : Int32) (x_takes : Nat → Int32) (x_took : Nat → Int32) (p1 : Int32) (p2 : Int32) : Option (Int32 × Int32 × (Nat → Int32) × (Nat → Int32)) :=
  bd (X8_noHand x_hands p1) fun r7 => if r7 = (0 : Int32) then (bd (X8_noTick p2) fun r14 => if r14 = (0 : Int32) then (bd (X8_backOf x_hands x_pressed x_leftFrom x_leftTo x_wait x_isLost x_takes x_took p1 p2 x_delay) fun r31 => some (r31.1, (0 : Int32), r31.2.1, r31.2.2)) else (some ((-1 : Int32), (0 : Int32), x_takes, x_took))) else (some ((-1 : Int32), (0 : Int32), x_takes, x_took))
abbrev wd_X8_back (cy : Nat → ClassId) (o_t : Nat → Nat) (x_thrown : Int32) (x_delay : Int32) (x_feel : Int32) (x_turn : Int32) (x_sight : Int32) (x_ball : Int32) (x_w : Int32) (x_h : Int32) (x_n : Int32) (x_players : Int32) (x_hands : Nat → Int32) (x_pressed : Nat → Int32) (x_leftFrom : Nat → Int32) (x_leftTo : Nat → Int32) (x_wait : Nat → Int32) (x_isLost : Nat → Int32) (x_takes : Nat → Int32) (x_took : Nat → Int32) : va_W := [(o_t 0, .inr (8, [.int x_thrown, .ref (o_t 2), .ref (o_t 3), .ref (o_t 4), .ref (o_t 5), .ref (o_t 6), .ref (o_t 7), .ref (o_t 8), .ref (o_t 9), .ref (o_t 10), .ref (o_t 11), .int x_delay, .int x_feel, .int x_turn, .int x_sight, .ref (o_t 16), .ref (o_t 17), .ref (o_t 18), .ref (o_t 19), .int x_ball, .int x_w, .int x_h, .int x_n, .ref (o_t 24), .ref (o_t 25), .ref (o_t 26), .ref (o_t 27), .ref (o_t 28), .ref (o_t 29), .int x_players, .ref (o_t 31), .ref (o_t 32), .ref (o_t 33), .ref (o_t 34), .ref (o_t 35), .ref (o_t 36)])), (o_t 4, .inl (cy 0, 5, .inl x_hands)), (o_t 8, .inl (cy 0, 3000, .inl x_pressed)), (o_t 9, .inl (cy 0, 30, .inl x_leftFrom)), (o_t 10, .inl (cy 0, 30, .inl x_leftTo)), (o_t 16, .inl (cy 0, 36, .inl x_wait)), (o_t 17, .inl (cy 1, 600, .inl x_isLost)), (o_t 25, .inl (cy 0, 600, .inl x_takes)), (o_t 26, .inl (cy 0, 600, .inl x_took))]
set_option maxHeartbeats 4000000 in
set_option maxRecDepth 100000 in
theorem w_X8_back {p : Program} {l : Launch} {e : Env} {s : State} {m : MethodId} {args : Array Value} {below : List Frame} {meth : Method} {c : Code} {Q : State → Prop} {A : Nat → Prop} {H : Heap} {locs : List Loc} {ls : Array Slot} (D : va_G) (cy : Nat → ClassId) (t : Nat → Nat) (o_t : Nat → Nat) (x_thrown : Int32) (x_delay : Int32) (x_feel : Int32) (x_turn : Int32) (x_sight : Int32) (x_ball : Int32) (x_w : Int32) (x_h : Int32) (x_n : Int32) (x_players : Int32) (x_hands : Nat → Int32) (x_pressed : Nat → Int32) (x_leftFrom : Nat → Int32) (x_leftTo : Nat → Int32) (x_wait : Nat → Int32) (x_isLost : Nat → Int32) (x_takes : Nat → Int32) (x_took : Nat → Int32) (p1 : Int32) (p2 : Int32) {out : Int32 × Int32 × (Nat → Int32) × (Nat → Int32)} (hf : X8_back x_delay x_hands x_pressed x_leftFrom x_leftTo x_wait x_isLost x_thrown x_takes x_took p1 p2 = some out) (hx : p.tables.exec = Jvm.exec) (hb : c.code = cX8_back) (hml : c.maxLocals = 3) (hown : s.vm.findClass RX8 = some m.cls) (hts : ∀ w ∈ wsX8_back, w.before args s = true) (hK : va_K D vwCl (TYS cy) s) (hE : EV t A s s.heap) (hA : ∀ q, s.heap.size ≤ q → A q) (hP : va_P D vwCl (wd_X8_back cy o_t x_thrown x_delay x_feel x_turn x_sight x_ball x_w x_h x_n x_players x_hands x_pressed x_leftFrom x_leftTo x_wait x_isLost x_takes x_took) H) (hD : va_D A (wd_X8_back cy o_t x_thrown x_delay x_feel x_turn x_sight x_ball x_w x_h x_n x_players x_hands x_pressed x_leftFrom x_leftTo x_wait x_isLost x_takes x_took)) (hS : va_S A s.heap H locs) (hl : lv_has ls 3 [(0, .ref (o_t 0)), (1, .int p1), (2, .int p2)]) (hR : ∀ (H : Heap) (locs : List Loc) (ls : Array Slot) (pc : Nat), va_P D vwCl (wd_X8_back cy o_t out.2.1 x_delay x_feel x_turn x_sight x_ball x_w x_h x_n x_players x_hands x_pressed x_leftFrom x_leftTo x_wait x_isLost out.2.2.1 out.2.2.2) H → va_D A (wd_X8_back cy o_t out.2.1 x_delay x_feel x_turn x_sight x_ball x_w x_h x_n x_players x_hands x_pressed x_leftFrom x_leftTo x_wait x_isLost out.2.2.1 out.2.2.2) → va_S A s.heap H locs → decode cX8_back pc = .ok (.ireturn, 1) → W p l e (rmm 4 102) s m args below meth c H locs 0 0 Q (F0 m pc ls [.int out.1])) : W p l e (rmm 4 102) s m args below meth c H locs 0 0 Q (F0 m 0 ls []) := by
  have k0 := hts (.fieldLink RX8 100 "SeaGamesModel" "thrown" "I") (List.mem_cons_of_mem _ (List.mem_append_left _ (List.mem_append_left _ (List.mem_of_getElem? (i := 0) rfl))))
  have k1 : ∀ w ∈ u_ws RX8 TX8 36, w ∈ wsX8_back := fun _ h => List.mem_cons_of_mem _ (List.mem_append_right _ h)
  have k2 := hts (.fieldLink RX8 117 "SeaGamesModel" "delay" "I") (List.mem_cons_of_mem _ (List.mem_append_left _ (List.mem_append_left _ (List.mem_of_getElem? (i := 1) rfl))))
  rw [X8_back] at hf
  refine lv_aload_n hx hb dX8_back_0 rfl (lv_at hl 0 rfl) ?_
  refine lv_iconst (v := (0 : Int32)) hx hb dX8_back_1 (by decide) ?_
  refine va_put (D := D) (ci := 8) (v := .int (0 : Int32)) (ty := .int) (C := RX8) (T := TX8) (N := 36) hx hb hts k1 tyX8 tyX8_ok nmX8 hown hK hP hD hS 0 rfl rfl 0 (by decide) k0 (fun _ h9 => h9) rfl (by decide +kernel) rfl rfl (Nat.le_of_ble_eq_true rfl) dX8_back_2 (fun H locs hP hD hS => ?_)
  have hP : va_P D vwCl (wd_X8_back cy o_t (0 : Int32) x_delay x_feel x_turn x_sight x_ball x_w x_h x_n x_players x_hands x_pressed x_leftFrom x_leftTo x_wait x_isLost x_takes x_took) H := hP
  have hD : va_D A (wd_X8_back cy o_t (0 : Int32) x_delay x_feel x_turn x_sight x_ball x_w x_h x_n x_players x_hands x_pressed x_leftFrom x_leftTo x_wait x_isLost x_takes x_took) := hD
  refine lv_aload_n hx hb dX8_back_5 rfl (lv_at hl 0 rfl) ?_
  refine lv_iload_n hx hb dX8_back_6 rfl (lv_at hl 1 rfl) ?_
  obtain ⟨r7, hr7, hf⟩ := bd_s hf
  refine my_Vi (WS2 := (wd_X8_back cy o_t (0 : Int32) x_delay x_feel x_turn x_sight x_ball x_w x_h x_n x_players x_hands x_pressed x_leftFrom x_leftTo x_wait x_isLost x_takes x_took)) ⟨hx, hb, hml, hown, hts⟩ (c_X8_noHand l D cy t o_t (0 : Int32) x_delay x_feel x_turn x_sight x_ball x_w x_h x_n x_players x_hands p1 hr7) (cwV 1 hts gX8_back_X8_noHand rfl rfl rfl ⟨rfl, hd_X8_noHand⟩ ⟨Nat.le_of_ble_eq_true rfl, Nat.le_of_ble_eq_true rfl⟩) hK hE hP hD hS hA [0, 1] 9 8 0 rfl rfl rfl rfl (by decide +kernel) rfl rfl hl.1 rfl (Nat.le_of_ble_eq_true rfl) dX8_back_7 ⟨Nat.le_of_ble_eq_true rfl, Nat.le_of_ble_eq_true rfl⟩ (fun H locs hP hD hS => ?_)
  refine lv_if_ne (tgt := 20) hx hb dX8_back_10 (by decide) (fun c10 => ?_) (fun c10 => ?_)
  · have hf := ifn c10 hf
    refine lv_iconst (v := (-1 : Int32)) hx hb dX8_back_20 (by decide) ?_
    refine lv_goto (tgt := 34) hx hb dX8_back_21 (by decide) ?_
    obtain rfl := Option.some.inj hf
    exact hR _ _ _ _ hP hD hS dX8_back_34
  · have hf := ifp c10 hf
    refine lv_iload_n hx hb dX8_back_13 rfl (lv_at hl 2 rfl) ?_
    obtain ⟨r14, hr14, hf⟩ := bd_s hf
    refine my_Si (WS2 := (wd_X8_back cy o_t (0 : Int32) x_delay x_feel x_turn x_sight x_ball x_w x_h x_n x_players x_hands x_pressed x_leftFrom x_leftTo x_wait x_isLost x_takes x_took)) ⟨hx, hb, hml, hown, hts⟩ (c_X8_noTick l D cy t p2 hr14) (va_cwS 1 hts gX8_back_X8_noTick rfl rfl rfl hd_X8_noTick ⟨Nat.le_of_ble_eq_true rfl, Nat.le_of_ble_eq_true rfl⟩) hK hE hP hD hS hA [] 9 rfl rfl (by decide +kernel) rfl rfl hl.1 rfl (Nat.le_of_ble_eq_true rfl) dX8_back_14 ⟨Nat.le_of_ble_eq_true rfl, Nat.le_of_ble_eq_true rfl⟩ (fun H locs hP hD hS => ?_)
    refine lv_if_eq (tgt := 24) hx hb dX8_back_17 (by decide) (fun c17 => ?_) (fun c17 => ?_)
    · have hf := ifp c17 hf
      refine lv_aload_n hx hb dX8_back_24 rfl (lv_at hl 0 rfl) ?_
      refine lv_iload_n hx hb dX8_back_25 rfl (lv_at hl 1 rfl) ?_
      refine lv_iload_n hx hb dX8_back_26 rfl (lv_at hl 2 rfl) ?_
      refine lv_aload_n hx hb dX8_back_27 rfl (lv_at hl 0 rfl) ?_
      refine va_get (D := D) (ci := 8) (v := .int x_delay) (C := RX8) (T := TX8) (N := 36) hx hb hts k1 hown hK hP 0 rfl rfl 11 (by decide) k2 (fun _ h9 => h9) rfl dX8_back_28 ?_
      obtain ⟨r31, hr31, hf⟩ := bd_s hf
      refine my_Vi (WS2 := (wd_X8_back cy o_t (0 : Int32) x_delay x_feel x_turn x_sight x_ball x_w x_h x_n x_players x_hands x_pressed x_leftFrom x_leftTo x_wait x_isLost r31.2.1 r31.2.2)) ⟨hx, hb, hml, hown, hts⟩ (c_X8_backOf l D cy t o_t (0 : Int32) x_delay x_feel x_turn x_sight x_ball x_w x_h x_n x_players x_hands x_pressed x_leftFrom x_leftTo x_wait x_isLost x_takes x_took p1 p2 x_delay hr31) (cwV 3 hts gX8_back_X8_backOf rfl rfl rfl ⟨rfl, hd_X8_backOf⟩ ⟨Nat.le_of_ble_eq_true rfl, Nat.le_of_ble_eq_true rfl⟩) hK hE hP hD hS hA [0, 1, 2, 3, 4, 5, 6, 7, 8] 9 8 0 rfl rfl rfl rfl (by decide +kernel) rfl rfl hl.1 rfl (Nat.le_of_ble_eq_true rfl) dX8_back_31 ⟨Nat.le_of_ble_eq_true rfl, Nat.le_of_ble_eq_true rfl⟩ (fun H locs hP hD hS => ?_)
      obtain rfl := Option.some.inj hf
      exact hR _ _ _ _ hP hD hS dX8_back_34
    · have hf := ifn c17 hf
      refine lv_iconst (v := (-1 : Int32)) hx hb dX8_back_20 (by decide) ?_
      refine lv_goto (tgt := 34) hx hb dX8_back_21 (by decide) ?_
      obtain rfl := Option.some.inj hf
      exact hR _ _ _ _ hP hD hS dX8_back_34
theorem hd_X8_back : yX8_back.cls ≠ "java/lang/invoke/MethodHandle" ∧ yX8_back.cls ≠ "java/lang/invoke/VarHandle" ∧ (parseMethodDescriptor yX8_back.desc).map (fun d => d.parameters.length) = some 2 := by decide +kernel
set_option maxRecDepth 100000 in
theorem c_X8_back (l : Launch) (D : va_G) (cy : Nat → ClassId) (t : Nat → Nat) (o_t : Nat → Nat) (x_thrown : Int32) (x_delay : Int32) (x_feel : Int32) (x_turn : Int32) (x_sight : Int32) (x_ball : Int32) (x_w : Int32) (x_h : Int32) (x_n : Int32) (x_players : Int32) (x_hands : Nat → Int32) (x_pressed : Nat → Int32) (x_leftFrom : Nat → Int32) (x_leftTo : Nat → Int32) (x_wait : Nat → Int32) (x_isLost : Nat → Int32) (x_takes : Nat → Int32) (x_took : Nat → Int32) (p1 : Int32) (p2 : Int32) {out : Int32 × Int32 × (Nat → Int32) × (Nat → Int32)} (hf : X8_back x_delay x_hands x_pressed x_leftFrom x_leftTo x_wait x_isLost x_thrown x_takes x_took p1 p2 = some out) : ctI l yX8_back wsX8_back 4 102 D cy t [.ref (o_t 0), .int p1, .int p2] (wd_X8_back cy o_t x_thrown x_delay x_feel x_turn x_sight x_ball x_w x_h x_n x_players x_hands x_pressed x_leftFrom x_leftTo x_wait x_isLost x_takes x_took) (wd_X8_back cy o_t out.2.1 x_delay x_feel x_turn x_sight x_ball x_w x_h x_n x_players x_hands x_pressed x_leftFrom x_leftTo x_wait x_isLost out.2.2.1 out.2.2.2) out.1 := by
  refine ⟨rfl, ?_⟩
  intro sz
  refine Met.ofW (cc := cX8_back) (maxL := 3) (ret := (some .int)) (by decide) rfl ?_
  intro p e s m args below meth c s₁ B hml hv
  obtain ⟨rfl, hsz, hP, hK, hD0, hE⟩ := hv
  have hts := atoms_spec (ws := wsX8_back) B.pre
  have hown : s.vm.findClass RX8 = some m.cls := findClass_of_methodNamed B.named
  have hlocks := B.notSynchronized
  subst hsz
  have hD := hD0.self (sz := s.heap.size)
  have hl := lv_entry ([.ref (o_t 0), .int p1, .int p2]) (n := 3) (Nat.le_of_ble_eq_true rfl)
  rw [lg_entry_eq]
  generalize (lg_sl ([.ref (o_t 0), .int p1, .int p2]) ++ List.replicate (3 - (lg_sl ([.ref (o_t 0), .int p1, .int p2])).length) Slot.unset).toArray = ls at hl ⊢
  exact w_X8_back D cy t o_t x_thrown x_delay x_feel x_turn x_sight x_ball x_w x_h x_n x_players x_hands x_pressed x_leftFrom x_leftTo x_wait x_isLost x_takes x_took p1 p2 hf B.exec B.bytes hml hown hts hK hE (fun q h => Or.inr h) hP hD va_S.rf hl (fun H locs ls pc hP hD hS hdg => W.iret B.exec B.bytes B.returns (fun t ht hW => ⟨⟨_, (), rfl, rfl, ctB_of ht hP⟩, hS.F ht⟩) hS.2.2 hdg)

noncomputable def X8_agreed_J102 (x_delay : Int32) (x_hands : Nat → Int32) (x_leftFrom : Nat → Int32) (x_leftTo : Nat → Int32) (x_wait : Nat → Int32) (x_isLost : Nat → Int32) (rec31 : Int32 → Int32 → Int32 → Int32 → Int32 → Int32 → Option (Int32 × Int32)) (x_thrown : Int32) (l1 : Int32) (l2 : Int32) (l4 : Int32) (l5 : Int32) (s0 : Int32) : Option (Int32 × Int32) :=
  nm (l5 + (1 : Int32)) fun v103 => rec31 x_thrown l1 l2 s0 l4 v103
noncomputable def X8_agreed_J91 (x_delay : Int32) (x_hands : Nat → Int32) (x_leftFrom : Nat → Int32) (x_leftTo : Nat → Int32) (x_wait : Nat → Int32) (x_isLost : Nat → Int32) (rec31 : Int32 → Int32 → Int32 → Int32 → Int32 → Int32 → Option (Int32 × Int32)) (x_thrown : Int32) (l1 : Int32) (l2 : Int32) (l3 : Int32) (l4 : Int32) (l5 : Int32) : Option (Int32 × Int32) :=
  if l4 = (0 : Int32) then (X8_agreed_J102 x_delay x_hands x_leftFrom x_leftTo x_wait x_isLost rec31 x_thrown l1 l2 l4 l5 l3) else (X8_agreed_J102 x_delay x_hands x_leftFrom x_leftTo x_wait x_isLost rec31 x_thrown l1 l2 l4 l5 l5)
noncomputable def X8_agreed_J83 (x_delay : Int32) (x_hands : Nat → Int32) (x_leftFrom : Nat → Int32) (x_leftTo : Nat → Int32) (x_wait : Nat → Int32) (x_isLost : Nat → Int32) (rec31 : Int32 → Int32 → Int32 → Int32 → Int32 → Int32 → Option (Int32 × Int32)) (rec45 : Int32 → Int32 → Int32 → Int32 → Int32 → Int32 → Int32 → Option (Int32 × Int32)) (x_thrown : Int32) (l1 : Int32) (l2 : Int32) (l3 : Int32) (l5 : Int32) (l6 : Int32) (s0 : Int32) : Option (Int32 × Int32) :=
  nm (l6 + (1 : Int32)) fun v85 => rec45 x_thrown l1 l2 l3 s0 l5 v85
noncomputable def X8_agreed_J82 (x_delay : Int32) (x_hands : Nat → Int32) (x_leftFrom : Nat → Int32) (x_leftTo : Nat → Int32) (x_wait : Nat → Int32) (x_isLost : Nat → Int32) (rec31 : Int32 → Int32 → Int32 → Int32 → Int32 → Int32 → Option (Int32 × Int32)) (rec45 : Int32 → Int32 → Int32 → Int32 → Int32 → Int32 → Int32 → Option (Int32 × Int32)) (x_thrown : Int32) (l1 : Int32) (l2 : Int32) (l3 : Int32) (l5 : Int32) (l6 : Int32) : Option (Int32 × Int32) :=
  X8_agreed_J83 x_delay x_hands x_leftFrom x_leftTo x_wait x_isLost rec31 rec45 x_thrown l1 l2 l3 l5 l6 (0 : Int32)
noncomputable def X8_agreed_L45_B (x_delay : Int32) (x_hands : Nat → Int32) (x_leftFrom : Nat → Int32) (x_leftTo : Nat → Int32) (x_wait : Nat → Int32) (x_isLost : Nat → Int32) (rec31 : Int32 → Int32 → Int32 → Int32 → Int32 → Int32 → Option (Int32 × Int32)) (rec45 : Int32 → Int32 → Int32 → Int32 → Int32 → Int32 → Int32 → Option (Int32 × Int32)) (x_thrown : Int32) (l1 : Int32) (l2 : Int32) (l3 : Int32) (l4 : Int32) (l5 : Int32) (l6 : Int32) : Option (Int32 × Int32) :=
  rd x_hands 5 (4 : Int32) fun v52 => if v52 ≤ l6 then (X8_agreed_J91 x_delay x_hands x_leftFrom x_leftTo x_wait x_isLost rec31 x_thrown l1 l2 l3 l4 l5) else (if l4 = (0 : Int32) then (X8_agreed_J82 x_delay x_hands x_leftFrom x_leftTo x_wait x_isLost rec31 rec45 x_thrown l1 l2 l3 l5 l6) else (bd (X8_knownAt x_leftFrom x_leftTo x_wait x_isLost l1 l6 l5 x_delay) fun r71 => if l2 < r71 then (X8_agreed_J82 x_delay x_hands x_leftFrom x_leftTo x_wait x_isLost rec31 rec45 x_thrown l1 l2 l3 l5 l6) else (X8_agreed_J83 x_delay x_hands x_leftFrom x_leftTo x_wait x_isLost rec31 rec45 x_thrown l1 l2 l3 l5 l6 (1 : Int32))))
noncomputable def X8_agreed_L45 (x_delay : Int32) (x_hands : Nat → Int32) (x_leftFrom : Nat → Int32) (x_leftTo : Nat → Int32) (x_wait : Nat → Int32) (x_isLost : Nat → Int32) (rec31 : Int32 → Int32 → Int32 → Int32 → Int32 → Int32 → Option (Int32 × Int32)) : Nat → Int32 → Int32 → Int32 → Int32 → Int32 → Int32 → Int32 → Option (Int32 × Int32)
  | 0, _, _, _, _, _, _, _ => none
  | n + 1, y0, y1, y2, y3, y4, y5, y6 => X8_agreed_L45_B x_delay x_hands x_leftFrom x_leftTo x_wait x_isLost rec31 (X8_agreed_L45 x_delay x_hands x_leftFrom x_leftTo x_wait x_isLost rec31 n) y0 y1 y2 y3 y4 y5 y6
noncomputable def X8_agreed_L31_B (x_delay : Int32) (x_hands : Nat → Int32) (x_leftFrom : Nat → Int32) (x_leftTo : Nat → Int32) (x_wait : Nat → Int32) (x_isLost : Nat → Int32) (rec31 : Int32 → Int32 → Int32 → Int32 → Int32 → Int32 → Option (Int32 × Int32)) (x_thrown : Int32) (l1 : Int32) (l2 : Int32) (l3 : Int32) (l4 : Int32) (l5 : Int32) : Option (Int32 × Int32) :=
  if l2 < l5 then (some (l3, x_thrown)) else (if l4 = (0 : Int32) then (some (l3, x_thrown)) else (X8_agreed_L45 x_delay x_hands x_leftFrom x_leftTo x_wait x_isLost rec31 FU x_thrown l1 l2 l3 l4 l5 (0 : Int32)))
noncomputable def X8_agreed_L31 (x_delay : Int32) (x_hands : Nat → Int32) (x_leftFrom : Nat → Int32) (x_leftTo : Nat → Int32) (x_wait : Nat → Int32) (x_isLost : Nat → Int32) : Nat → Int32 → Int32 → Int32 → Int32 → Int32 → Int32 → Option (Int32 × Int32)
  | 0, _, _, _, _, _, _ => none
  | n + 1, y0, y1, y2, y3, y4, y5 => X8_agreed_L31_B x_delay x_hands x_leftFrom x_leftTo x_wait x_isLost  (X8_agreed_L31 x_delay x_hands x_leftFrom x_leftTo x_wait x_isLost  n) y0 y1 y2 y3 y4 y5
noncomputable def X8_agreed (x_delay : Int32) (x_hands : Nat → Int32) (x_leftFrom : Nat → Int32) (x_leftTo : Nat → Int32) (x_wait : Nat → Int32) (x_isLost : Nat → Int32) (x_thrown : Int32) (p1 : Int32) (p2 : Int32) : Option (Int32 × Int32) :=
  bd (X8_noHand x_hands p1) fun r7 => if r7 = (0 : Int32) then (bd (X8_noTick p2) fun r14 => if r14 = (0 : Int32) then (X8_agreed_L31 x_delay x_hands x_leftFrom x_leftTo x_wait x_isLost  FU (0 : Int32) p1 p2 (-9 : Int32) (1 : Int32) (0 : Int32)) else (some ((-1 : Int32), (0 : Int32)))) else (some ((-1 : Int32), (0 : Int32)))
abbrev wd_X8_agreed (cy : Nat → ClassId) (o_t : Nat → Nat) (x_thrown : Int32) (x_delay : Int32) (x_feel : Int32) (x_turn : Int32) (x_sight : Int32) (x_ball : Int32) (x_w : Int32) (x_h : Int32) (x_n : Int32) (x_players : Int32) (x_hands : Nat → Int32) (x_leftFrom : Nat → Int32) (x_leftTo : Nat → Int32) (x_wait : Nat → Int32) (x_isLost : Nat → Int32) : va_W := [(o_t 0, .inr (8, [.int x_thrown, .ref (o_t 2), .ref (o_t 3), .ref (o_t 4), .ref (o_t 5), .ref (o_t 6), .ref (o_t 7), .ref (o_t 8), .ref (o_t 9), .ref (o_t 10), .ref (o_t 11), .int x_delay, .int x_feel, .int x_turn, .int x_sight, .ref (o_t 16), .ref (o_t 17), .ref (o_t 18), .ref (o_t 19), .int x_ball, .int x_w, .int x_h, .int x_n, .ref (o_t 24), .ref (o_t 25), .ref (o_t 26), .ref (o_t 27), .ref (o_t 28), .ref (o_t 29), .int x_players, .ref (o_t 31), .ref (o_t 32), .ref (o_t 33), .ref (o_t 34), .ref (o_t 35), .ref (o_t 36)])), (o_t 4, .inl (cy 0, 5, .inl x_hands)), (o_t 9, .inl (cy 0, 30, .inl x_leftFrom)), (o_t 10, .inl (cy 0, 30, .inl x_leftTo)), (o_t 16, .inl (cy 0, 36, .inl x_wait)), (o_t 17, .inl (cy 1, 600, .inl x_isLost))]
set_option maxHeartbeats 4000000 in
set_option maxRecDepth 100000 in
theorem w_X8_agreed {p : Program} {l : Launch} {e : Env} {s : State} {m : MethodId} {args : Array Value} {below : List Frame} {meth : Method} {c : Code} {Q : State → Prop} {A : Nat → Prop} {H : Heap} {locs : List Loc} {ls : Array Slot} (D : va_G) (cy : Nat → ClassId) (t : Nat → Nat) (o_t : Nat → Nat) (x_thrown : Int32) (x_delay : Int32) (x_feel : Int32) (x_turn : Int32) (x_sight : Int32) (x_ball : Int32) (x_w : Int32) (x_h : Int32) (x_n : Int32) (x_players : Int32) (x_hands : Nat → Int32) (x_leftFrom : Nat → Int32) (x_leftTo : Nat → Int32) (x_wait : Nat → Int32) (x_isLost : Nat → Int32) (p1 : Int32) (p2 : Int32) {out : Int32 × Int32} (hf : X8_agreed x_delay x_hands x_leftFrom x_leftTo x_wait x_isLost x_thrown p1 p2 = some out) (hx : p.tables.exec = Jvm.exec) (hb : c.code = cX8_agreed) (hml : c.maxLocals = 7) (hown : s.vm.findClass RX8 = some m.cls) (hts : ∀ w ∈ wsX8_agreed, w.before args s = true) (hK : va_K D vwCl (TYS cy) s) (hE : EV t A s s.heap) (hA : ∀ q, s.heap.size ≤ q → A q) (hP : va_P D vwCl (wd_X8_agreed cy o_t x_thrown x_delay x_feel x_turn x_sight x_ball x_w x_h x_n x_players x_hands x_leftFrom x_leftTo x_wait x_isLost) H) (hD : va_D A (wd_X8_agreed cy o_t x_thrown x_delay x_feel x_turn x_sight x_ball x_w x_h x_n x_players x_hands x_leftFrom x_leftTo x_wait x_isLost)) (hS : va_S A s.heap H locs) (hl : lv_has ls 7 [(0, .ref (o_t 0)), (1, .int p1), (2, .int p2)]) (hR : ∀ (H : Heap) (locs : List Loc) (ls : Array Slot) (pc : Nat), va_P D vwCl (wd_X8_agreed cy o_t out.2 x_delay x_feel x_turn x_sight x_ball x_w x_h x_n x_players x_hands x_leftFrom x_leftTo x_wait x_isLost) H → va_D A (wd_X8_agreed cy o_t out.2 x_delay x_feel x_turn x_sight x_ball x_w x_h x_n x_players x_hands x_leftFrom x_leftTo x_wait x_isLost) → va_S A s.heap H locs → decode cX8_agreed pc = .ok (.ireturn, 1) → W p l e (rmm 2 48) s m args below meth c H locs 0 0 Q (F0 m pc ls [.int out.1])) : W p l e (rmm 2 48) s m args below meth c H locs 0 0 Q (F0 m 0 ls []) := by
  have k0 := hts (.fieldLink RX8 100 "SeaGamesModel" "thrown" "I") (List.mem_cons_of_mem _ (List.mem_append_left _ (List.mem_append_left _ (List.mem_of_getElem? (i := 0) rfl))))
  have k1 : ∀ w ∈ u_ws RX8 TX8 36, w ∈ wsX8_agreed := fun _ h => List.mem_cons_of_mem _ (List.mem_append_right _ h)
  have k2 := hts (.fieldLink RX8 16 "SeaGamesModel" "hands" "[I") (List.mem_cons_of_mem _ (List.mem_append_left _ (List.mem_append_left _ (List.mem_of_getElem? (i := 1) rfl))))
  have k3 := hts (.fieldLink RX8 117 "SeaGamesModel" "delay" "I") (List.mem_cons_of_mem _ (List.mem_append_left _ (List.mem_append_left _ (List.mem_of_getElem? (i := 2) rfl))))
  rw [X8_agreed] at hf
  refine lv_aload_n hx hb dX8_agreed_0 rfl (lv_at hl 0 rfl) ?_
  refine lv_iconst (v := (0 : Int32)) hx hb dX8_agreed_1 (by decide) ?_
  refine va_put (D := D) (ci := 8) (v := .int (0 : Int32)) (ty := .int) (C := RX8) (T := TX8) (N := 36) hx hb hts k1 tyX8 tyX8_ok nmX8 hown hK hP hD hS 0 rfl rfl 0 (by decide) k0 (fun _ h9 => h9) rfl (by decide +kernel) rfl rfl (Nat.le_of_ble_eq_true rfl) dX8_agreed_2 (fun H locs hP hD hS => ?_)
  have hP : va_P D vwCl (wd_X8_agreed cy o_t (0 : Int32) x_delay x_feel x_turn x_sight x_ball x_w x_h x_n x_players x_hands x_leftFrom x_leftTo x_wait x_isLost) H := hP
  have hD : va_D A (wd_X8_agreed cy o_t (0 : Int32) x_delay x_feel x_turn x_sight x_ball x_w x_h x_n x_players x_hands x_leftFrom x_leftTo x_wait x_isLost) := hD
  refine lv_aload_n hx hb dX8_agreed_5 rfl (lv_at hl 0 rfl) ?_
  refine lv_iload_n hx hb dX8_agreed_6 rfl (lv_at hl 1 rfl) ?_
  obtain ⟨r7, hr7, hf⟩ := bd_s hf
  refine my_Vi (WS2 := (wd_X8_agreed cy o_t (0 : Int32) x_delay x_feel x_turn x_sight x_ball x_w x_h x_n x_players x_hands x_leftFrom x_leftTo x_wait x_isLost)) ⟨hx, hb, hml, hown, hts⟩ (c_X8_noHand l D cy t o_t (0 : Int32) x_delay x_feel x_turn x_sight x_ball x_w x_h x_n x_players x_hands p1 hr7) (cwV 1 hts gX8_agreed_X8_noHand rfl rfl rfl ⟨rfl, hd_X8_noHand⟩ ⟨Nat.le_of_ble_eq_true rfl, Nat.le_of_ble_eq_true rfl⟩) hK hE hP hD hS hA [0, 1] 6 8 0 rfl rfl rfl rfl (by decide +kernel) rfl rfl hl.1 rfl (Nat.le_of_ble_eq_true rfl) dX8_agreed_7 ⟨Nat.le_of_ble_eq_true rfl, Nat.le_of_ble_eq_true rfl⟩ (fun H locs hP hD hS => ?_)
  refine lv_if_ne (tgt := 20) hx hb dX8_agreed_10 (by decide) (fun c10 => ?_) (fun c10 => ?_)
  · have hf := ifn c10 hf
    refine lv_iconst (v := (-1 : Int32)) hx hb dX8_agreed_20 (by decide) ?_
    obtain rfl := Option.some.inj hf
    exact hR _ _ _ _ hP hD hS dX8_agreed_21
  · have hf := ifp c10 hf
    refine lv_iload_n hx hb dX8_agreed_13 rfl (lv_at hl 2 rfl) ?_
    obtain ⟨r14, hr14, hf⟩ := bd_s hf
    refine my_Si (WS2 := (wd_X8_agreed cy o_t (0 : Int32) x_delay x_feel x_turn x_sight x_ball x_w x_h x_n x_players x_hands x_leftFrom x_leftTo x_wait x_isLost)) ⟨hx, hb, hml, hown, hts⟩ (c_X8_noTick l D cy t p2 hr14) (va_cwS 1 hts gX8_agreed_X8_noTick rfl rfl rfl hd_X8_noTick ⟨Nat.le_of_ble_eq_true rfl, Nat.le_of_ble_eq_true rfl⟩) hK hE hP hD hS hA [] 6 rfl rfl (by decide +kernel) rfl rfl hl.1 rfl (Nat.le_of_ble_eq_true rfl) dX8_agreed_14 ⟨Nat.le_of_ble_eq_true rfl, Nat.le_of_ble_eq_true rfl⟩ (fun H locs hP hD hS => ?_)
    refine lv_if_eq (tgt := 22) hx hb dX8_agreed_17 (by decide) (fun c17 => ?_) (fun c17 => ?_)
    · have hf := ifp c17 hf
      have h31 : ∀ (n31 : Nat) (x_thrown : Int32) (l1 : Int32) (l2 : Int32) (l3 : Int32) (l4 : Int32) (l5 : Int32) (H : Heap) (locs : List Loc) (ls : Array Slot), X8_agreed_L31 x_delay x_hands x_leftFrom x_leftTo x_wait x_isLost n31 x_thrown l1 l2 l3 l4 l5 = some out → va_P D vwCl (wd_X8_agreed cy o_t x_thrown x_delay x_feel x_turn x_sight x_ball x_w x_h x_n x_players x_hands x_leftFrom x_leftTo x_wait x_isLost) H → va_D A (wd_X8_agreed cy o_t x_thrown x_delay x_feel x_turn x_sight x_ball x_w x_h x_n x_players x_hands x_leftFrom x_leftTo x_wait x_isLost) → va_S A s.heap H locs → lv_has ls 7 [(0, .ref (o_t 0)), (1, .int l1), (2, .int l2), (3, .int l3), (4, .int l4), (5, .int l5)] → W p l e (rmm 2 48) s m args below meth c H locs 0 0 Q (F0 m 31 ls []) := by
        intro n31
        induction n31 with
        | zero =>
          intro _ _ _ _ _ _ _ _ _ hf
          exact nomatch (show (none : Option _) = some out from hf)
        | succ n31 ih31 =>
          intro x_thrown l1 l2 l3 l4 l5 H locs ls hf hP hD hS hl
          have hf : X8_agreed_L31_B x_delay x_hands x_leftFrom x_leftTo x_wait x_isLost (X8_agreed_L31 x_delay x_hands x_leftFrom x_leftTo x_wait x_isLost n31) x_thrown l1 l2 l3 l4 l5 = some out := hf
          rw [X8_agreed_L31_B] at hf
          refine lv_iload hx hb dX8_agreed_31 (lv_at hl 5 rfl) ?_
          refine lv_iload_n hx hb dX8_agreed_33 rfl (lv_at hl 2 rfl) ?_
          refine lv_icmp_gt (tgt := 109) hx hb dX8_agreed_34 (by decide) (fun c34 => ?_) (fun c34 => ?_)
          · have hf := ifp c34 hf
            refine lv_iload_n hx hb dX8_agreed_109 rfl (lv_at hl 3 rfl) ?_
            obtain rfl := Option.some.inj hf
            exact hR _ _ _ _ hP hD hS dX8_agreed_110
          · have hf := ifn c34 hf
            refine lv_iload hx hb dX8_agreed_37 (lv_at hl 4 rfl) ?_
            refine lv_if_eq (tgt := 109) hx hb dX8_agreed_39 (by decide) (fun c39 => ?_) (fun c39 => ?_)
            · have hf := ifp c39 hf
              refine lv_iload_n hx hb dX8_agreed_109 rfl (lv_at hl 3 rfl) ?_
              obtain rfl := Option.some.inj hf
              exact hR _ _ _ _ hP hD hS dX8_agreed_110
            · have hf := ifn c39 hf
              have h45 : ∀ (n45 : Nat) (x_thrown : Int32) (l1 : Int32) (l2 : Int32) (l3 : Int32) (l4 : Int32) (l5 : Int32) (l6 : Int32) (H : Heap) (locs : List Loc) (ls : Array Slot), X8_agreed_L45 x_delay x_hands x_leftFrom x_leftTo x_wait x_isLost (X8_agreed_L31 x_delay x_hands x_leftFrom x_leftTo x_wait x_isLost n31) n45 x_thrown l1 l2 l3 l4 l5 l6 = some out → va_P D vwCl (wd_X8_agreed cy o_t x_thrown x_delay x_feel x_turn x_sight x_ball x_w x_h x_n x_players x_hands x_leftFrom x_leftTo x_wait x_isLost) H → va_D A (wd_X8_agreed cy o_t x_thrown x_delay x_feel x_turn x_sight x_ball x_w x_h x_n x_players x_hands x_leftFrom x_leftTo x_wait x_isLost) → va_S A s.heap H locs → lv_has ls 7 [(0, .ref (o_t 0)), (1, .int l1), (2, .int l2), (3, .int l3), (4, .int l4), (5, .int l5), (6, .int l6)] → W p l e (rmm 2 48) s m args below meth c H locs 0 0 Q (F0 m 45 ls []) := by
                intro n45
                induction n45 with
                | zero =>
                  intro _ _ _ _ _ _ _ _ _ _ hf
                  exact nomatch (show (none : Option _) = some out from hf)
                | succ n45 ih45 =>
                  intro x_thrown l1 l2 l3 l4 l5 l6 H locs ls hf hP hD hS hl
                  have hf : X8_agreed_L45_B x_delay x_hands x_leftFrom x_leftTo x_wait x_isLost (X8_agreed_L31 x_delay x_hands x_leftFrom x_leftTo x_wait x_isLost n31) (X8_agreed_L45 x_delay x_hands x_leftFrom x_leftTo x_wait x_isLost (X8_agreed_L31 x_delay x_hands x_leftFrom x_leftTo x_wait x_isLost n31) n45) x_thrown l1 l2 l3 l4 l5 l6 = some out := hf
                  rw [X8_agreed_L45_B] at hf
                  have h91 : ∀ (x_thrown : Int32) (l1 : Int32) (l2 : Int32) (l3 : Int32) (l4 : Int32) (l5 : Int32) (H : Heap) (locs : List Loc) (ls : Array Slot), X8_agreed_J91 x_delay x_hands x_leftFrom x_leftTo x_wait x_isLost (X8_agreed_L31 x_delay x_hands x_leftFrom x_leftTo x_wait x_isLost n31) x_thrown l1 l2 l3 l4 l5 = some out → va_P D vwCl (wd_X8_agreed cy o_t x_thrown x_delay x_feel x_turn x_sight x_ball x_w x_h x_n x_players x_hands x_leftFrom x_leftTo x_wait x_isLost) H → va_D A (wd_X8_agreed cy o_t x_thrown x_delay x_feel x_turn x_sight x_ball x_w x_h x_n x_players x_hands x_leftFrom x_leftTo x_wait x_isLost) → va_S A s.heap H locs → lv_has ls 7 [(0, .ref (o_t 0)), (1, .int l1), (2, .int l2), (3, .int l3), (4, .int l4), (5, .int l5)] → W p l e (rmm 2 48) s m args below meth c H locs 0 0 Q (F0 m 91 ls []) := by
                    intro x_thrown l1 l2 l3 l4 l5 H locs ls hf hP hD hS hl
                    rw [X8_agreed_J91] at hf
                    have h102 : ∀ (x_thrown : Int32) (l1 : Int32) (l2 : Int32) (l4 : Int32) (l5 : Int32) (s0 : Int32) (H : Heap) (locs : List Loc) (ls : Array Slot), X8_agreed_J102 x_delay x_hands x_leftFrom x_leftTo x_wait x_isLost (X8_agreed_L31 x_delay x_hands x_leftFrom x_leftTo x_wait x_isLost n31) x_thrown l1 l2 l4 l5 s0 = some out → va_P D vwCl (wd_X8_agreed cy o_t x_thrown x_delay x_feel x_turn x_sight x_ball x_w x_h x_n x_players x_hands x_leftFrom x_leftTo x_wait x_isLost) H → va_D A (wd_X8_agreed cy o_t x_thrown x_delay x_feel x_turn x_sight x_ball x_w x_h x_n x_players x_hands x_leftFrom x_leftTo x_wait x_isLost) → va_S A s.heap H locs → lv_has ls 7 [(0, .ref (o_t 0)), (1, .int l1), (2, .int l2), (4, .int l4), (5, .int l5)] → W p l e (rmm 2 48) s m args below meth c H locs 0 0 Q (F0 m 102 ls [.int s0]) := by
                      intro x_thrown l1 l2 l4 l5 s0 H locs ls hf hP hD hS hl
                      rw [X8_agreed_J102] at hf
                      refine lv_istore_n (lv' := [(3, .int s0), (0, .ref (o_t 0)), (1, .int l1), (2, .int l2), (4, .int l4), (5, .int l5)]) hx hb dX8_agreed_102 rfl hl (by decide) rfl (fun ls hl => ?_)
                      obtain ⟨v103, ev103, hf⟩ := nm_s hf
                      refine lv_iinc (v := v103) (lv' := [(5, .int v103), (3, .int s0), (0, .ref (o_t 0)), (1, .int l1), (2, .int l2), (4, .int l4)]) hx hb dX8_agreed_103 hl (k := 5) rfl (by rw [ev103]; rfl) (by decide) rfl (fun ls hl => ?_)
                      refine lv_goto (tgt := 31) hx hb dX8_agreed_106 (by decide) ?_
                      exact ih31 _ _ _ _ _ _ _ _ _ hf hP hD hS (lv_sub hl [2, 3, 4, 1, 5, 0] rfl)
                    refine lv_iload hx hb dX8_agreed_91 (lv_at hl 4 rfl) ?_
                    refine lv_if_eq (tgt := 101) hx hb dX8_agreed_93 (by decide) (fun c93 => ?_) (fun c93 => ?_)
                    · have hf := ifp c93 hf
                      refine lv_iload_n hx hb dX8_agreed_101 rfl (lv_at hl 3 rfl) ?_
                      exact h102 _ _ _ _ _ _ _ _ _ hf hP hD hS (lv_sub hl [0, 1, 2, 4, 5] rfl)
                    · have hf := ifn c93 hf
                      refine lv_iload hx hb dX8_agreed_96 (lv_at hl 5 rfl) ?_
                      refine lv_goto (tgt := 102) hx hb dX8_agreed_98 (by decide) ?_
                      exact h102 _ _ _ _ _ _ _ _ _ hf hP hD hS (lv_sub hl [0, 1, 2, 4, 5] rfl)
                  refine lv_iload hx hb dX8_agreed_45 (lv_at hl 6 rfl) ?_
                  refine lv_aload_n hx hb dX8_agreed_47 rfl (lv_at hl 0 rfl) ?_
                  refine va_get (D := D) (ci := 8) (v := .ref (o_t 4)) (C := RX8) (T := TX8) (N := 36) hx hb hts k1 hown hK hP 0 rfl rfl 3 (by decide) k2 (fun _ h9 => h9) rfl dX8_agreed_48 ?_
                  refine lv_iconst (v := (4 : Int32)) hx hb dX8_agreed_51 (by decide) ?_
                  obtain ⟨v52, b52, ev52, hf⟩ := rd_s hf
                  refine my_iald hx hb hK hP 1 rfl b52 ev52 dX8_agreed_52 ?_
                  refine lv_icmp_ge (tgt := 91) hx hb dX8_agreed_53 (by decide) (fun c53 => ?_) (fun c53 => ?_)
                  · have hf := ifp c53 hf
                    exact h91 _ _ _ _ _ _ _ _ _ hf hP hD hS (lv_sub hl [0, 1, 2, 3, 4, 5] rfl)
                  · have hf := ifn c53 hf
                    have h83 : ∀ (x_thrown : Int32) (l1 : Int32) (l2 : Int32) (l3 : Int32) (l5 : Int32) (l6 : Int32) (s0 : Int32) (H : Heap) (locs : List Loc) (ls : Array Slot), X8_agreed_J83 x_delay x_hands x_leftFrom x_leftTo x_wait x_isLost (X8_agreed_L31 x_delay x_hands x_leftFrom x_leftTo x_wait x_isLost n31) (X8_agreed_L45 x_delay x_hands x_leftFrom x_leftTo x_wait x_isLost (X8_agreed_L31 x_delay x_hands x_leftFrom x_leftTo x_wait x_isLost n31) n45) x_thrown l1 l2 l3 l5 l6 s0 = some out → va_P D vwCl (wd_X8_agreed cy o_t x_thrown x_delay x_feel x_turn x_sight x_ball x_w x_h x_n x_players x_hands x_leftFrom x_leftTo x_wait x_isLost) H → va_D A (wd_X8_agreed cy o_t x_thrown x_delay x_feel x_turn x_sight x_ball x_w x_h x_n x_players x_hands x_leftFrom x_leftTo x_wait x_isLost) → va_S A s.heap H locs → lv_has ls 7 [(0, .ref (o_t 0)), (1, .int l1), (2, .int l2), (3, .int l3), (5, .int l5), (6, .int l6)] → W p l e (rmm 2 48) s m args below meth c H locs 0 0 Q (F0 m 83 ls [.int s0]) := by
                      intro x_thrown l1 l2 l3 l5 l6 s0 H locs ls hf hP hD hS hl
                      rw [X8_agreed_J83] at hf
                      refine lv_istore (lv' := [(4, .int s0), (0, .ref (o_t 0)), (1, .int l1), (2, .int l2), (3, .int l3), (5, .int l5), (6, .int l6)]) hx hb dX8_agreed_83 hl (by decide) rfl (fun ls hl => ?_)
                      obtain ⟨v85, ev85, hf⟩ := nm_s hf
                      refine lv_iinc (v := v85) (lv' := [(6, .int v85), (4, .int s0), (0, .ref (o_t 0)), (1, .int l1), (2, .int l2), (3, .int l3), (5, .int l5)]) hx hb dX8_agreed_85 hl (k := 6) rfl (by rw [ev85]; rfl) (by decide) rfl (fun ls hl => ?_)
                      refine lv_goto (tgt := 45) hx hb dX8_agreed_88 (by decide) ?_
                      exact ih45 _ _ _ _ _ _ _ _ _ _ hf hP hD hS (lv_sub hl [2, 3, 4, 5, 1, 6, 0] rfl)
                    have h82 : ∀ (x_thrown : Int32) (l1 : Int32) (l2 : Int32) (l3 : Int32) (l5 : Int32) (l6 : Int32) (H : Heap) (locs : List Loc) (ls : Array Slot), X8_agreed_J82 x_delay x_hands x_leftFrom x_leftTo x_wait x_isLost (X8_agreed_L31 x_delay x_hands x_leftFrom x_leftTo x_wait x_isLost n31) (X8_agreed_L45 x_delay x_hands x_leftFrom x_leftTo x_wait x_isLost (X8_agreed_L31 x_delay x_hands x_leftFrom x_leftTo x_wait x_isLost n31) n45) x_thrown l1 l2 l3 l5 l6 = some out → va_P D vwCl (wd_X8_agreed cy o_t x_thrown x_delay x_feel x_turn x_sight x_ball x_w x_h x_n x_players x_hands x_leftFrom x_leftTo x_wait x_isLost) H → va_D A (wd_X8_agreed cy o_t x_thrown x_delay x_feel x_turn x_sight x_ball x_w x_h x_n x_players x_hands x_leftFrom x_leftTo x_wait x_isLost) → va_S A s.heap H locs → lv_has ls 7 [(0, .ref (o_t 0)), (1, .int l1), (2, .int l2), (3, .int l3), (5, .int l5), (6, .int l6)] → W p l e (rmm 2 48) s m args below meth c H locs 0 0 Q (F0 m 82 ls []) := by
                      intro x_thrown l1 l2 l3 l5 l6 H locs ls hf hP hD hS hl
                      rw [X8_agreed_J82] at hf
                      refine lv_iconst (v := (0 : Int32)) hx hb dX8_agreed_82 (by decide) ?_
                      exact h83 _ _ _ _ _ _ _ _ _ _ hf hP hD hS (lv_sub hl [0, 1, 2, 3, 4, 5] rfl)
                    refine lv_iload hx hb dX8_agreed_56 (lv_at hl 4 rfl) ?_
                    refine lv_if_eq (tgt := 82) hx hb dX8_agreed_58 (by decide) (fun c58 => ?_) (fun c58 => ?_)
                    · have hf := ifp c58 hf
                      exact h82 _ _ _ _ _ _ _ _ _ hf hP hD hS (lv_sub hl [0, 1, 2, 3, 5, 6] rfl)
                    · have hf := ifn c58 hf
                      refine lv_aload_n hx hb dX8_agreed_61 rfl (lv_at hl 0 rfl) ?_
                      refine lv_iload_n hx hb dX8_agreed_62 rfl (lv_at hl 1 rfl) ?_
                      refine lv_iload hx hb dX8_agreed_63 (lv_at hl 6 rfl) ?_
                      refine lv_iload hx hb dX8_agreed_65 (lv_at hl 5 rfl) ?_
                      refine lv_aload_n hx hb dX8_agreed_67 rfl (lv_at hl 0 rfl) ?_
                      refine va_get (D := D) (ci := 8) (v := .int x_delay) (C := RX8) (T := TX8) (N := 36) hx hb hts k1 hown hK hP 0 rfl rfl 11 (by decide) k3 (fun _ h9 => h9) rfl dX8_agreed_68 ?_
                      obtain ⟨r71, hr71, hf⟩ := bd_s hf
                      refine my_Vi (WS2 := (wd_X8_agreed cy o_t x_thrown x_delay x_feel x_turn x_sight x_ball x_w x_h x_n x_players x_hands x_leftFrom x_leftTo x_wait x_isLost)) ⟨hx, hb, hml, hown, hts⟩ (c_X8_knownAt l D cy t o_t x_thrown x_delay x_feel x_turn x_sight x_ball x_w x_h x_n x_players x_leftFrom x_leftTo x_wait x_isLost l1 l6 l5 x_delay hr71) (cwV 4 hts gX8_agreed_X8_knownAt rfl rfl rfl ⟨rfl, hd_X8_knownAt⟩ ⟨Nat.le_of_ble_eq_true rfl, Nat.le_of_ble_eq_true rfl⟩) hK hE hP hD hS hA [0, 2, 3, 4, 5] 6 8 0 rfl rfl rfl rfl (by decide +kernel) rfl rfl hl.1 rfl (Nat.le_of_ble_eq_true rfl) dX8_agreed_71 ⟨Nat.le_of_ble_eq_true rfl, Nat.le_of_ble_eq_true rfl⟩ (fun H locs hP hD hS => ?_)
                      refine lv_iload_n hx hb dX8_agreed_74 rfl (lv_at hl 2 rfl) ?_
                      refine lv_icmp_gt (tgt := 82) hx hb dX8_agreed_75 (by decide) (fun c75 => ?_) (fun c75 => ?_)
                      · have hf := ifp c75 hf
                        exact h82 _ _ _ _ _ _ _ _ _ hf hP hD hS (lv_sub hl [0, 1, 2, 3, 5, 6] rfl)
                      · have hf := ifn c75 hf
                        refine lv_iconst (v := (1 : Int32)) hx hb dX8_agreed_78 (by decide) ?_
                        refine lv_goto (tgt := 83) hx hb dX8_agreed_79 (by decide) ?_
                        exact h83 _ _ _ _ _ _ _ _ _ _ hf hP hD hS (lv_sub hl [0, 1, 2, 3, 5, 6] rfl)
              refine lv_iconst (v := (0 : Int32)) hx hb dX8_agreed_42 (by decide) ?_
              refine lv_istore (lv' := [(6, .int (0 : Int32)), (0, .ref (o_t 0)), (1, .int l1), (2, .int l2), (3, .int l3), (4, .int l4), (5, .int l5)]) hx hb dX8_agreed_43 hl (by decide) rfl (fun ls hl => ?_)
              exact h45 FU _ _ _ _ _ _ _ _ _ _ hf hP hD hS (lv_sub hl [1, 2, 3, 4, 5, 6, 0] rfl)
      refine lv_bipush (v := (-9 : Int32)) hx hb dX8_agreed_22 (by decide) ?_
      refine lv_istore_n (lv' := [(3, .int (-9 : Int32)), (0, .ref (o_t 0)), (1, .int p1), (2, .int p2)]) hx hb dX8_agreed_24 rfl hl (by decide) rfl (fun ls hl => ?_)
      refine lv_iconst (v := (1 : Int32)) hx hb dX8_agreed_25 (by decide) ?_
      refine lv_istore (lv' := [(4, .int (1 : Int32)), (3, .int (-9 : Int32)), (0, .ref (o_t 0)), (1, .int p1), (2, .int p2)]) hx hb dX8_agreed_26 hl (by decide) rfl (fun ls hl => ?_)
      refine lv_iconst (v := (0 : Int32)) hx hb dX8_agreed_28 (by decide) ?_
      refine lv_istore (lv' := [(5, .int (0 : Int32)), (4, .int (1 : Int32)), (3, .int (-9 : Int32)), (0, .ref (o_t 0)), (1, .int p1), (2, .int p2)]) hx hb dX8_agreed_29 hl (by decide) rfl (fun ls hl => ?_)
      exact h31 FU _ _ _ _ _ _ _ _ _ hf hP hD hS (lv_sub hl [3, 4, 5, 2, 1, 0] rfl)
    · have hf := ifn c17 hf
      refine lv_iconst (v := (-1 : Int32)) hx hb dX8_agreed_20 (by decide) ?_
      obtain rfl := Option.some.inj hf
      exact hR _ _ _ _ hP hD hS dX8_agreed_21
theorem hd_X8_agreed : yX8_agreed.cls ≠ "java/lang/invoke/MethodHandle" ∧ yX8_agreed.cls ≠ "java/lang/invoke/VarHandle" ∧ (parseMethodDescriptor yX8_agreed.desc).map (fun d => d.parameters.length) = some 2 := by decide +kernel
set_option maxRecDepth 100000 in
theorem c_X8_agreed (l : Launch) (D : va_G) (cy : Nat → ClassId) (t : Nat → Nat) (o_t : Nat → Nat) (x_thrown : Int32) (x_delay : Int32) (x_feel : Int32) (x_turn : Int32) (x_sight : Int32) (x_ball : Int32) (x_w : Int32) (x_h : Int32) (x_n : Int32) (x_players : Int32) (x_hands : Nat → Int32) (x_leftFrom : Nat → Int32) (x_leftTo : Nat → Int32) (x_wait : Nat → Int32) (x_isLost : Nat → Int32) (p1 : Int32) (p2 : Int32) {out : Int32 × Int32} (hf : X8_agreed x_delay x_hands x_leftFrom x_leftTo x_wait x_isLost x_thrown p1 p2 = some out) : ctI l yX8_agreed wsX8_agreed 2 48 D cy t [.ref (o_t 0), .int p1, .int p2] (wd_X8_agreed cy o_t x_thrown x_delay x_feel x_turn x_sight x_ball x_w x_h x_n x_players x_hands x_leftFrom x_leftTo x_wait x_isLost) (wd_X8_agreed cy o_t out.2 x_delay x_feel x_turn x_sight x_ball x_w x_h x_n x_players x_hands x_leftFrom x_leftTo x_wait x_isLost) out.1 := by
  refine ⟨rfl, ?_⟩
  intro sz
  refine Met.ofW (cc := cX8_agreed) (maxL := 7) (ret := (some .int)) (by decide) rfl ?_
  intro p e s m args below meth c s₁ B hml hv
  obtain ⟨rfl, hsz, hP, hK, hD0, hE⟩ := hv
  have hts := atoms_spec (ws := wsX8_agreed) B.pre
  have hown : s.vm.findClass RX8 = some m.cls := findClass_of_methodNamed B.named
  have hlocks := B.notSynchronized
  subst hsz
  have hD := hD0.self (sz := s.heap.size)
  have hl := lv_entry ([.ref (o_t 0), .int p1, .int p2]) (n := 7) (Nat.le_of_ble_eq_true rfl)
  rw [lg_entry_eq]
  generalize (lg_sl ([.ref (o_t 0), .int p1, .int p2]) ++ List.replicate (7 - (lg_sl ([.ref (o_t 0), .int p1, .int p2])).length) Slot.unset).toArray = ls at hl ⊢
  exact w_X8_agreed D cy t o_t x_thrown x_delay x_feel x_turn x_sight x_ball x_w x_h x_n x_players x_hands x_leftFrom x_leftTo x_wait x_isLost p1 p2 hf B.exec B.bytes hml hown hts hK hE (fun q h => Or.inr h) hP hD va_S.rf hl (fun H locs ls pc hP hD hS hdg => W.iret B.exec B.bytes B.returns (fun t ht hW => ⟨⟨_, (), rfl, rfl, ctB_of ht hP⟩, hS.F ht⟩) hS.2.2 hdg)
