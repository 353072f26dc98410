noncomputable def X8_init_J330 (rec258 : (Nat → Int64) → Int32 → Option ((Nat → Int64))) (x_ways : Nat → Int64) (l1 : Int32) : Option ((Nat → Int64)) :=
  nm (l1 + (1 : Int32)) fun v330 => rec258 x_ways v330
noncomputable def X8_init_J323 (rec258 : (Nat → Int64) → Int32 → Option ((Nat → Int64))) (rec266 : (Nat → Int64) → Int32 → Int32 → Option ((Nat → Int64))) (x_ways : Nat → Int64) (l1 : Int32) (l2 : Int32) (s1 : Int32) (s2 : Int64) : Option ((Nat → Int64)) :=
  wrJ x_ways 3721 s1 s2 fun w323 => nm (l2 + (1 : Int32)) fun v324 => rec266 w323 l1 v324
noncomputable def X8_init_J290 (rec258 : (Nat → Int64) → Int32 → Option ((Nat → Int64))) (rec266 : (Nat → Int64) → Int32 → Int32 → Option ((Nat → Int64))) (x_ways : Nat → Int64) (l1 : Int32) (l2 : Int32) (s1 : Int32) : Option ((Nat → Int64)) :=
  X8_init_J323 rec258 rec266 x_ways l1 l2 s1 (1 : Int64)
noncomputable def X8_init_L266_B (rec258 : (Nat → Int64) → Int32 → Option ((Nat → Int64))) (rec266 : (Nat → Int64) → Int32 → Int32 → Option ((Nat → Int64))) (x_ways : Nat → Int64) (l1 : Int32) (l2 : Int32) : Option ((Nat → Int64)) :=
  if l1 < l2 then (X8_init_J330 rec258 x_ways l1) else (if l2 = (0 : Int32) then (X8_init_J290 rec258 rec266 x_ways l1 l2 (((61 : Int32) * l1) + l2)) else (if l2 = l1 then (X8_init_J290 rec258 rec266 x_ways l1 l2 (((61 : Int32) * l1) + l2)) else (rd x_ways 3721 ((((61 : Int32) * (l1 - (1 : Int32))) + l2) - (1 : Int32)) fun v308 => rd x_ways 3721 (((61 : Int32) * (l1 - (1 : Int32))) + l2) fun v321 => X8_init_J323 rec258 rec266 x_ways l1 l2 (((61 : Int32) * l1) + l2) (v308 + v321))))
noncomputable def X8_init_L266 (rec258 : (Nat → Int64) → Int32 → Option ((Nat → Int64))) : Nat → (Nat → Int64) → Int32 → Int32 → Option ((Nat → Int64))
  | 0, _, _, _ => none
  | n + 1, y0, y1, y2 => X8_init_L266_B rec258 (X8_init_L266 rec258 n) y0 y1 y2
noncomputable def X8_init_L258_B (rec258 : (Nat → Int64) → Int32 → Option ((Nat → Int64))) (x_ways : Nat → Int64) (l1 : Int32) : Option ((Nat → Int64)) :=
  if (61 : Int32) ≤ l1 then (some x_ways) else (X8_init_L266 rec258 FU x_ways l1 (0 : Int32))
noncomputable def X8_init_L258 : Nat → (Nat → Int64) → Int32 → Option ((Nat → Int64))
  | 0, _, _ => none
  | n + 1, y0, y1 => X8_init_L258_B  (X8_init_L258  n) y0 y1
noncomputable def X8_init (x_ways : Nat → Int64) : Option ((Nat → Int64)) :=
  X8_init_L258  FU x_ways (0 : Int32)
abbrev wd_X8_init (cy : Nat → ClassId) (o_t : Nat → Nat) (x_thrown : Int32) (x_delay : Int32) (x_feel : Int32) (x_turn : Int32) (x_sight : Int32) (x_ball : Int32) (x_w : Int32) (x_h : Int32) (x_n : Int32) (x_players : Int32) (x_wide : Nat → Int32) (x_tall : Nat → Int32) (x_hands : Nat → Int32) (x_power : Nat → Int32) (x_spin : Nat → Int32) (x_seed : Nat → Int32) (x_pressed : Nat → Int32) (x_leftFrom : Nat → Int32) (x_leftTo : Nat → Int32) (x_isKept : Nat → Int32) (x_wait : Nat → Int32) (x_isLost : Nat → Int32) (x_place : Nat → Int32) (x_points : Nat → Int32) (x_other : Nat → Int32) (x_takes : Nat → Int32) (x_took : Nat → Int32) (x_trueStates : Nat → Int32) (x_may : Nat → Int32) (x_then : Nat → Int32) (x_skill : Nat → Int32) (x_shore : Nat → Int32) (x_fars : Nat → Int32) (x_least : Nat → Int32) (x_mates : Nat → Int32) (x_ways : Nat → Int64) : va_W := [(o_t 0, .inr (8, [.int x_thrown, .ref (o_t 2), .ref (o_t 3), .ref (o_t 4), .ref (o_t 5), .ref (o_t 6), .ref (o_t 7), .ref (o_t 8), .ref (o_t 9), .ref (o_t 10), .ref (o_t 11), .int x_delay, .int x_feel, .int x_turn, .int x_sight, .ref (o_t 16), .ref (o_t 17), .ref (o_t 18), .ref (o_t 19), .int x_ball, .int x_w, .int x_h, .int x_n, .ref (o_t 24), .ref (o_t 25), .ref (o_t 26), .ref (o_t 27), .ref (o_t 28), .ref (o_t 29), .int x_players, .ref (o_t 31), .ref (o_t 32), .ref (o_t 33), .ref (o_t 34), .ref (o_t 35), .ref (o_t 36)])), (o_t 2, .inl (cy 0, 5, .inl x_wide)), (o_t 3, .inl (cy 0, 5, .inl x_tall)), (o_t 4, .inl (cy 0, 5, .inl x_hands)), (o_t 5, .inl (cy 0, 5, .inl x_power)), (o_t 6, .inl (cy 0, 5, .inl x_spin)), (o_t 7, .inl (cy 0, 5, .inl x_seed)), (o_t 8, .inl (cy 0, 3000, .inl x_pressed)), (o_t 9, .inl (cy 0, 30, .inl x_leftFrom)), (o_t 10, .inl (cy 0, 30, .inl x_leftTo)), (o_t 11, .inl (cy 1, 4, .inl x_isKept)), (o_t 16, .inl (cy 0, 36, .inl x_wait)), (o_t 17, .inl (cy 1, 600, .inl x_isLost)), (o_t 18, .inl (cy 0, 6, .inl x_place)), (o_t 19, .inl (cy 0, 6, .inl x_points)), (o_t 24, .inl (cy 0, 13, .inl x_other)), (o_t 25, .inl (cy 0, 600, .inl x_takes)), (o_t 26, .inl (cy 0, 600, .inl x_took)), (o_t 27, .inl (cy 0, 1300, .inl x_trueStates)), (o_t 28, .inl (cy 1, 81, .inl x_may)), (o_t 29, .inl (cy 1, 81, .inl x_then)), (o_t 31, .inl (cy 0, 10, .inl x_skill)), (o_t 32, .inl (cy 0, 10, .inl x_shore)), (o_t 33, .inl (cy 0, 16, .inl x_fars)), (o_t 34, .inl (cy 0, 1024, .inl x_least)), (o_t 35, .inl (cy 0, 10, .inl x_mates)), (o_t 36, .inl (cy 2, 3721, .inr (.inl x_ways)))]
set_option maxHeartbeats 4000000 in
set_option maxRecDepth 100000 in
theorem w_X8_init {R : Room} {cells slots : Nat} {p : Program} {l : Launch} {e : Env} {s : State} {m : MethodId} {args : Array Value} {below : List Frame} {meth : Method} {c : Code} {Q : State → Prop} {A : Nat → Prop} {H : Heap} {locs : List Loc} {ls : Array Slot} (D : va_G) (cy : Nat → ClassId) (t : Nat → Nat) (o_t : Nat → Nat) (x_thrown : Int32) (x_delay : Int32) (x_feel : Int32) (x_turn : Int32) (x_sight : Int32) (x_ball : Int32) (x_w : Int32) (x_h : Int32) (x_n : Int32) (x_players : Int32) (x_wide : Nat → Int32) (x_tall : Nat → Int32) (x_hands : Nat → Int32) (x_power : Nat → Int32) (x_spin : Nat → Int32) (x_seed : Nat → Int32) (x_pressed : Nat → Int32) (x_leftFrom : Nat → Int32) (x_leftTo : Nat → Int32) (x_isKept : Nat → Int32) (x_wait : Nat → Int32) (x_isLost : Nat → Int32) (x_place : Nat → Int32) (x_points : Nat → Int32) (x_other : Nat → Int32) (x_takes : Nat → Int32) (x_took : Nat → Int32) (x_trueStates : Nat → Int32) (x_may : Nat → Int32) (x_then : Nat → Int32) (x_skill : Nat → Int32) (x_shore : Nat → Int32) (x_fars : Nat → Int32) (x_least : Nat → Int32) (x_mates : Nat → Int32) (x_ways : Nat → Int64) {out : (Nat → Int64)} (hf : X8_init x_ways = some out) (hx : p.tables.exec = Jvm.exec) (hb : c.code = cX8_init) (hml : c.maxLocals = 3) (hown : s.vm.findClass RX8 = some m.cls) (hts : ∀ w ∈ wsX8_init, w.before args s = true) (hK : va_K D vwCl (TYS cy) s) (hE : EV t A s s.heap) (hA : ∀ q, s.heap.size ≤ q → A q) (hP : va_P D vwCl (wd_X8_init cy o_t x_thrown x_delay x_feel x_turn x_sight x_ball x_w x_h x_n x_players x_wide x_tall x_hands x_power x_spin x_seed x_pressed x_leftFrom x_leftTo x_isKept x_wait x_isLost x_place x_points x_other x_takes x_took x_trueStates x_may x_then x_skill x_shore x_fars x_least x_mates x_ways) H) (hD : va_D A (wd_X8_init cy o_t x_thrown x_delay x_feel x_turn x_sight x_ball x_w x_h x_n x_players x_wide x_tall x_hands x_power x_spin x_seed x_pressed x_leftFrom x_leftTo x_isKept x_wait x_isLost x_place x_points x_other x_takes x_took x_trueStates x_may x_then x_skill x_shore x_fars x_least x_mates x_ways)) (hS : va_S A s.heap H locs) (hl : lv_has ls 3 [(0, .ref (o_t 0))]) (hR : ∀ (H : Heap) (locs : List Loc) (ls : Array Slot) (pc : Nat), va_P D vwCl (wd_X8_init cy o_t x_thrown x_delay x_feel x_turn x_sight x_ball x_w x_h x_n x_players x_wide x_tall x_hands x_power x_spin x_seed x_pressed x_leftFrom x_leftTo x_isKept x_wait x_isLost x_place x_points x_other x_takes x_took x_trueStates x_may x_then x_skill x_shore x_fars x_least x_mates out) H → va_D A (wd_X8_init cy o_t x_thrown x_delay x_feel x_turn x_sight x_ball x_w x_h x_n x_players x_wide x_tall x_hands x_power x_spin x_seed x_pressed x_leftFrom x_leftTo x_isKept x_wait x_isLost x_place x_points x_other x_takes x_took x_trueStates x_may x_then x_skill x_shore x_fars x_least x_mates out) → va_S A s.heap H locs → decode cX8_init pc = .ok (.return_, 1) → W p l e R s m args below meth c H locs cells slots Q (F0 m pc ls [])) : W p l e R s m args below meth c H locs cells slots Q (F0 m 256 ls []) := by
  have k0 := hts (.fieldLink RX8 96 "SeaGamesModel" "ways" "[J") (List.mem_cons_of_mem _ (List.mem_append_left _ (List.mem_append_right _ (List.mem_of_getElem? (i := 10) rfl))))
  have k1 : ∀ w ∈ u_ws RX8 TX8 36, w ∈ wsX8_init := fun _ h => List.mem_cons_of_mem _ (List.mem_append_right _ h)
  rw [X8_init] at hf
  have h258 : ∀ (n258 : Nat) (x_ways : Nat → Int64) (l1 : Int32) (H : Heap) (locs : List Loc) (ls : Array Slot), X8_init_L258 n258 x_ways l1 = some out → va_P D vwCl (wd_X8_init cy o_t x_thrown x_delay x_feel x_turn x_sight x_ball x_w x_h x_n x_players x_wide x_tall x_hands x_power x_spin x_seed x_pressed x_leftFrom x_leftTo x_isKept x_wait x_isLost x_place x_points x_other x_takes x_took x_trueStates x_may x_then x_skill x_shore x_fars x_least x_mates x_ways) H → va_D A (wd_X8_init cy o_t x_thrown x_delay x_feel x_turn x_sight x_ball x_w x_h x_n x_players x_wide x_tall x_hands x_power x_spin x_seed x_pressed x_leftFrom x_leftTo x_isKept x_wait x_isLost x_place x_points x_other x_takes x_took x_trueStates x_may x_then x_skill x_shore x_fars x_least x_mates x_ways) → va_S A s.heap H locs → lv_has ls 3 [(0, .ref (o_t 0)), (1, .int l1)] → W p l e R s m args below meth c H locs cells slots Q (F0 m 258 ls []) := by
    intro n258
    induction n258 with
    | zero =>
      intro _ _ _ _ _ hf
      exact nomatch (show (none : Option _) = some out from hf)
    | succ n258 ih258 =>
      intro x_ways l1 H locs ls hf hP hD hS hl
      have hf : X8_init_L258_B (X8_init_L258 n258) x_ways l1 = some out := hf
      rw [X8_init_L258_B] at hf
      refine lv_iload_n hx hb dX8_init_258 rfl (lv_at hl 1 rfl) ?_
      refine lv_bipush (v := (61 : Int32)) hx hb dX8_init_259 (by decide) ?_
      refine lv_icmp_ge (tgt := 336) hx hb dX8_init_261 (by decide) (fun c261 => ?_) (fun c261 => ?_)
      · have hf := ifp c261 hf
        obtain rfl := Option.some.inj hf
        exact hR _ _ _ _ hP hD hS dX8_init_336
      · have hf := ifn c261 hf
        have h266 : ∀ (n266 : Nat) (x_ways : Nat → Int64) (l1 : Int32) (l2 : Int32) (H : Heap) (locs : List Loc) (ls : Array Slot), X8_init_L266 (X8_init_L258 n258) n266 x_ways l1 l2 = some out → va_P D vwCl (wd_X8_init cy o_t x_thrown x_delay x_feel x_turn x_sight x_ball x_w x_h x_n x_players x_wide x_tall x_hands x_power x_spin x_seed x_pressed x_leftFrom x_leftTo x_isKept x_wait x_isLost x_place x_points x_other x_takes x_took x_trueStates x_may x_then x_skill x_shore x_fars x_least x_mates x_ways) H → va_D A (wd_X8_init cy o_t x_thrown x_delay x_feel x_turn x_sight x_ball x_w x_h x_n x_players x_wide x_tall x_hands x_power x_spin x_seed x_pressed x_leftFrom x_leftTo x_isKept x_wait x_isLost x_place x_points x_other x_takes x_took x_trueStates x_may x_then x_skill x_shore x_fars x_least x_mates x_ways) → va_S A s.heap H locs → lv_has ls 3 [(0, .ref (o_t 0)), (1, .int l1), (2, .int l2)] → W p l e R s m args below meth c H locs cells slots Q (F0 m 266 ls []) := by
          intro n266
          induction n266 with
          | zero =>
            intro _ _ _ _ _ _ hf
            exact nomatch (show (none : Option _) = some out from hf)
          | succ n266 ih266 =>
            intro x_ways l1 l2 H locs ls hf hP hD hS hl
            have hf : X8_init_L266_B (X8_init_L258 n258) (X8_init_L266 (X8_init_L258 n258) n266) x_ways l1 l2 = some out := hf
            rw [X8_init_L266_B] at hf
            have h330 : ∀ (x_ways : Nat → Int64) (l1 : Int32) (H : Heap) (locs : List Loc) (ls : Array Slot), X8_init_J330 (X8_init_L258 n258) x_ways l1 = some out → va_P D vwCl (wd_X8_init cy o_t x_thrown x_delay x_feel x_turn x_sight x_ball x_w x_h x_n x_players x_wide x_tall x_hands x_power x_spin x_seed x_pressed x_leftFrom x_leftTo x_isKept x_wait x_isLost x_place x_points x_other x_takes x_took x_trueStates x_may x_then x_skill x_shore x_fars x_least x_mates x_ways) H → va_D A (wd_X8_init cy o_t x_thrown x_delay x_feel x_turn x_sight x_ball x_w x_h x_n x_players x_wide x_tall x_hands x_power x_spin x_seed x_pressed x_leftFrom x_leftTo x_isKept x_wait x_isLost x_place x_points x_other x_takes x_took x_trueStates x_may x_then x_skill x_shore x_fars x_least x_mates x_ways) → va_S A s.heap H locs → lv_has ls 3 [(0, .ref (o_t 0)), (1, .int l1)] → W p l e R s m args below meth c H locs cells slots Q (F0 m 330 ls []) := by
              intro x_ways l1 H locs ls hf hP hD hS hl
              rw [X8_init_J330] at hf
              obtain ⟨v330, ev330, hf⟩ := nm_s hf
              refine lv_iinc (v := v330) (lv' := [(1, .int v330), (0, .ref (o_t 0))]) hx hb dX8_init_330 hl (k := 1) rfl (by rw [ev330]; rfl) (by decide) rfl (fun ls hl => ?_)
              refine lv_goto (tgt := 258) hx hb dX8_init_333 (by decide) ?_
              exact ih258 _ _ _ _ _ hf hP hD hS (lv_sub hl [1, 0] rfl)
            refine lv_iload_n hx hb dX8_init_266 rfl (lv_at hl 2 rfl) ?_
            refine lv_iload_n hx hb dX8_init_267 rfl (lv_at hl 1 rfl) ?_
            refine lv_icmp_gt (tgt := 330) hx hb dX8_init_268 (by decide) (fun c268 => ?_) (fun c268 => ?_)
            · have hf := ifp c268 hf
              exact h330 _ _ _ _ _ hf hP hD hS (lv_sub hl [0, 1] rfl)
            · have hf := ifn c268 hf
              have h323 : ∀ (x_ways : Nat → Int64) (l1 : Int32) (l2 : Int32) (s1 : Int32) (s2 : Int64) (H : Heap) (locs : List Loc) (ls : Array Slot), X8_init_J323 (X8_init_L258 n258) (X8_init_L266 (X8_init_L258 n258) n266) x_ways l1 l2 s1 s2 = some out → va_P D vwCl (wd_X8_init cy o_t x_thrown x_delay x_feel x_turn x_sight x_ball x_w x_h x_n x_players x_wide x_tall x_hands x_power x_spin x_seed x_pressed x_leftFrom x_leftTo x_isKept x_wait x_isLost x_place x_points x_other x_takes x_took x_trueStates x_may x_then x_skill x_shore x_fars x_least x_mates x_ways) H → va_D A (wd_X8_init cy o_t x_thrown x_delay x_feel x_turn x_sight x_ball x_w x_h x_n x_players x_wide x_tall x_hands x_power x_spin x_seed x_pressed x_leftFrom x_leftTo x_isKept x_wait x_isLost x_place x_points x_other x_takes x_took x_trueStates x_may x_then x_skill x_shore x_fars x_least x_mates x_ways) → va_S A s.heap H locs → lv_has ls 3 [(0, .ref (o_t 0)), (1, .int l1), (2, .int l2)] → W p l e R s m args below meth c H locs cells slots Q (F0 m 323 ls [.long s2, .int s1, .ref (o_t 36)]) := by
                intro x_ways l1 l2 s1 s2 H locs ls hf hP hD hS hl
                rw [X8_init_J323] at hf
                obtain ⟨w323, b323, ew323, hf⟩ := wrJ_s hf
                refine my_last (ws2 := (wd_X8_init cy o_t x_thrown x_delay x_feel x_turn x_sight x_ball x_w x_h x_n x_players x_wide x_tall x_hands x_power x_spin x_seed x_pressed x_leftFrom x_leftTo x_isKept x_wait x_isLost x_place x_points x_other x_takes x_took x_trueStates x_may x_then x_skill x_shore x_fars x_least x_mates w323)) hx hb hK hP hD hS 26 rfl b323 ew323 rfl dX8_init_323 (fun H locs hP hD hS => ?_)
                obtain ⟨v324, ev324, hf⟩ := nm_s hf
                refine lv_iinc (v := v324) (lv' := [(2, .int v324), (0, .ref (o_t 0)), (1, .int l1)]) hx hb dX8_init_324 hl (k := 2) rfl (by rw [ev324]; rfl) (by decide) rfl (fun ls hl => ?_)
                refine lv_goto (tgt := 266) hx hb dX8_init_327 (by decide) ?_
                exact ih266 _ _ _ _ _ _ hf hP hD hS (lv_sub hl [1, 2, 0] rfl)
              have h290 : ∀ (x_ways : Nat → Int64) (l1 : Int32) (l2 : Int32) (s1 : Int32) (H : Heap) (locs : List Loc) (ls : Array Slot), X8_init_J290 (X8_init_L258 n258) (X8_init_L266 (X8_init_L258 n258) n266) x_ways l1 l2 s1 = some out → va_P D vwCl (wd_X8_init cy o_t x_thrown x_delay x_feel x_turn x_sight x_ball x_w x_h x_n x_players x_wide x_tall x_hands x_power x_spin x_seed x_pressed x_leftFrom x_leftTo x_isKept x_wait x_isLost x_place x_points x_other x_takes x_took x_trueStates x_may x_then x_skill x_shore x_fars x_least x_mates x_ways) H → va_D A (wd_X8_init cy o_t x_thrown x_delay x_feel x_turn x_sight x_ball x_w x_h x_n x_players x_wide x_tall x_hands x_power x_spin x_seed x_pressed x_leftFrom x_leftTo x_isKept x_wait x_isLost x_place x_points x_other x_takes x_took x_trueStates x_may x_then x_skill x_shore x_fars x_least x_mates x_ways) → va_S A s.heap H locs → lv_has ls 3 [(0, .ref (o_t 0)), (1, .int l1), (2, .int l2)] → W p l e R s m args below meth c H locs cells slots Q (F0 m 290 ls [.int s1, .ref (o_t 36)]) := by
                intro x_ways l1 l2 s1 H locs ls hf hP hD hS hl
                rw [X8_init_J290] at hf
                refine lv_lconst (v := (1 : Int64)) hx hb dX8_init_290 (by decide) ?_
                refine lv_goto (tgt := 323) hx hb dX8_init_291 (by decide) ?_
                exact h323 _ _ _ _ _ _ _ _ hf hP hD hS (lv_sub hl [0, 1, 2] rfl)
              refine lv_aload_n hx hb dX8_init_271 rfl (lv_at hl 0 rfl) ?_
              refine va_get (D := D) (ci := 8) (v := .ref (o_t 36)) (C := RX8) (T := TX8) (N := 36) hx hb hts k1 hown hK hP 0 rfl rfl 35 (by decide) k0 (fun _ h9 => h9) rfl dX8_init_272 ?_
              refine lv_bipush (v := (61 : Int32)) hx hb dX8_init_275 (by decide) ?_
              refine lv_iload_n hx hb dX8_init_277 rfl (lv_at hl 1 rfl) ?_
              refine lv_imul hx hb dX8_init_278 ?_
              refine lv_iload_n hx hb dX8_init_279 rfl (lv_at hl 2 rfl) ?_
              refine lv_iadd hx hb dX8_init_280 ?_
              refine lv_iload_n hx hb dX8_init_281 rfl (lv_at hl 2 rfl) ?_
              refine lv_if_eq (tgt := 290) hx hb dX8_init_282 (by decide) (fun c282 => ?_) (fun c282 => ?_)
              · have hf := ifp c282 hf
                exact h290 _ _ _ _ _ _ _ hf hP hD hS (lv_sub hl [0, 1, 2] rfl)
              · have hf := ifn c282 hf
                refine lv_iload_n hx hb dX8_init_285 rfl (lv_at hl 2 rfl) ?_
                refine lv_iload_n hx hb dX8_init_286 rfl (lv_at hl 1 rfl) ?_
                refine lv_icmp_ne (tgt := 294) hx hb dX8_init_287 (by decide) (fun c287 => ?_) (fun c287 => ?_)
                · have hf := ifn c287 hf
                  refine lv_aload_n hx hb dX8_init_294 rfl (lv_at hl 0 rfl) ?_
                  refine va_get (D := D) (ci := 8) (v := .ref (o_t 36)) (C := RX8) (T := TX8) (N := 36) hx hb hts k1 hown hK hP 0 rfl rfl 35 (by decide) k0 (fun _ h9 => h9) rfl dX8_init_295 ?_
                  refine lv_bipush (v := (61 : Int32)) hx hb dX8_init_298 (by decide) ?_
                  refine lv_iload_n hx hb dX8_init_300 rfl (lv_at hl 1 rfl) ?_
                  refine lv_iconst (v := (1 : Int32)) hx hb dX8_init_301 (by decide) ?_
                  refine lv_isub hx hb dX8_init_302 ?_
                  refine lv_imul hx hb dX8_init_303 ?_
                  refine lv_iload_n hx hb dX8_init_304 rfl (lv_at hl 2 rfl) ?_
                  refine lv_iadd hx hb dX8_init_305 ?_
                  refine lv_iconst (v := (1 : Int32)) hx hb dX8_init_306 (by decide) ?_
                  refine lv_isub hx hb dX8_init_307 ?_
                  obtain ⟨v308, b308, ev308, hf⟩ := rd_s hf
                  refine my_lald hx hb hK hP 26 rfl b308 ev308 dX8_init_308 ?_
                  refine lv_aload_n hx hb dX8_init_309 rfl (lv_at hl 0 rfl) ?_
                  refine va_get (D := D) (ci := 8) (v := .ref (o_t 36)) (C := RX8) (T := TX8) (N := 36) hx hb hts k1 hown hK hP 0 rfl rfl 35 (by decide) k0 (fun _ h9 => h9) rfl dX8_init_310 ?_
                  refine lv_bipush (v := (61 : Int32)) hx hb dX8_init_313 (by decide) ?_
                  refine lv_iload_n hx hb dX8_init_315 rfl (lv_at hl 1 rfl) ?_
                  refine lv_iconst (v := (1 : Int32)) hx hb dX8_init_316 (by decide) ?_
                  refine lv_isub hx hb dX8_init_317 ?_
                  refine lv_imul hx hb dX8_init_318 ?_
                  refine lv_iload_n hx hb dX8_init_319 rfl (lv_at hl 2 rfl) ?_
                  refine lv_iadd hx hb dX8_init_320 ?_
                  obtain ⟨v321, b321, ev321, hf⟩ := rd_s hf
                  refine my_lald hx hb hK hP 26 rfl b321 ev321 dX8_init_321 ?_
                  refine lv_ladd hx hb dX8_init_322 ?_
                  exact h323 _ _ _ _ _ _ _ _ hf hP hD hS (lv_sub hl [0, 1, 2] rfl)
                · have hf := ifp c287 hf
                  exact h290 _ _ _ _ _ _ _ hf hP hD hS (lv_sub hl [0, 1, 2] rfl)
        refine lv_iconst (v := (0 : Int32)) hx hb dX8_init_264 (by decide) ?_
        refine lv_istore_n (lv' := [(2, .int (0 : Int32)), (0, .ref (o_t 0)), (1, .int l1)]) hx hb dX8_init_265 rfl hl (by decide) rfl (fun ls hl => ?_)
        exact h266 FU _ _ _ _ _ _ hf hP hD hS (lv_sub hl [1, 2, 0] rfl)
  refine lv_iconst (v := (0 : Int32)) hx hb dX8_init_256 (by decide) ?_
  refine lv_istore_n (lv' := [(1, .int (0 : Int32)), (0, .ref (o_t 0))]) hx hb dX8_init_257 rfl hl (by decide) rfl (fun ls hl => ?_)
  exact h258 FU _ _ _ _ _ hf hP hD hS (lv_sub hl [1, 0] rfl)

abbrev wn_X8 (cy : Nat → ClassId) (o : Nat → Nat) (wy : Nat → Int64) : va_W := [(o 0, .inr (8, [.int 0, .ref (o 2), .ref (o 3), .ref (o 4), .ref (o 5), .ref (o 6), .ref (o 7), .ref (o 8), .ref (o 9), .ref (o 10), .ref (o 11), .int 0, .int (5 : Int32), .int (1 : Int32), .int (9 : Int32), .ref (o 16), .ref (o 17), .ref (o 18), .ref (o 19), .int 0, .int 0, .int 0, .int 0, .ref (o 24), .ref (o 25), .ref (o 26), .ref (o 27), .ref (o 28), .ref (o 29), .int 0, .ref (o 31), .ref (o 32), .ref (o 33), .ref (o 34), .ref (o 35), .ref (o 36)])), (o 2, .inl (cy 0, 5, .inl (upd (fun _ => 0) 4 (5 : Int32)))), (o 3, .inl (cy 0, 5, .inl (upd (fun _ => 0) 4 (5 : Int32)))), (o 4, .inl (cy 0, 5, .inl (upd (fun _ => 0) 4 (2 : Int32)))), (o 5, .inl (cy 0, 5, .inl (upd (fun _ => 0) 4 (2 : Int32)))), (o 6, .inl (cy 0, 5, .inl (fun _ => 0))), (o 7, .inl (cy 0, 5, .inl (fun _ => 0))), (o 8, .inl (cy 0, 3000, .inl (fun _ => 0))), (o 9, .inl (cy 0, 30, .inl (fun _ => 0))), (o 10, .inl (cy 0, 30, .inl (fun _ => 0))), (o 11, .inl (cy 1, 4, .inl (fun _ => 0))), (o 16, .inl (cy 0, 36, .inl (fun _ => 0))), (o 17, .inl (cy 1, 600, .inl (fun _ => 0))), (o 18, .inl (cy 0, 6, .inl (fun _ => 0))), (o 19, .inl (cy 0, 6, .inl (fun _ => 0))), (o 24, .inl (cy 0, 13, .inl (fun _ => 0))), (o 25, .inl (cy 0, 600, .inl (fun _ => 0))), (o 26, .inl (cy 0, 600, .inl (fun _ => 0))), (o 27, .inl (cy 0, 1300, .inl (fun _ => 0))), (o 28, .inl (cy 1, 81, .inl (fun _ => 0))), (o 29, .inl (cy 1, 81, .inl (fun _ => 0))), (o 31, .inl (cy 0, 10, .inl (fun _ => 0))), (o 32, .inl (cy 0, 10, .inl (fun _ => 0))), (o 33, .inl (cy 0, 16, .inl (fun _ => 0))), (o 34, .inl (cy 0, 1024, .inl (fun _ => 0))), (o 35, .inl (cy 0, 10, .inl (fun _ => 0))), (o 36, .inl (cy 2, 3721, .inr (.inl wy)))]
