noncomputable def X7_isHand (x_play_hands : Int32) (p1 : Int32) : Option (Int32) :=
  if p1 < (0 : Int32) then (zb (0 : Int32) <| some (0 : Int32)) else (if x_play_hands ≤ p1 then (zb (0 : Int32) <| some (0 : Int32)) else (zb (1 : Int32) <| some (1 : Int32)))
abbrev wd_X7_isHand (cy : Nat → ClassId) (o_t o_t_play o_t_lines o_t_truth o_t_glassTrack o_t_board o_t_otherBoard o_t_fog o_t_crowd o_t_deal : Nat → Nat) (x_play_w : Int32) (x_play_h : Int32) (x_play_hands : Int32) : va_W := [(o_t 0, .inr (7, [.ref (o_t_play 0), .ref (o_t_lines 0), .ref (o_t_truth 0), .ref (o_t_glassTrack 0), .ref (o_t_board 0), .ref (o_t_otherBoard 0), .ref (o_t 7), .ref (o_t_fog 0), .ref (o_t_crowd 0), .ref (o_t_deal 0), .ref (o_t 11), .ref (o_t 12)])), (o_t_play 0, .inr (5, [.int x_play_w, .int x_play_h, .int x_play_hands, .ref (o_t_play 4), .ref (o_t_play 5), .ref (o_t_play 6), .ref (o_t_play 7)]))]
set_option maxHeartbeats 4000000 in
set_option maxRecDepth 100000 in
theorem w_X7_isHand {p : Program} {l : Launch} {e : Env} {s : State} {m : MethodId} {args : Array Value} {below : List Frame} {meth : Method} {c : Code} {Q : State → Prop} {A : Nat → Prop} {H : Heap} {locs : List Loc} {ls : Array Slot} (D : va_G) (cy : Nat → ClassId) (t : Nat → Nat) (o_t o_t_play o_t_lines o_t_truth o_t_glassTrack o_t_board o_t_otherBoard o_t_fog o_t_crowd o_t_deal : Nat → Nat) (x_play_w : Int32) (x_play_h : Int32) (x_play_hands : Int32) (p1 : Int32) {out : Int32} (hf : X7_isHand x_play_hands p1 = some out) (hx : p.tables.exec = Jvm.exec) (hb : c.code = cX7_isHand) (hml : c.maxLocals = 2) (hown : s.vm.findClass RX7 = some m.cls) (hts : ∀ w ∈ wsX7_isHand, w.before args s = true) (hK : va_K D vwCl (TYS cy) s) (hE : EV t A s s.heap) (hA : ∀ q, s.heap.size ≤ q → A q) (hP : va_P D vwCl (wd_X7_isHand cy o_t o_t_play o_t_lines o_t_truth o_t_glassTrack o_t_board o_t_otherBoard o_t_fog o_t_crowd o_t_deal x_play_w x_play_h x_play_hands) H) (hD : va_D A (wd_X7_isHand cy o_t o_t_play o_t_lines o_t_truth o_t_glassTrack o_t_board o_t_otherBoard o_t_fog o_t_crowd o_t_deal x_play_w x_play_h x_play_hands)) (hS : va_S A s.heap H locs) (hl : lv_has ls 2 [(0, .ref (o_t 0)), (1, .int p1)]) (hR : ∀ (H : Heap) (locs : List Loc) (ls : Array Slot) (pc : Nat), va_P D vwCl (wd_X7_isHand cy o_t o_t_play o_t_lines o_t_truth o_t_glassTrack o_t_board o_t_otherBoard o_t_fog o_t_crowd o_t_deal x_play_w x_play_h x_play_hands) H → va_D A (wd_X7_isHand cy o_t o_t_play o_t_lines o_t_truth o_t_glassTrack o_t_board o_t_otherBoard o_t_fog o_t_crowd o_t_deal x_play_w x_play_h x_play_hands) → va_S A s.heap H locs → narrow .boolean (.int out) = .int out → decode cX7_isHand pc = .ok (.ireturn, 1) → W p l e (rmm 0 0) s m args below meth c H locs 0 0 Q (F0 m pc ls [.int out])) : W p l e (rmm 0 0) s m args below meth c H locs 0 0 Q (F0 m 0 ls []) := by
  have k0 := hts (.fieldLink RX7 10 "SeaGames" "play" "LSeaGames$Play;") (List.mem_cons_of_mem _ (List.mem_append_left _ (List.mem_append_left _ (List.mem_of_getElem? (i := 0) rfl))))
  have k1 : ∀ w ∈ u_ws RX7 TX7 12, w ∈ wsX7_isHand := fun _ h => List.mem_cons_of_mem _ (List.mem_append_left _ (List.mem_append_right _ h))
  have k2 := hts (.fieldLink RX7 123 "SeaGames$Play" "hands" "I") (List.mem_cons_of_mem _ (List.mem_append_left _ (List.mem_append_left _ (List.mem_of_getElem? (i := 1) rfl))))
  have k3 : ∀ w ∈ u_ws RX5 TX5 7, w ∈ wsX7_isHand := fun _ h => List.mem_cons_of_mem _ (List.mem_append_right _ h)
  rw [X7_isHand] at hf
  refine lv_iload_n hx hb dX7_isHand_0 rfl (lv_at hl 1 rfl) ?_
  refine lv_if_lt (tgt := 19) hx hb dX7_isHand_1 (by decide) (fun c1 => ?_) (fun c1 => ?_)
  · have hf := ifp c1 hf
    refine lv_iconst (v := (0 : Int32)) hx hb dX7_isHand_19 (by decide) ?_
    obtain ⟨z20, hf⟩ := zb_s hf
    obtain rfl := Option.some.inj hf
    exact hR _ _ _ _ hP hD hS z20 dX7_isHand_20
  · have hf := ifn c1 hf
    refine lv_iload_n hx hb dX7_isHand_4 rfl (lv_at hl 1 rfl) ?_
    refine lv_aload_n hx hb dX7_isHand_5 rfl (lv_at hl 0 rfl) ?_
    refine va_get (D := D) (ci := 7) (v := .ref (o_t_play 0)) (C := RX7) (T := TX7) (N := 12) hx hb hts k1 hown hK hP 0 rfl rfl 0 (by decide) k0 (fun _ h9 => h9) rfl dX7_isHand_6 ?_
    refine va_get (D := D) (ci := 5) (v := .int x_play_hands) (C := RX5) (T := TX5) (N := 7) hx hb hts k3 hown hK hP 1 rfl rfl 2 (by decide) k2 (fun _ h9 => h9) rfl dX7_isHand_9 ?_
    refine lv_icmp_ge (tgt := 19) hx hb dX7_isHand_12 (by decide) (fun c12 => ?_) (fun c12 => ?_)
    · have hf := ifp c12 hf
      refine lv_iconst (v := (0 : Int32)) hx hb dX7_isHand_19 (by decide) ?_
      obtain ⟨z20, hf⟩ := zb_s hf
      obtain rfl := Option.some.inj hf
      exact hR _ _ _ _ hP hD hS z20 dX7_isHand_20
    · have hf := ifn c12 hf
      refine lv_iconst (v := (1 : Int32)) hx hb dX7_isHand_15 (by decide) ?_
      refine lv_goto (tgt := 20) hx hb dX7_isHand_16 (by decide) ?_
      obtain ⟨z20, hf⟩ := zb_s hf
      obtain rfl := Option.some.inj hf
      exact hR _ _ _ _ hP hD hS z20 dX7_isHand_20
theorem hd_X7_isHand : yX7_isHand.cls ≠ "java/lang/invoke/MethodHandle" ∧ yX7_isHand.cls ≠ "java/lang/invoke/VarHandle" ∧ (parseMethodDescriptor yX7_isHand.desc).map (fun d => d.parameters.length) = some 1 := by decide +kernel
set_option maxRecDepth 100000 in
theorem c_X7_isHand (l : Launch) (D : va_G) (cy : Nat → ClassId) (t : Nat → Nat) (o_t o_t_play o_t_lines o_t_truth o_t_glassTrack o_t_board o_t_otherBoard o_t_fog o_t_crowd o_t_deal : Nat → Nat) (x_play_w : Int32) (x_play_h : Int32) (x_play_hands : Int32) (p1 : Int32) {out : Int32} (hf : X7_isHand x_play_hands p1 = some out) : ctI l yX7_isHand wsX7_isHand 0 0 D cy t [.ref (o_t 0), .int p1] (wd_X7_isHand cy o_t o_t_play o_t_lines o_t_truth o_t_glassTrack o_t_board o_t_otherBoard o_t_fog o_t_crowd o_t_deal x_play_w x_play_h x_play_hands) (wd_X7_isHand cy o_t o_t_play o_t_lines o_t_truth o_t_glassTrack o_t_board o_t_otherBoard o_t_fog o_t_crowd o_t_deal x_play_w x_play_h x_play_hands) out := by
  refine ⟨rfl, ?_⟩
  intro sz
  refine Met.ofW (cc := cX7_isHand) (maxL := 2) (ret := (some .boolean)) (by decide) rfl ?_
  intro p e s m args below meth c s₁ B hml hv
  obtain ⟨rfl, hsz, hP, hK, hD0, hE⟩ := hv
  have hts := atoms_spec (ws := wsX7_isHand) B.pre
  have hown : s.vm.findClass RX7 = some m.cls := findClass_of_methodNamed B.named
  have hlocks := B.notSynchronized
  subst hsz
  have hD := hD0.self (sz := s.heap.size)
  have hl := lv_entry ([.ref (o_t 0), .int p1]) (n := 2) (Nat.le_of_ble_eq_true rfl)
  rw [lg_entry_eq]
  generalize (lg_sl ([.ref (o_t 0), .int p1]) ++ List.replicate (2 - (lg_sl ([.ref (o_t 0), .int p1])).length) Slot.unset).toArray = ls at hl ⊢
  exact w_X7_isHand D cy t o_t o_t_play o_t_lines o_t_truth o_t_glassTrack o_t_board o_t_otherBoard o_t_fog o_t_crowd o_t_deal x_play_w x_play_h x_play_hands p1 hf B.exec B.bytes hml hown hts hK hE (fun q h => Or.inr h) hP hD va_S.rf hl (fun H locs ls pc hP hD hS z hdg => W.zret B.exec B.bytes B.returns z (fun t ht hW => ⟨⟨_, (), rfl, rfl, ctB_of ht hP⟩, hS.F ht⟩) hS.2.2 hdg)

noncomputable def X7_isTick (p0 : Int32) : Option (Int32) :=
  if p0 < (0 : Int32) then (zb (0 : Int32) <| some (0 : Int32)) else (if (100 : Int32) ≤ p0 then (zb (0 : Int32) <| some (0 : Int32)) else (zb (1 : Int32) <| some (1 : Int32)))
abbrev wd_X7_isTick (cy : Nat → ClassId) : va_W := []
set_option maxHeartbeats 4000000 in
set_option maxRecDepth 100000 in
theorem w_X7_isTick {p : Program} {l : Launch} {e : Env} {s : State} {m : MethodId} {args : Array Value} {below : List Frame} {meth : Method} {c : Code} {Q : State → Prop} {A : Nat → Prop} {H : Heap} {locs : List Loc} {ls : Array Slot} (D : va_G) (cy : Nat → ClassId) (t : Nat → Nat) (p0 : Int32) {out : Int32} (hf : X7_isTick p0 = some out) (hx : p.tables.exec = Jvm.exec) (hb : c.code = cX7_isTick) (hml : c.maxLocals = 1) (hown : s.vm.findClass RX7 = some m.cls) (hts : ∀ w ∈ wsX7_isTick, w.before args s = true) (hK : va_K D vwCl (TYS cy) s) (hE : EV t A s s.heap) (hA : ∀ q, s.heap.size ≤ q → A q) (hP : va_P D vwCl (wd_X7_isTick cy) H) (hD : va_D A (wd_X7_isTick cy)) (hS : va_S A s.heap H locs) (hl : lv_has ls 1 [(0, .int p0)]) (hR : ∀ (H : Heap) (locs : List Loc) (ls : Array Slot) (pc : Nat), va_P D vwCl (wd_X7_isTick cy) H → va_D A (wd_X7_isTick cy) → va_S A s.heap H locs → narrow .boolean (.int out) = .int out → decode cX7_isTick pc = .ok (.ireturn, 1) → W p l e (rmm 0 0) s m args below meth c H locs 0 0 Q (F0 m pc ls [.int out])) : W p l e (rmm 0 0) s m args below meth c H locs 0 0 Q (F0 m 0 ls []) := by
  rw [X7_isTick] at hf
  refine lv_iload_n hx hb dX7_isTick_0 rfl (lv_at hl 0 rfl) ?_
  refine lv_if_lt (tgt := 14) hx hb dX7_isTick_1 (by decide) (fun c1 => ?_) (fun c1 => ?_)
  · have hf := ifp c1 hf
    refine lv_iconst (v := (0 : Int32)) hx hb dX7_isTick_14 (by decide) ?_
    obtain ⟨z15, hf⟩ := zb_s hf
    obtain rfl := Option.some.inj hf
    exact hR _ _ _ _ hP hD hS z15 dX7_isTick_15
  · have hf := ifn c1 hf
    refine lv_iload_n hx hb dX7_isTick_4 rfl (lv_at hl 0 rfl) ?_
    refine lv_bipush (v := (100 : Int32)) hx hb dX7_isTick_5 (by decide) ?_
    refine lv_icmp_ge (tgt := 14) hx hb dX7_isTick_7 (by decide) (fun c7 => ?_) (fun c7 => ?_)
    · have hf := ifp c7 hf
      refine lv_iconst (v := (0 : Int32)) hx hb dX7_isTick_14 (by decide) ?_
      obtain ⟨z15, hf⟩ := zb_s hf
      obtain rfl := Option.some.inj hf
      exact hR _ _ _ _ hP hD hS z15 dX7_isTick_15
    · have hf := ifn c7 hf
      refine lv_iconst (v := (1 : Int32)) hx hb dX7_isTick_10 (by decide) ?_
      refine lv_goto (tgt := 15) hx hb dX7_isTick_11 (by decide) ?_
      obtain ⟨z15, hf⟩ := zb_s hf
      obtain rfl := Option.some.inj hf
      exact hR _ _ _ _ hP hD hS z15 dX7_isTick_15
theorem hd_X7_isTick : yX7_isTick.cls ≠ "java/lang/invoke/MethodHandle" ∧ yX7_isTick.cls ≠ "java/lang/invoke/VarHandle" ∧ (parseMethodDescriptor yX7_isTick.desc).map (fun d => d.parameters.length) = some 1 := by decide +kernel
set_option maxRecDepth 100000 in
theorem c_X7_isTick (l : Launch) (D : va_G) (cy : Nat → ClassId) (t : Nat → Nat) (p0 : Int32) {out : Int32} (hf : X7_isTick p0 = some out) : ctI l yX7_isTick wsX7_isTick 0 0 D cy t [.int p0] (wd_X7_isTick cy) (wd_X7_isTick cy) out := by
  refine ⟨rfl, ?_⟩
  intro sz
  refine Met.ofW (cc := cX7_isTick) (maxL := 1) (ret := (some .boolean)) (by decide) rfl ?_
  intro p e s m args below meth c s₁ B hml hv
  obtain ⟨rfl, hsz, hP, hK, hD0, hE⟩ := hv
  have hts := atoms_spec (ws := wsX7_isTick) B.pre
  have hown : s.vm.findClass RX7 = some m.cls := findClass_of_methodNamed B.named
  have hlocks := B.notSynchronized
  subst hsz
  have hD := hD0.self (sz := s.heap.size)
  have hl := lv_entry ([.int p0]) (n := 1) (Nat.le_of_ble_eq_true rfl)
  rw [lg_entry_eq]
  generalize (lg_sl ([.int p0]) ++ List.replicate (1 - (lg_sl ([.int p0])).length) Slot.unset).toArray = ls at hl ⊢
  exact w_X7_isTick D cy t  p0 hf B.exec B.bytes hml hown hts hK hE (fun q h => Or.inr h) hP hD va_S.rf hl (fun H locs ls pc hP hD hS z hdg => W.zret B.exec B.bytes B.returns z (fun t ht hW => ⟨⟨_, (), rfl, rfl, ctB_of ht hP⟩, hS.F ht⟩) hS.2.2 hdg)

noncomputable def X7_isSide (p0 : Int32) : Option (Int32) :=
  if p0 < (3 : Int32) then (zb (0 : Int32) <| some (0 : Int32)) else (if (9 : Int32) < p0 then (zb (0 : Int32) <| some (0 : Int32)) else (zb (1 : Int32) <| some (1 : Int32)))
abbrev wd_X7_isSide (cy : Nat → ClassId) : va_W := []
set_option maxHeartbeats 4000000 in
set_option maxRecDepth 100000 in
theorem w_X7_isSide {p : Program} {l : Launch} {e : Env} {s : State} {m : MethodId} {args : Array Value} {below : List Frame} {meth : Method} {c : Code} {Q : State → Prop} {A : Nat → Prop} {H : Heap} {locs : List Loc} {ls : Array Slot} (D : va_G) (cy : Nat → ClassId) (t : Nat → Nat) (p0 : Int32) {out : Int32} (hf : X7_isSide p0 = some out) (hx : p.tables.exec = Jvm.exec) (hb : c.code = cX7_isSide) (hml : c.maxLocals = 1) (hown : s.vm.findClass RX7 = some m.cls) (hts : ∀ w ∈ wsX7_isSide, w.before args s = true) (hK : va_K D vwCl (TYS cy) s) (hE : EV t A s s.heap) (hA : ∀ q, s.heap.size ≤ q → A q) (hP : va_P D vwCl (wd_X7_isSide cy) H) (hD : va_D A (wd_X7_isSide cy)) (hS : va_S A s.heap H locs) (hl : lv_has ls 1 [(0, .int p0)]) (hR : ∀ (H : Heap) (locs : List Loc) (ls : Array Slot) (pc : Nat), va_P D vwCl (wd_X7_isSide cy) H → va_D A (wd_X7_isSide cy) → va_S A s.heap H locs → narrow .boolean (.int out) = .int out → decode cX7_isSide pc = .ok (.ireturn, 1) → W p l e (rmm 0 0) s m args below meth c H locs 0 0 Q (F0 m pc ls [.int out])) : W p l e (rmm 0 0) s m args below meth c H locs 0 0 Q (F0 m 0 ls []) := by
  rw [X7_isSide] at hf
  refine lv_iload_n hx hb dX7_isSide_0 rfl (lv_at hl 0 rfl) ?_
  refine lv_iconst (v := (3 : Int32)) hx hb dX7_isSide_1 (by decide) ?_
  refine lv_icmp_lt (tgt := 15) hx hb dX7_isSide_2 (by decide) (fun c2 => ?_) (fun c2 => ?_)
  · have hf := ifp c2 hf
    refine lv_iconst (v := (0 : Int32)) hx hb dX7_isSide_15 (by decide) ?_
    obtain ⟨z16, hf⟩ := zb_s hf
    obtain rfl := Option.some.inj hf
    exact hR _ _ _ _ hP hD hS z16 dX7_isSide_16
  · have hf := ifn c2 hf
    refine lv_iload_n hx hb dX7_isSide_5 rfl (lv_at hl 0 rfl) ?_
    refine lv_bipush (v := (9 : Int32)) hx hb dX7_isSide_6 (by decide) ?_
    refine lv_icmp_gt (tgt := 15) hx hb dX7_isSide_8 (by decide) (fun c8 => ?_) (fun c8 => ?_)
    · have hf := ifp c8 hf
      refine lv_iconst (v := (0 : Int32)) hx hb dX7_isSide_15 (by decide) ?_
      obtain ⟨z16, hf⟩ := zb_s hf
      obtain rfl := Option.some.inj hf
      exact hR _ _ _ _ hP hD hS z16 dX7_isSide_16
    · have hf := ifn c8 hf
      refine lv_iconst (v := (1 : Int32)) hx hb dX7_isSide_11 (by decide) ?_
      refine lv_goto (tgt := 16) hx hb dX7_isSide_12 (by decide) ?_
      obtain ⟨z16, hf⟩ := zb_s hf
      obtain rfl := Option.some.inj hf
      exact hR _ _ _ _ hP hD hS z16 dX7_isSide_16
theorem hd_X7_isSide : yX7_isSide.cls ≠ "java/lang/invoke/MethodHandle" ∧ yX7_isSide.cls ≠ "java/lang/invoke/VarHandle" ∧ (parseMethodDescriptor yX7_isSide.desc).map (fun d => d.parameters.length) = some 1 := by decide +kernel
set_option maxRecDepth 100000 in
theorem c_X7_isSide (l : Launch) (D : va_G) (cy : Nat → ClassId) (t : Nat → Nat) (p0 : Int32) {out : Int32} (hf : X7_isSide p0 = some out) : ctI l yX7_isSide wsX7_isSide 0 0 D cy t [.int p0] (wd_X7_isSide cy) (wd_X7_isSide cy) out := by
  refine ⟨rfl, ?_⟩
  intro sz
  refine Met.ofW (cc := cX7_isSide) (maxL := 1) (ret := (some .boolean)) (by decide) rfl ?_
  intro p e s m args below meth c s₁ B hml hv
  obtain ⟨rfl, hsz, hP, hK, hD0, hE⟩ := hv
  have hts := atoms_spec (ws := wsX7_isSide) B.pre
  have hown : s.vm.findClass RX7 = some m.cls := findClass_of_methodNamed B.named
  have hlocks := B.notSynchronized
  subst hsz
  have hD := hD0.self (sz := s.heap.size)
  have hl := lv_entry ([.int p0]) (n := 1) (Nat.le_of_ble_eq_true rfl)
  rw [lg_entry_eq]
  generalize (lg_sl ([.int p0]) ++ List.replicate (1 - (lg_sl ([.int p0])).length) Slot.unset).toArray = ls at hl ⊢
  exact w_X7_isSide D cy t  p0 hf B.exec B.bytes hml hown hts hK hE (fun q h => Or.inr h) hP hD va_S.rf hl (fun H locs ls pc hP hD hS z hdg => W.zret B.exec B.bytes B.returns z (fun t ht hW => ⟨⟨_, (), rfl, rfl, ctB_of ht hP⟩, hS.F ht⟩) hS.2.2 hdg)

noncomputable def X7_isPress (p0 : Int32) : Option (Int32) :=
  if p0 < (0 : Int32) then (zb (0 : Int32) <| some (0 : Int32)) else (if (5 : Int32) < p0 then (zb (0 : Int32) <| some (0 : Int32)) else (zb (1 : Int32) <| some (1 : Int32)))
abbrev wd_X7_isPress (cy : Nat → ClassId) : va_W := []
set_option maxHeartbeats 4000000 in
set_option maxRecDepth 100000 in
theorem w_X7_isPress {p : Program} {l : Launch} {e : Env} {s : State} {m : MethodId} {args : Array Value} {below : List Frame} {meth : Method} {c : Code} {Q : State → Prop} {A : Nat → Prop} {H : Heap} {locs : List Loc} {ls : Array Slot} (D : va_G) (cy : Nat → ClassId) (t : Nat → Nat) (p0 : Int32) {out : Int32} (hf : X7_isPress p0 = some out) (hx : p.tables.exec = Jvm.exec) (hb : c.code = cX7_isPress) (hml : c.maxLocals = 1) (hown : s.vm.findClass RX7 = some m.cls) (hts : ∀ w ∈ wsX7_isPress, w.before args s = true) (hK : va_K D vwCl (TYS cy) s) (hE : EV t A s s.heap) (hA : ∀ q, s.heap.size ≤ q → A q) (hP : va_P D vwCl (wd_X7_isPress cy) H) (hD : va_D A (wd_X7_isPress cy)) (hS : va_S A s.heap H locs) (hl : lv_has ls 1 [(0, .int p0)]) (hR : ∀ (H : Heap) (locs : List Loc) (ls : Array Slot) (pc : Nat), va_P D vwCl (wd_X7_isPress cy) H → va_D A (wd_X7_isPress cy) → va_S A s.heap H locs → narrow .boolean (.int out) = .int out → decode cX7_isPress pc = .ok (.ireturn, 1) → W p l e (rmm 0 0) s m args below meth c H locs 0 0 Q (F0 m pc ls [.int out])) : W p l e (rmm 0 0) s m args below meth c H locs 0 0 Q (F0 m 0 ls []) := by
  rw [X7_isPress] at hf
  refine lv_iload_n hx hb dX7_isPress_0 rfl (lv_at hl 0 rfl) ?_
  refine lv_if_lt (tgt := 13) hx hb dX7_isPress_1 (by decide) (fun c1 => ?_) (fun c1 => ?_)
  · have hf := ifp c1 hf
    refine lv_iconst (v := (0 : Int32)) hx hb dX7_isPress_13 (by decide) ?_
    obtain ⟨z14, hf⟩ := zb_s hf
    obtain rfl := Option.some.inj hf
    exact hR _ _ _ _ hP hD hS z14 dX7_isPress_14
  · have hf := ifn c1 hf
    refine lv_iload_n hx hb dX7_isPress_4 rfl (lv_at hl 0 rfl) ?_
    refine lv_iconst (v := (5 : Int32)) hx hb dX7_isPress_5 (by decide) ?_
    refine lv_icmp_gt (tgt := 13) hx hb dX7_isPress_6 (by decide) (fun c6 => ?_) (fun c6 => ?_)
    · have hf := ifp c6 hf
      refine lv_iconst (v := (0 : Int32)) hx hb dX7_isPress_13 (by decide) ?_
      obtain ⟨z14, hf⟩ := zb_s hf
      obtain rfl := Option.some.inj hf
      exact hR _ _ _ _ hP hD hS z14 dX7_isPress_14
    · have hf := ifn c6 hf
      refine lv_iconst (v := (1 : Int32)) hx hb dX7_isPress_9 (by decide) ?_
      refine lv_goto (tgt := 14) hx hb dX7_isPress_10 (by decide) ?_
      obtain ⟨z14, hf⟩ := zb_s hf
      obtain rfl := Option.some.inj hf
      exact hR _ _ _ _ hP hD hS z14 dX7_isPress_14
theorem hd_X7_isPress : yX7_isPress.cls ≠ "java/lang/invoke/MethodHandle" ∧ yX7_isPress.cls ≠ "java/lang/invoke/VarHandle" ∧ (parseMethodDescriptor yX7_isPress.desc).map (fun d => d.parameters.length) = some 1 := by decide +kernel
set_option maxRecDepth 100000 in
theorem c_X7_isPress (l : Launch) (D : va_G) (cy : Nat → ClassId) (t : Nat → Nat) (p0 : Int32) {out : Int32} (hf : X7_isPress p0 = some out) : ctI l yX7_isPress wsX7_isPress 0 0 D cy t [.int p0] (wd_X7_isPress cy) (wd_X7_isPress cy) out := by
  refine ⟨rfl, ?_⟩
  intro sz
  refine Met.ofW (cc := cX7_isPress) (maxL := 1) (ret := (some .boolean)) (by decide) rfl ?_
  intro p e s m args below meth c s₁ B hml hv
  obtain ⟨rfl, hsz, hP, hK, hD0, hE⟩ := hv
  have hts := atoms_spec (ws := wsX7_isPress) B.pre
  have hown : s.vm.findClass RX7 = some m.cls := findClass_of_methodNamed B.named
  have hlocks := B.notSynchronized
  subst hsz
  have hD := hD0.self (sz := s.heap.size)
  have hl := lv_entry ([.int p0]) (n := 1) (Nat.le_of_ble_eq_true rfl)
  rw [lg_entry_eq]
  generalize (lg_sl ([.int p0]) ++ List.replicate (1 - (lg_sl ([.int p0])).length) Slot.unset).toArray = ls at hl ⊢
  exact w_X7_isPress D cy t  p0 hf B.exec B.bytes hml hown hts hK hE (fun q h => Or.inr h) hP hD va_S.rf hl (fun H locs ls pc hP hD hS z hdg => W.zret B.exec B.bytes B.returns z (fun t ht hW => ⟨⟨_, (), rfl, rfl, ctB_of ht hP⟩, hS.F ht⟩) hS.2.2 hdg)

noncomputable def X7_isPower (p0 : Int32) : Option (Int32) :=
  rd st_least 7 (0 : Int32) fun v5 => if p0 < v5 then (zb (0 : Int32) <| some (0 : Int32)) else (rd st_most 7 (0 : Int32) fun v14 => if v14 < p0 then (zb (0 : Int32) <| some (0 : Int32)) else (zb (1 : Int32) <| some (1 : Int32)))
abbrev wd_X7_isPower (cy : Nat → ClassId) : va_W := []
set_option maxHeartbeats 4000000 in
set_option maxRecDepth 100000 in
theorem w_X7_isPower {p : Program} {l : Launch} {e : Env} {s : State} {m : MethodId} {args : Array Value} {below : List Frame} {meth : Method} {c : Code} {Q : State → Prop} {A : Nat → Prop} {H : Heap} {locs : List Loc} {ls : Array Slot} (D : va_G) (cy : Nat → ClassId) (t : Nat → Nat) (p0 : Int32) {out : Int32} (hf : X7_isPower p0 = some out) (hx : p.tables.exec = Jvm.exec) (hb : c.code = cX7_isPower) (hml : c.maxLocals = 1) (hown : s.vm.findClass RX7 = some m.cls) (hts : ∀ w ∈ wsX7_isPower, w.before args s = true) (hK : va_K D vwCl (TYS cy) s) (hE : EV t A s s.heap) (hA : ∀ q, s.heap.size ≤ q → A q) (hP : va_P D vwCl (wd_X7_isPower cy) H) (hD : va_D A (wd_X7_isPower cy)) (hS : va_S A s.heap H locs) (hl : lv_has ls 1 [(0, .int p0)]) (hR : ∀ (H : Heap) (locs : List Loc) (ls : Array Slot) (pc : Nat), va_P D vwCl (wd_X7_isPower cy) H → va_D A (wd_X7_isPower cy) → va_S A s.heap H locs → narrow .boolean (.int out) = .int out → decode cX7_isPower pc = .ok (.ireturn, 1) → W p l e (rmm 0 0) s m args below meth c H locs 0 0 Q (F0 m pc ls [.int out])) : W p l e (rmm 0 0) s m args below meth c H locs 0 0 Q (F0 m 0 ls []) := by
  have k0 := hts (.fieldLink RX7 92 "SeaGames" "LEAST_RULE" "[I") (List.mem_cons_of_mem _ (List.mem_of_getElem? (i := 0) rfl))
  have k1 := hts (.fieldLink RX7 95 "SeaGames" "MOST_RULE" "[I") (List.mem_cons_of_mem _ (List.mem_of_getElem? (i := 1) rfl))
  rw [X7_isPower] at hf
  refine lv_iload_n hx hb dX7_isPower_0 rfl (lv_at hl 0 rfl) ?_
  refine va_gets hx hb hE.1.2.1.1 hS hown k0 (fun _ h9 => h9) dX7_isPower_1 ?_
  refine lv_iconst (v := (0 : Int32)) hx hb dX7_isPower_4 (by decide) ?_
  obtain ⟨v5, b5, ev5, hf⟩ := rd_s hf
  refine my_tald hx hb hE.1.2.1.2 hS b5 ev5 dX7_isPower_5 ?_
  refine lv_icmp_lt (tgt := 22) hx hb dX7_isPower_6 (by decide) (fun c6 => ?_) (fun c6 => ?_)
  · have hf := ifp c6 hf
    refine lv_iconst (v := (0 : Int32)) hx hb dX7_isPower_22 (by decide) ?_
    obtain ⟨z23, hf⟩ := zb_s hf
    obtain rfl := Option.some.inj hf
    exact hR _ _ _ _ hP hD hS z23 dX7_isPower_23
  · have hf := ifn c6 hf
    refine lv_iload_n hx hb dX7_isPower_9 rfl (lv_at hl 0 rfl) ?_
    refine va_gets hx hb hE.1.2.2.1 hS hown k1 (fun _ h9 => h9) dX7_isPower_10 ?_
    refine lv_iconst (v := (0 : Int32)) hx hb dX7_isPower_13 (by decide) ?_
    obtain ⟨v14, b14, ev14, hf⟩ := rd_s hf
    refine my_tald hx hb hE.1.2.2.2 hS b14 ev14 dX7_isPower_14 ?_
    refine lv_icmp_gt (tgt := 22) hx hb dX7_isPower_15 (by decide) (fun c15 => ?_) (fun c15 => ?_)
    · have hf := ifp c15 hf
      refine lv_iconst (v := (0 : Int32)) hx hb dX7_isPower_22 (by decide) ?_
      obtain ⟨z23, hf⟩ := zb_s hf
      obtain rfl := Option.some.inj hf
      exact hR _ _ _ _ hP hD hS z23 dX7_isPower_23
    · have hf := ifn c15 hf
      refine lv_iconst (v := (1 : Int32)) hx hb dX7_isPower_18 (by decide) ?_
      refine lv_goto (tgt := 23) hx hb dX7_isPower_19 (by decide) ?_
      obtain ⟨z23, hf⟩ := zb_s hf
      obtain rfl := Option.some.inj hf
      exact hR _ _ _ _ hP hD hS z23 dX7_isPower_23
theorem hd_X7_isPower : yX7_isPower.cls ≠ "java/lang/invoke/MethodHandle" ∧ yX7_isPower.cls ≠ "java/lang/invoke/VarHandle" ∧ (parseMethodDescriptor yX7_isPower.desc).map (fun d => d.parameters.length) = some 1 := by decide +kernel
set_option maxRecDepth 100000 in
theorem c_X7_isPower (l : Launch) (D : va_G) (cy : Nat → ClassId) (t : Nat → Nat) (p0 : Int32) {out : Int32} (hf : X7_isPower p0 = some out) : ctI l yX7_isPower wsX7_isPower 0 0 D cy t [.int p0] (wd_X7_isPower cy) (wd_X7_isPower cy) out := by
  refine ⟨rfl, ?_⟩
  intro sz
  refine Met.ofW (cc := cX7_isPower) (maxL := 1) (ret := (some .boolean)) (by decide) rfl ?_
  intro p e s m args below meth c s₁ B hml hv
  obtain ⟨rfl, hsz, hP, hK, hD0, hE⟩ := hv
  have hts := atoms_spec (ws := wsX7_isPower) B.pre
  have hown : s.vm.findClass RX7 = some m.cls := findClass_of_methodNamed B.named
  have hlocks := B.notSynchronized
  subst hsz
  have hD := hD0.self (sz := s.heap.size)
  have hl := lv_entry ([.int p0]) (n := 1) (Nat.le_of_ble_eq_true rfl)
  rw [lg_entry_eq]
  generalize (lg_sl ([.int p0]) ++ List.replicate (1 - (lg_sl ([.int p0])).length) Slot.unset).toArray = ls at hl ⊢
  exact w_X7_isPower D cy t  p0 hf B.exec B.bytes hml hown hts hK hE (fun q h => Or.inr h) hP hD va_S.rf hl (fun H locs ls pc hP hD hS z hdg => W.zret B.exec B.bytes B.returns z (fun t ht hW => ⟨⟨_, (), rfl, rfl, ctB_of ht hP⟩, hS.F ht⟩) hS.2.2 hdg)

noncomputable def X7_isShore (p0 : Int32) : Option (Int32) :=
  if p0 < (0 : Int32) then (zb (0 : Int32) <| some (0 : Int32)) else (if (4 : Int32) ≤ p0 then (zb (0 : Int32) <| some (0 : Int32)) else (zb (1 : Int32) <| some (1 : Int32)))
abbrev wd_X7_isShore (cy : Nat → ClassId) : va_W := []
set_option maxHeartbeats 4000000 in
set_option maxRecDepth 100000 in
theorem w_X7_isShore {p : Program} {l : Launch} {e : Env} {s : State} {m : MethodId} {args : Array Value} {below : List Frame} {meth : Method} {c : Code} {Q : State → Prop} {A : Nat → Prop} {H : Heap} {locs : List Loc} {ls : Array Slot} (D : va_G) (cy : Nat → ClassId) (t : Nat → Nat) (p0 : Int32) {out : Int32} (hf : X7_isShore p0 = some out) (hx : p.tables.exec = Jvm.exec) (hb : c.code = cX7_isShore) (hml : c.maxLocals = 1) (hown : s.vm.findClass RX7 = some m.cls) (hts : ∀ w ∈ wsX7_isShore, w.before args s = true) (hK : va_K D vwCl (TYS cy) s) (hE : EV t A s s.heap) (hA : ∀ q, s.heap.size ≤ q → A q) (hP : va_P D vwCl (wd_X7_isShore cy) H) (hD : va_D A (wd_X7_isShore cy)) (hS : va_S A s.heap H locs) (hl : lv_has ls 1 [(0, .int p0)]) (hR : ∀ (H : Heap) (locs : List Loc) (ls : Array Slot) (pc : Nat), va_P D vwCl (wd_X7_isShore cy) H → va_D A (wd_X7_isShore cy) → va_S A s.heap H locs → narrow .boolean (.int out) = .int out → decode cX7_isShore pc = .ok (.ireturn, 1) → W p l e (rmm 0 0) s m args below meth c H locs 0 0 Q (F0 m pc ls [.int out])) : W p l e (rmm 0 0) s m args below meth c H locs 0 0 Q (F0 m 0 ls []) := by
  rw [X7_isShore] at hf
  refine lv_iload_n hx hb dX7_isShore_0 rfl (lv_at hl 0 rfl) ?_
  refine lv_if_lt (tgt := 13) hx hb dX7_isShore_1 (by decide) (fun c1 => ?_) (fun c1 => ?_)
  · have hf := ifp c1 hf
    refine lv_iconst (v := (0 : Int32)) hx hb dX7_isShore_13 (by decide) ?_
    obtain ⟨z14, hf⟩ := zb_s hf
    obtain rfl := Option.some.inj hf
    exact hR _ _ _ _ hP hD hS z14 dX7_isShore_14
  · have hf := ifn c1 hf
    refine lv_iload_n hx hb dX7_isShore_4 rfl (lv_at hl 0 rfl) ?_
    refine lv_iconst (v := (4 : Int32)) hx hb dX7_isShore_5 (by decide) ?_
    refine lv_icmp_ge (tgt := 13) hx hb dX7_isShore_6 (by decide) (fun c6 => ?_) (fun c6 => ?_)
    · have hf := ifp c6 hf
      refine lv_iconst (v := (0 : Int32)) hx hb dX7_isShore_13 (by decide) ?_
      obtain ⟨z14, hf⟩ := zb_s hf
      obtain rfl := Option.some.inj hf
      exact hR _ _ _ _ hP hD hS z14 dX7_isShore_14
    · have hf := ifn c6 hf
      refine lv_iconst (v := (1 : Int32)) hx hb dX7_isShore_9 (by decide) ?_
      refine lv_goto (tgt := 14) hx hb dX7_isShore_10 (by decide) ?_
      obtain ⟨z14, hf⟩ := zb_s hf
      obtain rfl := Option.some.inj hf
      exact hR _ _ _ _ hP hD hS z14 dX7_isShore_14
theorem hd_X7_isShore : yX7_isShore.cls ≠ "java/lang/invoke/MethodHandle" ∧ yX7_isShore.cls ≠ "java/lang/invoke/VarHandle" ∧ (parseMethodDescriptor yX7_isShore.desc).map (fun d => d.parameters.length) = some 1 := by decide +kernel
set_option maxRecDepth 100000 in
theorem c_X7_isShore (l : Launch) (D : va_G) (cy : Nat → ClassId) (t : Nat → Nat) (p0 : Int32) {out : Int32} (hf : X7_isShore p0 = some out) : ctI l yX7_isShore wsX7_isShore 0 0 D cy t [.int p0] (wd_X7_isShore cy) (wd_X7_isShore cy) out := by
  refine ⟨rfl, ?_⟩
  intro sz
  refine Met.ofW (cc := cX7_isShore) (maxL := 1) (ret := (some .boolean)) (by decide) rfl ?_
  intro p e s m args below meth c s₁ B hml hv
  obtain ⟨rfl, hsz, hP, hK, hD0, hE⟩ := hv
  have hts := atoms_spec (ws := wsX7_isShore) B.pre
  have hown : s.vm.findClass RX7 = some m.cls := findClass_of_methodNamed B.named
  have hlocks := B.notSynchronized
  subst hsz
  have hD := hD0.self (sz := s.heap.size)
  have hl := lv_entry ([.int p0]) (n := 1) (Nat.le_of_ble_eq_true rfl)
  rw [lg_entry_eq]
  generalize (lg_sl ([.int p0]) ++ List.replicate (1 - (lg_sl ([.int p0])).length) Slot.unset).toArray = ls at hl ⊢
  exact w_X7_isShore D cy t  p0 hf B.exec B.bytes hml hown hts hK hE (fun q h => Or.inr h) hP hD va_S.rf hl (fun H locs ls pc hP hD hS z hdg => W.zret B.exec B.bytes B.returns z (fun t ht hW => ⟨⟨_, (), rfl, rfl, ctB_of ht hP⟩, hS.F ht⟩) hS.2.2 hdg)

noncomputable def X7_isSlot (p0 : Int32) : Option (Int32) :=
  if p0 < (0 : Int32) then (zb (0 : Int32) <| some (0 : Int32)) else (if (4 : Int32) ≤ p0 then (zb (0 : Int32) <| some (0 : Int32)) else (zb (1 : Int32) <| some (1 : Int32)))
abbrev wd_X7_isSlot (cy : Nat → ClassId) : va_W := []
set_option maxHeartbeats 4000000 in
set_option maxRecDepth 100000 in
theorem w_X7_isSlot {p : Program} {l : Launch} {e : Env} {s : State} {m : MethodId} {args : Array Value} {below : List Frame} {meth : Method} {c : Code} {Q : State → Prop} {A : Nat → Prop} {H : Heap} {locs : List Loc} {ls : Array Slot} (D : va_G) (cy : Nat → ClassId) (t : Nat → Nat) (p0 : Int32) {out : Int32} (hf : X7_isSlot p0 = some out) (hx : p.tables.exec = Jvm.exec) (hb : c.code = cX7_isSlot) (hml : c.maxLocals = 1) (hown : s.vm.findClass RX7 = some m.cls) (hts : ∀ w ∈ wsX7_isSlot, w.before args s = true) (hK : va_K D vwCl (TYS cy) s) (hE : EV t A s s.heap) (hA : ∀ q, s.heap.size ≤ q → A q) (hP : va_P D vwCl (wd_X7_isSlot cy) H) (hD : va_D A (wd_X7_isSlot cy)) (hS : va_S A s.heap H locs) (hl : lv_has ls 1 [(0, .int p0)]) (hR : ∀ (H : Heap) (locs : List Loc) (ls : Array Slot) (pc : Nat), va_P D vwCl (wd_X7_isSlot cy) H → va_D A (wd_X7_isSlot cy) → va_S A s.heap H locs → narrow .boolean (.int out) = .int out → decode cX7_isSlot pc = .ok (.ireturn, 1) → W p l e (rmm 0 0) s m args below meth c H locs 0 0 Q (F0 m pc ls [.int out])) : W p l e (rmm 0 0) s m args below meth c H locs 0 0 Q (F0 m 0 ls []) := by
  rw [X7_isSlot] at hf
  refine lv_iload_n hx hb dX7_isSlot_0 rfl (lv_at hl 0 rfl) ?_
  refine lv_if_lt (tgt := 13) hx hb dX7_isSlot_1 (by decide) (fun c1 => ?_) (fun c1 => ?_)
  · have hf := ifp c1 hf
    refine lv_iconst (v := (0 : Int32)) hx hb dX7_isSlot_13 (by decide) ?_
    obtain ⟨z14, hf⟩ := zb_s hf
    obtain rfl := Option.some.inj hf
    exact hR _ _ _ _ hP hD hS z14 dX7_isSlot_14
  · have hf := ifn c1 hf
    refine lv_iload_n hx hb dX7_isSlot_4 rfl (lv_at hl 0 rfl) ?_
    refine lv_iconst (v := (4 : Int32)) hx hb dX7_isSlot_5 (by decide) ?_
    refine lv_icmp_ge (tgt := 13) hx hb dX7_isSlot_6 (by decide) (fun c6 => ?_) (fun c6 => ?_)
    · have hf := ifp c6 hf
      refine lv_iconst (v := (0 : Int32)) hx hb dX7_isSlot_13 (by decide) ?_
      obtain ⟨z14, hf⟩ := zb_s hf
      obtain rfl := Option.some.inj hf
      exact hR _ _ _ _ hP hD hS z14 dX7_isSlot_14
    · have hf := ifn c6 hf
      refine lv_iconst (v := (1 : Int32)) hx hb dX7_isSlot_9 (by decide) ?_
      refine lv_goto (tgt := 14) hx hb dX7_isSlot_10 (by decide) ?_
      obtain ⟨z14, hf⟩ := zb_s hf
      obtain rfl := Option.some.inj hf
      exact hR _ _ _ _ hP hD hS z14 dX7_isSlot_14
theorem hd_X7_isSlot : yX7_isSlot.cls ≠ "java/lang/invoke/MethodHandle" ∧ yX7_isSlot.cls ≠ "java/lang/invoke/VarHandle" ∧ (parseMethodDescriptor yX7_isSlot.desc).map (fun d => d.parameters.length) = some 1 := by decide +kernel
set_option maxRecDepth 100000 in
theorem c_X7_isSlot (l : Launch) (D : va_G) (cy : Nat → ClassId) (t : Nat → Nat) (p0 : Int32) {out : Int32} (hf : X7_isSlot p0 = some out) : ctI l yX7_isSlot wsX7_isSlot 0 0 D cy t [.int p0] (wd_X7_isSlot cy) (wd_X7_isSlot cy) out := by
  refine ⟨rfl, ?_⟩
  intro sz
  refine Met.ofW (cc := cX7_isSlot) (maxL := 1) (ret := (some .boolean)) (by decide) rfl ?_
  intro p e s m args below meth c s₁ B hml hv
  obtain ⟨rfl, hsz, hP, hK, hD0, hE⟩ := hv
  have hts := atoms_spec (ws := wsX7_isSlot) B.pre
  have hown : s.vm.findClass RX7 = some m.cls := findClass_of_methodNamed B.named
  have hlocks := B.notSynchronized
  subst hsz
  have hD := hD0.self (sz := s.heap.size)
  have hl := lv_entry ([.int p0]) (n := 1) (Nat.le_of_ble_eq_true rfl)
  rw [lg_entry_eq]
  generalize (lg_sl ([.int p0]) ++ List.replicate (1 - (lg_sl ([.int p0])).length) Slot.unset).toArray = ls at hl ⊢
  exact w_X7_isSlot D cy t  p0 hf B.exec B.bytes hml hown hts hK hE (fun q h => Or.inr h) hP hD va_S.rf hl (fun H locs ls pc hP hD hS z hdg => W.zret B.exec B.bytes B.returns z (fun t ht hW => ⟨⟨_, (), rfl, rfl, ctB_of ht hP⟩, hS.F ht⟩) hS.2.2 hdg)

noncomputable def X7_columnOf_J17 (l0 : Int32) (l1 : Int32) : Option (Int32) :=
  if l0 < (10 : Int32) then (some (-1 : Int32)) else (if ((10 : Int32) + l1) ≤ l0 then (some (-1 : Int32)) else (some ((l0 - (10 : Int32)) + (7 : Int32))))
noncomputable def X7_columnOf (p0 : Int32) (p1 : Int32) : Option (Int32) :=
  if p0 = (6 : Int32) then (some p0) else (if p0 < (0 : Int32) then (X7_columnOf_J17   p0 p1) else (if p1 ≤ p0 then (X7_columnOf_J17   p0 p1) else (some p0)))
abbrev wd_X7_columnOf (cy : Nat → ClassId) : va_W := []
set_option maxHeartbeats 4000000 in
set_option maxRecDepth 100000 in
theorem w_X7_columnOf {p : Program} {l : Launch} {e : Env} {s : State} {m : MethodId} {args : Array Value} {below : List Frame} {meth : Method} {c : Code} {Q : State → Prop} {A : Nat → Prop} {H : Heap} {locs : List Loc} {ls : Array Slot} (D : va_G) (cy : Nat → ClassId) (t : Nat → Nat) (p0 : Int32) (p1 : Int32) {out : Int32} (hf : X7_columnOf p0 p1 = some out) (hx : p.tables.exec = Jvm.exec) (hb : c.code = cX7_columnOf) (hml : c.maxLocals = 2) (hown : s.vm.findClass RX7 = some m.cls) (hts : ∀ w ∈ wsX7_columnOf, w.before args s = true) (hK : va_K D vwCl (TYS cy) s) (hE : EV t A s s.heap) (hA : ∀ q, s.heap.size ≤ q → A q) (hP : va_P D vwCl (wd_X7_columnOf cy) H) (hD : va_D A (wd_X7_columnOf cy)) (hS : va_S A s.heap H locs) (hl : lv_has ls 2 [(0, .int p0), (1, .int p1)]) (hR : ∀ (H : Heap) (locs : List Loc) (ls : Array Slot) (pc : Nat), va_P D vwCl (wd_X7_columnOf cy) H → va_D A (wd_X7_columnOf cy) → va_S A s.heap H locs → decode cX7_columnOf pc = .ok (.ireturn, 1) → W p l e (rmm 0 0) s m args below meth c H locs 0 0 Q (F0 m pc ls [.int out])) : W p l e (rmm 0 0) s m args below meth c H locs 0 0 Q (F0 m 0 ls []) := by
  rw [X7_columnOf] at hf
  refine lv_iload_n hx hb dX7_columnOf_0 rfl (lv_at hl 0 rfl) ?_
  refine lv_bipush (v := (6 : Int32)) hx hb dX7_columnOf_1 (by decide) ?_
  refine lv_icmp_eq (tgt := 15) hx hb dX7_columnOf_3 (by decide) (fun c3 => ?_) (fun c3 => ?_)
  · have hf := ifp c3 hf
    refine lv_iload_n hx hb dX7_columnOf_15 rfl (lv_at hl 0 rfl) ?_
    obtain rfl := Option.some.inj hf
    exact hR _ _ _ _ hP hD hS dX7_columnOf_16
  · have hf := ifn c3 hf
    have h17 : ∀ (l0 : Int32) (l1 : Int32) (H : Heap) (locs : List Loc) (ls : Array Slot), X7_columnOf_J17 l0 l1 = some out → va_P D vwCl (wd_X7_columnOf cy) H → va_D A (wd_X7_columnOf cy) → va_S A s.heap H locs → lv_has ls 2 [(0, .int l0), (1, .int l1)] → W p l e (rmm 0 0) s m args below meth c H locs 0 0 Q (F0 m 17 ls []) := by
      intro l0 l1 H locs ls hf hP hD hS hl
      rw [X7_columnOf_J17] at hf
      refine lv_iload_n hx hb dX7_columnOf_17 rfl (lv_at hl 0 rfl) ?_
      refine lv_bipush (v := (10 : Int32)) hx hb dX7_columnOf_18 (by decide) ?_
      refine lv_icmp_lt (tgt := 39) hx hb dX7_columnOf_20 (by decide) (fun c20 => ?_) (fun c20 => ?_)
      · have hf := ifp c20 hf
        refine lv_iconst (v := (-1 : Int32)) hx hb dX7_columnOf_39 (by decide) ?_
        obtain rfl := Option.some.inj hf
        exact hR _ _ _ _ hP hD hS dX7_columnOf_40
      · have hf := ifn c20 hf
        refine lv_iload_n hx hb dX7_columnOf_23 rfl (lv_at hl 0 rfl) ?_
        refine lv_bipush (v := (10 : Int32)) hx hb dX7_columnOf_24 (by decide) ?_
        refine lv_iload_n hx hb dX7_columnOf_26 rfl (lv_at hl 1 rfl) ?_
        refine lv_iadd hx hb dX7_columnOf_27 ?_
        refine lv_icmp_ge (tgt := 39) hx hb dX7_columnOf_28 (by decide) (fun c28 => ?_) (fun c28 => ?_)
        · have hf := ifp c28 hf
          refine lv_iconst (v := (-1 : Int32)) hx hb dX7_columnOf_39 (by decide) ?_
          obtain rfl := Option.some.inj hf
          exact hR _ _ _ _ hP hD hS dX7_columnOf_40
        · have hf := ifn c28 hf
          refine lv_iload_n hx hb dX7_columnOf_31 rfl (lv_at hl 0 rfl) ?_
          refine lv_bipush (v := (10 : Int32)) hx hb dX7_columnOf_32 (by decide) ?_
          refine lv_isub hx hb dX7_columnOf_34 ?_
          refine lv_bipush (v := (7 : Int32)) hx hb dX7_columnOf_35 (by decide) ?_
          refine lv_iadd hx hb dX7_columnOf_37 ?_
          obtain rfl := Option.some.inj hf
          exact hR _ _ _ _ hP hD hS dX7_columnOf_38
    refine lv_iload_n hx hb dX7_columnOf_6 rfl (lv_at hl 0 rfl) ?_
    refine lv_if_lt (tgt := 17) hx hb dX7_columnOf_7 (by decide) (fun c7 => ?_) (fun c7 => ?_)
    · have hf := ifp c7 hf
      exact h17 _ _ _ _ _ hf hP hD hS (lv_sub hl [0, 1] rfl)
    · have hf := ifn c7 hf
      refine lv_iload_n hx hb dX7_columnOf_10 rfl (lv_at hl 0 rfl) ?_
      refine lv_iload_n hx hb dX7_columnOf_11 rfl (lv_at hl 1 rfl) ?_
      refine lv_icmp_ge (tgt := 17) hx hb dX7_columnOf_12 (by decide) (fun c12 => ?_) (fun c12 => ?_)
      · have hf := ifp c12 hf
        exact h17 _ _ _ _ _ hf hP hD hS (lv_sub hl [0, 1] rfl)
      · have hf := ifn c12 hf
        refine lv_iload_n hx hb dX7_columnOf_15 rfl (lv_at hl 0 rfl) ?_
        obtain rfl := Option.some.inj hf
        exact hR _ _ _ _ hP hD hS dX7_columnOf_16
theorem hd_X7_columnOf : yX7_columnOf.cls ≠ "java/lang/invoke/MethodHandle" ∧ yX7_columnOf.cls ≠ "java/lang/invoke/VarHandle" ∧ (parseMethodDescriptor yX7_columnOf.desc).map (fun d => d.parameters.length) = some 2 := by decide +kernel
set_option maxRecDepth 100000 in
theorem c_X7_columnOf (l : Launch) (D : va_G) (cy : Nat → ClassId) (t : Nat → Nat) (p0 : Int32) (p1 : Int32) {out : Int32} (hf : X7_columnOf p0 p1 = some out) : ctI l yX7_columnOf wsX7_columnOf 0 0 D cy t [.int p0, .int p1] (wd_X7_columnOf cy) (wd_X7_columnOf cy) out := by
  refine ⟨rfl, ?_⟩
  intro sz
  refine Met.ofW (cc := cX7_columnOf) (maxL := 2) (ret := (some .int)) (by decide) rfl ?_
  intro p e s m args below meth c s₁ B hml hv
  obtain ⟨rfl, hsz, hP, hK, hD0, hE⟩ := hv
  have hts := atoms_spec (ws := wsX7_columnOf) B.pre
  have hown : s.vm.findClass RX7 = some m.cls := findClass_of_methodNamed B.named
  have hlocks := B.notSynchronized
  subst hsz
  have hD := hD0.self (sz := s.heap.size)
  have hl := lv_entry ([.int p0, .int p1]) (n := 2) (Nat.le_of_ble_eq_true rfl)
  rw [lg_entry_eq]
  generalize (lg_sl ([.int p0, .int p1]) ++ List.replicate (2 - (lg_sl ([.int p0, .int p1])).length) Slot.unset).toArray = ls at hl ⊢
  exact w_X7_columnOf D cy t  p0 p1 hf B.exec B.bytes hml hown hts hK hE (fun q h => Or.inr h) hP hD va_S.rf hl (fun H locs ls pc hP hD hS hdg => W.iret B.exec B.bytes B.returns (fun t ht hW => ⟨⟨_, (), rfl, rfl, ctB_of ht hP⟩, hS.F ht⟩) hS.2.2 hdg)

noncomputable def X7_yOf (p0 : Int32) : Option (Int32) :=
  some (p0 >>> ((4 : Int32) &&& (31 : Int32)))
abbrev wd_X7_yOf (cy : Nat → ClassId) : va_W := []
set_option maxHeartbeats 4000000 in
set_option maxRecDepth 100000 in
theorem w_X7_yOf {p : Program} {l : Launch} {e : Env} {s : State} {m : MethodId} {args : Array Value} {below : List Frame} {meth : Method} {c : Code} {Q : State → Prop} {A : Nat → Prop} {H : Heap} {locs : List Loc} {ls : Array Slot} (D : va_G) (cy : Nat → ClassId) (t : Nat → Nat) (p0 : Int32) {out : Int32} (hf : X7_yOf p0 = some out) (hx : p.tables.exec = Jvm.exec) (hb : c.code = cX7_yOf) (hml : c.maxLocals = 1) (hown : s.vm.findClass RX7 = some m.cls) (hts : ∀ w ∈ wsX7_yOf, w.before args s = true) (hK : va_K D vwCl (TYS cy) s) (hE : EV t A s s.heap) (hA : ∀ q, s.heap.size ≤ q → A q) (hP : va_P D vwCl (wd_X7_yOf cy) H) (hD : va_D A (wd_X7_yOf cy)) (hS : va_S A s.heap H locs) (hl : lv_has ls 1 [(0, .int p0)]) (hR : ∀ (H : Heap) (locs : List Loc) (ls : Array Slot) (pc : Nat), va_P D vwCl (wd_X7_yOf cy) H → va_D A (wd_X7_yOf cy) → va_S A s.heap H locs → decode cX7_yOf pc = .ok (.ireturn, 1) → W p l e (rmm 0 0) s m args below meth c H locs 0 0 Q (F0 m pc ls [.int out])) : W p l e (rmm 0 0) s m args below meth c H locs 0 0 Q (F0 m 0 ls []) := by
  rw [X7_yOf] at hf
  refine lv_iload_n hx hb dX7_yOf_0 rfl (lv_at hl 0 rfl) ?_
  refine lv_iconst (v := (4 : Int32)) hx hb dX7_yOf_1 (by decide) ?_
  refine lv_ishr hx hb dX7_yOf_2 ?_
  obtain rfl := Option.some.inj hf
  exact hR _ _ _ _ hP hD hS dX7_yOf_3
theorem hd_X7_yOf : yX7_yOf.cls ≠ "java/lang/invoke/MethodHandle" ∧ yX7_yOf.cls ≠ "java/lang/invoke/VarHandle" ∧ (parseMethodDescriptor yX7_yOf.desc).map (fun d => d.parameters.length) = some 1 := by decide +kernel
set_option maxRecDepth 100000 in
theorem c_X7_yOf (l : Launch) (D : va_G) (cy : Nat → ClassId) (t : Nat → Nat) (p0 : Int32) {out : Int32} (hf : X7_yOf p0 = some out) : ctI l yX7_yOf wsX7_yOf 0 0 D cy t [.int p0] (wd_X7_yOf cy) (wd_X7_yOf cy) out := by
  refine ⟨rfl, ?_⟩
  intro sz
  refine Met.ofW (cc := cX7_yOf) (maxL := 1) (ret := (some .int)) (by decide) rfl ?_
  intro p e s m args below meth c s₁ B hml hv
  obtain ⟨rfl, hsz, hP, hK, hD0, hE⟩ := hv
  have hts := atoms_spec (ws := wsX7_yOf) B.pre
  have hown : s.vm.findClass RX7 = some m.cls := findClass_of_methodNamed B.named
  have hlocks := B.notSynchronized
  subst hsz
  have hD := hD0.self (sz := s.heap.size)
  have hl := lv_entry ([.int p0]) (n := 1) (Nat.le_of_ble_eq_true rfl)
  rw [lg_entry_eq]
  generalize (lg_sl ([.int p0]) ++ List.replicate (1 - (lg_sl ([.int p0])).length) Slot.unset).toArray = ls at hl ⊢
  exact w_X7_yOf D cy t  p0 hf B.exec B.bytes hml hown hts hK hE (fun q h => Or.inr h) hP hD va_S.rf hl (fun H locs ls pc hP hD hS hdg => W.iret B.exec B.bytes B.returns (fun t ht hW => ⟨⟨_, (), rfl, rfl, ctB_of ht hP⟩, hS.F ht⟩) hS.2.2 hdg)

noncomputable def X7_xOf (p0 : Int32) : Option (Int32) :=
  some (p0 &&& (15 : Int32))
abbrev wd_X7_xOf (cy : Nat → ClassId) : va_W := []
set_option maxHeartbeats 4000000 in
set_option maxRecDepth 100000 in
theorem w_X7_xOf {p : Program} {l : Launch} {e : Env} {s : State} {m : MethodId} {args : Array Value} {below : List Frame} {meth : Method} {c : Code} {Q : State → Prop} {A : Nat → Prop} {H : Heap} {locs : List Loc} {ls : Array Slot} (D : va_G) (cy : Nat → ClassId) (t : Nat → Nat) (p0 : Int32) {out : Int32} (hf : X7_xOf p0 = some out) (hx : p.tables.exec = Jvm.exec) (hb : c.code = cX7_xOf) (hml : c.maxLocals = 1) (hown : s.vm.findClass RX7 = some m.cls) (hts : ∀ w ∈ wsX7_xOf, w.before args s = true) (hK : va_K D vwCl (TYS cy) s) (hE : EV t A s s.heap) (hA : ∀ q, s.heap.size ≤ q → A q) (hP : va_P D vwCl (wd_X7_xOf cy) H) (hD : va_D A (wd_X7_xOf cy)) (hS : va_S A s.heap H locs) (hl : lv_has ls 1 [(0, .int p0)]) (hR : ∀ (H : Heap) (locs : List Loc) (ls : Array Slot) (pc : Nat), va_P D vwCl (wd_X7_xOf cy) H → va_D A (wd_X7_xOf cy) → va_S A s.heap H locs → decode cX7_xOf pc = .ok (.ireturn, 1) → W p l e (rmm 0 0) s m args below meth c H locs 0 0 Q (F0 m pc ls [.int out])) : W p l e (rmm 0 0) s m args below meth c H locs 0 0 Q (F0 m 0 ls []) := by
  rw [X7_xOf] at hf
  refine lv_iload_n hx hb dX7_xOf_0 rfl (lv_at hl 0 rfl) ?_
  refine lv_bipush (v := (15 : Int32)) hx hb dX7_xOf_1 (by decide) ?_
  refine lv_iand hx hb dX7_xOf_3 ?_
  obtain rfl := Option.some.inj hf
  exact hR _ _ _ _ hP hD hS dX7_xOf_4
theorem hd_X7_xOf : yX7_xOf.cls ≠ "java/lang/invoke/MethodHandle" ∧ yX7_xOf.cls ≠ "java/lang/invoke/VarHandle" ∧ (parseMethodDescriptor yX7_xOf.desc).map (fun d => d.parameters.length) = some 1 := by decide +kernel
set_option maxRecDepth 100000 in
theorem c_X7_xOf (l : Launch) (D : va_G) (cy : Nat → ClassId) (t : Nat → Nat) (p0 : Int32) {out : Int32} (hf : X7_xOf p0 = some out) : ctI l yX7_xOf wsX7_xOf 0 0 D cy t [.int p0] (wd_X7_xOf cy) (wd_X7_xOf cy) out := by
  refine ⟨rfl, ?_⟩
  intro sz
  refine Met.ofW (cc := cX7_xOf) (maxL := 1) (ret := (some .int)) (by decide) rfl ?_
  intro p e s m args below meth c s₁ B hml hv
  obtain ⟨rfl, hsz, hP, hK, hD0, hE⟩ := hv
  have hts := atoms_spec (ws := wsX7_xOf) B.pre
  have hown : s.vm.findClass RX7 = some m.cls := findClass_of_methodNamed B.named
  have hlocks := B.notSynchronized
  subst hsz
  have hD := hD0.self (sz := s.heap.size)
  have hl := lv_entry ([.int p0]) (n := 1) (Nat.le_of_ble_eq_true rfl)
  rw [lg_entry_eq]
  generalize (lg_sl ([.int p0]) ++ List.replicate (1 - (lg_sl ([.int p0])).length) Slot.unset).toArray = ls at hl ⊢
  exact w_X7_xOf D cy t  p0 hf B.exec B.bytes hml hown hts hK hE (fun q h => Or.inr h) hP hD va_S.rf hl (fun H locs ls pc hP hD hS hdg => W.iret B.exec B.bytes B.returns (fun t ht hW => ⟨⟨_, (), rfl, rfl, ctB_of ht hP⟩, hS.F ht⟩) hS.2.2 hdg)

noncomputable def X7_told (x_a1_w : Int32) (p1 : Int32) (p2 : Int32) : Option (Int32) :=
  if (7 : Int32) ≤ p2 then (some p1) else (bd (X7_yOf p1) fun r7 => bd (X7_xOf p1) fun r16 => some ((r7 * x_a1_w) + r16))
abbrev wd_X7_told (cy : Nat → ClassId) (o_a1 : Nat → Nat) (x_a1_w : Int32) (x_a1_h : Int32) (x_a1_hands : Int32) : va_W := [(o_a1 0, .inr (5, [.int x_a1_w, .int x_a1_h, .int x_a1_hands, .ref (o_a1 4), .ref (o_a1 5), .ref (o_a1 6), .ref (o_a1 7)]))]
set_option maxHeartbeats 4000000 in
set_option maxRecDepth 100000 in
theorem w_X7_told {p : Program} {l : Launch} {e : Env} {s : State} {m : MethodId} {args : Array Value} {below : List Frame} {meth : Method} {c : Code} {Q : State → Prop} {A : Nat → Prop} {H : Heap} {locs : List Loc} {ls : Array Slot} (D : va_G) (cy : Nat → ClassId) (t : Nat → Nat) (o_a1 : Nat → Nat) (x_a1_w : Int32) (x_a1_h : Int32) (x_a1_hands : Int32) (p1 : Int32) (p2 : Int32) {out : Int32} (hf : X7_told x_a1_w p1 p2 = some out) (hx : p.tables.exec = Jvm.exec) (hb : c.code = cX7_told) (hml : c.maxLocals = 3) (hown : s.vm.findClass RX7 = some m.cls) (hts : ∀ w ∈ wsX7_told, w.before args s = true) (hK : va_K D vwCl (TYS cy) s) (hE : EV t A s s.heap) (hA : ∀ q, s.heap.size ≤ q → A q) (hP : va_P D vwCl (wd_X7_told cy o_a1 x_a1_w x_a1_h x_a1_hands) H) (hD : va_D A (wd_X7_told cy o_a1 x_a1_w x_a1_h x_a1_hands)) (hS : va_S A s.heap H locs) (hl : lv_has ls 3 [(0, .ref (o_a1 0)), (1, .int p1), (2, .int p2)]) (hR : ∀ (H : Heap) (locs : List Loc) (ls : Array Slot) (pc : Nat), va_P D vwCl (wd_X7_told cy o_a1 x_a1_w x_a1_h x_a1_hands) H → va_D A (wd_X7_told cy o_a1 x_a1_w x_a1_h x_a1_hands) → va_S A s.heap H locs → decode cX7_told pc = .ok (.ireturn, 1) → W p l e (rmm 1 20) s m args below meth c H locs 0 0 Q (F0 m pc ls [.int out])) : W p l e (rmm 1 20) s m args below meth c H locs 0 0 Q (F0 m 0 ls []) := by
  have k0 := hts (.fieldLink RX7 209 "SeaGames$Play" "w" "I") (List.mem_cons_of_mem _ (List.mem_append_left _ (List.mem_of_getElem? (i := 0) rfl)))
  have k1 : ∀ w ∈ u_ws RX5 TX5 7, w ∈ wsX7_told := fun _ h => List.mem_cons_of_mem _ (List.mem_append_right _ h)
  rw [X7_told] at hf
  refine lv_iload_n hx hb dX7_told_0 rfl (lv_at hl 2 rfl) ?_
  refine lv_bipush (v := (7 : Int32)) hx hb dX7_told_1 (by decide) ?_
  refine lv_icmp_ge (tgt := 23) hx hb dX7_told_3 (by decide) (fun c3 => ?_) (fun c3 => ?_)
  · have hf := ifp c3 hf
    refine lv_iload_n hx hb dX7_told_23 rfl (lv_at hl 1 rfl) ?_
    obtain rfl := Option.some.inj hf
    exact hR _ _ _ _ hP hD hS dX7_told_24
  · have hf := ifn c3 hf
    refine lv_iload_n hx hb dX7_told_6 rfl (lv_at hl 1 rfl) ?_
    obtain ⟨r7, hr7, hf⟩ := bd_s hf
    refine my_Si (WS2 := (wd_X7_told cy o_a1 x_a1_w x_a1_h x_a1_hands)) ⟨hx, hb, hml, hown, hts⟩ (c_X7_yOf l D cy t p1 hr7) (va_cwS 1 hts gX7_told_X7_yOf rfl rfl rfl hd_X7_yOf ⟨Nat.le_of_ble_eq_true rfl, Nat.le_of_ble_eq_true rfl⟩) hK hE hP hD hS hA [] 1 rfl rfl (by decide +kernel) rfl rfl hl.1 rfl (Nat.le_of_ble_eq_true rfl) dX7_told_7 ⟨Nat.le_of_ble_eq_true rfl, Nat.le_of_ble_eq_true rfl⟩ (fun H locs hP hD hS => ?_)
    refine lv_aload_n hx hb dX7_told_10 rfl (lv_at hl 0 rfl) ?_
    refine va_get (D := D) (ci := 5) (v := .int x_a1_w) (C := RX5) (T := TX5) (N := 7) hx hb hts k1 hown hK hP 0 rfl rfl 0 (by decide) k0 (fun _ h9 => h9) rfl dX7_told_11 ?_
    refine lv_imul hx hb dX7_told_14 ?_
    refine lv_iload_n hx hb dX7_told_15 rfl (lv_at hl 1 rfl) ?_
    obtain ⟨r16, hr16, hf⟩ := bd_s hf
    refine my_Si (WS2 := (wd_X7_told cy o_a1 x_a1_w x_a1_h x_a1_hands)) ⟨hx, hb, hml, hown, hts⟩ (c_X7_xOf l D cy t p1 hr16) (va_cwS 1 hts gX7_told_X7_xOf rfl rfl rfl hd_X7_xOf ⟨Nat.le_of_ble_eq_true rfl, Nat.le_of_ble_eq_true rfl⟩) hK hE hP hD hS hA [] 1 rfl rfl (by decide +kernel) rfl rfl hl.1 rfl (Nat.le_of_ble_eq_true rfl) dX7_told_16 ⟨Nat.le_of_ble_eq_true rfl, Nat.le_of_ble_eq_true rfl⟩ (fun H locs hP hD hS => ?_)
    refine lv_iadd hx hb dX7_told_19 ?_
    refine lv_goto (tgt := 24) hx hb dX7_told_20 (by decide) ?_
    obtain rfl := Option.some.inj hf
    exact hR _ _ _ _ hP hD hS dX7_told_24
theorem hd_X7_told : yX7_told.cls ≠ "java/lang/invoke/MethodHandle" ∧ yX7_told.cls ≠ "java/lang/invoke/VarHandle" ∧ (parseMethodDescriptor yX7_told.desc).map (fun d => d.parameters.length) = some 3 := by decide +kernel
set_option maxRecDepth 100000 in
theorem c_X7_told (l : Launch) (D : va_G) (cy : Nat → ClassId) (t : Nat → Nat) (o_a1 : Nat → Nat) (x_a1_w : Int32) (x_a1_h : Int32) (x_a1_hands : Int32) (p1 : Int32) (p2 : Int32) {out : Int32} (hf : X7_told x_a1_w p1 p2 = some out) : ctI l yX7_told wsX7_told 1 20 D cy t [.ref (o_a1 0), .int p1, .int p2] (wd_X7_told cy o_a1 x_a1_w x_a1_h x_a1_hands) (wd_X7_told cy o_a1 x_a1_w x_a1_h x_a1_hands) out := by
  refine ⟨rfl, ?_⟩
  intro sz
  refine Met.ofW (cc := cX7_told) (maxL := 3) (ret := (some .int)) (by decide) rfl ?_
  intro p e s m args below meth c s₁ B hml hv
  obtain ⟨rfl, hsz, hP, hK, hD0, hE⟩ := hv
  have hts := atoms_spec (ws := wsX7_told) B.pre
  have hown : s.vm.findClass RX7 = some m.cls := findClass_of_methodNamed B.named
  have hlocks := B.notSynchronized
  subst hsz
  have hD := hD0.self (sz := s.heap.size)
  have hl := lv_entry ([.ref (o_a1 0), .int p1, .int p2]) (n := 3) (Nat.le_of_ble_eq_true rfl)
  rw [lg_entry_eq]
  generalize (lg_sl ([.ref (o_a1 0), .int p1, .int p2]) ++ List.replicate (3 - (lg_sl ([.ref (o_a1 0), .int p1, .int p2])).length) Slot.unset).toArray = ls at hl ⊢
  exact w_X7_told D cy t o_a1 x_a1_w x_a1_h x_a1_hands p1 p2 hf B.exec B.bytes hml hown hts hK hE (fun q h => Or.inr h) hP hD va_S.rf hl (fun H locs ls pc hP hD hS hdg => W.iret B.exec B.bytes B.returns (fun t ht hW => ⟨⟨_, (), rfl, rfl, ctB_of ht hP⟩, hS.F ht⟩) hS.2.2 hdg)

noncomputable def X7_spotOf_J32 (l2 : Int32) (l3 : Int32) : Option (Int32) :=
  some (((16 : Int32) * l3) + l2)
noncomputable def X7_spotOf_L7_B (rec7 : Int32 → Int32 → Int32 → Int32 → Option (Int32)) (l1 : Int32) (l2 : Int32) (l3 : Int32) (l4 : Int32) : Option (Int32) :=
  if (9 : Int32) ≤ l4 then (X7_spotOf_J32   l2 l3) else (if l2 < l1 then (X7_spotOf_J32   l2 l3) else (nm (l2 - l1) fun v22 => nm (l3 + (1 : Int32)) fun v23 => nm (l4 + (1 : Int32)) fun v26 => rec7  l1 v22 v23 v26))
noncomputable def X7_spotOf_L7 : Nat → Int32 → Int32 → Int32 → Int32 → Option (Int32)
  | 0, _, _, _, _ => none
  | n + 1, y0, y1, y2, y3 => X7_spotOf_L7_B  (X7_spotOf_L7  n) y0 y1 y2 y3
noncomputable def X7_spotOf (p0 : Int32) (p1 : Int32) : Option (Int32) :=
  X7_spotOf_L7  FU  p1 p0 (0 : Int32) (0 : Int32)
abbrev wd_X7_spotOf (cy : Nat → ClassId) : va_W := []
set_option maxHeartbeats 4000000 in
set_option maxRecDepth 100000 in
theorem w_X7_spotOf {p : Program} {l : Launch} {e : Env} {s : State} {m : MethodId} {args : Array Value} {below : List Frame} {meth : Method} {c : Code} {Q : State → Prop} {A : Nat → Prop} {H : Heap} {locs : List Loc} {ls : Array Slot} (D : va_G) (cy : Nat → ClassId) (t : Nat → Nat) (p0 : Int32) (p1 : Int32) {out : Int32} (hf : X7_spotOf p0 p1 = some out) (hx : p.tables.exec = Jvm.exec) (hb : c.code = cX7_spotOf) (hml : c.maxLocals = 5) (hown : s.vm.findClass RX7 = some m.cls) (hts : ∀ w ∈ wsX7_spotOf, w.before args s = true) (hK : va_K D vwCl (TYS cy) s) (hE : EV t A s s.heap) (hA : ∀ q, s.heap.size ≤ q → A q) (hP : va_P D vwCl (wd_X7_spotOf cy) H) (hD : va_D A (wd_X7_spotOf cy)) (hS : va_S A s.heap H locs) (hl : lv_has ls 5 [(0, .int p0), (1, .int p1)]) (hR : ∀ (H : Heap) (locs : List Loc) (ls : Array Slot) (pc : Nat), va_P D vwCl (wd_X7_spotOf cy) H → va_D A (wd_X7_spotOf cy) → va_S A s.heap H locs → decode cX7_spotOf pc = .ok (.ireturn, 1) → W p l e (rmm 0 0) s m args below meth c H locs 0 0 Q (F0 m pc ls [.int out])) : W p l e (rmm 0 0) s m args below meth c H locs 0 0 Q (F0 m 0 ls []) := by
  rw [X7_spotOf] at hf
  have h7 : ∀ (n7 : Nat) (l1 : Int32) (l2 : Int32) (l3 : Int32) (l4 : Int32) (H : Heap) (locs : List Loc) (ls : Array Slot), X7_spotOf_L7 n7 l1 l2 l3 l4 = some out → va_P D vwCl (wd_X7_spotOf cy) H → va_D A (wd_X7_spotOf cy) → va_S A s.heap H locs → lv_has ls 5 [(1, .int l1), (2, .int l2), (3, .int l3), (4, .int l4)] → W p l e (rmm 0 0) s m args below meth c H locs 0 0 Q (F0 m 7 ls []) := by
    intro n7
    induction n7 with
    | zero =>
      intro _ _ _ _ _ _ _ hf
      exact nomatch (show (none : Option _) = some out from hf)
    | succ n7 ih7 =>
      intro l1 l2 l3 l4 H locs ls hf hP hD hS hl
      have hf : X7_spotOf_L7_B (X7_spotOf_L7 n7) l1 l2 l3 l4 = some out := hf
      rw [X7_spotOf_L7_B] at hf
      have h32 : ∀ (l2 : Int32) (l3 : Int32) (H : Heap) (locs : List Loc) (ls : Array Slot), X7_spotOf_J32 l2 l3 = some out → va_P D vwCl (wd_X7_spotOf cy) H → va_D A (wd_X7_spotOf cy) → va_S A s.heap H locs → lv_has ls 5 [(2, .int l2), (3, .int l3)] → W p l e (rmm 0 0) s m args below meth c H locs 0 0 Q (F0 m 32 ls []) := by
        intro l2 l3 H locs ls hf hP hD hS hl
        rw [X7_spotOf_J32] at hf
        refine lv_bipush (v := (16 : Int32)) hx hb dX7_spotOf_32 (by decide) ?_
        refine lv_iload_n hx hb dX7_spotOf_34 rfl (lv_at hl 1 rfl) ?_
        refine lv_imul hx hb dX7_spotOf_35 ?_
        refine lv_iload_n hx hb dX7_spotOf_36 rfl (lv_at hl 0 rfl) ?_
        refine lv_iadd hx hb dX7_spotOf_37 ?_
        obtain rfl := Option.some.inj hf
        exact hR _ _ _ _ hP hD hS dX7_spotOf_38
      refine lv_iload hx hb dX7_spotOf_7 (lv_at hl 3 rfl) ?_
      refine lv_bipush (v := (9 : Int32)) hx hb dX7_spotOf_9 (by decide) ?_
      refine lv_icmp_ge (tgt := 32) hx hb dX7_spotOf_11 (by decide) (fun c11 => ?_) (fun c11 => ?_)
      · have hf := ifp c11 hf
        exact h32 _ _ _ _ _ hf hP hD hS (lv_sub hl [1, 2] rfl)
      · have hf := ifn c11 hf
        refine lv_iload_n hx hb dX7_spotOf_14 rfl (lv_at hl 1 rfl) ?_
        refine lv_iload_n hx hb dX7_spotOf_15 rfl (lv_at hl 0 rfl) ?_
        refine lv_icmp_lt (tgt := 32) hx hb dX7_spotOf_16 (by decide) (fun c16 => ?_) (fun c16 => ?_)
        · have hf := ifp c16 hf
          exact h32 _ _ _ _ _ hf hP hD hS (lv_sub hl [1, 2] rfl)
        · have hf := ifn c16 hf
          refine lv_iload_n hx hb dX7_spotOf_19 rfl (lv_at hl 1 rfl) ?_
          refine lv_iload_n hx hb dX7_spotOf_20 rfl (lv_at hl 0 rfl) ?_
          refine lv_isub hx hb dX7_spotOf_21 ?_
          obtain ⟨v22, ev22, hf⟩ := nm_s hf
          refine my_topi ev22 ?_
          refine lv_istore_n (lv' := [(2, .int v22), (1, .int l1), (3, .int l3), (4, .int l4)]) hx hb dX7_spotOf_22 rfl hl (by decide) rfl (fun ls hl => ?_)
          obtain ⟨v23, ev23, hf⟩ := nm_s hf
          refine lv_iinc (v := v23) (lv' := [(3, .int v23), (2, .int v22), (1, .int l1), (4, .int l4)]) hx hb dX7_spotOf_23 hl (k := 2) rfl (by rw [ev23]; rfl) (by decide) rfl (fun ls hl => ?_)
          obtain ⟨v26, ev26, hf⟩ := nm_s hf
          refine lv_iinc (v := v26) (lv' := [(4, .int v26), (3, .int v23), (2, .int v22), (1, .int l1)]) hx hb dX7_spotOf_26 hl (k := 3) rfl (by rw [ev26]; rfl) (by decide) rfl (fun ls hl => ?_)
          refine lv_goto (tgt := 7) hx hb dX7_spotOf_29 (by decide) ?_
          exact ih7 _ _ _ _ _ _ _ hf hP hD hS (lv_sub hl [3, 2, 1, 0] rfl)
  refine lv_iload_n hx hb dX7_spotOf_0 rfl (lv_at hl 0 rfl) ?_
  refine lv_istore_n (lv' := [(2, .int p0), (0, .int p0), (1, .int p1)]) hx hb dX7_spotOf_1 rfl hl (by decide) rfl (fun ls hl => ?_)
  refine lv_iconst (v := (0 : Int32)) hx hb dX7_spotOf_2 (by decide) ?_
  refine lv_istore_n (lv' := [(3, .int (0 : Int32)), (2, .int p0), (0, .int p0), (1, .int p1)]) hx hb dX7_spotOf_3 rfl hl (by decide) rfl (fun ls hl => ?_)
  refine lv_iconst (v := (0 : Int32)) hx hb dX7_spotOf_4 (by decide) ?_
  refine lv_istore (lv' := [(4, .int (0 : Int32)), (3, .int (0 : Int32)), (2, .int p0), (0, .int p0), (1, .int p1)]) hx hb dX7_spotOf_5 hl (by decide) rfl (fun ls hl => ?_)
  exact h7 FU _ _ _ _ _ _ _ hf hP hD hS (lv_sub hl [4, 2, 1, 0] rfl)
theorem hd_X7_spotOf : yX7_spotOf.cls ≠ "java/lang/invoke/MethodHandle" ∧ yX7_spotOf.cls ≠ "java/lang/invoke/VarHandle" ∧ (parseMethodDescriptor yX7_spotOf.desc).map (fun d => d.parameters.length) = some 2 := by decide +kernel
set_option maxRecDepth 100000 in
theorem c_X7_spotOf (l : Launch) (D : va_G) (cy : Nat → ClassId) (t : Nat → Nat) (p0 : Int32) (p1 : Int32) {out : Int32} (hf : X7_spotOf p0 p1 = some out) : ctI l yX7_spotOf wsX7_spotOf 0 0 D cy t [.int p0, .int p1] (wd_X7_spotOf cy) (wd_X7_spotOf cy) out := by
  refine ⟨rfl, ?_⟩
  intro sz
  refine Met.ofW (cc := cX7_spotOf) (maxL := 5) (ret := (some .int)) (by decide) rfl ?_
  intro p e s m args below meth c s₁ B hml hv
  obtain ⟨rfl, hsz, hP, hK, hD0, hE⟩ := hv
  have hts := atoms_spec (ws := wsX7_spotOf) B.pre
  have hown : s.vm.findClass RX7 = some m.cls := findClass_of_methodNamed B.named
  have hlocks := B.notSynchronized
  subst hsz
  have hD := hD0.self (sz := s.heap.size)
  have hl := lv_entry ([.int p0, .int p1]) (n := 5) (Nat.le_of_ble_eq_true rfl)
  rw [lg_entry_eq]
  generalize (lg_sl ([.int p0, .int p1]) ++ List.replicate (5 - (lg_sl ([.int p0, .int p1])).length) Slot.unset).toArray = ls at hl ⊢
  exact w_X7_spotOf D cy t  p0 p1 hf B.exec B.bytes hml hown hts hK hE (fun q h => Or.inr h) hP hD va_S.rf hl (fun H locs ls pc hP hD hS hdg => W.iret B.exec B.bytes B.returns (fun t ht hW => ⟨⟨_, (), rfl, rfl, ctB_of ht hP⟩, hS.F ht⟩) hS.2.2 hdg)

noncomputable def X7_distance (p0 : Int32) (p1 : Int32) : Option (Int32) :=
  bd (X7_xOf p0) fun r1 => bd (X7_xOf p1) fun r5 => bd (X7_yOf p0) fun r13 => bd (X7_yOf p1) fun r17 => some ((if (0 : Int32) ≤ (r1 - r5) then (r1 - r5) else (0 : Int32) - (r1 - r5)) + (if (0 : Int32) ≤ (r13 - r17) then (r13 - r17) else (0 : Int32) - (r13 - r17)))
abbrev wd_X7_distance (cy : Nat → ClassId) : va_W := []
set_option maxHeartbeats 4000000 in
set_option maxRecDepth 100000 in
theorem w_X7_distance {p : Program} {l : Launch} {e : Env} {s : State} {m : MethodId} {args : Array Value} {below : List Frame} {meth : Method} {c : Code} {Q : State → Prop} {A : Nat → Prop} {H : Heap} {locs : List Loc} {ls : Array Slot} (D : va_G) (cy : Nat → ClassId) (t : Nat → Nat) (p0 : Int32) (p1 : Int32) {out : Int32} (hf : X7_distance p0 p1 = some out) (hx : p.tables.exec = Jvm.exec) (hb : c.code = cX7_distance) (hml : c.maxLocals = 2) (hown : s.vm.findClass RX7 = some m.cls) (hts : ∀ w ∈ wsX7_distance, w.before args s = true) (hK : va_K D vwCl (TYS cy) s) (hE : EV t A s s.heap) (hA : ∀ q, s.heap.size ≤ q → A q) (hP : va_P D vwCl (wd_X7_distance cy) H) (hD : va_D A (wd_X7_distance cy)) (hS : va_S A s.heap H locs) (hl : lv_has ls 2 [(0, .int p0), (1, .int p1)]) (hR : ∀ (H : Heap) (locs : List Loc) (ls : Array Slot) (pc : Nat), va_P D vwCl (wd_X7_distance cy) H → va_D A (wd_X7_distance cy) → va_S A s.heap H locs → decode cX7_distance pc = .ok (.ireturn, 1) → W p l e (rmm 1 21) s m args below meth c H locs 0 0 Q (F0 m pc ls [.int out])) : W p l e (rmm 1 21) s m args below meth c H locs 0 0 Q (F0 m 0 ls []) := by
  have k0 := hts (.methodLink RX7 299 Lib.Math.abs.name) (List.mem_cons_of_mem _ (List.mem_of_getElem? (i := 0) rfl))
  have k1 := hts (.static Lib.Math.abs.name) (List.mem_cons_of_mem _ (List.mem_of_getElem? (i := 1) rfl))
  have k2 := hts (.initialized "java/lang/Math") (List.mem_cons_of_mem _ (List.mem_of_getElem? (i := 2) rfl))
  have k3 := hts (.code Lib.Math.abs.name Lib.Math.abs.code 1 (some .int)) (List.mem_cons_of_mem _ (List.mem_of_getElem? (i := 3) rfl))
  rw [X7_distance] at hf
  refine lv_iload_n hx hb dX7_distance_0 rfl (lv_at hl 0 rfl) ?_
  obtain ⟨r1, hr1, hf⟩ := bd_s hf
  refine my_Si (WS2 := (wd_X7_distance cy)) ⟨hx, hb, hml, hown, hts⟩ (c_X7_xOf l D cy t p0 hr1) (va_cwS 1 hts gX7_distance_X7_xOf rfl rfl rfl hd_X7_xOf ⟨Nat.le_of_ble_eq_true rfl, Nat.le_of_ble_eq_true rfl⟩) hK hE hP hD hS hA [] 0 rfl rfl (by decide +kernel) rfl rfl hl.1 rfl (Nat.le_of_ble_eq_true rfl) dX7_distance_1 ⟨Nat.le_of_ble_eq_true rfl, Nat.le_of_ble_eq_true rfl⟩ (fun H locs hP hD hS => ?_)
  refine lv_iload_n hx hb dX7_distance_4 rfl (lv_at hl 1 rfl) ?_
  obtain ⟨r5, hr5, hf⟩ := bd_s hf
  refine my_Si (WS2 := (wd_X7_distance cy)) ⟨hx, hb, hml, hown, hts⟩ (c_X7_xOf l D cy t p1 hr5) (va_cwS 1 hts gX7_distance_X7_xOf rfl rfl rfl hd_X7_xOf ⟨Nat.le_of_ble_eq_true rfl, Nat.le_of_ble_eq_true rfl⟩) hK hE hP hD hS hA [] 0 rfl rfl (by decide +kernel) rfl rfl hl.1 rfl (Nat.le_of_ble_eq_true rfl) dX7_distance_5 ⟨Nat.le_of_ble_eq_true rfl, Nat.le_of_ble_eq_true rfl⟩ (fun H locs hP hD hS => ?_)
  refine lv_isub hx hb dX7_distance_8 ?_
  refine va_mabs hx hb (hml.trans hl.1.symm) hown k0 k1 k2 k3 (Nat.le_of_ble_eq_true rfl) (Nat.le_of_ble_eq_true rfl) (Nat.le_of_ble_eq_true rfl) (Nat.le_of_ble_eq_true rfl) dX7_distance_9 ?_
  refine lv_iload_n hx hb dX7_distance_12 rfl (lv_at hl 0 rfl) ?_
  obtain ⟨r13, hr13, hf⟩ := bd_s hf
  refine my_Si (WS2 := (wd_X7_distance cy)) ⟨hx, hb, hml, hown, hts⟩ (c_X7_yOf l D cy t p0 hr13) (va_cwS 1 hts gX7_distance_X7_yOf rfl rfl rfl hd_X7_yOf ⟨Nat.le_of_ble_eq_true rfl, Nat.le_of_ble_eq_true rfl⟩) hK hE hP hD hS hA [] 0 rfl rfl (by decide +kernel) rfl rfl hl.1 rfl (Nat.le_of_ble_eq_true rfl) dX7_distance_13 ⟨Nat.le_of_ble_eq_true rfl, Nat.le_of_ble_eq_true rfl⟩ (fun H locs hP hD hS => ?_)
  refine lv_iload_n hx hb dX7_distance_16 rfl (lv_at hl 1 rfl) ?_
  obtain ⟨r17, hr17, hf⟩ := bd_s hf
  refine my_Si (WS2 := (wd_X7_distance cy)) ⟨hx, hb, hml, hown, hts⟩ (c_X7_yOf l D cy t p1 hr17) (va_cwS 1 hts gX7_distance_X7_yOf rfl rfl rfl hd_X7_yOf ⟨Nat.le_of_ble_eq_true rfl, Nat.le_of_ble_eq_true rfl⟩) hK hE hP hD hS hA [] 0 rfl rfl (by decide +kernel) rfl rfl hl.1 rfl (Nat.le_of_ble_eq_true rfl) dX7_distance_17 ⟨Nat.le_of_ble_eq_true rfl, Nat.le_of_ble_eq_true rfl⟩ (fun H locs hP hD hS => ?_)
  refine lv_isub hx hb dX7_distance_20 ?_
  refine va_mabs hx hb (hml.trans hl.1.symm) hown k0 k1 k2 k3 (Nat.le_of_ble_eq_true rfl) (Nat.le_of_ble_eq_true rfl) (Nat.le_of_ble_eq_true rfl) (Nat.le_of_ble_eq_true rfl) dX7_distance_21 ?_
  refine lv_iadd hx hb dX7_distance_24 ?_
  obtain rfl := Option.some.inj hf
  exact hR _ _ _ _ hP hD hS dX7_distance_25
theorem hd_X7_distance : yX7_distance.cls ≠ "java/lang/invoke/MethodHandle" ∧ yX7_distance.cls ≠ "java/lang/invoke/VarHandle" ∧ (parseMethodDescriptor yX7_distance.desc).map (fun d => d.parameters.length) = some 2 := by decide +kernel
set_option maxRecDepth 100000 in
theorem c_X7_distance (l : Launch) (D : va_G) (cy : Nat → ClassId) (t : Nat → Nat) (p0 : Int32) (p1 : Int32) {out : Int32} (hf : X7_distance p0 p1 = some out) : ctI l yX7_distance wsX7_distance 1 21 D cy t [.int p0, .int p1] (wd_X7_distance cy) (wd_X7_distance cy) out := by
  refine ⟨rfl, ?_⟩
  intro sz
  refine Met.ofW (cc := cX7_distance) (maxL := 2) (ret := (some .int)) (by decide) rfl ?_
  intro p e s m args below meth c s₁ B hml hv
  obtain ⟨rfl, hsz, hP, hK, hD0, hE⟩ := hv
  have hts := atoms_spec (ws := wsX7_distance) B.pre
  have hown : s.vm.findClass RX7 = some m.cls := findClass_of_methodNamed B.named
  have hlocks := B.notSynchronized
  subst hsz
  have hD := hD0.self (sz := s.heap.size)
  have hl := lv_entry ([.int p0, .int p1]) (n := 2) (Nat.le_of_ble_eq_true rfl)
  rw [lg_entry_eq]
  generalize (lg_sl ([.int p0, .int p1]) ++ List.replicate (2 - (lg_sl ([.int p0, .int p1])).length) Slot.unset).toArray = ls at hl ⊢
  exact w_X7_distance D cy t  p0 p1 hf B.exec B.bytes hml hown hts hK hE (fun q h => Or.inr h) hP hD va_S.rf hl (fun H locs ls pc hP hD hS hdg => W.iret B.exec B.bytes B.returns (fun t ht hW => ⟨⟨_, (), rfl, rfl, ctB_of ht hP⟩, hS.F ht⟩) hS.2.2 hdg)

noncomputable def J7_fill_53178_L5_B (n_a1 : Nat) (rec5 : (Nat → Int32) → Int32 → Int32 → Int32 → Option ((Nat → Int32))) (x_a1 : Nat → Int32) (l1 : Int32) (l2 : Int32) (l3 : Int32) : Option ((Nat → Int32)) :=
  if l3 ≤ l2 then (some x_a1) else (wrI x_a1 n_a1 l2 l1 fun w13 => nm (l2 + (1 : Int32)) fun v14 => rec5 w13 l1 v14 l3)
noncomputable def J7_fill_53178_L5 (n_a1 : Nat) : Nat → (Nat → Int32) → Int32 → Int32 → Int32 → Option ((Nat → Int32))
  | 0, _, _, _, _ => none
  | n + 1, y0, y1, y2, y3 => J7_fill_53178_L5_B n_a1  (J7_fill_53178_L5 n_a1  n) y0 y1 y2 y3
noncomputable def J7_fill_53178 (n_a1 : Nat) (x_a1 : Nat → Int32) (p1 : Int32) : Option ((Nat → Int32)) :=
  nm (Int32.ofNat n_a1) fun v4 => J7_fill_53178_L5 n_a1  FU x_a1 p1 (0 : Int32) v4
abbrev wd_J7_fill_53178 (cy : Nat → ClassId) (r_a1 n_a1 : Nat) (x_a1 : Nat → Int32) : va_W := [(r_a1, .inl (cy 0, n_a1, .inl x_a1))]
set_option maxHeartbeats 4000000 in
set_option maxRecDepth 100000 in
theorem w_J7_fill_53178 {p : Program} {l : Launch} {e : Env} {s : State} {m : MethodId} {args : Array Value} {below : List Frame} {meth : Method} {c : Code} {Q : State → Prop} {A : Nat → Prop} {H : Heap} {locs : List Loc} {ls : Array Slot} (D : va_G) (cy : Nat → ClassId) (t : Nat → Nat) (r_a1 n_a1 : Nat) (x_a1 : Nat → Int32) (p1 : Int32) {out : (Nat → Int32)} (hf : J7_fill_53178 n_a1 x_a1 p1 = some out) (hx : p.tables.exec = Jvm.exec) (hb : c.code = cJ7_fill_53178) (hml : c.maxLocals = 4) (hown : s.vm.findClass RJ7 = some m.cls) (hts : ∀ w ∈ wsJ7_fill_53178, w.before args s = true) (hK : va_K D vwCl (TYS cy) s) (hE : EV t A s s.heap) (hA : ∀ q, s.heap.size ≤ q → A q) (hP : va_P D vwCl (wd_J7_fill_53178 cy r_a1 n_a1 x_a1) H) (hD : va_D A (wd_J7_fill_53178 cy r_a1 n_a1 x_a1)) (hS : va_S A s.heap H locs) (hl : lv_has ls 4 [(0, .ref r_a1), (1, .int p1)]) (hR : ∀ (H : Heap) (locs : List Loc) (ls : Array Slot) (pc : Nat), va_P D vwCl (wd_J7_fill_53178 cy r_a1 n_a1 out) H → va_D A (wd_J7_fill_53178 cy r_a1 n_a1 out) → va_S A s.heap H locs → decode cJ7_fill_53178 pc = .ok (.return_, 1) → W p l e (rmm 0 0) s m args below meth c H locs 0 0 Q (F0 m pc ls [])) : W p l e (rmm 0 0) s m args below meth c H locs 0 0 Q (F0 m 0 ls []) := by
  rw [J7_fill_53178] at hf
  have h5 : ∀ (n5 : Nat) (x_a1 : Nat → Int32) (l1 : Int32) (l2 : Int32) (l3 : Int32) (H : Heap) (locs : List Loc) (ls : Array Slot), J7_fill_53178_L5 n_a1 n5 x_a1 l1 l2 l3 = some out → va_P D vwCl (wd_J7_fill_53178 cy r_a1 n_a1 x_a1) H → va_D A (wd_J7_fill_53178 cy r_a1 n_a1 x_a1) → va_S A s.heap H locs → lv_has ls 4 [(0, .ref r_a1), (1, .int l1), (2, .int l2), (3, .int l3)] → W p l e (rmm 0 0) s m args below meth c H locs 0 0 Q (F0 m 5 ls []) := by
    intro n5
    induction n5 with
    | zero =>
      intro _ _ _ _ _ _ _ hf
      exact nomatch (show (none : Option _) = some out from hf)
    | succ n5 ih5 =>
      intro x_a1 l1 l2 l3 H locs ls hf hP hD hS hl
      have hf : J7_fill_53178_L5_B n_a1 (J7_fill_53178_L5 n_a1 n5) x_a1 l1 l2 l3 = some out := hf
      rw [J7_fill_53178_L5_B] at hf
      refine lv_iload_n hx hb dJ7_fill_53178_5 rfl (lv_at hl 2 rfl) ?_
      refine lv_iload_n hx hb dJ7_fill_53178_6 rfl (lv_at hl 3 rfl) ?_
      refine lv_icmp_ge (tgt := 20) hx hb dJ7_fill_53178_7 (by decide) (fun c7 => ?_) (fun c7 => ?_)
      · have hf := ifp c7 hf
        obtain rfl := Option.some.inj hf
        exact hR _ _ _ _ hP hD hS dJ7_fill_53178_20
      · have hf := ifn c7 hf
        refine lv_aload_n hx hb dJ7_fill_53178_10 rfl (lv_at hl 0 rfl) ?_
        refine lv_iload_n hx hb dJ7_fill_53178_11 rfl (lv_at hl 2 rfl) ?_
        refine lv_iload_n hx hb dJ7_fill_53178_12 rfl (lv_at hl 1 rfl) ?_
        obtain ⟨w13, b13, ew13, hf⟩ := wrI_s hf
        refine my_iast (ws2 := (wd_J7_fill_53178 cy r_a1 n_a1 w13)) hx hb hK hP hD hS 0 rfl b13 ew13 rfl dJ7_fill_53178_13 (fun H locs hP hD hS => ?_)
        obtain ⟨v14, ev14, hf⟩ := nm_s hf
        refine lv_iinc (v := v14) (lv' := [(2, .int v14), (0, .ref r_a1), (1, .int l1), (3, .int l3)]) hx hb dJ7_fill_53178_14 hl (k := 2) rfl (by rw [ev14]; rfl) (by decide) rfl (fun ls hl => ?_)
        refine lv_goto (tgt := 5) hx hb dJ7_fill_53178_17 (by decide) ?_
        exact ih5 _ _ _ _ _ _ _ hf hP hD hS (lv_sub hl [1, 2, 0, 3] rfl)
  refine lv_iconst (v := (0 : Int32)) hx hb dJ7_fill_53178_0 (by decide) ?_
  refine lv_istore_n (lv' := [(2, .int (0 : Int32)), (0, .ref r_a1), (1, .int p1)]) hx hb dJ7_fill_53178_1 rfl hl (by decide) rfl (fun ls hl => ?_)
  refine lv_aload_n hx hb dJ7_fill_53178_2 rfl (lv_at hl 1 rfl) ?_
  refine va_alen hx hb hK hP 0 0 rfl rfl (v := (Int32.ofNat n_a1)) rfl dJ7_fill_53178_3 ?_
  obtain ⟨v4, ev4, hf⟩ := nm_s hf
  refine my_topi ev4 ?_
  refine lv_istore_n (lv' := [(3, .int v4), (2, .int (0 : Int32)), (0, .ref r_a1), (1, .int p1)]) hx hb dJ7_fill_53178_4 rfl hl (by decide) rfl (fun ls hl => ?_)
  exact h5 FU _ _ _ _ _ _ _ hf hP hD hS (lv_sub hl [2, 3, 1, 0] rfl)
theorem hd_J7_fill_53178 : yJ7_fill_53178.cls ≠ "java/lang/invoke/MethodHandle" ∧ yJ7_fill_53178.cls ≠ "java/lang/invoke/VarHandle" ∧ (parseMethodDescriptor yJ7_fill_53178.desc).map (fun d => d.parameters.length) = some 2 := by decide +kernel
set_option maxRecDepth 100000 in
theorem c_J7_fill_53178 (l : Launch) (D : va_G) (cy : Nat → ClassId) (t : Nat → Nat) (r_a1 n_a1 : Nat) (x_a1 : Nat → Int32) (p1 : Int32) {out : (Nat → Int32)} (hf : J7_fill_53178 n_a1 x_a1 p1 = some out) : ctV l yJ7_fill_53178 wsJ7_fill_53178 0 0 D cy t [.ref r_a1, .int p1] (wd_J7_fill_53178 cy r_a1 n_a1 x_a1) (wd_J7_fill_53178 cy r_a1 n_a1 out) := by
  refine ⟨rfl, ?_⟩
  intro sz
  refine Met.ofW (cc := cJ7_fill_53178) (maxL := 4) (ret := none) (by decide) rfl ?_
  intro p e s m args below meth c s₁ B hml hv
  obtain ⟨rfl, hsz, hP, hK, hD0, hE⟩ := hv
  have hts := atoms_spec (ws := wsJ7_fill_53178) B.pre
  have hown : s.vm.findClass RJ7 = some m.cls := findClass_of_methodNamed B.named
  have hlocks := B.notSynchronized
  subst hsz
  have hD := hD0.self (sz := s.heap.size)
  have hl := lv_entry ([.ref r_a1, .int p1]) (n := 4) (Nat.le_of_ble_eq_true rfl)
  rw [lg_entry_eq]
  generalize (lg_sl ([.ref r_a1, .int p1]) ++ List.replicate (4 - (lg_sl ([.ref r_a1, .int p1])).length) Slot.unset).toArray = ls at hl ⊢
  exact w_J7_fill_53178 D cy t  r_a1 n_a1 x_a1 p1 hf B.exec B.bytes hml hown hts hK hE (fun q h => Or.inr h) hP hD va_S.rf hl (fun H locs ls pc hP hD hS hdg => W.vret B.exec B.bytes B.returns (fun t ht hW => ⟨⟨(), rfl, trivial, ctB_of ht hP⟩, hS.F ht⟩) hS.2.2 hdg)

noncomputable def J7_fill_d0a16_L6_B (n_a1 : Nat) (rec6 : (Nat → Int64) → Int64 → Int32 → Int32 → Option ((Nat → Int64))) (x_a1 : Nat → Int64) (l1 : Int64) (l3 : Int32) (l4 : Int32) : Option ((Nat → Int64)) :=
  if l4 ≤ l3 then (some x_a1) else (wrJ x_a1 n_a1 l3 l1 fun w15 => nm (l3 + (1 : Int32)) fun v16 => rec6 w15 l1 v16 l4)
noncomputable def J7_fill_d0a16_L6 (n_a1 : Nat) : Nat → (Nat → Int64) → Int64 → Int32 → Int32 → Option ((Nat → Int64))
  | 0, _, _, _, _ => none
  | n + 1, y0, y1, y2, y3 => J7_fill_d0a16_L6_B n_a1  (J7_fill_d0a16_L6 n_a1  n) y0 y1 y2 y3
noncomputable def J7_fill_d0a16 (n_a1 : Nat) (x_a1 : Nat → Int64) (p1 : Int64) : Option ((Nat → Int64)) :=
  nm (Int32.ofNat n_a1) fun v4 => J7_fill_d0a16_L6 n_a1  FU x_a1 p1 (0 : Int32) v4
abbrev wd_J7_fill_d0a16 (cy : Nat → ClassId) (r_a1 n_a1 : Nat) (x_a1 : Nat → Int64) : va_W := [(r_a1, .inl (cy 2, n_a1, .inr (.inl x_a1)))]
set_option maxHeartbeats 4000000 in
set_option maxRecDepth 100000 in
theorem w_J7_fill_d0a16 {p : Program} {l : Launch} {e : Env} {s : State} {m : MethodId} {args : Array Value} {below : List Frame} {meth : Method} {c : Code} {Q : State → Prop} {A : Nat → Prop} {H : Heap} {locs : List Loc} {ls : Array Slot} (D : va_G) (cy : Nat → ClassId) (t : Nat → Nat) (r_a1 n_a1 : Nat) (x_a1 : Nat → Int64) (p1 : Int64) {out : (Nat → Int64)} (hf : J7_fill_d0a16 n_a1 x_a1 p1 = some out) (hx : p.tables.exec = Jvm.exec) (hb : c.code = cJ7_fill_d0a16) (hml : c.maxLocals = 5) (hown : s.vm.findClass RJ7 = some m.cls) (hts : ∀ w ∈ wsJ7_fill_d0a16, w.before args s = true) (hK : va_K D vwCl (TYS cy) s) (hE : EV t A s s.heap) (hA : ∀ q, s.heap.size ≤ q → A q) (hP : va_P D vwCl (wd_J7_fill_d0a16 cy r_a1 n_a1 x_a1) H) (hD : va_D A (wd_J7_fill_d0a16 cy r_a1 n_a1 x_a1)) (hS : va_S A s.heap H locs) (hl : lv_has ls 5 [(0, .ref r_a1), (1, .long p1)]) (hR : ∀ (H : Heap) (locs : List Loc) (ls : Array Slot) (pc : Nat), va_P D vwCl (wd_J7_fill_d0a16 cy r_a1 n_a1 out) H → va_D A (wd_J7_fill_d0a16 cy r_a1 n_a1 out) → va_S A s.heap H locs → decode cJ7_fill_d0a16 pc = .ok (.return_, 1) → W p l e (rmm 0 0) s m args below meth c H locs 0 0 Q (F0 m pc ls [])) : W p l e (rmm 0 0) s m args below meth c H locs 0 0 Q (F0 m 0 ls []) := by
  rw [J7_fill_d0a16] at hf
  have h6 : ∀ (n6 : Nat) (x_a1 : Nat → Int64) (l1 : Int64) (l3 : Int32) (l4 : Int32) (H : Heap) (locs : List Loc) (ls : Array Slot), J7_fill_d0a16_L6 n_a1 n6 x_a1 l1 l3 l4 = some out → va_P D vwCl (wd_J7_fill_d0a16 cy r_a1 n_a1 x_a1) H → va_D A (wd_J7_fill_d0a16 cy r_a1 n_a1 x_a1) → va_S A s.heap H locs → lv_has ls 5 [(0, .ref r_a1), (1, .long l1), (3, .int l3), (4, .int l4)] → W p l e (rmm 0 0) s m args below meth c H locs 0 0 Q (F0 m 6 ls []) := by
    intro n6
    induction n6 with
    | zero =>
      intro _ _ _ _ _ _ _ hf
      exact nomatch (show (none : Option _) = some out from hf)
    | succ n6 ih6 =>
      intro x_a1 l1 l3 l4 H locs ls hf hP hD hS hl
      have hf : J7_fill_d0a16_L6_B n_a1 (J7_fill_d0a16_L6 n_a1 n6) x_a1 l1 l3 l4 = some out := hf
      rw [J7_fill_d0a16_L6_B] at hf
      refine lv_iload_n hx hb dJ7_fill_d0a16_6 rfl (lv_at hl 2 rfl) ?_
      refine lv_iload hx hb dJ7_fill_d0a16_7 (lv_at hl 3 rfl) ?_
      refine lv_icmp_ge (tgt := 22) hx hb dJ7_fill_d0a16_9 (by decide) (fun c9 => ?_) (fun c9 => ?_)
      · have hf := ifp c9 hf
        obtain rfl := Option.some.inj hf
        exact hR _ _ _ _ hP hD hS dJ7_fill_d0a16_22
      · have hf := ifn c9 hf
        refine lv_aload_n hx hb dJ7_fill_d0a16_12 rfl (lv_at hl 0 rfl) ?_
        refine lv_iload_n hx hb dJ7_fill_d0a16_13 rfl (lv_at hl 2 rfl) ?_
        refine lv_lload_n hx hb dJ7_fill_d0a16_14 rfl (lv_at hl 1 rfl) ?_
        obtain ⟨w15, b15, ew15, hf⟩ := wrJ_s hf
        refine my_last (ws2 := (wd_J7_fill_d0a16 cy r_a1 n_a1 w15)) hx hb hK hP hD hS 0 rfl b15 ew15 rfl dJ7_fill_d0a16_15 (fun H locs hP hD hS => ?_)
        obtain ⟨v16, ev16, hf⟩ := nm_s hf
        refine lv_iinc (v := v16) (lv' := [(3, .int v16), (0, .ref r_a1), (1, .long l1), (4, .int l4)]) hx hb dJ7_fill_d0a16_16 hl (k := 2) rfl (by rw [ev16]; rfl) (by decide) rfl (fun ls hl => ?_)
        refine lv_goto (tgt := 6) hx hb dJ7_fill_d0a16_19 (by decide) ?_
        exact ih6 _ _ _ _ _ _ _ hf hP hD hS (lv_sub hl [1, 2, 0, 3] rfl)
  refine lv_iconst (v := (0 : Int32)) hx hb dJ7_fill_d0a16_0 (by decide) ?_
  refine lv_istore_n (lv' := [(3, .int (0 : Int32)), (0, .ref r_a1), (1, .long p1)]) hx hb dJ7_fill_d0a16_1 rfl hl (by decide) rfl (fun ls hl => ?_)
  refine lv_aload_n hx hb dJ7_fill_d0a16_2 rfl (lv_at hl 1 rfl) ?_
  refine va_alen hx hb hK hP 0 2 rfl rfl (v := (Int32.ofNat n_a1)) rfl dJ7_fill_d0a16_3 ?_
  obtain ⟨v4, ev4, hf⟩ := nm_s hf
  refine my_topi ev4 ?_
  refine lv_istore (lv' := [(4, .int v4), (3, .int (0 : Int32)), (0, .ref r_a1), (1, .long p1)]) hx hb dJ7_fill_d0a16_4 hl (by decide) rfl (fun ls hl => ?_)
  exact h6 FU _ _ _ _ _ _ _ hf hP hD hS (lv_sub hl [2, 3, 1, 0] rfl)
theorem hd_J7_fill_d0a16 : yJ7_fill_d0a16.cls ≠ "java/lang/invoke/MethodHandle" ∧ yJ7_fill_d0a16.cls ≠ "java/lang/invoke/VarHandle" ∧ (parseMethodDescriptor yJ7_fill_d0a16.desc).map (fun d => d.parameters.length) = some 2 := by decide +kernel
set_option maxRecDepth 100000 in
theorem c_J7_fill_d0a16 (l : Launch) (D : va_G) (cy : Nat → ClassId) (t : Nat → Nat) (r_a1 n_a1 : Nat) (x_a1 : Nat → Int64) (p1 : Int64) {out : (Nat → Int64)} (hf : J7_fill_d0a16 n_a1 x_a1 p1 = some out) : ctV l yJ7_fill_d0a16 wsJ7_fill_d0a16 0 0 D cy t [.ref r_a1, .long p1] (wd_J7_fill_d0a16 cy r_a1 n_a1 x_a1) (wd_J7_fill_d0a16 cy r_a1 n_a1 out) := by
  refine ⟨rfl, ?_⟩
  intro sz
  refine Met.ofW (cc := cJ7_fill_d0a16) (maxL := 5) (ret := none) (by decide) rfl ?_
  intro p e s m args below meth c s₁ B hml hv
  obtain ⟨rfl, hsz, hP, hK, hD0, hE⟩ := hv
  have hts := atoms_spec (ws := wsJ7_fill_d0a16) B.pre
  have hown : s.vm.findClass RJ7 = some m.cls := findClass_of_methodNamed B.named
  have hlocks := B.notSynchronized
  subst hsz
  have hD := hD0.self (sz := s.heap.size)
  have hl := lv_entry ([.ref r_a1, .long p1]) (n := 5) (Nat.le_of_ble_eq_true rfl)
  rw [lg_entry_eq]
  generalize (lg_sl ([.ref r_a1, .long p1]) ++ List.replicate (5 - (lg_sl ([.ref r_a1, .long p1])).length) Slot.unset).toArray = ls at hl ⊢
  exact w_J7_fill_d0a16 D cy t  r_a1 n_a1 x_a1 p1 hf B.exec B.bytes hml hown hts hK hE (fun q h => Or.inr h) hP hD va_S.rf hl (fun H locs ls pc hP hD hS hdg => W.vret B.exec B.bytes B.returns (fun t ht hW => ⟨⟨(), rfl, trivial, ctB_of ht hP⟩, hS.F ht⟩) hS.2.2 hdg)

noncomputable def J6_bitCount_0f7a4 (p0 : Int32) : Option (Int32) :=
  nm (p0 - ((((p0).toUInt32 >>> (((1 : Int32)).toUInt32 &&& Int32.toUInt32 31)).toInt32) &&& (1431655765 : Int32))) fun v9 => nm ((v9 &&& (858993459 : Int32)) + ((((v9).toUInt32 >>> (((2 : Int32)).toUInt32 &&& Int32.toUInt32 31)).toInt32) &&& (858993459 : Int32))) fun v23 => nm ((v23 + (((v23).toUInt32 >>> (((4 : Int32)).toUInt32 &&& Int32.toUInt32 31)).toInt32)) &&& (252645135 : Int32)) fun v33 => nm (v33 + (((v33).toUInt32 >>> (((8 : Int32)).toUInt32 &&& Int32.toUInt32 31)).toInt32)) fun v40 => nm (v40 + (((v40).toUInt32 >>> (((16 : Int32)).toUInt32 &&& Int32.toUInt32 31)).toInt32)) fun v47 => some (v47 &&& (63 : Int32))
abbrev wd_J6_bitCount_0f7a4 (cy : Nat → ClassId) : va_W := []
set_option maxHeartbeats 4000000 in
set_option maxRecDepth 100000 in
theorem w_J6_bitCount_0f7a4 {p : Program} {l : Launch} {e : Env} {s : State} {m : MethodId} {args : Array Value} {below : List Frame} {meth : Method} {c : Code} {Q : State → Prop} {A : Nat → Prop} {H : Heap} {locs : List Loc} {ls : Array Slot} (D : va_G) (cy : Nat → ClassId) (t : Nat → Nat) (p0 : Int32) {out : Int32} (hf : J6_bitCount_0f7a4 p0 = some out) (hx : p.tables.exec = Jvm.exec) (hb : c.code = cJ6_bitCount_0f7a4) (hml : c.maxLocals = 1) (hown : s.vm.findClass RJ6 = some m.cls) (hts : ∀ w ∈ wsJ6_bitCount_0f7a4, w.before args s = true) (hK : va_K D vwCl (TYS cy) s) (hE : EV t A s s.heap) (hA : ∀ q, s.heap.size ≤ q → A q) (hP : va_P D vwCl (wd_J6_bitCount_0f7a4 cy) H) (hD : va_D A (wd_J6_bitCount_0f7a4 cy)) (hS : va_S A s.heap H locs) (hl : lv_has ls 1 [(0, .int p0)]) (hR : ∀ (H : Heap) (locs : List Loc) (ls : Array Slot) (pc : Nat), va_P D vwCl (wd_J6_bitCount_0f7a4 cy) H → va_D A (wd_J6_bitCount_0f7a4 cy) → va_S A s.heap H locs → decode cJ6_bitCount_0f7a4 pc = .ok (.ireturn, 1) → W p l e (rmm 0 0) s m args below meth c H locs 0 0 Q (F0 m pc ls [.int out])) : W p l e (rmm 0 0) s m args below meth c H locs 0 0 Q (F0 m 0 ls []) := by
  have k0 := hts (.constant RJ6 265 (1431655765)) (List.mem_cons_of_mem _ (List.mem_of_getElem? (i := 0) rfl))
  have k1 := hts (.constant RJ6 266 (858993459)) (List.mem_cons_of_mem _ (List.mem_of_getElem? (i := 1) rfl))
  have k2 := hts (.constant RJ6 267 (252645135)) (List.mem_cons_of_mem _ (List.mem_of_getElem? (i := 2) rfl))
  rw [J6_bitCount_0f7a4] at hf
  refine lv_iload_n hx hb dJ6_bitCount_0f7a4_0 rfl (lv_at hl 0 rfl) ?_
  refine lv_iload_n hx hb dJ6_bitCount_0f7a4_1 rfl (lv_at hl 0 rfl) ?_
  refine lv_iconst (v := (1 : Int32)) hx hb dJ6_bitCount_0f7a4_2 (by decide) ?_
  refine lv_iushr hx hb dJ6_bitCount_0f7a4_3 rfl ?_
  refine lv_ldcw (v := (1431655765 : Int32)) hx hb hown k0 dJ6_bitCount_0f7a4_4 ?_
  refine lv_iand hx hb dJ6_bitCount_0f7a4_7 ?_
  refine lv_isub hx hb dJ6_bitCount_0f7a4_8 ?_
  obtain ⟨v9, ev9, hf⟩ := nm_s hf
  refine my_topi ev9 ?_
  refine lv_istore_n (lv' := [(0, .int v9)]) hx hb dJ6_bitCount_0f7a4_9 rfl hl (by decide) rfl (fun ls hl => ?_)
  refine lv_iload_n hx hb dJ6_bitCount_0f7a4_10 rfl (lv_at hl 0 rfl) ?_
  refine lv_ldcw (v := (858993459 : Int32)) hx hb hown k1 dJ6_bitCount_0f7a4_11 ?_
  refine lv_iand hx hb dJ6_bitCount_0f7a4_14 ?_
  refine lv_iload_n hx hb dJ6_bitCount_0f7a4_15 rfl (lv_at hl 0 rfl) ?_
  refine lv_iconst (v := (2 : Int32)) hx hb dJ6_bitCount_0f7a4_16 (by decide) ?_
  refine lv_iushr hx hb dJ6_bitCount_0f7a4_17 rfl ?_
  refine lv_ldcw (v := (858993459 : Int32)) hx hb hown k1 dJ6_bitCount_0f7a4_18 ?_
  refine lv_iand hx hb dJ6_bitCount_0f7a4_21 ?_
  refine lv_iadd hx hb dJ6_bitCount_0f7a4_22 ?_
  obtain ⟨v23, ev23, hf⟩ := nm_s hf
  refine my_topi ev23 ?_
  refine lv_istore_n (lv' := [(0, .int v23)]) hx hb dJ6_bitCount_0f7a4_23 rfl hl (by decide) rfl (fun ls hl => ?_)
  refine lv_iload_n hx hb dJ6_bitCount_0f7a4_24 rfl (lv_at hl 0 rfl) ?_
  refine lv_iload_n hx hb dJ6_bitCount_0f7a4_25 rfl (lv_at hl 0 rfl) ?_
  refine lv_iconst (v := (4 : Int32)) hx hb dJ6_bitCount_0f7a4_26 (by decide) ?_
  refine lv_iushr hx hb dJ6_bitCount_0f7a4_27 rfl ?_
  refine lv_iadd hx hb dJ6_bitCount_0f7a4_28 ?_
  refine lv_ldcw (v := (252645135 : Int32)) hx hb hown k2 dJ6_bitCount_0f7a4_29 ?_
  refine lv_iand hx hb dJ6_bitCount_0f7a4_32 ?_
  obtain ⟨v33, ev33, hf⟩ := nm_s hf
  refine my_topi ev33 ?_
  refine lv_istore_n (lv' := [(0, .int v33)]) hx hb dJ6_bitCount_0f7a4_33 rfl hl (by decide) rfl (fun ls hl => ?_)
  refine lv_iload_n hx hb dJ6_bitCount_0f7a4_34 rfl (lv_at hl 0 rfl) ?_
  refine lv_iload_n hx hb dJ6_bitCount_0f7a4_35 rfl (lv_at hl 0 rfl) ?_
  refine lv_bipush (v := (8 : Int32)) hx hb dJ6_bitCount_0f7a4_36 (by decide) ?_
  refine lv_iushr hx hb dJ6_bitCount_0f7a4_38 rfl ?_
  refine lv_iadd hx hb dJ6_bitCount_0f7a4_39 ?_
  obtain ⟨v40, ev40, hf⟩ := nm_s hf
  refine my_topi ev40 ?_
  refine lv_istore_n (lv' := [(0, .int v40)]) hx hb dJ6_bitCount_0f7a4_40 rfl hl (by decide) rfl (fun ls hl => ?_)
  refine lv_iload_n hx hb dJ6_bitCount_0f7a4_41 rfl (lv_at hl 0 rfl) ?_
  refine lv_iload_n hx hb dJ6_bitCount_0f7a4_42 rfl (lv_at hl 0 rfl) ?_
  refine lv_bipush (v := (16 : Int32)) hx hb dJ6_bitCount_0f7a4_43 (by decide) ?_
  refine lv_iushr hx hb dJ6_bitCount_0f7a4_45 rfl ?_
  refine lv_iadd hx hb dJ6_bitCount_0f7a4_46 ?_
  obtain ⟨v47, ev47, hf⟩ := nm_s hf
  refine my_topi ev47 ?_
  refine lv_istore_n (lv' := [(0, .int v47)]) hx hb dJ6_bitCount_0f7a4_47 rfl hl (by decide) rfl (fun ls hl => ?_)
  refine lv_iload_n hx hb dJ6_bitCount_0f7a4_48 rfl (lv_at hl 0 rfl) ?_
  refine lv_bipush (v := (63 : Int32)) hx hb dJ6_bitCount_0f7a4_49 (by decide) ?_
  refine lv_iand hx hb dJ6_bitCount_0f7a4_51 ?_
  obtain rfl := Option.some.inj hf
  exact hR _ _ _ _ hP hD hS dJ6_bitCount_0f7a4_52
theorem hd_J6_bitCount_0f7a4 : yJ6_bitCount_0f7a4.cls ≠ "java/lang/invoke/MethodHandle" ∧ yJ6_bitCount_0f7a4.cls ≠ "java/lang/invoke/VarHandle" ∧ (parseMethodDescriptor yJ6_bitCount_0f7a4.desc).map (fun d => d.parameters.length) = some 1 := by decide +kernel
set_option maxRecDepth 100000 in
theorem c_J6_bitCount_0f7a4 (l : Launch) (D : va_G) (cy : Nat → ClassId) (t : Nat → Nat) (p0 : Int32) {out : Int32} (hf : J6_bitCount_0f7a4 p0 = some out) : ctI l yJ6_bitCount_0f7a4 wsJ6_bitCount_0f7a4 0 0 D cy t [.int p0] (wd_J6_bitCount_0f7a4 cy) (wd_J6_bitCount_0f7a4 cy) out := by
  refine ⟨rfl, ?_⟩
  intro sz
  refine Met.ofW (cc := cJ6_bitCount_0f7a4) (maxL := 1) (ret := (some .int)) (by decide) rfl ?_
  intro p e s m args below meth c s₁ B hml hv
  obtain ⟨rfl, hsz, hP, hK, hD0, hE⟩ := hv
  have hts := atoms_spec (ws := wsJ6_bitCount_0f7a4) B.pre
  have hown : s.vm.findClass RJ6 = some m.cls := findClass_of_methodNamed B.named
  have hlocks := B.notSynchronized
  subst hsz
  have hD := hD0.self (sz := s.heap.size)
  have hl := lv_entry ([.int p0]) (n := 1) (Nat.le_of_ble_eq_true rfl)
  rw [lg_entry_eq]
  generalize (lg_sl ([.int p0]) ++ List.replicate (1 - (lg_sl ([.int p0])).length) Slot.unset).toArray = ls at hl ⊢
  exact w_J6_bitCount_0f7a4 D cy t  p0 hf B.exec B.bytes hml hown hts hK hE (fun q h => Or.inr h) hP hD va_S.rf hl (fun H locs ls pc hP hD hS hdg => W.iret B.exec B.bytes B.returns (fun t ht hW => ⟨⟨_, (), rfl, rfl, ctB_of ht hP⟩, hS.F ht⟩) hS.2.2 hdg)
