noncomputable def X7_player (x_crowd_size : Int32) (x_crowd_paired : Int32) (x_crowd_skills : Nat → Int32) (x_crowd_shores : Nat → Int32) (p1 : Int32) (p2 : Int32) : Option (Int32 × Int32 × Int32 × (Nat → Int32) × (Nat → Int32)) :=
  if p1 < (0 : Int32) then (some ((-2 : Int32), x_crowd_size, x_crowd_paired, x_crowd_skills, x_crowd_shores)) else (if (999 : Int32) < p1 then (some ((-2 : Int32), x_crowd_size, x_crowd_paired, x_crowd_skills, x_crowd_shores)) else (bd (X7_isShore p2) fun r12 => if r12 = (0 : Int32) then (some ((-2 : Int32), x_crowd_size, x_crowd_paired, x_crowd_skills, x_crowd_shores)) else (if x_crowd_size = (10 : Int32) then (some ((-4 : Int32), x_crowd_size, x_crowd_paired, x_crowd_skills, x_crowd_shores)) else (bd (X1_join x_crowd_size x_crowd_paired x_crowd_skills x_crowd_shores p1 p2) fun r42 => some (r42.1, r42.2.1, r42.2.2.1, r42.2.2.2.1, r42.2.2.2.2)))))
abbrev wd_X7_player (cy : Nat → ClassId) (o_t o_t_play o_t_lines o_t_truth o_t_glassTrack o_t_board o_t_otherBoard o_t_fog o_t_crowd o_t_deal : Nat → Nat) (x_crowd_size : Int32) (x_crowd_paired : Int32) (x_crowd_skills : Nat → Int32) (x_crowd_shores : Nat → Int32) : va_W := [(o_t 0, .inr (7, [.ref (o_t_play 0), .ref (o_t_lines 0), .ref (o_t_truth 0), .ref (o_t_glassTrack 0), .ref (o_t_board 0), .ref (o_t_otherBoard 0), .ref (o_t 7), .ref (o_t_fog 0), .ref (o_t_crowd 0), .ref (o_t_deal 0), .ref (o_t 11), .ref (o_t 12)])), (o_t_crowd 0, .inr (1, [.int x_crowd_size, .ref (o_t_crowd 2), .ref (o_t_crowd 3), .ref (o_t_crowd 4), .ref (o_t_crowd 5), .ref (o_t_crowd 6), .int x_crowd_paired])), (o_t_crowd 3, .inl (cy 0, 10, .inl x_crowd_skills)), (o_t_crowd 4, .inl (cy 0, 10, .inl x_crowd_shores))]
set_option maxHeartbeats 4000000 in
set_option maxRecDepth 100000 in
theorem w_X7_player {p : Program} {l : Launch} {e : Env} {s : State} {m : MethodId} {args : Array Value} {below : List Frame} {meth : Method} {c : Code} {Q : State → Prop} {A : Nat → Prop} {H : Heap} {locs : List Loc} {ls : Array Slot} (D : va_G) (cy : Nat → ClassId) (t : Nat → Nat) (o_t o_t_play o_t_lines o_t_truth o_t_glassTrack o_t_board o_t_otherBoard o_t_fog o_t_crowd o_t_deal : Nat → Nat) (x_crowd_size : Int32) (x_crowd_paired : Int32) (x_crowd_skills : Nat → Int32) (x_crowd_shores : Nat → Int32) (p1 : Int32) (p2 : Int32) {out : Int32 × Int32 × Int32 × (Nat → Int32) × (Nat → Int32)} (hf : X7_player x_crowd_size x_crowd_paired x_crowd_skills x_crowd_shores p1 p2 = some out) (hx : p.tables.exec = Jvm.exec) (hb : c.code = cX7_player) (hml : c.maxLocals = 3) (hown : s.vm.findClass RX7 = some m.cls) (hts : ∀ w ∈ wsX7_player, w.before args s = true) (hK : va_K D vwCl (TYS cy) s) (hE : EV t A s s.heap) (hA : ∀ q, s.heap.size ≤ q → A q) (hP : va_P D vwCl (wd_X7_player cy o_t o_t_play o_t_lines o_t_truth o_t_glassTrack o_t_board o_t_otherBoard o_t_fog o_t_crowd o_t_deal x_crowd_size x_crowd_paired x_crowd_skills x_crowd_shores) H) (hD : va_D A (wd_X7_player cy o_t o_t_play o_t_lines o_t_truth o_t_glassTrack o_t_board o_t_otherBoard o_t_fog o_t_crowd o_t_deal x_crowd_size x_crowd_paired x_crowd_skills x_crowd_shores)) (hS : va_S A s.heap H locs) (hl : lv_has ls 3 [(0, .ref (o_t 0)), (1, .int p1), (2, .int p2)]) (hR : ∀ (H : Heap) (locs : List Loc) (ls : Array Slot) (pc : Nat), va_P D vwCl (wd_X7_player cy o_t o_t_play o_t_lines o_t_truth o_t_glassTrack o_t_board o_t_otherBoard o_t_fog o_t_crowd o_t_deal out.2.1 out.2.2.1 out.2.2.2.1 out.2.2.2.2) H → va_D A (wd_X7_player cy o_t o_t_play o_t_lines o_t_truth o_t_glassTrack o_t_board o_t_otherBoard o_t_fog o_t_crowd o_t_deal out.2.1 out.2.2.1 out.2.2.2.1 out.2.2.2.2) → va_S A s.heap H locs → decode cX7_player pc = .ok (.ireturn, 1) → W p l e (rmm 1 22) s m args below meth c H locs 0 0 Q (F0 m pc ls [.int out.1])) : W p l e (rmm 1 22) s m args below meth c H locs 0 0 Q (F0 m 0 ls []) := by
  have k0 := hts (.fieldLink RX7 59 "SeaGames" "crowd" "LSeaGames$Crowd;") (List.mem_cons_of_mem _ (List.mem_append_left _ (List.mem_append_left _ (List.mem_of_getElem? (i := 0) rfl))))
  have k1 : ∀ w ∈ u_ws RX7 TX7 12, w ∈ wsX7_player := fun _ h => List.mem_cons_of_mem _ (List.mem_append_left _ (List.mem_append_right _ h))
  have k2 := hts (.fieldLink RX7 221 "SeaGames$Crowd" "size" "I") (List.mem_cons_of_mem _ (List.mem_append_left _ (List.mem_append_left _ (List.mem_of_getElem? (i := 1) rfl))))
  have k3 : ∀ w ∈ u_ws RX1 TX1 7, w ∈ wsX7_player := fun _ h => List.mem_cons_of_mem _ (List.mem_append_right _ h)
  rw [X7_player] at hf
  refine lv_iload_n hx hb dX7_player_0 rfl (lv_at hl 1 rfl) ?_
  refine lv_if_lt (tgt := 18) hx hb dX7_player_1 (by decide) (fun c1 => ?_) (fun c1 => ?_)
  · have hf := ifp c1 hf
    refine lv_bipush (v := (-2 : Int32)) hx hb dX7_player_18 (by decide) ?_
    obtain rfl := Option.some.inj hf
    exact hR _ _ _ _ hP hD hS dX7_player_20
  · have hf := ifn c1 hf
    refine lv_iload_n hx hb dX7_player_4 rfl (lv_at hl 1 rfl) ?_
    refine lv_sipush (v := (999 : Int32)) hx hb dX7_player_5 (by decide) ?_
    refine lv_icmp_gt (tgt := 18) hx hb dX7_player_8 (by decide) (fun c8 => ?_) (fun c8 => ?_)
    · have hf := ifp c8 hf
      refine lv_bipush (v := (-2 : Int32)) hx hb dX7_player_18 (by decide) ?_
      obtain rfl := Option.some.inj hf
      exact hR _ _ _ _ hP hD hS dX7_player_20
    · have hf := ifn c8 hf
      refine lv_iload_n hx hb dX7_player_11 rfl (lv_at hl 2 rfl) ?_
      obtain ⟨r12, hr12, hf⟩ := bd_s hf
      refine my_Si (WS2 := (wd_X7_player cy o_t o_t_play o_t_lines o_t_truth o_t_glassTrack o_t_board o_t_otherBoard o_t_fog o_t_crowd o_t_deal x_crowd_size x_crowd_paired x_crowd_skills x_crowd_shores)) ⟨hx, hb, hml, hown, hts⟩ (c_X7_isShore l D cy t p2 hr12) (va_cwS 1 hts gX7_player_X7_isShore rfl rfl rfl hd_X7_isShore ⟨Nat.le_of_ble_eq_true rfl, Nat.le_of_ble_eq_true rfl⟩) hK hE hP hD hS hA [] 4 rfl rfl (by decide +kernel) rfl rfl hl.1 rfl (Nat.le_of_ble_eq_true rfl) dX7_player_12 ⟨Nat.le_of_ble_eq_true rfl, Nat.le_of_ble_eq_true rfl⟩ (fun H locs hP hD hS => ?_)
      refine lv_if_ne (tgt := 21) hx hb dX7_player_15 (by decide) (fun c15 => ?_) (fun c15 => ?_)
      · have hf := ifn c15 hf
        refine lv_aload_n hx hb dX7_player_21 rfl (lv_at hl 0 rfl) ?_
        refine va_get (D := D) (ci := 7) (v := .ref (o_t_crowd 0)) (C := RX7) (T := TX7) (N := 12) hx hb hts k1 hown hK hP 0 rfl rfl 8 (by decide) k0 (fun _ h9 => h9) rfl dX7_player_22 ?_
        refine va_get (D := D) (ci := 1) (v := .int x_crowd_size) (C := RX1) (T := TX1) (N := 7) hx hb hts k3 hown hK hP 1 rfl rfl 0 (by decide) k2 (fun _ h9 => h9) rfl dX7_player_25 ?_
        refine lv_bipush (v := (10 : Int32)) hx hb dX7_player_28 (by decide) ?_
        refine lv_icmp_ne (tgt := 36) hx hb dX7_player_30 (by decide) (fun c30 => ?_) (fun c30 => ?_)
        · have hf := ifn c30 hf
          refine lv_aload_n hx hb dX7_player_36 rfl (lv_at hl 0 rfl) ?_
          refine va_get (D := D) (ci := 7) (v := .ref (o_t_crowd 0)) (C := RX7) (T := TX7) (N := 12) hx hb hts k1 hown hK hP 0 rfl rfl 8 (by decide) k0 (fun _ h9 => h9) rfl dX7_player_37 ?_
          refine lv_iload_n hx hb dX7_player_40 rfl (lv_at hl 1 rfl) ?_
          refine lv_iload_n hx hb dX7_player_41 rfl (lv_at hl 2 rfl) ?_
          obtain ⟨r42, hr42, hf⟩ := bd_s hf
          refine my_Vi (WS2 := (wd_X7_player cy o_t o_t_play o_t_lines o_t_truth o_t_glassTrack o_t_board o_t_otherBoard o_t_fog o_t_crowd o_t_deal r42.2.1 r42.2.2.1 r42.2.2.2.1 r42.2.2.2.2)) ⟨hx, hb, hml, hown, hts⟩ (c_X1_join l D cy t o_t_crowd x_crowd_size x_crowd_paired x_crowd_skills x_crowd_shores p1 p2 hr42) (cwV 2 hts gX7_player_X1_join rfl rfl rfl ⟨rfl, hd_X1_join⟩ ⟨Nat.le_of_ble_eq_true rfl, Nat.le_of_ble_eq_true rfl⟩) hK hE hP hD hS hA [1, 2, 3] 4 1 0 rfl rfl rfl rfl (by decide +kernel) rfl rfl hl.1 rfl (Nat.le_of_ble_eq_true rfl) dX7_player_42 ⟨Nat.le_of_ble_eq_true rfl, Nat.le_of_ble_eq_true rfl⟩ (fun H locs hP hD hS => ?_)
          obtain rfl := Option.some.inj hf
          exact hR _ _ _ _ hP hD hS dX7_player_45
        · have hf := ifp c30 hf
          refine lv_bipush (v := (-4 : Int32)) hx hb dX7_player_33 (by decide) ?_
          obtain rfl := Option.some.inj hf
          exact hR _ _ _ _ hP hD hS dX7_player_35
      · have hf := ifp c15 hf
        refine lv_bipush (v := (-2 : Int32)) hx hb dX7_player_18 (by decide) ?_
        obtain rfl := Option.some.inj hf
        exact hR _ _ _ _ hP hD hS dX7_player_20
theorem hd_X7_player : yX7_player.cls ≠ "java/lang/invoke/MethodHandle" ∧ yX7_player.cls ≠ "java/lang/invoke/VarHandle" ∧ (parseMethodDescriptor yX7_player.desc).map (fun d => d.parameters.length) = some 2 := by decide +kernel
set_option maxRecDepth 100000 in
theorem c_X7_player (l : Launch) (D : va_G) (cy : Nat → ClassId) (t : Nat → Nat) (o_t o_t_play o_t_lines o_t_truth o_t_glassTrack o_t_board o_t_otherBoard o_t_fog o_t_crowd o_t_deal : Nat → Nat) (x_crowd_size : Int32) (x_crowd_paired : Int32) (x_crowd_skills : Nat → Int32) (x_crowd_shores : Nat → Int32) (p1 : Int32) (p2 : Int32) {out : Int32 × Int32 × Int32 × (Nat → Int32) × (Nat → Int32)} (hf : X7_player x_crowd_size x_crowd_paired x_crowd_skills x_crowd_shores p1 p2 = some out) : ctI l yX7_player wsX7_player 1 22 D cy t [.ref (o_t 0), .int p1, .int p2] (wd_X7_player cy o_t o_t_play o_t_lines o_t_truth o_t_glassTrack o_t_board o_t_otherBoard o_t_fog o_t_crowd o_t_deal x_crowd_size x_crowd_paired x_crowd_skills x_crowd_shores) (wd_X7_player cy o_t o_t_play o_t_lines o_t_truth o_t_glassTrack o_t_board o_t_otherBoard o_t_fog o_t_crowd o_t_deal out.2.1 out.2.2.1 out.2.2.2.1 out.2.2.2.2) out.1 := by
  refine ⟨rfl, ?_⟩
  intro sz
  refine Met.ofW (cc := cX7_player) (maxL := 3) (ret := (some .int)) (by decide) rfl ?_
  intro p e s m args below meth c s₁ B hml hv
  obtain ⟨rfl, hsz, hP, hK, hD0, hE⟩ := hv
  have hts := atoms_spec (ws := wsX7_player) B.pre
  have hown : s.vm.findClass RX7 = some m.cls := findClass_of_methodNamed B.named
  have hlocks := B.notSynchronized
  subst hsz
  have hD := hD0.self (sz := s.heap.size)
  have hl := lv_entry ([.ref (o_t 0), .int p1, .int p2]) (n := 3) (Nat.le_of_ble_eq_true rfl)
  rw [lg_entry_eq]
  generalize (lg_sl ([.ref (o_t 0), .int p1, .int p2]) ++ List.replicate (3 - (lg_sl ([.ref (o_t 0), .int p1, .int p2])).length) Slot.unset).toArray = ls at hl ⊢
  exact w_X7_player D cy t o_t o_t_play o_t_lines o_t_truth o_t_glassTrack o_t_board o_t_otherBoard o_t_fog o_t_crowd o_t_deal x_crowd_size x_crowd_paired x_crowd_skills x_crowd_shores p1 p2 hf B.exec B.bytes hml hown hts hK hE (fun q h => Or.inr h) hP hD va_S.rf hl (fun H locs ls pc hP hD hS hdg => W.iret B.exec B.bytes B.returns (fun t ht hW => ⟨⟨_, (), rfl, rfl, ctB_of ht hP⟩, hS.F ht⟩) hS.2.2 hdg)

noncomputable def X7_far (x_crowd_paired : Int32) (x_crowd_fars : Nat → Int32) (p1 : Int32) (p2 : Int32) (p3 : Int32) : Option (Int32 × Int32 × (Nat → Int32)) :=
  bd (X7_isShore p1) fun r1 => if r1 = (0 : Int32) then (some ((-1 : Int32), x_crowd_paired, x_crowd_fars)) else (bd (X7_isShore p2) fun r8 => if r8 = (0 : Int32) then (some ((-1 : Int32), x_crowd_paired, x_crowd_fars)) else (if p3 < (0 : Int32) then (some ((-2 : Int32), x_crowd_paired, x_crowd_fars)) else (if p3 ≤ (999 : Int32) then (bd (X1_setFar x_crowd_paired x_crowd_fars p1 p2 p3) fun r37 => some (r37.1, r37.2.1, r37.2.2)) else (some ((-2 : Int32), x_crowd_paired, x_crowd_fars)))))
abbrev wd_X7_far (cy : Nat → ClassId) (o_t o_t_play o_t_lines o_t_truth o_t_glassTrack o_t_board o_t_otherBoard o_t_fog o_t_crowd o_t_deal : Nat → Nat) (x_crowd_size : Int32) (x_crowd_paired : Int32) (x_crowd_fars : Nat → Int32) : va_W := [(o_t 0, .inr (7, [.ref (o_t_play 0), .ref (o_t_lines 0), .ref (o_t_truth 0), .ref (o_t_glassTrack 0), .ref (o_t_board 0), .ref (o_t_otherBoard 0), .ref (o_t 7), .ref (o_t_fog 0), .ref (o_t_crowd 0), .ref (o_t_deal 0), .ref (o_t 11), .ref (o_t 12)])), (o_t_crowd 0, .inr (1, [.int x_crowd_size, .ref (o_t_crowd 2), .ref (o_t_crowd 3), .ref (o_t_crowd 4), .ref (o_t_crowd 5), .ref (o_t_crowd 6), .int x_crowd_paired])), (o_t_crowd 5, .inl (cy 0, 16, .inl x_crowd_fars))]
set_option maxHeartbeats 4000000 in
set_option maxRecDepth 100000 in
theorem w_X7_far {p : Program} {l : Launch} {e : Env} {s : State} {m : MethodId} {args : Array Value} {below : List Frame} {meth : Method} {c : Code} {Q : State → Prop} {A : Nat → Prop} {H : Heap} {locs : List Loc} {ls : Array Slot} (D : va_G) (cy : Nat → ClassId) (t : Nat → Nat) (o_t o_t_play o_t_lines o_t_truth o_t_glassTrack o_t_board o_t_otherBoard o_t_fog o_t_crowd o_t_deal : Nat → Nat) (x_crowd_size : Int32) (x_crowd_paired : Int32) (x_crowd_fars : Nat → Int32) (p1 : Int32) (p2 : Int32) (p3 : Int32) {out : Int32 × Int32 × (Nat → Int32)} (hf : X7_far x_crowd_paired x_crowd_fars p1 p2 p3 = some out) (hx : p.tables.exec = Jvm.exec) (hb : c.code = cX7_far) (hml : c.maxLocals = 4) (hown : s.vm.findClass RX7 = some m.cls) (hts : ∀ w ∈ wsX7_far, w.before args s = true) (hK : va_K D vwCl (TYS cy) s) (hE : EV t A s s.heap) (hA : ∀ q, s.heap.size ≤ q → A q) (hP : va_P D vwCl (wd_X7_far cy o_t o_t_play o_t_lines o_t_truth o_t_glassTrack o_t_board o_t_otherBoard o_t_fog o_t_crowd o_t_deal x_crowd_size x_crowd_paired x_crowd_fars) H) (hD : va_D A (wd_X7_far cy o_t o_t_play o_t_lines o_t_truth o_t_glassTrack o_t_board o_t_otherBoard o_t_fog o_t_crowd o_t_deal x_crowd_size x_crowd_paired x_crowd_fars)) (hS : va_S A s.heap H locs) (hl : lv_has ls 4 [(0, .ref (o_t 0)), (1, .int p1), (2, .int p2), (3, .int p3)]) (hR : ∀ (H : Heap) (locs : List Loc) (ls : Array Slot) (pc : Nat), va_P D vwCl (wd_X7_far cy o_t o_t_play o_t_lines o_t_truth o_t_glassTrack o_t_board o_t_otherBoard o_t_fog o_t_crowd o_t_deal x_crowd_size out.2.1 out.2.2) H → va_D A (wd_X7_far cy o_t o_t_play o_t_lines o_t_truth o_t_glassTrack o_t_board o_t_otherBoard o_t_fog o_t_crowd o_t_deal x_crowd_size out.2.1 out.2.2) → va_S A s.heap H locs → decode cX7_far pc = .ok (.ireturn, 1) → W p l e (rmm 1 24) s m args below meth c H locs 0 0 Q (F0 m pc ls [.int out.1])) : W p l e (rmm 1 24) s m args below meth c H locs 0 0 Q (F0 m 0 ls []) := by
  have k0 := hts (.fieldLink RX7 59 "SeaGames" "crowd" "LSeaGames$Crowd;") (List.mem_cons_of_mem _ (List.mem_append_left _ (List.mem_append_left _ (List.mem_of_getElem? (i := 0) rfl))))
  have k1 : ∀ w ∈ u_ws RX7 TX7 12, w ∈ wsX7_far := fun _ h => List.mem_cons_of_mem _ (List.mem_append_left _ (List.mem_append_right _ h))
  rw [X7_far] at hf
  refine lv_iload_n hx hb dX7_far_0 rfl (lv_at hl 1 rfl) ?_
  obtain ⟨r1, hr1, hf⟩ := bd_s hf
  refine my_Si (WS2 := (wd_X7_far cy o_t o_t_play o_t_lines o_t_truth o_t_glassTrack o_t_board o_t_otherBoard o_t_fog o_t_crowd o_t_deal x_crowd_size x_crowd_paired x_crowd_fars)) ⟨hx, hb, hml, hown, hts⟩ (c_X7_isShore l D cy t p1 hr1) (va_cwS 1 hts gX7_far_X7_isShore rfl rfl rfl hd_X7_isShore ⟨Nat.le_of_ble_eq_true rfl, Nat.le_of_ble_eq_true rfl⟩) hK hE hP hD hS hA [] 3 rfl rfl (by decide +kernel) rfl rfl hl.1 rfl (Nat.le_of_ble_eq_true rfl) dX7_far_1 ⟨Nat.le_of_ble_eq_true rfl, Nat.le_of_ble_eq_true rfl⟩ (fun H locs hP hD hS => ?_)
  refine lv_if_eq (tgt := 14) hx hb dX7_far_4 (by decide) (fun c4 => ?_) (fun c4 => ?_)
  · have hf := ifp c4 hf
    refine lv_iconst (v := (-1 : Int32)) hx hb dX7_far_14 (by decide) ?_
    obtain rfl := Option.some.inj hf
    exact hR _ _ _ _ hP hD hS dX7_far_15
  · have hf := ifn c4 hf
    refine lv_iload_n hx hb dX7_far_7 rfl (lv_at hl 2 rfl) ?_
    obtain ⟨r8, hr8, hf⟩ := bd_s hf
    refine my_Si (WS2 := (wd_X7_far cy o_t o_t_play o_t_lines o_t_truth o_t_glassTrack o_t_board o_t_otherBoard o_t_fog o_t_crowd o_t_deal x_crowd_size x_crowd_paired x_crowd_fars)) ⟨hx, hb, hml, hown, hts⟩ (c_X7_isShore l D cy t p2 hr8) (va_cwS 1 hts gX7_far_X7_isShore rfl rfl rfl hd_X7_isShore ⟨Nat.le_of_ble_eq_true rfl, Nat.le_of_ble_eq_true rfl⟩) hK hE hP hD hS hA [] 3 rfl rfl (by decide +kernel) rfl rfl hl.1 rfl (Nat.le_of_ble_eq_true rfl) dX7_far_8 ⟨Nat.le_of_ble_eq_true rfl, Nat.le_of_ble_eq_true rfl⟩ (fun H locs hP hD hS => ?_)
    refine lv_if_ne (tgt := 16) hx hb dX7_far_11 (by decide) (fun c11 => ?_) (fun c11 => ?_)
    · have hf := ifn c11 hf
      refine lv_iload_n hx hb dX7_far_16 rfl (lv_at hl 3 rfl) ?_
      refine lv_if_lt (tgt := 27) hx hb dX7_far_17 (by decide) (fun c17 => ?_) (fun c17 => ?_)
      · have hf := ifp c17 hf
        refine lv_bipush (v := (-2 : Int32)) hx hb dX7_far_27 (by decide) ?_
        obtain rfl := Option.some.inj hf
        exact hR _ _ _ _ hP hD hS dX7_far_29
      · have hf := ifn c17 hf
        refine lv_iload_n hx hb dX7_far_20 rfl (lv_at hl 3 rfl) ?_
        refine lv_sipush (v := (999 : Int32)) hx hb dX7_far_21 (by decide) ?_
        refine lv_icmp_le (tgt := 30) hx hb dX7_far_24 (by decide) (fun c24 => ?_) (fun c24 => ?_)
        · have hf := ifp c24 hf
          refine lv_aload_n hx hb dX7_far_30 rfl (lv_at hl 0 rfl) ?_
          refine va_get (D := D) (ci := 7) (v := .ref (o_t_crowd 0)) (C := RX7) (T := TX7) (N := 12) hx hb hts k1 hown hK hP 0 rfl rfl 8 (by decide) k0 (fun _ h9 => h9) rfl dX7_far_31 ?_
          refine lv_iload_n hx hb dX7_far_34 rfl (lv_at hl 1 rfl) ?_
          refine lv_iload_n hx hb dX7_far_35 rfl (lv_at hl 2 rfl) ?_
          refine lv_iload_n hx hb dX7_far_36 rfl (lv_at hl 3 rfl) ?_
          obtain ⟨r37, hr37, hf⟩ := bd_s hf
          refine my_Vi (WS2 := (wd_X7_far cy o_t o_t_play o_t_lines o_t_truth o_t_glassTrack o_t_board o_t_otherBoard o_t_fog o_t_crowd o_t_deal x_crowd_size r37.2.1 r37.2.2)) ⟨hx, hb, hml, hown, hts⟩ (c_X1_setFar l D cy t o_t_crowd x_crowd_size x_crowd_paired x_crowd_fars p1 p2 p3 hr37) (cwV 3 hts gX7_far_X1_setFar rfl rfl rfl ⟨rfl, hd_X1_setFar⟩ ⟨Nat.le_of_ble_eq_true rfl, Nat.le_of_ble_eq_true rfl⟩) hK hE hP hD hS hA [1, 2] 3 1 0 rfl rfl rfl rfl (by decide +kernel) rfl rfl hl.1 rfl (Nat.le_of_ble_eq_true rfl) dX7_far_37 ⟨Nat.le_of_ble_eq_true rfl, Nat.le_of_ble_eq_true rfl⟩ (fun H locs hP hD hS => ?_)
          obtain rfl := Option.some.inj hf
          exact hR _ _ _ _ hP hD hS dX7_far_40
        · have hf := ifn c24 hf
          refine lv_bipush (v := (-2 : Int32)) hx hb dX7_far_27 (by decide) ?_
          obtain rfl := Option.some.inj hf
          exact hR _ _ _ _ hP hD hS dX7_far_29
    · have hf := ifp c11 hf
      refine lv_iconst (v := (-1 : Int32)) hx hb dX7_far_14 (by decide) ?_
      obtain rfl := Option.some.inj hf
      exact hR _ _ _ _ hP hD hS dX7_far_15
theorem hd_X7_far : yX7_far.cls ≠ "java/lang/invoke/MethodHandle" ∧ yX7_far.cls ≠ "java/lang/invoke/VarHandle" ∧ (parseMethodDescriptor yX7_far.desc).map (fun d => d.parameters.length) = some 3 := by decide +kernel
set_option maxRecDepth 100000 in
theorem c_X7_far (l : Launch) (D : va_G) (cy : Nat → ClassId) (t : Nat → Nat) (o_t o_t_play o_t_lines o_t_truth o_t_glassTrack o_t_board o_t_otherBoard o_t_fog o_t_crowd o_t_deal : Nat → Nat) (x_crowd_size : Int32) (x_crowd_paired : Int32) (x_crowd_fars : Nat → Int32) (p1 : Int32) (p2 : Int32) (p3 : Int32) {out : Int32 × Int32 × (Nat → Int32)} (hf : X7_far x_crowd_paired x_crowd_fars p1 p2 p3 = some out) : ctI l yX7_far wsX7_far 1 24 D cy t [.ref (o_t 0), .int p1, .int p2, .int p3] (wd_X7_far cy o_t o_t_play o_t_lines o_t_truth o_t_glassTrack o_t_board o_t_otherBoard o_t_fog o_t_crowd o_t_deal x_crowd_size x_crowd_paired x_crowd_fars) (wd_X7_far cy o_t o_t_play o_t_lines o_t_truth o_t_glassTrack o_t_board o_t_otherBoard o_t_fog o_t_crowd o_t_deal x_crowd_size out.2.1 out.2.2) out.1 := by
  refine ⟨rfl, ?_⟩
  intro sz
  refine Met.ofW (cc := cX7_far) (maxL := 4) (ret := (some .int)) (by decide) rfl ?_
  intro p e s m args below meth c s₁ B hml hv
  obtain ⟨rfl, hsz, hP, hK, hD0, hE⟩ := hv
  have hts := atoms_spec (ws := wsX7_far) B.pre
  have hown : s.vm.findClass RX7 = some m.cls := findClass_of_methodNamed B.named
  have hlocks := B.notSynchronized
  subst hsz
  have hD := hD0.self (sz := s.heap.size)
  have hl := lv_entry ([.ref (o_t 0), .int p1, .int p2, .int p3]) (n := 4) (Nat.le_of_ble_eq_true rfl)
  rw [lg_entry_eq]
  generalize (lg_sl ([.ref (o_t 0), .int p1, .int p2, .int p3]) ++ List.replicate (4 - (lg_sl ([.ref (o_t 0), .int p1, .int p2, .int p3])).length) Slot.unset).toArray = ls at hl ⊢
  exact w_X7_far D cy t o_t o_t_play o_t_lines o_t_truth o_t_glassTrack o_t_board o_t_otherBoard o_t_fog o_t_crowd o_t_deal x_crowd_size x_crowd_paired x_crowd_fars p1 p2 p3 hf B.exec B.bytes hml hown hts hK hE (fun q h => Or.inr h) hP hD va_S.rf hl (fun H locs ls pc hP hD hS hdg => W.iret B.exec B.bytes B.returns (fun t ht hW => ⟨⟨_, (), rfl, rfl, ctB_of ht hP⟩, hS.F ht⟩) hS.2.2 hdg)

noncomputable def X7_pairs (x_crowd_size : Int32) (x_crowd_skills : Nat → Int32) (x_crowd_shores : Nat → Int32) (x_crowd_fars : Nat → Int32) (x_crowd_paired : Int32) (x_crowd_mates : Nat → Int32) (x_crowd_least : Nat → Int32) : Option (Int32 × Int32 × (Nat → Int32) × (Nat → Int32)) :=
  bd (X1_pairUp x_crowd_size x_crowd_skills x_crowd_shores x_crowd_fars x_crowd_paired x_crowd_mates x_crowd_least) fun r4 => bd (X1_leastCost x_crowd_size r4.2.2) fun r11 => some (r11, r4.1, r4.2.1, r4.2.2)
abbrev wd_X7_pairs (cy : Nat → ClassId) (o_t o_t_play o_t_lines o_t_truth o_t_glassTrack o_t_board o_t_otherBoard o_t_fog o_t_crowd o_t_deal : Nat → Nat) (x_crowd_size : Int32) (x_crowd_paired : Int32) (x_crowd_mates : Nat → Int32) (x_crowd_skills : Nat → Int32) (x_crowd_shores : Nat → Int32) (x_crowd_fars : Nat → Int32) (x_crowd_least : Nat → Int32) : va_W := [(o_t 0, .inr (7, [.ref (o_t_play 0), .ref (o_t_lines 0), .ref (o_t_truth 0), .ref (o_t_glassTrack 0), .ref (o_t_board 0), .ref (o_t_otherBoard 0), .ref (o_t 7), .ref (o_t_fog 0), .ref (o_t_crowd 0), .ref (o_t_deal 0), .ref (o_t 11), .ref (o_t 12)])), (o_t_crowd 0, .inr (1, [.int x_crowd_size, .ref (o_t_crowd 2), .ref (o_t_crowd 3), .ref (o_t_crowd 4), .ref (o_t_crowd 5), .ref (o_t_crowd 6), .int x_crowd_paired])), (o_t_crowd 2, .inl (cy 0, 10, .inl x_crowd_mates)), (o_t_crowd 3, .inl (cy 0, 10, .inl x_crowd_skills)), (o_t_crowd 4, .inl (cy 0, 10, .inl x_crowd_shores)), (o_t_crowd 5, .inl (cy 0, 16, .inl x_crowd_fars)), (o_t_crowd 6, .inl (cy 0, 1024, .inl x_crowd_least))]
set_option maxHeartbeats 4000000 in
set_option maxRecDepth 100000 in
theorem w_X7_pairs {p : Program} {l : Launch} {e : Env} {s : State} {m : MethodId} {args : Array Value} {below : List Frame} {meth : Method} {c : Code} {Q : State → Prop} {A : Nat → Prop} {H : Heap} {locs : List Loc} {ls : Array Slot} (D : va_G) (cy : Nat → ClassId) (t : Nat → Nat) (o_t o_t_play o_t_lines o_t_truth o_t_glassTrack o_t_board o_t_otherBoard o_t_fog o_t_crowd o_t_deal : Nat → Nat) (x_crowd_size : Int32) (x_crowd_paired : Int32) (x_crowd_mates : Nat → Int32) (x_crowd_skills : Nat → Int32) (x_crowd_shores : Nat → Int32) (x_crowd_fars : Nat → Int32) (x_crowd_least : Nat → Int32) {out : Int32 × Int32 × (Nat → Int32) × (Nat → Int32)} (hf : X7_pairs x_crowd_size x_crowd_skills x_crowd_shores x_crowd_fars x_crowd_paired x_crowd_mates x_crowd_least = some out) (hx : p.tables.exec = Jvm.exec) (hb : c.code = cX7_pairs) (hml : c.maxLocals = 1) (hown : s.vm.findClass RX7 = some m.cls) (hts : ∀ w ∈ wsX7_pairs, w.before args s = true) (hK : va_K D vwCl (TYS cy) s) (hE : EV t A s s.heap) (hA : ∀ q, s.heap.size ≤ q → A q) (hP : va_P D vwCl (wd_X7_pairs cy o_t o_t_play o_t_lines o_t_truth o_t_glassTrack o_t_board o_t_otherBoard o_t_fog o_t_crowd o_t_deal x_crowd_size x_crowd_paired x_crowd_mates x_crowd_skills x_crowd_shores x_crowd_fars x_crowd_least) H) (hD : va_D A (wd_X7_pairs cy o_t o_t_play o_t_lines o_t_truth o_t_glassTrack o_t_board o_t_otherBoard o_t_fog o_t_crowd o_t_deal x_crowd_size x_crowd_paired x_crowd_mates x_crowd_skills x_crowd_shores x_crowd_fars x_crowd_least)) (hS : va_S A s.heap H locs) (hl : lv_has ls 1 [(0, .ref (o_t 0))]) (hR : ∀ (H : Heap) (locs : List Loc) (ls : Array Slot) (pc : Nat), va_P D vwCl (wd_X7_pairs cy o_t o_t_play o_t_lines o_t_truth o_t_glassTrack o_t_board o_t_otherBoard o_t_fog o_t_crowd o_t_deal x_crowd_size out.2.1 out.2.2.1 x_crowd_skills x_crowd_shores x_crowd_fars out.2.2.2) H → va_D A (wd_X7_pairs cy o_t o_t_play o_t_lines o_t_truth o_t_glassTrack o_t_board o_t_otherBoard o_t_fog o_t_crowd o_t_deal x_crowd_size out.2.1 out.2.2.1 x_crowd_skills x_crowd_shores x_crowd_fars out.2.2.2) → va_S A s.heap H locs → decode cX7_pairs pc = .ok (.ireturn, 1) → W p l e (rmm 4 92) s m args below meth c H locs 0 0 Q (F0 m pc ls [.int out.1])) : W p l e (rmm 4 92) s m args below meth c H locs 0 0 Q (F0 m 0 ls []) := by
  have k0 := hts (.fieldLink RX7 59 "SeaGames" "crowd" "LSeaGames$Crowd;") (List.mem_cons_of_mem _ (List.mem_append_left _ (List.mem_append_left _ (List.mem_append_left _ (List.mem_of_getElem? (i := 0) rfl)))))
  have k1 : ∀ w ∈ u_ws RX7 TX7 12, w ∈ wsX7_pairs := fun _ h => List.mem_cons_of_mem _ (List.mem_append_left _ (List.mem_append_right _ h))
  rw [X7_pairs] at hf
  refine lv_aload_n hx hb dX7_pairs_0 rfl (lv_at hl 0 rfl) ?_
  refine va_get (D := D) (ci := 7) (v := .ref (o_t_crowd 0)) (C := RX7) (T := TX7) (N := 12) hx hb hts k1 hown hK hP 0 rfl rfl 8 (by decide) k0 (fun _ h9 => h9) rfl dX7_pairs_1 ?_
  obtain ⟨r4, hr4, hf⟩ := bd_s hf
  refine my_Vv (WS2 := (wd_X7_pairs cy o_t o_t_play o_t_lines o_t_truth o_t_glassTrack o_t_board o_t_otherBoard o_t_fog o_t_crowd o_t_deal x_crowd_size r4.1 r4.2.1 x_crowd_skills x_crowd_shores x_crowd_fars r4.2.2)) ⟨hx, hb, hml, hown, hts⟩ (c_X1_pairUp l D cy t o_t_crowd x_crowd_size x_crowd_paired x_crowd_mates x_crowd_skills x_crowd_shores x_crowd_fars x_crowd_least hr4) (cwV 0 hts gX7_pairs_X1_pairUp rfl rfl rfl ⟨rfl, hd_X1_pairUp⟩ ⟨Nat.le_of_ble_eq_true rfl, Nat.le_of_ble_eq_true rfl⟩) hK hE hP hD hS hA [1, 2, 3, 4, 5, 6] 7 1 0 rfl rfl rfl rfl (by decide +kernel) rfl rfl hl.1 rfl (Nat.le_of_ble_eq_true rfl) dX7_pairs_4 ⟨Nat.le_of_ble_eq_true rfl, Nat.le_of_ble_eq_true rfl⟩ (fun H locs hP hD hS => ?_)
  refine lv_aload_n hx hb dX7_pairs_7 rfl (lv_at hl 0 rfl) ?_
  refine va_get (D := D) (ci := 7) (v := .ref (o_t_crowd 0)) (C := RX7) (T := TX7) (N := 12) hx hb hts k1 hown hK hP 0 rfl rfl 8 (by decide) k0 (fun _ h9 => h9) rfl dX7_pairs_8 ?_
  obtain ⟨r11, hr11, hf⟩ := bd_s hf
  refine my_Vi (WS2 := (wd_X7_pairs cy o_t o_t_play o_t_lines o_t_truth o_t_glassTrack o_t_board o_t_otherBoard o_t_fog o_t_crowd o_t_deal x_crowd_size r4.1 r4.2.1 x_crowd_skills x_crowd_shores x_crowd_fars r4.2.2)) ⟨hx, hb, hml, hown, hts⟩ (c_X1_leastCost l D cy t o_t_crowd x_crowd_size r4.1 r4.2.2 hr11) (cwV 0 hts gX7_pairs_X1_leastCost rfl rfl rfl ⟨rfl, hd_X1_leastCost⟩ ⟨Nat.le_of_ble_eq_true rfl, Nat.le_of_ble_eq_true rfl⟩) hK hE hP hD hS hA [1, 6] 7 1 0 rfl rfl rfl rfl (by decide +kernel) rfl rfl hl.1 rfl (Nat.le_of_ble_eq_true rfl) dX7_pairs_11 ⟨Nat.le_of_ble_eq_true rfl, Nat.le_of_ble_eq_true rfl⟩ (fun H locs hP hD hS => ?_)
  obtain rfl := Option.some.inj hf
  exact hR _ _ _ _ hP hD hS dX7_pairs_14
theorem hd_X7_pairs : yX7_pairs.cls ≠ "java/lang/invoke/MethodHandle" ∧ yX7_pairs.cls ≠ "java/lang/invoke/VarHandle" ∧ (parseMethodDescriptor yX7_pairs.desc).map (fun d => d.parameters.length) = some 0 := by decide +kernel
set_option maxRecDepth 100000 in
theorem c_X7_pairs (l : Launch) (D : va_G) (cy : Nat → ClassId) (t : Nat → Nat) (o_t o_t_play o_t_lines o_t_truth o_t_glassTrack o_t_board o_t_otherBoard o_t_fog o_t_crowd o_t_deal : Nat → Nat) (x_crowd_size : Int32) (x_crowd_paired : Int32) (x_crowd_mates : Nat → Int32) (x_crowd_skills : Nat → Int32) (x_crowd_shores : Nat → Int32) (x_crowd_fars : Nat → Int32) (x_crowd_least : Nat → Int32) {out : Int32 × Int32 × (Nat → Int32) × (Nat → Int32)} (hf : X7_pairs x_crowd_size x_crowd_skills x_crowd_shores x_crowd_fars x_crowd_paired x_crowd_mates x_crowd_least = some out) : ctI l yX7_pairs wsX7_pairs 4 92 D cy t [.ref (o_t 0)] (wd_X7_pairs cy o_t o_t_play o_t_lines o_t_truth o_t_glassTrack o_t_board o_t_otherBoard o_t_fog o_t_crowd o_t_deal x_crowd_size x_crowd_paired x_crowd_mates x_crowd_skills x_crowd_shores x_crowd_fars x_crowd_least) (wd_X7_pairs cy o_t o_t_play o_t_lines o_t_truth o_t_glassTrack o_t_board o_t_otherBoard o_t_fog o_t_crowd o_t_deal x_crowd_size out.2.1 out.2.2.1 x_crowd_skills x_crowd_shores x_crowd_fars out.2.2.2) out.1 := by
  refine ⟨rfl, ?_⟩
  intro sz
  refine Met.ofW (cc := cX7_pairs) (maxL := 1) (ret := (some .int)) (by decide) rfl ?_
  intro p e s m args below meth c s₁ B hml hv
  obtain ⟨rfl, hsz, hP, hK, hD0, hE⟩ := hv
  have hts := atoms_spec (ws := wsX7_pairs) B.pre
  have hown : s.vm.findClass RX7 = some m.cls := findClass_of_methodNamed B.named
  have hlocks := B.notSynchronized
  subst hsz
  have hD := hD0.self (sz := s.heap.size)
  have hl := lv_entry ([.ref (o_t 0)]) (n := 1) (Nat.le_of_ble_eq_true rfl)
  rw [lg_entry_eq]
  generalize (lg_sl ([.ref (o_t 0)]) ++ List.replicate (1 - (lg_sl ([.ref (o_t 0)])).length) Slot.unset).toArray = ls at hl ⊢
  exact w_X7_pairs D cy t o_t o_t_play o_t_lines o_t_truth o_t_glassTrack o_t_board o_t_otherBoard o_t_fog o_t_crowd o_t_deal x_crowd_size x_crowd_paired x_crowd_mates x_crowd_skills x_crowd_shores x_crowd_fars x_crowd_least hf B.exec B.bytes hml hown hts hK hE (fun q h => Or.inr h) hP hD va_S.rf hl (fun H locs ls pc hP hD hS hdg => W.iret B.exec B.bytes B.returns (fun t ht hW => ⟨⟨_, (), rfl, rfl, ctB_of ht hP⟩, hS.F ht⟩) hS.2.2 hdg)

noncomputable def X7_mate (x_crowd_size : Int32) (x_crowd_skills : Nat → Int32) (x_crowd_shores : Nat → Int32) (x_crowd_fars : Nat → Int32) (x_crowd_paired : Int32) (x_crowd_mates : Nat → Int32) (x_crowd_least : Nat → Int32) (p1 : Int32) : Option (Int32 × Int32 × (Nat → Int32) × (Nat → Int32)) :=
  if p1 < (0 : Int32) then (some ((-1 : Int32), x_crowd_paired, x_crowd_mates, x_crowd_least)) else (if p1 < x_crowd_size then (bd (X1_pairUp x_crowd_size x_crowd_skills x_crowd_shores x_crowd_fars x_crowd_paired x_crowd_mates x_crowd_least) fun r21 => rd r21.2.1 10 p1 fun v32 => some (v32, r21.1, r21.2.1, r21.2.2)) else (some ((-1 : Int32), x_crowd_paired, x_crowd_mates, x_crowd_least)))
abbrev wd_X7_mate (cy : Nat → ClassId) (o_t o_t_play o_t_lines o_t_truth o_t_glassTrack o_t_board o_t_otherBoard o_t_fog o_t_crowd o_t_deal : Nat → Nat) (x_crowd_size : Int32) (x_crowd_paired : Int32) (x_crowd_mates : Nat → Int32) (x_crowd_skills : Nat → Int32) (x_crowd_shores : Nat → Int32) (x_crowd_fars : Nat → Int32) (x_crowd_least : Nat → Int32) : va_W := [(o_t 0, .inr (7, [.ref (o_t_play 0), .ref (o_t_lines 0), .ref (o_t_truth 0), .ref (o_t_glassTrack 0), .ref (o_t_board 0), .ref (o_t_otherBoard 0), .ref (o_t 7), .ref (o_t_fog 0), .ref (o_t_crowd 0), .ref (o_t_deal 0), .ref (o_t 11), .ref (o_t 12)])), (o_t_crowd 0, .inr (1, [.int x_crowd_size, .ref (o_t_crowd 2), .ref (o_t_crowd 3), .ref (o_t_crowd 4), .ref (o_t_crowd 5), .ref (o_t_crowd 6), .int x_crowd_paired])), (o_t_crowd 2, .inl (cy 0, 10, .inl x_crowd_mates)), (o_t_crowd 3, .inl (cy 0, 10, .inl x_crowd_skills)), (o_t_crowd 4, .inl (cy 0, 10, .inl x_crowd_shores)), (o_t_crowd 5, .inl (cy 0, 16, .inl x_crowd_fars)), (o_t_crowd 6, .inl (cy 0, 1024, .inl x_crowd_least))]
set_option maxHeartbeats 4000000 in
set_option maxRecDepth 100000 in
theorem w_X7_mate {p : Program} {l : Launch} {e : Env} {s : State} {m : MethodId} {args : Array Value} {below : List Frame} {meth : Method} {c : Code} {Q : State → Prop} {A : Nat → Prop} {H : Heap} {locs : List Loc} {ls : Array Slot} (D : va_G) (cy : Nat → ClassId) (t : Nat → Nat) (o_t o_t_play o_t_lines o_t_truth o_t_glassTrack o_t_board o_t_otherBoard o_t_fog o_t_crowd o_t_deal : Nat → Nat) (x_crowd_size : Int32) (x_crowd_paired : Int32) (x_crowd_mates : Nat → Int32) (x_crowd_skills : Nat → Int32) (x_crowd_shores : Nat → Int32) (x_crowd_fars : Nat → Int32) (x_crowd_least : Nat → Int32) (p1 : Int32) {out : Int32 × Int32 × (Nat → Int32) × (Nat → Int32)} (hf : X7_mate x_crowd_size x_crowd_skills x_crowd_shores x_crowd_fars x_crowd_paired x_crowd_mates x_crowd_least p1 = some out) (hx : p.tables.exec = Jvm.exec) (hb : c.code = cX7_mate) (hml : c.maxLocals = 2) (hown : s.vm.findClass RX7 = some m.cls) (hts : ∀ w ∈ wsX7_mate, w.before args s = true) (hK : va_K D vwCl (TYS cy) s) (hE : EV t A s s.heap) (hA : ∀ q, s.heap.size ≤ q → A q) (hP : va_P D vwCl (wd_X7_mate cy o_t o_t_play o_t_lines o_t_truth o_t_glassTrack o_t_board o_t_otherBoard o_t_fog o_t_crowd o_t_deal x_crowd_size x_crowd_paired x_crowd_mates x_crowd_skills x_crowd_shores x_crowd_fars x_crowd_least) H) (hD : va_D A (wd_X7_mate cy o_t o_t_play o_t_lines o_t_truth o_t_glassTrack o_t_board o_t_otherBoard o_t_fog o_t_crowd o_t_deal x_crowd_size x_crowd_paired x_crowd_mates x_crowd_skills x_crowd_shores x_crowd_fars x_crowd_least)) (hS : va_S A s.heap H locs) (hl : lv_has ls 2 [(0, .ref (o_t 0)), (1, .int p1)]) (hR : ∀ (H : Heap) (locs : List Loc) (ls : Array Slot) (pc : Nat), va_P D vwCl (wd_X7_mate cy o_t o_t_play o_t_lines o_t_truth o_t_glassTrack o_t_board o_t_otherBoard o_t_fog o_t_crowd o_t_deal x_crowd_size out.2.1 out.2.2.1 x_crowd_skills x_crowd_shores x_crowd_fars out.2.2.2) H → va_D A (wd_X7_mate cy o_t o_t_play o_t_lines o_t_truth o_t_glassTrack o_t_board o_t_otherBoard o_t_fog o_t_crowd o_t_deal x_crowd_size out.2.1 out.2.2.1 x_crowd_skills x_crowd_shores x_crowd_fars out.2.2.2) → va_S A s.heap H locs → decode cX7_mate pc = .ok (.ireturn, 1) → W p l e (rmm 4 92) s m args below meth c H locs 0 0 Q (F0 m pc ls [.int out.1])) : W p l e (rmm 4 92) s m args below meth c H locs 0 0 Q (F0 m 0 ls []) := by
  have k0 := hts (.fieldLink RX7 59 "SeaGames" "crowd" "LSeaGames$Crowd;") (List.mem_cons_of_mem _ (List.mem_append_left _ (List.mem_append_left _ (List.mem_append_left _ (List.mem_of_getElem? (i := 0) rfl)))))
  have k1 : ∀ w ∈ u_ws RX7 TX7 12, w ∈ wsX7_mate := fun _ h => List.mem_cons_of_mem _ (List.mem_append_left _ (List.mem_append_right _ h))
  have k2 := hts (.fieldLink RX7 221 "SeaGames$Crowd" "size" "I") (List.mem_cons_of_mem _ (List.mem_append_left _ (List.mem_append_left _ (List.mem_append_left _ (List.mem_of_getElem? (i := 1) rfl)))))
  have k3 : ∀ w ∈ u_ws RX1 TX1 7, w ∈ wsX7_mate := fun _ h => List.mem_cons_of_mem _ (List.mem_append_right _ h)
  have k4 := hts (.fieldLink RX7 236 "SeaGames$Crowd" "mates" "[I") (List.mem_cons_of_mem _ (List.mem_append_left _ (List.mem_append_left _ (List.mem_append_left _ (List.mem_of_getElem? (i := 2) rfl)))))
  rw [X7_mate] at hf
  refine lv_iload_n hx hb dX7_mate_0 rfl (lv_at hl 1 rfl) ?_
  refine lv_if_lt (tgt := 15) hx hb dX7_mate_1 (by decide) (fun c1 => ?_) (fun c1 => ?_)
  · have hf := ifp c1 hf
    refine lv_iconst (v := (-1 : Int32)) hx hb dX7_mate_15 (by decide) ?_
    obtain rfl := Option.some.inj hf
    exact hR _ _ _ _ hP hD hS dX7_mate_16
  · have hf := ifn c1 hf
    refine lv_iload_n hx hb dX7_mate_4 rfl (lv_at hl 1 rfl) ?_
    refine lv_aload_n hx hb dX7_mate_5 rfl (lv_at hl 0 rfl) ?_
    refine va_get (D := D) (ci := 7) (v := .ref (o_t_crowd 0)) (C := RX7) (T := TX7) (N := 12) hx hb hts k1 hown hK hP 0 rfl rfl 8 (by decide) k0 (fun _ h9 => h9) rfl dX7_mate_6 ?_
    refine va_get (D := D) (ci := 1) (v := .int x_crowd_size) (C := RX1) (T := TX1) (N := 7) hx hb hts k3 hown hK hP 1 rfl rfl 0 (by decide) k2 (fun _ h9 => h9) rfl dX7_mate_9 ?_
    refine lv_icmp_lt (tgt := 17) hx hb dX7_mate_12 (by decide) (fun c12 => ?_) (fun c12 => ?_)
    · have hf := ifp c12 hf
      refine lv_aload_n hx hb dX7_mate_17 rfl (lv_at hl 0 rfl) ?_
      refine va_get (D := D) (ci := 7) (v := .ref (o_t_crowd 0)) (C := RX7) (T := TX7) (N := 12) hx hb hts k1 hown hK hP 0 rfl rfl 8 (by decide) k0 (fun _ h9 => h9) rfl dX7_mate_18 ?_
      obtain ⟨r21, hr21, hf⟩ := bd_s hf
      refine my_Vv (WS2 := (wd_X7_mate cy o_t o_t_play o_t_lines o_t_truth o_t_glassTrack o_t_board o_t_otherBoard o_t_fog o_t_crowd o_t_deal x_crowd_size r21.1 r21.2.1 x_crowd_skills x_crowd_shores x_crowd_fars r21.2.2)) ⟨hx, hb, hml, hown, hts⟩ (c_X1_pairUp l D cy t o_t_crowd x_crowd_size x_crowd_paired x_crowd_mates x_crowd_skills x_crowd_shores x_crowd_fars x_crowd_least hr21) (cwV 0 hts gX7_mate_X1_pairUp rfl rfl rfl ⟨rfl, hd_X1_pairUp⟩ ⟨Nat.le_of_ble_eq_true rfl, Nat.le_of_ble_eq_true rfl⟩) hK hE hP hD hS hA [1, 2, 3, 4, 5, 6] 7 1 0 rfl rfl rfl rfl (by decide +kernel) rfl rfl hl.1 rfl (Nat.le_of_ble_eq_true rfl) dX7_mate_21 ⟨Nat.le_of_ble_eq_true rfl, Nat.le_of_ble_eq_true rfl⟩ (fun H locs hP hD hS => ?_)
      refine lv_aload_n hx hb dX7_mate_24 rfl (lv_at hl 0 rfl) ?_
      refine va_get (D := D) (ci := 7) (v := .ref (o_t_crowd 0)) (C := RX7) (T := TX7) (N := 12) hx hb hts k1 hown hK hP 0 rfl rfl 8 (by decide) k0 (fun _ h9 => h9) rfl dX7_mate_25 ?_
      refine va_get (D := D) (ci := 1) (v := .ref (o_t_crowd 2)) (C := RX1) (T := TX1) (N := 7) hx hb hts k3 hown hK hP 1 rfl rfl 1 (by decide) k4 (fun _ h9 => h9) rfl dX7_mate_28 ?_
      refine lv_iload_n hx hb dX7_mate_31 rfl (lv_at hl 1 rfl) ?_
      obtain ⟨v32, b32, ev32, hf⟩ := rd_s hf
      refine my_iald hx hb hK hP 2 rfl b32 ev32 dX7_mate_32 ?_
      obtain rfl := Option.some.inj hf
      exact hR _ _ _ _ hP hD hS dX7_mate_33
    · have hf := ifn c12 hf
      refine lv_iconst (v := (-1 : Int32)) hx hb dX7_mate_15 (by decide) ?_
      obtain rfl := Option.some.inj hf
      exact hR _ _ _ _ hP hD hS dX7_mate_16
theorem hd_X7_mate : yX7_mate.cls ≠ "java/lang/invoke/MethodHandle" ∧ yX7_mate.cls ≠ "java/lang/invoke/VarHandle" ∧ (parseMethodDescriptor yX7_mate.desc).map (fun d => d.parameters.length) = some 1 := by decide +kernel
set_option maxRecDepth 100000 in
theorem c_X7_mate (l : Launch) (D : va_G) (cy : Nat → ClassId) (t : Nat → Nat) (o_t o_t_play o_t_lines o_t_truth o_t_glassTrack o_t_board o_t_otherBoard o_t_fog o_t_crowd o_t_deal : Nat → Nat) (x_crowd_size : Int32) (x_crowd_paired : Int32) (x_crowd_mates : Nat → Int32) (x_crowd_skills : Nat → Int32) (x_crowd_shores : Nat → Int32) (x_crowd_fars : Nat → Int32) (x_crowd_least : Nat → Int32) (p1 : Int32) {out : Int32 × Int32 × (Nat → Int32) × (Nat → Int32)} (hf : X7_mate x_crowd_size x_crowd_skills x_crowd_shores x_crowd_fars x_crowd_paired x_crowd_mates x_crowd_least p1 = some out) : ctI l yX7_mate wsX7_mate 4 92 D cy t [.ref (o_t 0), .int p1] (wd_X7_mate cy o_t o_t_play o_t_lines o_t_truth o_t_glassTrack o_t_board o_t_otherBoard o_t_fog o_t_crowd o_t_deal x_crowd_size x_crowd_paired x_crowd_mates x_crowd_skills x_crowd_shores x_crowd_fars x_crowd_least) (wd_X7_mate cy o_t o_t_play o_t_lines o_t_truth o_t_glassTrack o_t_board o_t_otherBoard o_t_fog o_t_crowd o_t_deal x_crowd_size out.2.1 out.2.2.1 x_crowd_skills x_crowd_shores x_crowd_fars out.2.2.2) out.1 := by
  refine ⟨rfl, ?_⟩
  intro sz
  refine Met.ofW (cc := cX7_mate) (maxL := 2) (ret := (some .int)) (by decide) rfl ?_
  intro p e s m args below meth c s₁ B hml hv
  obtain ⟨rfl, hsz, hP, hK, hD0, hE⟩ := hv
  have hts := atoms_spec (ws := wsX7_mate) B.pre
  have hown : s.vm.findClass RX7 = some m.cls := findClass_of_methodNamed B.named
  have hlocks := B.notSynchronized
  subst hsz
  have hD := hD0.self (sz := s.heap.size)
  have hl := lv_entry ([.ref (o_t 0), .int p1]) (n := 2) (Nat.le_of_ble_eq_true rfl)
  rw [lg_entry_eq]
  generalize (lg_sl ([.ref (o_t 0), .int p1]) ++ List.replicate (2 - (lg_sl ([.ref (o_t 0), .int p1])).length) Slot.unset).toArray = ls at hl ⊢
  exact w_X7_mate D cy t o_t o_t_play o_t_lines o_t_truth o_t_glassTrack o_t_board o_t_otherBoard o_t_fog o_t_crowd o_t_deal x_crowd_size x_crowd_paired x_crowd_mates x_crowd_skills x_crowd_shores x_crowd_fars x_crowd_least p1 hf B.exec B.bytes hml hown hts hK hE (fun q h => Or.inr h) hP hD va_S.rf hl (fun H locs ls pc hP hD hS hdg => W.iret B.exec B.bytes B.returns (fun t ht hW => ⟨⟨_, (), rfl, rfl, ctB_of ht hP⟩, hS.F ht⟩) hS.2.2 hdg)

noncomputable def X7_odds_J29 (x_deal_above : Int64) (x_deal_below : Int64) (x_deal_amongHits : Nat → Int64) (x_deal_amongOthers : Nat → Int64) : Option (Int64 × Int64 × Int64 × (Nat → Int64) × (Nat → Int64)) :=
  some ((-2 : Int64), x_deal_above, x_deal_below, x_deal_amongHits, x_deal_amongOthers)
noncomputable def X7_odds_J48 (x_deal_above : Int64) (x_deal_below : Int64) (x_deal_amongHits : Nat → Int64) (x_deal_amongOthers : Nat → Int64) : Option (Int64 × Int64 × Int64 × (Nat → Int64) × (Nat → Int64)) :=
  some ((-2 : Int64), x_deal_above, x_deal_below, x_deal_amongHits, x_deal_amongOthers)
noncomputable def X7_odds (x_deal_above : Int64) (x_deal_below : Int64) (x_deal_amongHits : Nat → Int64) (x_deal_amongOthers : Nat → Int64) (p1 : Int32) (p2 : Int32) (p3 : Int32) (p4 : Int32) (p5 : Int32) : Option (Int64 × Int64 × Int64 × (Nat → Int64) × (Nat → Int64)) :=
  if p1 < (1 : Int32) then (X7_odds_J29  x_deal_above x_deal_below x_deal_amongHits x_deal_amongOthers ) else (if (60 : Int32) < p1 then (X7_odds_J29  x_deal_above x_deal_below x_deal_amongHits x_deal_amongOthers ) else (if p2 < (0 : Int32) then (X7_odds_J29  x_deal_above x_deal_below x_deal_amongHits x_deal_amongOthers ) else (if p1 < p2 then (X7_odds_J29  x_deal_above x_deal_below x_deal_amongHits x_deal_amongOthers ) else (if p3 < (0 : Int32) then (X7_odds_J29  x_deal_above x_deal_below x_deal_amongHits x_deal_amongOthers ) else (if p3 ≤ p1 then (if p4 < (0 : Int32) then (X7_odds_J48  x_deal_above x_deal_below x_deal_amongHits x_deal_amongOthers ) else (if p4 ≤ (if p3 < p2 then p3 else p2) then (bd (X2_reckon x_deal_above x_deal_below x_deal_amongHits x_deal_amongOthers p1 p2 p3 p4) fun r61 => if p5 = (0 : Int32) then (some (r61.2.1, r61.1, r61.2.1, r61.2.2.1, r61.2.2.2)) else (some (r61.1, r61.1, r61.2.1, r61.2.2.1, r61.2.2.2))) else (X7_odds_J48  x_deal_above x_deal_below x_deal_amongHits x_deal_amongOthers ))) else (X7_odds_J29  x_deal_above x_deal_below x_deal_amongHits x_deal_amongOthers ))))))
abbrev wd_X7_odds (cy : Nat → ClassId) (o_t o_t_play o_t_lines o_t_truth o_t_glassTrack o_t_board o_t_otherBoard o_t_fog o_t_crowd o_t_deal : Nat → Nat) (x_deal_above : Int64) (x_deal_below : Int64) (x_deal_amongHits : Nat → Int64) (x_deal_amongOthers : Nat → Int64) : va_W := [(o_t 0, .inr (7, [.ref (o_t_play 0), .ref (o_t_lines 0), .ref (o_t_truth 0), .ref (o_t_glassTrack 0), .ref (o_t_board 0), .ref (o_t_otherBoard 0), .ref (o_t 7), .ref (o_t_fog 0), .ref (o_t_crowd 0), .ref (o_t_deal 0), .ref (o_t 11), .ref (o_t 12)])), (o_t_deal 0, .inr (2, [.long x_deal_above, .long x_deal_below, .ref (o_t_deal 3), .ref (o_t_deal 4)])), (o_t_deal 3, .inl (cy 2, 61, .inr (.inl x_deal_amongHits))), (o_t_deal 4, .inl (cy 2, 61, .inr (.inl x_deal_amongOthers)))]
set_option maxHeartbeats 4000000 in
set_option maxRecDepth 100000 in
theorem w_X7_odds {p : Program} {l : Launch} {e : Env} {s : State} {m : MethodId} {args : Array Value} {below : List Frame} {meth : Method} {c : Code} {Q : State → Prop} {A : Nat → Prop} {H : Heap} {locs : List Loc} {ls : Array Slot} (D : va_G) (cy : Nat → ClassId) (t : Nat → Nat) (o_t o_t_play o_t_lines o_t_truth o_t_glassTrack o_t_board o_t_otherBoard o_t_fog o_t_crowd o_t_deal : Nat → Nat) (x_deal_above : Int64) (x_deal_below : Int64) (x_deal_amongHits : Nat → Int64) (x_deal_amongOthers : Nat → Int64) (p1 : Int32) (p2 : Int32) (p3 : Int32) (p4 : Int32) (p5 : Int32) {out : Int64 × Int64 × Int64 × (Nat → Int64) × (Nat → Int64)} (hf : X7_odds x_deal_above x_deal_below x_deal_amongHits x_deal_amongOthers p1 p2 p3 p4 p5 = some out) (hx : p.tables.exec = Jvm.exec) (hb : c.code = cX7_odds) (hml : c.maxLocals = 6) (hown : s.vm.findClass RX7 = some m.cls) (hts : ∀ w ∈ wsX7_odds, w.before args s = true) (hK : va_K D vwCl (TYS cy) s) (hE : EV t A s s.heap) (hA : ∀ q, s.heap.size ≤ q → A q) (hP : va_P D vwCl (wd_X7_odds cy o_t o_t_play o_t_lines o_t_truth o_t_glassTrack o_t_board o_t_otherBoard o_t_fog o_t_crowd o_t_deal x_deal_above x_deal_below x_deal_amongHits x_deal_amongOthers) H) (hD : va_D A (wd_X7_odds cy o_t o_t_play o_t_lines o_t_truth o_t_glassTrack o_t_board o_t_otherBoard o_t_fog o_t_crowd o_t_deal x_deal_above x_deal_below x_deal_amongHits x_deal_amongOthers)) (hS : va_S A s.heap H locs) (hl : lv_has ls 6 [(0, .ref (o_t 0)), (1, .int p1), (2, .int p2), (3, .int p3), (4, .int p4), (5, .int p5)]) (hR : ∀ (H : Heap) (locs : List Loc) (ls : Array Slot) (pc : Nat), va_P D vwCl (wd_X7_odds cy o_t o_t_play o_t_lines o_t_truth o_t_glassTrack o_t_board o_t_otherBoard o_t_fog o_t_crowd o_t_deal out.2.1 out.2.2.1 out.2.2.2.1 out.2.2.2.2) H → va_D A (wd_X7_odds cy o_t o_t_play o_t_lines o_t_truth o_t_glassTrack o_t_board o_t_otherBoard o_t_fog o_t_crowd o_t_deal out.2.1 out.2.2.1 out.2.2.2.1 out.2.2.2.2) → va_S A s.heap H locs → decode cX7_odds pc = .ok (.lreturn, 1) → W p l e (rmm 3 78) s m args below meth c H locs 0 0 Q (F0 m pc ls [.long out.1])) : W p l e (rmm 3 78) s m args below meth c H locs 0 0 Q (F0 m 0 ls []) := by
  have k0 := hts (.constantLong RX7 239 (-2)) (List.mem_cons_of_mem _ (List.mem_append_left _ (List.mem_append_left _ (List.mem_append_left _ (List.mem_of_getElem? (i := 0) rfl)))))
  have k1 := hts (.methodLink RX7 241 Lib.Math.min.name) (List.mem_cons_of_mem _ (List.mem_append_left _ (List.mem_append_left _ (List.mem_append_left _ (List.mem_of_getElem? (i := 1) rfl)))))
  have k2 := hts (.static Lib.Math.min.name) (List.mem_cons_of_mem _ (List.mem_append_left _ (List.mem_append_left _ (List.mem_append_left _ (List.mem_of_getElem? (i := 2) rfl)))))
  have k3 := hts (.initialized "java/lang/Math") (List.mem_cons_of_mem _ (List.mem_append_left _ (List.mem_append_left _ (List.mem_append_left _ (List.mem_of_getElem? (i := 3) rfl)))))
  have k4 := hts (.code Lib.Math.min.name Lib.Math.min.code 2 (some .int)) (List.mem_cons_of_mem _ (List.mem_append_left _ (List.mem_append_left _ (List.mem_append_left _ (List.mem_of_getElem? (i := 4) rfl)))))
  have k5 := hts (.fieldLink RX7 66 "SeaGames" "deal" "LSeaGames$Deal;") (List.mem_cons_of_mem _ (List.mem_append_left _ (List.mem_append_left _ (List.mem_append_left _ (List.mem_of_getElem? (i := 5) rfl)))))
  have k6 : ∀ w ∈ u_ws RX7 TX7 12, w ∈ wsX7_odds := fun _ h => List.mem_cons_of_mem _ (List.mem_append_left _ (List.mem_append_right _ h))
  have k7 := hts (.fieldLink RX7 252 "SeaGames$Deal" "below" "J") (List.mem_cons_of_mem _ (List.mem_append_left _ (List.mem_append_left _ (List.mem_append_left _ (List.mem_of_getElem? (i := 7) rfl)))))
  have k8 : ∀ w ∈ u_ws RX2 TX2 4, w ∈ wsX7_odds := fun _ h => List.mem_cons_of_mem _ (List.mem_append_right _ h)
  have k9 := hts (.fieldLink RX7 248 "SeaGames$Deal" "above" "J") (List.mem_cons_of_mem _ (List.mem_append_left _ (List.mem_append_left _ (List.mem_append_left _ (List.mem_of_getElem? (i := 6) rfl)))))
  rw [X7_odds] at hf
  have h29 : ∀ (x_deal_above : Int64) (x_deal_below : Int64) (x_deal_amongHits : Nat → Int64) (x_deal_amongOthers : Nat → Int64) (H : Heap) (locs : List Loc) (ls : Array Slot), X7_odds_J29 x_deal_above x_deal_below x_deal_amongHits x_deal_amongOthers = some out → va_P D vwCl (wd_X7_odds cy o_t o_t_play o_t_lines o_t_truth o_t_glassTrack o_t_board o_t_otherBoard o_t_fog o_t_crowd o_t_deal x_deal_above x_deal_below x_deal_amongHits x_deal_amongOthers) H → va_D A (wd_X7_odds cy o_t o_t_play o_t_lines o_t_truth o_t_glassTrack o_t_board o_t_otherBoard o_t_fog o_t_crowd o_t_deal x_deal_above x_deal_below x_deal_amongHits x_deal_amongOthers) → va_S A s.heap H locs → lv_has ls 6 [] → W p l e (rmm 3 78) s m args below meth c H locs 0 0 Q (F0 m 29 ls []) := by
    intro x_deal_above x_deal_below x_deal_amongHits x_deal_amongOthers H locs ls hf hP hD hS hl
    rw [X7_odds_J29] at hf
    refine lv_ldc2 (v := (-2 : Int64)) hx hb hown k0 dX7_odds_29 ?_
    obtain rfl := Option.some.inj hf
    exact hR _ _ _ _ hP hD hS dX7_odds_32
  refine lv_iload_n hx hb dX7_odds_0 rfl (lv_at hl 1 rfl) ?_
  refine lv_iconst (v := (1 : Int32)) hx hb dX7_odds_1 (by decide) ?_
  refine lv_icmp_lt (tgt := 29) hx hb dX7_odds_2 (by decide) (fun c2 => ?_) (fun c2 => ?_)
  · have hf := ifp c2 hf
    exact h29 _ _ _ _ _ _ _ hf hP hD hS (lv_sub hl [] rfl)
  · have hf := ifn c2 hf
    refine lv_iload_n hx hb dX7_odds_5 rfl (lv_at hl 1 rfl) ?_
    refine lv_bipush (v := (60 : Int32)) hx hb dX7_odds_6 (by decide) ?_
    refine lv_icmp_gt (tgt := 29) hx hb dX7_odds_8 (by decide) (fun c8 => ?_) (fun c8 => ?_)
    · have hf := ifp c8 hf
      exact h29 _ _ _ _ _ _ _ hf hP hD hS (lv_sub hl [] rfl)
    · have hf := ifn c8 hf
      refine lv_iload_n hx hb dX7_odds_11 rfl (lv_at hl 2 rfl) ?_
      refine lv_if_lt (tgt := 29) hx hb dX7_odds_12 (by decide) (fun c12 => ?_) (fun c12 => ?_)
      · have hf := ifp c12 hf
        exact h29 _ _ _ _ _ _ _ hf hP hD hS (lv_sub hl [] rfl)
      · have hf := ifn c12 hf
        refine lv_iload_n hx hb dX7_odds_15 rfl (lv_at hl 2 rfl) ?_
        refine lv_iload_n hx hb dX7_odds_16 rfl (lv_at hl 1 rfl) ?_
        refine lv_icmp_gt (tgt := 29) hx hb dX7_odds_17 (by decide) (fun c17 => ?_) (fun c17 => ?_)
        · have hf := ifp c17 hf
          exact h29 _ _ _ _ _ _ _ hf hP hD hS (lv_sub hl [] rfl)
        · have hf := ifn c17 hf
          refine lv_iload_n hx hb dX7_odds_20 rfl (lv_at hl 3 rfl) ?_
          refine lv_if_lt (tgt := 29) hx hb dX7_odds_21 (by decide) (fun c21 => ?_) (fun c21 => ?_)
          · have hf := ifp c21 hf
            exact h29 _ _ _ _ _ _ _ hf hP hD hS (lv_sub hl [] rfl)
          · have hf := ifn c21 hf
            refine lv_iload_n hx hb dX7_odds_24 rfl (lv_at hl 3 rfl) ?_
            refine lv_iload_n hx hb dX7_odds_25 rfl (lv_at hl 1 rfl) ?_
            refine lv_icmp_le (tgt := 33) hx hb dX7_odds_26 (by decide) (fun c26 => ?_) (fun c26 => ?_)
            · have hf := ifp c26 hf
              have h48 : ∀ (x_deal_above : Int64) (x_deal_below : Int64) (x_deal_amongHits : Nat → Int64) (x_deal_amongOthers : Nat → Int64) (H : Heap) (locs : List Loc) (ls : Array Slot), X7_odds_J48 x_deal_above x_deal_below x_deal_amongHits x_deal_amongOthers = some out → va_P D vwCl (wd_X7_odds cy o_t o_t_play o_t_lines o_t_truth o_t_glassTrack o_t_board o_t_otherBoard o_t_fog o_t_crowd o_t_deal x_deal_above x_deal_below x_deal_amongHits x_deal_amongOthers) H → va_D A (wd_X7_odds cy o_t o_t_play o_t_lines o_t_truth o_t_glassTrack o_t_board o_t_otherBoard o_t_fog o_t_crowd o_t_deal x_deal_above x_deal_below x_deal_amongHits x_deal_amongOthers) → va_S A s.heap H locs → lv_has ls 6 [] → W p l e (rmm 3 78) s m args below meth c H locs 0 0 Q (F0 m 48 ls []) := by
                intro x_deal_above x_deal_below x_deal_amongHits x_deal_amongOthers H locs ls hf hP hD hS hl
                rw [X7_odds_J48] at hf
                refine lv_ldc2 (v := (-2 : Int64)) hx hb hown k0 dX7_odds_48 ?_
                obtain rfl := Option.some.inj hf
                exact hR _ _ _ _ hP hD hS dX7_odds_51
              refine lv_iload hx hb dX7_odds_33 (lv_at hl 4 rfl) ?_
              refine lv_if_lt (tgt := 48) hx hb dX7_odds_35 (by decide) (fun c35 => ?_) (fun c35 => ?_)
              · have hf := ifp c35 hf
                exact h48 _ _ _ _ _ _ _ hf hP hD hS (lv_sub hl [] rfl)
              · have hf := ifn c35 hf
                refine lv_iload hx hb dX7_odds_38 (lv_at hl 4 rfl) ?_
                refine lv_iload_n hx hb dX7_odds_40 rfl (lv_at hl 2 rfl) ?_
                refine lv_iload_n hx hb dX7_odds_41 rfl (lv_at hl 3 rfl) ?_
                refine va_mmin hx hb (hml.trans hl.1.symm) hown k1 k2 k3 k4 (Nat.le_of_ble_eq_true rfl) (Nat.le_of_ble_eq_true rfl) (Nat.le_of_ble_eq_true rfl) (Nat.le_of_ble_eq_true rfl) dX7_odds_42 ?_
                refine lv_icmp_le (tgt := 52) hx hb dX7_odds_45 (by decide) (fun c45 => ?_) (fun c45 => ?_)
                · have hf := ifp c45 hf
                  refine lv_aload_n hx hb dX7_odds_52 rfl (lv_at hl 0 rfl) ?_
                  refine va_get (D := D) (ci := 7) (v := .ref (o_t_deal 0)) (C := RX7) (T := TX7) (N := 12) hx hb hts k6 hown hK hP 0 rfl rfl 9 (by decide) k5 (fun _ h9 => h9) rfl dX7_odds_53 ?_
                  refine lv_iload_n hx hb dX7_odds_56 rfl (lv_at hl 1 rfl) ?_
                  refine lv_iload_n hx hb dX7_odds_57 rfl (lv_at hl 2 rfl) ?_
                  refine lv_iload_n hx hb dX7_odds_58 rfl (lv_at hl 3 rfl) ?_
                  refine lv_iload hx hb dX7_odds_59 (lv_at hl 4 rfl) ?_
                  obtain ⟨r61, hr61, hf⟩ := bd_s hf
                  refine my_Vv (WS2 := (wd_X7_odds cy o_t o_t_play o_t_lines o_t_truth o_t_glassTrack o_t_board o_t_otherBoard o_t_fog o_t_crowd o_t_deal r61.1 r61.2.1 r61.2.2.1 r61.2.2.2)) ⟨hx, hb, hml, hown, hts⟩ (c_X2_reckon l D cy t o_t_deal x_deal_above x_deal_below x_deal_amongHits x_deal_amongOthers p1 p2 p3 p4 hr61) (cwV 4 hts gX7_odds_X2_reckon rfl rfl rfl ⟨rfl, hd_X2_reckon⟩ ⟨Nat.le_of_ble_eq_true rfl, Nat.le_of_ble_eq_true rfl⟩) hK hE hP hD hS hA [1, 2, 3] 4 2 0 rfl rfl rfl rfl (by decide +kernel) rfl rfl hl.1 rfl (Nat.le_of_ble_eq_true rfl) dX7_odds_61 ⟨Nat.le_of_ble_eq_true rfl, Nat.le_of_ble_eq_true rfl⟩ (fun H locs hP hD hS => ?_)
                  refine lv_iload hx hb dX7_odds_64 (lv_at hl 5 rfl) ?_
                  refine lv_if_eq (tgt := 79) hx hb dX7_odds_66 (by decide) (fun c66 => ?_) (fun c66 => ?_)
                  · have hf := ifp c66 hf
                    refine lv_aload_n hx hb dX7_odds_79 rfl (lv_at hl 0 rfl) ?_
                    refine va_get (D := D) (ci := 7) (v := .ref (o_t_deal 0)) (C := RX7) (T := TX7) (N := 12) hx hb hts k6 hown hK hP 0 rfl rfl 9 (by decide) k5 (fun _ h9 => h9) rfl dX7_odds_80 ?_
                    refine va_get (D := D) (ci := 2) (v := .long r61.2.1) (C := RX2) (T := TX2) (N := 4) hx hb hts k8 hown hK hP 1 rfl rfl 1 (by decide) k7 (fun _ h9 => h9) rfl dX7_odds_83 ?_
                    obtain rfl := Option.some.inj hf
                    exact hR _ _ _ _ hP hD hS dX7_odds_86
                  · have hf := ifn c66 hf
                    refine lv_aload_n hx hb dX7_odds_69 rfl (lv_at hl 0 rfl) ?_
                    refine va_get (D := D) (ci := 7) (v := .ref (o_t_deal 0)) (C := RX7) (T := TX7) (N := 12) hx hb hts k6 hown hK hP 0 rfl rfl 9 (by decide) k5 (fun _ h9 => h9) rfl dX7_odds_70 ?_
                    refine va_get (D := D) (ci := 2) (v := .long r61.1) (C := RX2) (T := TX2) (N := 4) hx hb hts k8 hown hK hP 1 rfl rfl 0 (by decide) k9 (fun _ h9 => h9) rfl dX7_odds_73 ?_
                    refine lv_goto (tgt := 86) hx hb dX7_odds_76 (by decide) ?_
                    obtain rfl := Option.some.inj hf
                    exact hR _ _ _ _ hP hD hS dX7_odds_86
                · have hf := ifn c45 hf
                  exact h48 _ _ _ _ _ _ _ hf hP hD hS (lv_sub hl [] rfl)
            · have hf := ifn c26 hf
              exact h29 _ _ _ _ _ _ _ hf hP hD hS (lv_sub hl [] rfl)
theorem hd_X7_odds : yX7_odds.cls ≠ "java/lang/invoke/MethodHandle" ∧ yX7_odds.cls ≠ "java/lang/invoke/VarHandle" ∧ (parseMethodDescriptor yX7_odds.desc).map (fun d => d.parameters.length) = some 5 := by decide +kernel
set_option maxRecDepth 100000 in
theorem c_X7_odds (l : Launch) (D : va_G) (cy : Nat → ClassId) (t : Nat → Nat) (o_t o_t_play o_t_lines o_t_truth o_t_glassTrack o_t_board o_t_otherBoard o_t_fog o_t_crowd o_t_deal : Nat → Nat) (x_deal_above : Int64) (x_deal_below : Int64) (x_deal_amongHits : Nat → Int64) (x_deal_amongOthers : Nat → Int64) (p1 : Int32) (p2 : Int32) (p3 : Int32) (p4 : Int32) (p5 : Int32) {out : Int64 × Int64 × Int64 × (Nat → Int64) × (Nat → Int64)} (hf : X7_odds x_deal_above x_deal_below x_deal_amongHits x_deal_amongOthers p1 p2 p3 p4 p5 = some out) : ctL l yX7_odds wsX7_odds 3 78 D cy t [.ref (o_t 0), .int p1, .int p2, .int p3, .int p4, .int p5] (wd_X7_odds cy o_t o_t_play o_t_lines o_t_truth o_t_glassTrack o_t_board o_t_otherBoard o_t_fog o_t_crowd o_t_deal x_deal_above x_deal_below x_deal_amongHits x_deal_amongOthers) (wd_X7_odds cy o_t o_t_play o_t_lines o_t_truth o_t_glassTrack o_t_board o_t_otherBoard o_t_fog o_t_crowd o_t_deal out.2.1 out.2.2.1 out.2.2.2.1 out.2.2.2.2) out.1 := by
  refine ⟨rfl, ?_⟩
  intro sz
  refine Met.ofW (cc := cX7_odds) (maxL := 6) (ret := (some .long)) (by decide) rfl ?_
  intro p e s m args below meth c s₁ B hml hv
  obtain ⟨rfl, hsz, hP, hK, hD0, hE⟩ := hv
  have hts := atoms_spec (ws := wsX7_odds) B.pre
  have hown : s.vm.findClass RX7 = some m.cls := findClass_of_methodNamed B.named
  have hlocks := B.notSynchronized
  subst hsz
  have hD := hD0.self (sz := s.heap.size)
  have hl := lv_entry ([.ref (o_t 0), .int p1, .int p2, .int p3, .int p4, .int p5]) (n := 6) (Nat.le_of_ble_eq_true rfl)
  rw [lg_entry_eq]
  generalize (lg_sl ([.ref (o_t 0), .int p1, .int p2, .int p3, .int p4, .int p5]) ++ List.replicate (6 - (lg_sl ([.ref (o_t 0), .int p1, .int p2, .int p3, .int p4, .int p5])).length) Slot.unset).toArray = ls at hl ⊢
  exact w_X7_odds D cy t o_t o_t_play o_t_lines o_t_truth o_t_glassTrack o_t_board o_t_otherBoard o_t_fog o_t_crowd o_t_deal x_deal_above x_deal_below x_deal_amongHits x_deal_amongOthers p1 p2 p3 p4 p5 hf B.exec B.bytes hml hown hts hK hE (fun q h => Or.inr h) hP hD va_S.rf hl (fun H locs ls pc hP hD hS hdg => W.lret B.exec B.bytes B.returns (fun t ht hW => ⟨⟨_, (), rfl, rfl, ctB_of ht hP⟩, hS.F ht⟩) hS.2.2 hdg)

noncomputable def X7_keep (x_play_w : Int32) (x_play_h : Int32) (x_play_hands : Int32) (x_play_rules : Nat → Int32) (x_play_pressRow : Nat → Int32) (x_play_leftFrom : Nat → Int32) (x_play_leftTo : Nat → Int32) (x_slots_s_w : Int32) (x_slots_s_h : Int32) (x_slots_s_hands : Int32) (x_slots_s_rules : Nat → Int32) (x_slots_s_pressRow : Nat → Int32) (x_slots_s_leftFrom : Nat → Int32) (x_slots_s_leftTo : Nat → Int32) (x_kept : Nat → Int32) (p1 : Int32) : Option (Int32 × Int32 × Int32 × Int32 × (Nat → Int32) × (Nat → Int32) × (Nat → Int32) × (Nat → Int32) × (Nat → Int32)) :=
  bd (X7_isSlot p1) fun r1 => if r1 = (0 : Int32) then (some ((-1 : Int32), x_slots_s_w, x_slots_s_h, x_slots_s_hands, x_slots_s_rules, x_slots_s_pressRow, x_slots_s_leftFrom, x_slots_s_leftTo, x_kept)) else (gdp p1 4 <| bd (X5_copyFrom x_play_w x_play_h x_play_hands x_play_rules x_play_pressRow x_play_leftFrom x_play_leftTo x_slots_s_w x_slots_s_h x_slots_s_hands x_slots_s_rules x_slots_s_pressRow x_slots_s_leftFrom x_slots_s_leftTo) fun r19 => wrZ x_kept 4 p1 (1 : Int32) fun w28 => bd (X5_pressed x_play_hands x_play_pressRow) fun r33 => some (r33, r19.1, r19.2.1, r19.2.2.1, r19.2.2.2.1, r19.2.2.2.2.1, r19.2.2.2.2.2.1, r19.2.2.2.2.2.2, w28))
abbrev wd_X7_keep (cy : Nat → ClassId) (o_t o_t_play o_t_lines o_t_truth o_t_glassTrack o_t_board o_t_otherBoard o_t_fog o_t_crowd o_t_deal o_t_slots_s : Nat → Nat) (sf : Nat → Option Nat) (x_play_w : Int32) (x_play_h : Int32) (x_play_hands : Int32) (x_play_rules : Nat → Int32) (x_play_pressRow : Nat → Int32) (x_play_leftFrom : Nat → Int32) (x_play_leftTo : Nat → Int32) (x_slots_s_w : Int32) (x_slots_s_h : Int32) (x_slots_s_hands : Int32) (x_slots_s_rules : Nat → Int32) (x_slots_s_pressRow : Nat → Int32) (x_slots_s_leftFrom : Nat → Int32) (x_slots_s_leftTo : Nat → Int32) (x_kept : Nat → Int32) : va_W := [(o_t 0, .inr (7, [.ref (o_t_play 0), .ref (o_t_lines 0), .ref (o_t_truth 0), .ref (o_t_glassTrack 0), .ref (o_t_board 0), .ref (o_t_otherBoard 0), .ref (o_t 7), .ref (o_t_fog 0), .ref (o_t_crowd 0), .ref (o_t_deal 0), .ref (o_t 11), .ref (o_t 12)])), (o_t_play 0, .inr (5, [.int x_play_w, .int x_play_h, .int x_play_hands, .ref (o_t_play 4), .ref (o_t_play 5), .ref (o_t_play 6), .ref (o_t_play 7)])), (o_t_play 4, .inl (cy 0, 7, .inl x_play_rules)), (o_t_play 5, .inl (cy 0, 600, .inl x_play_pressRow)), (o_t_play 6, .inl (cy 0, 6, .inl x_play_leftFrom)), (o_t_play 7, .inl (cy 0, 6, .inl x_play_leftTo)), (o_t 11, .inl (cy 3, 4, .inr (.inr (.inr (.inr sf))))), (o_t_slots_s 0, .inr (5, [.int x_slots_s_w, .int x_slots_s_h, .int x_slots_s_hands, .ref (o_t_slots_s 4), .ref (o_t_slots_s 5), .ref (o_t_slots_s 6), .ref (o_t_slots_s 7)])), (o_t_slots_s 4, .inl (cy 0, 7, .inl x_slots_s_rules)), (o_t_slots_s 5, .inl (cy 0, 600, .inl x_slots_s_pressRow)), (o_t_slots_s 6, .inl (cy 0, 6, .inl x_slots_s_leftFrom)), (o_t_slots_s 7, .inl (cy 0, 6, .inl x_slots_s_leftTo)), (o_t 12, .inl (cy 1, 4, .inl x_kept))]
set_option maxHeartbeats 4000000 in
set_option maxRecDepth 100000 in
theorem w_X7_keep {p : Program} {l : Launch} {e : Env} {s : State} {m : MethodId} {args : Array Value} {below : List Frame} {meth : Method} {c : Code} {Q : State → Prop} {A : Nat → Prop} {H : Heap} {locs : List Loc} {ls : Array Slot} (D : va_G) (cy : Nat → ClassId) (t : Nat → Nat) (o_t o_t_play o_t_lines o_t_truth o_t_glassTrack o_t_board o_t_otherBoard o_t_fog o_t_crowd o_t_deal o_t_slots_s : Nat → Nat) (sf : Nat → Option Nat) (x_play_w : Int32) (x_play_h : Int32) (x_play_hands : Int32) (x_play_rules : Nat → Int32) (x_play_pressRow : Nat → Int32) (x_play_leftFrom : Nat → Int32) (x_play_leftTo : Nat → Int32) (x_slots_s_w : Int32) (x_slots_s_h : Int32) (x_slots_s_hands : Int32) (x_slots_s_rules : Nat → Int32) (x_slots_s_pressRow : Nat → Int32) (x_slots_s_leftFrom : Nat → Int32) (x_slots_s_leftTo : Nat → Int32) (x_kept : Nat → Int32) (p1 : Int32) {out : Int32 × Int32 × Int32 × Int32 × (Nat → Int32) × (Nat → Int32) × (Nat → Int32) × (Nat → Int32) × (Nat → Int32)} (hso : vp_in p1 4 → sf p1.toNatClampNeg = some (o_t_slots_s 0)) (hf : X7_keep x_play_w x_play_h x_play_hands x_play_rules x_play_pressRow x_play_leftFrom x_play_leftTo x_slots_s_w x_slots_s_h x_slots_s_hands x_slots_s_rules x_slots_s_pressRow x_slots_s_leftFrom x_slots_s_leftTo x_kept p1 = some out) (hx : p.tables.exec = Jvm.exec) (hb : c.code = cX7_keep) (hml : c.maxLocals = 2) (hown : s.vm.findClass RX7 = some m.cls) (hts : ∀ w ∈ wsX7_keep, w.before args s = true) (hK : va_K D vwCl (TYS cy) s) (hE : EV t A s s.heap) (hA : ∀ q, s.heap.size ≤ q → A q) (hP : va_P D vwCl (wd_X7_keep cy o_t o_t_play o_t_lines o_t_truth o_t_glassTrack o_t_board o_t_otherBoard o_t_fog o_t_crowd o_t_deal o_t_slots_s sf x_play_w x_play_h x_play_hands x_play_rules x_play_pressRow x_play_leftFrom x_play_leftTo x_slots_s_w x_slots_s_h x_slots_s_hands x_slots_s_rules x_slots_s_pressRow x_slots_s_leftFrom x_slots_s_leftTo x_kept) H) (hD : va_D A (wd_X7_keep cy o_t o_t_play o_t_lines o_t_truth o_t_glassTrack o_t_board o_t_otherBoard o_t_fog o_t_crowd o_t_deal o_t_slots_s sf x_play_w x_play_h x_play_hands x_play_rules x_play_pressRow x_play_leftFrom x_play_leftTo x_slots_s_w x_slots_s_h x_slots_s_hands x_slots_s_rules x_slots_s_pressRow x_slots_s_leftFrom x_slots_s_leftTo x_kept)) (hS : va_S A s.heap H locs) (hl : lv_has ls 2 [(0, .ref (o_t 0)), (1, .int p1)]) (hR : ∀ (H : Heap) (locs : List Loc) (ls : Array Slot) (pc : Nat), va_P D vwCl (wd_X7_keep cy o_t o_t_play o_t_lines o_t_truth o_t_glassTrack o_t_board o_t_otherBoard o_t_fog o_t_crowd o_t_deal o_t_slots_s sf x_play_w x_play_h x_play_hands x_play_rules x_play_pressRow x_play_leftFrom x_play_leftTo out.2.1 out.2.2.1 out.2.2.2.1 out.2.2.2.2.1 out.2.2.2.2.2.1 out.2.2.2.2.2.2.1 out.2.2.2.2.2.2.2.1 out.2.2.2.2.2.2.2.2) H → va_D A (wd_X7_keep cy o_t o_t_play o_t_lines o_t_truth o_t_glassTrack o_t_board o_t_otherBoard o_t_fog o_t_crowd o_t_deal o_t_slots_s sf x_play_w x_play_h x_play_hands x_play_rules x_play_pressRow x_play_leftFrom x_play_leftTo out.2.1 out.2.2.1 out.2.2.2.1 out.2.2.2.2.1 out.2.2.2.2.2.1 out.2.2.2.2.2.2.1 out.2.2.2.2.2.2.2.1 out.2.2.2.2.2.2.2.2) → va_S A s.heap H locs → decode cX7_keep pc = .ok (.ireturn, 1) → W p l e (rmm 2 61) s m args below meth c H locs 0 0 Q (F0 m pc ls [.int out.1])) : W p l e (rmm 2 61) s m args below meth c H locs 0 0 Q (F0 m 0 ls []) := by
  have k0 := hts (.fieldLink RX7 70 "SeaGames" "slots" "[LSeaGames$Play;") (List.mem_cons_of_mem _ (List.mem_append_left _ (List.mem_append_left _ (List.mem_append_left _ (List.mem_of_getElem? (i := 0) rfl)))))
  have k1 : ∀ w ∈ u_ws RX7 TX7 12, w ∈ wsX7_keep := fun _ h => List.mem_cons_of_mem _ (List.mem_append_left _ (List.mem_append_right _ h))
  have k2 := hts (.fieldLink RX7 10 "SeaGames" "play" "LSeaGames$Play;") (List.mem_cons_of_mem _ (List.mem_append_left _ (List.mem_append_left _ (List.mem_append_left _ (List.mem_of_getElem? (i := 1) rfl)))))
  have k3 := hts (.fieldLink RX7 74 "SeaGames" "kept" "[Z") (List.mem_cons_of_mem _ (List.mem_append_left _ (List.mem_append_left _ (List.mem_append_left _ (List.mem_of_getElem? (i := 2) rfl)))))
  rw [X7_keep] at hf
  refine lv_iload_n hx hb dX7_keep_0 rfl (lv_at hl 1 rfl) ?_
  obtain ⟨r1, hr1, hf⟩ := bd_s hf
  refine my_Si (WS2 := (wd_X7_keep cy o_t o_t_play o_t_lines o_t_truth o_t_glassTrack o_t_board o_t_otherBoard o_t_fog o_t_crowd o_t_deal o_t_slots_s sf x_play_w x_play_h x_play_hands x_play_rules x_play_pressRow x_play_leftFrom x_play_leftTo x_slots_s_w x_slots_s_h x_slots_s_hands x_slots_s_rules x_slots_s_pressRow x_slots_s_leftFrom x_slots_s_leftTo x_kept)) ⟨hx, hb, hml, hown, hts⟩ (c_X7_isSlot l D cy t p1 hr1) (va_cwS 1 hts gX7_keep_X7_isSlot rfl rfl rfl hd_X7_isSlot ⟨Nat.le_of_ble_eq_true rfl, Nat.le_of_ble_eq_true rfl⟩) hK hE hP hD hS hA [] 13 rfl rfl (by decide +kernel) rfl rfl hl.1 rfl (Nat.le_of_ble_eq_true rfl) dX7_keep_1 ⟨Nat.le_of_ble_eq_true rfl, Nat.le_of_ble_eq_true rfl⟩ (fun H locs hP hD hS => ?_)
  refine lv_if_ne (tgt := 9) hx hb dX7_keep_4 (by decide) (fun c4 => ?_) (fun c4 => ?_)
  · have hf := ifn c4 hf
    refine lv_aload_n hx hb dX7_keep_9 rfl (lv_at hl 0 rfl) ?_
    refine va_get (D := D) (ci := 7) (v := .ref (o_t 11)) (C := RX7) (T := TX7) (N := 12) hx hb hts k1 hown hK hP 0 rfl rfl 10 (by decide) k0 (fun _ h9 => h9) rfl dX7_keep_10 ?_
    refine lv_iload_n hx hb dX7_keep_13 rfl (lv_at hl 1 rfl) ?_
    obtain ⟨b14, hf⟩ := gdp_s hf
    refine my_aald hx hb hK hP 6 rfl b14 (hso b14) dX7_keep_14 ?_
    refine lv_aload_n hx hb dX7_keep_15 rfl (lv_at hl 0 rfl) ?_
    refine va_get (D := D) (ci := 7) (v := .ref (o_t_play 0)) (C := RX7) (T := TX7) (N := 12) hx hb hts k1 hown hK hP 0 rfl rfl 0 (by decide) k2 (fun _ h9 => h9) rfl dX7_keep_16 ?_
    obtain ⟨r19, hr19, hf⟩ := bd_s hf
    refine my_Vv (WS2 := (wd_X7_keep cy o_t o_t_play o_t_lines o_t_truth o_t_glassTrack o_t_board o_t_otherBoard o_t_fog o_t_crowd o_t_deal o_t_slots_s sf x_play_w x_play_h x_play_hands x_play_rules x_play_pressRow x_play_leftFrom x_play_leftTo r19.1 r19.2.1 r19.2.2.1 r19.2.2.2.1 r19.2.2.2.2.1 r19.2.2.2.2.2.1 r19.2.2.2.2.2.2 x_kept)) ⟨hx, hb, hml, hown, hts⟩ (c_X5_copyFrom l D cy t o_t_slots_s o_t_play x_slots_s_w x_slots_s_h x_slots_s_hands x_slots_s_rules x_slots_s_pressRow x_slots_s_leftFrom x_slots_s_leftTo x_play_w x_play_h x_play_hands x_play_rules x_play_pressRow x_play_leftFrom x_play_leftTo hr19) (cwV 1 hts gX7_keep_X5_copyFrom rfl rfl rfl ⟨rfl, hd_X5_copyFrom⟩ ⟨Nat.le_of_ble_eq_true rfl, Nat.le_of_ble_eq_true rfl⟩) hK hE hP hD hS hA [7, 8, 9, 10, 11, 1, 2, 3, 4, 5] 13 5 0 rfl rfl rfl rfl (by decide +kernel) rfl rfl hl.1 rfl (Nat.le_of_ble_eq_true rfl) dX7_keep_19 ⟨Nat.le_of_ble_eq_true rfl, Nat.le_of_ble_eq_true rfl⟩ (fun H locs hP hD hS => ?_)
    refine lv_aload_n hx hb dX7_keep_22 rfl (lv_at hl 0 rfl) ?_
    refine va_get (D := D) (ci := 7) (v := .ref (o_t 12)) (C := RX7) (T := TX7) (N := 12) hx hb hts k1 hown hK hP 0 rfl rfl 11 (by decide) k3 (fun _ h9 => h9) rfl dX7_keep_23 ?_
    refine lv_iload_n hx hb dX7_keep_26 rfl (lv_at hl 1 rfl) ?_
    refine lv_iconst (v := (1 : Int32)) hx hb dX7_keep_27 (by decide) ?_
    obtain ⟨w28, b28, ew28, hf⟩ := wrZ_s hf
    refine my_zast (ws2 := (wd_X7_keep cy o_t o_t_play o_t_lines o_t_truth o_t_glassTrack o_t_board o_t_otherBoard o_t_fog o_t_crowd o_t_deal o_t_slots_s sf x_play_w x_play_h x_play_hands x_play_rules x_play_pressRow x_play_leftFrom x_play_leftTo r19.1 r19.2.1 r19.2.2.1 r19.2.2.2.1 r19.2.2.2.2.1 r19.2.2.2.2.2.1 r19.2.2.2.2.2.2 w28)) hx hb hK hP hD hS 12 rfl b28 ew28 rfl dX7_keep_28 (fun H locs hP hD hS => ?_)
    refine lv_aload_n hx hb dX7_keep_29 rfl (lv_at hl 0 rfl) ?_
    refine va_get (D := D) (ci := 7) (v := .ref (o_t_play 0)) (C := RX7) (T := TX7) (N := 12) hx hb hts k1 hown hK hP 0 rfl rfl 0 (by decide) k2 (fun _ h9 => h9) rfl dX7_keep_30 ?_
    obtain ⟨r33, hr33, hf⟩ := bd_s hf
    refine my_Vi (WS2 := (wd_X7_keep cy o_t o_t_play o_t_lines o_t_truth o_t_glassTrack o_t_board o_t_otherBoard o_t_fog o_t_crowd o_t_deal o_t_slots_s sf x_play_w x_play_h x_play_hands x_play_rules x_play_pressRow x_play_leftFrom x_play_leftTo r19.1 r19.2.1 r19.2.2.1 r19.2.2.2.1 r19.2.2.2.2.1 r19.2.2.2.2.2.1 r19.2.2.2.2.2.2 w28)) ⟨hx, hb, hml, hown, hts⟩ (c_X5_pressed l D cy t o_t_play x_play_w x_play_h x_play_hands x_play_pressRow hr33) (cwV 0 hts gX7_keep_X5_pressed rfl rfl rfl ⟨rfl, hd_X5_pressed⟩ ⟨Nat.le_of_ble_eq_true rfl, Nat.le_of_ble_eq_true rfl⟩) hK hE hP hD hS hA [1, 3] 13 5 0 rfl rfl rfl rfl (by decide +kernel) rfl rfl hl.1 rfl (Nat.le_of_ble_eq_true rfl) dX7_keep_33 ⟨Nat.le_of_ble_eq_true rfl, Nat.le_of_ble_eq_true rfl⟩ (fun H locs hP hD hS => ?_)
    obtain rfl := Option.some.inj hf
    exact hR _ _ _ _ hP hD hS dX7_keep_36
  · have hf := ifp c4 hf
    refine lv_iconst (v := (-1 : Int32)) hx hb dX7_keep_7 (by decide) ?_
    obtain rfl := Option.some.inj hf
    exact hR _ _ _ _ hP hD hS dX7_keep_8
theorem hd_X7_keep : yX7_keep.cls ≠ "java/lang/invoke/MethodHandle" ∧ yX7_keep.cls ≠ "java/lang/invoke/VarHandle" ∧ (parseMethodDescriptor yX7_keep.desc).map (fun d => d.parameters.length) = some 1 := by decide +kernel
set_option maxRecDepth 100000 in
theorem c_X7_keep (l : Launch) (D : va_G) (cy : Nat → ClassId) (t : Nat → Nat) (o_t o_t_play o_t_lines o_t_truth o_t_glassTrack o_t_board o_t_otherBoard o_t_fog o_t_crowd o_t_deal o_t_slots_s : Nat → Nat) (sf : Nat → Option Nat) (x_play_w : Int32) (x_play_h : Int32) (x_play_hands : Int32) (x_play_rules : Nat → Int32) (x_play_pressRow : Nat → Int32) (x_play_leftFrom : Nat → Int32) (x_play_leftTo : Nat → Int32) (x_slots_s_w : Int32) (x_slots_s_h : Int32) (x_slots_s_hands : Int32) (x_slots_s_rules : Nat → Int32) (x_slots_s_pressRow : Nat → Int32) (x_slots_s_leftFrom : Nat → Int32) (x_slots_s_leftTo : Nat → Int32) (x_kept : Nat → Int32) (p1 : Int32) {out : Int32 × Int32 × Int32 × Int32 × (Nat → Int32) × (Nat → Int32) × (Nat → Int32) × (Nat → Int32) × (Nat → Int32)} (hso : vp_in p1 4 → sf p1.toNatClampNeg = some (o_t_slots_s 0)) (hf : X7_keep x_play_w x_play_h x_play_hands x_play_rules x_play_pressRow x_play_leftFrom x_play_leftTo x_slots_s_w x_slots_s_h x_slots_s_hands x_slots_s_rules x_slots_s_pressRow x_slots_s_leftFrom x_slots_s_leftTo x_kept p1 = some out) : ctI l yX7_keep wsX7_keep 2 61 D cy t [.ref (o_t 0), .int p1] (wd_X7_keep cy o_t o_t_play o_t_lines o_t_truth o_t_glassTrack o_t_board o_t_otherBoard o_t_fog o_t_crowd o_t_deal o_t_slots_s sf x_play_w x_play_h x_play_hands x_play_rules x_play_pressRow x_play_leftFrom x_play_leftTo x_slots_s_w x_slots_s_h x_slots_s_hands x_slots_s_rules x_slots_s_pressRow x_slots_s_leftFrom x_slots_s_leftTo x_kept) (wd_X7_keep cy o_t o_t_play o_t_lines o_t_truth o_t_glassTrack o_t_board o_t_otherBoard o_t_fog o_t_crowd o_t_deal o_t_slots_s sf x_play_w x_play_h x_play_hands x_play_rules x_play_pressRow x_play_leftFrom x_play_leftTo out.2.1 out.2.2.1 out.2.2.2.1 out.2.2.2.2.1 out.2.2.2.2.2.1 out.2.2.2.2.2.2.1 out.2.2.2.2.2.2.2.1 out.2.2.2.2.2.2.2.2) out.1 := by
  refine ⟨rfl, ?_⟩
  intro sz
  refine Met.ofW (cc := cX7_keep) (maxL := 2) (ret := (some .int)) (by decide) rfl ?_
  intro p e s m args below meth c s₁ B hml hv
  obtain ⟨rfl, hsz, hP, hK, hD0, hE⟩ := hv
  have hts := atoms_spec (ws := wsX7_keep) B.pre
  have hown : s.vm.findClass RX7 = some m.cls := findClass_of_methodNamed B.named
  have hlocks := B.notSynchronized
  subst hsz
  have hD := hD0.self (sz := s.heap.size)
  have hl := lv_entry ([.ref (o_t 0), .int p1]) (n := 2) (Nat.le_of_ble_eq_true rfl)
  rw [lg_entry_eq]
  generalize (lg_sl ([.ref (o_t 0), .int p1]) ++ List.replicate (2 - (lg_sl ([.ref (o_t 0), .int p1])).length) Slot.unset).toArray = ls at hl ⊢
  exact w_X7_keep D cy t o_t o_t_play o_t_lines o_t_truth o_t_glassTrack o_t_board o_t_otherBoard o_t_fog o_t_crowd o_t_deal o_t_slots_s sf x_play_w x_play_h x_play_hands x_play_rules x_play_pressRow x_play_leftFrom x_play_leftTo x_slots_s_w x_slots_s_h x_slots_s_hands x_slots_s_rules x_slots_s_pressRow x_slots_s_leftFrom x_slots_s_leftTo x_kept p1 hso hf B.exec B.bytes hml hown hts hK hE (fun q h => Or.inr h) hP hD va_S.rf hl (fun H locs ls pc hP hD hS hdg => W.iret B.exec B.bytes B.returns (fun t ht hW => ⟨⟨_, (), rfl, rfl, ctB_of ht hP⟩, hS.F ht⟩) hS.2.2 hdg)

noncomputable def X7_again (x_slots_s_w : Int32) (x_slots_s_h : Int32) (x_slots_s_hands : Int32) (x_slots_s_rules : Nat → Int32) (x_slots_s_pressRow : Nat → Int32) (x_slots_s_leftFrom : Nat → Int32) (x_slots_s_leftTo : Nat → Int32) (x_kept : Nat → Int32) (x_play_w : Int32) (x_play_h : Int32) (x_play_hands : Int32) (x_play_rules : Nat → Int32) (x_play_pressRow : Nat → Int32) (x_play_leftFrom : Nat → Int32) (x_play_leftTo : Nat → Int32) (x_truth_ready : Int32) (p1 : Int32) : Option (Int32 × Int32 × Int32 × Int32 × (Nat → Int32) × (Nat → Int32) × (Nat → Int32) × (Nat → Int32) × Int32) :=
  bd (X7_isSlot p1) fun r1 => if r1 = (0 : Int32) then (some ((-1 : Int32), x_play_w, x_play_h, x_play_hands, x_play_rules, x_play_pressRow, x_play_leftFrom, x_play_leftTo, x_truth_ready)) else (rd x_kept 4 p1 fun v14 => if v14 = (0 : Int32) then (some ((-3 : Int32), x_play_w, x_play_h, x_play_hands, x_play_rules, x_play_pressRow, x_play_leftFrom, x_play_leftTo, x_truth_ready)) else (gdp p1 4 <| bd (X5_copyFrom x_slots_s_w x_slots_s_h x_slots_s_hands x_slots_s_rules x_slots_s_pressRow x_slots_s_leftFrom x_slots_s_leftTo x_play_w x_play_h x_play_hands x_play_rules x_play_pressRow x_play_leftFrom x_play_leftTo) fun r31 => bd (X6_keepBelow x_truth_ready (0 : Int32)) fun r39 => some (r31.2.2.1, r31.1, r31.2.1, r31.2.2.1, r31.2.2.2.1, r31.2.2.2.2.1, r31.2.2.2.2.2.1, r31.2.2.2.2.2.2, r39)))
abbrev wd_X7_again (cy : Nat → ClassId) (o_t o_t_play o_t_lines o_t_truth o_t_glassTrack o_t_board o_t_otherBoard o_t_fog o_t_crowd o_t_deal o_t_slots_s : Nat → Nat) (sf : Nat → Option Nat) (x_play_w : Int32) (x_play_h : Int32) (x_play_hands : Int32) (x_play_rules : Nat → Int32) (x_play_pressRow : Nat → Int32) (x_play_leftFrom : Nat → Int32) (x_play_leftTo : Nat → Int32) (x_truth_ready : Int32) (x_slots_s_w : Int32) (x_slots_s_h : Int32) (x_slots_s_hands : Int32) (x_slots_s_rules : Nat → Int32) (x_slots_s_pressRow : Nat → Int32) (x_slots_s_leftFrom : Nat → Int32) (x_slots_s_leftTo : Nat → Int32) (x_kept : Nat → Int32) : va_W := [(o_t 0, .inr (7, [.ref (o_t_play 0), .ref (o_t_lines 0), .ref (o_t_truth 0), .ref (o_t_glassTrack 0), .ref (o_t_board 0), .ref (o_t_otherBoard 0), .ref (o_t 7), .ref (o_t_fog 0), .ref (o_t_crowd 0), .ref (o_t_deal 0), .ref (o_t 11), .ref (o_t 12)])), (o_t_play 0, .inr (5, [.int x_play_w, .int x_play_h, .int x_play_hands, .ref (o_t_play 4), .ref (o_t_play 5), .ref (o_t_play 6), .ref (o_t_play 7)])), (o_t_play 4, .inl (cy 0, 7, .inl x_play_rules)), (o_t_play 5, .inl (cy 0, 600, .inl x_play_pressRow)), (o_t_play 6, .inl (cy 0, 6, .inl x_play_leftFrom)), (o_t_play 7, .inl (cy 0, 6, .inl x_play_leftTo)), (o_t_truth 0, .inr (6, [.ref (o_t_truth 1), .int x_truth_ready])), (o_t 11, .inl (cy 3, 4, .inr (.inr (.inr (.inr sf))))), (o_t_slots_s 0, .inr (5, [.int x_slots_s_w, .int x_slots_s_h, .int x_slots_s_hands, .ref (o_t_slots_s 4), .ref (o_t_slots_s 5), .ref (o_t_slots_s 6), .ref (o_t_slots_s 7)])), (o_t_slots_s 4, .inl (cy 0, 7, .inl x_slots_s_rules)), (o_t_slots_s 5, .inl (cy 0, 600, .inl x_slots_s_pressRow)), (o_t_slots_s 6, .inl (cy 0, 6, .inl x_slots_s_leftFrom)), (o_t_slots_s 7, .inl (cy 0, 6, .inl x_slots_s_leftTo)), (o_t 12, .inl (cy 1, 4, .inl x_kept))]
set_option maxHeartbeats 4000000 in
set_option maxRecDepth 100000 in
theorem w_X7_again {p : Program} {l : Launch} {e : Env} {s : State} {m : MethodId} {args : Array Value} {below : List Frame} {meth : Method} {c : Code} {Q : State → Prop} {A : Nat → Prop} {H : Heap} {locs : List Loc} {ls : Array Slot} (D : va_G) (cy : Nat → ClassId) (t : Nat → Nat) (o_t o_t_play o_t_lines o_t_truth o_t_glassTrack o_t_board o_t_otherBoard o_t_fog o_t_crowd o_t_deal o_t_slots_s : Nat → Nat) (sf : Nat → Option Nat) (x_play_w : Int32) (x_play_h : Int32) (x_play_hands : Int32) (x_play_rules : Nat → Int32) (x_play_pressRow : Nat → Int32) (x_play_leftFrom : Nat → Int32) (x_play_leftTo : Nat → Int32) (x_truth_ready : Int32) (x_slots_s_w : Int32) (x_slots_s_h : Int32) (x_slots_s_hands : Int32) (x_slots_s_rules : Nat → Int32) (x_slots_s_pressRow : Nat → Int32) (x_slots_s_leftFrom : Nat → Int32) (x_slots_s_leftTo : Nat → Int32) (x_kept : Nat → Int32) (p1 : Int32) {out : Int32 × Int32 × Int32 × Int32 × (Nat → Int32) × (Nat → Int32) × (Nat → Int32) × (Nat → Int32) × Int32} (hso : vp_in p1 4 → sf p1.toNatClampNeg = some (o_t_slots_s 0)) (hf : X7_again x_slots_s_w x_slots_s_h x_slots_s_hands x_slots_s_rules x_slots_s_pressRow x_slots_s_leftFrom x_slots_s_leftTo x_kept x_play_w x_play_h x_play_hands x_play_rules x_play_pressRow x_play_leftFrom x_play_leftTo x_truth_ready p1 = some out) (hx : p.tables.exec = Jvm.exec) (hb : c.code = cX7_again) (hml : c.maxLocals = 2) (hown : s.vm.findClass RX7 = some m.cls) (hts : ∀ w ∈ wsX7_again, w.before args s = true) (hK : va_K D vwCl (TYS cy) s) (hE : EV t A s s.heap) (hA : ∀ q, s.heap.size ≤ q → A q) (hP : va_P D vwCl (wd_X7_again cy o_t o_t_play o_t_lines o_t_truth o_t_glassTrack o_t_board o_t_otherBoard o_t_fog o_t_crowd o_t_deal o_t_slots_s sf x_play_w x_play_h x_play_hands x_play_rules x_play_pressRow x_play_leftFrom x_play_leftTo x_truth_ready x_slots_s_w x_slots_s_h x_slots_s_hands x_slots_s_rules x_slots_s_pressRow x_slots_s_leftFrom x_slots_s_leftTo x_kept) H) (hD : va_D A (wd_X7_again cy o_t o_t_play o_t_lines o_t_truth o_t_glassTrack o_t_board o_t_otherBoard o_t_fog o_t_crowd o_t_deal o_t_slots_s sf x_play_w x_play_h x_play_hands x_play_rules x_play_pressRow x_play_leftFrom x_play_leftTo x_truth_ready x_slots_s_w x_slots_s_h x_slots_s_hands x_slots_s_rules x_slots_s_pressRow x_slots_s_leftFrom x_slots_s_leftTo x_kept)) (hS : va_S A s.heap H locs) (hl : lv_has ls 2 [(0, .ref (o_t 0)), (1, .int p1)]) (hR : ∀ (H : Heap) (locs : List Loc) (ls : Array Slot) (pc : Nat), va_P D vwCl (wd_X7_again cy o_t o_t_play o_t_lines o_t_truth o_t_glassTrack o_t_board o_t_otherBoard o_t_fog o_t_crowd o_t_deal o_t_slots_s sf out.2.1 out.2.2.1 out.2.2.2.1 out.2.2.2.2.1 out.2.2.2.2.2.1 out.2.2.2.2.2.2.1 out.2.2.2.2.2.2.2.1 out.2.2.2.2.2.2.2.2 x_slots_s_w x_slots_s_h x_slots_s_hands x_slots_s_rules x_slots_s_pressRow x_slots_s_leftFrom x_slots_s_leftTo x_kept) H → va_D A (wd_X7_again cy o_t o_t_play o_t_lines o_t_truth o_t_glassTrack o_t_board o_t_otherBoard o_t_fog o_t_crowd o_t_deal o_t_slots_s sf out.2.1 out.2.2.1 out.2.2.2.1 out.2.2.2.2.1 out.2.2.2.2.2.1 out.2.2.2.2.2.2.1 out.2.2.2.2.2.2.2.1 out.2.2.2.2.2.2.2.2 x_slots_s_w x_slots_s_h x_slots_s_hands x_slots_s_rules x_slots_s_pressRow x_slots_s_leftFrom x_slots_s_leftTo x_kept) → va_S A s.heap H locs → decode cX7_again pc = .ok (.ireturn, 1) → W p l e (rmm 2 61) s m args below meth c H locs 0 0 Q (F0 m pc ls [.int out.1])) : W p l e (rmm 2 61) s m args below meth c H locs 0 0 Q (F0 m 0 ls []) := by
  have k0 := hts (.fieldLink RX7 74 "SeaGames" "kept" "[Z") (List.mem_cons_of_mem _ (List.mem_append_left _ (List.mem_append_left _ (List.mem_append_left _ (List.mem_append_left _ (List.mem_of_getElem? (i := 0) rfl))))))
  have k1 : ∀ w ∈ u_ws RX7 TX7 12, w ∈ wsX7_again := fun _ h => List.mem_cons_of_mem _ (List.mem_append_left _ (List.mem_append_left _ (List.mem_append_right _ h)))
  have k2 := hts (.fieldLink RX7 10 "SeaGames" "play" "LSeaGames$Play;") (List.mem_cons_of_mem _ (List.mem_append_left _ (List.mem_append_left _ (List.mem_append_left _ (List.mem_append_left _ (List.mem_of_getElem? (i := 1) rfl))))))
  have k3 := hts (.fieldLink RX7 70 "SeaGames" "slots" "[LSeaGames$Play;") (List.mem_cons_of_mem _ (List.mem_append_left _ (List.mem_append_left _ (List.mem_append_left _ (List.mem_append_left _ (List.mem_of_getElem? (i := 2) rfl))))))
  have k4 := hts (.fieldLink RX7 28 "SeaGames" "truth" "LSeaGames$Track;") (List.mem_cons_of_mem _ (List.mem_append_left _ (List.mem_append_left _ (List.mem_append_left _ (List.mem_append_left _ (List.mem_of_getElem? (i := 3) rfl))))))
  have k5 := hts (.fieldLink RX7 123 "SeaGames$Play" "hands" "I") (List.mem_cons_of_mem _ (List.mem_append_left _ (List.mem_append_left _ (List.mem_append_left _ (List.mem_append_left _ (List.mem_of_getElem? (i := 4) rfl))))))
  have k6 : ∀ w ∈ u_ws RX5 TX5 7, w ∈ wsX7_again := fun _ h => List.mem_cons_of_mem _ (List.mem_append_left _ (List.mem_append_right _ h))
  rw [X7_again] at hf
  refine lv_iload_n hx hb dX7_again_0 rfl (lv_at hl 1 rfl) ?_
  obtain ⟨r1, hr1, hf⟩ := bd_s hf
  refine my_Si (WS2 := (wd_X7_again cy o_t o_t_play o_t_lines o_t_truth o_t_glassTrack o_t_board o_t_otherBoard o_t_fog o_t_crowd o_t_deal o_t_slots_s sf x_play_w x_play_h x_play_hands x_play_rules x_play_pressRow x_play_leftFrom x_play_leftTo x_truth_ready x_slots_s_w x_slots_s_h x_slots_s_hands x_slots_s_rules x_slots_s_pressRow x_slots_s_leftFrom x_slots_s_leftTo x_kept)) ⟨hx, hb, hml, hown, hts⟩ (c_X7_isSlot l D cy t p1 hr1) (va_cwS 1 hts gX7_again_X7_isSlot rfl rfl rfl hd_X7_isSlot ⟨Nat.le_of_ble_eq_true rfl, Nat.le_of_ble_eq_true rfl⟩) hK hE hP hD hS hA [] 14 rfl rfl (by decide +kernel) rfl rfl hl.1 rfl (Nat.le_of_ble_eq_true rfl) dX7_again_1 ⟨Nat.le_of_ble_eq_true rfl, Nat.le_of_ble_eq_true rfl⟩ (fun H locs hP hD hS => ?_)
  refine lv_if_ne (tgt := 9) hx hb dX7_again_4 (by decide) (fun c4 => ?_) (fun c4 => ?_)
  · have hf := ifn c4 hf
    refine lv_aload_n hx hb dX7_again_9 rfl (lv_at hl 0 rfl) ?_
    refine va_get (D := D) (ci := 7) (v := .ref (o_t 12)) (C := RX7) (T := TX7) (N := 12) hx hb hts k1 hown hK hP 0 rfl rfl 11 (by decide) k0 (fun _ h9 => h9) rfl dX7_again_10 ?_
    refine lv_iload_n hx hb dX7_again_13 rfl (lv_at hl 1 rfl) ?_
    obtain ⟨v14, b14, ev14, hf⟩ := rd_s hf
    refine my_zald hx hb hK hP 13 rfl b14 ev14 dX7_again_14 ?_
    refine lv_if_ne (tgt := 21) hx hb dX7_again_15 (by decide) (fun c15 => ?_) (fun c15 => ?_)
    · have hf := ifn c15 hf
      refine lv_aload_n hx hb dX7_again_21 rfl (lv_at hl 0 rfl) ?_
      refine va_get (D := D) (ci := 7) (v := .ref (o_t_play 0)) (C := RX7) (T := TX7) (N := 12) hx hb hts k1 hown hK hP 0 rfl rfl 0 (by decide) k2 (fun _ h9 => h9) rfl dX7_again_22 ?_
      refine lv_aload_n hx hb dX7_again_25 rfl (lv_at hl 0 rfl) ?_
      refine va_get (D := D) (ci := 7) (v := .ref (o_t 11)) (C := RX7) (T := TX7) (N := 12) hx hb hts k1 hown hK hP 0 rfl rfl 10 (by decide) k3 (fun _ h9 => h9) rfl dX7_again_26 ?_
      refine lv_iload_n hx hb dX7_again_29 rfl (lv_at hl 1 rfl) ?_
      obtain ⟨b30, hf⟩ := gdp_s hf
      refine my_aald hx hb hK hP 7 rfl b30 (hso b30) dX7_again_30 ?_
      obtain ⟨r31, hr31, hf⟩ := bd_s hf
      refine my_Vv (WS2 := (wd_X7_again cy o_t o_t_play o_t_lines o_t_truth o_t_glassTrack o_t_board o_t_otherBoard o_t_fog o_t_crowd o_t_deal o_t_slots_s sf r31.1 r31.2.1 r31.2.2.1 r31.2.2.2.1 r31.2.2.2.2.1 r31.2.2.2.2.2.1 r31.2.2.2.2.2.2 x_truth_ready x_slots_s_w x_slots_s_h x_slots_s_hands x_slots_s_rules x_slots_s_pressRow x_slots_s_leftFrom x_slots_s_leftTo x_kept)) ⟨hx, hb, hml, hown, hts⟩ (c_X5_copyFrom l D cy t o_t_play o_t_slots_s x_play_w x_play_h x_play_hands x_play_rules x_play_pressRow x_play_leftFrom x_play_leftTo x_slots_s_w x_slots_s_h x_slots_s_hands x_slots_s_rules x_slots_s_pressRow x_slots_s_leftFrom x_slots_s_leftTo hr31) (cwV 1 hts gX7_again_X5_copyFrom rfl rfl rfl ⟨rfl, hd_X5_copyFrom⟩ ⟨Nat.le_of_ble_eq_true rfl, Nat.le_of_ble_eq_true rfl⟩) hK hE hP hD hS hA [1, 2, 3, 4, 5, 8, 9, 10, 11, 12] 14 5 0 rfl rfl rfl rfl (by decide +kernel) rfl rfl hl.1 rfl (Nat.le_of_ble_eq_true rfl) dX7_again_31 ⟨Nat.le_of_ble_eq_true rfl, Nat.le_of_ble_eq_true rfl⟩ (fun H locs hP hD hS => ?_)
      refine lv_aload_n hx hb dX7_again_34 rfl (lv_at hl 0 rfl) ?_
      refine va_get (D := D) (ci := 7) (v := .ref (o_t_truth 0)) (C := RX7) (T := TX7) (N := 12) hx hb hts k1 hown hK hP 0 rfl rfl 2 (by decide) k4 (fun _ h9 => h9) rfl dX7_again_35 ?_
      refine lv_iconst (v := (0 : Int32)) hx hb dX7_again_38 (by decide) ?_
      obtain ⟨r39, hr39, hf⟩ := bd_s hf
      refine my_Vv (WS2 := (wd_X7_again cy o_t o_t_play o_t_lines o_t_truth o_t_glassTrack o_t_board o_t_otherBoard o_t_fog o_t_crowd o_t_deal o_t_slots_s sf r31.1 r31.2.1 r31.2.2.1 r31.2.2.2.1 r31.2.2.2.2.1 r31.2.2.2.2.2.1 r31.2.2.2.2.2.2 r39 x_slots_s_w x_slots_s_h x_slots_s_hands x_slots_s_rules x_slots_s_pressRow x_slots_s_leftFrom x_slots_s_leftTo x_kept)) ⟨hx, hb, hml, hown, hts⟩ (c_X6_keepBelow l D cy t o_t_truth x_truth_ready (0 : Int32) hr39) (cwV 1 hts gX7_again_X6_keepBelow rfl rfl rfl ⟨rfl, hd_X6_keepBelow⟩ ⟨Nat.le_of_ble_eq_true rfl, Nat.le_of_ble_eq_true rfl⟩) hK hE hP hD hS hA [6] 14 6 0 rfl rfl rfl rfl (by decide +kernel) rfl rfl hl.1 rfl (Nat.le_of_ble_eq_true rfl) dX7_again_39 ⟨Nat.le_of_ble_eq_true rfl, Nat.le_of_ble_eq_true rfl⟩ (fun H locs hP hD hS => ?_)
      refine lv_aload_n hx hb dX7_again_42 rfl (lv_at hl 0 rfl) ?_
      refine va_get (D := D) (ci := 7) (v := .ref (o_t_play 0)) (C := RX7) (T := TX7) (N := 12) hx hb hts k1 hown hK hP 0 rfl rfl 0 (by decide) k2 (fun _ h9 => h9) rfl dX7_again_43 ?_
      refine va_get (D := D) (ci := 5) (v := .int r31.2.2.1) (C := RX5) (T := TX5) (N := 7) hx hb hts k6 hown hK hP 1 rfl rfl 2 (by decide) k5 (fun _ h9 => h9) rfl dX7_again_46 ?_
      obtain rfl := Option.some.inj hf
      exact hR _ _ _ _ hP hD hS dX7_again_49
    · have hf := ifp c15 hf
      refine lv_bipush (v := (-3 : Int32)) hx hb dX7_again_18 (by decide) ?_
      obtain rfl := Option.some.inj hf
      exact hR _ _ _ _ hP hD hS dX7_again_20
  · have hf := ifp c4 hf
    refine lv_iconst (v := (-1 : Int32)) hx hb dX7_again_7 (by decide) ?_
    obtain rfl := Option.some.inj hf
    exact hR _ _ _ _ hP hD hS dX7_again_8
theorem hd_X7_again : yX7_again.cls ≠ "java/lang/invoke/MethodHandle" ∧ yX7_again.cls ≠ "java/lang/invoke/VarHandle" ∧ (parseMethodDescriptor yX7_again.desc).map (fun d => d.parameters.length) = some 1 := by decide +kernel
set_option maxRecDepth 100000 in
theorem c_X7_again (l : Launch) (D : va_G) (cy : Nat → ClassId) (t : Nat → Nat) (o_t o_t_play o_t_lines o_t_truth o_t_glassTrack o_t_board o_t_otherBoard o_t_fog o_t_crowd o_t_deal o_t_slots_s : Nat → Nat) (sf : Nat → Option Nat) (x_play_w : Int32) (x_play_h : Int32) (x_play_hands : Int32) (x_play_rules : Nat → Int32) (x_play_pressRow : Nat → Int32) (x_play_leftFrom : Nat → Int32) (x_play_leftTo : Nat → Int32) (x_truth_ready : Int32) (x_slots_s_w : Int32) (x_slots_s_h : Int32) (x_slots_s_hands : Int32) (x_slots_s_rules : Nat → Int32) (x_slots_s_pressRow : Nat → Int32) (x_slots_s_leftFrom : Nat → Int32) (x_slots_s_leftTo : Nat → Int32) (x_kept : Nat → Int32) (p1 : Int32) {out : Int32 × Int32 × Int32 × Int32 × (Nat → Int32) × (Nat → Int32) × (Nat → Int32) × (Nat → Int32) × Int32} (hso : vp_in p1 4 → sf p1.toNatClampNeg = some (o_t_slots_s 0)) (hf : X7_again x_slots_s_w x_slots_s_h x_slots_s_hands x_slots_s_rules x_slots_s_pressRow x_slots_s_leftFrom x_slots_s_leftTo x_kept x_play_w x_play_h x_play_hands x_play_rules x_play_pressRow x_play_leftFrom x_play_leftTo x_truth_ready p1 = some out) : ctI l yX7_again wsX7_again 2 61 D cy t [.ref (o_t 0), .int p1] (wd_X7_again cy o_t o_t_play o_t_lines o_t_truth o_t_glassTrack o_t_board o_t_otherBoard o_t_fog o_t_crowd o_t_deal o_t_slots_s sf x_play_w x_play_h x_play_hands x_play_rules x_play_pressRow x_play_leftFrom x_play_leftTo x_truth_ready x_slots_s_w x_slots_s_h x_slots_s_hands x_slots_s_rules x_slots_s_pressRow x_slots_s_leftFrom x_slots_s_leftTo x_kept) (wd_X7_again cy o_t o_t_play o_t_lines o_t_truth o_t_glassTrack o_t_board o_t_otherBoard o_t_fog o_t_crowd o_t_deal o_t_slots_s sf out.2.1 out.2.2.1 out.2.2.2.1 out.2.2.2.2.1 out.2.2.2.2.2.1 out.2.2.2.2.2.2.1 out.2.2.2.2.2.2.2.1 out.2.2.2.2.2.2.2.2 x_slots_s_w x_slots_s_h x_slots_s_hands x_slots_s_rules x_slots_s_pressRow x_slots_s_leftFrom x_slots_s_leftTo x_kept) out.1 := by
  refine ⟨rfl, ?_⟩
  intro sz
  refine Met.ofW (cc := cX7_again) (maxL := 2) (ret := (some .int)) (by decide) rfl ?_
  intro p e s m args below meth c s₁ B hml hv
  obtain ⟨rfl, hsz, hP, hK, hD0, hE⟩ := hv
  have hts := atoms_spec (ws := wsX7_again) B.pre
  have hown : s.vm.findClass RX7 = some m.cls := findClass_of_methodNamed B.named
  have hlocks := B.notSynchronized
  subst hsz
  have hD := hD0.self (sz := s.heap.size)
  have hl := lv_entry ([.ref (o_t 0), .int p1]) (n := 2) (Nat.le_of_ble_eq_true rfl)
  rw [lg_entry_eq]
  generalize (lg_sl ([.ref (o_t 0), .int p1]) ++ List.replicate (2 - (lg_sl ([.ref (o_t 0), .int p1])).length) Slot.unset).toArray = ls at hl ⊢
  exact w_X7_again D cy t o_t o_t_play o_t_lines o_t_truth o_t_glassTrack o_t_board o_t_otherBoard o_t_fog o_t_crowd o_t_deal o_t_slots_s sf x_play_w x_play_h x_play_hands x_play_rules x_play_pressRow x_play_leftFrom x_play_leftTo x_truth_ready x_slots_s_w x_slots_s_h x_slots_s_hands x_slots_s_rules x_slots_s_pressRow x_slots_s_leftFrom x_slots_s_leftTo x_kept p1 hso hf B.exec B.bytes hml hown hts hK hE (fun q h => Or.inr h) hP hD va_S.rf hl (fun H locs ls pc hP hD hS hdg => W.iret B.exec B.bytes B.returns (fun t ht hW => ⟨⟨_, (), rfl, rfl, ctB_of ht hP⟩, hS.F ht⟩) hS.2.2 hdg)

noncomputable def X7_tried_J114 (x_slots_s_w : Int32) (x_slots_s_h : Int32) (x_slots_s_hands : Int32) (x_slots_s_rules : Nat → Int32) (x_slots_s_pressRow : Nat → Int32) (x_slots_s_leftFrom : Nat → Int32) (x_slots_s_leftTo : Nat → Int32) (x_kept : Nat → Int32) (x_board_now : Nat → Int32) (x_presses : Nat → Int32) (l6 : Int32) : Option (Int32 × (Nat → Int32) × (Nat → Int32)) :=
  rd x_board_now 13 l6 fun v125 => bd (X7_told x_slots_s_w v125 l6) fun r128 => some (r128, x_board_now, x_presses)
noncomputable def X7_tried_L75_B (x_slots_s_w : Int32) (x_slots_s_h : Int32) (x_slots_s_hands : Int32) (x_slots_s_rules : Nat → Int32) (x_slots_s_pressRow : Nat → Int32) (x_slots_s_leftFrom : Nat → Int32) (x_slots_s_leftTo : Nat → Int32) (x_kept : Nat → Int32) (rec75 : (Nat → Int32) → (Nat → Int32) → Int32 → Int32 → Int32 → Int32 → Option (Int32 × (Nat → Int32) × (Nat → Int32))) (x_board_now : Nat → Int32) (x_presses : Nat → Int32) (l2 : Int32) (l3 : Int32) (l6 : Int32) (l7 : Int32) : Option (Int32 × (Nat → Int32) × (Nat → Int32)) :=
  if l3 < l7 then (X7_tried_J114 x_slots_s_w x_slots_s_h x_slots_s_hands x_slots_s_rules x_slots_s_pressRow x_slots_s_leftFrom x_slots_s_leftTo x_kept  x_board_now x_presses l6) else (bd (X5_fillPresses 6 x_slots_s_hands x_slots_s_pressRow x_presses l7) fun r89 => bd (X0_advance 6 x_slots_s_w x_slots_s_h x_slots_s_hands x_slots_s_rules x_slots_s_leftFrom x_slots_s_leftTo r89 x_board_now l2 l7) fun r105 => nm (l7 + (1 : Int32)) fun v108 => rec75 r105 r89 l2 l3 l6 v108)
noncomputable def X7_tried_L75 (x_slots_s_w : Int32) (x_slots_s_h : Int32) (x_slots_s_hands : Int32) (x_slots_s_rules : Nat → Int32) (x_slots_s_pressRow : Nat → Int32) (x_slots_s_leftFrom : Nat → Int32) (x_slots_s_leftTo : Nat → Int32) (x_kept : Nat → Int32) : Nat → (Nat → Int32) → (Nat → Int32) → Int32 → Int32 → Int32 → Int32 → Option (Int32 × (Nat → Int32) × (Nat → Int32))
  | 0, _, _, _, _, _, _ => none
  | n + 1, y0, y1, y2, y3, y4, y5 => X7_tried_L75_B x_slots_s_w x_slots_s_h x_slots_s_hands x_slots_s_rules x_slots_s_pressRow x_slots_s_leftFrom x_slots_s_leftTo x_kept  (X7_tried_L75 x_slots_s_w x_slots_s_h x_slots_s_hands x_slots_s_rules x_slots_s_pressRow x_slots_s_leftFrom x_slots_s_leftTo x_kept  n) y0 y1 y2 y3 y4 y5
noncomputable def X7_tried (x_slots_s_w : Int32) (x_slots_s_h : Int32) (x_slots_s_hands : Int32) (x_slots_s_rules : Nat → Int32) (x_slots_s_pressRow : Nat → Int32) (x_slots_s_leftFrom : Nat → Int32) (x_slots_s_leftTo : Nat → Int32) (x_kept : Nat → Int32) (x_board_now : Nat → Int32) (x_presses : Nat → Int32) (p1 : Int32) (p2 : Int32) (p3 : Int32) (p4 : Int32) : Option (Int32 × (Nat → Int32) × (Nat → Int32)) :=
  bd (X7_isSlot p1) fun r1 => if r1 = (0 : Int32) then (some ((-1 : Int32), x_board_now, x_presses)) else (bd (X7_isTick p3) fun r8 => if r8 = (0 : Int32) then (some ((-1 : Int32), x_board_now, x_presses)) else (rd x_kept 4 p1 fun v21 => if v21 = (0 : Int32) then (some ((-3 : Int32), x_board_now, x_presses)) else (gdp p1 4 <| bd (X7_columnOf p4 x_slots_s_hands) fun r43 => bd (X7_isPower p2) fun r49 => if r49 = (0 : Int32) then (some ((-2 : Int32), x_board_now, x_presses)) else (if (0 : Int32) ≤ r43 then (bd (X0_start x_slots_s_w x_slots_s_h x_slots_s_hands x_board_now) fun r69 => X7_tried_L75 x_slots_s_w x_slots_s_h x_slots_s_hands x_slots_s_rules x_slots_s_pressRow x_slots_s_leftFrom x_slots_s_leftTo x_kept  FU r69 x_presses p2 p3 r43 (0 : Int32)) else (some ((-2 : Int32), x_board_now, x_presses))))))
abbrev wd_X7_tried (cy : Nat → ClassId) (o_t o_t_play o_t_lines o_t_truth o_t_glassTrack o_t_board o_t_otherBoard o_t_fog o_t_crowd o_t_deal o_t_slots_s : Nat → Nat) (sf : Nat → Option Nat) (x_board_now : Nat → Int32) (x_presses : Nat → Int32) (x_slots_s_w : Int32) (x_slots_s_h : Int32) (x_slots_s_hands : Int32) (x_slots_s_rules : Nat → Int32) (x_slots_s_pressRow : Nat → Int32) (x_slots_s_leftFrom : Nat → Int32) (x_slots_s_leftTo : Nat → Int32) (x_kept : Nat → Int32) : va_W := [(o_t 0, .inr (7, [.ref (o_t_play 0), .ref (o_t_lines 0), .ref (o_t_truth 0), .ref (o_t_glassTrack 0), .ref (o_t_board 0), .ref (o_t_otherBoard 0), .ref (o_t 7), .ref (o_t_fog 0), .ref (o_t_crowd 0), .ref (o_t_deal 0), .ref (o_t 11), .ref (o_t 12)])), (o_t_board 0, .inr (0, [.ref (o_t_board 1)])), (o_t_board 1, .inl (cy 0, 13, .inl x_board_now)), (o_t 7, .inl (cy 0, 6, .inl x_presses)), (o_t 11, .inl (cy 3, 4, .inr (.inr (.inr (.inr sf))))), (o_t_slots_s 0, .inr (5, [.int x_slots_s_w, .int x_slots_s_h, .int x_slots_s_hands, .ref (o_t_slots_s 4), .ref (o_t_slots_s 5), .ref (o_t_slots_s 6), .ref (o_t_slots_s 7)])), (o_t_slots_s 4, .inl (cy 0, 7, .inl x_slots_s_rules)), (o_t_slots_s 5, .inl (cy 0, 600, .inl x_slots_s_pressRow)), (o_t_slots_s 6, .inl (cy 0, 6, .inl x_slots_s_leftFrom)), (o_t_slots_s 7, .inl (cy 0, 6, .inl x_slots_s_leftTo)), (o_t 12, .inl (cy 1, 4, .inl x_kept))]
set_option maxHeartbeats 4000000 in
set_option maxRecDepth 100000 in
theorem w_X7_tried {p : Program} {l : Launch} {e : Env} {s : State} {m : MethodId} {args : Array Value} {below : List Frame} {meth : Method} {c : Code} {Q : State → Prop} {A : Nat → Prop} {H : Heap} {locs : List Loc} {ls : Array Slot} (D : va_G) (cy : Nat → ClassId) (t : Nat → Nat) (o_t o_t_play o_t_lines o_t_truth o_t_glassTrack o_t_board o_t_otherBoard o_t_fog o_t_crowd o_t_deal o_t_slots_s : Nat → Nat) (sf : Nat → Option Nat) (x_board_now : Nat → Int32) (x_presses : Nat → Int32) (x_slots_s_w : Int32) (x_slots_s_h : Int32) (x_slots_s_hands : Int32) (x_slots_s_rules : Nat → Int32) (x_slots_s_pressRow : Nat → Int32) (x_slots_s_leftFrom : Nat → Int32) (x_slots_s_leftTo : Nat → Int32) (x_kept : Nat → Int32) (p1 : Int32) (p2 : Int32) (p3 : Int32) (p4 : Int32) {out : Int32 × (Nat → Int32) × (Nat → Int32)} (hso : vp_in p1 4 → sf p1.toNatClampNeg = some (o_t_slots_s 0)) (hf : X7_tried x_slots_s_w x_slots_s_h x_slots_s_hands x_slots_s_rules x_slots_s_pressRow x_slots_s_leftFrom x_slots_s_leftTo x_kept x_board_now x_presses p1 p2 p3 p4 = some out) (hx : p.tables.exec = Jvm.exec) (hb : c.code = cX7_tried) (hml : c.maxLocals = 8) (hown : s.vm.findClass RX7 = some m.cls) (hts : ∀ w ∈ wsX7_tried, w.before args s = true) (hK : va_K D vwCl (TYS cy) s) (hE : EV t A s s.heap) (hA : ∀ q, s.heap.size ≤ q → A q) (hP : va_P D vwCl (wd_X7_tried cy o_t o_t_play o_t_lines o_t_truth o_t_glassTrack o_t_board o_t_otherBoard o_t_fog o_t_crowd o_t_deal o_t_slots_s sf x_board_now x_presses x_slots_s_w x_slots_s_h x_slots_s_hands x_slots_s_rules x_slots_s_pressRow x_slots_s_leftFrom x_slots_s_leftTo x_kept) H) (hD : va_D A (wd_X7_tried cy o_t o_t_play o_t_lines o_t_truth o_t_glassTrack o_t_board o_t_otherBoard o_t_fog o_t_crowd o_t_deal o_t_slots_s sf x_board_now x_presses x_slots_s_w x_slots_s_h x_slots_s_hands x_slots_s_rules x_slots_s_pressRow x_slots_s_leftFrom x_slots_s_leftTo x_kept)) (hS : va_S A s.heap H locs) (hl : lv_has ls 8 [(0, .ref (o_t 0)), (1, .int p1), (2, .int p2), (3, .int p3), (4, .int p4)]) (hR : ∀ (H : Heap) (locs : List Loc) (ls : Array Slot) (pc : Nat), va_P D vwCl (wd_X7_tried cy o_t o_t_play o_t_lines o_t_truth o_t_glassTrack o_t_board o_t_otherBoard o_t_fog o_t_crowd o_t_deal o_t_slots_s sf out.2.1 out.2.2 x_slots_s_w x_slots_s_h x_slots_s_hands x_slots_s_rules x_slots_s_pressRow x_slots_s_leftFrom x_slots_s_leftTo x_kept) H → va_D A (wd_X7_tried cy o_t o_t_play o_t_lines o_t_truth o_t_glassTrack o_t_board o_t_otherBoard o_t_fog o_t_crowd o_t_deal o_t_slots_s sf out.2.1 out.2.2 x_slots_s_w x_slots_s_h x_slots_s_hands x_slots_s_rules x_slots_s_pressRow x_slots_s_leftFrom x_slots_s_leftTo x_kept) → va_S A s.heap H locs → decode cX7_tried pc = .ok (.ireturn, 1) → W p l e (rmm 5 118) s m args below meth c H locs 0 0 Q (F0 m pc ls [.int out.1])) : W p l e (rmm 5 118) s m args below meth c H locs 0 0 Q (F0 m 0 ls []) := by
  have k0 := hts (.fieldLink RX7 74 "SeaGames" "kept" "[Z") (List.mem_cons_of_mem _ (List.mem_append_left _ (List.mem_append_left _ (List.mem_append_left _ (List.mem_append_left _ (List.mem_of_getElem? (i := 0) rfl))))))
  have k1 : ∀ w ∈ u_ws RX7 TX7 12, w ∈ wsX7_tried := fun _ h => List.mem_cons_of_mem _ (List.mem_append_left _ (List.mem_append_left _ (List.mem_append_right _ h)))
  have k2 := hts (.fieldLink RX7 70 "SeaGames" "slots" "[LSeaGames$Play;") (List.mem_cons_of_mem _ (List.mem_append_left _ (List.mem_append_left _ (List.mem_append_left _ (List.mem_append_left _ (List.mem_of_getElem? (i := 1) rfl))))))
  have k3 := hts (.fieldLink RX7 123 "SeaGames$Play" "hands" "I") (List.mem_cons_of_mem _ (List.mem_append_left _ (List.mem_append_left _ (List.mem_append_left _ (List.mem_append_left _ (List.mem_of_getElem? (i := 2) rfl))))))
  have k4 : ∀ w ∈ u_ws RX5 TX5 7, w ∈ wsX7_tried := fun _ h => List.mem_cons_of_mem _ (List.mem_append_left _ (List.mem_append_right _ h))
  have k5 := hts (.fieldLink RX7 38 "SeaGames" "board" "LSeaGames$Board;") (List.mem_cons_of_mem _ (List.mem_append_left _ (List.mem_append_left _ (List.mem_append_left _ (List.mem_append_left _ (List.mem_of_getElem? (i := 3) rfl))))))
  have k6 := hts (.fieldLink RX7 278 "SeaGames$Board" "now" "[I") (List.mem_cons_of_mem _ (List.mem_append_left _ (List.mem_append_left _ (List.mem_append_left _ (List.mem_append_left _ (List.mem_of_getElem? (i := 5) rfl))))))
  have k7 : ∀ w ∈ u_ws RX0 TX0 1, w ∈ wsX7_tried := fun _ h => List.mem_cons_of_mem _ (List.mem_append_right _ h)
  have k8 := hts (.fieldLink RX7 45 "SeaGames" "presses" "[I") (List.mem_cons_of_mem _ (List.mem_append_left _ (List.mem_append_left _ (List.mem_append_left _ (List.mem_append_left _ (List.mem_of_getElem? (i := 4) rfl))))))
  rw [X7_tried] at hf
  refine lv_iload_n hx hb dX7_tried_0 rfl (lv_at hl 1 rfl) ?_
  obtain ⟨r1, hr1, hf⟩ := bd_s hf
  refine my_Si (WS2 := (wd_X7_tried cy o_t o_t_play o_t_lines o_t_truth o_t_glassTrack o_t_board o_t_otherBoard o_t_fog o_t_crowd o_t_deal o_t_slots_s sf x_board_now x_presses x_slots_s_w x_slots_s_h x_slots_s_hands x_slots_s_rules x_slots_s_pressRow x_slots_s_leftFrom x_slots_s_leftTo x_kept)) ⟨hx, hb, hml, hown, hts⟩ (c_X7_isSlot l D cy t p1 hr1) (va_cwS 1 hts gX7_tried_X7_isSlot rfl rfl rfl hd_X7_isSlot ⟨Nat.le_of_ble_eq_true rfl, Nat.le_of_ble_eq_true rfl⟩) hK hE hP hD hS hA [] 11 rfl rfl (by decide +kernel) rfl rfl hl.1 rfl (Nat.le_of_ble_eq_true rfl) dX7_tried_1 ⟨Nat.le_of_ble_eq_true rfl, Nat.le_of_ble_eq_true rfl⟩ (fun H locs hP hD hS => ?_)
  refine lv_if_eq (tgt := 14) hx hb dX7_tried_4 (by decide) (fun c4 => ?_) (fun c4 => ?_)
  · have hf := ifp c4 hf
    refine lv_iconst (v := (-1 : Int32)) hx hb dX7_tried_14 (by decide) ?_
    obtain rfl := Option.some.inj hf
    exact hR _ _ _ _ hP hD hS dX7_tried_15
  · have hf := ifn c4 hf
    refine lv_iload_n hx hb dX7_tried_7 rfl (lv_at hl 3 rfl) ?_
    obtain ⟨r8, hr8, hf⟩ := bd_s hf
    refine my_Si (WS2 := (wd_X7_tried cy o_t o_t_play o_t_lines o_t_truth o_t_glassTrack o_t_board o_t_otherBoard o_t_fog o_t_crowd o_t_deal o_t_slots_s sf x_board_now x_presses x_slots_s_w x_slots_s_h x_slots_s_hands x_slots_s_rules x_slots_s_pressRow x_slots_s_leftFrom x_slots_s_leftTo x_kept)) ⟨hx, hb, hml, hown, hts⟩ (c_X7_isTick l D cy t p3 hr8) (va_cwS 1 hts gX7_tried_X7_isTick rfl rfl rfl hd_X7_isTick ⟨Nat.le_of_ble_eq_true rfl, Nat.le_of_ble_eq_true rfl⟩) hK hE hP hD hS hA [] 11 rfl rfl (by decide +kernel) rfl rfl hl.1 rfl (Nat.le_of_ble_eq_true rfl) dX7_tried_8 ⟨Nat.le_of_ble_eq_true rfl, Nat.le_of_ble_eq_true rfl⟩ (fun H locs hP hD hS => ?_)
    refine lv_if_ne (tgt := 16) hx hb dX7_tried_11 (by decide) (fun c11 => ?_) (fun c11 => ?_)
    · have hf := ifn c11 hf
      refine lv_aload_n hx hb dX7_tried_16 rfl (lv_at hl 0 rfl) ?_
      refine va_get (D := D) (ci := 7) (v := .ref (o_t 12)) (C := RX7) (T := TX7) (N := 12) hx hb hts k1 hown hK hP 0 rfl rfl 11 (by decide) k0 (fun _ h9 => h9) rfl dX7_tried_17 ?_
      refine lv_iload_n hx hb dX7_tried_20 rfl (lv_at hl 1 rfl) ?_
      obtain ⟨v21, b21, ev21, hf⟩ := rd_s hf
      refine my_zald hx hb hK hP 10 rfl b21 ev21 dX7_tried_21 ?_
      refine lv_if_ne (tgt := 28) hx hb dX7_tried_22 (by decide) (fun c22 => ?_) (fun c22 => ?_)
      · have hf := ifn c22 hf
        refine lv_aload_n hx hb dX7_tried_28 rfl (lv_at hl 0 rfl) ?_
        refine va_get (D := D) (ci := 7) (v := .ref (o_t 11)) (C := RX7) (T := TX7) (N := 12) hx hb hts k1 hown hK hP 0 rfl rfl 10 (by decide) k2 (fun _ h9 => h9) rfl dX7_tried_29 ?_
        refine lv_iload_n hx hb dX7_tried_32 rfl (lv_at hl 1 rfl) ?_
        obtain ⟨b33, hf⟩ := gdp_s hf
        refine my_aald hx hb hK hP 4 rfl b33 (hso b33) dX7_tried_33 ?_
        refine lv_astore (lv' := [(5, .ref (o_t_slots_s 0)), (0, .ref (o_t 0)), (1, .int p1), (2, .int p2), (3, .int p3), (4, .int p4)]) hx hb dX7_tried_34 hl (by decide) rfl (fun ls hl => ?_)
        refine lv_iload hx hb dX7_tried_36 (lv_at hl 5 rfl) ?_
        refine lv_aload hx hb dX7_tried_38 (lv_at hl 0 rfl) ?_
        refine va_get (D := D) (ci := 5) (v := .int x_slots_s_hands) (C := RX5) (T := TX5) (N := 7) hx hb hts k4 hown hK hP 5 rfl rfl 2 (by decide) k3 (fun _ h9 => h9) rfl dX7_tried_40 ?_
        obtain ⟨r43, hr43, hf⟩ := bd_s hf
        refine my_Si (WS2 := (wd_X7_tried cy o_t o_t_play o_t_lines o_t_truth o_t_glassTrack o_t_board o_t_otherBoard o_t_fog o_t_crowd o_t_deal o_t_slots_s sf x_board_now x_presses x_slots_s_w x_slots_s_h x_slots_s_hands x_slots_s_rules x_slots_s_pressRow x_slots_s_leftFrom x_slots_s_leftTo x_kept)) ⟨hx, hb, hml, hown, hts⟩ (c_X7_columnOf l D cy t p4 x_slots_s_hands hr43) (va_cwS 2 hts gX7_tried_X7_columnOf rfl rfl rfl hd_X7_columnOf ⟨Nat.le_of_ble_eq_true rfl, Nat.le_of_ble_eq_true rfl⟩) hK hE hP hD hS hA [] 11 rfl rfl (by decide +kernel) rfl rfl hl.1 rfl (Nat.le_of_ble_eq_true rfl) dX7_tried_43 ⟨Nat.le_of_ble_eq_true rfl, Nat.le_of_ble_eq_true rfl⟩ (fun H locs hP hD hS => ?_)
        refine lv_istore (lv' := [(6, .int r43), (5, .ref (o_t_slots_s 0)), (0, .ref (o_t 0)), (1, .int p1), (2, .int p2), (3, .int p3), (4, .int p4)]) hx hb dX7_tried_46 hl (by decide) rfl (fun ls hl => ?_)
        refine lv_iload_n hx hb dX7_tried_48 rfl (lv_at hl 4 rfl) ?_
        obtain ⟨r49, hr49, hf⟩ := bd_s hf
        refine my_Si (WS2 := (wd_X7_tried cy o_t o_t_play o_t_lines o_t_truth o_t_glassTrack o_t_board o_t_otherBoard o_t_fog o_t_crowd o_t_deal o_t_slots_s sf x_board_now x_presses x_slots_s_w x_slots_s_h x_slots_s_hands x_slots_s_rules x_slots_s_pressRow x_slots_s_leftFrom x_slots_s_leftTo x_kept)) ⟨hx, hb, hml, hown, hts⟩ (c_X7_isPower l D cy t p2 hr49) (va_cwS 1 hts gX7_tried_X7_isPower rfl rfl rfl hd_X7_isPower ⟨Nat.le_of_ble_eq_true rfl, Nat.le_of_ble_eq_true rfl⟩) hK hE hP hD hS hA [] 11 rfl rfl (by decide +kernel) rfl rfl hl.1 rfl (Nat.le_of_ble_eq_true rfl) dX7_tried_49 ⟨Nat.le_of_ble_eq_true rfl, Nat.le_of_ble_eq_true rfl⟩ (fun H locs hP hD hS => ?_)
        refine lv_if_eq (tgt := 60) hx hb dX7_tried_52 (by decide) (fun c52 => ?_) (fun c52 => ?_)
        · have hf := ifp c52 hf
          refine lv_bipush (v := (-2 : Int32)) hx hb dX7_tried_60 (by decide) ?_
          obtain rfl := Option.some.inj hf
          exact hR _ _ _ _ hP hD hS dX7_tried_62
        · have hf := ifn c52 hf
          refine lv_iload hx hb dX7_tried_55 (lv_at hl 0 rfl) ?_
          refine lv_if_ge (tgt := 63) hx hb dX7_tried_57 (by decide) (fun c57 => ?_) (fun c57 => ?_)
          · have hf := ifp c57 hf
            have h75 : ∀ (n75 : Nat) (x_board_now : Nat → Int32) (x_presses : Nat → Int32) (l2 : Int32) (l3 : Int32) (l6 : Int32) (l7 : Int32) (H : Heap) (locs : List Loc) (ls : Array Slot), X7_tried_L75 x_slots_s_w x_slots_s_h x_slots_s_hands x_slots_s_rules x_slots_s_pressRow x_slots_s_leftFrom x_slots_s_leftTo x_kept n75 x_board_now x_presses l2 l3 l6 l7 = some out → va_P D vwCl (wd_X7_tried cy o_t o_t_play o_t_lines o_t_truth o_t_glassTrack o_t_board o_t_otherBoard o_t_fog o_t_crowd o_t_deal o_t_slots_s sf x_board_now x_presses x_slots_s_w x_slots_s_h x_slots_s_hands x_slots_s_rules x_slots_s_pressRow x_slots_s_leftFrom x_slots_s_leftTo x_kept) H → va_D A (wd_X7_tried cy o_t o_t_play o_t_lines o_t_truth o_t_glassTrack o_t_board o_t_otherBoard o_t_fog o_t_crowd o_t_deal o_t_slots_s sf x_board_now x_presses x_slots_s_w x_slots_s_h x_slots_s_hands x_slots_s_rules x_slots_s_pressRow x_slots_s_leftFrom x_slots_s_leftTo x_kept) → va_S A s.heap H locs → lv_has ls 8 [(0, .ref (o_t 0)), (2, .int l2), (3, .int l3), (5, .ref (o_t_slots_s 0)), (6, .int l6), (7, .int l7)] → W p l e (rmm 5 118) s m args below meth c H locs 0 0 Q (F0 m 75 ls []) := by
              intro n75
              induction n75 with
              | zero =>
                intro _ _ _ _ _ _ _ _ _ hf
                exact nomatch (show (none : Option _) = some out from hf)
              | succ n75 ih75 =>
                intro x_board_now x_presses l2 l3 l6 l7 H locs ls hf hP hD hS hl
                have hf : X7_tried_L75_B x_slots_s_w x_slots_s_h x_slots_s_hands x_slots_s_rules x_slots_s_pressRow x_slots_s_leftFrom x_slots_s_leftTo x_kept (X7_tried_L75 x_slots_s_w x_slots_s_h x_slots_s_hands x_slots_s_rules x_slots_s_pressRow x_slots_s_leftFrom x_slots_s_leftTo x_kept n75) x_board_now x_presses l2 l3 l6 l7 = some out := hf
                rw [X7_tried_L75_B] at hf
                have h114 : ∀ (x_board_now : Nat → Int32) (x_presses : Nat → Int32) (l6 : Int32) (H : Heap) (locs : List Loc) (ls : Array Slot), X7_tried_J114 x_slots_s_w x_slots_s_h x_slots_s_hands x_slots_s_rules x_slots_s_pressRow x_slots_s_leftFrom x_slots_s_leftTo x_kept x_board_now x_presses l6 = some out → va_P D vwCl (wd_X7_tried cy o_t o_t_play o_t_lines o_t_truth o_t_glassTrack o_t_board o_t_otherBoard o_t_fog o_t_crowd o_t_deal o_t_slots_s sf x_board_now x_presses x_slots_s_w x_slots_s_h x_slots_s_hands x_slots_s_rules x_slots_s_pressRow x_slots_s_leftFrom x_slots_s_leftTo x_kept) H → va_D A (wd_X7_tried cy o_t o_t_play o_t_lines o_t_truth o_t_glassTrack o_t_board o_t_otherBoard o_t_fog o_t_crowd o_t_deal o_t_slots_s sf x_board_now x_presses x_slots_s_w x_slots_s_h x_slots_s_hands x_slots_s_rules x_slots_s_pressRow x_slots_s_leftFrom x_slots_s_leftTo x_kept) → va_S A s.heap H locs → lv_has ls 8 [(0, .ref (o_t 0)), (5, .ref (o_t_slots_s 0)), (6, .int l6)] → W p l e (rmm 5 118) s m args below meth c H locs 0 0 Q (F0 m 114 ls []) := by
                  intro x_board_now x_presses l6 H locs ls hf hP hD hS hl
                  rw [X7_tried_J114] at hf
                  refine lv_aload hx hb dX7_tried_114 (lv_at hl 1 rfl) ?_
                  refine lv_aload_n hx hb dX7_tried_116 rfl (lv_at hl 0 rfl) ?_
                  refine va_get (D := D) (ci := 7) (v := .ref (o_t_board 0)) (C := RX7) (T := TX7) (N := 12) hx hb hts k1 hown hK hP 0 rfl rfl 4 (by decide) k5 (fun _ h9 => h9) rfl dX7_tried_117 ?_
                  refine va_get (D := D) (ci := 0) (v := .ref (o_t_board 1)) (C := RX0) (T := TX0) (N := 1) hx hb hts k7 hown hK hP 1 rfl rfl 0 (by decide) k6 (fun _ h9 => h9) rfl dX7_tried_120 ?_
                  refine lv_iload hx hb dX7_tried_123 (lv_at hl 2 rfl) ?_
                  obtain ⟨v125, b125, ev125, hf⟩ := rd_s hf
                  refine my_iald hx hb hK hP 2 rfl b125 ev125 dX7_tried_125 ?_
                  refine lv_iload hx hb dX7_tried_126 (lv_at hl 2 rfl) ?_
                  obtain ⟨r128, hr128, hf⟩ := bd_s hf
                  refine my_Si (WS2 := (wd_X7_tried cy o_t o_t_play o_t_lines o_t_truth o_t_glassTrack o_t_board o_t_otherBoard o_t_fog o_t_crowd o_t_deal o_t_slots_s sf x_board_now x_presses x_slots_s_w x_slots_s_h x_slots_s_hands x_slots_s_rules x_slots_s_pressRow x_slots_s_leftFrom x_slots_s_leftTo x_kept)) ⟨hx, hb, hml, hown, hts⟩ (c_X7_told l D cy t o_t_slots_s x_slots_s_w x_slots_s_h x_slots_s_hands v125 l6 hr128) (va_cwS 3 hts gX7_tried_X7_told rfl rfl rfl hd_X7_told ⟨Nat.le_of_ble_eq_true rfl, Nat.le_of_ble_eq_true rfl⟩) hK hE hP hD hS hA [5] 11 rfl rfl (by decide +kernel) rfl rfl hl.1 rfl (Nat.le_of_ble_eq_true rfl) dX7_tried_128 ⟨Nat.le_of_ble_eq_true rfl, Nat.le_of_ble_eq_true rfl⟩ (fun H locs hP hD hS => ?_)
                  obtain rfl := Option.some.inj hf
                  exact hR _ _ _ _ hP hD hS dX7_tried_131
                refine lv_iload hx hb dX7_tried_75 (lv_at hl 5 rfl) ?_
                refine lv_iload_n hx hb dX7_tried_77 rfl (lv_at hl 2 rfl) ?_
                refine lv_icmp_gt (tgt := 114) hx hb dX7_tried_78 (by decide) (fun c78 => ?_) (fun c78 => ?_)
                · have hf := ifp c78 hf
                  exact h114 _ _ _ _ _ _ hf hP hD hS (lv_sub hl [0, 3, 4] rfl)
                · have hf := ifn c78 hf
                  refine lv_aload hx hb dX7_tried_81 (lv_at hl 3 rfl) ?_
                  refine lv_iload hx hb dX7_tried_83 (lv_at hl 5 rfl) ?_
                  refine lv_aload_n hx hb dX7_tried_85 rfl (lv_at hl 0 rfl) ?_
                  refine va_get (D := D) (ci := 7) (v := .ref (o_t 7)) (C := RX7) (T := TX7) (N := 12) hx hb hts k1 hown hK hP 0 rfl rfl 6 (by decide) k8 (fun _ h9 => h9) rfl dX7_tried_86 ?_
                  obtain ⟨r89, hr89, hf⟩ := bd_s hf
                  refine my_Vv (WS2 := (wd_X7_tried cy o_t o_t_play o_t_lines o_t_truth o_t_glassTrack o_t_board o_t_otherBoard o_t_fog o_t_crowd o_t_deal o_t_slots_s sf x_board_now r89 x_slots_s_w x_slots_s_h x_slots_s_hands x_slots_s_rules x_slots_s_pressRow x_slots_s_leftFrom x_slots_s_leftTo x_kept)) ⟨hx, hb, hml, hown, hts⟩ (c_X5_fillPresses l D cy t o_t_slots_s (o_t 7) 6 x_slots_s_w x_slots_s_h x_slots_s_hands x_slots_s_pressRow x_presses l7 hr89) (cwV 2 hts gX7_tried_X5_fillPresses rfl rfl rfl ⟨rfl, hd_X5_fillPresses⟩ ⟨Nat.le_of_ble_eq_true rfl, Nat.le_of_ble_eq_true rfl⟩) hK hE hP hD hS hA [5, 7, 3] 11 5 0 rfl rfl rfl rfl (by decide +kernel) rfl rfl hl.1 rfl (Nat.le_of_ble_eq_true rfl) dX7_tried_89 ⟨Nat.le_of_ble_eq_true rfl, Nat.le_of_ble_eq_true rfl⟩ (fun H locs hP hD hS => ?_)
                  refine lv_aload_n hx hb dX7_tried_92 rfl (lv_at hl 0 rfl) ?_
                  refine va_get (D := D) (ci := 7) (v := .ref (o_t_board 0)) (C := RX7) (T := TX7) (N := 12) hx hb hts k1 hown hK hP 0 rfl rfl 4 (by decide) k5 (fun _ h9 => h9) rfl dX7_tried_93 ?_
                  refine lv_aload hx hb dX7_tried_96 (lv_at hl 3 rfl) ?_
                  refine lv_iload_n hx hb dX7_tried_98 rfl (lv_at hl 1 rfl) ?_
                  refine lv_iload hx hb dX7_tried_99 (lv_at hl 5 rfl) ?_
                  refine lv_aload_n hx hb dX7_tried_101 rfl (lv_at hl 0 rfl) ?_
                  refine va_get (D := D) (ci := 7) (v := .ref (o_t 7)) (C := RX7) (T := TX7) (N := 12) hx hb hts k1 hown hK hP 0 rfl rfl 6 (by decide) k8 (fun _ h9 => h9) rfl dX7_tried_102 ?_
                  obtain ⟨r105, hr105, hf⟩ := bd_s hf
                  refine my_Vv (WS2 := (wd_X7_tried cy o_t o_t_play o_t_lines o_t_truth o_t_glassTrack o_t_board o_t_otherBoard o_t_fog o_t_crowd o_t_deal o_t_slots_s sf r105 r89 x_slots_s_w x_slots_s_h x_slots_s_hands x_slots_s_rules x_slots_s_pressRow x_slots_s_leftFrom x_slots_s_leftTo x_kept)) ⟨hx, hb, hml, hown, hts⟩ (c_X0_advance l D cy t o_t_board o_t_slots_s (o_t 7) 6 x_board_now x_slots_s_w x_slots_s_h x_slots_s_hands x_slots_s_rules x_slots_s_leftFrom x_slots_s_leftTo r89 l2 l7 hr105) (cwV 4 hts gX7_tried_X0_advance rfl rfl rfl ⟨rfl, hd_X0_advance⟩ ⟨Nat.le_of_ble_eq_true rfl, Nat.le_of_ble_eq_true rfl⟩) hK hE hP hD hS hA [1, 2, 5, 6, 8, 9, 3] 11 0 0 rfl rfl rfl rfl (by decide +kernel) rfl rfl hl.1 rfl (Nat.le_of_ble_eq_true rfl) dX7_tried_105 ⟨Nat.le_of_ble_eq_true rfl, Nat.le_of_ble_eq_true rfl⟩ (fun H locs hP hD hS => ?_)
                  obtain ⟨v108, ev108, hf⟩ := nm_s hf
                  refine lv_iinc (v := v108) (lv' := [(7, .int v108), (0, .ref (o_t 0)), (2, .int l2), (3, .int l3), (5, .ref (o_t_slots_s 0)), (6, .int l6)]) hx hb dX7_tried_108 hl (k := 5) rfl (by rw [ev108]; rfl) (by decide) rfl (fun ls hl => ?_)
                  refine lv_goto (tgt := 75) hx hb dX7_tried_111 (by decide) ?_
                  exact ih75 _ _ _ _ _ _ _ _ _ hf hP hD hS (lv_sub hl [1, 2, 3, 4, 5, 0] rfl)
            refine lv_aload_n hx hb dX7_tried_63 rfl (lv_at hl 2 rfl) ?_
            refine va_get (D := D) (ci := 7) (v := .ref (o_t_board 0)) (C := RX7) (T := TX7) (N := 12) hx hb hts k1 hown hK hP 0 rfl rfl 4 (by decide) k5 (fun _ h9 => h9) rfl dX7_tried_64 ?_
            refine lv_aload hx hb dX7_tried_67 (lv_at hl 1 rfl) ?_
            obtain ⟨r69, hr69, hf⟩ := bd_s hf
            refine my_Vv (WS2 := (wd_X7_tried cy o_t o_t_play o_t_lines o_t_truth o_t_glassTrack o_t_board o_t_otherBoard o_t_fog o_t_crowd o_t_deal o_t_slots_s sf r69 x_presses x_slots_s_w x_slots_s_h x_slots_s_hands x_slots_s_rules x_slots_s_pressRow x_slots_s_leftFrom x_slots_s_leftTo x_kept)) ⟨hx, hb, hml, hown, hts⟩ (c_X0_start l D cy t o_t_board o_t_slots_s x_board_now x_slots_s_w x_slots_s_h x_slots_s_hands hr69) (cwV 1 hts gX7_tried_X0_start rfl rfl rfl ⟨rfl, hd_X0_start⟩ ⟨Nat.le_of_ble_eq_true rfl, Nat.le_of_ble_eq_true rfl⟩) hK hE hP hD hS hA [1, 2, 5] 11 0 0 rfl rfl rfl rfl (by decide +kernel) rfl rfl hl.1 rfl (Nat.le_of_ble_eq_true rfl) dX7_tried_69 ⟨Nat.le_of_ble_eq_true rfl, Nat.le_of_ble_eq_true rfl⟩ (fun H locs hP hD hS => ?_)
            refine lv_iconst (v := (0 : Int32)) hx hb dX7_tried_72 (by decide) ?_
            refine lv_istore (lv' := [(7, .int (0 : Int32)), (6, .int r43), (5, .ref (o_t_slots_s 0)), (0, .ref (o_t 0)), (1, .int p1), (2, .int p2), (3, .int p3), (4, .int p4)]) hx hb dX7_tried_73 hl (by decide) rfl (fun ls hl => ?_)
            exact h75 FU _ _ _ _ _ _ _ _ _ hf hP hD hS (lv_sub hl [3, 5, 6, 2, 1, 0] rfl)
          · have hf := ifn c57 hf
            refine lv_bipush (v := (-2 : Int32)) hx hb dX7_tried_60 (by decide) ?_
            obtain rfl := Option.some.inj hf
            exact hR _ _ _ _ hP hD hS dX7_tried_62
      · have hf := ifp c22 hf
        refine lv_bipush (v := (-3 : Int32)) hx hb dX7_tried_25 (by decide) ?_
        obtain rfl := Option.some.inj hf
        exact hR _ _ _ _ hP hD hS dX7_tried_27
    · have hf := ifp c11 hf
      refine lv_iconst (v := (-1 : Int32)) hx hb dX7_tried_14 (by decide) ?_
      obtain rfl := Option.some.inj hf
      exact hR _ _ _ _ hP hD hS dX7_tried_15
theorem hd_X7_tried : yX7_tried.cls ≠ "java/lang/invoke/MethodHandle" ∧ yX7_tried.cls ≠ "java/lang/invoke/VarHandle" ∧ (parseMethodDescriptor yX7_tried.desc).map (fun d => d.parameters.length) = some 4 := by decide +kernel
set_option maxRecDepth 100000 in
theorem c_X7_tried (l : Launch) (D : va_G) (cy : Nat → ClassId) (t : Nat → Nat) (o_t o_t_play o_t_lines o_t_truth o_t_glassTrack o_t_board o_t_otherBoard o_t_fog o_t_crowd o_t_deal o_t_slots_s : Nat → Nat) (sf : Nat → Option Nat) (x_board_now : Nat → Int32) (x_presses : Nat → Int32) (x_slots_s_w : Int32) (x_slots_s_h : Int32) (x_slots_s_hands : Int32) (x_slots_s_rules : Nat → Int32) (x_slots_s_pressRow : Nat → Int32) (x_slots_s_leftFrom : Nat → Int32) (x_slots_s_leftTo : Nat → Int32) (x_kept : Nat → Int32) (p1 : Int32) (p2 : Int32) (p3 : Int32) (p4 : Int32) {out : Int32 × (Nat → Int32) × (Nat → Int32)} (hso : vp_in p1 4 → sf p1.toNatClampNeg = some (o_t_slots_s 0)) (hf : X7_tried x_slots_s_w x_slots_s_h x_slots_s_hands x_slots_s_rules x_slots_s_pressRow x_slots_s_leftFrom x_slots_s_leftTo x_kept x_board_now x_presses p1 p2 p3 p4 = some out) : ctI l yX7_tried wsX7_tried 5 118 D cy t [.ref (o_t 0), .int p1, .int p2, .int p3, .int p4] (wd_X7_tried cy o_t o_t_play o_t_lines o_t_truth o_t_glassTrack o_t_board o_t_otherBoard o_t_fog o_t_crowd o_t_deal o_t_slots_s sf x_board_now x_presses x_slots_s_w x_slots_s_h x_slots_s_hands x_slots_s_rules x_slots_s_pressRow x_slots_s_leftFrom x_slots_s_leftTo x_kept) (wd_X7_tried cy o_t o_t_play o_t_lines o_t_truth o_t_glassTrack o_t_board o_t_otherBoard o_t_fog o_t_crowd o_t_deal o_t_slots_s sf out.2.1 out.2.2 x_slots_s_w x_slots_s_h x_slots_s_hands x_slots_s_rules x_slots_s_pressRow x_slots_s_leftFrom x_slots_s_leftTo x_kept) out.1 := by
  refine ⟨rfl, ?_⟩
  intro sz
  refine Met.ofW (cc := cX7_tried) (maxL := 8) (ret := (some .int)) (by decide) rfl ?_
  intro p e s m args below meth c s₁ B hml hv
  obtain ⟨rfl, hsz, hP, hK, hD0, hE⟩ := hv
  have hts := atoms_spec (ws := wsX7_tried) B.pre
  have hown : s.vm.findClass RX7 = some m.cls := findClass_of_methodNamed B.named
  have hlocks := B.notSynchronized
  subst hsz
  have hD := hD0.self (sz := s.heap.size)
  have hl := lv_entry ([.ref (o_t 0), .int p1, .int p2, .int p3, .int p4]) (n := 8) (Nat.le_of_ble_eq_true rfl)
  rw [lg_entry_eq]
  generalize (lg_sl ([.ref (o_t 0), .int p1, .int p2, .int p3, .int p4]) ++ List.replicate (8 - (lg_sl ([.ref (o_t 0), .int p1, .int p2, .int p3, .int p4])).length) Slot.unset).toArray = ls at hl ⊢
  exact w_X7_tried D cy t o_t o_t_play o_t_lines o_t_truth o_t_glassTrack o_t_board o_t_otherBoard o_t_fog o_t_crowd o_t_deal o_t_slots_s sf x_board_now x_presses x_slots_s_w x_slots_s_h x_slots_s_hands x_slots_s_rules x_slots_s_pressRow x_slots_s_leftFrom x_slots_s_leftTo x_kept p1 p2 p3 p4 hso hf B.exec B.bytes hml hown hts hK hE (fun q h => Or.inr h) hP hD va_S.rf hl (fun H locs ls pc hP hD hS hdg => W.iret B.exec B.bytes B.returns (fun t ht hW => ⟨⟨_, (), rfl, rfl, ctB_of ht hP⟩, hS.F ht⟩) hS.2.2 hdg)

noncomputable def X7_differs_L57_B (x_slots_s_w : Int32) (x_slots_s_h : Int32) (x_slots_s_hands : Int32) (x_slots_s_rules : Nat → Int32) (x_slots_s_pressRow : Nat → Int32) (x_slots_s_leftFrom : Nat → Int32) (x_slots_s_leftTo : Nat → Int32) (x_kept : Nat → Int32) (rec57 : (Nat → Int32) → (Nat → Int32) → (Nat → Int32) → Int32 → Int32 → Option (Int32 × (Nat → Int32) × (Nat → Int32) × (Nat → Int32))) (x_board_now : Nat → Int32) (x_otherBoard_now : Nat → Int32) (x_presses : Nat → Int32) (l2 : Int32) (l4 : Int32) : Option (Int32 × (Nat → Int32) × (Nat → Int32) × (Nat → Int32)) :=
  if (100 : Int32) ≤ l4 then (some ((-9 : Int32), x_board_now, x_otherBoard_now, x_presses)) else (bd (X5_fillPresses 6 x_slots_s_hands x_slots_s_pressRow x_presses l4) fun r71 => rd x_slots_s_rules 7 (0 : Int32) fun v84 => bd (X0_advance 6 x_slots_s_w x_slots_s_h x_slots_s_hands x_slots_s_rules x_slots_s_leftFrom x_slots_s_leftTo r71 x_board_now v84 l4) fun r91 => bd (X0_advance 6 x_slots_s_w x_slots_s_h x_slots_s_hands x_slots_s_rules x_slots_s_leftFrom x_slots_s_leftTo r71 x_otherBoard_now l2 l4) fun r106 => bd (X0_isLike r91 r106) fun r117 => if r117 = (0 : Int32) then (some (l4, r91, r106, r71)) else (nm (l4 + (1 : Int32)) fun v126 => rec57 r91 r106 r71 l2 v126))
noncomputable def X7_differs_L57 (x_slots_s_w : Int32) (x_slots_s_h : Int32) (x_slots_s_hands : Int32) (x_slots_s_rules : Nat → Int32) (x_slots_s_pressRow : Nat → Int32) (x_slots_s_leftFrom : Nat → Int32) (x_slots_s_leftTo : Nat → Int32) (x_kept : Nat → Int32) : Nat → (Nat → Int32) → (Nat → Int32) → (Nat → Int32) → Int32 → Int32 → Option (Int32 × (Nat → Int32) × (Nat → Int32) × (Nat → Int32))
  | 0, _, _, _, _, _ => none
  | n + 1, y0, y1, y2, y3, y4 => X7_differs_L57_B x_slots_s_w x_slots_s_h x_slots_s_hands x_slots_s_rules x_slots_s_pressRow x_slots_s_leftFrom x_slots_s_leftTo x_kept  (X7_differs_L57 x_slots_s_w x_slots_s_h x_slots_s_hands x_slots_s_rules x_slots_s_pressRow x_slots_s_leftFrom x_slots_s_leftTo x_kept  n) y0 y1 y2 y3 y4
noncomputable def X7_differs (x_slots_s_w : Int32) (x_slots_s_h : Int32) (x_slots_s_hands : Int32) (x_slots_s_rules : Nat → Int32) (x_slots_s_pressRow : Nat → Int32) (x_slots_s_leftFrom : Nat → Int32) (x_slots_s_leftTo : Nat → Int32) (x_kept : Nat → Int32) (x_board_now : Nat → Int32) (x_otherBoard_now : Nat → Int32) (x_presses : Nat → Int32) (p1 : Int32) (p2 : Int32) : Option (Int32 × (Nat → Int32) × (Nat → Int32) × (Nat → Int32)) :=
  bd (X7_isSlot p1) fun r1 => if r1 = (0 : Int32) then (some ((-1 : Int32), x_board_now, x_otherBoard_now, x_presses)) else (rd x_kept 4 p1 fun v14 => if v14 = (0 : Int32) then (some ((-3 : Int32), x_board_now, x_otherBoard_now, x_presses)) else (bd (X7_isPower p2) fun r22 => if r22 = (0 : Int32) then (some ((-2 : Int32), x_board_now, x_otherBoard_now, x_presses)) else (gdp p1 4 <| bd (X0_start x_slots_s_w x_slots_s_h x_slots_s_hands x_board_now) fun r43 => bd (X0_start x_slots_s_w x_slots_s_h x_slots_s_hands x_otherBoard_now) fun r51 => X7_differs_L57 x_slots_s_w x_slots_s_h x_slots_s_hands x_slots_s_rules x_slots_s_pressRow x_slots_s_leftFrom x_slots_s_leftTo x_kept  FU r43 r51 x_presses p2 (0 : Int32))))
abbrev wd_X7_differs (cy : Nat → ClassId) (o_t o_t_play o_t_lines o_t_truth o_t_glassTrack o_t_board o_t_otherBoard o_t_fog o_t_crowd o_t_deal o_t_slots_s : Nat → Nat) (sf : Nat → Option Nat) (x_board_now : Nat → Int32) (x_otherBoard_now : Nat → Int32) (x_presses : Nat → Int32) (x_slots_s_w : Int32) (x_slots_s_h : Int32) (x_slots_s_hands : Int32) (x_slots_s_rules : Nat → Int32) (x_slots_s_pressRow : Nat → Int32) (x_slots_s_leftFrom : Nat → Int32) (x_slots_s_leftTo : Nat → Int32) (x_kept : Nat → Int32) : va_W := [(o_t 0, .inr (7, [.ref (o_t_play 0), .ref (o_t_lines 0), .ref (o_t_truth 0), .ref (o_t_glassTrack 0), .ref (o_t_board 0), .ref (o_t_otherBoard 0), .ref (o_t 7), .ref (o_t_fog 0), .ref (o_t_crowd 0), .ref (o_t_deal 0), .ref (o_t 11), .ref (o_t 12)])), (o_t_board 0, .inr (0, [.ref (o_t_board 1)])), (o_t_board 1, .inl (cy 0, 13, .inl x_board_now)), (o_t_otherBoard 0, .inr (0, [.ref (o_t_otherBoard 1)])), (o_t_otherBoard 1, .inl (cy 0, 13, .inl x_otherBoard_now)), (o_t 7, .inl (cy 0, 6, .inl x_presses)), (o_t 11, .inl (cy 3, 4, .inr (.inr (.inr (.inr sf))))), (o_t_slots_s 0, .inr (5, [.int x_slots_s_w, .int x_slots_s_h, .int x_slots_s_hands, .ref (o_t_slots_s 4), .ref (o_t_slots_s 5), .ref (o_t_slots_s 6), .ref (o_t_slots_s 7)])), (o_t_slots_s 4, .inl (cy 0, 7, .inl x_slots_s_rules)), (o_t_slots_s 5, .inl (cy 0, 600, .inl x_slots_s_pressRow)), (o_t_slots_s 6, .inl (cy 0, 6, .inl x_slots_s_leftFrom)), (o_t_slots_s 7, .inl (cy 0, 6, .inl x_slots_s_leftTo)), (o_t 12, .inl (cy 1, 4, .inl x_kept))]
set_option maxHeartbeats 4000000 in
set_option maxRecDepth 100000 in
theorem w_X7_differs {p : Program} {l : Launch} {e : Env} {s : State} {m : MethodId} {args : Array Value} {below : List Frame} {meth : Method} {c : Code} {Q : State → Prop} {A : Nat → Prop} {H : Heap} {locs : List Loc} {ls : Array Slot} (D : va_G) (cy : Nat → ClassId) (t : Nat → Nat) (o_t o_t_play o_t_lines o_t_truth o_t_glassTrack o_t_board o_t_otherBoard o_t_fog o_t_crowd o_t_deal o_t_slots_s : Nat → Nat) (sf : Nat → Option Nat) (x_board_now : Nat → Int32) (x_otherBoard_now : Nat → Int32) (x_presses : Nat → Int32) (x_slots_s_w : Int32) (x_slots_s_h : Int32) (x_slots_s_hands : Int32) (x_slots_s_rules : Nat → Int32) (x_slots_s_pressRow : Nat → Int32) (x_slots_s_leftFrom : Nat → Int32) (x_slots_s_leftTo : Nat → Int32) (x_kept : Nat → Int32) (p1 : Int32) (p2 : Int32) {out : Int32 × (Nat → Int32) × (Nat → Int32) × (Nat → Int32)} (hso : vp_in p1 4 → sf p1.toNatClampNeg = some (o_t_slots_s 0)) (hf : X7_differs x_slots_s_w x_slots_s_h x_slots_s_hands x_slots_s_rules x_slots_s_pressRow x_slots_s_leftFrom x_slots_s_leftTo x_kept x_board_now x_otherBoard_now x_presses p1 p2 = some out) (hx : p.tables.exec = Jvm.exec) (hb : c.code = cX7_differs) (hml : c.maxLocals = 5) (hown : s.vm.findClass RX7 = some m.cls) (hts : ∀ w ∈ wsX7_differs, w.before args s = true) (hK : va_K D vwCl (TYS cy) s) (hE : EV t A s s.heap) (hA : ∀ q, s.heap.size ≤ q → A q) (hP : va_P D vwCl (wd_X7_differs cy o_t o_t_play o_t_lines o_t_truth o_t_glassTrack o_t_board o_t_otherBoard o_t_fog o_t_crowd o_t_deal o_t_slots_s sf x_board_now x_otherBoard_now x_presses x_slots_s_w x_slots_s_h x_slots_s_hands x_slots_s_rules x_slots_s_pressRow x_slots_s_leftFrom x_slots_s_leftTo x_kept) H) (hD : va_D A (wd_X7_differs cy o_t o_t_play o_t_lines o_t_truth o_t_glassTrack o_t_board o_t_otherBoard o_t_fog o_t_crowd o_t_deal o_t_slots_s sf x_board_now x_otherBoard_now x_presses x_slots_s_w x_slots_s_h x_slots_s_hands x_slots_s_rules x_slots_s_pressRow x_slots_s_leftFrom x_slots_s_leftTo x_kept)) (hS : va_S A s.heap H locs) (hl : lv_has ls 5 [(0, .ref (o_t 0)), (1, .int p1), (2, .int p2)]) (hR : ∀ (H : Heap) (locs : List Loc) (ls : Array Slot) (pc : Nat), va_P D vwCl (wd_X7_differs cy o_t o_t_play o_t_lines o_t_truth o_t_glassTrack o_t_board o_t_otherBoard o_t_fog o_t_crowd o_t_deal o_t_slots_s sf out.2.1 out.2.2.1 out.2.2.2 x_slots_s_w x_slots_s_h x_slots_s_hands x_slots_s_rules x_slots_s_pressRow x_slots_s_leftFrom x_slots_s_leftTo x_kept) H → va_D A (wd_X7_differs cy o_t o_t_play o_t_lines o_t_truth o_t_glassTrack o_t_board o_t_otherBoard o_t_fog o_t_crowd o_t_deal o_t_slots_s sf out.2.1 out.2.2.1 out.2.2.2 x_slots_s_w x_slots_s_h x_slots_s_hands x_slots_s_rules x_slots_s_pressRow x_slots_s_leftFrom x_slots_s_leftTo x_kept) → va_S A s.heap H locs → decode cX7_differs pc = .ok (.ireturn, 1) → W p l e (rmm 5 118) s m args below meth c H locs 0 0 Q (F0 m pc ls [.int out.1])) : W p l e (rmm 5 118) s m args below meth c H locs 0 0 Q (F0 m 0 ls []) := by
  have k0 := hts (.fieldLink RX7 74 "SeaGames" "kept" "[Z") (List.mem_cons_of_mem _ (List.mem_append_left _ (List.mem_append_left _ (List.mem_append_left _ (List.mem_append_left _ (List.mem_of_getElem? (i := 0) rfl))))))
  have k1 : ∀ w ∈ u_ws RX7 TX7 12, w ∈ wsX7_differs := fun _ h => List.mem_cons_of_mem _ (List.mem_append_left _ (List.mem_append_left _ (List.mem_append_right _ h)))
  have k2 := hts (.fieldLink RX7 70 "SeaGames" "slots" "[LSeaGames$Play;") (List.mem_cons_of_mem _ (List.mem_append_left _ (List.mem_append_left _ (List.mem_append_left _ (List.mem_append_left _ (List.mem_of_getElem? (i := 1) rfl))))))
  have k3 := hts (.fieldLink RX7 38 "SeaGames" "board" "LSeaGames$Board;") (List.mem_cons_of_mem _ (List.mem_append_left _ (List.mem_append_left _ (List.mem_append_left _ (List.mem_append_left _ (List.mem_of_getElem? (i := 2) rfl))))))
  have k4 := hts (.fieldLink RX7 42 "SeaGames" "otherBoard" "LSeaGames$Board;") (List.mem_cons_of_mem _ (List.mem_append_left _ (List.mem_append_left _ (List.mem_append_left _ (List.mem_append_left _ (List.mem_of_getElem? (i := 3) rfl))))))
  have k5 := hts (.fieldLink RX7 45 "SeaGames" "presses" "[I") (List.mem_cons_of_mem _ (List.mem_append_left _ (List.mem_append_left _ (List.mem_append_left _ (List.mem_append_left _ (List.mem_of_getElem? (i := 4) rfl))))))
  have k6 := hts (.fieldLink RX7 98 "SeaGames$Play" "rules" "[I") (List.mem_cons_of_mem _ (List.mem_append_left _ (List.mem_append_left _ (List.mem_append_left _ (List.mem_append_left _ (List.mem_of_getElem? (i := 5) rfl))))))
  have k7 : ∀ w ∈ u_ws RX5 TX5 7, w ∈ wsX7_differs := fun _ h => List.mem_cons_of_mem _ (List.mem_append_left _ (List.mem_append_right _ h))
  rw [X7_differs] at hf
  refine lv_iload_n hx hb dX7_differs_0 rfl (lv_at hl 1 rfl) ?_
  obtain ⟨r1, hr1, hf⟩ := bd_s hf
  refine my_Si (WS2 := (wd_X7_differs cy o_t o_t_play o_t_lines o_t_truth o_t_glassTrack o_t_board o_t_otherBoard o_t_fog o_t_crowd o_t_deal o_t_slots_s sf x_board_now x_otherBoard_now x_presses x_slots_s_w x_slots_s_h x_slots_s_hands x_slots_s_rules x_slots_s_pressRow x_slots_s_leftFrom x_slots_s_leftTo x_kept)) ⟨hx, hb, hml, hown, hts⟩ (c_X7_isSlot l D cy t p1 hr1) (va_cwS 1 hts gX7_differs_X7_isSlot rfl rfl rfl hd_X7_isSlot ⟨Nat.le_of_ble_eq_true rfl, Nat.le_of_ble_eq_true rfl⟩) hK hE hP hD hS hA [] 13 rfl rfl (by decide +kernel) rfl rfl hl.1 rfl (Nat.le_of_ble_eq_true rfl) dX7_differs_1 ⟨Nat.le_of_ble_eq_true rfl, Nat.le_of_ble_eq_true rfl⟩ (fun H locs hP hD hS => ?_)
  refine lv_if_ne (tgt := 9) hx hb dX7_differs_4 (by decide) (fun c4 => ?_) (fun c4 => ?_)
  · have hf := ifn c4 hf
    refine lv_aload_n hx hb dX7_differs_9 rfl (lv_at hl 0 rfl) ?_
    refine va_get (D := D) (ci := 7) (v := .ref (o_t 12)) (C := RX7) (T := TX7) (N := 12) hx hb hts k1 hown hK hP 0 rfl rfl 11 (by decide) k0 (fun _ h9 => h9) rfl dX7_differs_10 ?_
    refine lv_iload_n hx hb dX7_differs_13 rfl (lv_at hl 1 rfl) ?_
    obtain ⟨v14, b14, ev14, hf⟩ := rd_s hf
    refine my_zald hx hb hK hP 12 rfl b14 ev14 dX7_differs_14 ?_
    refine lv_if_ne (tgt := 21) hx hb dX7_differs_15 (by decide) (fun c15 => ?_) (fun c15 => ?_)
    · have hf := ifn c15 hf
      refine lv_iload_n hx hb dX7_differs_21 rfl (lv_at hl 2 rfl) ?_
      obtain ⟨r22, hr22, hf⟩ := bd_s hf
      refine my_Si (WS2 := (wd_X7_differs cy o_t o_t_play o_t_lines o_t_truth o_t_glassTrack o_t_board o_t_otherBoard o_t_fog o_t_crowd o_t_deal o_t_slots_s sf x_board_now x_otherBoard_now x_presses x_slots_s_w x_slots_s_h x_slots_s_hands x_slots_s_rules x_slots_s_pressRow x_slots_s_leftFrom x_slots_s_leftTo x_kept)) ⟨hx, hb, hml, hown, hts⟩ (c_X7_isPower l D cy t p2 hr22) (va_cwS 1 hts gX7_differs_X7_isPower rfl rfl rfl hd_X7_isPower ⟨Nat.le_of_ble_eq_true rfl, Nat.le_of_ble_eq_true rfl⟩) hK hE hP hD hS hA [] 13 rfl rfl (by decide +kernel) rfl rfl hl.1 rfl (Nat.le_of_ble_eq_true rfl) dX7_differs_22 ⟨Nat.le_of_ble_eq_true rfl, Nat.le_of_ble_eq_true rfl⟩ (fun H locs hP hD hS => ?_)
      refine lv_if_ne (tgt := 31) hx hb dX7_differs_25 (by decide) (fun c25 => ?_) (fun c25 => ?_)
      · have hf := ifn c25 hf
        have h57 : ∀ (n57 : Nat) (x_board_now : Nat → Int32) (x_otherBoard_now : Nat → Int32) (x_presses : Nat → Int32) (l2 : Int32) (l4 : Int32) (H : Heap) (locs : List Loc) (ls : Array Slot), X7_differs_L57 x_slots_s_w x_slots_s_h x_slots_s_hands x_slots_s_rules x_slots_s_pressRow x_slots_s_leftFrom x_slots_s_leftTo x_kept n57 x_board_now x_otherBoard_now x_presses l2 l4 = some out → va_P D vwCl (wd_X7_differs cy o_t o_t_play o_t_lines o_t_truth o_t_glassTrack o_t_board o_t_otherBoard o_t_fog o_t_crowd o_t_deal o_t_slots_s sf x_board_now x_otherBoard_now x_presses x_slots_s_w x_slots_s_h x_slots_s_hands x_slots_s_rules x_slots_s_pressRow x_slots_s_leftFrom x_slots_s_leftTo x_kept) H → va_D A (wd_X7_differs cy o_t o_t_play o_t_lines o_t_truth o_t_glassTrack o_t_board o_t_otherBoard o_t_fog o_t_crowd o_t_deal o_t_slots_s sf x_board_now x_otherBoard_now x_presses x_slots_s_w x_slots_s_h x_slots_s_hands x_slots_s_rules x_slots_s_pressRow x_slots_s_leftFrom x_slots_s_leftTo x_kept) → va_S A s.heap H locs → lv_has ls 5 [(0, .ref (o_t 0)), (2, .int l2), (3, .ref (o_t_slots_s 0)), (4, .int l4)] → W p l e (rmm 5 118) s m args below meth c H locs 0 0 Q (F0 m 57 ls []) := by
          intro n57
          induction n57 with
          | zero =>
            intro _ _ _ _ _ _ _ _ hf
            exact nomatch (show (none : Option _) = some out from hf)
          | succ n57 ih57 =>
            intro x_board_now x_otherBoard_now x_presses l2 l4 H locs ls hf hP hD hS hl
            have hf : X7_differs_L57_B x_slots_s_w x_slots_s_h x_slots_s_hands x_slots_s_rules x_slots_s_pressRow x_slots_s_leftFrom x_slots_s_leftTo x_kept (X7_differs_L57 x_slots_s_w x_slots_s_h x_slots_s_hands x_slots_s_rules x_slots_s_pressRow x_slots_s_leftFrom x_slots_s_leftTo x_kept n57) x_board_now x_otherBoard_now x_presses l2 l4 = some out := hf
            rw [X7_differs_L57_B] at hf
            refine lv_iload hx hb dX7_differs_57 (lv_at hl 3 rfl) ?_
            refine lv_bipush (v := (100 : Int32)) hx hb dX7_differs_59 (by decide) ?_
            refine lv_icmp_ge (tgt := 132) hx hb dX7_differs_61 (by decide) (fun c61 => ?_) (fun c61 => ?_)
            · have hf := ifp c61 hf
              refine lv_bipush (v := (-9 : Int32)) hx hb dX7_differs_132 (by decide) ?_
              obtain rfl := Option.some.inj hf
              exact hR _ _ _ _ hP hD hS dX7_differs_134
            · have hf := ifn c61 hf
              refine lv_aload_n hx hb dX7_differs_64 rfl (lv_at hl 2 rfl) ?_
              refine lv_iload hx hb dX7_differs_65 (lv_at hl 3 rfl) ?_
              refine lv_aload_n hx hb dX7_differs_67 rfl (lv_at hl 0 rfl) ?_
              refine va_get (D := D) (ci := 7) (v := .ref (o_t 7)) (C := RX7) (T := TX7) (N := 12) hx hb hts k1 hown hK hP 0 rfl rfl 6 (by decide) k5 (fun _ h9 => h9) rfl dX7_differs_68 ?_
              obtain ⟨r71, hr71, hf⟩ := bd_s hf
              refine my_Vv (WS2 := (wd_X7_differs cy o_t o_t_play o_t_lines o_t_truth o_t_glassTrack o_t_board o_t_otherBoard o_t_fog o_t_crowd o_t_deal o_t_slots_s sf x_board_now x_otherBoard_now r71 x_slots_s_w x_slots_s_h x_slots_s_hands x_slots_s_rules x_slots_s_pressRow x_slots_s_leftFrom x_slots_s_leftTo x_kept)) ⟨hx, hb, hml, hown, hts⟩ (c_X5_fillPresses l D cy t o_t_slots_s (o_t 7) 6 x_slots_s_w x_slots_s_h x_slots_s_hands x_slots_s_pressRow x_presses l4 hr71) (cwV 2 hts gX7_differs_X5_fillPresses rfl rfl rfl ⟨rfl, hd_X5_fillPresses⟩ ⟨Nat.le_of_ble_eq_true rfl, Nat.le_of_ble_eq_true rfl⟩) hK hE hP hD hS hA [7, 9, 5] 13 5 0 rfl rfl rfl rfl (by decide +kernel) rfl rfl hl.1 rfl (Nat.le_of_ble_eq_true rfl) dX7_differs_71 ⟨Nat.le_of_ble_eq_true rfl, Nat.le_of_ble_eq_true rfl⟩ (fun H locs hP hD hS => ?_)
              refine lv_aload_n hx hb dX7_differs_74 rfl (lv_at hl 0 rfl) ?_
              refine va_get (D := D) (ci := 7) (v := .ref (o_t_board 0)) (C := RX7) (T := TX7) (N := 12) hx hb hts k1 hown hK hP 0 rfl rfl 4 (by decide) k3 (fun _ h9 => h9) rfl dX7_differs_75 ?_
              refine lv_aload_n hx hb dX7_differs_78 rfl (lv_at hl 2 rfl) ?_
              refine lv_aload_n hx hb dX7_differs_79 rfl (lv_at hl 2 rfl) ?_
              refine va_get (D := D) (ci := 5) (v := .ref (o_t_slots_s 4)) (C := RX5) (T := TX5) (N := 7) hx hb hts k7 hown hK hP 7 rfl rfl 3 (by decide) k6 (fun _ h9 => h9) rfl dX7_differs_80 ?_
              refine lv_iconst (v := (0 : Int32)) hx hb dX7_differs_83 (by decide) ?_
              obtain ⟨v84, b84, ev84, hf⟩ := rd_s hf
              refine my_iald hx hb hK hP 8 rfl b84 ev84 dX7_differs_84 ?_
              refine lv_iload hx hb dX7_differs_85 (lv_at hl 3 rfl) ?_
              refine lv_aload_n hx hb dX7_differs_87 rfl (lv_at hl 0 rfl) ?_
              refine va_get (D := D) (ci := 7) (v := .ref (o_t 7)) (C := RX7) (T := TX7) (N := 12) hx hb hts k1 hown hK hP 0 rfl rfl 6 (by decide) k5 (fun _ h9 => h9) rfl dX7_differs_88 ?_
              obtain ⟨r91, hr91, hf⟩ := bd_s hf
              refine my_Vv (WS2 := (wd_X7_differs cy o_t o_t_play o_t_lines o_t_truth o_t_glassTrack o_t_board o_t_otherBoard o_t_fog o_t_crowd o_t_deal o_t_slots_s sf r91 x_otherBoard_now r71 x_slots_s_w x_slots_s_h x_slots_s_hands x_slots_s_rules x_slots_s_pressRow x_slots_s_leftFrom x_slots_s_leftTo x_kept)) ⟨hx, hb, hml, hown, hts⟩ (c_X0_advance l D cy t o_t_board o_t_slots_s (o_t 7) 6 x_board_now x_slots_s_w x_slots_s_h x_slots_s_hands x_slots_s_rules x_slots_s_leftFrom x_slots_s_leftTo r71 v84 l4 hr91) (cwV 4 hts gX7_differs_X0_advance rfl rfl rfl ⟨rfl, hd_X0_advance⟩ ⟨Nat.le_of_ble_eq_true rfl, Nat.le_of_ble_eq_true rfl⟩) hK hE hP hD hS hA [1, 2, 7, 8, 10, 11, 5] 13 0 0 rfl rfl rfl rfl (by decide +kernel) rfl rfl hl.1 rfl (Nat.le_of_ble_eq_true rfl) dX7_differs_91 ⟨Nat.le_of_ble_eq_true rfl, Nat.le_of_ble_eq_true rfl⟩ (fun H locs hP hD hS => ?_)
              refine lv_aload_n hx hb dX7_differs_94 rfl (lv_at hl 0 rfl) ?_
              refine va_get (D := D) (ci := 7) (v := .ref (o_t_otherBoard 0)) (C := RX7) (T := TX7) (N := 12) hx hb hts k1 hown hK hP 0 rfl rfl 5 (by decide) k4 (fun _ h9 => h9) rfl dX7_differs_95 ?_
              refine lv_aload_n hx hb dX7_differs_98 rfl (lv_at hl 2 rfl) ?_
              refine lv_iload_n hx hb dX7_differs_99 rfl (lv_at hl 1 rfl) ?_
              refine lv_iload hx hb dX7_differs_100 (lv_at hl 3 rfl) ?_
              refine lv_aload_n hx hb dX7_differs_102 rfl (lv_at hl 0 rfl) ?_
              refine va_get (D := D) (ci := 7) (v := .ref (o_t 7)) (C := RX7) (T := TX7) (N := 12) hx hb hts k1 hown hK hP 0 rfl rfl 6 (by decide) k5 (fun _ h9 => h9) rfl dX7_differs_103 ?_
              obtain ⟨r106, hr106, hf⟩ := bd_s hf
              refine my_Vv (WS2 := (wd_X7_differs cy o_t o_t_play o_t_lines o_t_truth o_t_glassTrack o_t_board o_t_otherBoard o_t_fog o_t_crowd o_t_deal o_t_slots_s sf r91 r106 r71 x_slots_s_w x_slots_s_h x_slots_s_hands x_slots_s_rules x_slots_s_pressRow x_slots_s_leftFrom x_slots_s_leftTo x_kept)) ⟨hx, hb, hml, hown, hts⟩ (c_X0_advance l D cy t o_t_otherBoard o_t_slots_s (o_t 7) 6 x_otherBoard_now x_slots_s_w x_slots_s_h x_slots_s_hands x_slots_s_rules x_slots_s_leftFrom x_slots_s_leftTo r71 l2 l4 hr106) (cwV 4 hts gX7_differs_X0_advance rfl rfl rfl ⟨rfl, hd_X0_advance⟩ ⟨Nat.le_of_ble_eq_true rfl, Nat.le_of_ble_eq_true rfl⟩) hK hE hP hD hS hA [3, 4, 7, 8, 10, 11, 5] 13 0 0 rfl rfl rfl rfl (by decide +kernel) rfl rfl hl.1 rfl (Nat.le_of_ble_eq_true rfl) dX7_differs_106 ⟨Nat.le_of_ble_eq_true rfl, Nat.le_of_ble_eq_true rfl⟩ (fun H locs hP hD hS => ?_)
              refine lv_aload_n hx hb dX7_differs_109 rfl (lv_at hl 0 rfl) ?_
              refine va_get (D := D) (ci := 7) (v := .ref (o_t_board 0)) (C := RX7) (T := TX7) (N := 12) hx hb hts k1 hown hK hP 0 rfl rfl 4 (by decide) k3 (fun _ h9 => h9) rfl dX7_differs_110 ?_
              refine lv_aload_n hx hb dX7_differs_113 rfl (lv_at hl 0 rfl) ?_
              refine va_get (D := D) (ci := 7) (v := .ref (o_t_otherBoard 0)) (C := RX7) (T := TX7) (N := 12) hx hb hts k1 hown hK hP 0 rfl rfl 5 (by decide) k4 (fun _ h9 => h9) rfl dX7_differs_114 ?_
              obtain ⟨r117, hr117, hf⟩ := bd_s hf
              refine my_Vi (WS2 := (wd_X7_differs cy o_t o_t_play o_t_lines o_t_truth o_t_glassTrack o_t_board o_t_otherBoard o_t_fog o_t_crowd o_t_deal o_t_slots_s sf r91 r106 r71 x_slots_s_w x_slots_s_h x_slots_s_hands x_slots_s_rules x_slots_s_pressRow x_slots_s_leftFrom x_slots_s_leftTo x_kept)) ⟨hx, hb, hml, hown, hts⟩ (c_X0_isLike l D cy t o_t_board o_t_otherBoard r91 r106 hr117) (cwV 1 hts gX7_differs_X0_isLike rfl rfl rfl ⟨rfl, hd_X0_isLike⟩ ⟨Nat.le_of_ble_eq_true rfl, Nat.le_of_ble_eq_true rfl⟩) hK hE hP hD hS hA [1, 2, 3, 4] 13 0 0 rfl rfl rfl rfl (by decide +kernel) rfl rfl hl.1 rfl (Nat.le_of_ble_eq_true rfl) dX7_differs_117 ⟨Nat.le_of_ble_eq_true rfl, Nat.le_of_ble_eq_true rfl⟩ (fun H locs hP hD hS => ?_)
              refine lv_if_ne (tgt := 126) hx hb dX7_differs_120 (by decide) (fun c120 => ?_) (fun c120 => ?_)
              · have hf := ifn c120 hf
                obtain ⟨v126, ev126, hf⟩ := nm_s hf
                refine lv_iinc (v := v126) (lv' := [(4, .int v126), (0, .ref (o_t 0)), (2, .int l2), (3, .ref (o_t_slots_s 0))]) hx hb dX7_differs_126 hl (k := 3) rfl (by rw [ev126]; rfl) (by decide) rfl (fun ls hl => ?_)
                refine lv_goto (tgt := 57) hx hb dX7_differs_129 (by decide) ?_
                exact ih57 _ _ _ _ _ _ _ _ hf hP hD hS (lv_sub hl [1, 2, 3, 0] rfl)
              · have hf := ifp c120 hf
                refine lv_iload hx hb dX7_differs_123 (lv_at hl 3 rfl) ?_
                obtain rfl := Option.some.inj hf
                exact hR _ _ _ _ hP hD hS dX7_differs_125
        refine lv_aload_n hx hb dX7_differs_31 rfl (lv_at hl 0 rfl) ?_
        refine va_get (D := D) (ci := 7) (v := .ref (o_t 11)) (C := RX7) (T := TX7) (N := 12) hx hb hts k1 hown hK hP 0 rfl rfl 10 (by decide) k2 (fun _ h9 => h9) rfl dX7_differs_32 ?_
        refine lv_iload_n hx hb dX7_differs_35 rfl (lv_at hl 1 rfl) ?_
        obtain ⟨b36, hf⟩ := gdp_s hf
        refine my_aald hx hb hK hP 6 rfl b36 (hso b36) dX7_differs_36 ?_
        refine lv_astore_n (lv' := [(3, .ref (o_t_slots_s 0)), (0, .ref (o_t 0)), (1, .int p1), (2, .int p2)]) hx hb dX7_differs_37 rfl hl (by decide) rfl (fun ls hl => ?_)
        refine lv_aload_n hx hb dX7_differs_38 rfl (lv_at hl 1 rfl) ?_
        refine va_get (D := D) (ci := 7) (v := .ref (o_t_board 0)) (C := RX7) (T := TX7) (N := 12) hx hb hts k1 hown hK hP 0 rfl rfl 4 (by decide) k3 (fun _ h9 => h9) rfl dX7_differs_39 ?_
        refine lv_aload_n hx hb dX7_differs_42 rfl (lv_at hl 0 rfl) ?_
        obtain ⟨r43, hr43, hf⟩ := bd_s hf
        refine my_Vv (WS2 := (wd_X7_differs cy o_t o_t_play o_t_lines o_t_truth o_t_glassTrack o_t_board o_t_otherBoard o_t_fog o_t_crowd o_t_deal o_t_slots_s sf r43 x_otherBoard_now x_presses x_slots_s_w x_slots_s_h x_slots_s_hands x_slots_s_rules x_slots_s_pressRow x_slots_s_leftFrom x_slots_s_leftTo x_kept)) ⟨hx, hb, hml, hown, hts⟩ (c_X0_start l D cy t o_t_board o_t_slots_s x_board_now x_slots_s_w x_slots_s_h x_slots_s_hands hr43) (cwV 1 hts gX7_differs_X0_start rfl rfl rfl ⟨rfl, hd_X0_start⟩ ⟨Nat.le_of_ble_eq_true rfl, Nat.le_of_ble_eq_true rfl⟩) hK hE hP hD hS hA [1, 2, 7] 13 0 0 rfl rfl rfl rfl (by decide +kernel) rfl rfl hl.1 rfl (Nat.le_of_ble_eq_true rfl) dX7_differs_43 ⟨Nat.le_of_ble_eq_true rfl, Nat.le_of_ble_eq_true rfl⟩ (fun H locs hP hD hS => ?_)
        refine lv_aload_n hx hb dX7_differs_46 rfl (lv_at hl 1 rfl) ?_
        refine va_get (D := D) (ci := 7) (v := .ref (o_t_otherBoard 0)) (C := RX7) (T := TX7) (N := 12) hx hb hts k1 hown hK hP 0 rfl rfl 5 (by decide) k4 (fun _ h9 => h9) rfl dX7_differs_47 ?_
        refine lv_aload_n hx hb dX7_differs_50 rfl (lv_at hl 0 rfl) ?_
        obtain ⟨r51, hr51, hf⟩ := bd_s hf
        refine my_Vv (WS2 := (wd_X7_differs cy o_t o_t_play o_t_lines o_t_truth o_t_glassTrack o_t_board o_t_otherBoard o_t_fog o_t_crowd o_t_deal o_t_slots_s sf r43 r51 x_presses x_slots_s_w x_slots_s_h x_slots_s_hands x_slots_s_rules x_slots_s_pressRow x_slots_s_leftFrom x_slots_s_leftTo x_kept)) ⟨hx, hb, hml, hown, hts⟩ (c_X0_start l D cy t o_t_otherBoard o_t_slots_s x_otherBoard_now x_slots_s_w x_slots_s_h x_slots_s_hands hr51) (cwV 1 hts gX7_differs_X0_start rfl rfl rfl ⟨rfl, hd_X0_start⟩ ⟨Nat.le_of_ble_eq_true rfl, Nat.le_of_ble_eq_true rfl⟩) hK hE hP hD hS hA [3, 4, 7] 13 0 0 rfl rfl rfl rfl (by decide +kernel) rfl rfl hl.1 rfl (Nat.le_of_ble_eq_true rfl) dX7_differs_51 ⟨Nat.le_of_ble_eq_true rfl, Nat.le_of_ble_eq_true rfl⟩ (fun H locs hP hD hS => ?_)
        refine lv_iconst (v := (0 : Int32)) hx hb dX7_differs_54 (by decide) ?_
        refine lv_istore (lv' := [(4, .int (0 : Int32)), (3, .ref (o_t_slots_s 0)), (0, .ref (o_t 0)), (1, .int p1), (2, .int p2)]) hx hb dX7_differs_55 hl (by decide) rfl (fun ls hl => ?_)
        exact h57 FU _ _ _ _ _ _ _ _ hf hP hD hS (lv_sub hl [2, 4, 1, 0] rfl)
      · have hf := ifp c25 hf
        refine lv_bipush (v := (-2 : Int32)) hx hb dX7_differs_28 (by decide) ?_
        obtain rfl := Option.some.inj hf
        exact hR _ _ _ _ hP hD hS dX7_differs_30
    · have hf := ifp c15 hf
      refine lv_bipush (v := (-3 : Int32)) hx hb dX7_differs_18 (by decide) ?_
      obtain rfl := Option.some.inj hf
      exact hR _ _ _ _ hP hD hS dX7_differs_20
  · have hf := ifp c4 hf
    refine lv_iconst (v := (-1 : Int32)) hx hb dX7_differs_7 (by decide) ?_
    obtain rfl := Option.some.inj hf
    exact hR _ _ _ _ hP hD hS dX7_differs_8
theorem hd_X7_differs : yX7_differs.cls ≠ "java/lang/invoke/MethodHandle" ∧ yX7_differs.cls ≠ "java/lang/invoke/VarHandle" ∧ (parseMethodDescriptor yX7_differs.desc).map (fun d => d.parameters.length) = some 2 := by decide +kernel
set_option maxRecDepth 100000 in
theorem c_X7_differs (l : Launch) (D : va_G) (cy : Nat → ClassId) (t : Nat → Nat) (o_t o_t_play o_t_lines o_t_truth o_t_glassTrack o_t_board o_t_otherBoard o_t_fog o_t_crowd o_t_deal o_t_slots_s : Nat → Nat) (sf : Nat → Option Nat) (x_board_now : Nat → Int32) (x_otherBoard_now : Nat → Int32) (x_presses : Nat → Int32) (x_slots_s_w : Int32) (x_slots_s_h : Int32) (x_slots_s_hands : Int32) (x_slots_s_rules : Nat → Int32) (x_slots_s_pressRow : Nat → Int32) (x_slots_s_leftFrom : Nat → Int32) (x_slots_s_leftTo : Nat → Int32) (x_kept : Nat → Int32) (p1 : Int32) (p2 : Int32) {out : Int32 × (Nat → Int32) × (Nat → Int32) × (Nat → Int32)} (hso : vp_in p1 4 → sf p1.toNatClampNeg = some (o_t_slots_s 0)) (hf : X7_differs x_slots_s_w x_slots_s_h x_slots_s_hands x_slots_s_rules x_slots_s_pressRow x_slots_s_leftFrom x_slots_s_leftTo x_kept x_board_now x_otherBoard_now x_presses p1 p2 = some out) : ctI l yX7_differs wsX7_differs 5 118 D cy t [.ref (o_t 0), .int p1, .int p2] (wd_X7_differs cy o_t o_t_play o_t_lines o_t_truth o_t_glassTrack o_t_board o_t_otherBoard o_t_fog o_t_crowd o_t_deal o_t_slots_s sf x_board_now x_otherBoard_now x_presses x_slots_s_w x_slots_s_h x_slots_s_hands x_slots_s_rules x_slots_s_pressRow x_slots_s_leftFrom x_slots_s_leftTo x_kept) (wd_X7_differs cy o_t o_t_play o_t_lines o_t_truth o_t_glassTrack o_t_board o_t_otherBoard o_t_fog o_t_crowd o_t_deal o_t_slots_s sf out.2.1 out.2.2.1 out.2.2.2 x_slots_s_w x_slots_s_h x_slots_s_hands x_slots_s_rules x_slots_s_pressRow x_slots_s_leftFrom x_slots_s_leftTo x_kept) out.1 := by
  refine ⟨rfl, ?_⟩
  intro sz
  refine Met.ofW (cc := cX7_differs) (maxL := 5) (ret := (some .int)) (by decide) rfl ?_
  intro p e s m args below meth c s₁ B hml hv
  obtain ⟨rfl, hsz, hP, hK, hD0, hE⟩ := hv
  have hts := atoms_spec (ws := wsX7_differs) B.pre
  have hown : s.vm.findClass RX7 = some m.cls := findClass_of_methodNamed B.named
  have hlocks := B.notSynchronized
  subst hsz
  have hD := hD0.self (sz := s.heap.size)
  have hl := lv_entry ([.ref (o_t 0), .int p1, .int p2]) (n := 5) (Nat.le_of_ble_eq_true rfl)
  rw [lg_entry_eq]
  generalize (lg_sl ([.ref (o_t 0), .int p1, .int p2]) ++ List.replicate (5 - (lg_sl ([.ref (o_t 0), .int p1, .int p2])).length) Slot.unset).toArray = ls at hl ⊢
  exact w_X7_differs D cy t o_t o_t_play o_t_lines o_t_truth o_t_glassTrack o_t_board o_t_otherBoard o_t_fog o_t_crowd o_t_deal o_t_slots_s sf x_board_now x_otherBoard_now x_presses x_slots_s_w x_slots_s_h x_slots_s_hands x_slots_s_rules x_slots_s_pressRow x_slots_s_leftFrom x_slots_s_leftTo x_kept p1 p2 hso hf B.exec B.bytes hml hown hts hK hE (fun q h => Or.inr h) hP hD va_S.rf hl (fun H locs ls pc hP hD hS hdg => W.iret B.exec B.bytes B.returns (fun t ht hW => ⟨⟨_, (), rfl, rfl, ctB_of ht hP⟩, hS.F ht⟩) hS.2.2 hdg)

noncomputable def X7_count (x_play_w : Int32) (x_play_h : Int32) (x_play_hands : Int32) (x_play_pressRow : Nat → Int32) (x_play_leftFrom : Nat → Int32) (x_play_leftTo : Nat → Int32) (x_lines_lostRow : Nat → Int32) (x_crowd_size : Int32) (x_kept : Nat → Int32) (p1 : Int32) : Option (Int32) :=
  if p1 = (0 : Int32) then (some x_play_hands) else if p1 = (1 : Int32) then (some x_play_w) else if p1 = (2 : Int32) then (some x_play_h) else if p1 = (3 : Int32) then (bd (X5_pressed x_play_hands x_play_pressRow) fun r76 => some r76) else if p1 = (4 : Int32) then (bd (X4_lostOnes x_play_hands x_lines_lostRow) fun r84 => some r84) else if p1 = (5 : Int32) then (bd (X5_leftTicks x_play_hands x_play_leftFrom x_play_leftTo) fun r92 => some r92) else if p1 = (6 : Int32) then (some x_crowd_size) else if p1 = (7 : Int32) then (bd (X7_slotsKept x_kept) fun r105 => some r105) else (some (-2 : Int32))
abbrev wd_X7_count (cy : Nat → ClassId) (o_t o_t_play o_t_lines o_t_truth o_t_glassTrack o_t_board o_t_otherBoard o_t_fog o_t_crowd o_t_deal : Nat → Nat) (x_play_w : Int32) (x_play_h : Int32) (x_play_hands : Int32) (x_play_pressRow : Nat → Int32) (x_play_leftFrom : Nat → Int32) (x_play_leftTo : Nat → Int32) (x_lines_lostRow : Nat → Int32) (x_crowd_size : Int32) (x_crowd_paired : Int32) (x_kept : Nat → Int32) : va_W := [(o_t 0, .inr (7, [.ref (o_t_play 0), .ref (o_t_lines 0), .ref (o_t_truth 0), .ref (o_t_glassTrack 0), .ref (o_t_board 0), .ref (o_t_otherBoard 0), .ref (o_t 7), .ref (o_t_fog 0), .ref (o_t_crowd 0), .ref (o_t_deal 0), .ref (o_t 11), .ref (o_t 12)])), (o_t_play 0, .inr (5, [.int x_play_w, .int x_play_h, .int x_play_hands, .ref (o_t_play 4), .ref (o_t_play 5), .ref (o_t_play 6), .ref (o_t_play 7)])), (o_t_play 5, .inl (cy 0, 600, .inl x_play_pressRow)), (o_t_play 6, .inl (cy 0, 6, .inl x_play_leftFrom)), (o_t_play 7, .inl (cy 0, 6, .inl x_play_leftTo)), (o_t_lines 0, .inr (4, [.ref (o_t_play 0), .ref (o_t_lines 2), .ref (o_t_lines 3)])), (o_t_lines 3, .inl (cy 1, 600, .inl x_lines_lostRow)), (o_t_crowd 0, .inr (1, [.int x_crowd_size, .ref (o_t_crowd 2), .ref (o_t_crowd 3), .ref (o_t_crowd 4), .ref (o_t_crowd 5), .ref (o_t_crowd 6), .int x_crowd_paired])), (o_t 12, .inl (cy 1, 4, .inl x_kept))]
set_option maxHeartbeats 4000000 in
set_option maxRecDepth 100000 in
theorem w_X7_count {p : Program} {l : Launch} {e : Env} {s : State} {m : MethodId} {args : Array Value} {below : List Frame} {meth : Method} {c : Code} {Q : State → Prop} {A : Nat → Prop} {H : Heap} {locs : List Loc} {ls : Array Slot} (D : va_G) (cy : Nat → ClassId) (t : Nat → Nat) (o_t o_t_play o_t_lines o_t_truth o_t_glassTrack o_t_board o_t_otherBoard o_t_fog o_t_crowd o_t_deal : Nat → Nat) (x_play_w : Int32) (x_play_h : Int32) (x_play_hands : Int32) (x_play_pressRow : Nat → Int32) (x_play_leftFrom : Nat → Int32) (x_play_leftTo : Nat → Int32) (x_lines_lostRow : Nat → Int32) (x_crowd_size : Int32) (x_crowd_paired : Int32) (x_kept : Nat → Int32) (p1 : Int32) {out : Int32} (hf : X7_count x_play_w x_play_h x_play_hands x_play_pressRow x_play_leftFrom x_play_leftTo x_lines_lostRow x_crowd_size x_kept p1 = some out) (hx : p.tables.exec = Jvm.exec) (hb : c.code = cX7_count) (hml : c.maxLocals = 2) (hown : s.vm.findClass RX7 = some m.cls) (hts : ∀ w ∈ wsX7_count, w.before args s = true) (hK : va_K D vwCl (TYS cy) s) (hE : EV t A s s.heap) (hA : ∀ q, s.heap.size ≤ q → A q) (hP : va_P D vwCl (wd_X7_count cy o_t o_t_play o_t_lines o_t_truth o_t_glassTrack o_t_board o_t_otherBoard o_t_fog o_t_crowd o_t_deal x_play_w x_play_h x_play_hands x_play_pressRow x_play_leftFrom x_play_leftTo x_lines_lostRow x_crowd_size x_crowd_paired x_kept) H) (hD : va_D A (wd_X7_count cy o_t o_t_play o_t_lines o_t_truth o_t_glassTrack o_t_board o_t_otherBoard o_t_fog o_t_crowd o_t_deal x_play_w x_play_h x_play_hands x_play_pressRow x_play_leftFrom x_play_leftTo x_lines_lostRow x_crowd_size x_crowd_paired x_kept)) (hS : va_S A s.heap H locs) (hl : lv_has ls 2 [(0, .ref (o_t 0)), (1, .int p1)]) (hR : ∀ (H : Heap) (locs : List Loc) (ls : Array Slot) (pc : Nat), va_P D vwCl (wd_X7_count cy o_t o_t_play o_t_lines o_t_truth o_t_glassTrack o_t_board o_t_otherBoard o_t_fog o_t_crowd o_t_deal x_play_w x_play_h x_play_hands x_play_pressRow x_play_leftFrom x_play_leftTo x_lines_lostRow x_crowd_size x_crowd_paired x_kept) H → va_D A (wd_X7_count cy o_t o_t_play o_t_lines o_t_truth o_t_glassTrack o_t_board o_t_otherBoard o_t_fog o_t_crowd o_t_deal x_play_w x_play_h x_play_hands x_play_pressRow x_play_leftFrom x_play_leftTo x_lines_lostRow x_crowd_size x_crowd_paired x_kept) → va_S A s.heap H locs → decode cX7_count pc = .ok (.ireturn, 1) → W p l e (rmm 1 22) s m args below meth c H locs 0 0 Q (F0 m pc ls [.int out])) : W p l e (rmm 1 22) s m args below meth c H locs 0 0 Q (F0 m 0 ls []) := by
  have k0 := hts (.fieldLink RX7 10 "SeaGames" "play" "LSeaGames$Play;") (List.mem_cons_of_mem _ (List.mem_append_left _ (List.mem_append_left _ (List.mem_append_left _ (List.mem_append_left _ (List.mem_append_left _ (List.mem_of_getElem? (i := 0) rfl)))))))
  have k1 : ∀ w ∈ u_ws RX7 TX7 12, w ∈ wsX7_count := fun _ h => List.mem_cons_of_mem _ (List.mem_append_left _ (List.mem_append_left _ (List.mem_append_left _ (List.mem_append_right _ h))))
  have k2 := hts (.fieldLink RX7 123 "SeaGames$Play" "hands" "I") (List.mem_cons_of_mem _ (List.mem_append_left _ (List.mem_append_left _ (List.mem_append_left _ (List.mem_append_left _ (List.mem_append_left _ (List.mem_of_getElem? (i := 1) rfl)))))))
  have k3 : ∀ w ∈ u_ws RX5 TX5 7, w ∈ wsX7_count := fun _ h => List.mem_cons_of_mem _ (List.mem_append_left _ (List.mem_append_left _ (List.mem_append_right _ h)))
  have k4 := hts (.fieldLink RX7 209 "SeaGames$Play" "w" "I") (List.mem_cons_of_mem _ (List.mem_append_left _ (List.mem_append_left _ (List.mem_append_left _ (List.mem_append_left _ (List.mem_append_left _ (List.mem_of_getElem? (i := 2) rfl)))))))
  have k5 := hts (.fieldLink RX7 203 "SeaGames$Play" "h" "I") (List.mem_cons_of_mem _ (List.mem_append_left _ (List.mem_append_left _ (List.mem_append_left _ (List.mem_append_left _ (List.mem_append_left _ (List.mem_of_getElem? (i := 3) rfl)))))))
  have k6 := hts (.fieldLink RX7 21 "SeaGames" "lines" "LSeaGames$Lines;") (List.mem_cons_of_mem _ (List.mem_append_left _ (List.mem_append_left _ (List.mem_append_left _ (List.mem_append_left _ (List.mem_append_left _ (List.mem_of_getElem? (i := 4) rfl)))))))
  have k7 := hts (.fieldLink RX7 59 "SeaGames" "crowd" "LSeaGames$Crowd;") (List.mem_cons_of_mem _ (List.mem_append_left _ (List.mem_append_left _ (List.mem_append_left _ (List.mem_append_left _ (List.mem_append_left _ (List.mem_of_getElem? (i := 5) rfl)))))))
  have k8 := hts (.fieldLink RX7 221 "SeaGames$Crowd" "size" "I") (List.mem_cons_of_mem _ (List.mem_append_left _ (List.mem_append_left _ (List.mem_append_left _ (List.mem_append_left _ (List.mem_append_left _ (List.mem_of_getElem? (i := 6) rfl)))))))
  have k9 : ∀ w ∈ u_ws RX1 TX1 7, w ∈ wsX7_count := fun _ h => List.mem_cons_of_mem _ (List.mem_append_left _ (List.mem_append_right _ h))
  rw [X7_count] at hf
  refine lv_iload_n hx hb dX7_count_0 rfl (lv_at hl 1 rfl) ?_
  by_cases c1_0 : p1 = (0 : Int32)
  · have hf := ifp c1_0 hf
    refine lv_tableIn (tgt := 48) hx hb dX7_count_1 (by rw [c1_0]; decide) (by rw [c1_0]; decide) (by rw [c1_0]; rfl) (by decide) ?_
    refine lv_aload_n hx hb dX7_count_48 rfl (lv_at hl 0 rfl) ?_
    refine va_get (D := D) (ci := 7) (v := .ref (o_t_play 0)) (C := RX7) (T := TX7) (N := 12) hx hb hts k1 hown hK hP 0 rfl rfl 0 (by decide) k0 (fun _ h9 => h9) rfl dX7_count_49 ?_
    refine va_get (D := D) (ci := 5) (v := .int x_play_hands) (C := RX5) (T := TX5) (N := 7) hx hb hts k3 hown hK hP 1 rfl rfl 2 (by decide) k2 (fun _ h9 => h9) rfl dX7_count_52 ?_
    obtain rfl := Option.some.inj hf
    exact hR _ _ _ _ hP hD hS dX7_count_55
  have hf := ifn c1_0 hf
  by_cases c1_1 : p1 = (1 : Int32)
  · have hf := ifp c1_1 hf
    refine lv_tableIn (tgt := 56) hx hb dX7_count_1 (by rw [c1_1]; decide) (by rw [c1_1]; decide) (by rw [c1_1]; rfl) (by decide) ?_
    refine lv_aload_n hx hb dX7_count_56 rfl (lv_at hl 0 rfl) ?_
    refine va_get (D := D) (ci := 7) (v := .ref (o_t_play 0)) (C := RX7) (T := TX7) (N := 12) hx hb hts k1 hown hK hP 0 rfl rfl 0 (by decide) k0 (fun _ h9 => h9) rfl dX7_count_57 ?_
    refine va_get (D := D) (ci := 5) (v := .int x_play_w) (C := RX5) (T := TX5) (N := 7) hx hb hts k3 hown hK hP 1 rfl rfl 0 (by decide) k4 (fun _ h9 => h9) rfl dX7_count_60 ?_
    obtain rfl := Option.some.inj hf
    exact hR _ _ _ _ hP hD hS dX7_count_63
  have hf := ifn c1_1 hf
  by_cases c1_2 : p1 = (2 : Int32)
  · have hf := ifp c1_2 hf
    refine lv_tableIn (tgt := 64) hx hb dX7_count_1 (by rw [c1_2]; decide) (by rw [c1_2]; decide) (by rw [c1_2]; rfl) (by decide) ?_
    refine lv_aload_n hx hb dX7_count_64 rfl (lv_at hl 0 rfl) ?_
    refine va_get (D := D) (ci := 7) (v := .ref (o_t_play 0)) (C := RX7) (T := TX7) (N := 12) hx hb hts k1 hown hK hP 0 rfl rfl 0 (by decide) k0 (fun _ h9 => h9) rfl dX7_count_65 ?_
    refine va_get (D := D) (ci := 5) (v := .int x_play_h) (C := RX5) (T := TX5) (N := 7) hx hb hts k3 hown hK hP 1 rfl rfl 1 (by decide) k5 (fun _ h9 => h9) rfl dX7_count_68 ?_
    obtain rfl := Option.some.inj hf
    exact hR _ _ _ _ hP hD hS dX7_count_71
  have hf := ifn c1_2 hf
  by_cases c1_3 : p1 = (3 : Int32)
  · have hf := ifp c1_3 hf
    refine lv_tableIn (tgt := 72) hx hb dX7_count_1 (by rw [c1_3]; decide) (by rw [c1_3]; decide) (by rw [c1_3]; rfl) (by decide) ?_
    refine lv_aload_n hx hb dX7_count_72 rfl (lv_at hl 0 rfl) ?_
    refine va_get (D := D) (ci := 7) (v := .ref (o_t_play 0)) (C := RX7) (T := TX7) (N := 12) hx hb hts k1 hown hK hP 0 rfl rfl 0 (by decide) k0 (fun _ h9 => h9) rfl dX7_count_73 ?_
    obtain ⟨r76, hr76, hf⟩ := bd_s hf
    refine my_Vi (WS2 := (wd_X7_count cy o_t o_t_play o_t_lines o_t_truth o_t_glassTrack o_t_board o_t_otherBoard o_t_fog o_t_crowd o_t_deal x_play_w x_play_h x_play_hands x_play_pressRow x_play_leftFrom x_play_leftTo x_lines_lostRow x_crowd_size x_crowd_paired x_kept)) ⟨hx, hb, hml, hown, hts⟩ (c_X5_pressed l D cy t o_t_play x_play_w x_play_h x_play_hands x_play_pressRow hr76) (cwV 0 hts gX7_count_X5_pressed rfl rfl rfl ⟨rfl, hd_X5_pressed⟩ ⟨Nat.le_of_ble_eq_true rfl, Nat.le_of_ble_eq_true rfl⟩) hK hE hP hD hS hA [1, 2] 9 5 0 rfl rfl rfl rfl (by decide +kernel) rfl rfl hl.1 rfl (Nat.le_of_ble_eq_true rfl) dX7_count_76 ⟨Nat.le_of_ble_eq_true rfl, Nat.le_of_ble_eq_true rfl⟩ (fun H locs hP hD hS => ?_)
    obtain rfl := Option.some.inj hf
    exact hR _ _ _ _ hP hD hS dX7_count_79
  have hf := ifn c1_3 hf
  by_cases c1_4 : p1 = (4 : Int32)
  · have hf := ifp c1_4 hf
    refine lv_tableIn (tgt := 80) hx hb dX7_count_1 (by rw [c1_4]; decide) (by rw [c1_4]; decide) (by rw [c1_4]; rfl) (by decide) ?_
    refine lv_aload_n hx hb dX7_count_80 rfl (lv_at hl 0 rfl) ?_
    refine va_get (D := D) (ci := 7) (v := .ref (o_t_lines 0)) (C := RX7) (T := TX7) (N := 12) hx hb hts k1 hown hK hP 0 rfl rfl 1 (by decide) k6 (fun _ h9 => h9) rfl dX7_count_81 ?_
    obtain ⟨r84, hr84, hf⟩ := bd_s hf
    refine my_Vi (WS2 := (wd_X7_count cy o_t o_t_play o_t_lines o_t_truth o_t_glassTrack o_t_board o_t_otherBoard o_t_fog o_t_crowd o_t_deal x_play_w x_play_h x_play_hands x_play_pressRow x_play_leftFrom x_play_leftTo x_lines_lostRow x_crowd_size x_crowd_paired x_kept)) ⟨hx, hb, hml, hown, hts⟩ (c_X4_lostOnes l D cy t o_t_lines o_t_play x_play_w x_play_h x_play_hands x_lines_lostRow hr84) (cwV 0 hts gX7_count_X4_lostOnes rfl rfl rfl ⟨rfl, hd_X4_lostOnes⟩ ⟨Nat.le_of_ble_eq_true rfl, Nat.le_of_ble_eq_true rfl⟩) hK hE hP hD hS hA [5, 1, 6] 9 4 0 rfl rfl rfl rfl (by decide +kernel) rfl rfl hl.1 rfl (Nat.le_of_ble_eq_true rfl) dX7_count_84 ⟨Nat.le_of_ble_eq_true rfl, Nat.le_of_ble_eq_true rfl⟩ (fun H locs hP hD hS => ?_)
    obtain rfl := Option.some.inj hf
    exact hR _ _ _ _ hP hD hS dX7_count_87
  have hf := ifn c1_4 hf
  by_cases c1_5 : p1 = (5 : Int32)
  · have hf := ifp c1_5 hf
    refine lv_tableIn (tgt := 88) hx hb dX7_count_1 (by rw [c1_5]; decide) (by rw [c1_5]; decide) (by rw [c1_5]; rfl) (by decide) ?_
    refine lv_aload_n hx hb dX7_count_88 rfl (lv_at hl 0 rfl) ?_
    refine va_get (D := D) (ci := 7) (v := .ref (o_t_play 0)) (C := RX7) (T := TX7) (N := 12) hx hb hts k1 hown hK hP 0 rfl rfl 0 (by decide) k0 (fun _ h9 => h9) rfl dX7_count_89 ?_
    obtain ⟨r92, hr92, hf⟩ := bd_s hf
    refine my_Vi (WS2 := (wd_X7_count cy o_t o_t_play o_t_lines o_t_truth o_t_glassTrack o_t_board o_t_otherBoard o_t_fog o_t_crowd o_t_deal x_play_w x_play_h x_play_hands x_play_pressRow x_play_leftFrom x_play_leftTo x_lines_lostRow x_crowd_size x_crowd_paired x_kept)) ⟨hx, hb, hml, hown, hts⟩ (c_X5_leftTicks l D cy t o_t_play x_play_w x_play_h x_play_hands x_play_leftFrom x_play_leftTo hr92) (cwV 0 hts gX7_count_X5_leftTicks rfl rfl rfl ⟨rfl, hd_X5_leftTicks⟩ ⟨Nat.le_of_ble_eq_true rfl, Nat.le_of_ble_eq_true rfl⟩) hK hE hP hD hS hA [1, 3, 4] 9 5 0 rfl rfl rfl rfl (by decide +kernel) rfl rfl hl.1 rfl (Nat.le_of_ble_eq_true rfl) dX7_count_92 ⟨Nat.le_of_ble_eq_true rfl, Nat.le_of_ble_eq_true rfl⟩ (fun H locs hP hD hS => ?_)
    obtain rfl := Option.some.inj hf
    exact hR _ _ _ _ hP hD hS dX7_count_95
  have hf := ifn c1_5 hf
  by_cases c1_6 : p1 = (6 : Int32)
  · have hf := ifp c1_6 hf
    refine lv_tableIn (tgt := 96) hx hb dX7_count_1 (by rw [c1_6]; decide) (by rw [c1_6]; decide) (by rw [c1_6]; rfl) (by decide) ?_
    refine lv_aload_n hx hb dX7_count_96 rfl (lv_at hl 0 rfl) ?_
    refine va_get (D := D) (ci := 7) (v := .ref (o_t_crowd 0)) (C := RX7) (T := TX7) (N := 12) hx hb hts k1 hown hK hP 0 rfl rfl 8 (by decide) k7 (fun _ h9 => h9) rfl dX7_count_97 ?_
    refine va_get (D := D) (ci := 1) (v := .int x_crowd_size) (C := RX1) (T := TX1) (N := 7) hx hb hts k9 hown hK hP 7 rfl rfl 0 (by decide) k8 (fun _ h9 => h9) rfl dX7_count_100 ?_
    obtain rfl := Option.some.inj hf
    exact hR _ _ _ _ hP hD hS dX7_count_103
  have hf := ifn c1_6 hf
  by_cases c1_7 : p1 = (7 : Int32)
  · have hf := ifp c1_7 hf
    refine lv_tableIn (tgt := 104) hx hb dX7_count_1 (by rw [c1_7]; decide) (by rw [c1_7]; decide) (by rw [c1_7]; rfl) (by decide) ?_
    refine lv_aload_n hx hb dX7_count_104 rfl (lv_at hl 0 rfl) ?_
    obtain ⟨r105, hr105, hf⟩ := bd_s hf
    refine my_Vi (WS2 := (wd_X7_count cy o_t o_t_play o_t_lines o_t_truth o_t_glassTrack o_t_board o_t_otherBoard o_t_fog o_t_crowd o_t_deal x_play_w x_play_h x_play_hands x_play_pressRow x_play_leftFrom x_play_leftTo x_lines_lostRow x_crowd_size x_crowd_paired x_kept)) ⟨hx, hb, hml, hown, hts⟩ (c_X7_slotsKept l D cy t o_t o_t_play o_t_lines o_t_truth o_t_glassTrack o_t_board o_t_otherBoard o_t_fog o_t_crowd o_t_deal x_kept hr105) (cwV 0 hts gX7_count_X7_slotsKept rfl rfl rfl ⟨rfl, hd_X7_slotsKept⟩ ⟨Nat.le_of_ble_eq_true rfl, Nat.le_of_ble_eq_true rfl⟩) hK hE hP hD hS hA [0, 8] 9 7 0 rfl rfl rfl rfl (by decide +kernel) rfl rfl hl.1 rfl (Nat.le_of_ble_eq_true rfl) dX7_count_105 ⟨Nat.le_of_ble_eq_true rfl, Nat.le_of_ble_eq_true rfl⟩ (fun H locs hP hD hS => ?_)
    obtain rfl := Option.some.inj hf
    exact hR _ _ _ _ hP hD hS dX7_count_108
  have hf := ifn c1_7 hf
  have e1_0 := ne_ti c1_0
  have e1_1 := ne_ti c1_1
  have e1_2 := ne_ti c1_2
  have e1_3 := ne_ti c1_3
  have e1_4 := ne_ti c1_4
  have e1_5 := ne_ti c1_5
  have e1_6 := ne_ti c1_6
  have e1_7 := ne_ti c1_7
  refine lv_tableOut (tgt := 109) hx hb dX7_count_1 (by have q0 : ((0 : Int32)).toInt = 0 := rfl; have q1 : ((1 : Int32)).toInt = 1 := rfl; have q2 : ((2 : Int32)).toInt = 2 := rfl; have q3 : ((3 : Int32)).toInt = 3 := rfl; have q4 : ((4 : Int32)).toInt = 4 := rfl; have q5 : ((5 : Int32)).toInt = 5 := rfl; have q6 : ((6 : Int32)).toInt = 6 := rfl; have q7 : ((7 : Int32)).toInt = 7 := rfl; omega) (by decide) ?_
  refine lv_bipush (v := (-2 : Int32)) hx hb dX7_count_109 (by decide) ?_
  obtain rfl := Option.some.inj hf
  exact hR _ _ _ _ hP hD hS dX7_count_111
theorem hd_X7_count : yX7_count.cls ≠ "java/lang/invoke/MethodHandle" ∧ yX7_count.cls ≠ "java/lang/invoke/VarHandle" ∧ (parseMethodDescriptor yX7_count.desc).map (fun d => d.parameters.length) = some 1 := by decide +kernel
set_option maxRecDepth 100000 in
theorem c_X7_count (l : Launch) (D : va_G) (cy : Nat → ClassId) (t : Nat → Nat) (o_t o_t_play o_t_lines o_t_truth o_t_glassTrack o_t_board o_t_otherBoard o_t_fog o_t_crowd o_t_deal : Nat → Nat) (x_play_w : Int32) (x_play_h : Int32) (x_play_hands : Int32) (x_play_pressRow : Nat → Int32) (x_play_leftFrom : Nat → Int32) (x_play_leftTo : Nat → Int32) (x_lines_lostRow : Nat → Int32) (x_crowd_size : Int32) (x_crowd_paired : Int32) (x_kept : Nat → Int32) (p1 : Int32) {out : Int32} (hf : X7_count x_play_w x_play_h x_play_hands x_play_pressRow x_play_leftFrom x_play_leftTo x_lines_lostRow x_crowd_size x_kept p1 = some out) : ctI l yX7_count wsX7_count 1 22 D cy t [.ref (o_t 0), .int p1] (wd_X7_count cy o_t o_t_play o_t_lines o_t_truth o_t_glassTrack o_t_board o_t_otherBoard o_t_fog o_t_crowd o_t_deal x_play_w x_play_h x_play_hands x_play_pressRow x_play_leftFrom x_play_leftTo x_lines_lostRow x_crowd_size x_crowd_paired x_kept) (wd_X7_count cy o_t o_t_play o_t_lines o_t_truth o_t_glassTrack o_t_board o_t_otherBoard o_t_fog o_t_crowd o_t_deal x_play_w x_play_h x_play_hands x_play_pressRow x_play_leftFrom x_play_leftTo x_lines_lostRow x_crowd_size x_crowd_paired x_kept) out := by
  refine ⟨rfl, ?_⟩
  intro sz
  refine Met.ofW (cc := cX7_count) (maxL := 2) (ret := (some .int)) (by decide) rfl ?_
  intro p e s m args below meth c s₁ B hml hv
  obtain ⟨rfl, hsz, hP, hK, hD0, hE⟩ := hv
  have hts := atoms_spec (ws := wsX7_count) B.pre
  have hown : s.vm.findClass RX7 = some m.cls := findClass_of_methodNamed B.named
  have hlocks := B.notSynchronized
  subst hsz
  have hD := hD0.self (sz := s.heap.size)
  have hl := lv_entry ([.ref (o_t 0), .int p1]) (n := 2) (Nat.le_of_ble_eq_true rfl)
  rw [lg_entry_eq]
  generalize (lg_sl ([.ref (o_t 0), .int p1]) ++ List.replicate (2 - (lg_sl ([.ref (o_t 0), .int p1])).length) Slot.unset).toArray = ls at hl ⊢
  exact w_X7_count D cy t o_t o_t_play o_t_lines o_t_truth o_t_glassTrack o_t_board o_t_otherBoard o_t_fog o_t_crowd o_t_deal x_play_w x_play_h x_play_hands x_play_pressRow x_play_leftFrom x_play_leftTo x_lines_lostRow x_crowd_size x_crowd_paired x_kept p1 hf B.exec B.bytes hml hown hts hK hE (fun q h => Or.inr h) hP hD va_S.rf hl (fun H locs ls pc hP hD hS hdg => W.iret B.exec B.bytes B.returns (fun t ht hW => ⟨⟨_, (), rfl, rfl, ctB_of ht hP⟩, hS.F ht⟩) hS.2.2 hdg)
