noncomputable def X7_takes (x_play_hands : Int32) (x_play_rules : Nat → Int32) (x_play_pressRow : Nat → Int32) (x_play_leftFrom : Nat → Int32) (x_play_leftTo : Nat → Int32) (x_lines_waits : Nat → Int32) (x_lines_lostRow : Nat → Int32) (p1 : Int32) (p2 : Int32) (p3 : Int32) (p4 : Int32) : Option (Int32) :=
  bd (X7_isHand x_play_hands p1) fun r2 => if r2 = (0 : Int32) then (some (-1 : Int32)) else (bd (X7_isHand x_play_hands p3) fun r10 => if r10 = (0 : Int32) then (some (-1 : Int32)) else (bd (X7_isTick p2) fun r17 => if r17 = (0 : Int32) then (some (-1 : Int32)) else (if p4 < (0 : Int32) then (some (-1 : Int32)) else (if p4 ≤ p2 then (rd x_play_rules 7 (3 : Int32) fun v48 => bd (X4_taken x_play_pressRow x_play_leftFrom x_play_leftTo x_lines_waits x_lines_lostRow v48 p1 p2 p3 p4) fun r54 => some r54) else (some (-1 : Int32))))))
abbrev wd_X7_takes (cy : Nat → ClassId) (o_t o_t_play o_t_lines o_t_truth o_t_glassTrack o_t_board o_t_otherBoard o_t_fog o_t_crowd o_t_deal : Nat → Nat) (x_play_w : Int32) (x_play_h : Int32) (x_play_hands : Int32) (x_play_rules : Nat → Int32) (x_play_pressRow : Nat → Int32) (x_play_leftFrom : Nat → Int32) (x_play_leftTo : Nat → Int32) (x_lines_waits : Nat → Int32) (x_lines_lostRow : Nat → Int32) : va_W := [(o_t 0, .inr (7, [.ref (o_t_play 0), .ref (o_t_lines 0), .ref (o_t_truth 0), .ref (o_t_glassTrack 0), .ref (o_t_board 0), .ref (o_t_otherBoard 0), .ref (o_t 7), .ref (o_t_fog 0), .ref (o_t_crowd 0), .ref (o_t_deal 0), .ref (o_t 11), .ref (o_t 12)])), (o_t_play 0, .inr (5, [.int x_play_w, .int x_play_h, .int x_play_hands, .ref (o_t_play 4), .ref (o_t_play 5), .ref (o_t_play 6), .ref (o_t_play 7)])), (o_t_play 4, .inl (cy 0, 7, .inl x_play_rules)), (o_t_play 5, .inl (cy 0, 600, .inl x_play_pressRow)), (o_t_play 6, .inl (cy 0, 6, .inl x_play_leftFrom)), (o_t_play 7, .inl (cy 0, 6, .inl x_play_leftTo)), (o_t_lines 0, .inr (4, [.ref (o_t_play 0), .ref (o_t_lines 2), .ref (o_t_lines 3)])), (o_t_lines 2, .inl (cy 0, 36, .inl x_lines_waits)), (o_t_lines 3, .inl (cy 1, 600, .inl x_lines_lostRow))]
set_option maxHeartbeats 4000000 in
set_option maxRecDepth 100000 in
theorem w_X7_takes {p : Program} {l : Launch} {e : Env} {s : State} {m : MethodId} {args : Array Value} {below : List Frame} {meth : Method} {c : Code} {Q : State → Prop} {A : Nat → Prop} {H : Heap} {locs : List Loc} {ls : Array Slot} (D : va_G) (cy : Nat → ClassId) (t : Nat → Nat) (o_t o_t_play o_t_lines o_t_truth o_t_glassTrack o_t_board o_t_otherBoard o_t_fog o_t_crowd o_t_deal : Nat → Nat) (x_play_w : Int32) (x_play_h : Int32) (x_play_hands : Int32) (x_play_rules : Nat → Int32) (x_play_pressRow : Nat → Int32) (x_play_leftFrom : Nat → Int32) (x_play_leftTo : Nat → Int32) (x_lines_waits : Nat → Int32) (x_lines_lostRow : Nat → Int32) (p1 : Int32) (p2 : Int32) (p3 : Int32) (p4 : Int32) {out : Int32} (hf : X7_takes x_play_hands x_play_rules x_play_pressRow x_play_leftFrom x_play_leftTo x_lines_waits x_lines_lostRow p1 p2 p3 p4 = some out) (hx : p.tables.exec = Jvm.exec) (hb : c.code = cX7_takes) (hml : c.maxLocals = 5) (hown : s.vm.findClass RX7 = some m.cls) (hts : ∀ w ∈ wsX7_takes, w.before args s = true) (hK : va_K D vwCl (TYS cy) s) (hE : EV t A s s.heap) (hA : ∀ q, s.heap.size ≤ q → A q) (hP : va_P D vwCl (wd_X7_takes cy o_t o_t_play o_t_lines o_t_truth o_t_glassTrack o_t_board o_t_otherBoard o_t_fog o_t_crowd o_t_deal x_play_w x_play_h x_play_hands x_play_rules x_play_pressRow x_play_leftFrom x_play_leftTo x_lines_waits x_lines_lostRow) H) (hD : va_D A (wd_X7_takes cy o_t o_t_play o_t_lines o_t_truth o_t_glassTrack o_t_board o_t_otherBoard o_t_fog o_t_crowd o_t_deal x_play_w x_play_h x_play_hands x_play_rules x_play_pressRow x_play_leftFrom x_play_leftTo x_lines_waits x_lines_lostRow)) (hS : va_S A s.heap H locs) (hl : lv_has ls 5 [(0, .ref (o_t 0)), (1, .int p1), (2, .int p2), (3, .int p3), (4, .int p4)]) (hR : ∀ (H : Heap) (locs : List Loc) (ls : Array Slot) (pc : Nat), va_P D vwCl (wd_X7_takes cy o_t o_t_play o_t_lines o_t_truth o_t_glassTrack o_t_board o_t_otherBoard o_t_fog o_t_crowd o_t_deal x_play_w x_play_h x_play_hands x_play_rules x_play_pressRow x_play_leftFrom x_play_leftTo x_lines_waits x_lines_lostRow) H → va_D A (wd_X7_takes cy o_t o_t_play o_t_lines o_t_truth o_t_glassTrack o_t_board o_t_otherBoard o_t_fog o_t_crowd o_t_deal x_play_w x_play_h x_play_hands x_play_rules x_play_pressRow x_play_leftFrom x_play_leftTo x_lines_waits x_lines_lostRow) → va_S A s.heap H locs → decode cX7_takes pc = .ok (.ireturn, 1) → W p l e (rmm 4 102) s m args below meth c H locs 0 0 Q (F0 m pc ls [.int out])) : W p l e (rmm 4 102) s m args below meth c H locs 0 0 Q (F0 m 0 ls []) := by
  have k0 := hts (.fieldLink RX7 21 "SeaGames" "lines" "LSeaGames$Lines;") (List.mem_cons_of_mem _ (List.mem_append_left _ (List.mem_append_left _ (List.mem_append_left _ (List.mem_append_left _ (List.mem_of_getElem? (i := 0) rfl))))))
  have k1 : ∀ w ∈ u_ws RX7 TX7 12, w ∈ wsX7_takes := fun _ h => List.mem_cons_of_mem _ (List.mem_append_left _ (List.mem_append_left _ (List.mem_append_right _ h)))
  have k2 := hts (.fieldLink RX7 10 "SeaGames" "play" "LSeaGames$Play;") (List.mem_cons_of_mem _ (List.mem_append_left _ (List.mem_append_left _ (List.mem_append_left _ (List.mem_append_left _ (List.mem_of_getElem? (i := 1) rfl))))))
  have k3 := hts (.fieldLink RX7 98 "SeaGames$Play" "rules" "[I") (List.mem_cons_of_mem _ (List.mem_append_left _ (List.mem_append_left _ (List.mem_append_left _ (List.mem_append_left _ (List.mem_of_getElem? (i := 2) rfl))))))
  have k4 : ∀ w ∈ u_ws RX5 TX5 7, w ∈ wsX7_takes := fun _ h => List.mem_cons_of_mem _ (List.mem_append_left _ (List.mem_append_right _ h))
  rw [X7_takes] at hf
  refine lv_aload_n hx hb dX7_takes_0 rfl (lv_at hl 0 rfl) ?_
  refine lv_iload_n hx hb dX7_takes_1 rfl (lv_at hl 1 rfl) ?_
  obtain ⟨r2, hr2, hf⟩ := bd_s hf
  refine my_Vi (WS2 := (wd_X7_takes cy o_t o_t_play o_t_lines o_t_truth o_t_glassTrack o_t_board o_t_otherBoard o_t_fog o_t_crowd o_t_deal x_play_w x_play_h x_play_hands x_play_rules x_play_pressRow x_play_leftFrom x_play_leftTo x_lines_waits x_lines_lostRow)) ⟨hx, hb, hml, hown, hts⟩ (c_X7_isHand l D cy t o_t o_t_play o_t_lines o_t_truth o_t_glassTrack o_t_board o_t_otherBoard o_t_fog o_t_crowd o_t_deal x_play_w x_play_h x_play_hands p1 hr2) (cwV 1 hts gX7_takes_X7_isHand rfl rfl rfl ⟨rfl, hd_X7_isHand⟩ ⟨Nat.le_of_ble_eq_true rfl, Nat.le_of_ble_eq_true rfl⟩) hK hE hP hD hS hA [0, 1] 9 7 0 rfl rfl rfl rfl (by decide +kernel) rfl rfl hl.1 rfl (Nat.le_of_ble_eq_true rfl) dX7_takes_2 ⟨Nat.le_of_ble_eq_true rfl, Nat.le_of_ble_eq_true rfl⟩ (fun H locs hP hD hS => ?_)
  refine lv_if_eq (tgt := 34) hx hb dX7_takes_5 (by decide) (fun c5 => ?_) (fun c5 => ?_)
  · have hf := ifp c5 hf
    refine lv_iconst (v := (-1 : Int32)) hx hb dX7_takes_34 (by decide) ?_
    obtain rfl := Option.some.inj hf
    exact hR _ _ _ _ hP hD hS dX7_takes_35
  · have hf := ifn c5 hf
    refine lv_aload_n hx hb dX7_takes_8 rfl (lv_at hl 0 rfl) ?_
    refine lv_iload_n hx hb dX7_takes_9 rfl (lv_at hl 3 rfl) ?_
    obtain ⟨r10, hr10, hf⟩ := bd_s hf
    refine my_Vi (WS2 := (wd_X7_takes cy o_t o_t_play o_t_lines o_t_truth o_t_glassTrack o_t_board o_t_otherBoard o_t_fog o_t_crowd o_t_deal x_play_w x_play_h x_play_hands x_play_rules x_play_pressRow x_play_leftFrom x_play_leftTo x_lines_waits x_lines_lostRow)) ⟨hx, hb, hml, hown, hts⟩ (c_X7_isHand l D cy t o_t o_t_play o_t_lines o_t_truth o_t_glassTrack o_t_board o_t_otherBoard o_t_fog o_t_crowd o_t_deal x_play_w x_play_h x_play_hands p3 hr10) (cwV 1 hts gX7_takes_X7_isHand rfl rfl rfl ⟨rfl, hd_X7_isHand⟩ ⟨Nat.le_of_ble_eq_true rfl, Nat.le_of_ble_eq_true rfl⟩) hK hE hP hD hS hA [0, 1] 9 7 0 rfl rfl rfl rfl (by decide +kernel) rfl rfl hl.1 rfl (Nat.le_of_ble_eq_true rfl) dX7_takes_10 ⟨Nat.le_of_ble_eq_true rfl, Nat.le_of_ble_eq_true rfl⟩ (fun H locs hP hD hS => ?_)
    refine lv_if_eq (tgt := 34) hx hb dX7_takes_13 (by decide) (fun c13 => ?_) (fun c13 => ?_)
    · have hf := ifp c13 hf
      refine lv_iconst (v := (-1 : Int32)) hx hb dX7_takes_34 (by decide) ?_
      obtain rfl := Option.some.inj hf
      exact hR _ _ _ _ hP hD hS dX7_takes_35
    · have hf := ifn c13 hf
      refine lv_iload_n hx hb dX7_takes_16 rfl (lv_at hl 2 rfl) ?_
      obtain ⟨r17, hr17, hf⟩ := bd_s hf
      refine my_Si (WS2 := (wd_X7_takes cy o_t o_t_play o_t_lines o_t_truth o_t_glassTrack o_t_board o_t_otherBoard o_t_fog o_t_crowd o_t_deal x_play_w x_play_h x_play_hands x_play_rules x_play_pressRow x_play_leftFrom x_play_leftTo x_lines_waits x_lines_lostRow)) ⟨hx, hb, hml, hown, hts⟩ (c_X7_isTick l D cy t p2 hr17) (va_cwS 1 hts gX7_takes_X7_isTick rfl rfl rfl hd_X7_isTick ⟨Nat.le_of_ble_eq_true rfl, Nat.le_of_ble_eq_true rfl⟩) hK hE hP hD hS hA [] 9 rfl rfl (by decide +kernel) rfl rfl hl.1 rfl (Nat.le_of_ble_eq_true rfl) dX7_takes_17 ⟨Nat.le_of_ble_eq_true rfl, Nat.le_of_ble_eq_true rfl⟩ (fun H locs hP hD hS => ?_)
      refine lv_if_eq (tgt := 34) hx hb dX7_takes_20 (by decide) (fun c20 => ?_) (fun c20 => ?_)
      · have hf := ifp c20 hf
        refine lv_iconst (v := (-1 : Int32)) hx hb dX7_takes_34 (by decide) ?_
        obtain rfl := Option.some.inj hf
        exact hR _ _ _ _ hP hD hS dX7_takes_35
      · have hf := ifn c20 hf
        refine lv_iload hx hb dX7_takes_23 (lv_at hl 4 rfl) ?_
        refine lv_if_lt (tgt := 34) hx hb dX7_takes_25 (by decide) (fun c25 => ?_) (fun c25 => ?_)
        · have hf := ifp c25 hf
          refine lv_iconst (v := (-1 : Int32)) hx hb dX7_takes_34 (by decide) ?_
          obtain rfl := Option.some.inj hf
          exact hR _ _ _ _ hP hD hS dX7_takes_35
        · have hf := ifn c25 hf
          refine lv_iload hx hb dX7_takes_28 (lv_at hl 4 rfl) ?_
          refine lv_iload_n hx hb dX7_takes_30 rfl (lv_at hl 2 rfl) ?_
          refine lv_icmp_le (tgt := 36) hx hb dX7_takes_31 (by decide) (fun c31 => ?_) (fun c31 => ?_)
          · have hf := ifp c31 hf
            refine lv_aload_n hx hb dX7_takes_36 rfl (lv_at hl 0 rfl) ?_
            refine va_get (D := D) (ci := 7) (v := .ref (o_t_lines 0)) (C := RX7) (T := TX7) (N := 12) hx hb hts k1 hown hK hP 0 rfl rfl 1 (by decide) k0 (fun _ h9 => h9) rfl dX7_takes_37 ?_
            refine lv_aload_n hx hb dX7_takes_40 rfl (lv_at hl 0 rfl) ?_
            refine va_get (D := D) (ci := 7) (v := .ref (o_t_play 0)) (C := RX7) (T := TX7) (N := 12) hx hb hts k1 hown hK hP 0 rfl rfl 0 (by decide) k2 (fun _ h9 => h9) rfl dX7_takes_41 ?_
            refine va_get (D := D) (ci := 5) (v := .ref (o_t_play 4)) (C := RX5) (T := TX5) (N := 7) hx hb hts k4 hown hK hP 1 rfl rfl 3 (by decide) k3 (fun _ h9 => h9) rfl dX7_takes_44 ?_
            refine lv_iconst (v := (3 : Int32)) hx hb dX7_takes_47 (by decide) ?_
            obtain ⟨v48, b48, ev48, hf⟩ := rd_s hf
            refine my_iald hx hb hK hP 2 rfl b48 ev48 dX7_takes_48 ?_
            refine lv_iload_n hx hb dX7_takes_49 rfl (lv_at hl 1 rfl) ?_
            refine lv_iload_n hx hb dX7_takes_50 rfl (lv_at hl 2 rfl) ?_
            refine lv_iload_n hx hb dX7_takes_51 rfl (lv_at hl 3 rfl) ?_
            refine lv_iload hx hb dX7_takes_52 (lv_at hl 4 rfl) ?_
            obtain ⟨r54, hr54, hf⟩ := bd_s hf
            refine my_Vi (WS2 := (wd_X7_takes cy o_t o_t_play o_t_lines o_t_truth o_t_glassTrack o_t_board o_t_otherBoard o_t_fog o_t_crowd o_t_deal x_play_w x_play_h x_play_hands x_play_rules x_play_pressRow x_play_leftFrom x_play_leftTo x_lines_waits x_lines_lostRow)) ⟨hx, hb, hml, hown, hts⟩ (c_X4_taken l D cy t o_t_lines o_t_play x_play_w x_play_h x_play_hands x_play_pressRow x_play_leftFrom x_play_leftTo x_lines_waits x_lines_lostRow v48 p1 p2 p3 p4 hr54) (cwV 5 hts gX7_takes_X4_taken rfl rfl rfl ⟨rfl, hd_X4_taken⟩ ⟨Nat.le_of_ble_eq_true rfl, Nat.le_of_ble_eq_true rfl⟩) hK hE hP hD hS hA [6, 1, 3, 4, 5, 7, 8] 9 4 0 rfl rfl rfl rfl (by decide +kernel) rfl rfl hl.1 rfl (Nat.le_of_ble_eq_true rfl) dX7_takes_54 ⟨Nat.le_of_ble_eq_true rfl, Nat.le_of_ble_eq_true rfl⟩ (fun H locs hP hD hS => ?_)
            obtain rfl := Option.some.inj hf
            exact hR _ _ _ _ hP hD hS dX7_takes_57
          · have hf := ifn c31 hf
            refine lv_iconst (v := (-1 : Int32)) hx hb dX7_takes_34 (by decide) ?_
            obtain rfl := Option.some.inj hf
            exact hR _ _ _ _ hP hD hS dX7_takes_35
theorem hd_X7_takes : yX7_takes.cls ≠ "java/lang/invoke/MethodHandle" ∧ yX7_takes.cls ≠ "java/lang/invoke/VarHandle" ∧ (parseMethodDescriptor yX7_takes.desc).map (fun d => d.parameters.length) = some 4 := by decide +kernel
set_option maxRecDepth 100000 in
theorem c_X7_takes (l : Launch) (D : va_G) (cy : Nat → ClassId) (t : Nat → Nat) (o_t o_t_play o_t_lines o_t_truth o_t_glassTrack o_t_board o_t_otherBoard o_t_fog o_t_crowd o_t_deal : Nat → Nat) (x_play_w : Int32) (x_play_h : Int32) (x_play_hands : Int32) (x_play_rules : Nat → Int32) (x_play_pressRow : Nat → Int32) (x_play_leftFrom : Nat → Int32) (x_play_leftTo : Nat → Int32) (x_lines_waits : Nat → Int32) (x_lines_lostRow : Nat → Int32) (p1 : Int32) (p2 : Int32) (p3 : Int32) (p4 : Int32) {out : Int32} (hf : X7_takes x_play_hands x_play_rules x_play_pressRow x_play_leftFrom x_play_leftTo x_lines_waits x_lines_lostRow p1 p2 p3 p4 = some out) : ctI l yX7_takes wsX7_takes 4 102 D cy t [.ref (o_t 0), .int p1, .int p2, .int p3, .int p4] (wd_X7_takes cy o_t o_t_play o_t_lines o_t_truth o_t_glassTrack o_t_board o_t_otherBoard o_t_fog o_t_crowd o_t_deal x_play_w x_play_h x_play_hands x_play_rules x_play_pressRow x_play_leftFrom x_play_leftTo x_lines_waits x_lines_lostRow) (wd_X7_takes cy o_t o_t_play o_t_lines o_t_truth o_t_glassTrack o_t_board o_t_otherBoard o_t_fog o_t_crowd o_t_deal x_play_w x_play_h x_play_hands x_play_rules x_play_pressRow x_play_leftFrom x_play_leftTo x_lines_waits x_lines_lostRow) out := by
  refine ⟨rfl, ?_⟩
  intro sz
  refine Met.ofW (cc := cX7_takes) (maxL := 5) (ret := (some .int)) (by decide) rfl ?_
  intro p e s m args below meth c s₁ B hml hv
  obtain ⟨rfl, hsz, hP, hK, hD0, hE⟩ := hv
  have hts := atoms_spec (ws := wsX7_takes) B.pre
  have hown : s.vm.findClass RX7 = some m.cls := findClass_of_methodNamed B.named
  have hlocks := B.notSynchronized
  subst hsz
  have hD := hD0.self (sz := s.heap.size)
  have hl := lv_entry ([.ref (o_t 0), .int p1, .int p2, .int p3, .int p4]) (n := 5) (Nat.le_of_ble_eq_true rfl)
  rw [lg_entry_eq]
  generalize (lg_sl ([.ref (o_t 0), .int p1, .int p2, .int p3, .int p4]) ++ List.replicate (5 - (lg_sl ([.ref (o_t 0), .int p1, .int p2, .int p3, .int p4])).length) Slot.unset).toArray = ls at hl ⊢
  exact w_X7_takes D cy t o_t o_t_play o_t_lines o_t_truth o_t_glassTrack o_t_board o_t_otherBoard o_t_fog o_t_crowd o_t_deal x_play_w x_play_h x_play_hands x_play_rules x_play_pressRow x_play_leftFrom x_play_leftTo x_lines_waits x_lines_lostRow p1 p2 p3 p4 hf B.exec B.bytes hml hown hts hK hE (fun q h => Or.inr h) hP hD va_S.rf hl (fun H locs ls pc hP hD hS hdg => W.iret B.exec B.bytes B.returns (fun t ht hW => ⟨⟨_, (), rfl, rfl, ctB_of ht hP⟩, hS.F ht⟩) hS.2.2 hdg)

noncomputable def X7_shown (x_play_w : Int32) (x_play_h : Int32) (x_play_hands : Int32) (x_play_rules : Nat → Int32) (x_play_pressRow : Nat → Int32) (x_play_leftFrom : Nat → Int32) (x_play_leftTo : Nat → Int32) (x_lines_waits : Nat → Int32) (x_lines_lostRow : Nat → Int32) (x_glassTrack_rows : Nat → Int32) (x_board_now : Nat → Int32) (x_presses : Nat → Int32) (p1 : Int32) (p2 : Int32) (p3 : Int32) : Option (Int32 × (Nat → Int32) × (Nat → Int32) × (Nat → Int32)) :=
  bd (X7_isHand x_play_hands p1) fun r2 => if r2 = (0 : Int32) then (some ((-1 : Int32), x_glassTrack_rows, x_board_now, x_presses)) else (bd (X7_isTick p2) fun r9 => if r9 = (0 : Int32) then (some ((-1 : Int32), x_glassTrack_rows, x_board_now, x_presses)) else (bd (X7_columnOf p3 x_play_hands) fun r25 => if (0 : Int32) ≤ r25 then (bd (X7_showFrom x_play_w x_play_h x_play_hands x_play_rules x_play_pressRow x_play_leftFrom x_play_leftTo x_lines_waits x_lines_lostRow x_glassTrack_rows x_board_now x_presses p1 p2 (0 : Int32)) fun r42 => bd (X6_at r42.1 p2 r25) fun r56 => bd (X7_told x_play_w r56 r25) fun r61 => some (r61, r42.1, r42.2.1, r42.2.2)) else (some ((-2 : Int32), x_glassTrack_rows, x_board_now, x_presses))))
abbrev wd_X7_shown (cy : Nat → ClassId) (o_t o_t_play o_t_lines o_t_truth o_t_glassTrack o_t_board o_t_otherBoard o_t_fog o_t_crowd o_t_deal : Nat → Nat) (x_play_w : Int32) (x_play_h : Int32) (x_play_hands : Int32) (x_play_rules : Nat → Int32) (x_play_pressRow : Nat → Int32) (x_play_leftFrom : Nat → Int32) (x_play_leftTo : Nat → Int32) (x_lines_waits : Nat → Int32) (x_lines_lostRow : Nat → Int32) (x_glassTrack_ready : Int32) (x_glassTrack_rows : Nat → Int32) (x_board_now : Nat → Int32) (x_presses : Nat → Int32) : va_W := [(o_t 0, .inr (7, [.ref (o_t_play 0), .ref (o_t_lines 0), .ref (o_t_truth 0), .ref (o_t_glassTrack 0), .ref (o_t_board 0), .ref (o_t_otherBoard 0), .ref (o_t 7), .ref (o_t_fog 0), .ref (o_t_crowd 0), .ref (o_t_deal 0), .ref (o_t 11), .ref (o_t 12)])), (o_t_play 0, .inr (5, [.int x_play_w, .int x_play_h, .int x_play_hands, .ref (o_t_play 4), .ref (o_t_play 5), .ref (o_t_play 6), .ref (o_t_play 7)])), (o_t_play 4, .inl (cy 0, 7, .inl x_play_rules)), (o_t_play 5, .inl (cy 0, 600, .inl x_play_pressRow)), (o_t_play 6, .inl (cy 0, 6, .inl x_play_leftFrom)), (o_t_play 7, .inl (cy 0, 6, .inl x_play_leftTo)), (o_t_lines 0, .inr (4, [.ref (o_t_play 0), .ref (o_t_lines 2), .ref (o_t_lines 3)])), (o_t_lines 2, .inl (cy 0, 36, .inl x_lines_waits)), (o_t_lines 3, .inl (cy 1, 600, .inl x_lines_lostRow)), (o_t_glassTrack 0, .inr (6, [.ref (o_t_glassTrack 1), .int x_glassTrack_ready])), (o_t_glassTrack 1, .inl (cy 0, 1300, .inl x_glassTrack_rows)), (o_t_board 0, .inr (0, [.ref (o_t_board 1)])), (o_t_board 1, .inl (cy 0, 13, .inl x_board_now)), (o_t 7, .inl (cy 0, 6, .inl x_presses))]
set_option maxHeartbeats 4000000 in
set_option maxRecDepth 100000 in
theorem w_X7_shown {p : Program} {l : Launch} {e : Env} {s : State} {m : MethodId} {args : Array Value} {below : List Frame} {meth : Method} {c : Code} {Q : State → Prop} {A : Nat → Prop} {H : Heap} {locs : List Loc} {ls : Array Slot} (D : va_G) (cy : Nat → ClassId) (t : Nat → Nat) (o_t o_t_play o_t_lines o_t_truth o_t_glassTrack o_t_board o_t_otherBoard o_t_fog o_t_crowd o_t_deal : Nat → Nat) (x_play_w : Int32) (x_play_h : Int32) (x_play_hands : Int32) (x_play_rules : Nat → Int32) (x_play_pressRow : Nat → Int32) (x_play_leftFrom : Nat → Int32) (x_play_leftTo : Nat → Int32) (x_lines_waits : Nat → Int32) (x_lines_lostRow : Nat → Int32) (x_glassTrack_ready : Int32) (x_glassTrack_rows : Nat → Int32) (x_board_now : Nat → Int32) (x_presses : Nat → Int32) (p1 : Int32) (p2 : Int32) (p3 : Int32) {out : Int32 × (Nat → Int32) × (Nat → Int32) × (Nat → Int32)} (hf : X7_shown x_play_w x_play_h x_play_hands x_play_rules x_play_pressRow x_play_leftFrom x_play_leftTo x_lines_waits x_lines_lostRow x_glassTrack_rows x_board_now x_presses p1 p2 p3 = some out) (hx : p.tables.exec = Jvm.exec) (hb : c.code = cX7_shown) (hml : c.maxLocals = 5) (hown : s.vm.findClass RX7 = some m.cls) (hts : ∀ w ∈ wsX7_shown, w.before args s = true) (hK : va_K D vwCl (TYS cy) s) (hE : EV t A s s.heap) (hA : ∀ q, s.heap.size ≤ q → A q) (hP : va_P D vwCl (wd_X7_shown cy o_t o_t_play o_t_lines o_t_truth o_t_glassTrack o_t_board o_t_otherBoard o_t_fog o_t_crowd o_t_deal x_play_w x_play_h x_play_hands x_play_rules x_play_pressRow x_play_leftFrom x_play_leftTo x_lines_waits x_lines_lostRow x_glassTrack_ready x_glassTrack_rows x_board_now x_presses) H) (hD : va_D A (wd_X7_shown cy o_t o_t_play o_t_lines o_t_truth o_t_glassTrack o_t_board o_t_otherBoard o_t_fog o_t_crowd o_t_deal x_play_w x_play_h x_play_hands x_play_rules x_play_pressRow x_play_leftFrom x_play_leftTo x_lines_waits x_lines_lostRow x_glassTrack_ready x_glassTrack_rows x_board_now x_presses)) (hS : va_S A s.heap H locs) (hl : lv_has ls 5 [(0, .ref (o_t 0)), (1, .int p1), (2, .int p2), (3, .int p3)]) (hR : ∀ (H : Heap) (locs : List Loc) (ls : Array Slot) (pc : Nat), va_P D vwCl (wd_X7_shown cy o_t o_t_play o_t_lines o_t_truth o_t_glassTrack o_t_board o_t_otherBoard o_t_fog o_t_crowd o_t_deal x_play_w x_play_h x_play_hands x_play_rules x_play_pressRow x_play_leftFrom x_play_leftTo x_lines_waits x_lines_lostRow x_glassTrack_ready out.2.1 out.2.2.1 out.2.2.2) H → va_D A (wd_X7_shown cy o_t o_t_play o_t_lines o_t_truth o_t_glassTrack o_t_board o_t_otherBoard o_t_fog o_t_crowd o_t_deal x_play_w x_play_h x_play_hands x_play_rules x_play_pressRow x_play_leftFrom x_play_leftTo x_lines_waits x_lines_lostRow x_glassTrack_ready out.2.1 out.2.2.1 out.2.2.2) → va_S A s.heap H locs → decode cX7_shown pc = .ok (.ireturn, 1) → W p l e (rmm 6 143) s m args below meth c H locs 0 0 Q (F0 m pc ls [.int out.1])) : W p l e (rmm 6 143) s m args below meth c H locs 0 0 Q (F0 m 0 ls []) := by
  have k0 := hts (.fieldLink RX7 10 "SeaGames" "play" "LSeaGames$Play;") (List.mem_cons_of_mem _ (List.mem_append_left _ (List.mem_append_left _ (List.mem_append_left _ (List.mem_append_left _ (List.mem_append_left _ (List.mem_append_left _ (List.mem_of_getElem? (i := 0) rfl))))))))
  have k1 : ∀ w ∈ u_ws RX7 TX7 12, w ∈ wsX7_shown := fun _ h => List.mem_cons_of_mem _ (List.mem_append_left _ (List.mem_append_left _ (List.mem_append_left _ (List.mem_append_left _ (List.mem_append_right _ h)))))
  have k2 := hts (.fieldLink RX7 123 "SeaGames$Play" "hands" "I") (List.mem_cons_of_mem _ (List.mem_append_left _ (List.mem_append_left _ (List.mem_append_left _ (List.mem_append_left _ (List.mem_append_left _ (List.mem_append_left _ (List.mem_of_getElem? (i := 1) rfl))))))))
  have k3 : ∀ w ∈ u_ws RX5 TX5 7, w ∈ wsX7_shown := fun _ h => List.mem_cons_of_mem _ (List.mem_append_left _ (List.mem_append_left _ (List.mem_append_left _ (List.mem_append_right _ h))))
  have k4 := hts (.fieldLink RX7 32 "SeaGames" "glassTrack" "LSeaGames$Track;") (List.mem_cons_of_mem _ (List.mem_append_left _ (List.mem_append_left _ (List.mem_append_left _ (List.mem_append_left _ (List.mem_append_left _ (List.mem_append_left _ (List.mem_of_getElem? (i := 2) rfl))))))))
  rw [X7_shown] at hf
  refine lv_aload_n hx hb dX7_shown_0 rfl (lv_at hl 0 rfl) ?_
  refine lv_iload_n hx hb dX7_shown_1 rfl (lv_at hl 1 rfl) ?_
  obtain ⟨r2, hr2, hf⟩ := bd_s hf
  refine my_Vi (WS2 := (wd_X7_shown cy o_t o_t_play o_t_lines o_t_truth o_t_glassTrack o_t_board o_t_otherBoard o_t_fog o_t_crowd o_t_deal x_play_w x_play_h x_play_hands x_play_rules x_play_pressRow x_play_leftFrom x_play_leftTo x_lines_waits x_lines_lostRow x_glassTrack_ready x_glassTrack_rows x_board_now x_presses)) ⟨hx, hb, hml, hown, hts⟩ (c_X7_isHand l D cy t o_t o_t_play o_t_lines o_t_truth o_t_glassTrack o_t_board o_t_otherBoard o_t_fog o_t_crowd o_t_deal x_play_w x_play_h x_play_hands p1 hr2) (cwV 1 hts gX7_shown_X7_isHand rfl rfl rfl ⟨rfl, hd_X7_isHand⟩ ⟨Nat.le_of_ble_eq_true rfl, Nat.le_of_ble_eq_true rfl⟩) hK hE hP hD hS hA [0, 1] 14 7 0 rfl rfl rfl rfl (by decide +kernel) rfl rfl hl.1 rfl (Nat.le_of_ble_eq_true rfl) dX7_shown_2 ⟨Nat.le_of_ble_eq_true rfl, Nat.le_of_ble_eq_true rfl⟩ (fun H locs hP hD hS => ?_)
  refine lv_if_eq (tgt := 15) hx hb dX7_shown_5 (by decide) (fun c5 => ?_) (fun c5 => ?_)
  · have hf := ifp c5 hf
    refine lv_iconst (v := (-1 : Int32)) hx hb dX7_shown_15 (by decide) ?_
    obtain rfl := Option.some.inj hf
    exact hR _ _ _ _ hP hD hS dX7_shown_16
  · have hf := ifn c5 hf
    refine lv_iload_n hx hb dX7_shown_8 rfl (lv_at hl 2 rfl) ?_
    obtain ⟨r9, hr9, hf⟩ := bd_s hf
    refine my_Si (WS2 := (wd_X7_shown cy o_t o_t_play o_t_lines o_t_truth o_t_glassTrack o_t_board o_t_otherBoard o_t_fog o_t_crowd o_t_deal x_play_w x_play_h x_play_hands x_play_rules x_play_pressRow x_play_leftFrom x_play_leftTo x_lines_waits x_lines_lostRow x_glassTrack_ready x_glassTrack_rows x_board_now x_presses)) ⟨hx, hb, hml, hown, hts⟩ (c_X7_isTick l D cy t p2 hr9) (va_cwS 1 hts gX7_shown_X7_isTick rfl rfl rfl hd_X7_isTick ⟨Nat.le_of_ble_eq_true rfl, Nat.le_of_ble_eq_true rfl⟩) hK hE hP hD hS hA [] 14 rfl rfl (by decide +kernel) rfl rfl hl.1 rfl (Nat.le_of_ble_eq_true rfl) dX7_shown_9 ⟨Nat.le_of_ble_eq_true rfl, Nat.le_of_ble_eq_true rfl⟩ (fun H locs hP hD hS => ?_)
    refine lv_if_ne (tgt := 17) hx hb dX7_shown_12 (by decide) (fun c12 => ?_) (fun c12 => ?_)
    · have hf := ifn c12 hf
      refine lv_iload_n hx hb dX7_shown_17 rfl (lv_at hl 3 rfl) ?_
      refine lv_aload_n hx hb dX7_shown_18 rfl (lv_at hl 0 rfl) ?_
      refine va_get (D := D) (ci := 7) (v := .ref (o_t_play 0)) (C := RX7) (T := TX7) (N := 12) hx hb hts k1 hown hK hP 0 rfl rfl 0 (by decide) k0 (fun _ h9 => h9) rfl dX7_shown_19 ?_
      refine va_get (D := D) (ci := 5) (v := .int x_play_hands) (C := RX5) (T := TX5) (N := 7) hx hb hts k3 hown hK hP 1 rfl rfl 2 (by decide) k2 (fun _ h9 => h9) rfl dX7_shown_22 ?_
      obtain ⟨r25, hr25, hf⟩ := bd_s hf
      refine my_Si (WS2 := (wd_X7_shown cy o_t o_t_play o_t_lines o_t_truth o_t_glassTrack o_t_board o_t_otherBoard o_t_fog o_t_crowd o_t_deal x_play_w x_play_h x_play_hands x_play_rules x_play_pressRow x_play_leftFrom x_play_leftTo x_lines_waits x_lines_lostRow x_glassTrack_ready x_glassTrack_rows x_board_now x_presses)) ⟨hx, hb, hml, hown, hts⟩ (c_X7_columnOf l D cy t p3 x_play_hands hr25) (va_cwS 2 hts gX7_shown_X7_columnOf rfl rfl rfl hd_X7_columnOf ⟨Nat.le_of_ble_eq_true rfl, Nat.le_of_ble_eq_true rfl⟩) hK hE hP hD hS hA [] 14 rfl rfl (by decide +kernel) rfl rfl hl.1 rfl (Nat.le_of_ble_eq_true rfl) dX7_shown_25 ⟨Nat.le_of_ble_eq_true rfl, Nat.le_of_ble_eq_true rfl⟩ (fun H locs hP hD hS => ?_)
      refine lv_istore (lv' := [(4, .int r25), (0, .ref (o_t 0)), (1, .int p1), (2, .int p2), (3, .int p3)]) hx hb dX7_shown_28 hl (by decide) rfl (fun ls hl => ?_)
      refine lv_iload hx hb dX7_shown_30 (lv_at hl 0 rfl) ?_
      refine lv_if_ge (tgt := 38) hx hb dX7_shown_32 (by decide) (fun c32 => ?_) (fun c32 => ?_)
      · have hf := ifp c32 hf
        refine lv_aload_n hx hb dX7_shown_38 rfl (lv_at hl 1 rfl) ?_
        refine lv_iload_n hx hb dX7_shown_39 rfl (lv_at hl 2 rfl) ?_
        refine lv_iload_n hx hb dX7_shown_40 rfl (lv_at hl 3 rfl) ?_
        refine lv_iconst (v := (0 : Int32)) hx hb dX7_shown_41 (by decide) ?_
        obtain ⟨r42, hr42, hf⟩ := bd_s hf
        refine my_Vv (WS2 := (wd_X7_shown cy o_t o_t_play o_t_lines o_t_truth o_t_glassTrack o_t_board o_t_otherBoard o_t_fog o_t_crowd o_t_deal x_play_w x_play_h x_play_hands x_play_rules x_play_pressRow x_play_leftFrom x_play_leftTo x_lines_waits x_lines_lostRow x_glassTrack_ready r42.1 r42.2.1 r42.2.2)) ⟨hx, hb, hml, hown, hts⟩ (c_X7_showFrom l D cy t o_t o_t_play o_t_lines o_t_truth o_t_glassTrack o_t_board o_t_otherBoard o_t_fog o_t_crowd o_t_deal x_play_w x_play_h x_play_hands x_play_rules x_play_pressRow x_play_leftFrom x_play_leftTo x_lines_waits x_lines_lostRow x_glassTrack_ready x_glassTrack_rows x_board_now x_presses p1 p2 (0 : Int32) hr42) (cwV 3 hts gX7_shown_X7_showFrom rfl rfl rfl ⟨rfl, hd_X7_showFrom⟩ ⟨Nat.le_of_ble_eq_true rfl, Nat.le_of_ble_eq_true rfl⟩) hK hE hP hD hS hA [0, 1, 2, 3, 4, 5, 6, 7, 8, 9, 10, 11, 12, 13] 14 7 0 rfl rfl rfl rfl (by decide +kernel) rfl rfl hl.1 rfl (Nat.le_of_ble_eq_true rfl) dX7_shown_42 ⟨Nat.le_of_ble_eq_true rfl, Nat.le_of_ble_eq_true rfl⟩ (fun H locs hP hD hS => ?_)
        refine lv_aload_n hx hb dX7_shown_45 rfl (lv_at hl 1 rfl) ?_
        refine va_get (D := D) (ci := 7) (v := .ref (o_t_play 0)) (C := RX7) (T := TX7) (N := 12) hx hb hts k1 hown hK hP 0 rfl rfl 0 (by decide) k0 (fun _ h9 => h9) rfl dX7_shown_46 ?_
        refine lv_aload_n hx hb dX7_shown_49 rfl (lv_at hl 1 rfl) ?_
        refine va_get (D := D) (ci := 7) (v := .ref (o_t_glassTrack 0)) (C := RX7) (T := TX7) (N := 12) hx hb hts k1 hown hK hP 0 rfl rfl 3 (by decide) k4 (fun _ h9 => h9) rfl dX7_shown_50 ?_
        refine lv_iload_n hx hb dX7_shown_53 rfl (lv_at hl 3 rfl) ?_
        refine lv_iload hx hb dX7_shown_54 (lv_at hl 0 rfl) ?_
        obtain ⟨r56, hr56, hf⟩ := bd_s hf
        refine my_Vi (WS2 := (wd_X7_shown cy o_t o_t_play o_t_lines o_t_truth o_t_glassTrack o_t_board o_t_otherBoard o_t_fog o_t_crowd o_t_deal x_play_w x_play_h x_play_hands x_play_rules x_play_pressRow x_play_leftFrom x_play_leftTo x_lines_waits x_lines_lostRow x_glassTrack_ready r42.1 r42.2.1 r42.2.2)) ⟨hx, hb, hml, hown, hts⟩ (c_X6_at l D cy t o_t_glassTrack x_glassTrack_ready r42.1 p2 r25 hr56) (cwV 2 hts gX7_shown_X6_at rfl rfl rfl ⟨rfl, hd_X6_at⟩ ⟨Nat.le_of_ble_eq_true rfl, Nat.le_of_ble_eq_true rfl⟩) hK hE hP hD hS hA [9, 10] 14 6 0 rfl rfl rfl rfl (by decide +kernel) rfl rfl hl.1 rfl (Nat.le_of_ble_eq_true rfl) dX7_shown_56 ⟨Nat.le_of_ble_eq_true rfl, Nat.le_of_ble_eq_true rfl⟩ (fun H locs hP hD hS => ?_)
        refine lv_iload hx hb dX7_shown_59 (lv_at hl 0 rfl) ?_
        obtain ⟨r61, hr61, hf⟩ := bd_s hf
        refine my_Si (WS2 := (wd_X7_shown cy o_t o_t_play o_t_lines o_t_truth o_t_glassTrack o_t_board o_t_otherBoard o_t_fog o_t_crowd o_t_deal x_play_w x_play_h x_play_hands x_play_rules x_play_pressRow x_play_leftFrom x_play_leftTo x_lines_waits x_lines_lostRow x_glassTrack_ready r42.1 r42.2.1 r42.2.2)) ⟨hx, hb, hml, hown, hts⟩ (c_X7_told l D cy t o_t_play x_play_w x_play_h x_play_hands r56 r25 hr61) (va_cwS 3 hts gX7_shown_X7_told rfl rfl rfl hd_X7_told ⟨Nat.le_of_ble_eq_true rfl, Nat.le_of_ble_eq_true rfl⟩) hK hE hP hD hS hA [1] 14 rfl rfl (by decide +kernel) rfl rfl hl.1 rfl (Nat.le_of_ble_eq_true rfl) dX7_shown_61 ⟨Nat.le_of_ble_eq_true rfl, Nat.le_of_ble_eq_true rfl⟩ (fun H locs hP hD hS => ?_)
        obtain rfl := Option.some.inj hf
        exact hR _ _ _ _ hP hD hS dX7_shown_64
      · have hf := ifn c32 hf
        refine lv_bipush (v := (-2 : Int32)) hx hb dX7_shown_35 (by decide) ?_
        obtain rfl := Option.some.inj hf
        exact hR _ _ _ _ hP hD hS dX7_shown_37
    · have hf := ifp c12 hf
      refine lv_iconst (v := (-1 : Int32)) hx hb dX7_shown_15 (by decide) ?_
      obtain rfl := Option.some.inj hf
      exact hR _ _ _ _ hP hD hS dX7_shown_16
theorem hd_X7_shown : yX7_shown.cls ≠ "java/lang/invoke/MethodHandle" ∧ yX7_shown.cls ≠ "java/lang/invoke/VarHandle" ∧ (parseMethodDescriptor yX7_shown.desc).map (fun d => d.parameters.length) = some 3 := by decide +kernel
set_option maxRecDepth 100000 in
theorem c_X7_shown (l : Launch) (D : va_G) (cy : Nat → ClassId) (t : Nat → Nat) (o_t o_t_play o_t_lines o_t_truth o_t_glassTrack o_t_board o_t_otherBoard o_t_fog o_t_crowd o_t_deal : Nat → Nat) (x_play_w : Int32) (x_play_h : Int32) (x_play_hands : Int32) (x_play_rules : Nat → Int32) (x_play_pressRow : Nat → Int32) (x_play_leftFrom : Nat → Int32) (x_play_leftTo : Nat → Int32) (x_lines_waits : Nat → Int32) (x_lines_lostRow : Nat → Int32) (x_glassTrack_ready : Int32) (x_glassTrack_rows : Nat → Int32) (x_board_now : Nat → Int32) (x_presses : Nat → Int32) (p1 : Int32) (p2 : Int32) (p3 : Int32) {out : Int32 × (Nat → Int32) × (Nat → Int32) × (Nat → Int32)} (hf : X7_shown x_play_w x_play_h x_play_hands x_play_rules x_play_pressRow x_play_leftFrom x_play_leftTo x_lines_waits x_lines_lostRow x_glassTrack_rows x_board_now x_presses p1 p2 p3 = some out) : ctI l yX7_shown wsX7_shown 6 143 D cy t [.ref (o_t 0), .int p1, .int p2, .int p3] (wd_X7_shown cy o_t o_t_play o_t_lines o_t_truth o_t_glassTrack o_t_board o_t_otherBoard o_t_fog o_t_crowd o_t_deal x_play_w x_play_h x_play_hands x_play_rules x_play_pressRow x_play_leftFrom x_play_leftTo x_lines_waits x_lines_lostRow x_glassTrack_ready x_glassTrack_rows x_board_now x_presses) (wd_X7_shown cy o_t o_t_play o_t_lines o_t_truth o_t_glassTrack o_t_board o_t_otherBoard o_t_fog o_t_crowd o_t_deal x_play_w x_play_h x_play_hands x_play_rules x_play_pressRow x_play_leftFrom x_play_leftTo x_lines_waits x_lines_lostRow x_glassTrack_ready out.2.1 out.2.2.1 out.2.2.2) out.1 := by
  refine ⟨rfl, ?_⟩
  intro sz
  refine Met.ofW (cc := cX7_shown) (maxL := 5) (ret := (some .int)) (by decide) rfl ?_
  intro p e s m args below meth c s₁ B hml hv
  obtain ⟨rfl, hsz, hP, hK, hD0, hE⟩ := hv
  have hts := atoms_spec (ws := wsX7_shown) B.pre
  have hown : s.vm.findClass RX7 = some m.cls := findClass_of_methodNamed B.named
  have hlocks := B.notSynchronized
  subst hsz
  have hD := hD0.self (sz := s.heap.size)
  have hl := lv_entry ([.ref (o_t 0), .int p1, .int p2, .int p3]) (n := 5) (Nat.le_of_ble_eq_true rfl)
  rw [lg_entry_eq]
  generalize (lg_sl ([.ref (o_t 0), .int p1, .int p2, .int p3]) ++ List.replicate (5 - (lg_sl ([.ref (o_t 0), .int p1, .int p2, .int p3])).length) Slot.unset).toArray = ls at hl ⊢
  exact w_X7_shown D cy t o_t o_t_play o_t_lines o_t_truth o_t_glassTrack o_t_board o_t_otherBoard o_t_fog o_t_crowd o_t_deal x_play_w x_play_h x_play_hands x_play_rules x_play_pressRow x_play_leftFrom x_play_leftTo x_lines_waits x_lines_lostRow x_glassTrack_ready x_glassTrack_rows x_board_now x_presses p1 p2 p3 hf B.exec B.bytes hml hown hts hK hE (fun q h => Or.inr h) hP hD va_S.rf hl (fun H locs ls pc hP hD hS hdg => W.iret B.exec B.bytes B.returns (fun t ht hW => ⟨⟨_, (), rfl, rfl, ctB_of ht hP⟩, hS.F ht⟩) hS.2.2 hdg)

noncomputable def X7_back (x_play_hands : Int32) (x_play_rules : Nat → Int32) (x_play_pressRow : Nat → Int32) (x_play_leftFrom : Nat → Int32) (x_play_leftTo : Nat → Int32) (x_lines_waits : Nat → Int32) (x_lines_lostRow : Nat → Int32) (p1 : Int32) (p2 : Int32) : Option (Int32) :=
  bd (X7_isHand x_play_hands p1) fun r2 => if r2 = (0 : Int32) then (some (-1 : Int32)) else (bd (X7_isTick p2) fun r9 => if r9 = (0 : Int32) then (some (-1 : Int32)) else (rd x_play_rules 7 (3 : Int32) fun v29 => bd (X4_goneBack x_play_hands x_play_pressRow x_play_leftFrom x_play_leftTo x_lines_waits x_lines_lostRow v29 p1 p2) fun r32 => some r32))
abbrev wd_X7_back (cy : Nat → ClassId) (o_t o_t_play o_t_lines o_t_truth o_t_glassTrack o_t_board o_t_otherBoard o_t_fog o_t_crowd o_t_deal : Nat → Nat) (x_play_w : Int32) (x_play_h : Int32) (x_play_hands : Int32) (x_play_rules : Nat → Int32) (x_play_pressRow : Nat → Int32) (x_play_leftFrom : Nat → Int32) (x_play_leftTo : Nat → Int32) (x_lines_waits : Nat → Int32) (x_lines_lostRow : Nat → Int32) : va_W := [(o_t 0, .inr (7, [.ref (o_t_play 0), .ref (o_t_lines 0), .ref (o_t_truth 0), .ref (o_t_glassTrack 0), .ref (o_t_board 0), .ref (o_t_otherBoard 0), .ref (o_t 7), .ref (o_t_fog 0), .ref (o_t_crowd 0), .ref (o_t_deal 0), .ref (o_t 11), .ref (o_t 12)])), (o_t_play 0, .inr (5, [.int x_play_w, .int x_play_h, .int x_play_hands, .ref (o_t_play 4), .ref (o_t_play 5), .ref (o_t_play 6), .ref (o_t_play 7)])), (o_t_play 4, .inl (cy 0, 7, .inl x_play_rules)), (o_t_play 5, .inl (cy 0, 600, .inl x_play_pressRow)), (o_t_play 6, .inl (cy 0, 6, .inl x_play_leftFrom)), (o_t_play 7, .inl (cy 0, 6, .inl x_play_leftTo)), (o_t_lines 0, .inr (4, [.ref (o_t_play 0), .ref (o_t_lines 2), .ref (o_t_lines 3)])), (o_t_lines 2, .inl (cy 0, 36, .inl x_lines_waits)), (o_t_lines 3, .inl (cy 1, 600, .inl x_lines_lostRow))]
set_option maxHeartbeats 4000000 in
set_option maxRecDepth 100000 in
theorem w_X7_back {p : Program} {l : Launch} {e : Env} {s : State} {m : MethodId} {args : Array Value} {below : List Frame} {meth : Method} {c : Code} {Q : State → Prop} {A : Nat → Prop} {H : Heap} {locs : List Loc} {ls : Array Slot} (D : va_G) (cy : Nat → ClassId) (t : Nat → Nat) (o_t o_t_play o_t_lines o_t_truth o_t_glassTrack o_t_board o_t_otherBoard o_t_fog o_t_crowd o_t_deal : Nat → Nat) (x_play_w : Int32) (x_play_h : Int32) (x_play_hands : Int32) (x_play_rules : Nat → Int32) (x_play_pressRow : Nat → Int32) (x_play_leftFrom : Nat → Int32) (x_play_leftTo : Nat → Int32) (x_lines_waits : Nat → Int32) (x_lines_lostRow : Nat → Int32) (p1 : Int32) (p2 : Int32) {out : Int32} (hf : X7_back x_play_hands x_play_rules x_play_pressRow x_play_leftFrom x_play_leftTo x_lines_waits x_lines_lostRow p1 p2 = some out) (hx : p.tables.exec = Jvm.exec) (hb : c.code = cX7_back) (hml : c.maxLocals = 3) (hown : s.vm.findClass RX7 = some m.cls) (hts : ∀ w ∈ wsX7_back, w.before args s = true) (hK : va_K D vwCl (TYS cy) s) (hE : EV t A s s.heap) (hA : ∀ q, s.heap.size ≤ q → A q) (hP : va_P D vwCl (wd_X7_back cy o_t o_t_play o_t_lines o_t_truth o_t_glassTrack o_t_board o_t_otherBoard o_t_fog o_t_crowd o_t_deal x_play_w x_play_h x_play_hands x_play_rules x_play_pressRow x_play_leftFrom x_play_leftTo x_lines_waits x_lines_lostRow) H) (hD : va_D A (wd_X7_back cy o_t o_t_play o_t_lines o_t_truth o_t_glassTrack o_t_board o_t_otherBoard o_t_fog o_t_crowd o_t_deal x_play_w x_play_h x_play_hands x_play_rules x_play_pressRow x_play_leftFrom x_play_leftTo x_lines_waits x_lines_lostRow)) (hS : va_S A s.heap H locs) (hl : lv_has ls 3 [(0, .ref (o_t 0)), (1, .int p1), (2, .int p2)]) (hR : ∀ (H : Heap) (locs : List Loc) (ls : Array Slot) (pc : Nat), va_P D vwCl (wd_X7_back cy o_t o_t_play o_t_lines o_t_truth o_t_glassTrack o_t_board o_t_otherBoard o_t_fog o_t_crowd o_t_deal x_play_w x_play_h x_play_hands x_play_rules x_play_pressRow x_play_leftFrom x_play_leftTo x_lines_waits x_lines_lostRow) H → va_D A (wd_X7_back cy o_t o_t_play o_t_lines o_t_truth o_t_glassTrack o_t_board o_t_otherBoard o_t_fog o_t_crowd o_t_deal x_play_w x_play_h x_play_hands x_play_rules x_play_pressRow x_play_leftFrom x_play_leftTo x_lines_waits x_lines_lostRow) → va_S A s.heap H locs → decode cX7_back pc = .ok (.ireturn, 1) → W p l e (rmm 5 130) s m args below meth c H locs 0 0 Q (F0 m pc ls [.int out])) : W p l e (rmm 5 130) s m args below meth c H locs 0 0 Q (F0 m 0 ls []) := by
  have k0 := hts (.fieldLink RX7 21 "SeaGames" "lines" "LSeaGames$Lines;") (List.mem_cons_of_mem _ (List.mem_append_left _ (List.mem_append_left _ (List.mem_append_left _ (List.mem_append_left _ (List.mem_of_getElem? (i := 0) rfl))))))
  have k1 : ∀ w ∈ u_ws RX7 TX7 12, w ∈ wsX7_back := fun _ h => List.mem_cons_of_mem _ (List.mem_append_left _ (List.mem_append_left _ (List.mem_append_right _ h)))
  have k2 := hts (.fieldLink RX7 10 "SeaGames" "play" "LSeaGames$Play;") (List.mem_cons_of_mem _ (List.mem_append_left _ (List.mem_append_left _ (List.mem_append_left _ (List.mem_append_left _ (List.mem_of_getElem? (i := 1) rfl))))))
  have k3 := hts (.fieldLink RX7 98 "SeaGames$Play" "rules" "[I") (List.mem_cons_of_mem _ (List.mem_append_left _ (List.mem_append_left _ (List.mem_append_left _ (List.mem_append_left _ (List.mem_of_getElem? (i := 2) rfl))))))
  have k4 : ∀ w ∈ u_ws RX5 TX5 7, w ∈ wsX7_back := fun _ h => List.mem_cons_of_mem _ (List.mem_append_left _ (List.mem_append_right _ h))
  rw [X7_back] at hf
  refine lv_aload_n hx hb dX7_back_0 rfl (lv_at hl 0 rfl) ?_
  refine lv_iload_n hx hb dX7_back_1 rfl (lv_at hl 1 rfl) ?_
  obtain ⟨r2, hr2, hf⟩ := bd_s hf
  refine my_Vi (WS2 := (wd_X7_back cy o_t o_t_play o_t_lines o_t_truth o_t_glassTrack o_t_board o_t_otherBoard o_t_fog o_t_crowd o_t_deal x_play_w x_play_h x_play_hands x_play_rules x_play_pressRow x_play_leftFrom x_play_leftTo x_lines_waits x_lines_lostRow)) ⟨hx, hb, hml, hown, hts⟩ (c_X7_isHand l D cy t o_t o_t_play o_t_lines o_t_truth o_t_glassTrack o_t_board o_t_otherBoard o_t_fog o_t_crowd o_t_deal x_play_w x_play_h x_play_hands p1 hr2) (cwV 1 hts gX7_back_X7_isHand rfl rfl rfl ⟨rfl, hd_X7_isHand⟩ ⟨Nat.le_of_ble_eq_true rfl, Nat.le_of_ble_eq_true rfl⟩) hK hE hP hD hS hA [0, 1] 9 7 0 rfl rfl rfl rfl (by decide +kernel) rfl rfl hl.1 rfl (Nat.le_of_ble_eq_true rfl) dX7_back_2 ⟨Nat.le_of_ble_eq_true rfl, Nat.le_of_ble_eq_true rfl⟩ (fun H locs hP hD hS => ?_)
  refine lv_if_eq (tgt := 15) hx hb dX7_back_5 (by decide) (fun c5 => ?_) (fun c5 => ?_)
  · have hf := ifp c5 hf
    refine lv_iconst (v := (-1 : Int32)) hx hb dX7_back_15 (by decide) ?_
    obtain rfl := Option.some.inj hf
    exact hR _ _ _ _ hP hD hS dX7_back_16
  · have hf := ifn c5 hf
    refine lv_iload_n hx hb dX7_back_8 rfl (lv_at hl 2 rfl) ?_
    obtain ⟨r9, hr9, hf⟩ := bd_s hf
    refine my_Si (WS2 := (wd_X7_back cy o_t o_t_play o_t_lines o_t_truth o_t_glassTrack o_t_board o_t_otherBoard o_t_fog o_t_crowd o_t_deal x_play_w x_play_h x_play_hands x_play_rules x_play_pressRow x_play_leftFrom x_play_leftTo x_lines_waits x_lines_lostRow)) ⟨hx, hb, hml, hown, hts⟩ (c_X7_isTick l D cy t p2 hr9) (va_cwS 1 hts gX7_back_X7_isTick rfl rfl rfl hd_X7_isTick ⟨Nat.le_of_ble_eq_true rfl, Nat.le_of_ble_eq_true rfl⟩) hK hE hP hD hS hA [] 9 rfl rfl (by decide +kernel) rfl rfl hl.1 rfl (Nat.le_of_ble_eq_true rfl) dX7_back_9 ⟨Nat.le_of_ble_eq_true rfl, Nat.le_of_ble_eq_true rfl⟩ (fun H locs hP hD hS => ?_)
    refine lv_if_ne (tgt := 17) hx hb dX7_back_12 (by decide) (fun c12 => ?_) (fun c12 => ?_)
    · have hf := ifn c12 hf
      refine lv_aload_n hx hb dX7_back_17 rfl (lv_at hl 0 rfl) ?_
      refine va_get (D := D) (ci := 7) (v := .ref (o_t_lines 0)) (C := RX7) (T := TX7) (N := 12) hx hb hts k1 hown hK hP 0 rfl rfl 1 (by decide) k0 (fun _ h9 => h9) rfl dX7_back_18 ?_
      refine lv_aload_n hx hb dX7_back_21 rfl (lv_at hl 0 rfl) ?_
      refine va_get (D := D) (ci := 7) (v := .ref (o_t_play 0)) (C := RX7) (T := TX7) (N := 12) hx hb hts k1 hown hK hP 0 rfl rfl 0 (by decide) k2 (fun _ h9 => h9) rfl dX7_back_22 ?_
      refine va_get (D := D) (ci := 5) (v := .ref (o_t_play 4)) (C := RX5) (T := TX5) (N := 7) hx hb hts k4 hown hK hP 1 rfl rfl 3 (by decide) k3 (fun _ h9 => h9) rfl dX7_back_25 ?_
      refine lv_iconst (v := (3 : Int32)) hx hb dX7_back_28 (by decide) ?_
      obtain ⟨v29, b29, ev29, hf⟩ := rd_s hf
      refine my_iald hx hb hK hP 2 rfl b29 ev29 dX7_back_29 ?_
      refine lv_iload_n hx hb dX7_back_30 rfl (lv_at hl 1 rfl) ?_
      refine lv_iload_n hx hb dX7_back_31 rfl (lv_at hl 2 rfl) ?_
      obtain ⟨r32, hr32, hf⟩ := bd_s hf
      refine my_Vi (WS2 := (wd_X7_back cy o_t o_t_play o_t_lines o_t_truth o_t_glassTrack o_t_board o_t_otherBoard o_t_fog o_t_crowd o_t_deal x_play_w x_play_h x_play_hands x_play_rules x_play_pressRow x_play_leftFrom x_play_leftTo x_lines_waits x_lines_lostRow)) ⟨hx, hb, hml, hown, hts⟩ (c_X4_goneBack l D cy t o_t_lines o_t_play x_play_w x_play_h x_play_hands x_play_pressRow x_play_leftFrom x_play_leftTo x_lines_waits x_lines_lostRow v29 p1 p2 hr32) (cwV 3 hts gX7_back_X4_goneBack rfl rfl rfl ⟨rfl, hd_X4_goneBack⟩ ⟨Nat.le_of_ble_eq_true rfl, Nat.le_of_ble_eq_true rfl⟩) hK hE hP hD hS hA [6, 1, 3, 4, 5, 7, 8] 9 4 0 rfl rfl rfl rfl (by decide +kernel) rfl rfl hl.1 rfl (Nat.le_of_ble_eq_true rfl) dX7_back_32 ⟨Nat.le_of_ble_eq_true rfl, Nat.le_of_ble_eq_true rfl⟩ (fun H locs hP hD hS => ?_)
      obtain rfl := Option.some.inj hf
      exact hR _ _ _ _ hP hD hS dX7_back_35
    · have hf := ifp c12 hf
      refine lv_iconst (v := (-1 : Int32)) hx hb dX7_back_15 (by decide) ?_
      obtain rfl := Option.some.inj hf
      exact hR _ _ _ _ hP hD hS dX7_back_16
theorem hd_X7_back : yX7_back.cls ≠ "java/lang/invoke/MethodHandle" ∧ yX7_back.cls ≠ "java/lang/invoke/VarHandle" ∧ (parseMethodDescriptor yX7_back.desc).map (fun d => d.parameters.length) = some 2 := by decide +kernel
set_option maxRecDepth 100000 in
theorem c_X7_back (l : Launch) (D : va_G) (cy : Nat → ClassId) (t : Nat → Nat) (o_t o_t_play o_t_lines o_t_truth o_t_glassTrack o_t_board o_t_otherBoard o_t_fog o_t_crowd o_t_deal : Nat → Nat) (x_play_w : Int32) (x_play_h : Int32) (x_play_hands : Int32) (x_play_rules : Nat → Int32) (x_play_pressRow : Nat → Int32) (x_play_leftFrom : Nat → Int32) (x_play_leftTo : Nat → Int32) (x_lines_waits : Nat → Int32) (x_lines_lostRow : Nat → Int32) (p1 : Int32) (p2 : Int32) {out : Int32} (hf : X7_back x_play_hands x_play_rules x_play_pressRow x_play_leftFrom x_play_leftTo x_lines_waits x_lines_lostRow p1 p2 = some out) : ctI l yX7_back wsX7_back 5 130 D cy t [.ref (o_t 0), .int p1, .int p2] (wd_X7_back cy o_t o_t_play o_t_lines o_t_truth o_t_glassTrack o_t_board o_t_otherBoard o_t_fog o_t_crowd o_t_deal x_play_w x_play_h x_play_hands x_play_rules x_play_pressRow x_play_leftFrom x_play_leftTo x_lines_waits x_lines_lostRow) (wd_X7_back cy o_t o_t_play o_t_lines o_t_truth o_t_glassTrack o_t_board o_t_otherBoard o_t_fog o_t_crowd o_t_deal x_play_w x_play_h x_play_hands x_play_rules x_play_pressRow x_play_leftFrom x_play_leftTo x_lines_waits x_lines_lostRow) out := by
  refine ⟨rfl, ?_⟩
  intro sz
  refine Met.ofW (cc := cX7_back) (maxL := 3) (ret := (some .int)) (by decide) rfl ?_
  intro p e s m args below meth c s₁ B hml hv
  obtain ⟨rfl, hsz, hP, hK, hD0, hE⟩ := hv
  have hts := atoms_spec (ws := wsX7_back) B.pre
  have hown : s.vm.findClass RX7 = some m.cls := findClass_of_methodNamed B.named
  have hlocks := B.notSynchronized
  subst hsz
  have hD := hD0.self (sz := s.heap.size)
  have hl := lv_entry ([.ref (o_t 0), .int p1, .int p2]) (n := 3) (Nat.le_of_ble_eq_true rfl)
  rw [lg_entry_eq]
  generalize (lg_sl ([.ref (o_t 0), .int p1, .int p2]) ++ List.replicate (3 - (lg_sl ([.ref (o_t 0), .int p1, .int p2])).length) Slot.unset).toArray = ls at hl ⊢
  exact w_X7_back D cy t o_t o_t_play o_t_lines o_t_truth o_t_glassTrack o_t_board o_t_otherBoard o_t_fog o_t_crowd o_t_deal x_play_w x_play_h x_play_hands x_play_rules x_play_pressRow x_play_leftFrom x_play_leftTo x_lines_waits x_lines_lostRow p1 p2 hf B.exec B.bytes hml hown hts hK hE (fun q h => Or.inr h) hP hD va_S.rf hl (fun H locs ls pc hP hD hS hdg => W.iret B.exec B.bytes B.returns (fun t ht hW => ⟨⟨_, (), rfl, rfl, ctB_of ht hP⟩, hS.F ht⟩) hS.2.2 hdg)

noncomputable def X7_agreed_L23_B (x_play_hands : Int32) (x_play_rules : Nat → Int32) (x_play_leftFrom : Nat → Int32) (x_play_leftTo : Nat → Int32) (x_lines_waits : Nat → Int32) (x_lines_lostRow : Nat → Int32) (rec23 : Int32 → Int32 → Int32 → Int32 → Option (Int32)) (l1 : Int32) (l2 : Int32) (l3 : Int32) (l4 : Int32) : Option (Int32) :=
  if l2 < l4 then (some l3) else (rd x_play_rules 7 (3 : Int32) fun v41 => bd (X4_allKnown x_play_hands x_play_leftFrom x_play_leftTo x_lines_waits x_lines_lostRow v41 l1 l2 l4) fun r46 => if r46 = (0 : Int32) then (some l3) else (nm (l4 + (1 : Int32)) fun v57 => rec23  l1 l2 l4 v57))
noncomputable def X7_agreed_L23 (x_play_hands : Int32) (x_play_rules : Nat → Int32) (x_play_leftFrom : Nat → Int32) (x_play_leftTo : Nat → Int32) (x_lines_waits : Nat → Int32) (x_lines_lostRow : Nat → Int32) : Nat → Int32 → Int32 → Int32 → Int32 → Option (Int32)
  | 0, _, _, _, _ => none
  | n + 1, y0, y1, y2, y3 => X7_agreed_L23_B x_play_hands x_play_rules x_play_leftFrom x_play_leftTo x_lines_waits x_lines_lostRow  (X7_agreed_L23 x_play_hands x_play_rules x_play_leftFrom x_play_leftTo x_lines_waits x_lines_lostRow  n) y0 y1 y2 y3
noncomputable def X7_agreed (x_play_hands : Int32) (x_play_rules : Nat → Int32) (x_play_leftFrom : Nat → Int32) (x_play_leftTo : Nat → Int32) (x_lines_waits : Nat → Int32) (x_lines_lostRow : Nat → Int32) (p1 : Int32) (p2 : Int32) : Option (Int32) :=
  bd (X7_isHand x_play_hands p1) fun r2 => if r2 = (0 : Int32) then (some (-1 : Int32)) else (bd (X7_isTick p2) fun r9 => if r9 = (0 : Int32) then (some (-1 : Int32)) else (X7_agreed_L23 x_play_hands x_play_rules x_play_leftFrom x_play_leftTo x_lines_waits x_lines_lostRow  FU  p1 p2 (-9 : Int32) (0 : Int32)))
abbrev wd_X7_agreed (cy : Nat → ClassId) (o_t o_t_play o_t_lines o_t_truth o_t_glassTrack o_t_board o_t_otherBoard o_t_fog o_t_crowd o_t_deal : Nat → Nat) (x_play_w : Int32) (x_play_h : Int32) (x_play_hands : Int32) (x_play_rules : Nat → Int32) (x_play_leftFrom : Nat → Int32) (x_play_leftTo : Nat → Int32) (x_lines_waits : Nat → Int32) (x_lines_lostRow : Nat → Int32) : va_W := [(o_t 0, .inr (7, [.ref (o_t_play 0), .ref (o_t_lines 0), .ref (o_t_truth 0), .ref (o_t_glassTrack 0), .ref (o_t_board 0), .ref (o_t_otherBoard 0), .ref (o_t 7), .ref (o_t_fog 0), .ref (o_t_crowd 0), .ref (o_t_deal 0), .ref (o_t 11), .ref (o_t 12)])), (o_t_play 0, .inr (5, [.int x_play_w, .int x_play_h, .int x_play_hands, .ref (o_t_play 4), .ref (o_t_play 5), .ref (o_t_play 6), .ref (o_t_play 7)])), (o_t_play 4, .inl (cy 0, 7, .inl x_play_rules)), (o_t_play 6, .inl (cy 0, 6, .inl x_play_leftFrom)), (o_t_play 7, .inl (cy 0, 6, .inl x_play_leftTo)), (o_t_lines 0, .inr (4, [.ref (o_t_play 0), .ref (o_t_lines 2), .ref (o_t_lines 3)])), (o_t_lines 2, .inl (cy 0, 36, .inl x_lines_waits)), (o_t_lines 3, .inl (cy 1, 600, .inl x_lines_lostRow))]
set_option maxHeartbeats 4000000 in
set_option maxRecDepth 100000 in
theorem w_X7_agreed {p : Program} {l : Launch} {e : Env} {s : State} {m : MethodId} {args : Array Value} {below : List Frame} {meth : Method} {c : Code} {Q : State → Prop} {A : Nat → Prop} {H : Heap} {locs : List Loc} {ls : Array Slot} (D : va_G) (cy : Nat → ClassId) (t : Nat → Nat) (o_t o_t_play o_t_lines o_t_truth o_t_glassTrack o_t_board o_t_otherBoard o_t_fog o_t_crowd o_t_deal : Nat → Nat) (x_play_w : Int32) (x_play_h : Int32) (x_play_hands : Int32) (x_play_rules : Nat → Int32) (x_play_leftFrom : Nat → Int32) (x_play_leftTo : Nat → Int32) (x_lines_waits : Nat → Int32) (x_lines_lostRow : Nat → Int32) (p1 : Int32) (p2 : Int32) {out : Int32} (hf : X7_agreed x_play_hands x_play_rules x_play_leftFrom x_play_leftTo x_lines_waits x_lines_lostRow p1 p2 = some out) (hx : p.tables.exec = Jvm.exec) (hb : c.code = cX7_agreed) (hml : c.maxLocals = 5) (hown : s.vm.findClass RX7 = some m.cls) (hts : ∀ w ∈ wsX7_agreed, w.before args s = true) (hK : va_K D vwCl (TYS cy) s) (hE : EV t A s s.heap) (hA : ∀ q, s.heap.size ≤ q → A q) (hP : va_P D vwCl (wd_X7_agreed cy o_t o_t_play o_t_lines o_t_truth o_t_glassTrack o_t_board o_t_otherBoard o_t_fog o_t_crowd o_t_deal x_play_w x_play_h x_play_hands x_play_rules x_play_leftFrom x_play_leftTo x_lines_waits x_lines_lostRow) H) (hD : va_D A (wd_X7_agreed cy o_t o_t_play o_t_lines o_t_truth o_t_glassTrack o_t_board o_t_otherBoard o_t_fog o_t_crowd o_t_deal x_play_w x_play_h x_play_hands x_play_rules x_play_leftFrom x_play_leftTo x_lines_waits x_lines_lostRow)) (hS : va_S A s.heap H locs) (hl : lv_has ls 5 [(0, .ref (o_t 0)), (1, .int p1), (2, .int p2)]) (hR : ∀ (H : Heap) (locs : List Loc) (ls : Array Slot) (pc : Nat), va_P D vwCl (wd_X7_agreed cy o_t o_t_play o_t_lines o_t_truth o_t_glassTrack o_t_board o_t_otherBoard o_t_fog o_t_crowd o_t_deal x_play_w x_play_h x_play_hands x_play_rules x_play_leftFrom x_play_leftTo x_lines_waits x_lines_lostRow) H → va_D A (wd_X7_agreed cy o_t o_t_play o_t_lines o_t_truth o_t_glassTrack o_t_board o_t_otherBoard o_t_fog o_t_crowd o_t_deal x_play_w x_play_h x_play_hands x_play_rules x_play_leftFrom x_play_leftTo x_lines_waits x_lines_lostRow) → va_S A s.heap H locs → decode cX7_agreed pc = .ok (.ireturn, 1) → W p l e (rmm 3 76) s m args below meth c H locs 0 0 Q (F0 m pc ls [.int out])) : W p l e (rmm 3 76) s m args below meth c H locs 0 0 Q (F0 m 0 ls []) := by
  have k0 := hts (.fieldLink RX7 21 "SeaGames" "lines" "LSeaGames$Lines;") (List.mem_cons_of_mem _ (List.mem_append_left _ (List.mem_append_left _ (List.mem_append_left _ (List.mem_append_left _ (List.mem_of_getElem? (i := 0) rfl))))))
  have k1 : ∀ w ∈ u_ws RX7 TX7 12, w ∈ wsX7_agreed := fun _ h => List.mem_cons_of_mem _ (List.mem_append_left _ (List.mem_append_left _ (List.mem_append_right _ h)))
  have k2 := hts (.fieldLink RX7 10 "SeaGames" "play" "LSeaGames$Play;") (List.mem_cons_of_mem _ (List.mem_append_left _ (List.mem_append_left _ (List.mem_append_left _ (List.mem_append_left _ (List.mem_of_getElem? (i := 1) rfl))))))
  have k3 := hts (.fieldLink RX7 98 "SeaGames$Play" "rules" "[I") (List.mem_cons_of_mem _ (List.mem_append_left _ (List.mem_append_left _ (List.mem_append_left _ (List.mem_append_left _ (List.mem_of_getElem? (i := 2) rfl))))))
  have k4 : ∀ w ∈ u_ws RX5 TX5 7, w ∈ wsX7_agreed := fun _ h => List.mem_cons_of_mem _ (List.mem_append_left _ (List.mem_append_right _ h))
  rw [X7_agreed] at hf
  refine lv_aload_n hx hb dX7_agreed_0 rfl (lv_at hl 0 rfl) ?_
  refine lv_iload_n hx hb dX7_agreed_1 rfl (lv_at hl 1 rfl) ?_
  obtain ⟨r2, hr2, hf⟩ := bd_s hf
  refine my_Vi (WS2 := (wd_X7_agreed cy o_t o_t_play o_t_lines o_t_truth o_t_glassTrack o_t_board o_t_otherBoard o_t_fog o_t_crowd o_t_deal x_play_w x_play_h x_play_hands x_play_rules x_play_leftFrom x_play_leftTo x_lines_waits x_lines_lostRow)) ⟨hx, hb, hml, hown, hts⟩ (c_X7_isHand l D cy t o_t o_t_play o_t_lines o_t_truth o_t_glassTrack o_t_board o_t_otherBoard o_t_fog o_t_crowd o_t_deal x_play_w x_play_h x_play_hands p1 hr2) (cwV 1 hts gX7_agreed_X7_isHand rfl rfl rfl ⟨rfl, hd_X7_isHand⟩ ⟨Nat.le_of_ble_eq_true rfl, Nat.le_of_ble_eq_true rfl⟩) hK hE hP hD hS hA [0, 1] 8 7 0 rfl rfl rfl rfl (by decide +kernel) rfl rfl hl.1 rfl (Nat.le_of_ble_eq_true rfl) dX7_agreed_2 ⟨Nat.le_of_ble_eq_true rfl, Nat.le_of_ble_eq_true rfl⟩ (fun H locs hP hD hS => ?_)
  refine lv_if_eq (tgt := 15) hx hb dX7_agreed_5 (by decide) (fun c5 => ?_) (fun c5 => ?_)
  · have hf := ifp c5 hf
    refine lv_iconst (v := (-1 : Int32)) hx hb dX7_agreed_15 (by decide) ?_
    obtain rfl := Option.some.inj hf
    exact hR _ _ _ _ hP hD hS dX7_agreed_16
  · have hf := ifn c5 hf
    refine lv_iload_n hx hb dX7_agreed_8 rfl (lv_at hl 2 rfl) ?_
    obtain ⟨r9, hr9, hf⟩ := bd_s hf
    refine my_Si (WS2 := (wd_X7_agreed cy o_t o_t_play o_t_lines o_t_truth o_t_glassTrack o_t_board o_t_otherBoard o_t_fog o_t_crowd o_t_deal x_play_w x_play_h x_play_hands x_play_rules x_play_leftFrom x_play_leftTo x_lines_waits x_lines_lostRow)) ⟨hx, hb, hml, hown, hts⟩ (c_X7_isTick l D cy t p2 hr9) (va_cwS 1 hts gX7_agreed_X7_isTick rfl rfl rfl hd_X7_isTick ⟨Nat.le_of_ble_eq_true rfl, Nat.le_of_ble_eq_true rfl⟩) hK hE hP hD hS hA [] 8 rfl rfl (by decide +kernel) rfl rfl hl.1 rfl (Nat.le_of_ble_eq_true rfl) dX7_agreed_9 ⟨Nat.le_of_ble_eq_true rfl, Nat.le_of_ble_eq_true rfl⟩ (fun H locs hP hD hS => ?_)
    refine lv_if_ne (tgt := 17) hx hb dX7_agreed_12 (by decide) (fun c12 => ?_) (fun c12 => ?_)
    · have hf := ifn c12 hf
      have h23 : ∀ (n23 : Nat) (l1 : Int32) (l2 : Int32) (l3 : Int32) (l4 : Int32) (H : Heap) (locs : List Loc) (ls : Array Slot), X7_agreed_L23 x_play_hands x_play_rules x_play_leftFrom x_play_leftTo x_lines_waits x_lines_lostRow n23 l1 l2 l3 l4 = some out → va_P D vwCl (wd_X7_agreed cy o_t o_t_play o_t_lines o_t_truth o_t_glassTrack o_t_board o_t_otherBoard o_t_fog o_t_crowd o_t_deal x_play_w x_play_h x_play_hands x_play_rules x_play_leftFrom x_play_leftTo x_lines_waits x_lines_lostRow) H → va_D A (wd_X7_agreed cy o_t o_t_play o_t_lines o_t_truth o_t_glassTrack o_t_board o_t_otherBoard o_t_fog o_t_crowd o_t_deal x_play_w x_play_h x_play_hands x_play_rules x_play_leftFrom x_play_leftTo x_lines_waits x_lines_lostRow) → va_S A s.heap H locs → lv_has ls 5 [(0, .ref (o_t 0)), (1, .int l1), (2, .int l2), (3, .int l3), (4, .int l4)] → W p l e (rmm 3 76) s m args below meth c H locs 0 0 Q (F0 m 23 ls []) := by
        intro n23
        induction n23 with
        | zero =>
          intro _ _ _ _ _ _ _ hf
          exact nomatch (show (none : Option _) = some out from hf)
        | succ n23 ih23 =>
          intro l1 l2 l3 l4 H locs ls hf hP hD hS hl
          have hf : X7_agreed_L23_B x_play_hands x_play_rules x_play_leftFrom x_play_leftTo x_lines_waits x_lines_lostRow (X7_agreed_L23 x_play_hands x_play_rules x_play_leftFrom x_play_leftTo x_lines_waits x_lines_lostRow n23) l1 l2 l3 l4 = some out := hf
          rw [X7_agreed_L23_B] at hf
          refine lv_iload hx hb dX7_agreed_23 (lv_at hl 4 rfl) ?_
          refine lv_iload_n hx hb dX7_agreed_25 rfl (lv_at hl 2 rfl) ?_
          refine lv_icmp_gt (tgt := 63) hx hb dX7_agreed_26 (by decide) (fun c26 => ?_) (fun c26 => ?_)
          · have hf := ifp c26 hf
            refine lv_iload_n hx hb dX7_agreed_63 rfl (lv_at hl 3 rfl) ?_
            obtain rfl := Option.some.inj hf
            exact hR _ _ _ _ hP hD hS dX7_agreed_64
          · have hf := ifn c26 hf
            refine lv_aload_n hx hb dX7_agreed_29 rfl (lv_at hl 0 rfl) ?_
            refine va_get (D := D) (ci := 7) (v := .ref (o_t_lines 0)) (C := RX7) (T := TX7) (N := 12) hx hb hts k1 hown hK hP 0 rfl rfl 1 (by decide) k0 (fun _ h9 => h9) rfl dX7_agreed_30 ?_
            refine lv_aload_n hx hb dX7_agreed_33 rfl (lv_at hl 0 rfl) ?_
            refine va_get (D := D) (ci := 7) (v := .ref (o_t_play 0)) (C := RX7) (T := TX7) (N := 12) hx hb hts k1 hown hK hP 0 rfl rfl 0 (by decide) k2 (fun _ h9 => h9) rfl dX7_agreed_34 ?_
            refine va_get (D := D) (ci := 5) (v := .ref (o_t_play 4)) (C := RX5) (T := TX5) (N := 7) hx hb hts k4 hown hK hP 1 rfl rfl 3 (by decide) k3 (fun _ h9 => h9) rfl dX7_agreed_37 ?_
            refine lv_iconst (v := (3 : Int32)) hx hb dX7_agreed_40 (by decide) ?_
            obtain ⟨v41, b41, ev41, hf⟩ := rd_s hf
            refine my_iald hx hb hK hP 2 rfl b41 ev41 dX7_agreed_41 ?_
            refine lv_iload_n hx hb dX7_agreed_42 rfl (lv_at hl 1 rfl) ?_
            refine lv_iload_n hx hb dX7_agreed_43 rfl (lv_at hl 2 rfl) ?_
            refine lv_iload hx hb dX7_agreed_44 (lv_at hl 4 rfl) ?_
            obtain ⟨r46, hr46, hf⟩ := bd_s hf
            refine my_Vi (WS2 := (wd_X7_agreed cy o_t o_t_play o_t_lines o_t_truth o_t_glassTrack o_t_board o_t_otherBoard o_t_fog o_t_crowd o_t_deal x_play_w x_play_h x_play_hands x_play_rules x_play_leftFrom x_play_leftTo x_lines_waits x_lines_lostRow)) ⟨hx, hb, hml, hown, hts⟩ (c_X4_allKnown l D cy t o_t_lines o_t_play x_play_w x_play_h x_play_hands x_play_leftFrom x_play_leftTo x_lines_waits x_lines_lostRow v41 l1 l2 l4 hr46) (cwV 4 hts gX7_agreed_X4_allKnown rfl rfl rfl ⟨rfl, hd_X4_allKnown⟩ ⟨Nat.le_of_ble_eq_true rfl, Nat.le_of_ble_eq_true rfl⟩) hK hE hP hD hS hA [5, 1, 3, 4, 6, 7] 8 4 0 rfl rfl rfl rfl (by decide +kernel) rfl rfl hl.1 rfl (Nat.le_of_ble_eq_true rfl) dX7_agreed_46 ⟨Nat.le_of_ble_eq_true rfl, Nat.le_of_ble_eq_true rfl⟩ (fun H locs hP hD hS => ?_)
            refine lv_if_ne (tgt := 54) hx hb dX7_agreed_49 (by decide) (fun c49 => ?_) (fun c49 => ?_)
            · have hf := ifn c49 hf
              refine lv_iload hx hb dX7_agreed_54 (lv_at hl 4 rfl) ?_
              refine lv_istore_n (lv' := [(3, .int l4), (0, .ref (o_t 0)), (1, .int l1), (2, .int l2), (4, .int l4)]) hx hb dX7_agreed_56 rfl hl (by decide) rfl (fun ls hl => ?_)
              obtain ⟨v57, ev57, hf⟩ := nm_s hf
              refine lv_iinc (v := v57) (lv' := [(4, .int v57), (3, .int l4), (0, .ref (o_t 0)), (1, .int l1), (2, .int l2)]) hx hb dX7_agreed_57 hl (k := 4) rfl (by rw [ev57]; rfl) (by decide) rfl (fun ls hl => ?_)
              refine lv_goto (tgt := 23) hx hb dX7_agreed_60 (by decide) ?_
              exact ih23 _ _ _ _ _ _ _ hf hP hD hS (lv_sub hl [2, 3, 4, 1, 0] rfl)
            · have hf := ifp c49 hf
              refine lv_iload_n hx hb dX7_agreed_52 rfl (lv_at hl 3 rfl) ?_
              obtain rfl := Option.some.inj hf
              exact hR _ _ _ _ hP hD hS dX7_agreed_53
      refine lv_bipush (v := (-9 : Int32)) hx hb dX7_agreed_17 (by decide) ?_
      refine lv_istore_n (lv' := [(3, .int (-9 : Int32)), (0, .ref (o_t 0)), (1, .int p1), (2, .int p2)]) hx hb dX7_agreed_19 rfl hl (by decide) rfl (fun ls hl => ?_)
      refine lv_iconst (v := (0 : Int32)) hx hb dX7_agreed_20 (by decide) ?_
      refine lv_istore (lv' := [(4, .int (0 : Int32)), (3, .int (-9 : Int32)), (0, .ref (o_t 0)), (1, .int p1), (2, .int p2)]) hx hb dX7_agreed_21 hl (by decide) rfl (fun ls hl => ?_)
      exact h23 FU _ _ _ _ _ _ _ hf hP hD hS (lv_sub hl [2, 3, 4, 1, 0] rfl)
    · have hf := ifp c12 hf
      refine lv_iconst (v := (-1 : Int32)) hx hb dX7_agreed_15 (by decide) ?_
      obtain rfl := Option.some.inj hf
      exact hR _ _ _ _ hP hD hS dX7_agreed_16
theorem hd_X7_agreed : yX7_agreed.cls ≠ "java/lang/invoke/MethodHandle" ∧ yX7_agreed.cls ≠ "java/lang/invoke/VarHandle" ∧ (parseMethodDescriptor yX7_agreed.desc).map (fun d => d.parameters.length) = some 2 := by decide +kernel
set_option maxRecDepth 100000 in
theorem c_X7_agreed (l : Launch) (D : va_G) (cy : Nat → ClassId) (t : Nat → Nat) (o_t o_t_play o_t_lines o_t_truth o_t_glassTrack o_t_board o_t_otherBoard o_t_fog o_t_crowd o_t_deal : Nat → Nat) (x_play_w : Int32) (x_play_h : Int32) (x_play_hands : Int32) (x_play_rules : Nat → Int32) (x_play_leftFrom : Nat → Int32) (x_play_leftTo : Nat → Int32) (x_lines_waits : Nat → Int32) (x_lines_lostRow : Nat → Int32) (p1 : Int32) (p2 : Int32) {out : Int32} (hf : X7_agreed x_play_hands x_play_rules x_play_leftFrom x_play_leftTo x_lines_waits x_lines_lostRow p1 p2 = some out) : ctI l yX7_agreed wsX7_agreed 3 76 D cy t [.ref (o_t 0), .int p1, .int p2] (wd_X7_agreed cy o_t o_t_play o_t_lines o_t_truth o_t_glassTrack o_t_board o_t_otherBoard o_t_fog o_t_crowd o_t_deal x_play_w x_play_h x_play_hands x_play_rules x_play_leftFrom x_play_leftTo x_lines_waits x_lines_lostRow) (wd_X7_agreed cy o_t o_t_play o_t_lines o_t_truth o_t_glassTrack o_t_board o_t_otherBoard o_t_fog o_t_crowd o_t_deal x_play_w x_play_h x_play_hands x_play_rules x_play_leftFrom x_play_leftTo x_lines_waits x_lines_lostRow) out := by
  refine ⟨rfl, ?_⟩
  intro sz
  refine Met.ofW (cc := cX7_agreed) (maxL := 5) (ret := (some .int)) (by decide) rfl ?_
  intro p e s m args below meth c s₁ B hml hv
  obtain ⟨rfl, hsz, hP, hK, hD0, hE⟩ := hv
  have hts := atoms_spec (ws := wsX7_agreed) B.pre
  have hown : s.vm.findClass RX7 = some m.cls := findClass_of_methodNamed B.named
  have hlocks := B.notSynchronized
  subst hsz
  have hD := hD0.self (sz := s.heap.size)
  have hl := lv_entry ([.ref (o_t 0), .int p1, .int p2]) (n := 5) (Nat.le_of_ble_eq_true rfl)
  rw [lg_entry_eq]
  generalize (lg_sl ([.ref (o_t 0), .int p1, .int p2]) ++ List.replicate (5 - (lg_sl ([.ref (o_t 0), .int p1, .int p2])).length) Slot.unset).toArray = ls at hl ⊢
  exact w_X7_agreed D cy t o_t o_t_play o_t_lines o_t_truth o_t_glassTrack o_t_board o_t_otherBoard o_t_fog o_t_crowd o_t_deal x_play_w x_play_h x_play_hands x_play_rules x_play_leftFrom x_play_leftTo x_lines_waits x_lines_lostRow p1 p2 hf B.exec B.bytes hml hown hts hK hE (fun q h => Or.inr h) hP hD va_S.rf hl (fun H locs ls pc hP hD hS hdg => W.iret B.exec B.bytes B.returns (fun t ht hW => ⟨⟨_, (), rfl, rfl, ctB_of ht hP⟩, hS.F ht⟩) hS.2.2 hdg)

noncomputable def X7_wrong_J112 (x_play_w : Int32) (x_play_h : Int32) (x_play_hands : Int32) (x_play_rules : Nat → Int32) (x_play_pressRow : Nat → Int32) (x_play_leftFrom : Nat → Int32) (x_play_leftTo : Nat → Int32) (x_lines_waits : Nat → Int32) (x_lines_lostRow : Nat → Int32) (x_truth_ready : Int32) (x_truth_rows : Nat → Int32) (x_glassTrack_rows : Nat → Int32) (x_board_now : Nat → Int32) (x_presses : Nat → Int32) (l3 : Int32) (l4 : Int32) (l6 : Int32) : Option (Int32 × Int32 × (Nat → Int32) × (Nat → Int32) × (Nat → Int32) × (Nat → Int32)) :=
  if l3 = (0 : Int32) then (some (l4, x_truth_ready, x_truth_rows, x_glassTrack_rows, x_board_now, x_presses)) else (some (l6, x_truth_ready, x_truth_rows, x_glassTrack_rows, x_board_now, x_presses))
noncomputable def X7_wrong_J106 (x_play_w : Int32) (x_play_h : Int32) (x_play_hands : Int32) (x_play_rules : Nat → Int32) (x_play_pressRow : Nat → Int32) (x_play_leftFrom : Nat → Int32) (x_play_leftTo : Nat → Int32) (x_lines_waits : Nat → Int32) (x_lines_lostRow : Nat → Int32) (rec34 : Int32 → (Nat → Int32) → (Nat → Int32) → (Nat → Int32) → (Nat → Int32) → Int32 → Int32 → Int32 → Int32 → Int32 → Int32 → Int32 → Option (Int32 × Int32 × (Nat → Int32) × (Nat → Int32) × (Nat → Int32) × (Nat → Int32))) (x_truth_ready : Int32) (x_truth_rows : Nat → Int32) (x_glassTrack_rows : Nat → Int32) (x_board_now : Nat → Int32) (x_presses : Nat → Int32) (l1 : Int32) (l2 : Int32) (l3 : Int32) (l4 : Int32) (l5 : Int32) (l6 : Int32) (l7 : Int32) : Option (Int32 × Int32 × (Nat → Int32) × (Nat → Int32) × (Nat → Int32) × (Nat → Int32)) :=
  nm (l7 + (1 : Int32)) fun v106 => rec34 x_truth_ready x_truth_rows x_glassTrack_rows x_board_now x_presses l1 l2 l3 l4 l5 l6 v106
noncomputable def X7_wrong_L34_B (x_play_w : Int32) (x_play_h : Int32) (x_play_hands : Int32) (x_play_rules : Nat → Int32) (x_play_pressRow : Nat → Int32) (x_play_leftFrom : Nat → Int32) (x_play_leftTo : Nat → Int32) (x_lines_waits : Nat → Int32) (x_lines_lostRow : Nat → Int32) (rec34 : Int32 → (Nat → Int32) → (Nat → Int32) → (Nat → Int32) → (Nat → Int32) → Int32 → Int32 → Int32 → Int32 → Int32 → Int32 → Int32 → Option (Int32 × Int32 × (Nat → Int32) × (Nat → Int32) × (Nat → Int32) × (Nat → Int32))) (x_truth_ready : Int32) (x_truth_rows : Nat → Int32) (x_glassTrack_rows : Nat → Int32) (x_board_now : Nat → Int32) (x_presses : Nat → Int32) (l1 : Int32) (l2 : Int32) (l3 : Int32) (l4 : Int32) (l5 : Int32) (l6 : Int32) (l7 : Int32) : Option (Int32 × Int32 × (Nat → Int32) × (Nat → Int32) × (Nat → Int32) × (Nat → Int32)) :=
  if l2 < l7 then (X7_wrong_J112 x_play_w x_play_h x_play_hands x_play_rules x_play_pressRow x_play_leftFrom x_play_leftTo x_lines_waits x_lines_lostRow  x_truth_ready x_truth_rows x_glassTrack_rows x_board_now x_presses l3 l4 l6) else (rd x_play_rules 7 (3 : Int32) fun v58 => bd (X4_goneBack x_play_hands x_play_pressRow x_play_leftFrom x_play_leftTo x_lines_waits x_lines_lostRow v58 l1 l7) fun r62 => bd (X7_showFrom x_play_w x_play_h x_play_hands x_play_rules x_play_pressRow x_play_leftFrom x_play_leftTo x_lines_waits x_lines_lostRow x_glassTrack_rows x_board_now x_presses l1 l7 (l7 - r62)) fun r66 => bd (X6_isLike r66.1 x_truth_rows l7) fun r79 => if r79 = (0 : Int32) then (nm (l4 + (1 : Int32)) fun v91 => nm (l5 + (1 : Int32)) fun v94 => nm (if l6 < v94 then v94 else l6) fun v104 => X7_wrong_J106 x_play_w x_play_h x_play_hands x_play_rules x_play_pressRow x_play_leftFrom x_play_leftTo x_lines_waits x_lines_lostRow rec34 x_truth_ready x_truth_rows r66.1 r66.2.1 r66.2.2 l1 l2 l3 v91 v94 v104 l7) else (X7_wrong_J106 x_play_w x_play_h x_play_hands x_play_rules x_play_pressRow x_play_leftFrom x_play_leftTo x_lines_waits x_lines_lostRow rec34 x_truth_ready x_truth_rows r66.1 r66.2.1 r66.2.2 l1 l2 l3 l4 (0 : Int32) l6 l7))
noncomputable def X7_wrong_L34 (x_play_w : Int32) (x_play_h : Int32) (x_play_hands : Int32) (x_play_rules : Nat → Int32) (x_play_pressRow : Nat → Int32) (x_play_leftFrom : Nat → Int32) (x_play_leftTo : Nat → Int32) (x_lines_waits : Nat → Int32) (x_lines_lostRow : Nat → Int32) : Nat → Int32 → (Nat → Int32) → (Nat → Int32) → (Nat → Int32) → (Nat → Int32) → Int32 → Int32 → Int32 → Int32 → Int32 → Int32 → Int32 → Option (Int32 × Int32 × (Nat → Int32) × (Nat → Int32) × (Nat → Int32) × (Nat → Int32))
  | 0, _, _, _, _, _, _, _, _, _, _, _, _ => none
  | n + 1, y0, y1, y2, y3, y4, y5, y6, y7, y8, y9, y10, y11 => X7_wrong_L34_B x_play_w x_play_h x_play_hands x_play_rules x_play_pressRow x_play_leftFrom x_play_leftTo x_lines_waits x_lines_lostRow  (X7_wrong_L34 x_play_w x_play_h x_play_hands x_play_rules x_play_pressRow x_play_leftFrom x_play_leftTo x_lines_waits x_lines_lostRow  n) y0 y1 y2 y3 y4 y5 y6 y7 y8 y9 y10 y11
noncomputable def X7_wrong (x_play_w : Int32) (x_play_h : Int32) (x_play_hands : Int32) (x_play_rules : Nat → Int32) (x_play_pressRow : Nat → Int32) (x_play_leftFrom : Nat → Int32) (x_play_leftTo : Nat → Int32) (x_lines_waits : Nat → Int32) (x_lines_lostRow : Nat → Int32) (x_truth_ready : Int32) (x_truth_rows : Nat → Int32) (x_glassTrack_rows : Nat → Int32) (x_board_now : Nat → Int32) (x_presses : Nat → Int32) (p1 : Int32) (p2 : Int32) (p3 : Int32) : Option (Int32 × Int32 × (Nat → Int32) × (Nat → Int32) × (Nat → Int32) × (Nat → Int32)) :=
  bd (X7_isHand x_play_hands p1) fun r2 => if r2 = (0 : Int32) then (some ((-1 : Int32), x_truth_ready, x_truth_rows, x_glassTrack_rows, x_board_now, x_presses)) else (bd (X7_isTick p2) fun r9 => if r9 = (0 : Int32) then (some ((-1 : Int32), x_truth_ready, x_truth_rows, x_glassTrack_rows, x_board_now, x_presses)) else (bd (X7_playTrulyTo x_play_w x_play_h x_play_hands x_play_rules x_play_pressRow x_play_leftFrom x_play_leftTo x_truth_ready x_truth_rows x_board_now x_presses p2) fun r19 => X7_wrong_L34 x_play_w x_play_h x_play_hands x_play_rules x_play_pressRow x_play_leftFrom x_play_leftTo x_lines_waits x_lines_lostRow  FU r19.1 r19.2.1 x_glassTrack_rows r19.2.2.1 r19.2.2.2 p1 p2 p3 (0 : Int32) (0 : Int32) (0 : Int32) (0 : Int32)))
abbrev wd_X7_wrong (cy : Nat → ClassId) (o_t o_t_play o_t_lines o_t_truth o_t_glassTrack o_t_board o_t_otherBoard o_t_fog o_t_crowd o_t_deal : Nat → Nat) (x_play_w : Int32) (x_play_h : Int32) (x_play_hands : Int32) (x_play_rules : Nat → Int32) (x_play_pressRow : Nat → Int32) (x_play_leftFrom : Nat → Int32) (x_play_leftTo : Nat → Int32) (x_lines_waits : Nat → Int32) (x_lines_lostRow : Nat → Int32) (x_truth_ready : Int32) (x_truth_rows : Nat → Int32) (x_glassTrack_ready : Int32) (x_glassTrack_rows : Nat → Int32) (x_board_now : Nat → Int32) (x_presses : Nat → Int32) : va_W := [(o_t 0, .inr (7, [.ref (o_t_play 0), .ref (o_t_lines 0), .ref (o_t_truth 0), .ref (o_t_glassTrack 0), .ref (o_t_board 0), .ref (o_t_otherBoard 0), .ref (o_t 7), .ref (o_t_fog 0), .ref (o_t_crowd 0), .ref (o_t_deal 0), .ref (o_t 11), .ref (o_t 12)])), (o_t_play 0, .inr (5, [.int x_play_w, .int x_play_h, .int x_play_hands, .ref (o_t_play 4), .ref (o_t_play 5), .ref (o_t_play 6), .ref (o_t_play 7)])), (o_t_play 4, .inl (cy 0, 7, .inl x_play_rules)), (o_t_play 5, .inl (cy 0, 600, .inl x_play_pressRow)), (o_t_play 6, .inl (cy 0, 6, .inl x_play_leftFrom)), (o_t_play 7, .inl (cy 0, 6, .inl x_play_leftTo)), (o_t_lines 0, .inr (4, [.ref (o_t_play 0), .ref (o_t_lines 2), .ref (o_t_lines 3)])), (o_t_lines 2, .inl (cy 0, 36, .inl x_lines_waits)), (o_t_lines 3, .inl (cy 1, 600, .inl x_lines_lostRow)), (o_t_truth 0, .inr (6, [.ref (o_t_truth 1), .int x_truth_ready])), (o_t_truth 1, .inl (cy 0, 1300, .inl x_truth_rows)), (o_t_glassTrack 0, .inr (6, [.ref (o_t_glassTrack 1), .int x_glassTrack_ready])), (o_t_glassTrack 1, .inl (cy 0, 1300, .inl x_glassTrack_rows)), (o_t_board 0, .inr (0, [.ref (o_t_board 1)])), (o_t_board 1, .inl (cy 0, 13, .inl x_board_now)), (o_t 7, .inl (cy 0, 6, .inl x_presses))]
set_option maxHeartbeats 4000000 in
set_option maxRecDepth 100000 in
theorem w_X7_wrong {p : Program} {l : Launch} {e : Env} {s : State} {m : MethodId} {args : Array Value} {below : List Frame} {meth : Method} {c : Code} {Q : State → Prop} {A : Nat → Prop} {H : Heap} {locs : List Loc} {ls : Array Slot} (D : va_G) (cy : Nat → ClassId) (t : Nat → Nat) (o_t o_t_play o_t_lines o_t_truth o_t_glassTrack o_t_board o_t_otherBoard o_t_fog o_t_crowd o_t_deal : Nat → Nat) (x_play_w : Int32) (x_play_h : Int32) (x_play_hands : Int32) (x_play_rules : Nat → Int32) (x_play_pressRow : Nat → Int32) (x_play_leftFrom : Nat → Int32) (x_play_leftTo : Nat → Int32) (x_lines_waits : Nat → Int32) (x_lines_lostRow : Nat → Int32) (x_truth_ready : Int32) (x_truth_rows : Nat → Int32) (x_glassTrack_ready : Int32) (x_glassTrack_rows : Nat → Int32) (x_board_now : Nat → Int32) (x_presses : Nat → Int32) (p1 : Int32) (p2 : Int32) (p3 : Int32) {out : Int32 × Int32 × (Nat → Int32) × (Nat → Int32) × (Nat → Int32) × (Nat → Int32)} (hf : X7_wrong x_play_w x_play_h x_play_hands x_play_rules x_play_pressRow x_play_leftFrom x_play_leftTo x_lines_waits x_lines_lostRow x_truth_ready x_truth_rows x_glassTrack_rows x_board_now x_presses p1 p2 p3 = some out) (hx : p.tables.exec = Jvm.exec) (hb : c.code = cX7_wrong) (hml : c.maxLocals = 8) (hown : s.vm.findClass RX7 = some m.cls) (hts : ∀ w ∈ wsX7_wrong, w.before args s = true) (hK : va_K D vwCl (TYS cy) s) (hE : EV t A s s.heap) (hA : ∀ q, s.heap.size ≤ q → A q) (hP : va_P D vwCl (wd_X7_wrong cy o_t o_t_play o_t_lines o_t_truth o_t_glassTrack o_t_board o_t_otherBoard o_t_fog o_t_crowd o_t_deal x_play_w x_play_h x_play_hands x_play_rules x_play_pressRow x_play_leftFrom x_play_leftTo x_lines_waits x_lines_lostRow x_truth_ready x_truth_rows x_glassTrack_ready x_glassTrack_rows x_board_now x_presses) H) (hD : va_D A (wd_X7_wrong cy o_t o_t_play o_t_lines o_t_truth o_t_glassTrack o_t_board o_t_otherBoard o_t_fog o_t_crowd o_t_deal x_play_w x_play_h x_play_hands x_play_rules x_play_pressRow x_play_leftFrom x_play_leftTo x_lines_waits x_lines_lostRow x_truth_ready x_truth_rows x_glassTrack_ready x_glassTrack_rows x_board_now x_presses)) (hS : va_S A s.heap H locs) (hl : lv_has ls 8 [(0, .ref (o_t 0)), (1, .int p1), (2, .int p2), (3, .int p3)]) (hR : ∀ (H : Heap) (locs : List Loc) (ls : Array Slot) (pc : Nat), va_P D vwCl (wd_X7_wrong cy o_t o_t_play o_t_lines o_t_truth o_t_glassTrack o_t_board o_t_otherBoard o_t_fog o_t_crowd o_t_deal x_play_w x_play_h x_play_hands x_play_rules x_play_pressRow x_play_leftFrom x_play_leftTo x_lines_waits x_lines_lostRow out.2.1 out.2.2.1 x_glassTrack_ready out.2.2.2.1 out.2.2.2.2.1 out.2.2.2.2.2) H → va_D A (wd_X7_wrong cy o_t o_t_play o_t_lines o_t_truth o_t_glassTrack o_t_board o_t_otherBoard o_t_fog o_t_crowd o_t_deal x_play_w x_play_h x_play_hands x_play_rules x_play_pressRow x_play_leftFrom x_play_leftTo x_lines_waits x_lines_lostRow out.2.1 out.2.2.1 x_glassTrack_ready out.2.2.2.1 out.2.2.2.2.1 out.2.2.2.2.2) → va_S A s.heap H locs → decode cX7_wrong pc = .ok (.ireturn, 1) → W p l e (rmm 6 143) s m args below meth c H locs 0 0 Q (F0 m pc ls [.int out.1])) : W p l e (rmm 6 143) s m args below meth c H locs 0 0 Q (F0 m 0 ls []) := by
  have k0 := hts (.fieldLink RX7 21 "SeaGames" "lines" "LSeaGames$Lines;") (List.mem_cons_of_mem _ (List.mem_append_left _ (List.mem_append_left _ (List.mem_append_left _ (List.mem_append_left _ (List.mem_append_left _ (List.mem_append_left _ (List.mem_of_getElem? (i := 0) rfl))))))))
  have k1 : ∀ w ∈ u_ws RX7 TX7 12, w ∈ wsX7_wrong := fun _ h => List.mem_cons_of_mem _ (List.mem_append_left _ (List.mem_append_left _ (List.mem_append_left _ (List.mem_append_left _ (List.mem_append_right _ h)))))
  have k2 := hts (.fieldLink RX7 10 "SeaGames" "play" "LSeaGames$Play;") (List.mem_cons_of_mem _ (List.mem_append_left _ (List.mem_append_left _ (List.mem_append_left _ (List.mem_append_left _ (List.mem_append_left _ (List.mem_append_left _ (List.mem_of_getElem? (i := 1) rfl))))))))
  have k3 := hts (.fieldLink RX7 98 "SeaGames$Play" "rules" "[I") (List.mem_cons_of_mem _ (List.mem_append_left _ (List.mem_append_left _ (List.mem_append_left _ (List.mem_append_left _ (List.mem_append_left _ (List.mem_append_left _ (List.mem_of_getElem? (i := 2) rfl))))))))
  have k4 : ∀ w ∈ u_ws RX5 TX5 7, w ∈ wsX7_wrong := fun _ h => List.mem_cons_of_mem _ (List.mem_append_left _ (List.mem_append_left _ (List.mem_append_left _ (List.mem_append_right _ h))))
  have k5 := hts (.fieldLink RX7 32 "SeaGames" "glassTrack" "LSeaGames$Track;") (List.mem_cons_of_mem _ (List.mem_append_left _ (List.mem_append_left _ (List.mem_append_left _ (List.mem_append_left _ (List.mem_append_left _ (List.mem_append_left _ (List.mem_of_getElem? (i := 3) rfl))))))))
  have k6 := hts (.fieldLink RX7 28 "SeaGames" "truth" "LSeaGames$Track;") (List.mem_cons_of_mem _ (List.mem_append_left _ (List.mem_append_left _ (List.mem_append_left _ (List.mem_append_left _ (List.mem_append_left _ (List.mem_append_left _ (List.mem_of_getElem? (i := 4) rfl))))))))
  have k7 := hts (.methodLink RX7 188 Lib.Math.max.name) (List.mem_cons_of_mem _ (List.mem_append_left _ (List.mem_append_left _ (List.mem_append_left _ (List.mem_append_left _ (List.mem_append_left _ (List.mem_append_left _ (List.mem_of_getElem? (i := 5) rfl))))))))
  have k8 := hts (.static Lib.Math.max.name) (List.mem_cons_of_mem _ (List.mem_append_left _ (List.mem_append_left _ (List.mem_append_left _ (List.mem_append_left _ (List.mem_append_left _ (List.mem_append_left _ (List.mem_of_getElem? (i := 6) rfl))))))))
  have k9 := hts (.initialized "java/lang/Math") (List.mem_cons_of_mem _ (List.mem_append_left _ (List.mem_append_left _ (List.mem_append_left _ (List.mem_append_left _ (List.mem_append_left _ (List.mem_append_left _ (List.mem_of_getElem? (i := 7) rfl))))))))
  have k10 := hts (.code Lib.Math.max.name Lib.Math.max.code 2 (some .int)) (List.mem_cons_of_mem _ (List.mem_append_left _ (List.mem_append_left _ (List.mem_append_left _ (List.mem_append_left _ (List.mem_append_left _ (List.mem_append_left _ (List.mem_of_getElem? (i := 8) rfl))))))))
  rw [X7_wrong] at hf
  refine lv_aload_n hx hb dX7_wrong_0 rfl (lv_at hl 0 rfl) ?_
  refine lv_iload_n hx hb dX7_wrong_1 rfl (lv_at hl 1 rfl) ?_
  obtain ⟨r2, hr2, hf⟩ := bd_s hf
  refine my_Vi (WS2 := (wd_X7_wrong cy o_t o_t_play o_t_lines o_t_truth o_t_glassTrack o_t_board o_t_otherBoard o_t_fog o_t_crowd o_t_deal x_play_w x_play_h x_play_hands x_play_rules x_play_pressRow x_play_leftFrom x_play_leftTo x_lines_waits x_lines_lostRow x_truth_ready x_truth_rows x_glassTrack_ready x_glassTrack_rows x_board_now x_presses)) ⟨hx, hb, hml, hown, hts⟩ (c_X7_isHand l D cy t o_t o_t_play o_t_lines o_t_truth o_t_glassTrack o_t_board o_t_otherBoard o_t_fog o_t_crowd o_t_deal x_play_w x_play_h x_play_hands p1 hr2) (cwV 1 hts gX7_wrong_X7_isHand rfl rfl rfl ⟨rfl, hd_X7_isHand⟩ ⟨Nat.le_of_ble_eq_true rfl, Nat.le_of_ble_eq_true rfl⟩) hK hE hP hD hS hA [0, 1] 16 7 0 rfl rfl rfl rfl (by decide +kernel) rfl rfl hl.1 rfl (Nat.le_of_ble_eq_true rfl) dX7_wrong_2 ⟨Nat.le_of_ble_eq_true rfl, Nat.le_of_ble_eq_true rfl⟩ (fun H locs hP hD hS => ?_)
  refine lv_if_eq (tgt := 15) hx hb dX7_wrong_5 (by decide) (fun c5 => ?_) (fun c5 => ?_)
  · have hf := ifp c5 hf
    refine lv_iconst (v := (-1 : Int32)) hx hb dX7_wrong_15 (by decide) ?_
    obtain rfl := Option.some.inj hf
    exact hR _ _ _ _ hP hD hS dX7_wrong_16
  · have hf := ifn c5 hf
    refine lv_iload_n hx hb dX7_wrong_8 rfl (lv_at hl 2 rfl) ?_
    obtain ⟨r9, hr9, hf⟩ := bd_s hf
    refine my_Si (WS2 := (wd_X7_wrong cy o_t o_t_play o_t_lines o_t_truth o_t_glassTrack o_t_board o_t_otherBoard o_t_fog o_t_crowd o_t_deal x_play_w x_play_h x_play_hands x_play_rules x_play_pressRow x_play_leftFrom x_play_leftTo x_lines_waits x_lines_lostRow x_truth_ready x_truth_rows x_glassTrack_ready x_glassTrack_rows x_board_now x_presses)) ⟨hx, hb, hml, hown, hts⟩ (c_X7_isTick l D cy t p2 hr9) (va_cwS 1 hts gX7_wrong_X7_isTick rfl rfl rfl hd_X7_isTick ⟨Nat.le_of_ble_eq_true rfl, Nat.le_of_ble_eq_true rfl⟩) hK hE hP hD hS hA [] 16 rfl rfl (by decide +kernel) rfl rfl hl.1 rfl (Nat.le_of_ble_eq_true rfl) dX7_wrong_9 ⟨Nat.le_of_ble_eq_true rfl, Nat.le_of_ble_eq_true rfl⟩ (fun H locs hP hD hS => ?_)
    refine lv_if_ne (tgt := 17) hx hb dX7_wrong_12 (by decide) (fun c12 => ?_) (fun c12 => ?_)
    · have hf := ifn c12 hf
      have h34 : ∀ (n34 : Nat) (x_truth_ready : Int32) (x_truth_rows : Nat → Int32) (x_glassTrack_rows : Nat → Int32) (x_board_now : Nat → Int32) (x_presses : Nat → Int32) (l1 : Int32) (l2 : Int32) (l3 : Int32) (l4 : Int32) (l5 : Int32) (l6 : Int32) (l7 : Int32) (H : Heap) (locs : List Loc) (ls : Array Slot), X7_wrong_L34 x_play_w x_play_h x_play_hands x_play_rules x_play_pressRow x_play_leftFrom x_play_leftTo x_lines_waits x_lines_lostRow n34 x_truth_ready x_truth_rows x_glassTrack_rows x_board_now x_presses l1 l2 l3 l4 l5 l6 l7 = some out → va_P D vwCl (wd_X7_wrong cy o_t o_t_play o_t_lines o_t_truth o_t_glassTrack o_t_board o_t_otherBoard o_t_fog o_t_crowd o_t_deal x_play_w x_play_h x_play_hands x_play_rules x_play_pressRow x_play_leftFrom x_play_leftTo x_lines_waits x_lines_lostRow x_truth_ready x_truth_rows x_glassTrack_ready x_glassTrack_rows x_board_now x_presses) H → va_D A (wd_X7_wrong cy o_t o_t_play o_t_lines o_t_truth o_t_glassTrack o_t_board o_t_otherBoard o_t_fog o_t_crowd o_t_deal x_play_w x_play_h x_play_hands x_play_rules x_play_pressRow x_play_leftFrom x_play_leftTo x_lines_waits x_lines_lostRow x_truth_ready x_truth_rows x_glassTrack_ready x_glassTrack_rows x_board_now x_presses) → va_S A s.heap H locs → lv_has ls 8 [(0, .ref (o_t 0)), (1, .int l1), (2, .int l2), (3, .int l3), (4, .int l4), (5, .int l5), (6, .int l6), (7, .int l7)] → W p l e (rmm 6 143) s m args below meth c H locs 0 0 Q (F0 m 34 ls []) := by
        intro n34
        induction n34 with
        | zero =>
          intro _ _ _ _ _ _ _ _ _ _ _ _ _ _ _ hf
          exact nomatch (show (none : Option _) = some out from hf)
        | succ n34 ih34 =>
          intro x_truth_ready x_truth_rows x_glassTrack_rows x_board_now x_presses l1 l2 l3 l4 l5 l6 l7 H locs ls hf hP hD hS hl
          have hf : X7_wrong_L34_B x_play_w x_play_h x_play_hands x_play_rules x_play_pressRow x_play_leftFrom x_play_leftTo x_lines_waits x_lines_lostRow (X7_wrong_L34 x_play_w x_play_h x_play_hands x_play_rules x_play_pressRow x_play_leftFrom x_play_leftTo x_lines_waits x_lines_lostRow n34) x_truth_ready x_truth_rows x_glassTrack_rows x_board_now x_presses l1 l2 l3 l4 l5 l6 l7 = some out := hf
          rw [X7_wrong_L34_B] at hf
          have h112 : ∀ (x_truth_ready : Int32) (x_truth_rows : Nat → Int32) (x_glassTrack_rows : Nat → Int32) (x_board_now : Nat → Int32) (x_presses : Nat → Int32) (l3 : Int32) (l4 : Int32) (l6 : Int32) (H : Heap) (locs : List Loc) (ls : Array Slot), X7_wrong_J112 x_play_w x_play_h x_play_hands x_play_rules x_play_pressRow x_play_leftFrom x_play_leftTo x_lines_waits x_lines_lostRow x_truth_ready x_truth_rows x_glassTrack_rows x_board_now x_presses l3 l4 l6 = some out → va_P D vwCl (wd_X7_wrong cy o_t o_t_play o_t_lines o_t_truth o_t_glassTrack o_t_board o_t_otherBoard o_t_fog o_t_crowd o_t_deal x_play_w x_play_h x_play_hands x_play_rules x_play_pressRow x_play_leftFrom x_play_leftTo x_lines_waits x_lines_lostRow x_truth_ready x_truth_rows x_glassTrack_ready x_glassTrack_rows x_board_now x_presses) H → va_D A (wd_X7_wrong cy o_t o_t_play o_t_lines o_t_truth o_t_glassTrack o_t_board o_t_otherBoard o_t_fog o_t_crowd o_t_deal x_play_w x_play_h x_play_hands x_play_rules x_play_pressRow x_play_leftFrom x_play_leftTo x_lines_waits x_lines_lostRow x_truth_ready x_truth_rows x_glassTrack_ready x_glassTrack_rows x_board_now x_presses) → va_S A s.heap H locs → lv_has ls 8 [(3, .int l3), (4, .int l4), (6, .int l6)] → W p l e (rmm 6 143) s m args below meth c H locs 0 0 Q (F0 m 112 ls []) := by
            intro x_truth_ready x_truth_rows x_glassTrack_rows x_board_now x_presses l3 l4 l6 H locs ls hf hP hD hS hl
            rw [X7_wrong_J112] at hf
            refine lv_iload_n hx hb dX7_wrong_112 rfl (lv_at hl 0 rfl) ?_
            refine lv_if_eq (tgt := 121) hx hb dX7_wrong_113 (by decide) (fun c113 => ?_) (fun c113 => ?_)
            · have hf := ifp c113 hf
              refine lv_iload hx hb dX7_wrong_121 (lv_at hl 1 rfl) ?_
              obtain rfl := Option.some.inj hf
              exact hR _ _ _ _ hP hD hS dX7_wrong_123
            · have hf := ifn c113 hf
              refine lv_iload hx hb dX7_wrong_116 (lv_at hl 2 rfl) ?_
              refine lv_goto (tgt := 123) hx hb dX7_wrong_118 (by decide) ?_
              obtain rfl := Option.some.inj hf
              exact hR _ _ _ _ hP hD hS dX7_wrong_123
          refine lv_iload hx hb dX7_wrong_34 (lv_at hl 7 rfl) ?_
          refine lv_iload_n hx hb dX7_wrong_36 rfl (lv_at hl 2 rfl) ?_
          refine lv_icmp_gt (tgt := 112) hx hb dX7_wrong_37 (by decide) (fun c37 => ?_) (fun c37 => ?_)
          · have hf := ifp c37 hf
            exact h112 _ _ _ _ _ _ _ _ _ _ _ hf hP hD hS (lv_sub hl [3, 4, 6] rfl)
          · have hf := ifn c37 hf
            have h106 : ∀ (x_truth_ready : Int32) (x_truth_rows : Nat → Int32) (x_glassTrack_rows : Nat → Int32) (x_board_now : Nat → Int32) (x_presses : Nat → Int32) (l1 : Int32) (l2 : Int32) (l3 : Int32) (l4 : Int32) (l5 : Int32) (l6 : Int32) (l7 : Int32) (H : Heap) (locs : List Loc) (ls : Array Slot), X7_wrong_J106 x_play_w x_play_h x_play_hands x_play_rules x_play_pressRow x_play_leftFrom x_play_leftTo x_lines_waits x_lines_lostRow (X7_wrong_L34 x_play_w x_play_h x_play_hands x_play_rules x_play_pressRow x_play_leftFrom x_play_leftTo x_lines_waits x_lines_lostRow n34) x_truth_ready x_truth_rows x_glassTrack_rows x_board_now x_presses l1 l2 l3 l4 l5 l6 l7 = some out → va_P D vwCl (wd_X7_wrong cy o_t o_t_play o_t_lines o_t_truth o_t_glassTrack o_t_board o_t_otherBoard o_t_fog o_t_crowd o_t_deal x_play_w x_play_h x_play_hands x_play_rules x_play_pressRow x_play_leftFrom x_play_leftTo x_lines_waits x_lines_lostRow x_truth_ready x_truth_rows x_glassTrack_ready x_glassTrack_rows x_board_now x_presses) H → va_D A (wd_X7_wrong cy o_t o_t_play o_t_lines o_t_truth o_t_glassTrack o_t_board o_t_otherBoard o_t_fog o_t_crowd o_t_deal x_play_w x_play_h x_play_hands x_play_rules x_play_pressRow x_play_leftFrom x_play_leftTo x_lines_waits x_lines_lostRow x_truth_ready x_truth_rows x_glassTrack_ready x_glassTrack_rows x_board_now x_presses) → va_S A s.heap H locs → lv_has ls 8 [(0, .ref (o_t 0)), (1, .int l1), (2, .int l2), (3, .int l3), (4, .int l4), (5, .int l5), (6, .int l6), (7, .int l7)] → W p l e (rmm 6 143) s m args below meth c H locs 0 0 Q (F0 m 106 ls []) := by
              intro x_truth_ready x_truth_rows x_glassTrack_rows x_board_now x_presses l1 l2 l3 l4 l5 l6 l7 H locs ls hf hP hD hS hl
              rw [X7_wrong_J106] at hf
              obtain ⟨v106, ev106, hf⟩ := nm_s hf
              refine lv_iinc (v := v106) (lv' := [(7, .int v106), (0, .ref (o_t 0)), (1, .int l1), (2, .int l2), (3, .int l3), (4, .int l4), (5, .int l5), (6, .int l6)]) hx hb dX7_wrong_106 hl (k := 7) rfl (by rw [ev106]; rfl) (by decide) rfl (fun ls hl => ?_)
              refine lv_goto (tgt := 34) hx hb dX7_wrong_109 (by decide) ?_
              exact ih34 _ _ _ _ _ _ _ _ _ _ _ _ _ _ _ hf hP hD hS (lv_sub hl [1, 2, 3, 4, 5, 6, 7, 0] rfl)
            refine lv_aload_n hx hb dX7_wrong_40 rfl (lv_at hl 0 rfl) ?_
            refine lv_iload_n hx hb dX7_wrong_41 rfl (lv_at hl 1 rfl) ?_
            refine lv_iload hx hb dX7_wrong_42 (lv_at hl 7 rfl) ?_
            refine lv_iload hx hb dX7_wrong_44 (lv_at hl 7 rfl) ?_
            refine lv_aload_n hx hb dX7_wrong_46 rfl (lv_at hl 0 rfl) ?_
            refine va_get (D := D) (ci := 7) (v := .ref (o_t_lines 0)) (C := RX7) (T := TX7) (N := 12) hx hb hts k1 hown hK hP 0 rfl rfl 1 (by decide) k0 (fun _ h9 => h9) rfl dX7_wrong_47 ?_
            refine lv_aload_n hx hb dX7_wrong_50 rfl (lv_at hl 0 rfl) ?_
            refine va_get (D := D) (ci := 7) (v := .ref (o_t_play 0)) (C := RX7) (T := TX7) (N := 12) hx hb hts k1 hown hK hP 0 rfl rfl 0 (by decide) k2 (fun _ h9 => h9) rfl dX7_wrong_51 ?_
            refine va_get (D := D) (ci := 5) (v := .ref (o_t_play 4)) (C := RX5) (T := TX5) (N := 7) hx hb hts k4 hown hK hP 1 rfl rfl 3 (by decide) k3 (fun _ h9 => h9) rfl dX7_wrong_54 ?_
            refine lv_iconst (v := (3 : Int32)) hx hb dX7_wrong_57 (by decide) ?_
            obtain ⟨v58, b58, ev58, hf⟩ := rd_s hf
            refine my_iald hx hb hK hP 2 rfl b58 ev58 dX7_wrong_58 ?_
            refine lv_iload_n hx hb dX7_wrong_59 rfl (lv_at hl 1 rfl) ?_
            refine lv_iload hx hb dX7_wrong_60 (lv_at hl 7 rfl) ?_
            obtain ⟨r62, hr62, hf⟩ := bd_s hf
            refine my_Vi (WS2 := (wd_X7_wrong cy o_t o_t_play o_t_lines o_t_truth o_t_glassTrack o_t_board o_t_otherBoard o_t_fog o_t_crowd o_t_deal x_play_w x_play_h x_play_hands x_play_rules x_play_pressRow x_play_leftFrom x_play_leftTo x_lines_waits x_lines_lostRow x_truth_ready x_truth_rows x_glassTrack_ready x_glassTrack_rows x_board_now x_presses)) ⟨hx, hb, hml, hown, hts⟩ (c_X4_goneBack l D cy t o_t_lines o_t_play x_play_w x_play_h x_play_hands x_play_pressRow x_play_leftFrom x_play_leftTo x_lines_waits x_lines_lostRow v58 l1 l7 hr62) (cwV 3 hts gX7_wrong_X4_goneBack rfl rfl rfl ⟨rfl, hd_X4_goneBack⟩ ⟨Nat.le_of_ble_eq_true rfl, Nat.le_of_ble_eq_true rfl⟩) hK hE hP hD hS hA [6, 1, 3, 4, 5, 7, 8] 16 4 0 rfl rfl rfl rfl (by decide +kernel) rfl rfl hl.1 rfl (Nat.le_of_ble_eq_true rfl) dX7_wrong_62 ⟨Nat.le_of_ble_eq_true rfl, Nat.le_of_ble_eq_true rfl⟩ (fun H locs hP hD hS => ?_)
            refine lv_isub hx hb dX7_wrong_65 ?_
            obtain ⟨r66, hr66, hf⟩ := bd_s hf
            refine my_Vv (WS2 := (wd_X7_wrong cy o_t o_t_play o_t_lines o_t_truth o_t_glassTrack o_t_board o_t_otherBoard o_t_fog o_t_crowd o_t_deal x_play_w x_play_h x_play_hands x_play_rules x_play_pressRow x_play_leftFrom x_play_leftTo x_lines_waits x_lines_lostRow x_truth_ready x_truth_rows x_glassTrack_ready r66.1 r66.2.1 r66.2.2)) ⟨hx, hb, hml, hown, hts⟩ (c_X7_showFrom l D cy t o_t o_t_play o_t_lines o_t_truth o_t_glassTrack o_t_board o_t_otherBoard o_t_fog o_t_crowd o_t_deal x_play_w x_play_h x_play_hands x_play_rules x_play_pressRow x_play_leftFrom x_play_leftTo x_lines_waits x_lines_lostRow x_glassTrack_ready x_glassTrack_rows x_board_now x_presses l1 l7 (l7 - r62) hr66) (cwV 3 hts gX7_wrong_X7_showFrom rfl rfl rfl ⟨rfl, hd_X7_showFrom⟩ ⟨Nat.le_of_ble_eq_true rfl, Nat.le_of_ble_eq_true rfl⟩) hK hE hP hD hS hA [0, 1, 2, 3, 4, 5, 6, 7, 8, 11, 12, 13, 14, 15] 16 7 0 rfl rfl rfl rfl (by decide +kernel) rfl rfl hl.1 rfl (Nat.le_of_ble_eq_true rfl) dX7_wrong_66 ⟨Nat.le_of_ble_eq_true rfl, Nat.le_of_ble_eq_true rfl⟩ (fun H locs hP hD hS => ?_)
            refine lv_aload_n hx hb dX7_wrong_69 rfl (lv_at hl 0 rfl) ?_
            refine va_get (D := D) (ci := 7) (v := .ref (o_t_glassTrack 0)) (C := RX7) (T := TX7) (N := 12) hx hb hts k1 hown hK hP 0 rfl rfl 3 (by decide) k5 (fun _ h9 => h9) rfl dX7_wrong_70 ?_
            refine lv_aload_n hx hb dX7_wrong_73 rfl (lv_at hl 0 rfl) ?_
            refine va_get (D := D) (ci := 7) (v := .ref (o_t_truth 0)) (C := RX7) (T := TX7) (N := 12) hx hb hts k1 hown hK hP 0 rfl rfl 2 (by decide) k6 (fun _ h9 => h9) rfl dX7_wrong_74 ?_
            refine lv_iload hx hb dX7_wrong_77 (lv_at hl 7 rfl) ?_
            obtain ⟨r79, hr79, hf⟩ := bd_s hf
            refine my_Vi (WS2 := (wd_X7_wrong cy o_t o_t_play o_t_lines o_t_truth o_t_glassTrack o_t_board o_t_otherBoard o_t_fog o_t_crowd o_t_deal x_play_w x_play_h x_play_hands x_play_rules x_play_pressRow x_play_leftFrom x_play_leftTo x_lines_waits x_lines_lostRow x_truth_ready x_truth_rows x_glassTrack_ready r66.1 r66.2.1 r66.2.2)) ⟨hx, hb, hml, hown, hts⟩ (c_X6_isLike l D cy t o_t_glassTrack o_t_truth x_glassTrack_ready r66.1 x_truth_ready x_truth_rows l7 hr79) (cwV 2 hts gX7_wrong_X6_isLike rfl rfl rfl ⟨rfl, hd_X6_isLike⟩ ⟨Nat.le_of_ble_eq_true rfl, Nat.le_of_ble_eq_true rfl⟩) hK hE hP hD hS hA [11, 12, 9, 10] 16 6 0 rfl rfl rfl rfl (by decide +kernel) rfl rfl hl.1 rfl (Nat.le_of_ble_eq_true rfl) dX7_wrong_79 ⟨Nat.le_of_ble_eq_true rfl, Nat.le_of_ble_eq_true rfl⟩ (fun H locs hP hD hS => ?_)
            refine lv_if_eq (tgt := 91) hx hb dX7_wrong_82 (by decide) (fun c82 => ?_) (fun c82 => ?_)
            · have hf := ifp c82 hf
              obtain ⟨v91, ev91, hf⟩ := nm_s hf
              refine lv_iinc (v := v91) (lv' := [(4, .int v91), (0, .ref (o_t 0)), (1, .int l1), (2, .int l2), (3, .int l3), (5, .int l5), (6, .int l6), (7, .int l7)]) hx hb dX7_wrong_91 hl (k := 4) rfl (by rw [ev91]; rfl) (by decide) rfl (fun ls hl => ?_)
              obtain ⟨v94, ev94, hf⟩ := nm_s hf
              refine lv_iinc (v := v94) (lv' := [(5, .int v94), (4, .int v91), (0, .ref (o_t 0)), (1, .int l1), (2, .int l2), (3, .int l3), (6, .int l6), (7, .int l7)]) hx hb dX7_wrong_94 hl (k := 5) rfl (by rw [ev94]; rfl) (by decide) rfl (fun ls hl => ?_)
              refine lv_iload hx hb dX7_wrong_97 (lv_at hl 6 rfl) ?_
              refine lv_iload hx hb dX7_wrong_99 (lv_at hl 0 rfl) ?_
              refine va_mmax hx hb (hml.trans hl.1.symm) hown k7 k8 k9 k10 (Nat.le_of_ble_eq_true rfl) (Nat.le_of_ble_eq_true rfl) (Nat.le_of_ble_eq_true rfl) (Nat.le_of_ble_eq_true rfl) dX7_wrong_101 ?_
              obtain ⟨v104, ev104, hf⟩ := nm_s hf
              refine my_topi ev104 ?_
              refine lv_istore (lv' := [(6, .int v104), (5, .int v94), (4, .int v91), (0, .ref (o_t 0)), (1, .int l1), (2, .int l2), (3, .int l3), (7, .int l7)]) hx hb dX7_wrong_104 hl (by decide) rfl (fun ls hl => ?_)
              exact h106 _ _ _ _ _ _ _ _ _ _ _ _ _ _ _ hf hP hD hS (lv_sub hl [3, 4, 5, 6, 2, 1, 0, 7] rfl)
            · have hf := ifn c82 hf
              refine lv_iconst (v := (0 : Int32)) hx hb dX7_wrong_85 (by decide) ?_
              refine lv_istore (lv' := [(5, .int (0 : Int32)), (0, .ref (o_t 0)), (1, .int l1), (2, .int l2), (3, .int l3), (4, .int l4), (6, .int l6), (7, .int l7)]) hx hb dX7_wrong_86 hl (by decide) rfl (fun ls hl => ?_)
              refine lv_goto (tgt := 106) hx hb dX7_wrong_88 (by decide) ?_
              exact h106 _ _ _ _ _ _ _ _ _ _ _ _ _ _ _ hf hP hD hS (lv_sub hl [1, 2, 3, 4, 5, 0, 6, 7] rfl)
      refine lv_aload_n hx hb dX7_wrong_17 rfl (lv_at hl 0 rfl) ?_
      refine lv_iload_n hx hb dX7_wrong_18 rfl (lv_at hl 2 rfl) ?_
      obtain ⟨r19, hr19, hf⟩ := bd_s hf
      refine my_Vv (WS2 := (wd_X7_wrong cy o_t o_t_play o_t_lines o_t_truth o_t_glassTrack o_t_board o_t_otherBoard o_t_fog o_t_crowd o_t_deal x_play_w x_play_h x_play_hands x_play_rules x_play_pressRow x_play_leftFrom x_play_leftTo x_lines_waits x_lines_lostRow r19.1 r19.2.1 x_glassTrack_ready x_glassTrack_rows r19.2.2.1 r19.2.2.2)) ⟨hx, hb, hml, hown, hts⟩ (c_X7_playTrulyTo l D cy t o_t o_t_play o_t_lines o_t_truth o_t_glassTrack o_t_board o_t_otherBoard o_t_fog o_t_crowd o_t_deal x_play_w x_play_h x_play_hands x_play_rules x_play_pressRow x_play_leftFrom x_play_leftTo x_truth_ready x_truth_rows x_board_now x_presses p2 hr19) (cwV 1 hts gX7_wrong_X7_playTrulyTo rfl rfl rfl ⟨rfl, hd_X7_playTrulyTo⟩ ⟨Nat.le_of_ble_eq_true rfl, Nat.le_of_ble_eq_true rfl⟩) hK hE hP hD hS hA [0, 1, 2, 3, 4, 5, 9, 10, 13, 14, 15] 16 7 0 rfl rfl rfl rfl (by decide +kernel) rfl rfl hl.1 rfl (Nat.le_of_ble_eq_true rfl) dX7_wrong_19 ⟨Nat.le_of_ble_eq_true rfl, Nat.le_of_ble_eq_true rfl⟩ (fun H locs hP hD hS => ?_)
      refine lv_iconst (v := (0 : Int32)) hx hb dX7_wrong_22 (by decide) ?_
      refine lv_istore (lv' := [(4, .int (0 : Int32)), (0, .ref (o_t 0)), (1, .int p1), (2, .int p2), (3, .int p3)]) hx hb dX7_wrong_23 hl (by decide) rfl (fun ls hl => ?_)
      refine lv_iconst (v := (0 : Int32)) hx hb dX7_wrong_25 (by decide) ?_
      refine lv_istore (lv' := [(5, .int (0 : Int32)), (4, .int (0 : Int32)), (0, .ref (o_t 0)), (1, .int p1), (2, .int p2), (3, .int p3)]) hx hb dX7_wrong_26 hl (by decide) rfl (fun ls hl => ?_)
      refine lv_iconst (v := (0 : Int32)) hx hb dX7_wrong_28 (by decide) ?_
      refine lv_istore (lv' := [(6, .int (0 : Int32)), (5, .int (0 : Int32)), (4, .int (0 : Int32)), (0, .ref (o_t 0)), (1, .int p1), (2, .int p2), (3, .int p3)]) hx hb dX7_wrong_29 hl (by decide) rfl (fun ls hl => ?_)
      refine lv_iconst (v := (0 : Int32)) hx hb dX7_wrong_31 (by decide) ?_
      refine lv_istore (lv' := [(7, .int (0 : Int32)), (6, .int (0 : Int32)), (5, .int (0 : Int32)), (4, .int (0 : Int32)), (0, .ref (o_t 0)), (1, .int p1), (2, .int p2), (3, .int p3)]) hx hb dX7_wrong_32 hl (by decide) rfl (fun ls hl => ?_)
      exact h34 FU _ _ _ _ _ _ _ _ _ _ _ _ _ _ _ hf hP hD hS (lv_sub hl [4, 5, 6, 7, 3, 2, 1, 0] rfl)
    · have hf := ifp c12 hf
      refine lv_iconst (v := (-1 : Int32)) hx hb dX7_wrong_15 (by decide) ?_
      obtain rfl := Option.some.inj hf
      exact hR _ _ _ _ hP hD hS dX7_wrong_16
theorem hd_X7_wrong : yX7_wrong.cls ≠ "java/lang/invoke/MethodHandle" ∧ yX7_wrong.cls ≠ "java/lang/invoke/VarHandle" ∧ (parseMethodDescriptor yX7_wrong.desc).map (fun d => d.parameters.length) = some 3 := by decide +kernel
set_option maxRecDepth 100000 in
theorem c_X7_wrong (l : Launch) (D : va_G) (cy : Nat → ClassId) (t : Nat → Nat) (o_t o_t_play o_t_lines o_t_truth o_t_glassTrack o_t_board o_t_otherBoard o_t_fog o_t_crowd o_t_deal : Nat → Nat) (x_play_w : Int32) (x_play_h : Int32) (x_play_hands : Int32) (x_play_rules : Nat → Int32) (x_play_pressRow : Nat → Int32) (x_play_leftFrom : Nat → Int32) (x_play_leftTo : Nat → Int32) (x_lines_waits : Nat → Int32) (x_lines_lostRow : Nat → Int32) (x_truth_ready : Int32) (x_truth_rows : Nat → Int32) (x_glassTrack_ready : Int32) (x_glassTrack_rows : Nat → Int32) (x_board_now : Nat → Int32) (x_presses : Nat → Int32) (p1 : Int32) (p2 : Int32) (p3 : Int32) {out : Int32 × Int32 × (Nat → Int32) × (Nat → Int32) × (Nat → Int32) × (Nat → Int32)} (hf : X7_wrong x_play_w x_play_h x_play_hands x_play_rules x_play_pressRow x_play_leftFrom x_play_leftTo x_lines_waits x_lines_lostRow x_truth_ready x_truth_rows x_glassTrack_rows x_board_now x_presses p1 p2 p3 = some out) : ctI l yX7_wrong wsX7_wrong 6 143 D cy t [.ref (o_t 0), .int p1, .int p2, .int p3] (wd_X7_wrong cy o_t o_t_play o_t_lines o_t_truth o_t_glassTrack o_t_board o_t_otherBoard o_t_fog o_t_crowd o_t_deal x_play_w x_play_h x_play_hands x_play_rules x_play_pressRow x_play_leftFrom x_play_leftTo x_lines_waits x_lines_lostRow x_truth_ready x_truth_rows x_glassTrack_ready x_glassTrack_rows x_board_now x_presses) (wd_X7_wrong cy o_t o_t_play o_t_lines o_t_truth o_t_glassTrack o_t_board o_t_otherBoard o_t_fog o_t_crowd o_t_deal x_play_w x_play_h x_play_hands x_play_rules x_play_pressRow x_play_leftFrom x_play_leftTo x_lines_waits x_lines_lostRow out.2.1 out.2.2.1 x_glassTrack_ready out.2.2.2.1 out.2.2.2.2.1 out.2.2.2.2.2) out.1 := by
  refine ⟨rfl, ?_⟩
  intro sz
  refine Met.ofW (cc := cX7_wrong) (maxL := 8) (ret := (some .int)) (by decide) rfl ?_
  intro p e s m args below meth c s₁ B hml hv
  obtain ⟨rfl, hsz, hP, hK, hD0, hE⟩ := hv
  have hts := atoms_spec (ws := wsX7_wrong) B.pre
  have hown : s.vm.findClass RX7 = some m.cls := findClass_of_methodNamed B.named
  have hlocks := B.notSynchronized
  subst hsz
  have hD := hD0.self (sz := s.heap.size)
  have hl := lv_entry ([.ref (o_t 0), .int p1, .int p2, .int p3]) (n := 8) (Nat.le_of_ble_eq_true rfl)
  rw [lg_entry_eq]
  generalize (lg_sl ([.ref (o_t 0), .int p1, .int p2, .int p3]) ++ List.replicate (8 - (lg_sl ([.ref (o_t 0), .int p1, .int p2, .int p3])).length) Slot.unset).toArray = ls at hl ⊢
  exact w_X7_wrong D cy t o_t o_t_play o_t_lines o_t_truth o_t_glassTrack o_t_board o_t_otherBoard o_t_fog o_t_crowd o_t_deal x_play_w x_play_h x_play_hands x_play_rules x_play_pressRow x_play_leftFrom x_play_leftTo x_lines_waits x_lines_lostRow x_truth_ready x_truth_rows x_glassTrack_ready x_glassTrack_rows x_board_now x_presses p1 p2 p3 hf B.exec B.bytes hml hown hts hK hE (fun q h => Or.inr h) hP hD va_S.rf hl (fun H locs ls pc hP hD hS hdg => W.iret B.exec B.bytes B.returns (fun t ht hW => ⟨⟨_, (), rfl, rfl, ctB_of ht hP⟩, hS.F ht⟩) hS.2.2 hdg)

noncomputable def X7_price (x_play_hands : Int32) (x_play_rules : Nat → Int32) (x_play_pressRow : Nat → Int32) (x_play_leftFrom : Nat → Int32) (x_play_leftTo : Nat → Int32) (x_lines_waits : Nat → Int32) (x_lines_lostRow : Nat → Int32) (p1 : Int32) (p2 : Int32) : Option (Int32) :=
  if p1 < (0 : Int32) then (some (-2 : Int32)) else (if p1 ≤ (9 : Int32) then (bd (X7_isTick p2) fun r14 => if r14 = (0 : Int32) then (some (-1 : Int32)) else (bd (X7_costOf x_play_hands x_play_rules x_play_pressRow x_play_leftFrom x_play_leftTo x_lines_waits x_lines_lostRow p1 p2) fun r25 => some r25)) else (some (-2 : Int32)))
abbrev wd_X7_price (cy : Nat → ClassId) (o_t o_t_play o_t_lines o_t_truth o_t_glassTrack o_t_board o_t_otherBoard o_t_fog o_t_crowd o_t_deal : Nat → Nat) (x_play_w : Int32) (x_play_h : Int32) (x_play_hands : Int32) (x_play_rules : Nat → Int32) (x_play_pressRow : Nat → Int32) (x_play_leftFrom : Nat → Int32) (x_play_leftTo : Nat → Int32) (x_lines_waits : Nat → Int32) (x_lines_lostRow : Nat → Int32) : va_W := [(o_t 0, .inr (7, [.ref (o_t_play 0), .ref (o_t_lines 0), .ref (o_t_truth 0), .ref (o_t_glassTrack 0), .ref (o_t_board 0), .ref (o_t_otherBoard 0), .ref (o_t 7), .ref (o_t_fog 0), .ref (o_t_crowd 0), .ref (o_t_deal 0), .ref (o_t 11), .ref (o_t 12)])), (o_t_play 0, .inr (5, [.int x_play_w, .int x_play_h, .int x_play_hands, .ref (o_t_play 4), .ref (o_t_play 5), .ref (o_t_play 6), .ref (o_t_play 7)])), (o_t_play 4, .inl (cy 0, 7, .inl x_play_rules)), (o_t_play 5, .inl (cy 0, 600, .inl x_play_pressRow)), (o_t_play 6, .inl (cy 0, 6, .inl x_play_leftFrom)), (o_t_play 7, .inl (cy 0, 6, .inl x_play_leftTo)), (o_t_lines 0, .inr (4, [.ref (o_t_play 0), .ref (o_t_lines 2), .ref (o_t_lines 3)])), (o_t_lines 2, .inl (cy 0, 36, .inl x_lines_waits)), (o_t_lines 3, .inl (cy 1, 600, .inl x_lines_lostRow))]
set_option maxHeartbeats 4000000 in
set_option maxRecDepth 100000 in
theorem w_X7_price {p : Program} {l : Launch} {e : Env} {s : State} {m : MethodId} {args : Array Value} {below : List Frame} {meth : Method} {c : Code} {Q : State → Prop} {A : Nat → Prop} {H : Heap} {locs : List Loc} {ls : Array Slot} (D : va_G) (cy : Nat → ClassId) (t : Nat → Nat) (o_t o_t_play o_t_lines o_t_truth o_t_glassTrack o_t_board o_t_otherBoard o_t_fog o_t_crowd o_t_deal : Nat → Nat) (x_play_w : Int32) (x_play_h : Int32) (x_play_hands : Int32) (x_play_rules : Nat → Int32) (x_play_pressRow : Nat → Int32) (x_play_leftFrom : Nat → Int32) (x_play_leftTo : Nat → Int32) (x_lines_waits : Nat → Int32) (x_lines_lostRow : Nat → Int32) (p1 : Int32) (p2 : Int32) {out : Int32} (hf : X7_price x_play_hands x_play_rules x_play_pressRow x_play_leftFrom x_play_leftTo x_lines_waits x_lines_lostRow p1 p2 = some out) (hx : p.tables.exec = Jvm.exec) (hb : c.code = cX7_price) (hml : c.maxLocals = 3) (hown : s.vm.findClass RX7 = some m.cls) (hts : ∀ w ∈ wsX7_price, w.before args s = true) (hK : va_K D vwCl (TYS cy) s) (hE : EV t A s s.heap) (hA : ∀ q, s.heap.size ≤ q → A q) (hP : va_P D vwCl (wd_X7_price cy o_t o_t_play o_t_lines o_t_truth o_t_glassTrack o_t_board o_t_otherBoard o_t_fog o_t_crowd o_t_deal x_play_w x_play_h x_play_hands x_play_rules x_play_pressRow x_play_leftFrom x_play_leftTo x_lines_waits x_lines_lostRow) H) (hD : va_D A (wd_X7_price cy o_t o_t_play o_t_lines o_t_truth o_t_glassTrack o_t_board o_t_otherBoard o_t_fog o_t_crowd o_t_deal x_play_w x_play_h x_play_hands x_play_rules x_play_pressRow x_play_leftFrom x_play_leftTo x_lines_waits x_lines_lostRow)) (hS : va_S A s.heap H locs) (hl : lv_has ls 3 [(0, .ref (o_t 0)), (1, .int p1), (2, .int p2)]) (hR : ∀ (H : Heap) (locs : List Loc) (ls : Array Slot) (pc : Nat), va_P D vwCl (wd_X7_price cy o_t o_t_play o_t_lines o_t_truth o_t_glassTrack o_t_board o_t_otherBoard o_t_fog o_t_crowd o_t_deal x_play_w x_play_h x_play_hands x_play_rules x_play_pressRow x_play_leftFrom x_play_leftTo x_lines_waits x_lines_lostRow) H → va_D A (wd_X7_price cy o_t o_t_play o_t_lines o_t_truth o_t_glassTrack o_t_board o_t_otherBoard o_t_fog o_t_crowd o_t_deal x_play_w x_play_h x_play_hands x_play_rules x_play_pressRow x_play_leftFrom x_play_leftTo x_lines_waits x_lines_lostRow) → va_S A s.heap H locs → decode cX7_price pc = .ok (.ireturn, 1) → W p l e (rmm 6 155) s m args below meth c H locs 0 0 Q (F0 m pc ls [.int out])) : W p l e (rmm 6 155) s m args below meth c H locs 0 0 Q (F0 m 0 ls []) := by
  rw [X7_price] at hf
  refine lv_iload_n hx hb dX7_price_0 rfl (lv_at hl 1 rfl) ?_
  refine lv_if_lt (tgt := 10) hx hb dX7_price_1 (by decide) (fun c1 => ?_) (fun c1 => ?_)
  · have hf := ifp c1 hf
    refine lv_bipush (v := (-2 : Int32)) hx hb dX7_price_10 (by decide) ?_
    obtain rfl := Option.some.inj hf
    exact hR _ _ _ _ hP hD hS dX7_price_12
  · have hf := ifn c1 hf
    refine lv_iload_n hx hb dX7_price_4 rfl (lv_at hl 1 rfl) ?_
    refine lv_bipush (v := (9 : Int32)) hx hb dX7_price_5 (by decide) ?_
    refine lv_icmp_le (tgt := 13) hx hb dX7_price_7 (by decide) (fun c7 => ?_) (fun c7 => ?_)
    · have hf := ifp c7 hf
      refine lv_iload_n hx hb dX7_price_13 rfl (lv_at hl 2 rfl) ?_
      obtain ⟨r14, hr14, hf⟩ := bd_s hf
      refine my_Si (WS2 := (wd_X7_price cy o_t o_t_play o_t_lines o_t_truth o_t_glassTrack o_t_board o_t_otherBoard o_t_fog o_t_crowd o_t_deal x_play_w x_play_h x_play_hands x_play_rules x_play_pressRow x_play_leftFrom x_play_leftTo x_lines_waits x_lines_lostRow)) ⟨hx, hb, hml, hown, hts⟩ (c_X7_isTick l D cy t p2 hr14) (va_cwS 1 hts gX7_price_X7_isTick rfl rfl rfl hd_X7_isTick ⟨Nat.le_of_ble_eq_true rfl, Nat.le_of_ble_eq_true rfl⟩) hK hE hP hD hS hA [] 9 rfl rfl (by decide +kernel) rfl rfl hl.1 rfl (Nat.le_of_ble_eq_true rfl) dX7_price_14 ⟨Nat.le_of_ble_eq_true rfl, Nat.le_of_ble_eq_true rfl⟩ (fun H locs hP hD hS => ?_)
      refine lv_if_ne (tgt := 22) hx hb dX7_price_17 (by decide) (fun c17 => ?_) (fun c17 => ?_)
      · have hf := ifn c17 hf
        refine lv_aload_n hx hb dX7_price_22 rfl (lv_at hl 0 rfl) ?_
        refine lv_iload_n hx hb dX7_price_23 rfl (lv_at hl 1 rfl) ?_
        refine lv_iload_n hx hb dX7_price_24 rfl (lv_at hl 2 rfl) ?_
        obtain ⟨r25, hr25, hf⟩ := bd_s hf
        refine my_Vi (WS2 := (wd_X7_price cy o_t o_t_play o_t_lines o_t_truth o_t_glassTrack o_t_board o_t_otherBoard o_t_fog o_t_crowd o_t_deal x_play_w x_play_h x_play_hands x_play_rules x_play_pressRow x_play_leftFrom x_play_leftTo x_lines_waits x_lines_lostRow)) ⟨hx, hb, hml, hown, hts⟩ (c_X7_costOf l D cy t o_t o_t_play o_t_lines o_t_truth o_t_glassTrack o_t_board o_t_otherBoard o_t_fog o_t_crowd o_t_deal x_play_w x_play_h x_play_hands x_play_rules x_play_pressRow x_play_leftFrom x_play_leftTo x_lines_waits x_lines_lostRow p1 p2 hr25) (cwV 2 hts gX7_price_X7_costOf rfl rfl rfl ⟨rfl, hd_X7_costOf⟩ ⟨Nat.le_of_ble_eq_true rfl, Nat.le_of_ble_eq_true rfl⟩) hK hE hP hD hS hA [0, 1, 2, 3, 4, 5, 6, 7, 8] 9 7 0 rfl rfl rfl rfl (by decide +kernel) rfl rfl hl.1 rfl (Nat.le_of_ble_eq_true rfl) dX7_price_25 ⟨Nat.le_of_ble_eq_true rfl, Nat.le_of_ble_eq_true rfl⟩ (fun H locs hP hD hS => ?_)
        obtain rfl := Option.some.inj hf
        exact hR _ _ _ _ hP hD hS dX7_price_28
      · have hf := ifp c17 hf
        refine lv_iconst (v := (-1 : Int32)) hx hb dX7_price_20 (by decide) ?_
        obtain rfl := Option.some.inj hf
        exact hR _ _ _ _ hP hD hS dX7_price_21
    · have hf := ifn c7 hf
      refine lv_bipush (v := (-2 : Int32)) hx hb dX7_price_10 (by decide) ?_
      obtain rfl := Option.some.inj hf
      exact hR _ _ _ _ hP hD hS dX7_price_12
theorem hd_X7_price : yX7_price.cls ≠ "java/lang/invoke/MethodHandle" ∧ yX7_price.cls ≠ "java/lang/invoke/VarHandle" ∧ (parseMethodDescriptor yX7_price.desc).map (fun d => d.parameters.length) = some 2 := by decide +kernel
set_option maxRecDepth 100000 in
theorem c_X7_price (l : Launch) (D : va_G) (cy : Nat → ClassId) (t : Nat → Nat) (o_t o_t_play o_t_lines o_t_truth o_t_glassTrack o_t_board o_t_otherBoard o_t_fog o_t_crowd o_t_deal : Nat → Nat) (x_play_w : Int32) (x_play_h : Int32) (x_play_hands : Int32) (x_play_rules : Nat → Int32) (x_play_pressRow : Nat → Int32) (x_play_leftFrom : Nat → Int32) (x_play_leftTo : Nat → Int32) (x_lines_waits : Nat → Int32) (x_lines_lostRow : Nat → Int32) (p1 : Int32) (p2 : Int32) {out : Int32} (hf : X7_price x_play_hands x_play_rules x_play_pressRow x_play_leftFrom x_play_leftTo x_lines_waits x_lines_lostRow p1 p2 = some out) : ctI l yX7_price wsX7_price 6 155 D cy t [.ref (o_t 0), .int p1, .int p2] (wd_X7_price cy o_t o_t_play o_t_lines o_t_truth o_t_glassTrack o_t_board o_t_otherBoard o_t_fog o_t_crowd o_t_deal x_play_w x_play_h x_play_hands x_play_rules x_play_pressRow x_play_leftFrom x_play_leftTo x_lines_waits x_lines_lostRow) (wd_X7_price cy o_t o_t_play o_t_lines o_t_truth o_t_glassTrack o_t_board o_t_otherBoard o_t_fog o_t_crowd o_t_deal x_play_w x_play_h x_play_hands x_play_rules x_play_pressRow x_play_leftFrom x_play_leftTo x_lines_waits x_lines_lostRow) out := by
  refine ⟨rfl, ?_⟩
  intro sz
  refine Met.ofW (cc := cX7_price) (maxL := 3) (ret := (some .int)) (by decide) rfl ?_
  intro p e s m args below meth c s₁ B hml hv
  obtain ⟨rfl, hsz, hP, hK, hD0, hE⟩ := hv
  have hts := atoms_spec (ws := wsX7_price) B.pre
  have hown : s.vm.findClass RX7 = some m.cls := findClass_of_methodNamed B.named
  have hlocks := B.notSynchronized
  subst hsz
  have hD := hD0.self (sz := s.heap.size)
  have hl := lv_entry ([.ref (o_t 0), .int p1, .int p2]) (n := 3) (Nat.le_of_ble_eq_true rfl)
  rw [lg_entry_eq]
  generalize (lg_sl ([.ref (o_t 0), .int p1, .int p2]) ++ List.replicate (3 - (lg_sl ([.ref (o_t 0), .int p1, .int p2])).length) Slot.unset).toArray = ls at hl ⊢
  exact w_X7_price D cy t o_t o_t_play o_t_lines o_t_truth o_t_glassTrack o_t_board o_t_otherBoard o_t_fog o_t_crowd o_t_deal x_play_w x_play_h x_play_hands x_play_rules x_play_pressRow x_play_leftFrom x_play_leftTo x_lines_waits x_lines_lostRow p1 p2 hf B.exec B.bytes hml hown hts hK hE (fun q h => Or.inr h) hP hD va_S.rf hl (fun H locs ls pc hP hD hS hdg => W.iret B.exec B.bytes B.returns (fun t ht hW => ⟨⟨_, (), rfl, rfl, ctB_of ht hP⟩, hS.F ht⟩) hS.2.2 hdg)

noncomputable def X7_best_J49 (x_play_hands : Int32) (x_play_rules : Nat → Int32) (x_play_pressRow : Nat → Int32) (x_play_leftFrom : Nat → Int32) (x_play_leftTo : Nat → Int32) (x_lines_waits : Nat → Int32) (x_lines_lostRow : Nat → Int32) (rec21 : Int32 → Int32 → Int32 → Int32 → Option (Int32)) (l1 : Int32) (l2 : Int32) (l3 : Int32) (l4 : Int32) : Option (Int32) :=
  nm (l4 + (1 : Int32)) fun v49 => rec21  l1 l2 l3 v49
noncomputable def X7_best_L21_B (x_play_hands : Int32) (x_play_rules : Nat → Int32) (x_play_pressRow : Nat → Int32) (x_play_leftFrom : Nat → Int32) (x_play_leftTo : Nat → Int32) (x_lines_waits : Nat → Int32) (x_lines_lostRow : Nat → Int32) (rec21 : Int32 → Int32 → Int32 → Int32 → Option (Int32)) (l1 : Int32) (l2 : Int32) (l3 : Int32) (l4 : Int32) : Option (Int32) :=
  if (9 : Int32) < l4 then (some l2) else (bd (X7_costOf x_play_hands x_play_rules x_play_pressRow x_play_leftFrom x_play_leftTo x_lines_waits x_lines_lostRow l4 l1) fun r32 => if l3 ≤ r32 then (X7_best_J49 x_play_hands x_play_rules x_play_pressRow x_play_leftFrom x_play_leftTo x_lines_waits x_lines_lostRow rec21  l1 l2 l3 l4) else (X7_best_J49 x_play_hands x_play_rules x_play_pressRow x_play_leftFrom x_play_leftTo x_lines_waits x_lines_lostRow rec21  l1 l4 r32 l4))
noncomputable def X7_best_L21 (x_play_hands : Int32) (x_play_rules : Nat → Int32) (x_play_pressRow : Nat → Int32) (x_play_leftFrom : Nat → Int32) (x_play_leftTo : Nat → Int32) (x_lines_waits : Nat → Int32) (x_lines_lostRow : Nat → Int32) : Nat → Int32 → Int32 → Int32 → Int32 → Option (Int32)
  | 0, _, _, _, _ => none
  | n + 1, y0, y1, y2, y3 => X7_best_L21_B x_play_hands x_play_rules x_play_pressRow x_play_leftFrom x_play_leftTo x_lines_waits x_lines_lostRow  (X7_best_L21 x_play_hands x_play_rules x_play_pressRow x_play_leftFrom x_play_leftTo x_lines_waits x_lines_lostRow  n) y0 y1 y2 y3
noncomputable def X7_best (x_play_hands : Int32) (x_play_rules : Nat → Int32) (x_play_pressRow : Nat → Int32) (x_play_leftFrom : Nat → Int32) (x_play_leftTo : Nat → Int32) (x_lines_waits : Nat → Int32) (x_lines_lostRow : Nat → Int32) (p1 : Int32) : Option (Int32) :=
  bd (X7_isTick p1) fun r1 => if r1 = (0 : Int32) then (some (-1 : Int32)) else (bd (X7_costOf x_play_hands x_play_rules x_play_pressRow x_play_leftFrom x_play_leftTo x_lines_waits x_lines_lostRow (0 : Int32) p1) fun r14 => X7_best_L21 x_play_hands x_play_rules x_play_pressRow x_play_leftFrom x_play_leftTo x_lines_waits x_lines_lostRow  FU  p1 (0 : Int32) r14 (1 : Int32))
abbrev wd_X7_best (cy : Nat → ClassId) (o_t o_t_play o_t_lines o_t_truth o_t_glassTrack o_t_board o_t_otherBoard o_t_fog o_t_crowd o_t_deal : Nat → Nat) (x_play_w : Int32) (x_play_h : Int32) (x_play_hands : Int32) (x_play_rules : Nat → Int32) (x_play_pressRow : Nat → Int32) (x_play_leftFrom : Nat → Int32) (x_play_leftTo : Nat → Int32) (x_lines_waits : Nat → Int32) (x_lines_lostRow : Nat → Int32) : va_W := [(o_t 0, .inr (7, [.ref (o_t_play 0), .ref (o_t_lines 0), .ref (o_t_truth 0), .ref (o_t_glassTrack 0), .ref (o_t_board 0), .ref (o_t_otherBoard 0), .ref (o_t 7), .ref (o_t_fog 0), .ref (o_t_crowd 0), .ref (o_t_deal 0), .ref (o_t 11), .ref (o_t 12)])), (o_t_play 0, .inr (5, [.int x_play_w, .int x_play_h, .int x_play_hands, .ref (o_t_play 4), .ref (o_t_play 5), .ref (o_t_play 6), .ref (o_t_play 7)])), (o_t_play 4, .inl (cy 0, 7, .inl x_play_rules)), (o_t_play 5, .inl (cy 0, 600, .inl x_play_pressRow)), (o_t_play 6, .inl (cy 0, 6, .inl x_play_leftFrom)), (o_t_play 7, .inl (cy 0, 6, .inl x_play_leftTo)), (o_t_lines 0, .inr (4, [.ref (o_t_play 0), .ref (o_t_lines 2), .ref (o_t_lines 3)])), (o_t_lines 2, .inl (cy 0, 36, .inl x_lines_waits)), (o_t_lines 3, .inl (cy 1, 600, .inl x_lines_lostRow))]
set_option maxHeartbeats 4000000 in
set_option maxRecDepth 100000 in
theorem w_X7_best {p : Program} {l : Launch} {e : Env} {s : State} {m : MethodId} {args : Array Value} {below : List Frame} {meth : Method} {c : Code} {Q : State → Prop} {A : Nat → Prop} {H : Heap} {locs : List Loc} {ls : Array Slot} (D : va_G) (cy : Nat → ClassId) (t : Nat → Nat) (o_t o_t_play o_t_lines o_t_truth o_t_glassTrack o_t_board o_t_otherBoard o_t_fog o_t_crowd o_t_deal : Nat → Nat) (x_play_w : Int32) (x_play_h : Int32) (x_play_hands : Int32) (x_play_rules : Nat → Int32) (x_play_pressRow : Nat → Int32) (x_play_leftFrom : Nat → Int32) (x_play_leftTo : Nat → Int32) (x_lines_waits : Nat → Int32) (x_lines_lostRow : Nat → Int32) (p1 : Int32) {out : Int32} (hf : X7_best x_play_hands x_play_rules x_play_pressRow x_play_leftFrom x_play_leftTo x_lines_waits x_lines_lostRow p1 = some out) (hx : p.tables.exec = Jvm.exec) (hb : c.code = cX7_best) (hml : c.maxLocals = 6) (hown : s.vm.findClass RX7 = some m.cls) (hts : ∀ w ∈ wsX7_best, w.before args s = true) (hK : va_K D vwCl (TYS cy) s) (hE : EV t A s s.heap) (hA : ∀ q, s.heap.size ≤ q → A q) (hP : va_P D vwCl (wd_X7_best cy o_t o_t_play o_t_lines o_t_truth o_t_glassTrack o_t_board o_t_otherBoard o_t_fog o_t_crowd o_t_deal x_play_w x_play_h x_play_hands x_play_rules x_play_pressRow x_play_leftFrom x_play_leftTo x_lines_waits x_lines_lostRow) H) (hD : va_D A (wd_X7_best cy o_t o_t_play o_t_lines o_t_truth o_t_glassTrack o_t_board o_t_otherBoard o_t_fog o_t_crowd o_t_deal x_play_w x_play_h x_play_hands x_play_rules x_play_pressRow x_play_leftFrom x_play_leftTo x_lines_waits x_lines_lostRow)) (hS : va_S A s.heap H locs) (hl : lv_has ls 6 [(0, .ref (o_t 0)), (1, .int p1)]) (hR : ∀ (H : Heap) (locs : List Loc) (ls : Array Slot) (pc : Nat), va_P D vwCl (wd_X7_best cy o_t o_t_play o_t_lines o_t_truth o_t_glassTrack o_t_board o_t_otherBoard o_t_fog o_t_crowd o_t_deal x_play_w x_play_h x_play_hands x_play_rules x_play_pressRow x_play_leftFrom x_play_leftTo x_lines_waits x_lines_lostRow) H → va_D A (wd_X7_best cy o_t o_t_play o_t_lines o_t_truth o_t_glassTrack o_t_board o_t_otherBoard o_t_fog o_t_crowd o_t_deal x_play_w x_play_h x_play_hands x_play_rules x_play_pressRow x_play_leftFrom x_play_leftTo x_lines_waits x_lines_lostRow) → va_S A s.heap H locs → decode cX7_best pc = .ok (.ireturn, 1) → W p l e (rmm 6 155) s m args below meth c H locs 0 0 Q (F0 m pc ls [.int out])) : W p l e (rmm 6 155) s m args below meth c H locs 0 0 Q (F0 m 0 ls []) := by
  rw [X7_best] at hf
  refine lv_iload_n hx hb dX7_best_0 rfl (lv_at hl 1 rfl) ?_
  obtain ⟨r1, hr1, hf⟩ := bd_s hf
  refine my_Si (WS2 := (wd_X7_best cy o_t o_t_play o_t_lines o_t_truth o_t_glassTrack o_t_board o_t_otherBoard o_t_fog o_t_crowd o_t_deal x_play_w x_play_h x_play_hands x_play_rules x_play_pressRow x_play_leftFrom x_play_leftTo x_lines_waits x_lines_lostRow)) ⟨hx, hb, hml, hown, hts⟩ (c_X7_isTick l D cy t p1 hr1) (va_cwS 1 hts gX7_best_X7_isTick rfl rfl rfl hd_X7_isTick ⟨Nat.le_of_ble_eq_true rfl, Nat.le_of_ble_eq_true rfl⟩) hK hE hP hD hS hA [] 9 rfl rfl (by decide +kernel) rfl rfl hl.1 rfl (Nat.le_of_ble_eq_true rfl) dX7_best_1 ⟨Nat.le_of_ble_eq_true rfl, Nat.le_of_ble_eq_true rfl⟩ (fun H locs hP hD hS => ?_)
  refine lv_if_ne (tgt := 9) hx hb dX7_best_4 (by decide) (fun c4 => ?_) (fun c4 => ?_)
  · have hf := ifn c4 hf
    have h21 : ∀ (n21 : Nat) (l1 : Int32) (l2 : Int32) (l3 : Int32) (l4 : Int32) (H : Heap) (locs : List Loc) (ls : Array Slot), X7_best_L21 x_play_hands x_play_rules x_play_pressRow x_play_leftFrom x_play_leftTo x_lines_waits x_lines_lostRow n21 l1 l2 l3 l4 = some out → va_P D vwCl (wd_X7_best cy o_t o_t_play o_t_lines o_t_truth o_t_glassTrack o_t_board o_t_otherBoard o_t_fog o_t_crowd o_t_deal x_play_w x_play_h x_play_hands x_play_rules x_play_pressRow x_play_leftFrom x_play_leftTo x_lines_waits x_lines_lostRow) H → va_D A (wd_X7_best cy o_t o_t_play o_t_lines o_t_truth o_t_glassTrack o_t_board o_t_otherBoard o_t_fog o_t_crowd o_t_deal x_play_w x_play_h x_play_hands x_play_rules x_play_pressRow x_play_leftFrom x_play_leftTo x_lines_waits x_lines_lostRow) → va_S A s.heap H locs → lv_has ls 6 [(0, .ref (o_t 0)), (1, .int l1), (2, .int l2), (3, .int l3), (4, .int l4)] → W p l e (rmm 6 155) s m args below meth c H locs 0 0 Q (F0 m 21 ls []) := by
      intro n21
      induction n21 with
      | zero =>
        intro _ _ _ _ _ _ _ hf
        exact nomatch (show (none : Option _) = some out from hf)
      | succ n21 ih21 =>
        intro l1 l2 l3 l4 H locs ls hf hP hD hS hl
        have hf : X7_best_L21_B x_play_hands x_play_rules x_play_pressRow x_play_leftFrom x_play_leftTo x_lines_waits x_lines_lostRow (X7_best_L21 x_play_hands x_play_rules x_play_pressRow x_play_leftFrom x_play_leftTo x_lines_waits x_lines_lostRow n21) l1 l2 l3 l4 = some out := hf
        rw [X7_best_L21_B] at hf
        refine lv_iload hx hb dX7_best_21 (lv_at hl 4 rfl) ?_
        refine lv_bipush (v := (9 : Int32)) hx hb dX7_best_23 (by decide) ?_
        refine lv_icmp_gt (tgt := 55) hx hb dX7_best_25 (by decide) (fun c25 => ?_) (fun c25 => ?_)
        · have hf := ifp c25 hf
          refine lv_iload_n hx hb dX7_best_55 rfl (lv_at hl 2 rfl) ?_
          obtain rfl := Option.some.inj hf
          exact hR _ _ _ _ hP hD hS dX7_best_56
        · have hf := ifn c25 hf
          have h49 : ∀ (l1 : Int32) (l2 : Int32) (l3 : Int32) (l4 : Int32) (H : Heap) (locs : List Loc) (ls : Array Slot), X7_best_J49 x_play_hands x_play_rules x_play_pressRow x_play_leftFrom x_play_leftTo x_lines_waits x_lines_lostRow (X7_best_L21 x_play_hands x_play_rules x_play_pressRow x_play_leftFrom x_play_leftTo x_lines_waits x_lines_lostRow n21) l1 l2 l3 l4 = some out → va_P D vwCl (wd_X7_best cy o_t o_t_play o_t_lines o_t_truth o_t_glassTrack o_t_board o_t_otherBoard o_t_fog o_t_crowd o_t_deal x_play_w x_play_h x_play_hands x_play_rules x_play_pressRow x_play_leftFrom x_play_leftTo x_lines_waits x_lines_lostRow) H → va_D A (wd_X7_best cy o_t o_t_play o_t_lines o_t_truth o_t_glassTrack o_t_board o_t_otherBoard o_t_fog o_t_crowd o_t_deal x_play_w x_play_h x_play_hands x_play_rules x_play_pressRow x_play_leftFrom x_play_leftTo x_lines_waits x_lines_lostRow) → va_S A s.heap H locs → lv_has ls 6 [(0, .ref (o_t 0)), (1, .int l1), (2, .int l2), (3, .int l3), (4, .int l4)] → W p l e (rmm 6 155) s m args below meth c H locs 0 0 Q (F0 m 49 ls []) := by
            intro l1 l2 l3 l4 H locs ls hf hP hD hS hl
            rw [X7_best_J49] at hf
            obtain ⟨v49, ev49, hf⟩ := nm_s hf
            refine lv_iinc (v := v49) (lv' := [(4, .int v49), (0, .ref (o_t 0)), (1, .int l1), (2, .int l2), (3, .int l3)]) hx hb dX7_best_49 hl (k := 4) rfl (by rw [ev49]; rfl) (by decide) rfl (fun ls hl => ?_)
            refine lv_goto (tgt := 21) hx hb dX7_best_52 (by decide) ?_
            exact ih21 _ _ _ _ _ _ _ hf hP hD hS (lv_sub hl [1, 2, 3, 4, 0] rfl)
          refine lv_aload_n hx hb dX7_best_28 rfl (lv_at hl 0 rfl) ?_
          refine lv_iload hx hb dX7_best_29 (lv_at hl 4 rfl) ?_
          refine lv_iload_n hx hb dX7_best_31 rfl (lv_at hl 1 rfl) ?_
          obtain ⟨r32, hr32, hf⟩ := bd_s hf
          refine my_Vi (WS2 := (wd_X7_best cy o_t o_t_play o_t_lines o_t_truth o_t_glassTrack o_t_board o_t_otherBoard o_t_fog o_t_crowd o_t_deal x_play_w x_play_h x_play_hands x_play_rules x_play_pressRow x_play_leftFrom x_play_leftTo x_lines_waits x_lines_lostRow)) ⟨hx, hb, hml, hown, hts⟩ (c_X7_costOf l D cy t o_t o_t_play o_t_lines o_t_truth o_t_glassTrack o_t_board o_t_otherBoard o_t_fog o_t_crowd o_t_deal x_play_w x_play_h x_play_hands x_play_rules x_play_pressRow x_play_leftFrom x_play_leftTo x_lines_waits x_lines_lostRow l4 l1 hr32) (cwV 2 hts gX7_best_X7_costOf rfl rfl rfl ⟨rfl, hd_X7_costOf⟩ ⟨Nat.le_of_ble_eq_true rfl, Nat.le_of_ble_eq_true rfl⟩) hK hE hP hD hS hA [0, 1, 2, 3, 4, 5, 6, 7, 8] 9 7 0 rfl rfl rfl rfl (by decide +kernel) rfl rfl hl.1 rfl (Nat.le_of_ble_eq_true rfl) dX7_best_32 ⟨Nat.le_of_ble_eq_true rfl, Nat.le_of_ble_eq_true rfl⟩ (fun H locs hP hD hS => ?_)
          refine lv_istore (lv' := [(5, .int r32), (0, .ref (o_t 0)), (1, .int l1), (2, .int l2), (3, .int l3), (4, .int l4)]) hx hb dX7_best_35 hl (by decide) rfl (fun ls hl => ?_)
          refine lv_iload hx hb dX7_best_37 (lv_at hl 0 rfl) ?_
          refine lv_iload_n hx hb dX7_best_39 rfl (lv_at hl 4 rfl) ?_
          refine lv_icmp_ge (tgt := 49) hx hb dX7_best_40 (by decide) (fun c40 => ?_) (fun c40 => ?_)
          · have hf := ifp c40 hf
            exact h49 _ _ _ _ _ _ _ hf hP hD hS (lv_sub hl [1, 2, 3, 4, 5] rfl)
          · have hf := ifn c40 hf
            refine lv_iload hx hb dX7_best_43 (lv_at hl 5 rfl) ?_
            refine lv_istore_n (lv' := [(2, .int l4), (5, .int r32), (0, .ref (o_t 0)), (1, .int l1), (3, .int l3), (4, .int l4)]) hx hb dX7_best_45 rfl hl (by decide) rfl (fun ls hl => ?_)
            refine lv_iload hx hb dX7_best_46 (lv_at hl 1 rfl) ?_
            refine lv_istore_n (lv' := [(3, .int r32), (2, .int l4), (5, .int r32), (0, .ref (o_t 0)), (1, .int l1), (4, .int l4)]) hx hb dX7_best_48 rfl hl (by decide) rfl (fun ls hl => ?_)
            exact h49 _ _ _ _ _ _ _ hf hP hD hS (lv_sub hl [3, 4, 1, 0, 5] rfl)
    refine lv_iconst (v := (0 : Int32)) hx hb dX7_best_9 (by decide) ?_
    refine lv_istore_n (lv' := [(2, .int (0 : Int32)), (0, .ref (o_t 0)), (1, .int p1)]) hx hb dX7_best_10 rfl hl (by decide) rfl (fun ls hl => ?_)
    refine lv_aload_n hx hb dX7_best_11 rfl (lv_at hl 1 rfl) ?_
    refine lv_iconst (v := (0 : Int32)) hx hb dX7_best_12 (by decide) ?_
    refine lv_iload_n hx hb dX7_best_13 rfl (lv_at hl 2 rfl) ?_
    obtain ⟨r14, hr14, hf⟩ := bd_s hf
    refine my_Vi (WS2 := (wd_X7_best cy o_t o_t_play o_t_lines o_t_truth o_t_glassTrack o_t_board o_t_otherBoard o_t_fog o_t_crowd o_t_deal x_play_w x_play_h x_play_hands x_play_rules x_play_pressRow x_play_leftFrom x_play_leftTo x_lines_waits x_lines_lostRow)) ⟨hx, hb, hml, hown, hts⟩ (c_X7_costOf l D cy t o_t o_t_play o_t_lines o_t_truth o_t_glassTrack o_t_board o_t_otherBoard o_t_fog o_t_crowd o_t_deal x_play_w x_play_h x_play_hands x_play_rules x_play_pressRow x_play_leftFrom x_play_leftTo x_lines_waits x_lines_lostRow (0 : Int32) p1 hr14) (cwV 2 hts gX7_best_X7_costOf rfl rfl rfl ⟨rfl, hd_X7_costOf⟩ ⟨Nat.le_of_ble_eq_true rfl, Nat.le_of_ble_eq_true rfl⟩) hK hE hP hD hS hA [0, 1, 2, 3, 4, 5, 6, 7, 8] 9 7 0 rfl rfl rfl rfl (by decide +kernel) rfl rfl hl.1 rfl (Nat.le_of_ble_eq_true rfl) dX7_best_14 ⟨Nat.le_of_ble_eq_true rfl, Nat.le_of_ble_eq_true rfl⟩ (fun H locs hP hD hS => ?_)
    refine lv_istore_n (lv' := [(3, .int r14), (2, .int (0 : Int32)), (0, .ref (o_t 0)), (1, .int p1)]) hx hb dX7_best_17 rfl hl (by decide) rfl (fun ls hl => ?_)
    refine lv_iconst (v := (1 : Int32)) hx hb dX7_best_18 (by decide) ?_
    refine lv_istore (lv' := [(4, .int (1 : Int32)), (3, .int r14), (2, .int (0 : Int32)), (0, .ref (o_t 0)), (1, .int p1)]) hx hb dX7_best_19 hl (by decide) rfl (fun ls hl => ?_)
    exact h21 FU _ _ _ _ _ _ _ hf hP hD hS (lv_sub hl [3, 4, 2, 1, 0] rfl)
  · have hf := ifp c4 hf
    refine lv_iconst (v := (-1 : Int32)) hx hb dX7_best_7 (by decide) ?_
    obtain rfl := Option.some.inj hf
    exact hR _ _ _ _ hP hD hS dX7_best_8
theorem hd_X7_best : yX7_best.cls ≠ "java/lang/invoke/MethodHandle" ∧ yX7_best.cls ≠ "java/lang/invoke/VarHandle" ∧ (parseMethodDescriptor yX7_best.desc).map (fun d => d.parameters.length) = some 1 := by decide +kernel
set_option maxRecDepth 100000 in
theorem c_X7_best (l : Launch) (D : va_G) (cy : Nat → ClassId) (t : Nat → Nat) (o_t o_t_play o_t_lines o_t_truth o_t_glassTrack o_t_board o_t_otherBoard o_t_fog o_t_crowd o_t_deal : Nat → Nat) (x_play_w : Int32) (x_play_h : Int32) (x_play_hands : Int32) (x_play_rules : Nat → Int32) (x_play_pressRow : Nat → Int32) (x_play_leftFrom : Nat → Int32) (x_play_leftTo : Nat → Int32) (x_lines_waits : Nat → Int32) (x_lines_lostRow : Nat → Int32) (p1 : Int32) {out : Int32} (hf : X7_best x_play_hands x_play_rules x_play_pressRow x_play_leftFrom x_play_leftTo x_lines_waits x_lines_lostRow p1 = some out) : ctI l yX7_best wsX7_best 6 155 D cy t [.ref (o_t 0), .int p1] (wd_X7_best cy o_t o_t_play o_t_lines o_t_truth o_t_glassTrack o_t_board o_t_otherBoard o_t_fog o_t_crowd o_t_deal x_play_w x_play_h x_play_hands x_play_rules x_play_pressRow x_play_leftFrom x_play_leftTo x_lines_waits x_lines_lostRow) (wd_X7_best cy o_t o_t_play o_t_lines o_t_truth o_t_glassTrack o_t_board o_t_otherBoard o_t_fog o_t_crowd o_t_deal x_play_w x_play_h x_play_hands x_play_rules x_play_pressRow x_play_leftFrom x_play_leftTo x_lines_waits x_lines_lostRow) out := by
  refine ⟨rfl, ?_⟩
  intro sz
  refine Met.ofW (cc := cX7_best) (maxL := 6) (ret := (some .int)) (by decide) rfl ?_
  intro p e s m args below meth c s₁ B hml hv
  obtain ⟨rfl, hsz, hP, hK, hD0, hE⟩ := hv
  have hts := atoms_spec (ws := wsX7_best) B.pre
  have hown : s.vm.findClass RX7 = some m.cls := findClass_of_methodNamed B.named
  have hlocks := B.notSynchronized
  subst hsz
  have hD := hD0.self (sz := s.heap.size)
  have hl := lv_entry ([.ref (o_t 0), .int p1]) (n := 6) (Nat.le_of_ble_eq_true rfl)
  rw [lg_entry_eq]
  generalize (lg_sl ([.ref (o_t 0), .int p1]) ++ List.replicate (6 - (lg_sl ([.ref (o_t 0), .int p1])).length) Slot.unset).toArray = ls at hl ⊢
  exact w_X7_best D cy t o_t o_t_play o_t_lines o_t_truth o_t_glassTrack o_t_board o_t_otherBoard o_t_fog o_t_crowd o_t_deal x_play_w x_play_h x_play_hands x_play_rules x_play_pressRow x_play_leftFrom x_play_leftTo x_lines_waits x_lines_lostRow p1 hf B.exec B.bytes hml hown hts hK hE (fun q h => Or.inr h) hP hD va_S.rf hl (fun H locs ls pc hP hD hS hdg => W.iret B.exec B.bytes B.returns (fun t ht hW => ⟨⟨_, (), rfl, rfl, ctB_of ht hP⟩, hS.F ht⟩) hS.2.2 hdg)

noncomputable def X7_sees (x_play_w : Int32) (x_play_h : Int32) (x_play_hands : Int32) (x_play_rules : Nat → Int32) (x_play_pressRow : Nat → Int32) (x_play_leftFrom : Nat → Int32) (x_play_leftTo : Nat → Int32) (x_truth_ready : Int32) (x_truth_rows : Nat → Int32) (x_board_now : Nat → Int32) (x_presses : Nat → Int32) (p1 : Int32) (p2 : Int32) (p3 : Int32) : Option (Int32 × Int32 × (Nat → Int32) × (Nat → Int32) × (Nat → Int32)) :=
  bd (X7_isHand x_play_hands p1) fun r2 => if r2 = (0 : Int32) then (some ((-1 : Int32), x_truth_ready, x_truth_rows, x_board_now, x_presses)) else (bd (X7_isHand x_play_hands p2) fun r10 => if r10 = (0 : Int32) then (some ((-1 : Int32), x_truth_ready, x_truth_rows, x_board_now, x_presses)) else (bd (X7_isTick p3) fun r17 => if r17 = (0 : Int32) then (some ((-1 : Int32), x_truth_ready, x_truth_rows, x_board_now, x_presses)) else (bd (X7_playTrulyTo x_play_w x_play_h x_play_hands x_play_rules x_play_pressRow x_play_leftFrom x_play_leftTo x_truth_ready x_truth_rows x_board_now x_presses p3) fun r27 => bd (X7_seesThen x_play_rules r27.2.1 p1 p2 p3) fun r34 => if r34 = (0 : Int32) then (some ((0 : Int32), r27.1, r27.2.1, r27.2.2.1, r27.2.2.2)) else (some ((1 : Int32), r27.1, r27.2.1, r27.2.2.1, r27.2.2.2)))))
abbrev wd_X7_sees (cy : Nat → ClassId) (o_t o_t_play o_t_lines o_t_truth o_t_glassTrack o_t_board o_t_otherBoard o_t_fog o_t_crowd o_t_deal : Nat → Nat) (x_play_w : Int32) (x_play_h : Int32) (x_play_hands : Int32) (x_play_rules : Nat → Int32) (x_play_pressRow : Nat → Int32) (x_play_leftFrom : Nat → Int32) (x_play_leftTo : Nat → Int32) (x_truth_ready : Int32) (x_truth_rows : Nat → Int32) (x_board_now : Nat → Int32) (x_presses : Nat → Int32) : va_W := [(o_t 0, .inr (7, [.ref (o_t_play 0), .ref (o_t_lines 0), .ref (o_t_truth 0), .ref (o_t_glassTrack 0), .ref (o_t_board 0), .ref (o_t_otherBoard 0), .ref (o_t 7), .ref (o_t_fog 0), .ref (o_t_crowd 0), .ref (o_t_deal 0), .ref (o_t 11), .ref (o_t 12)])), (o_t_play 0, .inr (5, [.int x_play_w, .int x_play_h, .int x_play_hands, .ref (o_t_play 4), .ref (o_t_play 5), .ref (o_t_play 6), .ref (o_t_play 7)])), (o_t_play 4, .inl (cy 0, 7, .inl x_play_rules)), (o_t_play 5, .inl (cy 0, 600, .inl x_play_pressRow)), (o_t_play 6, .inl (cy 0, 6, .inl x_play_leftFrom)), (o_t_play 7, .inl (cy 0, 6, .inl x_play_leftTo)), (o_t_truth 0, .inr (6, [.ref (o_t_truth 1), .int x_truth_ready])), (o_t_truth 1, .inl (cy 0, 1300, .inl x_truth_rows)), (o_t_board 0, .inr (0, [.ref (o_t_board 1)])), (o_t_board 1, .inl (cy 0, 13, .inl x_board_now)), (o_t 7, .inl (cy 0, 6, .inl x_presses))]
set_option maxHeartbeats 4000000 in
set_option maxRecDepth 100000 in
theorem w_X7_sees {p : Program} {l : Launch} {e : Env} {s : State} {m : MethodId} {args : Array Value} {below : List Frame} {meth : Method} {c : Code} {Q : State → Prop} {A : Nat → Prop} {H : Heap} {locs : List Loc} {ls : Array Slot} (D : va_G) (cy : Nat → ClassId) (t : Nat → Nat) (o_t o_t_play o_t_lines o_t_truth o_t_glassTrack o_t_board o_t_otherBoard o_t_fog o_t_crowd o_t_deal : Nat → Nat) (x_play_w : Int32) (x_play_h : Int32) (x_play_hands : Int32) (x_play_rules : Nat → Int32) (x_play_pressRow : Nat → Int32) (x_play_leftFrom : Nat → Int32) (x_play_leftTo : Nat → Int32) (x_truth_ready : Int32) (x_truth_rows : Nat → Int32) (x_board_now : Nat → Int32) (x_presses : Nat → Int32) (p1 : Int32) (p2 : Int32) (p3 : Int32) {out : Int32 × Int32 × (Nat → Int32) × (Nat → Int32) × (Nat → Int32)} (hf : X7_sees x_play_w x_play_h x_play_hands x_play_rules x_play_pressRow x_play_leftFrom x_play_leftTo x_truth_ready x_truth_rows x_board_now x_presses p1 p2 p3 = some out) (hx : p.tables.exec = Jvm.exec) (hb : c.code = cX7_sees) (hml : c.maxLocals = 4) (hown : s.vm.findClass RX7 = some m.cls) (hts : ∀ w ∈ wsX7_sees, w.before args s = true) (hK : va_K D vwCl (TYS cy) s) (hE : EV t A s s.heap) (hA : ∀ q, s.heap.size ≤ q → A q) (hP : va_P D vwCl (wd_X7_sees cy o_t o_t_play o_t_lines o_t_truth o_t_glassTrack o_t_board o_t_otherBoard o_t_fog o_t_crowd o_t_deal x_play_w x_play_h x_play_hands x_play_rules x_play_pressRow x_play_leftFrom x_play_leftTo x_truth_ready x_truth_rows x_board_now x_presses) H) (hD : va_D A (wd_X7_sees cy o_t o_t_play o_t_lines o_t_truth o_t_glassTrack o_t_board o_t_otherBoard o_t_fog o_t_crowd o_t_deal x_play_w x_play_h x_play_hands x_play_rules x_play_pressRow x_play_leftFrom x_play_leftTo x_truth_ready x_truth_rows x_board_now x_presses)) (hS : va_S A s.heap H locs) (hl : lv_has ls 4 [(0, .ref (o_t 0)), (1, .int p1), (2, .int p2), (3, .int p3)]) (hR : ∀ (H : Heap) (locs : List Loc) (ls : Array Slot) (pc : Nat), va_P D vwCl (wd_X7_sees cy o_t o_t_play o_t_lines o_t_truth o_t_glassTrack o_t_board o_t_otherBoard o_t_fog o_t_crowd o_t_deal x_play_w x_play_h x_play_hands x_play_rules x_play_pressRow x_play_leftFrom x_play_leftTo out.2.1 out.2.2.1 out.2.2.2.1 out.2.2.2.2) H → va_D A (wd_X7_sees cy o_t o_t_play o_t_lines o_t_truth o_t_glassTrack o_t_board o_t_otherBoard o_t_fog o_t_crowd o_t_deal x_play_w x_play_h x_play_hands x_play_rules x_play_pressRow x_play_leftFrom x_play_leftTo out.2.1 out.2.2.1 out.2.2.2.1 out.2.2.2.2) → va_S A s.heap H locs → decode cX7_sees pc = .ok (.ireturn, 1) → W p l e (rmm 6 141) s m args below meth c H locs 0 0 Q (F0 m pc ls [.int out.1])) : W p l e (rmm 6 141) s m args below meth c H locs 0 0 Q (F0 m 0 ls []) := by
  rw [X7_sees] at hf
  refine lv_aload_n hx hb dX7_sees_0 rfl (lv_at hl 0 rfl) ?_
  refine lv_iload_n hx hb dX7_sees_1 rfl (lv_at hl 1 rfl) ?_
  obtain ⟨r2, hr2, hf⟩ := bd_s hf
  refine my_Vi (WS2 := (wd_X7_sees cy o_t o_t_play o_t_lines o_t_truth o_t_glassTrack o_t_board o_t_otherBoard o_t_fog o_t_crowd o_t_deal x_play_w x_play_h x_play_hands x_play_rules x_play_pressRow x_play_leftFrom x_play_leftTo x_truth_ready x_truth_rows x_board_now x_presses)) ⟨hx, hb, hml, hown, hts⟩ (c_X7_isHand l D cy t o_t o_t_play o_t_lines o_t_truth o_t_glassTrack o_t_board o_t_otherBoard o_t_fog o_t_crowd o_t_deal x_play_w x_play_h x_play_hands p1 hr2) (cwV 1 hts gX7_sees_X7_isHand rfl rfl rfl ⟨rfl, hd_X7_isHand⟩ ⟨Nat.le_of_ble_eq_true rfl, Nat.le_of_ble_eq_true rfl⟩) hK hE hP hD hS hA [0, 1] 11 7 0 rfl rfl rfl rfl (by decide +kernel) rfl rfl hl.1 rfl (Nat.le_of_ble_eq_true rfl) dX7_sees_2 ⟨Nat.le_of_ble_eq_true rfl, Nat.le_of_ble_eq_true rfl⟩ (fun H locs hP hD hS => ?_)
  refine lv_if_eq (tgt := 23) hx hb dX7_sees_5 (by decide) (fun c5 => ?_) (fun c5 => ?_)
  · have hf := ifp c5 hf
    refine lv_iconst (v := (-1 : Int32)) hx hb dX7_sees_23 (by decide) ?_
    obtain rfl := Option.some.inj hf
    exact hR _ _ _ _ hP hD hS dX7_sees_24
  · have hf := ifn c5 hf
    refine lv_aload_n hx hb dX7_sees_8 rfl (lv_at hl 0 rfl) ?_
    refine lv_iload_n hx hb dX7_sees_9 rfl (lv_at hl 2 rfl) ?_
    obtain ⟨r10, hr10, hf⟩ := bd_s hf
    refine my_Vi (WS2 := (wd_X7_sees cy o_t o_t_play o_t_lines o_t_truth o_t_glassTrack o_t_board o_t_otherBoard o_t_fog o_t_crowd o_t_deal x_play_w x_play_h x_play_hands x_play_rules x_play_pressRow x_play_leftFrom x_play_leftTo x_truth_ready x_truth_rows x_board_now x_presses)) ⟨hx, hb, hml, hown, hts⟩ (c_X7_isHand l D cy t o_t o_t_play o_t_lines o_t_truth o_t_glassTrack o_t_board o_t_otherBoard o_t_fog o_t_crowd o_t_deal x_play_w x_play_h x_play_hands p2 hr10) (cwV 1 hts gX7_sees_X7_isHand rfl rfl rfl ⟨rfl, hd_X7_isHand⟩ ⟨Nat.le_of_ble_eq_true rfl, Nat.le_of_ble_eq_true rfl⟩) hK hE hP hD hS hA [0, 1] 11 7 0 rfl rfl rfl rfl (by decide +kernel) rfl rfl hl.1 rfl (Nat.le_of_ble_eq_true rfl) dX7_sees_10 ⟨Nat.le_of_ble_eq_true rfl, Nat.le_of_ble_eq_true rfl⟩ (fun H locs hP hD hS => ?_)
    refine lv_if_eq (tgt := 23) hx hb dX7_sees_13 (by decide) (fun c13 => ?_) (fun c13 => ?_)
    · have hf := ifp c13 hf
      refine lv_iconst (v := (-1 : Int32)) hx hb dX7_sees_23 (by decide) ?_
      obtain rfl := Option.some.inj hf
      exact hR _ _ _ _ hP hD hS dX7_sees_24
    · have hf := ifn c13 hf
      refine lv_iload_n hx hb dX7_sees_16 rfl (lv_at hl 3 rfl) ?_
      obtain ⟨r17, hr17, hf⟩ := bd_s hf
      refine my_Si (WS2 := (wd_X7_sees cy o_t o_t_play o_t_lines o_t_truth o_t_glassTrack o_t_board o_t_otherBoard o_t_fog o_t_crowd o_t_deal x_play_w x_play_h x_play_hands x_play_rules x_play_pressRow x_play_leftFrom x_play_leftTo x_truth_ready x_truth_rows x_board_now x_presses)) ⟨hx, hb, hml, hown, hts⟩ (c_X7_isTick l D cy t p3 hr17) (va_cwS 1 hts gX7_sees_X7_isTick rfl rfl rfl hd_X7_isTick ⟨Nat.le_of_ble_eq_true rfl, Nat.le_of_ble_eq_true rfl⟩) hK hE hP hD hS hA [] 11 rfl rfl (by decide +kernel) rfl rfl hl.1 rfl (Nat.le_of_ble_eq_true rfl) dX7_sees_17 ⟨Nat.le_of_ble_eq_true rfl, Nat.le_of_ble_eq_true rfl⟩ (fun H locs hP hD hS => ?_)
      refine lv_if_ne (tgt := 25) hx hb dX7_sees_20 (by decide) (fun c20 => ?_) (fun c20 => ?_)
      · have hf := ifn c20 hf
        refine lv_aload_n hx hb dX7_sees_25 rfl (lv_at hl 0 rfl) ?_
        refine lv_iload_n hx hb dX7_sees_26 rfl (lv_at hl 3 rfl) ?_
        obtain ⟨r27, hr27, hf⟩ := bd_s hf
        refine my_Vv (WS2 := (wd_X7_sees cy o_t o_t_play o_t_lines o_t_truth o_t_glassTrack o_t_board o_t_otherBoard o_t_fog o_t_crowd o_t_deal x_play_w x_play_h x_play_hands x_play_rules x_play_pressRow x_play_leftFrom x_play_leftTo r27.1 r27.2.1 r27.2.2.1 r27.2.2.2)) ⟨hx, hb, hml, hown, hts⟩ (c_X7_playTrulyTo l D cy t o_t o_t_play o_t_lines o_t_truth o_t_glassTrack o_t_board o_t_otherBoard o_t_fog o_t_crowd o_t_deal x_play_w x_play_h x_play_hands x_play_rules x_play_pressRow x_play_leftFrom x_play_leftTo x_truth_ready x_truth_rows x_board_now x_presses p3 hr27) (cwV 1 hts gX7_sees_X7_playTrulyTo rfl rfl rfl ⟨rfl, hd_X7_playTrulyTo⟩ ⟨Nat.le_of_ble_eq_true rfl, Nat.le_of_ble_eq_true rfl⟩) hK hE hP hD hS hA [0, 1, 2, 3, 4, 5, 6, 7, 8, 9, 10] 11 7 0 rfl rfl rfl rfl (by decide +kernel) rfl rfl hl.1 rfl (Nat.le_of_ble_eq_true rfl) dX7_sees_27 ⟨Nat.le_of_ble_eq_true rfl, Nat.le_of_ble_eq_true rfl⟩ (fun H locs hP hD hS => ?_)
        refine lv_aload_n hx hb dX7_sees_30 rfl (lv_at hl 0 rfl) ?_
        refine lv_iload_n hx hb dX7_sees_31 rfl (lv_at hl 1 rfl) ?_
        refine lv_iload_n hx hb dX7_sees_32 rfl (lv_at hl 2 rfl) ?_
        refine lv_iload_n hx hb dX7_sees_33 rfl (lv_at hl 3 rfl) ?_
        obtain ⟨r34, hr34, hf⟩ := bd_s hf
        refine my_Vi (WS2 := (wd_X7_sees cy o_t o_t_play o_t_lines o_t_truth o_t_glassTrack o_t_board o_t_otherBoard o_t_fog o_t_crowd o_t_deal x_play_w x_play_h x_play_hands x_play_rules x_play_pressRow x_play_leftFrom x_play_leftTo r27.1 r27.2.1 r27.2.2.1 r27.2.2.2)) ⟨hx, hb, hml, hown, hts⟩ (c_X7_seesThen l D cy t o_t o_t_play o_t_lines o_t_truth o_t_glassTrack o_t_board o_t_otherBoard o_t_fog o_t_crowd o_t_deal x_play_w x_play_h x_play_hands x_play_rules r27.1 r27.2.1 p1 p2 p3 hr34) (cwV 3 hts gX7_sees_X7_seesThen rfl rfl rfl ⟨rfl, hd_X7_seesThen⟩ ⟨Nat.le_of_ble_eq_true rfl, Nat.le_of_ble_eq_true rfl⟩) hK hE hP hD hS hA [0, 1, 2, 6, 7] 11 7 0 rfl rfl rfl rfl (by decide +kernel) rfl rfl hl.1 rfl (Nat.le_of_ble_eq_true rfl) dX7_sees_34 ⟨Nat.le_of_ble_eq_true rfl, Nat.le_of_ble_eq_true rfl⟩ (fun H locs hP hD hS => ?_)
        refine lv_if_eq (tgt := 44) hx hb dX7_sees_37 (by decide) (fun c37 => ?_) (fun c37 => ?_)
        · have hf := ifp c37 hf
          refine lv_iconst (v := (0 : Int32)) hx hb dX7_sees_44 (by decide) ?_
          obtain rfl := Option.some.inj hf
          exact hR _ _ _ _ hP hD hS dX7_sees_45
        · have hf := ifn c37 hf
          refine lv_iconst (v := (1 : Int32)) hx hb dX7_sees_40 (by decide) ?_
          refine lv_goto (tgt := 45) hx hb dX7_sees_41 (by decide) ?_
          obtain rfl := Option.some.inj hf
          exact hR _ _ _ _ hP hD hS dX7_sees_45
      · have hf := ifp c20 hf
        refine lv_iconst (v := (-1 : Int32)) hx hb dX7_sees_23 (by decide) ?_
        obtain rfl := Option.some.inj hf
        exact hR _ _ _ _ hP hD hS dX7_sees_24
theorem hd_X7_sees : yX7_sees.cls ≠ "java/lang/invoke/MethodHandle" ∧ yX7_sees.cls ≠ "java/lang/invoke/VarHandle" ∧ (parseMethodDescriptor yX7_sees.desc).map (fun d => d.parameters.length) = some 3 := by decide +kernel
set_option maxRecDepth 100000 in
theorem c_X7_sees (l : Launch) (D : va_G) (cy : Nat → ClassId) (t : Nat → Nat) (o_t o_t_play o_t_lines o_t_truth o_t_glassTrack o_t_board o_t_otherBoard o_t_fog o_t_crowd o_t_deal : Nat → Nat) (x_play_w : Int32) (x_play_h : Int32) (x_play_hands : Int32) (x_play_rules : Nat → Int32) (x_play_pressRow : Nat → Int32) (x_play_leftFrom : Nat → Int32) (x_play_leftTo : Nat → Int32) (x_truth_ready : Int32) (x_truth_rows : Nat → Int32) (x_board_now : Nat → Int32) (x_presses : Nat → Int32) (p1 : Int32) (p2 : Int32) (p3 : Int32) {out : Int32 × Int32 × (Nat → Int32) × (Nat → Int32) × (Nat → Int32)} (hf : X7_sees x_play_w x_play_h x_play_hands x_play_rules x_play_pressRow x_play_leftFrom x_play_leftTo x_truth_ready x_truth_rows x_board_now x_presses p1 p2 p3 = some out) : ctI l yX7_sees wsX7_sees 6 141 D cy t [.ref (o_t 0), .int p1, .int p2, .int p3] (wd_X7_sees cy o_t o_t_play o_t_lines o_t_truth o_t_glassTrack o_t_board o_t_otherBoard o_t_fog o_t_crowd o_t_deal x_play_w x_play_h x_play_hands x_play_rules x_play_pressRow x_play_leftFrom x_play_leftTo x_truth_ready x_truth_rows x_board_now x_presses) (wd_X7_sees cy o_t o_t_play o_t_lines o_t_truth o_t_glassTrack o_t_board o_t_otherBoard o_t_fog o_t_crowd o_t_deal x_play_w x_play_h x_play_hands x_play_rules x_play_pressRow x_play_leftFrom x_play_leftTo out.2.1 out.2.2.1 out.2.2.2.1 out.2.2.2.2) out.1 := by
  refine ⟨rfl, ?_⟩
  intro sz
  refine Met.ofW (cc := cX7_sees) (maxL := 4) (ret := (some .int)) (by decide) rfl ?_
  intro p e s m args below meth c s₁ B hml hv
  obtain ⟨rfl, hsz, hP, hK, hD0, hE⟩ := hv
  have hts := atoms_spec (ws := wsX7_sees) B.pre
  have hown : s.vm.findClass RX7 = some m.cls := findClass_of_methodNamed B.named
  have hlocks := B.notSynchronized
  subst hsz
  have hD := hD0.self (sz := s.heap.size)
  have hl := lv_entry ([.ref (o_t 0), .int p1, .int p2, .int p3]) (n := 4) (Nat.le_of_ble_eq_true rfl)
  rw [lg_entry_eq]
  generalize (lg_sl ([.ref (o_t 0), .int p1, .int p2, .int p3]) ++ List.replicate (4 - (lg_sl ([.ref (o_t 0), .int p1, .int p2, .int p3])).length) Slot.unset).toArray = ls at hl ⊢
  exact w_X7_sees D cy t o_t o_t_play o_t_lines o_t_truth o_t_glassTrack o_t_board o_t_otherBoard o_t_fog o_t_crowd o_t_deal x_play_w x_play_h x_play_hands x_play_rules x_play_pressRow x_play_leftFrom x_play_leftTo x_truth_ready x_truth_rows x_board_now x_presses p1 p2 p3 hf B.exec B.bytes hml hown hts hK hE (fun q h => Or.inr h) hP hD va_S.rf hl (fun H locs ls pc hP hD hS hdg => W.iret B.exec B.bytes B.returns (fun t ht hW => ⟨⟨_, (), rfl, rfl, ctB_of ht hP⟩, hS.F ht⟩) hS.2.2 hdg)

noncomputable def X7_could (x_play_w : Int32) (x_play_h : Int32) (x_play_hands : Int32) (x_play_rules : Nat → Int32) (x_play_pressRow : Nat → Int32) (x_play_leftFrom : Nat → Int32) (x_play_leftTo : Nat → Int32) (x_truth_ready : Int32) (x_truth_rows : Nat → Int32) (x_board_now : Nat → Int32) (x_presses : Nat → Int32) (x_fog_masks : Nat → Int32) (p1 : Int32) (p2 : Int32) (p3 : Int32) : Option (Int32 × Int32 × (Nat → Int32) × (Nat → Int32) × (Nat → Int32) × (Nat → Int32)) :=
  bd (X7_isHand x_play_hands p1) fun r2 => if r2 = (0 : Int32) then (some ((-1 : Int32), x_truth_ready, x_truth_rows, x_board_now, x_presses, x_fog_masks)) else (bd (X7_isHand x_play_hands p2) fun r10 => if r10 = (0 : Int32) then (some ((-1 : Int32), x_truth_ready, x_truth_rows, x_board_now, x_presses, x_fog_masks)) else (bd (X7_isTick p3) fun r17 => if r17 = (0 : Int32) then (some ((-1 : Int32), x_truth_ready, x_truth_rows, x_board_now, x_presses, x_fog_masks)) else (bd (X7_playTrulyTo x_play_w x_play_h x_play_hands x_play_rules x_play_pressRow x_play_leftFrom x_play_leftTo x_truth_ready x_truth_rows x_board_now x_presses p3) fun r27 => bd (X7_thinkTo x_play_w x_play_h x_play_hands x_play_rules r27.2.1 r27.2.2.1 x_fog_masks p1 p2 p3) fun r34 => bd (X3_size r34.2 x_play_h) fun r48 => some (r48, r27.1, r27.2.1, r34.1, r27.2.2.2, r34.2))))
abbrev wd_X7_could (cy : Nat → ClassId) (o_t o_t_play o_t_lines o_t_truth o_t_glassTrack o_t_board o_t_otherBoard o_t_fog o_t_crowd o_t_deal : Nat → Nat) (x_play_w : Int32) (x_play_h : Int32) (x_play_hands : Int32) (x_play_rules : Nat → Int32) (x_play_pressRow : Nat → Int32) (x_play_leftFrom : Nat → Int32) (x_play_leftTo : Nat → Int32) (x_truth_ready : Int32) (x_truth_rows : Nat → Int32) (x_board_now : Nat → Int32) (x_presses : Nat → Int32) (x_fog_masks : Nat → Int32) : va_W := [(o_t 0, .inr (7, [.ref (o_t_play 0), .ref (o_t_lines 0), .ref (o_t_truth 0), .ref (o_t_glassTrack 0), .ref (o_t_board 0), .ref (o_t_otherBoard 0), .ref (o_t 7), .ref (o_t_fog 0), .ref (o_t_crowd 0), .ref (o_t_deal 0), .ref (o_t 11), .ref (o_t 12)])), (o_t_play 0, .inr (5, [.int x_play_w, .int x_play_h, .int x_play_hands, .ref (o_t_play 4), .ref (o_t_play 5), .ref (o_t_play 6), .ref (o_t_play 7)])), (o_t_play 4, .inl (cy 0, 7, .inl x_play_rules)), (o_t_play 5, .inl (cy 0, 600, .inl x_play_pressRow)), (o_t_play 6, .inl (cy 0, 6, .inl x_play_leftFrom)), (o_t_play 7, .inl (cy 0, 6, .inl x_play_leftTo)), (o_t_truth 0, .inr (6, [.ref (o_t_truth 1), .int x_truth_ready])), (o_t_truth 1, .inl (cy 0, 1300, .inl x_truth_rows)), (o_t_board 0, .inr (0, [.ref (o_t_board 1)])), (o_t_board 1, .inl (cy 0, 13, .inl x_board_now)), (o_t 7, .inl (cy 0, 6, .inl x_presses)), (o_t_fog 0, .inr (3, [.ref (o_t_fog 1)])), (o_t_fog 1, .inl (cy 0, 9, .inl x_fog_masks))]
set_option maxHeartbeats 4000000 in
set_option maxRecDepth 100000 in
theorem w_X7_could {p : Program} {l : Launch} {e : Env} {s : State} {m : MethodId} {args : Array Value} {below : List Frame} {meth : Method} {c : Code} {Q : State → Prop} {A : Nat → Prop} {H : Heap} {locs : List Loc} {ls : Array Slot} (D : va_G) (cy : Nat → ClassId) (t : Nat → Nat) (o_t o_t_play o_t_lines o_t_truth o_t_glassTrack o_t_board o_t_otherBoard o_t_fog o_t_crowd o_t_deal : Nat → Nat) (x_play_w : Int32) (x_play_h : Int32) (x_play_hands : Int32) (x_play_rules : Nat → Int32) (x_play_pressRow : Nat → Int32) (x_play_leftFrom : Nat → Int32) (x_play_leftTo : Nat → Int32) (x_truth_ready : Int32) (x_truth_rows : Nat → Int32) (x_board_now : Nat → Int32) (x_presses : Nat → Int32) (x_fog_masks : Nat → Int32) (p1 : Int32) (p2 : Int32) (p3 : Int32) {out : Int32 × Int32 × (Nat → Int32) × (Nat → Int32) × (Nat → Int32) × (Nat → Int32)} (hf : X7_could x_play_w x_play_h x_play_hands x_play_rules x_play_pressRow x_play_leftFrom x_play_leftTo x_truth_ready x_truth_rows x_board_now x_presses x_fog_masks p1 p2 p3 = some out) (hx : p.tables.exec = Jvm.exec) (hb : c.code = cX7_could) (hml : c.maxLocals = 4) (hown : s.vm.findClass RX7 = some m.cls) (hts : ∀ w ∈ wsX7_could, w.before args s = true) (hK : va_K D vwCl (TYS cy) s) (hE : EV t A s s.heap) (hA : ∀ q, s.heap.size ≤ q → A q) (hP : va_P D vwCl (wd_X7_could cy o_t o_t_play o_t_lines o_t_truth o_t_glassTrack o_t_board o_t_otherBoard o_t_fog o_t_crowd o_t_deal x_play_w x_play_h x_play_hands x_play_rules x_play_pressRow x_play_leftFrom x_play_leftTo x_truth_ready x_truth_rows x_board_now x_presses x_fog_masks) H) (hD : va_D A (wd_X7_could cy o_t o_t_play o_t_lines o_t_truth o_t_glassTrack o_t_board o_t_otherBoard o_t_fog o_t_crowd o_t_deal x_play_w x_play_h x_play_hands x_play_rules x_play_pressRow x_play_leftFrom x_play_leftTo x_truth_ready x_truth_rows x_board_now x_presses x_fog_masks)) (hS : va_S A s.heap H locs) (hl : lv_has ls 4 [(0, .ref (o_t 0)), (1, .int p1), (2, .int p2), (3, .int p3)]) (hR : ∀ (H : Heap) (locs : List Loc) (ls : Array Slot) (pc : Nat), va_P D vwCl (wd_X7_could cy o_t o_t_play o_t_lines o_t_truth o_t_glassTrack o_t_board o_t_otherBoard o_t_fog o_t_crowd o_t_deal x_play_w x_play_h x_play_hands x_play_rules x_play_pressRow x_play_leftFrom x_play_leftTo out.2.1 out.2.2.1 out.2.2.2.1 out.2.2.2.2.1 out.2.2.2.2.2) H → va_D A (wd_X7_could cy o_t o_t_play o_t_lines o_t_truth o_t_glassTrack o_t_board o_t_otherBoard o_t_fog o_t_crowd o_t_deal x_play_w x_play_h x_play_hands x_play_rules x_play_pressRow x_play_leftFrom x_play_leftTo out.2.1 out.2.2.1 out.2.2.2.1 out.2.2.2.2.1 out.2.2.2.2.2) → va_S A s.heap H locs → decode cX7_could pc = .ok (.ireturn, 1) → W p l e (rmm 6 141) s m args below meth c H locs 0 0 Q (F0 m pc ls [.int out.1])) : W p l e (rmm 6 141) s m args below meth c H locs 0 0 Q (F0 m 0 ls []) := by
  have k0 := hts (.fieldLink RX7 52 "SeaGames" "fog" "LSeaGames$Fog;") (List.mem_cons_of_mem _ (List.mem_append_left _ (List.mem_append_left _ (List.mem_append_left _ (List.mem_append_left _ (List.mem_append_left _ (List.mem_append_left _ (List.mem_of_getElem? (i := 0) rfl))))))))
  have k1 : ∀ w ∈ u_ws RX7 TX7 12, w ∈ wsX7_could := fun _ h => List.mem_cons_of_mem _ (List.mem_append_left _ (List.mem_append_left _ (List.mem_append_left _ (List.mem_append_left _ (List.mem_append_right _ h)))))
  have k2 := hts (.fieldLink RX7 10 "SeaGames" "play" "LSeaGames$Play;") (List.mem_cons_of_mem _ (List.mem_append_left _ (List.mem_append_left _ (List.mem_append_left _ (List.mem_append_left _ (List.mem_append_left _ (List.mem_append_left _ (List.mem_of_getElem? (i := 1) rfl))))))))
  have k3 := hts (.fieldLink RX7 203 "SeaGames$Play" "h" "I") (List.mem_cons_of_mem _ (List.mem_append_left _ (List.mem_append_left _ (List.mem_append_left _ (List.mem_append_left _ (List.mem_append_left _ (List.mem_append_left _ (List.mem_of_getElem? (i := 2) rfl))))))))
  have k4 : ∀ w ∈ u_ws RX5 TX5 7, w ∈ wsX7_could := fun _ h => List.mem_cons_of_mem _ (List.mem_append_left _ (List.mem_append_left _ (List.mem_append_left _ (List.mem_append_right _ h))))
  rw [X7_could] at hf
  refine lv_aload_n hx hb dX7_could_0 rfl (lv_at hl 0 rfl) ?_
  refine lv_iload_n hx hb dX7_could_1 rfl (lv_at hl 1 rfl) ?_
  obtain ⟨r2, hr2, hf⟩ := bd_s hf
  refine my_Vi (WS2 := (wd_X7_could cy o_t o_t_play o_t_lines o_t_truth o_t_glassTrack o_t_board o_t_otherBoard o_t_fog o_t_crowd o_t_deal x_play_w x_play_h x_play_hands x_play_rules x_play_pressRow x_play_leftFrom x_play_leftTo x_truth_ready x_truth_rows x_board_now x_presses x_fog_masks)) ⟨hx, hb, hml, hown, hts⟩ (c_X7_isHand l D cy t o_t o_t_play o_t_lines o_t_truth o_t_glassTrack o_t_board o_t_otherBoard o_t_fog o_t_crowd o_t_deal x_play_w x_play_h x_play_hands p1 hr2) (cwV 1 hts gX7_could_X7_isHand rfl rfl rfl ⟨rfl, hd_X7_isHand⟩ ⟨Nat.le_of_ble_eq_true rfl, Nat.le_of_ble_eq_true rfl⟩) hK hE hP hD hS hA [0, 1] 13 7 0 rfl rfl rfl rfl (by decide +kernel) rfl rfl hl.1 rfl (Nat.le_of_ble_eq_true rfl) dX7_could_2 ⟨Nat.le_of_ble_eq_true rfl, Nat.le_of_ble_eq_true rfl⟩ (fun H locs hP hD hS => ?_)
  refine lv_if_eq (tgt := 23) hx hb dX7_could_5 (by decide) (fun c5 => ?_) (fun c5 => ?_)
  · have hf := ifp c5 hf
    refine lv_iconst (v := (-1 : Int32)) hx hb dX7_could_23 (by decide) ?_
    obtain rfl := Option.some.inj hf
    exact hR _ _ _ _ hP hD hS dX7_could_24
  · have hf := ifn c5 hf
    refine lv_aload_n hx hb dX7_could_8 rfl (lv_at hl 0 rfl) ?_
    refine lv_iload_n hx hb dX7_could_9 rfl (lv_at hl 2 rfl) ?_
    obtain ⟨r10, hr10, hf⟩ := bd_s hf
    refine my_Vi (WS2 := (wd_X7_could cy o_t o_t_play o_t_lines o_t_truth o_t_glassTrack o_t_board o_t_otherBoard o_t_fog o_t_crowd o_t_deal x_play_w x_play_h x_play_hands x_play_rules x_play_pressRow x_play_leftFrom x_play_leftTo x_truth_ready x_truth_rows x_board_now x_presses x_fog_masks)) ⟨hx, hb, hml, hown, hts⟩ (c_X7_isHand l D cy t o_t o_t_play o_t_lines o_t_truth o_t_glassTrack o_t_board o_t_otherBoard o_t_fog o_t_crowd o_t_deal x_play_w x_play_h x_play_hands p2 hr10) (cwV 1 hts gX7_could_X7_isHand rfl rfl rfl ⟨rfl, hd_X7_isHand⟩ ⟨Nat.le_of_ble_eq_true rfl, Nat.le_of_ble_eq_true rfl⟩) hK hE hP hD hS hA [0, 1] 13 7 0 rfl rfl rfl rfl (by decide +kernel) rfl rfl hl.1 rfl (Nat.le_of_ble_eq_true rfl) dX7_could_10 ⟨Nat.le_of_ble_eq_true rfl, Nat.le_of_ble_eq_true rfl⟩ (fun H locs hP hD hS => ?_)
    refine lv_if_eq (tgt := 23) hx hb dX7_could_13 (by decide) (fun c13 => ?_) (fun c13 => ?_)
    · have hf := ifp c13 hf
      refine lv_iconst (v := (-1 : Int32)) hx hb dX7_could_23 (by decide) ?_
      obtain rfl := Option.some.inj hf
      exact hR _ _ _ _ hP hD hS dX7_could_24
    · have hf := ifn c13 hf
      refine lv_iload_n hx hb dX7_could_16 rfl (lv_at hl 3 rfl) ?_
      obtain ⟨r17, hr17, hf⟩ := bd_s hf
      refine my_Si (WS2 := (wd_X7_could cy o_t o_t_play o_t_lines o_t_truth o_t_glassTrack o_t_board o_t_otherBoard o_t_fog o_t_crowd o_t_deal x_play_w x_play_h x_play_hands x_play_rules x_play_pressRow x_play_leftFrom x_play_leftTo x_truth_ready x_truth_rows x_board_now x_presses x_fog_masks)) ⟨hx, hb, hml, hown, hts⟩ (c_X7_isTick l D cy t p3 hr17) (va_cwS 1 hts gX7_could_X7_isTick rfl rfl rfl hd_X7_isTick ⟨Nat.le_of_ble_eq_true rfl, Nat.le_of_ble_eq_true rfl⟩) hK hE hP hD hS hA [] 13 rfl rfl (by decide +kernel) rfl rfl hl.1 rfl (Nat.le_of_ble_eq_true rfl) dX7_could_17 ⟨Nat.le_of_ble_eq_true rfl, Nat.le_of_ble_eq_true rfl⟩ (fun H locs hP hD hS => ?_)
      refine lv_if_ne (tgt := 25) hx hb dX7_could_20 (by decide) (fun c20 => ?_) (fun c20 => ?_)
      · have hf := ifn c20 hf
        refine lv_aload_n hx hb dX7_could_25 rfl (lv_at hl 0 rfl) ?_
        refine lv_iload_n hx hb dX7_could_26 rfl (lv_at hl 3 rfl) ?_
        obtain ⟨r27, hr27, hf⟩ := bd_s hf
        refine my_Vv (WS2 := (wd_X7_could cy o_t o_t_play o_t_lines o_t_truth o_t_glassTrack o_t_board o_t_otherBoard o_t_fog o_t_crowd o_t_deal x_play_w x_play_h x_play_hands x_play_rules x_play_pressRow x_play_leftFrom x_play_leftTo r27.1 r27.2.1 r27.2.2.1 r27.2.2.2 x_fog_masks)) ⟨hx, hb, hml, hown, hts⟩ (c_X7_playTrulyTo l D cy t o_t o_t_play o_t_lines o_t_truth o_t_glassTrack o_t_board o_t_otherBoard o_t_fog o_t_crowd o_t_deal x_play_w x_play_h x_play_hands x_play_rules x_play_pressRow x_play_leftFrom x_play_leftTo x_truth_ready x_truth_rows x_board_now x_presses p3 hr27) (cwV 1 hts gX7_could_X7_playTrulyTo rfl rfl rfl ⟨rfl, hd_X7_playTrulyTo⟩ ⟨Nat.le_of_ble_eq_true rfl, Nat.le_of_ble_eq_true rfl⟩) hK hE hP hD hS hA [0, 1, 2, 3, 4, 5, 6, 7, 8, 9, 10] 13 7 0 rfl rfl rfl rfl (by decide +kernel) rfl rfl hl.1 rfl (Nat.le_of_ble_eq_true rfl) dX7_could_27 ⟨Nat.le_of_ble_eq_true rfl, Nat.le_of_ble_eq_true rfl⟩ (fun H locs hP hD hS => ?_)
        refine lv_aload_n hx hb dX7_could_30 rfl (lv_at hl 0 rfl) ?_
        refine lv_iload_n hx hb dX7_could_31 rfl (lv_at hl 1 rfl) ?_
        refine lv_iload_n hx hb dX7_could_32 rfl (lv_at hl 2 rfl) ?_
        refine lv_iload_n hx hb dX7_could_33 rfl (lv_at hl 3 rfl) ?_
        obtain ⟨r34, hr34, hf⟩ := bd_s hf
        refine my_Vv (WS2 := (wd_X7_could cy o_t o_t_play o_t_lines o_t_truth o_t_glassTrack o_t_board o_t_otherBoard o_t_fog o_t_crowd o_t_deal x_play_w x_play_h x_play_hands x_play_rules x_play_pressRow x_play_leftFrom x_play_leftTo r27.1 r27.2.1 r34.1 r27.2.2.2 r34.2)) ⟨hx, hb, hml, hown, hts⟩ (c_X7_thinkTo l D cy t o_t o_t_play o_t_lines o_t_truth o_t_glassTrack o_t_board o_t_otherBoard o_t_fog o_t_crowd o_t_deal x_play_w x_play_h x_play_hands x_play_rules r27.1 r27.2.1 r27.2.2.1 x_fog_masks p1 p2 p3 hr34) (cwV 3 hts gX7_could_X7_thinkTo rfl rfl rfl ⟨rfl, hd_X7_thinkTo⟩ ⟨Nat.le_of_ble_eq_true rfl, Nat.le_of_ble_eq_true rfl⟩) hK hE hP hD hS hA [0, 1, 2, 6, 7, 8, 9, 11, 12] 13 7 0 rfl rfl rfl rfl (by decide +kernel) rfl rfl hl.1 rfl (Nat.le_of_ble_eq_true rfl) dX7_could_34 ⟨Nat.le_of_ble_eq_true rfl, Nat.le_of_ble_eq_true rfl⟩ (fun H locs hP hD hS => ?_)
        refine lv_aload_n hx hb dX7_could_37 rfl (lv_at hl 0 rfl) ?_
        refine va_get (D := D) (ci := 7) (v := .ref (o_t_fog 0)) (C := RX7) (T := TX7) (N := 12) hx hb hts k1 hown hK hP 0 rfl rfl 7 (by decide) k0 (fun _ h9 => h9) rfl dX7_could_38 ?_
        refine lv_aload_n hx hb dX7_could_41 rfl (lv_at hl 0 rfl) ?_
        refine va_get (D := D) (ci := 7) (v := .ref (o_t_play 0)) (C := RX7) (T := TX7) (N := 12) hx hb hts k1 hown hK hP 0 rfl rfl 0 (by decide) k2 (fun _ h9 => h9) rfl dX7_could_42 ?_
        refine va_get (D := D) (ci := 5) (v := .int x_play_h) (C := RX5) (T := TX5) (N := 7) hx hb hts k4 hown hK hP 1 rfl rfl 1 (by decide) k3 (fun _ h9 => h9) rfl dX7_could_45 ?_
        obtain ⟨r48, hr48, hf⟩ := bd_s hf
        refine my_Vi (WS2 := (wd_X7_could cy o_t o_t_play o_t_lines o_t_truth o_t_glassTrack o_t_board o_t_otherBoard o_t_fog o_t_crowd o_t_deal x_play_w x_play_h x_play_hands x_play_rules x_play_pressRow x_play_leftFrom x_play_leftTo r27.1 r27.2.1 r34.1 r27.2.2.2 r34.2)) ⟨hx, hb, hml, hown, hts⟩ (c_X3_size l D cy t o_t_fog r34.2 x_play_h hr48) (cwV 1 hts gX7_could_X3_size rfl rfl rfl ⟨rfl, hd_X3_size⟩ ⟨Nat.le_of_ble_eq_true rfl, Nat.le_of_ble_eq_true rfl⟩) hK hE hP hD hS hA [11, 12] 13 3 0 rfl rfl rfl rfl (by decide +kernel) rfl rfl hl.1 rfl (Nat.le_of_ble_eq_true rfl) dX7_could_48 ⟨Nat.le_of_ble_eq_true rfl, Nat.le_of_ble_eq_true rfl⟩ (fun H locs hP hD hS => ?_)
        obtain rfl := Option.some.inj hf
        exact hR _ _ _ _ hP hD hS dX7_could_51
      · have hf := ifp c20 hf
        refine lv_iconst (v := (-1 : Int32)) hx hb dX7_could_23 (by decide) ?_
        obtain rfl := Option.some.inj hf
        exact hR _ _ _ _ hP hD hS dX7_could_24
theorem hd_X7_could : yX7_could.cls ≠ "java/lang/invoke/MethodHandle" ∧ yX7_could.cls ≠ "java/lang/invoke/VarHandle" ∧ (parseMethodDescriptor yX7_could.desc).map (fun d => d.parameters.length) = some 3 := by decide +kernel
set_option maxRecDepth 100000 in
theorem c_X7_could (l : Launch) (D : va_G) (cy : Nat → ClassId) (t : Nat → Nat) (o_t o_t_play o_t_lines o_t_truth o_t_glassTrack o_t_board o_t_otherBoard o_t_fog o_t_crowd o_t_deal : Nat → Nat) (x_play_w : Int32) (x_play_h : Int32) (x_play_hands : Int32) (x_play_rules : Nat → Int32) (x_play_pressRow : Nat → Int32) (x_play_leftFrom : Nat → Int32) (x_play_leftTo : Nat → Int32) (x_truth_ready : Int32) (x_truth_rows : Nat → Int32) (x_board_now : Nat → Int32) (x_presses : Nat → Int32) (x_fog_masks : Nat → Int32) (p1 : Int32) (p2 : Int32) (p3 : Int32) {out : Int32 × Int32 × (Nat → Int32) × (Nat → Int32) × (Nat → Int32) × (Nat → Int32)} (hf : X7_could x_play_w x_play_h x_play_hands x_play_rules x_play_pressRow x_play_leftFrom x_play_leftTo x_truth_ready x_truth_rows x_board_now x_presses x_fog_masks p1 p2 p3 = some out) : ctI l yX7_could wsX7_could 6 141 D cy t [.ref (o_t 0), .int p1, .int p2, .int p3] (wd_X7_could cy o_t o_t_play o_t_lines o_t_truth o_t_glassTrack o_t_board o_t_otherBoard o_t_fog o_t_crowd o_t_deal x_play_w x_play_h x_play_hands x_play_rules x_play_pressRow x_play_leftFrom x_play_leftTo x_truth_ready x_truth_rows x_board_now x_presses x_fog_masks) (wd_X7_could cy o_t o_t_play o_t_lines o_t_truth o_t_glassTrack o_t_board o_t_otherBoard o_t_fog o_t_crowd o_t_deal x_play_w x_play_h x_play_hands x_play_rules x_play_pressRow x_play_leftFrom x_play_leftTo out.2.1 out.2.2.1 out.2.2.2.1 out.2.2.2.2.1 out.2.2.2.2.2) out.1 := by
  refine ⟨rfl, ?_⟩
  intro sz
  refine Met.ofW (cc := cX7_could) (maxL := 4) (ret := (some .int)) (by decide) rfl ?_
  intro p e s m args below meth c s₁ B hml hv
  obtain ⟨rfl, hsz, hP, hK, hD0, hE⟩ := hv
  have hts := atoms_spec (ws := wsX7_could) B.pre
  have hown : s.vm.findClass RX7 = some m.cls := findClass_of_methodNamed B.named
  have hlocks := B.notSynchronized
  subst hsz
  have hD := hD0.self (sz := s.heap.size)
  have hl := lv_entry ([.ref (o_t 0), .int p1, .int p2, .int p3]) (n := 4) (Nat.le_of_ble_eq_true rfl)
  rw [lg_entry_eq]
  generalize (lg_sl ([.ref (o_t 0), .int p1, .int p2, .int p3]) ++ List.replicate (4 - (lg_sl ([.ref (o_t 0), .int p1, .int p2, .int p3])).length) Slot.unset).toArray = ls at hl ⊢
  exact w_X7_could D cy t o_t o_t_play o_t_lines o_t_truth o_t_glassTrack o_t_board o_t_otherBoard o_t_fog o_t_crowd o_t_deal x_play_w x_play_h x_play_hands x_play_rules x_play_pressRow x_play_leftFrom x_play_leftTo x_truth_ready x_truth_rows x_board_now x_presses x_fog_masks p1 p2 p3 hf B.exec B.bytes hml hown hts hK hE (fun q h => Or.inr h) hP hD va_S.rf hl (fun H locs ls pc hP hD hS hdg => W.iret B.exec B.bytes B.returns (fun t ht hW => ⟨⟨_, (), rfl, rfl, ctB_of ht hP⟩, hS.F ht⟩) hS.2.2 hdg)

noncomputable def X7_couldBe (x_play_w : Int32) (x_play_h : Int32) (x_play_hands : Int32) (x_play_rules : Nat → Int32) (x_play_pressRow : Nat → Int32) (x_play_leftFrom : Nat → Int32) (x_play_leftTo : Nat → Int32) (x_truth_ready : Int32) (x_truth_rows : Nat → Int32) (x_board_now : Nat → Int32) (x_presses : Nat → Int32) (x_fog_masks : Nat → Int32) (p1 : Int32) (p2 : Int32) (p3 : Int32) (p4 : Int32) : Option (Int32 × Int32 × (Nat → Int32) × (Nat → Int32) × (Nat → Int32) × (Nat → Int32)) :=
  bd (X7_isHand x_play_hands p1) fun r2 => if r2 = (0 : Int32) then (some ((-1 : Int32), x_truth_ready, x_truth_rows, x_board_now, x_presses, x_fog_masks)) else (bd (X7_isHand x_play_hands p2) fun r10 => if r10 = (0 : Int32) then (some ((-1 : Int32), x_truth_ready, x_truth_rows, x_board_now, x_presses, x_fog_masks)) else (bd (X7_isTick p3) fun r17 => if r17 = (0 : Int32) then (some ((-1 : Int32), x_truth_ready, x_truth_rows, x_board_now, x_presses, x_fog_masks)) else (if p4 < (0 : Int32) then (some ((-1 : Int32), x_truth_ready, x_truth_rows, x_board_now, x_presses, x_fog_masks)) else (if p4 < (x_play_w * x_play_h) then (bd (X7_playTrulyTo x_play_w x_play_h x_play_hands x_play_rules x_play_pressRow x_play_leftFrom x_play_leftTo x_truth_ready x_truth_rows x_board_now x_presses p3) fun r52 => bd (X7_thinkTo x_play_w x_play_h x_play_hands x_play_rules r52.2.1 r52.2.2.1 x_fog_masks p1 p2 p3) fun r59 => bd (X7_spotOf p4 x_play_w) fun r75 => bd (X3_has r59.2 r75) fun r78 => if r78 = (0 : Int32) then (some ((0 : Int32), r52.1, r52.2.1, r59.1, r52.2.2.2, r59.2)) else (some ((1 : Int32), r52.1, r52.2.1, r59.1, r52.2.2.2, r59.2))) else (some ((-1 : Int32), x_truth_ready, x_truth_rows, x_board_now, x_presses, x_fog_masks))))))
abbrev wd_X7_couldBe (cy : Nat → ClassId) (o_t o_t_play o_t_lines o_t_truth o_t_glassTrack o_t_board o_t_otherBoard o_t_fog o_t_crowd o_t_deal : Nat → Nat) (x_play_w : Int32) (x_play_h : Int32) (x_play_hands : Int32) (x_play_rules : Nat → Int32) (x_play_pressRow : Nat → Int32) (x_play_leftFrom : Nat → Int32) (x_play_leftTo : Nat → Int32) (x_truth_ready : Int32) (x_truth_rows : Nat → Int32) (x_board_now : Nat → Int32) (x_presses : Nat → Int32) (x_fog_masks : Nat → Int32) : va_W := [(o_t 0, .inr (7, [.ref (o_t_play 0), .ref (o_t_lines 0), .ref (o_t_truth 0), .ref (o_t_glassTrack 0), .ref (o_t_board 0), .ref (o_t_otherBoard 0), .ref (o_t 7), .ref (o_t_fog 0), .ref (o_t_crowd 0), .ref (o_t_deal 0), .ref (o_t 11), .ref (o_t 12)])), (o_t_play 0, .inr (5, [.int x_play_w, .int x_play_h, .int x_play_hands, .ref (o_t_play 4), .ref (o_t_play 5), .ref (o_t_play 6), .ref (o_t_play 7)])), (o_t_play 4, .inl (cy 0, 7, .inl x_play_rules)), (o_t_play 5, .inl (cy 0, 600, .inl x_play_pressRow)), (o_t_play 6, .inl (cy 0, 6, .inl x_play_leftFrom)), (o_t_play 7, .inl (cy 0, 6, .inl x_play_leftTo)), (o_t_truth 0, .inr (6, [.ref (o_t_truth 1), .int x_truth_ready])), (o_t_truth 1, .inl (cy 0, 1300, .inl x_truth_rows)), (o_t_board 0, .inr (0, [.ref (o_t_board 1)])), (o_t_board 1, .inl (cy 0, 13, .inl x_board_now)), (o_t 7, .inl (cy 0, 6, .inl x_presses)), (o_t_fog 0, .inr (3, [.ref (o_t_fog 1)])), (o_t_fog 1, .inl (cy 0, 9, .inl x_fog_masks))]
set_option maxHeartbeats 4000000 in
set_option maxRecDepth 100000 in
theorem w_X7_couldBe {p : Program} {l : Launch} {e : Env} {s : State} {m : MethodId} {args : Array Value} {below : List Frame} {meth : Method} {c : Code} {Q : State → Prop} {A : Nat → Prop} {H : Heap} {locs : List Loc} {ls : Array Slot} (D : va_G) (cy : Nat → ClassId) (t : Nat → Nat) (o_t o_t_play o_t_lines o_t_truth o_t_glassTrack o_t_board o_t_otherBoard o_t_fog o_t_crowd o_t_deal : Nat → Nat) (x_play_w : Int32) (x_play_h : Int32) (x_play_hands : Int32) (x_play_rules : Nat → Int32) (x_play_pressRow : Nat → Int32) (x_play_leftFrom : Nat → Int32) (x_play_leftTo : Nat → Int32) (x_truth_ready : Int32) (x_truth_rows : Nat → Int32) (x_board_now : Nat → Int32) (x_presses : Nat → Int32) (x_fog_masks : Nat → Int32) (p1 : Int32) (p2 : Int32) (p3 : Int32) (p4 : Int32) {out : Int32 × Int32 × (Nat → Int32) × (Nat → Int32) × (Nat → Int32) × (Nat → Int32)} (hf : X7_couldBe x_play_w x_play_h x_play_hands x_play_rules x_play_pressRow x_play_leftFrom x_play_leftTo x_truth_ready x_truth_rows x_board_now x_presses x_fog_masks p1 p2 p3 p4 = some out) (hx : p.tables.exec = Jvm.exec) (hb : c.code = cX7_couldBe) (hml : c.maxLocals = 5) (hown : s.vm.findClass RX7 = some m.cls) (hts : ∀ w ∈ wsX7_couldBe, w.before args s = true) (hK : va_K D vwCl (TYS cy) s) (hE : EV t A s s.heap) (hA : ∀ q, s.heap.size ≤ q → A q) (hP : va_P D vwCl (wd_X7_couldBe cy o_t o_t_play o_t_lines o_t_truth o_t_glassTrack o_t_board o_t_otherBoard o_t_fog o_t_crowd o_t_deal x_play_w x_play_h x_play_hands x_play_rules x_play_pressRow x_play_leftFrom x_play_leftTo x_truth_ready x_truth_rows x_board_now x_presses x_fog_masks) H) (hD : va_D A (wd_X7_couldBe cy o_t o_t_play o_t_lines o_t_truth o_t_glassTrack o_t_board o_t_otherBoard o_t_fog o_t_crowd o_t_deal x_play_w x_play_h x_play_hands x_play_rules x_play_pressRow x_play_leftFrom x_play_leftTo x_truth_ready x_truth_rows x_board_now x_presses x_fog_masks)) (hS : va_S A s.heap H locs) (hl : lv_has ls 5 [(0, .ref (o_t 0)), (1, .int p1), (2, .int p2), (3, .int p3), (4, .int p4)]) (hR : ∀ (H : Heap) (locs : List Loc) (ls : Array Slot) (pc : Nat), va_P D vwCl (wd_X7_couldBe cy o_t o_t_play o_t_lines o_t_truth o_t_glassTrack o_t_board o_t_otherBoard o_t_fog o_t_crowd o_t_deal x_play_w x_play_h x_play_hands x_play_rules x_play_pressRow x_play_leftFrom x_play_leftTo out.2.1 out.2.2.1 out.2.2.2.1 out.2.2.2.2.1 out.2.2.2.2.2) H → va_D A (wd_X7_couldBe cy o_t o_t_play o_t_lines o_t_truth o_t_glassTrack o_t_board o_t_otherBoard o_t_fog o_t_crowd o_t_deal x_play_w x_play_h x_play_hands x_play_rules x_play_pressRow x_play_leftFrom x_play_leftTo out.2.1 out.2.2.1 out.2.2.2.1 out.2.2.2.2.1 out.2.2.2.2.2) → va_S A s.heap H locs → decode cX7_couldBe pc = .ok (.ireturn, 1) → W p l e (rmm 6 141) s m args below meth c H locs 0 0 Q (F0 m pc ls [.int out.1])) : W p l e (rmm 6 141) s m args below meth c H locs 0 0 Q (F0 m 0 ls []) := by
  have k0 := hts (.fieldLink RX7 10 "SeaGames" "play" "LSeaGames$Play;") (List.mem_cons_of_mem _ (List.mem_append_left _ (List.mem_append_left _ (List.mem_append_left _ (List.mem_append_left _ (List.mem_append_left _ (List.mem_append_left _ (List.mem_of_getElem? (i := 0) rfl))))))))
  have k1 : ∀ w ∈ u_ws RX7 TX7 12, w ∈ wsX7_couldBe := fun _ h => List.mem_cons_of_mem _ (List.mem_append_left _ (List.mem_append_left _ (List.mem_append_left _ (List.mem_append_left _ (List.mem_append_right _ h)))))
  have k2 := hts (.fieldLink RX7 209 "SeaGames$Play" "w" "I") (List.mem_cons_of_mem _ (List.mem_append_left _ (List.mem_append_left _ (List.mem_append_left _ (List.mem_append_left _ (List.mem_append_left _ (List.mem_append_left _ (List.mem_of_getElem? (i := 1) rfl))))))))
  have k3 : ∀ w ∈ u_ws RX5 TX5 7, w ∈ wsX7_couldBe := fun _ h => List.mem_cons_of_mem _ (List.mem_append_left _ (List.mem_append_left _ (List.mem_append_left _ (List.mem_append_right _ h))))
  have k4 := hts (.fieldLink RX7 203 "SeaGames$Play" "h" "I") (List.mem_cons_of_mem _ (List.mem_append_left _ (List.mem_append_left _ (List.mem_append_left _ (List.mem_append_left _ (List.mem_append_left _ (List.mem_append_left _ (List.mem_of_getElem? (i := 2) rfl))))))))
  have k5 := hts (.fieldLink RX7 52 "SeaGames" "fog" "LSeaGames$Fog;") (List.mem_cons_of_mem _ (List.mem_append_left _ (List.mem_append_left _ (List.mem_append_left _ (List.mem_append_left _ (List.mem_append_left _ (List.mem_append_left _ (List.mem_of_getElem? (i := 3) rfl))))))))
  rw [X7_couldBe] at hf
  refine lv_aload_n hx hb dX7_couldBe_0 rfl (lv_at hl 0 rfl) ?_
  refine lv_iload_n hx hb dX7_couldBe_1 rfl (lv_at hl 1 rfl) ?_
  obtain ⟨r2, hr2, hf⟩ := bd_s hf
  refine my_Vi (WS2 := (wd_X7_couldBe cy o_t o_t_play o_t_lines o_t_truth o_t_glassTrack o_t_board o_t_otherBoard o_t_fog o_t_crowd o_t_deal x_play_w x_play_h x_play_hands x_play_rules x_play_pressRow x_play_leftFrom x_play_leftTo x_truth_ready x_truth_rows x_board_now x_presses x_fog_masks)) ⟨hx, hb, hml, hown, hts⟩ (c_X7_isHand l D cy t o_t o_t_play o_t_lines o_t_truth o_t_glassTrack o_t_board o_t_otherBoard o_t_fog o_t_crowd o_t_deal x_play_w x_play_h x_play_hands p1 hr2) (cwV 1 hts gX7_couldBe_X7_isHand rfl rfl rfl ⟨rfl, hd_X7_isHand⟩ ⟨Nat.le_of_ble_eq_true rfl, Nat.le_of_ble_eq_true rfl⟩) hK hE hP hD hS hA [0, 1] 13 7 0 rfl rfl rfl rfl (by decide +kernel) rfl rfl hl.1 rfl (Nat.le_of_ble_eq_true rfl) dX7_couldBe_2 ⟨Nat.le_of_ble_eq_true rfl, Nat.le_of_ble_eq_true rfl⟩ (fun H locs hP hD hS => ?_)
  refine lv_if_eq (tgt := 48) hx hb dX7_couldBe_5 (by decide) (fun c5 => ?_) (fun c5 => ?_)
  · have hf := ifp c5 hf
    refine lv_iconst (v := (-1 : Int32)) hx hb dX7_couldBe_48 (by decide) ?_
    obtain rfl := Option.some.inj hf
    exact hR _ _ _ _ hP hD hS dX7_couldBe_49
  · have hf := ifn c5 hf
    refine lv_aload_n hx hb dX7_couldBe_8 rfl (lv_at hl 0 rfl) ?_
    refine lv_iload_n hx hb dX7_couldBe_9 rfl (lv_at hl 2 rfl) ?_
    obtain ⟨r10, hr10, hf⟩ := bd_s hf
    refine my_Vi (WS2 := (wd_X7_couldBe cy o_t o_t_play o_t_lines o_t_truth o_t_glassTrack o_t_board o_t_otherBoard o_t_fog o_t_crowd o_t_deal x_play_w x_play_h x_play_hands x_play_rules x_play_pressRow x_play_leftFrom x_play_leftTo x_truth_ready x_truth_rows x_board_now x_presses x_fog_masks)) ⟨hx, hb, hml, hown, hts⟩ (c_X7_isHand l D cy t o_t o_t_play o_t_lines o_t_truth o_t_glassTrack o_t_board o_t_otherBoard o_t_fog o_t_crowd o_t_deal x_play_w x_play_h x_play_hands p2 hr10) (cwV 1 hts gX7_couldBe_X7_isHand rfl rfl rfl ⟨rfl, hd_X7_isHand⟩ ⟨Nat.le_of_ble_eq_true rfl, Nat.le_of_ble_eq_true rfl⟩) hK hE hP hD hS hA [0, 1] 13 7 0 rfl rfl rfl rfl (by decide +kernel) rfl rfl hl.1 rfl (Nat.le_of_ble_eq_true rfl) dX7_couldBe_10 ⟨Nat.le_of_ble_eq_true rfl, Nat.le_of_ble_eq_true rfl⟩ (fun H locs hP hD hS => ?_)
    refine lv_if_eq (tgt := 48) hx hb dX7_couldBe_13 (by decide) (fun c13 => ?_) (fun c13 => ?_)
    · have hf := ifp c13 hf
      refine lv_iconst (v := (-1 : Int32)) hx hb dX7_couldBe_48 (by decide) ?_
      obtain rfl := Option.some.inj hf
      exact hR _ _ _ _ hP hD hS dX7_couldBe_49
    · have hf := ifn c13 hf
      refine lv_iload_n hx hb dX7_couldBe_16 rfl (lv_at hl 3 rfl) ?_
      obtain ⟨r17, hr17, hf⟩ := bd_s hf
      refine my_Si (WS2 := (wd_X7_couldBe cy o_t o_t_play o_t_lines o_t_truth o_t_glassTrack o_t_board o_t_otherBoard o_t_fog o_t_crowd o_t_deal x_play_w x_play_h x_play_hands x_play_rules x_play_pressRow x_play_leftFrom x_play_leftTo x_truth_ready x_truth_rows x_board_now x_presses x_fog_masks)) ⟨hx, hb, hml, hown, hts⟩ (c_X7_isTick l D cy t p3 hr17) (va_cwS 1 hts gX7_couldBe_X7_isTick rfl rfl rfl hd_X7_isTick ⟨Nat.le_of_ble_eq_true rfl, Nat.le_of_ble_eq_true rfl⟩) hK hE hP hD hS hA [] 13 rfl rfl (by decide +kernel) rfl rfl hl.1 rfl (Nat.le_of_ble_eq_true rfl) dX7_couldBe_17 ⟨Nat.le_of_ble_eq_true rfl, Nat.le_of_ble_eq_true rfl⟩ (fun H locs hP hD hS => ?_)
      refine lv_if_eq (tgt := 48) hx hb dX7_couldBe_20 (by decide) (fun c20 => ?_) (fun c20 => ?_)
      · have hf := ifp c20 hf
        refine lv_iconst (v := (-1 : Int32)) hx hb dX7_couldBe_48 (by decide) ?_
        obtain rfl := Option.some.inj hf
        exact hR _ _ _ _ hP hD hS dX7_couldBe_49
      · have hf := ifn c20 hf
        refine lv_iload hx hb dX7_couldBe_23 (lv_at hl 4 rfl) ?_
        refine lv_if_lt (tgt := 48) hx hb dX7_couldBe_25 (by decide) (fun c25 => ?_) (fun c25 => ?_)
        · have hf := ifp c25 hf
          refine lv_iconst (v := (-1 : Int32)) hx hb dX7_couldBe_48 (by decide) ?_
          obtain rfl := Option.some.inj hf
          exact hR _ _ _ _ hP hD hS dX7_couldBe_49
        · have hf := ifn c25 hf
          refine lv_iload hx hb dX7_couldBe_28 (lv_at hl 4 rfl) ?_
          refine lv_aload_n hx hb dX7_couldBe_30 rfl (lv_at hl 0 rfl) ?_
          refine va_get (D := D) (ci := 7) (v := .ref (o_t_play 0)) (C := RX7) (T := TX7) (N := 12) hx hb hts k1 hown hK hP 0 rfl rfl 0 (by decide) k0 (fun _ h9 => h9) rfl dX7_couldBe_31 ?_
          refine va_get (D := D) (ci := 5) (v := .int x_play_w) (C := RX5) (T := TX5) (N := 7) hx hb hts k3 hown hK hP 1 rfl rfl 0 (by decide) k2 (fun _ h9 => h9) rfl dX7_couldBe_34 ?_
          refine lv_aload_n hx hb dX7_couldBe_37 rfl (lv_at hl 0 rfl) ?_
          refine va_get (D := D) (ci := 7) (v := .ref (o_t_play 0)) (C := RX7) (T := TX7) (N := 12) hx hb hts k1 hown hK hP 0 rfl rfl 0 (by decide) k0 (fun _ h9 => h9) rfl dX7_couldBe_38 ?_
          refine va_get (D := D) (ci := 5) (v := .int x_play_h) (C := RX5) (T := TX5) (N := 7) hx hb hts k3 hown hK hP 1 rfl rfl 1 (by decide) k4 (fun _ h9 => h9) rfl dX7_couldBe_41 ?_
          refine lv_imul hx hb dX7_couldBe_44 ?_
          refine lv_icmp_lt (tgt := 50) hx hb dX7_couldBe_45 (by decide) (fun c45 => ?_) (fun c45 => ?_)
          · have hf := ifp c45 hf
            refine lv_aload_n hx hb dX7_couldBe_50 rfl (lv_at hl 0 rfl) ?_
            refine lv_iload_n hx hb dX7_couldBe_51 rfl (lv_at hl 3 rfl) ?_
            obtain ⟨r52, hr52, hf⟩ := bd_s hf
            refine my_Vv (WS2 := (wd_X7_couldBe cy o_t o_t_play o_t_lines o_t_truth o_t_glassTrack o_t_board o_t_otherBoard o_t_fog o_t_crowd o_t_deal x_play_w x_play_h x_play_hands x_play_rules x_play_pressRow x_play_leftFrom x_play_leftTo r52.1 r52.2.1 r52.2.2.1 r52.2.2.2 x_fog_masks)) ⟨hx, hb, hml, hown, hts⟩ (c_X7_playTrulyTo l D cy t o_t o_t_play o_t_lines o_t_truth o_t_glassTrack o_t_board o_t_otherBoard o_t_fog o_t_crowd o_t_deal x_play_w x_play_h x_play_hands x_play_rules x_play_pressRow x_play_leftFrom x_play_leftTo x_truth_ready x_truth_rows x_board_now x_presses p3 hr52) (cwV 1 hts gX7_couldBe_X7_playTrulyTo rfl rfl rfl ⟨rfl, hd_X7_playTrulyTo⟩ ⟨Nat.le_of_ble_eq_true rfl, Nat.le_of_ble_eq_true rfl⟩) hK hE hP hD hS hA [0, 1, 2, 3, 4, 5, 6, 7, 8, 9, 10] 13 7 0 rfl rfl rfl rfl (by decide +kernel) rfl rfl hl.1 rfl (Nat.le_of_ble_eq_true rfl) dX7_couldBe_52 ⟨Nat.le_of_ble_eq_true rfl, Nat.le_of_ble_eq_true rfl⟩ (fun H locs hP hD hS => ?_)
            refine lv_aload_n hx hb dX7_couldBe_55 rfl (lv_at hl 0 rfl) ?_
            refine lv_iload_n hx hb dX7_couldBe_56 rfl (lv_at hl 1 rfl) ?_
            refine lv_iload_n hx hb dX7_couldBe_57 rfl (lv_at hl 2 rfl) ?_
            refine lv_iload_n hx hb dX7_couldBe_58 rfl (lv_at hl 3 rfl) ?_
            obtain ⟨r59, hr59, hf⟩ := bd_s hf
            refine my_Vv (WS2 := (wd_X7_couldBe cy o_t o_t_play o_t_lines o_t_truth o_t_glassTrack o_t_board o_t_otherBoard o_t_fog o_t_crowd o_t_deal x_play_w x_play_h x_play_hands x_play_rules x_play_pressRow x_play_leftFrom x_play_leftTo r52.1 r52.2.1 r59.1 r52.2.2.2 r59.2)) ⟨hx, hb, hml, hown, hts⟩ (c_X7_thinkTo l D cy t o_t o_t_play o_t_lines o_t_truth o_t_glassTrack o_t_board o_t_otherBoard o_t_fog o_t_crowd o_t_deal x_play_w x_play_h x_play_hands x_play_rules r52.1 r52.2.1 r52.2.2.1 x_fog_masks p1 p2 p3 hr59) (cwV 3 hts gX7_couldBe_X7_thinkTo rfl rfl rfl ⟨rfl, hd_X7_thinkTo⟩ ⟨Nat.le_of_ble_eq_true rfl, Nat.le_of_ble_eq_true rfl⟩) hK hE hP hD hS hA [0, 1, 2, 6, 7, 8, 9, 11, 12] 13 7 0 rfl rfl rfl rfl (by decide +kernel) rfl rfl hl.1 rfl (Nat.le_of_ble_eq_true rfl) dX7_couldBe_59 ⟨Nat.le_of_ble_eq_true rfl, Nat.le_of_ble_eq_true rfl⟩ (fun H locs hP hD hS => ?_)
            refine lv_aload_n hx hb dX7_couldBe_62 rfl (lv_at hl 0 rfl) ?_
            refine va_get (D := D) (ci := 7) (v := .ref (o_t_fog 0)) (C := RX7) (T := TX7) (N := 12) hx hb hts k1 hown hK hP 0 rfl rfl 7 (by decide) k5 (fun _ h9 => h9) rfl dX7_couldBe_63 ?_
            refine lv_iload hx hb dX7_couldBe_66 (lv_at hl 4 rfl) ?_
            refine lv_aload_n hx hb dX7_couldBe_68 rfl (lv_at hl 0 rfl) ?_
            refine va_get (D := D) (ci := 7) (v := .ref (o_t_play 0)) (C := RX7) (T := TX7) (N := 12) hx hb hts k1 hown hK hP 0 rfl rfl 0 (by decide) k0 (fun _ h9 => h9) rfl dX7_couldBe_69 ?_
            refine va_get (D := D) (ci := 5) (v := .int x_play_w) (C := RX5) (T := TX5) (N := 7) hx hb hts k3 hown hK hP 1 rfl rfl 0 (by decide) k2 (fun _ h9 => h9) rfl dX7_couldBe_72 ?_
            obtain ⟨r75, hr75, hf⟩ := bd_s hf
            refine my_Si (WS2 := (wd_X7_couldBe cy o_t o_t_play o_t_lines o_t_truth o_t_glassTrack o_t_board o_t_otherBoard o_t_fog o_t_crowd o_t_deal x_play_w x_play_h x_play_hands x_play_rules x_play_pressRow x_play_leftFrom x_play_leftTo r52.1 r52.2.1 r59.1 r52.2.2.2 r59.2)) ⟨hx, hb, hml, hown, hts⟩ (c_X7_spotOf l D cy t p4 x_play_w hr75) (va_cwS 2 hts gX7_couldBe_X7_spotOf rfl rfl rfl hd_X7_spotOf ⟨Nat.le_of_ble_eq_true rfl, Nat.le_of_ble_eq_true rfl⟩) hK hE hP hD hS hA [] 13 rfl rfl (by decide +kernel) rfl rfl hl.1 rfl (Nat.le_of_ble_eq_true rfl) dX7_couldBe_75 ⟨Nat.le_of_ble_eq_true rfl, Nat.le_of_ble_eq_true rfl⟩ (fun H locs hP hD hS => ?_)
            obtain ⟨r78, hr78, hf⟩ := bd_s hf
            refine my_Vi (WS2 := (wd_X7_couldBe cy o_t o_t_play o_t_lines o_t_truth o_t_glassTrack o_t_board o_t_otherBoard o_t_fog o_t_crowd o_t_deal x_play_w x_play_h x_play_hands x_play_rules x_play_pressRow x_play_leftFrom x_play_leftTo r52.1 r52.2.1 r59.1 r52.2.2.2 r59.2)) ⟨hx, hb, hml, hown, hts⟩ (c_X3_has l D cy t o_t_fog r59.2 r75 hr78) (cwV 1 hts gX7_couldBe_X3_has rfl rfl rfl ⟨rfl, hd_X3_has⟩ ⟨Nat.le_of_ble_eq_true rfl, Nat.le_of_ble_eq_true rfl⟩) hK hE hP hD hS hA [11, 12] 13 3 0 rfl rfl rfl rfl (by decide +kernel) rfl rfl hl.1 rfl (Nat.le_of_ble_eq_true rfl) dX7_couldBe_78 ⟨Nat.le_of_ble_eq_true rfl, Nat.le_of_ble_eq_true rfl⟩ (fun H locs hP hD hS => ?_)
            refine lv_if_eq (tgt := 88) hx hb dX7_couldBe_81 (by decide) (fun c81 => ?_) (fun c81 => ?_)
            · have hf := ifp c81 hf
              refine lv_iconst (v := (0 : Int32)) hx hb dX7_couldBe_88 (by decide) ?_
              obtain rfl := Option.some.inj hf
              exact hR _ _ _ _ hP hD hS dX7_couldBe_89
            · have hf := ifn c81 hf
              refine lv_iconst (v := (1 : Int32)) hx hb dX7_couldBe_84 (by decide) ?_
              refine lv_goto (tgt := 89) hx hb dX7_couldBe_85 (by decide) ?_
              obtain rfl := Option.some.inj hf
              exact hR _ _ _ _ hP hD hS dX7_couldBe_89
          · have hf := ifn c45 hf
            refine lv_iconst (v := (-1 : Int32)) hx hb dX7_couldBe_48 (by decide) ?_
            obtain rfl := Option.some.inj hf
            exact hR _ _ _ _ hP hD hS dX7_couldBe_49
theorem hd_X7_couldBe : yX7_couldBe.cls ≠ "java/lang/invoke/MethodHandle" ∧ yX7_couldBe.cls ≠ "java/lang/invoke/VarHandle" ∧ (parseMethodDescriptor yX7_couldBe.desc).map (fun d => d.parameters.length) = some 4 := by decide +kernel
set_option maxRecDepth 100000 in
theorem c_X7_couldBe (l : Launch) (D : va_G) (cy : Nat → ClassId) (t : Nat → Nat) (o_t o_t_play o_t_lines o_t_truth o_t_glassTrack o_t_board o_t_otherBoard o_t_fog o_t_crowd o_t_deal : Nat → Nat) (x_play_w : Int32) (x_play_h : Int32) (x_play_hands : Int32) (x_play_rules : Nat → Int32) (x_play_pressRow : Nat → Int32) (x_play_leftFrom : Nat → Int32) (x_play_leftTo : Nat → Int32) (x_truth_ready : Int32) (x_truth_rows : Nat → Int32) (x_board_now : Nat → Int32) (x_presses : Nat → Int32) (x_fog_masks : Nat → Int32) (p1 : Int32) (p2 : Int32) (p3 : Int32) (p4 : Int32) {out : Int32 × Int32 × (Nat → Int32) × (Nat → Int32) × (Nat → Int32) × (Nat → Int32)} (hf : X7_couldBe x_play_w x_play_h x_play_hands x_play_rules x_play_pressRow x_play_leftFrom x_play_leftTo x_truth_ready x_truth_rows x_board_now x_presses x_fog_masks p1 p2 p3 p4 = some out) : ctI l yX7_couldBe wsX7_couldBe 6 141 D cy t [.ref (o_t 0), .int p1, .int p2, .int p3, .int p4] (wd_X7_couldBe cy o_t o_t_play o_t_lines o_t_truth o_t_glassTrack o_t_board o_t_otherBoard o_t_fog o_t_crowd o_t_deal x_play_w x_play_h x_play_hands x_play_rules x_play_pressRow x_play_leftFrom x_play_leftTo x_truth_ready x_truth_rows x_board_now x_presses x_fog_masks) (wd_X7_couldBe cy o_t o_t_play o_t_lines o_t_truth o_t_glassTrack o_t_board o_t_otherBoard o_t_fog o_t_crowd o_t_deal x_play_w x_play_h x_play_hands x_play_rules x_play_pressRow x_play_leftFrom x_play_leftTo out.2.1 out.2.2.1 out.2.2.2.1 out.2.2.2.2.1 out.2.2.2.2.2) out.1 := by
  refine ⟨rfl, ?_⟩
  intro sz
  refine Met.ofW (cc := cX7_couldBe) (maxL := 5) (ret := (some .int)) (by decide) rfl ?_
  intro p e s m args below meth c s₁ B hml hv
  obtain ⟨rfl, hsz, hP, hK, hD0, hE⟩ := hv
  have hts := atoms_spec (ws := wsX7_couldBe) B.pre
  have hown : s.vm.findClass RX7 = some m.cls := findClass_of_methodNamed B.named
  have hlocks := B.notSynchronized
  subst hsz
  have hD := hD0.self (sz := s.heap.size)
  have hl := lv_entry ([.ref (o_t 0), .int p1, .int p2, .int p3, .int p4]) (n := 5) (Nat.le_of_ble_eq_true rfl)
  rw [lg_entry_eq]
  generalize (lg_sl ([.ref (o_t 0), .int p1, .int p2, .int p3, .int p4]) ++ List.replicate (5 - (lg_sl ([.ref (o_t 0), .int p1, .int p2, .int p3, .int p4])).length) Slot.unset).toArray = ls at hl ⊢
  exact w_X7_couldBe D cy t o_t o_t_play o_t_lines o_t_truth o_t_glassTrack o_t_board o_t_otherBoard o_t_fog o_t_crowd o_t_deal x_play_w x_play_h x_play_hands x_play_rules x_play_pressRow x_play_leftFrom x_play_leftTo x_truth_ready x_truth_rows x_board_now x_presses x_fog_masks p1 p2 p3 p4 hf B.exec B.bytes hml hown hts hK hE (fun q h => Or.inr h) hP hD va_S.rf hl (fun H locs ls pc hP hD hS hdg => W.iret B.exec B.bytes B.returns (fun t ht hW => ⟨⟨_, (), rfl, rfl, ctB_of ht hP⟩, hS.F ht⟩) hS.2.2 hdg)
