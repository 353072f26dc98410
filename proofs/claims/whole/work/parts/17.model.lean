noncomputable def X8_write_J39 (n_a1 : Nat) (x_ball : Int32) (x_place : Nat → Int32) (x_points : Nat → Int32) (x_a1 : Nat → Int32) (l2 : Int32) : Option ((Nat → Int32)) :=
  wrI x_a1 n_a1 (l2 + (6 : Int32)) x_ball fun w48 => some w48
noncomputable def X8_write_L2_B (n_a1 : Nat) (x_ball : Int32) (x_place : Nat → Int32) (x_points : Nat → Int32) (rec2 : (Nat → Int32) → Int32 → Int32 → Option ((Nat → Int32))) (x_a1 : Nat → Int32) (l2 : Int32) (l3 : Int32) : Option ((Nat → Int32)) :=
  if (6 : Int32) ≤ l3 then (X8_write_J39 n_a1 x_ball x_place x_points  x_a1 l2) else (rd x_place 6 l3 fun v17 => wrI x_a1 n_a1 (l2 + l3) v17 fun w18 => rd x_points 6 l3 fun v31 => wrI w18 n_a1 ((l2 + (7 : Int32)) + l3) v31 fun w32 => nm (l3 + (1 : Int32)) fun v33 => rec2 w32 l2 v33)
noncomputable def X8_write_L2 (n_a1 : Nat) (x_ball : Int32) (x_place : Nat → Int32) (x_points : Nat → Int32) : Nat → (Nat → Int32) → Int32 → Int32 → Option ((Nat → Int32))
  | 0, _, _, _ => none
  | n + 1, y0, y1, y2 => X8_write_L2_B n_a1 x_ball x_place x_points  (X8_write_L2 n_a1 x_ball x_place x_points  n) y0 y1 y2
noncomputable def X8_write (n_a1 : Nat) (x_ball : Int32) (x_place : Nat → Int32) (x_points : Nat → Int32) (x_a1 : Nat → Int32) (p2 : Int32) : Option ((Nat → Int32)) :=
  X8_write_L2 n_a1 x_ball x_place x_points  FU x_a1 p2 (0 : Int32)
abbrev wd_X8_write (cy : Nat → ClassId) (o_t : Nat → Nat) (r_a1 n_a1 : Nat) (x_thrown : Int32) (x_delay : Int32) (x_feel : Int32) (x_turn : Int32) (x_sight : Int32) (x_ball : Int32) (x_w : Int32) (x_h : Int32) (x_n : Int32) (x_players : Int32) (x_place : Nat → Int32) (x_points : Nat → Int32) (x_a1 : Nat → Int32) : va_W := [(o_t 0, .inr (8, [.int x_thrown, .ref (o_t 2), .ref (o_t 3), .ref (o_t 4), .ref (o_t 5), .ref (o_t 6), .ref (o_t 7), .ref (o_t 8), .ref (o_t 9), .ref (o_t 10), .ref (o_t 11), .int x_delay, .int x_feel, .int x_turn, .int x_sight, .ref (o_t 16), .ref (o_t 17), .ref (o_t 18), .ref (o_t 19), .int x_ball, .int x_w, .int x_h, .int x_n, .ref (o_t 24), .ref (o_t 25), .ref (o_t 26), .ref (o_t 27), .ref (o_t 28), .ref (o_t 29), .int x_players, .ref (o_t 31), .ref (o_t 32), .ref (o_t 33), .ref (o_t 34), .ref (o_t 35), .ref (o_t 36)])), (o_t 18, .inl (cy 0, 6, .inl x_place)), (o_t 19, .inl (cy 0, 6, .inl x_points)), (r_a1, .inl (cy 0, n_a1, .inl x_a1))]
set_option maxHeartbeats 4000000 in
set_option maxRecDepth 100000 in
theorem w_X8_write {p : Program} {l : Launch} {e : Env} {s : State} {m : MethodId} {args : Array Value} {below : List Frame} {meth : Method} {c : Code} {Q : State → Prop} {A : Nat → Prop} {H : Heap} {locs : List Loc} {ls : Array Slot} (D : va_G) (cy : Nat → ClassId) (t : Nat → Nat) (o_t : Nat → Nat) (r_a1 n_a1 : Nat) (x_thrown : Int32) (x_delay : Int32) (x_feel : Int32) (x_turn : Int32) (x_sight : Int32) (x_ball : Int32) (x_w : Int32) (x_h : Int32) (x_n : Int32) (x_players : Int32) (x_place : Nat → Int32) (x_points : Nat → Int32) (x_a1 : Nat → Int32) (p2 : Int32) {out : (Nat → Int32)} (hf : X8_write n_a1 x_ball x_place x_points x_a1 p2 = some out) (hx : p.tables.exec = Jvm.exec) (hb : c.code = cX8_write) (hml : c.maxLocals = 4) (hown : s.vm.findClass RX8 = some m.cls) (hts : ∀ w ∈ wsX8_write, w.before args s = true) (hK : va_K D vwCl (TYS cy) s) (hE : EV t A s s.heap) (hA : ∀ q, s.heap.size ≤ q → A q) (hP : va_P D vwCl (wd_X8_write cy o_t r_a1 n_a1 x_thrown x_delay x_feel x_turn x_sight x_ball x_w x_h x_n x_players x_place x_points x_a1) H) (hD : va_D A (wd_X8_write cy o_t r_a1 n_a1 x_thrown x_delay x_feel x_turn x_sight x_ball x_w x_h x_n x_players x_place x_points x_a1)) (hS : va_S A s.heap H locs) (hl : lv_has ls 4 [(0, .ref (o_t 0)), (1, .ref r_a1), (2, .int p2)]) (hR : ∀ (H : Heap) (locs : List Loc) (ls : Array Slot) (pc : Nat), va_P D vwCl (wd_X8_write cy o_t r_a1 n_a1 x_thrown x_delay x_feel x_turn x_sight x_ball x_w x_h x_n x_players x_place x_points out) H → va_D A (wd_X8_write cy o_t r_a1 n_a1 x_thrown x_delay x_feel x_turn x_sight x_ball x_w x_h x_n x_players x_place x_points out) → va_S A s.heap H locs → decode cX8_write pc = .ok (.return_, 1) → W p l e (rmm 0 0) s m args below meth c H locs 0 0 Q (F0 m pc ls [])) : W p l e (rmm 0 0) s m args below meth c H locs 0 0 Q (F0 m 0 ls []) := by
  have k0 := hts (.fieldLink RX8 138 "SeaGamesModel" "ball" "I") (List.mem_cons_of_mem _ (List.mem_append_left _ (List.mem_of_getElem? (i := 2) rfl)))
  have k1 : ∀ w ∈ u_ws RX8 TX8 36, w ∈ wsX8_write := fun _ h => List.mem_cons_of_mem _ (List.mem_append_right _ h)
  have k2 := hts (.fieldLink RX8 57 "SeaGamesModel" "place" "[I") (List.mem_cons_of_mem _ (List.mem_append_left _ (List.mem_of_getElem? (i := 0) rfl)))
  have k3 := hts (.fieldLink RX8 60 "SeaGamesModel" "points" "[I") (List.mem_cons_of_mem _ (List.mem_append_left _ (List.mem_of_getElem? (i := 1) rfl)))
  rw [X8_write] at hf
  have h2 : ∀ (n2 : Nat) (x_a1 : Nat → Int32) (l2 : Int32) (l3 : Int32) (H : Heap) (locs : List Loc) (ls : Array Slot), X8_write_L2 n_a1 x_ball x_place x_points n2 x_a1 l2 l3 = some out → va_P D vwCl (wd_X8_write cy o_t r_a1 n_a1 x_thrown x_delay x_feel x_turn x_sight x_ball x_w x_h x_n x_players x_place x_points x_a1) H → va_D A (wd_X8_write cy o_t r_a1 n_a1 x_thrown x_delay x_feel x_turn x_sight x_ball x_w x_h x_n x_players x_place x_points x_a1) → va_S A s.heap H locs → lv_has ls 4 [(0, .ref (o_t 0)), (1, .ref r_a1), (2, .int l2), (3, .int l3)] → W p l e (rmm 0 0) s m args below meth c H locs 0 0 Q (F0 m 2 ls []) := by
    intro n2
    induction n2 with
    | zero =>
      intro _ _ _ _ _ _ hf
      exact nomatch (show (none : Option _) = some out from hf)
    | succ n2 ih2 =>
      intro x_a1 l2 l3 H locs ls hf hP hD hS hl
      have hf : X8_write_L2_B n_a1 x_ball x_place x_points (X8_write_L2 n_a1 x_ball x_place x_points n2) x_a1 l2 l3 = some out := hf
      rw [X8_write_L2_B] at hf
      have h39 : ∀ (x_a1 : Nat → Int32) (l2 : Int32) (H : Heap) (locs : List Loc) (ls : Array Slot), X8_write_J39 n_a1 x_ball x_place x_points x_a1 l2 = some out → va_P D vwCl (wd_X8_write cy o_t r_a1 n_a1 x_thrown x_delay x_feel x_turn x_sight x_ball x_w x_h x_n x_players x_place x_points x_a1) H → va_D A (wd_X8_write cy o_t r_a1 n_a1 x_thrown x_delay x_feel x_turn x_sight x_ball x_w x_h x_n x_players x_place x_points x_a1) → va_S A s.heap H locs → lv_has ls 4 [(0, .ref (o_t 0)), (1, .ref r_a1), (2, .int l2)] → W p l e (rmm 0 0) s m args below meth c H locs 0 0 Q (F0 m 39 ls []) := by
        intro x_a1 l2 H locs ls hf hP hD hS hl
        rw [X8_write_J39] at hf
        refine lv_aload_n hx hb dX8_write_39 rfl (lv_at hl 1 rfl) ?_
        refine lv_iload_n hx hb dX8_write_40 rfl (lv_at hl 2 rfl) ?_
        refine lv_bipush (v := (6 : Int32)) hx hb dX8_write_41 (by decide) ?_
        refine lv_iadd hx hb dX8_write_43 ?_
        refine lv_aload_n hx hb dX8_write_44 rfl (lv_at hl 0 rfl) ?_
        refine va_get (D := D) (ci := 8) (v := .int x_ball) (C := RX8) (T := TX8) (N := 36) hx hb hts k1 hown hK hP 0 rfl rfl 19 (by decide) k0 (fun _ h9 => h9) rfl dX8_write_45 ?_
        obtain ⟨w48, b48, ew48, hf⟩ := wrI_s hf
        refine my_iast (ws2 := (wd_X8_write cy o_t r_a1 n_a1 x_thrown x_delay x_feel x_turn x_sight x_ball x_w x_h x_n x_players x_place x_points w48)) hx hb hK hP hD hS 3 rfl b48 ew48 rfl dX8_write_48 (fun H locs hP hD hS => ?_)
        obtain rfl := Option.some.inj hf
        exact hR _ _ _ _ hP hD hS dX8_write_49
      refine lv_iload_n hx hb dX8_write_2 rfl (lv_at hl 3 rfl) ?_
      refine lv_bipush (v := (6 : Int32)) hx hb dX8_write_3 (by decide) ?_
      refine lv_icmp_ge (tgt := 39) hx hb dX8_write_5 (by decide) (fun c5 => ?_) (fun c5 => ?_)
      · have hf := ifp c5 hf
        exact h39 _ _ _ _ _ hf hP hD hS (lv_sub hl [0, 1, 2] rfl)
      · have hf := ifn c5 hf
        refine lv_aload_n hx hb dX8_write_8 rfl (lv_at hl 1 rfl) ?_
        refine lv_iload_n hx hb dX8_write_9 rfl (lv_at hl 2 rfl) ?_
        refine lv_iload_n hx hb dX8_write_10 rfl (lv_at hl 3 rfl) ?_
        refine lv_iadd hx hb dX8_write_11 ?_
        refine lv_aload_n hx hb dX8_write_12 rfl (lv_at hl 0 rfl) ?_
        refine va_get (D := D) (ci := 8) (v := .ref (o_t 18)) (C := RX8) (T := TX8) (N := 36) hx hb hts k1 hown hK hP 0 rfl rfl 17 (by decide) k2 (fun _ h9 => h9) rfl dX8_write_13 ?_
        refine lv_iload_n hx hb dX8_write_16 rfl (lv_at hl 3 rfl) ?_
        obtain ⟨v17, b17, ev17, hf⟩ := rd_s hf
        refine my_iald hx hb hK hP 1 rfl b17 ev17 dX8_write_17 ?_
        obtain ⟨w18, b18, ew18, hf⟩ := wrI_s hf
        refine my_iast (ws2 := (wd_X8_write cy o_t r_a1 n_a1 x_thrown x_delay x_feel x_turn x_sight x_ball x_w x_h x_n x_players x_place x_points w18)) hx hb hK hP hD hS 3 rfl b18 ew18 rfl dX8_write_18 (fun H locs hP hD hS => ?_)
        refine lv_aload_n hx hb dX8_write_19 rfl (lv_at hl 1 rfl) ?_
        refine lv_iload_n hx hb dX8_write_20 rfl (lv_at hl 2 rfl) ?_
        refine lv_bipush (v := (7 : Int32)) hx hb dX8_write_21 (by decide) ?_
        refine lv_iadd hx hb dX8_write_23 ?_
        refine lv_iload_n hx hb dX8_write_24 rfl (lv_at hl 3 rfl) ?_
        refine lv_iadd hx hb dX8_write_25 ?_
        refine lv_aload_n hx hb dX8_write_26 rfl (lv_at hl 0 rfl) ?_
        refine va_get (D := D) (ci := 8) (v := .ref (o_t 19)) (C := RX8) (T := TX8) (N := 36) hx hb hts k1 hown hK hP 0 rfl rfl 18 (by decide) k3 (fun _ h9 => h9) rfl dX8_write_27 ?_
        refine lv_iload_n hx hb dX8_write_30 rfl (lv_at hl 3 rfl) ?_
        obtain ⟨v31, b31, ev31, hf⟩ := rd_s hf
        refine my_iald hx hb hK hP 2 rfl b31 ev31 dX8_write_31 ?_
        obtain ⟨w32, b32, ew32, hf⟩ := wrI_s hf
        refine my_iast (ws2 := (wd_X8_write cy o_t r_a1 n_a1 x_thrown x_delay x_feel x_turn x_sight x_ball x_w x_h x_n x_players x_place x_points w32)) hx hb hK hP hD hS 3 rfl b32 ew32 rfl dX8_write_32 (fun H locs hP hD hS => ?_)
        obtain ⟨v33, ev33, hf⟩ := nm_s hf
        refine lv_iinc (v := v33) (lv' := [(3, .int v33), (0, .ref (o_t 0)), (1, .ref r_a1), (2, .int l2)]) hx hb dX8_write_33 hl (k := 3) rfl (by rw [ev33]; rfl) (by decide) rfl (fun ls hl => ?_)
        refine lv_goto (tgt := 2) hx hb dX8_write_36 (by decide) ?_
        exact ih2 _ _ _ _ _ _ hf hP hD hS (lv_sub hl [1, 2, 3, 0] rfl)
  refine lv_iconst (v := (0 : Int32)) hx hb dX8_write_0 (by decide) ?_
  refine lv_istore_n (lv' := [(3, .int (0 : Int32)), (0, .ref (o_t 0)), (1, .ref r_a1), (2, .int p2)]) hx hb dX8_write_1 rfl hl (by decide) rfl (fun ls hl => ?_)
  exact h2 FU _ _ _ _ _ _ hf hP hD hS (lv_sub hl [1, 2, 3, 0] rfl)
theorem hd_X8_write : yX8_write.cls ≠ "java/lang/invoke/MethodHandle" ∧ yX8_write.cls ≠ "java/lang/invoke/VarHandle" ∧ (parseMethodDescriptor yX8_write.desc).map (fun d => d.parameters.length) = some 2 := by decide +kernel
set_option maxRecDepth 100000 in
theorem c_X8_write (l : Launch) (D : va_G) (cy : Nat → ClassId) (t : Nat → Nat) (o_t : Nat → Nat) (r_a1 n_a1 : Nat) (x_thrown : Int32) (x_delay : Int32) (x_feel : Int32) (x_turn : Int32) (x_sight : Int32) (x_ball : Int32) (x_w : Int32) (x_h : Int32) (x_n : Int32) (x_players : Int32) (x_place : Nat → Int32) (x_points : Nat → Int32) (x_a1 : Nat → Int32) (p2 : Int32) {out : (Nat → Int32)} (hf : X8_write n_a1 x_ball x_place x_points x_a1 p2 = some out) : ctV l yX8_write wsX8_write 0 0 D cy t [.ref (o_t 0), .ref r_a1, .int p2] (wd_X8_write cy o_t r_a1 n_a1 x_thrown x_delay x_feel x_turn x_sight x_ball x_w x_h x_n x_players x_place x_points x_a1) (wd_X8_write cy o_t r_a1 n_a1 x_thrown x_delay x_feel x_turn x_sight x_ball x_w x_h x_n x_players x_place x_points out) := by
  refine ⟨rfl, ?_⟩
  intro sz
  refine Met.ofW (cc := cX8_write) (maxL := 4) (ret := none) (by decide) rfl ?_
  intro p e s m args below meth c s₁ B hml hv
  obtain ⟨rfl, hsz, hP, hK, hD0, hE⟩ := hv
  have hts := atoms_spec (ws := wsX8_write) B.pre
  have hown : s.vm.findClass RX8 = some m.cls := findClass_of_methodNamed B.named
  have hlocks := B.notSynchronized
  subst hsz
  have hD := hD0.self (sz := s.heap.size)
  have hl := lv_entry ([.ref (o_t 0), .ref r_a1, .int p2]) (n := 4) (Nat.le_of_ble_eq_true rfl)
  rw [lg_entry_eq]
  generalize (lg_sl ([.ref (o_t 0), .ref r_a1, .int p2]) ++ List.replicate (4 - (lg_sl ([.ref (o_t 0), .ref r_a1, .int p2])).length) Slot.unset).toArray = ls at hl ⊢
  exact w_X8_write D cy t o_t r_a1 n_a1 x_thrown x_delay x_feel x_turn x_sight x_ball x_w x_h x_n x_players x_place x_points x_a1 p2 hf B.exec B.bytes hml hown hts hK hE (fun q h => Or.inr h) hP hD va_S.rf hl (fun H locs ls pc hP hD hS hdg => W.vret B.exec B.bytes B.returns (fun t ht hW => ⟨⟨(), rfl, trivial, ctB_of ht hP⟩, hS.F ht⟩) hS.2.2 hdg)

noncomputable def X8_isLike_J38 (n_a1 : Nat) (n_a3 : Nat) (x_a1 : Nat → Int32) (x_a3 : Nat → Int32) (rec6 : Int32 → Int32 → Int32 → Int32 → Option (Int32)) (l1 : Int32) (l3 : Int32) (l5 : Int32) (s0 : Int32) : Option (Int32) :=
  nm (l5 + (1 : Int32)) fun v40 => rec6  l1 l3 s0 v40
noncomputable def X8_isLike_J37 (n_a1 : Nat) (n_a3 : Nat) (x_a1 : Nat → Int32) (x_a3 : Nat → Int32) (rec6 : Int32 → Int32 → Int32 → Int32 → Option (Int32)) (l1 : Int32) (l3 : Int32) (l5 : Int32) : Option (Int32) :=
  X8_isLike_J38 n_a1 n_a3 x_a1 x_a3 rec6  l1 l3 l5 (0 : Int32)
noncomputable def X8_isLike_L6_B (n_a1 : Nat) (n_a3 : Nat) (x_a1 : Nat → Int32) (x_a3 : Nat → Int32) (rec6 : Int32 → Int32 → Int32 → Int32 → Option (Int32)) (l1 : Int32) (l3 : Int32) (l4 : Int32) (l5 : Int32) : Option (Int32) :=
  if (13 : Int32) ≤ l5 then (zb l4 <| some l4) else (if l4 = (0 : Int32) then (X8_isLike_J37 n_a1 n_a3 x_a1 x_a3 rec6  l1 l3 l5) else (rd x_a1 n_a1 (l1 + l5) fun v23 => rd x_a3 n_a3 (l3 + l5) fun v29 => if v23 = v29 then (X8_isLike_J38 n_a1 n_a3 x_a1 x_a3 rec6  l1 l3 l5 (1 : Int32)) else (X8_isLike_J37 n_a1 n_a3 x_a1 x_a3 rec6  l1 l3 l5)))
noncomputable def X8_isLike_L6 (n_a1 : Nat) (n_a3 : Nat) (x_a1 : Nat → Int32) (x_a3 : Nat → Int32) : Nat → Int32 → Int32 → Int32 → Int32 → Option (Int32)
  | 0, _, _, _, _ => none
  | n + 1, y0, y1, y2, y3 => X8_isLike_L6_B n_a1 n_a3 x_a1 x_a3  (X8_isLike_L6 n_a1 n_a3 x_a1 x_a3  n) y0 y1 y2 y3
noncomputable def X8_isLike (n_a1 : Nat) (n_a3 : Nat) (x_a1 : Nat → Int32) (x_a3 : Nat → Int32) (p1 : Int32) (p3 : Int32) : Option (Int32) :=
  X8_isLike_L6 n_a1 n_a3 x_a1 x_a3  FU  p1 p3 (1 : Int32) (0 : Int32)
abbrev wd_X8_isLike (cy : Nat → ClassId) (r_a1 n_a1 : Nat) (r_a3 n_a3 : Nat) (x_a1 : Nat → Int32) (x_a3 : Nat → Int32) : va_W := [(r_a1, .inl (cy 0, n_a1, .inl x_a1)), (r_a3, .inl (cy 0, n_a3, .inl x_a3))]
set_option maxHeartbeats 4000000 in
set_option maxRecDepth 100000 in
theorem w_X8_isLike {p : Program} {l : Launch} {e : Env} {s : State} {m : MethodId} {args : Array Value} {below : List Frame} {meth : Method} {c : Code} {Q : State → Prop} {A : Nat → Prop} {H : Heap} {locs : List Loc} {ls : Array Slot} (D : va_G) (cy : Nat → ClassId) (t : Nat → Nat) (r_a1 n_a1 : Nat) (r_a3 n_a3 : Nat) (x_a1 : Nat → Int32) (x_a3 : Nat → Int32) (p1 : Int32) (p3 : Int32) {out : Int32} (hf : X8_isLike n_a1 n_a3 x_a1 x_a3 p1 p3 = some out) (hx : p.tables.exec = Jvm.exec) (hb : c.code = cX8_isLike) (hml : c.maxLocals = 6) (hown : s.vm.findClass RX8 = some m.cls) (hts : ∀ w ∈ wsX8_isLike, w.before args s = true) (hK : va_K D vwCl (TYS cy) s) (hE : EV t A s s.heap) (hA : ∀ q, s.heap.size ≤ q → A q) (hP : va_P D vwCl (wd_X8_isLike cy r_a1 n_a1 r_a3 n_a3 x_a1 x_a3) H) (hD : va_D A (wd_X8_isLike cy r_a1 n_a1 r_a3 n_a3 x_a1 x_a3)) (hS : va_S A s.heap H locs) (hl : lv_has ls 6 [(0, .ref r_a1), (1, .int p1), (2, .ref r_a3), (3, .int p3)]) (hR : ∀ (H : Heap) (locs : List Loc) (ls : Array Slot) (pc : Nat), va_P D vwCl (wd_X8_isLike cy r_a1 n_a1 r_a3 n_a3 x_a1 x_a3) H → va_D A (wd_X8_isLike cy r_a1 n_a1 r_a3 n_a3 x_a1 x_a3) → va_S A s.heap H locs → narrow .boolean (.int out) = .int out → decode cX8_isLike pc = .ok (.ireturn, 1) → W p l e (rmm 0 0) s m args below meth c H locs 0 0 Q (F0 m pc ls [.int out])) : W p l e (rmm 0 0) s m args below meth c H locs 0 0 Q (F0 m 0 ls []) := by
  rw [X8_isLike] at hf
  have h6 : ∀ (n6 : Nat) (l1 : Int32) (l3 : Int32) (l4 : Int32) (l5 : Int32) (H : Heap) (locs : List Loc) (ls : Array Slot), X8_isLike_L6 n_a1 n_a3 x_a1 x_a3 n6 l1 l3 l4 l5 = some out → va_P D vwCl (wd_X8_isLike cy r_a1 n_a1 r_a3 n_a3 x_a1 x_a3) H → va_D A (wd_X8_isLike cy r_a1 n_a1 r_a3 n_a3 x_a1 x_a3) → va_S A s.heap H locs → lv_has ls 6 [(0, .ref r_a1), (1, .int l1), (2, .ref r_a3), (3, .int l3), (4, .int l4), (5, .int l5)] → W p l e (rmm 0 0) s m args below meth c H locs 0 0 Q (F0 m 6 ls []) := by
    intro n6
    induction n6 with
    | zero =>
      intro _ _ _ _ _ _ _ hf
      exact nomatch (show (none : Option _) = some out from hf)
    | succ n6 ih6 =>
      intro l1 l3 l4 l5 H locs ls hf hP hD hS hl
      have hf : X8_isLike_L6_B n_a1 n_a3 x_a1 x_a3 (X8_isLike_L6 n_a1 n_a3 x_a1 x_a3 n6) l1 l3 l4 l5 = some out := hf
      rw [X8_isLike_L6_B] at hf
      refine lv_iload hx hb dX8_isLike_6 (lv_at hl 5 rfl) ?_
      refine lv_bipush (v := (13 : Int32)) hx hb dX8_isLike_8 (by decide) ?_
      refine lv_icmp_ge (tgt := 46) hx hb dX8_isLike_10 (by decide) (fun c10 => ?_) (fun c10 => ?_)
      · have hf := ifp c10 hf
        refine lv_iload hx hb dX8_isLike_46 (lv_at hl 4 rfl) ?_
        obtain ⟨z48, hf⟩ := zb_s hf
        obtain rfl := Option.some.inj hf
        exact hR _ _ _ _ hP hD hS z48 dX8_isLike_48
      · have hf := ifn c10 hf
        have h38 : ∀ (l1 : Int32) (l3 : Int32) (l5 : Int32) (s0 : Int32) (H : Heap) (locs : List Loc) (ls : Array Slot), X8_isLike_J38 n_a1 n_a3 x_a1 x_a3 (X8_isLike_L6 n_a1 n_a3 x_a1 x_a3 n6) l1 l3 l5 s0 = some out → va_P D vwCl (wd_X8_isLike cy r_a1 n_a1 r_a3 n_a3 x_a1 x_a3) H → va_D A (wd_X8_isLike cy r_a1 n_a1 r_a3 n_a3 x_a1 x_a3) → va_S A s.heap H locs → lv_has ls 6 [(0, .ref r_a1), (1, .int l1), (2, .ref r_a3), (3, .int l3), (5, .int l5)] → W p l e (rmm 0 0) s m args below meth c H locs 0 0 Q (F0 m 38 ls [.int s0]) := by
          intro l1 l3 l5 s0 H locs ls hf hP hD hS hl
          rw [X8_isLike_J38] at hf
          refine lv_istore (lv' := [(4, .int s0), (0, .ref r_a1), (1, .int l1), (2, .ref r_a3), (3, .int l3), (5, .int l5)]) hx hb dX8_isLike_38 hl (by decide) rfl (fun ls hl => ?_)
          obtain ⟨v40, ev40, hf⟩ := nm_s hf
          refine lv_iinc (v := v40) (lv' := [(5, .int v40), (4, .int s0), (0, .ref r_a1), (1, .int l1), (2, .ref r_a3), (3, .int l3)]) hx hb dX8_isLike_40 hl (k := 5) rfl (by rw [ev40]; rfl) (by decide) rfl (fun ls hl => ?_)
          refine lv_goto (tgt := 6) hx hb dX8_isLike_43 (by decide) ?_
          exact ih6 _ _ _ _ _ _ _ hf hP hD hS (lv_sub hl [2, 3, 4, 5, 1, 0] rfl)
        have h37 : ∀ (l1 : Int32) (l3 : Int32) (l5 : Int32) (H : Heap) (locs : List Loc) (ls : Array Slot), X8_isLike_J37 n_a1 n_a3 x_a1 x_a3 (X8_isLike_L6 n_a1 n_a3 x_a1 x_a3 n6) l1 l3 l5 = some out → va_P D vwCl (wd_X8_isLike cy r_a1 n_a1 r_a3 n_a3 x_a1 x_a3) H → va_D A (wd_X8_isLike cy r_a1 n_a1 r_a3 n_a3 x_a1 x_a3) → va_S A s.heap H locs → lv_has ls 6 [(0, .ref r_a1), (1, .int l1), (2, .ref r_a3), (3, .int l3), (5, .int l5)] → W p l e (rmm 0 0) s m args below meth c H locs 0 0 Q (F0 m 37 ls []) := by
          intro l1 l3 l5 H locs ls hf hP hD hS hl
          rw [X8_isLike_J37] at hf
          refine lv_iconst (v := (0 : Int32)) hx hb dX8_isLike_37 (by decide) ?_
          exact h38 _ _ _ _ _ _ _ hf hP hD hS (lv_sub hl [0, 1, 2, 3, 4] rfl)
        refine lv_iload hx hb dX8_isLike_13 (lv_at hl 4 rfl) ?_
        refine lv_if_eq (tgt := 37) hx hb dX8_isLike_15 (by decide) (fun c15 => ?_) (fun c15 => ?_)
        · have hf := ifp c15 hf
          exact h37 _ _ _ _ _ _ hf hP hD hS (lv_sub hl [0, 1, 2, 3, 5] rfl)
        · have hf := ifn c15 hf
          refine lv_aload_n hx hb dX8_isLike_18 rfl (lv_at hl 0 rfl) ?_
          refine lv_iload_n hx hb dX8_isLike_19 rfl (lv_at hl 1 rfl) ?_
          refine lv_iload hx hb dX8_isLike_20 (lv_at hl 5 rfl) ?_
          refine lv_iadd hx hb dX8_isLike_22 ?_
          obtain ⟨v23, b23, ev23, hf⟩ := rd_s hf
          refine my_iald hx hb hK hP 0 rfl b23 ev23 dX8_isLike_23 ?_
          refine lv_aload_n hx hb dX8_isLike_24 rfl (lv_at hl 2 rfl) ?_
          refine lv_iload_n hx hb dX8_isLike_25 rfl (lv_at hl 3 rfl) ?_
          refine lv_iload hx hb dX8_isLike_26 (lv_at hl 5 rfl) ?_
          refine lv_iadd hx hb dX8_isLike_28 ?_
          obtain ⟨v29, b29, ev29, hf⟩ := rd_s hf
          refine my_iald hx hb hK hP 1 rfl b29 ev29 dX8_isLike_29 ?_
          refine lv_icmp_ne (tgt := 37) hx hb dX8_isLike_30 (by decide) (fun c30 => ?_) (fun c30 => ?_)
          · have hf := ifn c30 hf
            exact h37 _ _ _ _ _ _ hf hP hD hS (lv_sub hl [0, 1, 2, 3, 5] rfl)
          · have hf := ifp c30 hf
            refine lv_iconst (v := (1 : Int32)) hx hb dX8_isLike_33 (by decide) ?_
            refine lv_goto (tgt := 38) hx hb dX8_isLike_34 (by decide) ?_
            exact h38 _ _ _ _ _ _ _ hf hP hD hS (lv_sub hl [0, 1, 2, 3, 5] rfl)
  refine lv_iconst (v := (1 : Int32)) hx hb dX8_isLike_0 (by decide) ?_
  refine lv_istore (lv' := [(4, .int (1 : Int32)), (0, .ref r_a1), (1, .int p1), (2, .ref r_a3), (3, .int p3)]) hx hb dX8_isLike_1 hl (by decide) rfl (fun ls hl => ?_)
  refine lv_iconst (v := (0 : Int32)) hx hb dX8_isLike_3 (by decide) ?_
  refine lv_istore (lv' := [(5, .int (0 : Int32)), (4, .int (1 : Int32)), (0, .ref r_a1), (1, .int p1), (2, .ref r_a3), (3, .int p3)]) hx hb dX8_isLike_4 hl (by decide) rfl (fun ls hl => ?_)
  exact h6 FU _ _ _ _ _ _ _ hf hP hD hS (lv_sub hl [2, 3, 4, 5, 1, 0] rfl)
theorem hd_X8_isLike : yX8_isLike.cls ≠ "java/lang/invoke/MethodHandle" ∧ yX8_isLike.cls ≠ "java/lang/invoke/VarHandle" ∧ (parseMethodDescriptor yX8_isLike.desc).map (fun d => d.parameters.length) = some 4 := by decide +kernel
set_option maxRecDepth 100000 in
theorem c_X8_isLike (l : Launch) (D : va_G) (cy : Nat → ClassId) (t : Nat → Nat) (r_a1 n_a1 : Nat) (r_a3 n_a3 : Nat) (x_a1 : Nat → Int32) (x_a3 : Nat → Int32) (p1 : Int32) (p3 : Int32) {out : Int32} (hf : X8_isLike n_a1 n_a3 x_a1 x_a3 p1 p3 = some out) : ctI l yX8_isLike wsX8_isLike 0 0 D cy t [.ref r_a1, .int p1, .ref r_a3, .int p3] (wd_X8_isLike cy r_a1 n_a1 r_a3 n_a3 x_a1 x_a3) (wd_X8_isLike cy r_a1 n_a1 r_a3 n_a3 x_a1 x_a3) out := by
  refine ⟨rfl, ?_⟩
  intro sz
  refine Met.ofW (cc := cX8_isLike) (maxL := 6) (ret := (some .boolean)) (by decide) rfl ?_
  intro p e s m args below meth c s₁ B hml hv
  obtain ⟨rfl, hsz, hP, hK, hD0, hE⟩ := hv
  have hts := atoms_spec (ws := wsX8_isLike) B.pre
  have hown : s.vm.findClass RX8 = some m.cls := findClass_of_methodNamed B.named
  have hlocks := B.notSynchronized
  subst hsz
  have hD := hD0.self (sz := s.heap.size)
  have hl := lv_entry ([.ref r_a1, .int p1, .ref r_a3, .int p3]) (n := 6) (Nat.le_of_ble_eq_true rfl)
  rw [lg_entry_eq]
  generalize (lg_sl ([.ref r_a1, .int p1, .ref r_a3, .int p3]) ++ List.replicate (6 - (lg_sl ([.ref r_a1, .int p1, .ref r_a3, .int p3])).length) Slot.unset).toArray = ls at hl ⊢
  exact w_X8_isLike D cy t  r_a1 n_a1 r_a3 n_a3 x_a1 x_a3 p1 p3 hf B.exec B.bytes hml hown hts hK hE (fun q h => Or.inr h) hP hD va_S.rf hl (fun H locs ls pc hP hD hS z hdg => W.zret B.exec B.bytes B.returns z (fun t ht hW => ⟨⟨_, (), rfl, rfl, ctB_of ht hP⟩, hS.F ht⟩) hS.2.2 hdg)

noncomputable def X8_wrong_J188 (x_delay : Int32) (x_wide : Nat → Int32) (x_tall : Nat → Int32) (x_hands : Nat → Int32) (x_power : Nat → Int32) (x_spin : Nat → Int32) (x_seed : Nat → Int32) (x_pressed : Nat → Int32) (x_leftFrom : Nat → Int32) (x_leftTo : Nat → Int32) (x_wait : Nat → Int32) (x_isLost : Nat → Int32) (x_thrown : Int32) (x_ball : Int32) (x_w : Int32) (x_h : Int32) (x_n : Int32) (x_place : Nat → Int32) (x_points : Nat → Int32) (x_other : Nat → Int32) (x_takes : Nat → Int32) (x_trueStates : Nat → Int32) (l3 : Int32) (l4 : Int32) (l6 : Int32) : Option (Int32 × Int32 × Int32 × Int32 × Int32 × Int32 × (Nat → Int32) × (Nat → Int32) × (Nat → Int32) × (Nat → Int32) × (Nat → Int32)) :=
  if l3 = (0 : Int32) then (some (l4, x_thrown, x_ball, x_w, x_h, x_n, x_place, x_points, x_other, x_takes, x_trueStates)) else (some (l6, x_thrown, x_ball, x_w, x_h, x_n, x_place, x_points, x_other, x_takes, x_trueStates))
noncomputable def X8_wrong_J180 (x_delay : Int32) (x_wide : Nat → Int32) (x_tall : Nat → Int32) (x_hands : Nat → Int32) (x_power : Nat → Int32) (x_spin : Nat → Int32) (x_seed : Nat → Int32) (x_pressed : Nat → Int32) (x_leftFrom : Nat → Int32) (x_leftTo : Nat → Int32) (x_wait : Nat → Int32) (x_isLost : Nat → Int32) (rec87 : Int32 → Int32 → Int32 → Int32 → Int32 → (Nat → Int32) → (Nat → Int32) → (Nat → Int32) → (Nat → Int32) → (Nat → Int32) → Int32 → Int32 → Int32 → Int32 → Int32 → Int32 → Int32 → Option (Int32 × Int32 × Int32 × Int32 × Int32 × Int32 × (Nat → Int32) × (Nat → Int32) × (Nat → Int32) × (Nat → Int32) × (Nat → Int32))) (x_thrown : Int32) (x_ball : Int32) (x_w : Int32) (x_h : Int32) (x_n : Int32) (x_place : Nat → Int32) (x_points : Nat → Int32) (x_other : Nat → Int32) (x_takes : Nat → Int32) (x_trueStates : Nat → Int32) (l1 : Int32) (l2 : Int32) (l3 : Int32) (l4 : Int32) (l5 : Int32) (l7 : Int32) (s0 : Int32) : Option (Int32 × Int32 × Int32 × Int32 × Int32 × Int32 × (Nat → Int32) × (Nat → Int32) × (Nat → Int32) × (Nat → Int32) × (Nat → Int32)) :=
  nm (l7 + (1 : Int32)) fun v182 => rec87 x_thrown x_ball x_w x_h x_n x_place x_points x_other x_takes x_trueStates l1 l2 l3 l4 l5 s0 v182
noncomputable def X8_wrong_J164 (x_delay : Int32) (x_wide : Nat → Int32) (x_tall : Nat → Int32) (x_hands : Nat → Int32) (x_power : Nat → Int32) (x_spin : Nat → Int32) (x_seed : Nat → Int32) (x_pressed : Nat → Int32) (x_leftFrom : Nat → Int32) (x_leftTo : Nat → Int32) (x_wait : Nat → Int32) (x_isLost : Nat → Int32) (rec87 : Int32 → Int32 → Int32 → Int32 → Int32 → (Nat → Int32) → (Nat → Int32) → (Nat → Int32) → (Nat → Int32) → (Nat → Int32) → Int32 → Int32 → Int32 → Int32 → Int32 → Int32 → Int32 → Option (Int32 × Int32 × Int32 × Int32 × Int32 × Int32 × (Nat → Int32) × (Nat → Int32) × (Nat → Int32) × (Nat → Int32) × (Nat → Int32))) (x_thrown : Int32) (x_ball : Int32) (x_w : Int32) (x_h : Int32) (x_n : Int32) (x_place : Nat → Int32) (x_points : Nat → Int32) (x_other : Nat → Int32) (x_takes : Nat → Int32) (x_trueStates : Nat → Int32) (l1 : Int32) (l2 : Int32) (l3 : Int32) (l4 : Int32) (l6 : Int32) (l7 : Int32) (s0 : Int32) : Option (Int32 × Int32 × Int32 × Int32 × Int32 × Int32 × (Nat → Int32) × (Nat → Int32) × (Nat → Int32) × (Nat → Int32) × (Nat → Int32)) :=
  if s0 ≤ l6 then (X8_wrong_J180 x_delay x_wide x_tall x_hands x_power x_spin x_seed x_pressed x_leftFrom x_leftTo x_wait x_isLost rec87 x_thrown x_ball x_w x_h x_n x_place x_points x_other x_takes x_trueStates l1 l2 l3 l4 s0 l7 l6) else (X8_wrong_J180 x_delay x_wide x_tall x_hands x_power x_spin x_seed x_pressed x_leftFrom x_leftTo x_wait x_isLost rec87 x_thrown x_ball x_w x_h x_n x_place x_points x_other x_takes x_trueStates l1 l2 l3 l4 s0 l7 s0)
noncomputable def X8_wrong_J148 (x_delay : Int32) (x_wide : Nat → Int32) (x_tall : Nat → Int32) (x_hands : Nat → Int32) (x_power : Nat → Int32) (x_spin : Nat → Int32) (x_seed : Nat → Int32) (x_pressed : Nat → Int32) (x_leftFrom : Nat → Int32) (x_leftTo : Nat → Int32) (x_wait : Nat → Int32) (x_isLost : Nat → Int32) (rec87 : Int32 → Int32 → Int32 → Int32 → Int32 → (Nat → Int32) → (Nat → Int32) → (Nat → Int32) → (Nat → Int32) → (Nat → Int32) → Int32 → Int32 → Int32 → Int32 → Int32 → Int32 → Int32 → Option (Int32 × Int32 × Int32 × Int32 × Int32 × Int32 × (Nat → Int32) × (Nat → Int32) × (Nat → Int32) × (Nat → Int32) × (Nat → Int32))) (x_thrown : Int32) (x_ball : Int32) (x_w : Int32) (x_h : Int32) (x_n : Int32) (x_place : Nat → Int32) (x_points : Nat → Int32) (x_other : Nat → Int32) (x_takes : Nat → Int32) (x_trueStates : Nat → Int32) (l1 : Int32) (l2 : Int32) (l3 : Int32) (l5 : Int32) (l6 : Int32) (l7 : Int32) (l8 : Int32) (s0 : Int32) (s1 : Int32) : Option (Int32 × Int32 × Int32 × Int32 × Int32 × Int32 × (Nat → Int32) × (Nat → Int32) × (Nat → Int32) × (Nat → Int32) × (Nat → Int32)) :=
  nm (s0 + s1) fun v149 => if l8 = (0 : Int32) then (X8_wrong_J164 x_delay x_wide x_tall x_hands x_power x_spin x_seed x_pressed x_leftFrom x_leftTo x_wait x_isLost rec87 x_thrown x_ball x_w x_h x_n x_place x_points x_other x_takes x_trueStates l1 l2 l3 v149 l6 l7 (0 : Int32)) else (X8_wrong_J164 x_delay x_wide x_tall x_hands x_power x_spin x_seed x_pressed x_leftFrom x_leftTo x_wait x_isLost rec87 x_thrown x_ball x_w x_h x_n x_place x_points x_other x_takes x_trueStates l1 l2 l3 v149 l6 l7 (l5 + (1 : Int32)))
noncomputable def X8_wrong_J134 (x_delay : Int32) (x_wide : Nat → Int32) (x_tall : Nat → Int32) (x_hands : Nat → Int32) (x_power : Nat → Int32) (x_spin : Nat → Int32) (x_seed : Nat → Int32) (x_pressed : Nat → Int32) (x_leftFrom : Nat → Int32) (x_leftTo : Nat → Int32) (x_wait : Nat → Int32) (x_isLost : Nat → Int32) (rec87 : Int32 → Int32 → Int32 → Int32 → Int32 → (Nat → Int32) → (Nat → Int32) → (Nat → Int32) → (Nat → Int32) → (Nat → Int32) → Int32 → Int32 → Int32 → Int32 → Int32 → Int32 → Int32 → Option (Int32 × Int32 × Int32 × Int32 × Int32 × Int32 × (Nat → Int32) × (Nat → Int32) × (Nat → Int32) × (Nat → Int32) × (Nat → Int32))) (x_thrown : Int32) (x_ball : Int32) (x_w : Int32) (x_h : Int32) (x_n : Int32) (x_place : Nat → Int32) (x_points : Nat → Int32) (x_other : Nat → Int32) (x_takes : Nat → Int32) (x_trueStates : Nat → Int32) (l1 : Int32) (l2 : Int32) (l3 : Int32) (l4 : Int32) (l5 : Int32) (l6 : Int32) (l7 : Int32) (s0 : Int32) : Option (Int32 × Int32 × Int32 × Int32 × Int32 × Int32 × (Nat → Int32) × (Nat → Int32) × (Nat → Int32) × (Nat → Int32) × (Nat → Int32)) :=
  if s0 = (0 : Int32) then (X8_wrong_J148 x_delay x_wide x_tall x_hands x_power x_spin x_seed x_pressed x_leftFrom x_leftTo x_wait x_isLost rec87 x_thrown x_ball x_w x_h x_n x_place x_points x_other x_takes x_trueStates l1 l2 l3 l5 l6 l7 s0 l4 (0 : Int32)) else (X8_wrong_J148 x_delay x_wide x_tall x_hands x_power x_spin x_seed x_pressed x_leftFrom x_leftTo x_wait x_isLost rec87 x_thrown x_ball x_w x_h x_n x_place x_points x_other x_takes x_trueStates l1 l2 l3 l5 l6 l7 s0 l4 (1 : Int32))
noncomputable def X8_wrong_L87_B (x_delay : Int32) (x_wide : Nat → Int32) (x_tall : Nat → Int32) (x_hands : Nat → Int32) (x_power : Nat → Int32) (x_spin : Nat → Int32) (x_seed : Nat → Int32) (x_pressed : Nat → Int32) (x_leftFrom : Nat → Int32) (x_leftTo : Nat → Int32) (x_wait : Nat → Int32) (x_isLost : Nat → Int32) (rec87 : Int32 → Int32 → Int32 → Int32 → Int32 → (Nat → Int32) → (Nat → Int32) → (Nat → Int32) → (Nat → Int32) → (Nat → Int32) → Int32 → Int32 → Int32 → Int32 → Int32 → Int32 → Int32 → Option (Int32 × Int32 × Int32 × Int32 × Int32 × Int32 × (Nat → Int32) × (Nat → Int32) × (Nat → Int32) × (Nat → Int32) × (Nat → Int32))) (x_thrown : Int32) (x_ball : Int32) (x_w : Int32) (x_h : Int32) (x_n : Int32) (x_place : Nat → Int32) (x_points : Nat → Int32) (x_other : Nat → Int32) (x_takes : Nat → Int32) (x_trueStates : Nat → Int32) (l1 : Int32) (l2 : Int32) (l3 : Int32) (l4 : Int32) (l5 : Int32) (l6 : Int32) (l7 : Int32) : Option (Int32 × Int32 × Int32 × Int32 × Int32 × Int32 × (Nat → Int32) × (Nat → Int32) × (Nat → Int32) × (Nat → Int32) × (Nat → Int32)) :=
  if l2 < l7 then (X8_wrong_J188 x_delay x_wide x_tall x_hands x_power x_spin x_seed x_pressed x_leftFrom x_leftTo x_wait x_isLost  x_thrown x_ball x_w x_h x_n x_place x_points x_other x_takes x_trueStates l3 l4 l6) else (bd (X8_show x_delay x_wide x_tall x_hands x_power x_spin x_seed x_pressed x_leftFrom x_leftTo x_wait x_isLost x_ball x_w x_h x_n x_place x_points x_takes l1 l7) fun r97 => bd (X8_write 13 r97.1 r97.2.2.2.2.1 r97.2.2.2.2.2.1 x_other (0 : Int32)) fun r106 => bd (X8_isLike 13 1300 r106 x_trueStates (0 : Int32) ((13 : Int32) * l7)) fun r123 => if r123 = (0 : Int32) then (X8_wrong_J134 x_delay x_wide x_tall x_hands x_power x_spin x_seed x_pressed x_leftFrom x_leftTo x_wait x_isLost rec87 x_thrown r97.1 r97.2.1 r97.2.2.1 r97.2.2.2.1 r97.2.2.2.2.1 r97.2.2.2.2.2.1 r106 r97.2.2.2.2.2.2 x_trueStates l1 l2 l3 l4 l5 l6 l7 (1 : Int32)) else (X8_wrong_J134 x_delay x_wide x_tall x_hands x_power x_spin x_seed x_pressed x_leftFrom x_leftTo x_wait x_isLost rec87 x_thrown r97.1 r97.2.1 r97.2.2.1 r97.2.2.2.1 r97.2.2.2.2.1 r97.2.2.2.2.2.1 r106 r97.2.2.2.2.2.2 x_trueStates l1 l2 l3 l4 l5 l6 l7 (0 : Int32)))
noncomputable def X8_wrong_L87 (x_delay : Int32) (x_wide : Nat → Int32) (x_tall : Nat → Int32) (x_hands : Nat → Int32) (x_power : Nat → Int32) (x_spin : Nat → Int32) (x_seed : Nat → Int32) (x_pressed : Nat → Int32) (x_leftFrom : Nat → Int32) (x_leftTo : Nat → Int32) (x_wait : Nat → Int32) (x_isLost : Nat → Int32) : Nat → Int32 → Int32 → Int32 → Int32 → Int32 → (Nat → Int32) → (Nat → Int32) → (Nat → Int32) → (Nat → Int32) → (Nat → Int32) → Int32 → Int32 → Int32 → Int32 → Int32 → Int32 → Int32 → Option (Int32 × Int32 × Int32 × Int32 × Int32 × Int32 × (Nat → Int32) × (Nat → Int32) × (Nat → Int32) × (Nat → Int32) × (Nat → Int32))
  | 0, _, _, _, _, _, _, _, _, _, _, _, _, _, _, _, _, _ => none
  | n + 1, y0, y1, y2, y3, y4, y5, y6, y7, y8, y9, y10, y11, y12, y13, y14, y15, y16 => X8_wrong_L87_B x_delay x_wide x_tall x_hands x_power x_spin x_seed x_pressed x_leftFrom x_leftTo x_wait x_isLost  (X8_wrong_L87 x_delay x_wide x_tall x_hands x_power x_spin x_seed x_pressed x_leftFrom x_leftTo x_wait x_isLost  n) y0 y1 y2 y3 y4 y5 y6 y7 y8 y9 y10 y11 y12 y13 y14 y15 y16
noncomputable def X8_wrong_J75 (x_delay : Int32) (x_wide : Nat → Int32) (x_tall : Nat → Int32) (x_hands : Nat → Int32) (x_power : Nat → Int32) (x_spin : Nat → Int32) (x_seed : Nat → Int32) (x_pressed : Nat → Int32) (x_leftFrom : Nat → Int32) (x_leftTo : Nat → Int32) (x_wait : Nat → Int32) (x_isLost : Nat → Int32) (x_thrown : Int32) (x_ball : Int32) (x_w : Int32) (x_h : Int32) (x_n : Int32) (x_place : Nat → Int32) (x_points : Nat → Int32) (x_other : Nat → Int32) (x_takes : Nat → Int32) (x_trueStates : Nat → Int32) (l1 : Int32) (l2 : Int32) (l3 : Int32) : Option (Int32 × Int32 × Int32 × Int32 × Int32 × Int32 × (Nat → Int32) × (Nat → Int32) × (Nat → Int32) × (Nat → Int32) × (Nat → Int32)) :=
  X8_wrong_L87 x_delay x_wide x_tall x_hands x_power x_spin x_seed x_pressed x_leftFrom x_leftTo x_wait x_isLost  FU x_thrown x_ball x_w x_h x_n x_place x_points x_other x_takes x_trueStates l1 l2 l3 (0 : Int32) (0 : Int32) (0 : Int32) (0 : Int32)
noncomputable def X8_wrong_L30_B (x_delay : Int32) (x_wide : Nat → Int32) (x_tall : Nat → Int32) (x_hands : Nat → Int32) (x_power : Nat → Int32) (x_spin : Nat → Int32) (x_seed : Nat → Int32) (x_pressed : Nat → Int32) (x_leftFrom : Nat → Int32) (x_leftTo : Nat → Int32) (x_wait : Nat → Int32) (x_isLost : Nat → Int32) (rec30 : Int32 → Int32 → Int32 → Int32 → Int32 → (Nat → Int32) → (Nat → Int32) → (Nat → Int32) → (Nat → Int32) → (Nat → Int32) → Int32 → Int32 → Int32 → Int32 → Option (Int32 × Int32 × Int32 × Int32 × Int32 × Int32 × (Nat → Int32) × (Nat → Int32) × (Nat → Int32) × (Nat → Int32) × (Nat → Int32))) (x_thrown : Int32) (x_ball : Int32) (x_w : Int32) (x_h : Int32) (x_n : Int32) (x_place : Nat → Int32) (x_points : Nat → Int32) (x_other : Nat → Int32) (x_takes : Nat → Int32) (x_trueStates : Nat → Int32) (l1 : Int32) (l2 : Int32) (l3 : Int32) (l4 : Int32) : Option (Int32 × Int32 × Int32 × Int32 × Int32 × Int32 × (Nat → Int32) × (Nat → Int32) × (Nat → Int32) × (Nat → Int32) × (Nat → Int32)) :=
  if l2 < l4 then (X8_wrong_J75 x_delay x_wide x_tall x_hands x_power x_spin x_seed x_pressed x_leftFrom x_leftTo x_wait x_isLost  x_thrown x_ball x_w x_h x_n x_place x_points x_other x_takes x_trueStates l1 l2 l3) else (rd x_power 5 (4 : Int32) fun v52 => bd (X8_step 3000 x_w x_h x_n x_spin x_seed x_leftFrom x_leftTo x_pressed x_ball x_place x_points (4 : Int32) l4 (2400 : Int32) v52) fun r53 => bd (X8_write 1300 r53.1 r53.2.1 r53.2.2 x_trueStates ((13 : Int32) * l4)) fun r66 => nm (l4 + (1 : Int32)) fun v69 => rec30 x_thrown r53.1 x_w x_h x_n r53.2.1 r53.2.2 x_other x_takes r66 l1 l2 l3 v69)
noncomputable def X8_wrong_L30 (x_delay : Int32) (x_wide : Nat → Int32) (x_tall : Nat → Int32) (x_hands : Nat → Int32) (x_power : Nat → Int32) (x_spin : Nat → Int32) (x_seed : Nat → Int32) (x_pressed : Nat → Int32) (x_leftFrom : Nat → Int32) (x_leftTo : Nat → Int32) (x_wait : Nat → Int32) (x_isLost : Nat → Int32) : Nat → Int32 → Int32 → Int32 → Int32 → Int32 → (Nat → Int32) → (Nat → Int32) → (Nat → Int32) → (Nat → Int32) → (Nat → Int32) → Int32 → Int32 → Int32 → Int32 → Option (Int32 × Int32 × Int32 × Int32 × Int32 × Int32 × (Nat → Int32) × (Nat → Int32) × (Nat → Int32) × (Nat → Int32) × (Nat → Int32))
  | 0, _, _, _, _, _, _, _, _, _, _, _, _, _, _ => none
  | n + 1, y0, y1, y2, y3, y4, y5, y6, y7, y8, y9, y10, y11, y12, y13 => X8_wrong_L30_B x_delay x_wide x_tall x_hands x_power x_spin x_seed x_pressed x_leftFrom x_leftTo x_wait x_isLost  (X8_wrong_L30 x_delay x_wide x_tall x_hands x_power x_spin x_seed x_pressed x_leftFrom x_leftTo x_wait x_isLost  n) y0 y1 y2 y3 y4 y5 y6 y7 y8 y9 y10 y11 y12 y13
noncomputable def X8_wrong (x_delay : Int32) (x_wide : Nat → Int32) (x_tall : Nat → Int32) (x_hands : Nat → Int32) (x_power : Nat → Int32) (x_spin : Nat → Int32) (x_seed : Nat → Int32) (x_pressed : Nat → Int32) (x_leftFrom : Nat → Int32) (x_leftTo : Nat → Int32) (x_wait : Nat → Int32) (x_isLost : Nat → Int32) (x_thrown : Int32) (x_ball : Int32) (x_w : Int32) (x_h : Int32) (x_n : Int32) (x_place : Nat → Int32) (x_points : Nat → Int32) (x_other : Nat → Int32) (x_takes : Nat → Int32) (x_trueStates : Nat → Int32) (p1 : Int32) (p2 : Int32) (p3 : Int32) : Option (Int32 × Int32 × Int32 × Int32 × Int32 × Int32 × (Nat → Int32) × (Nat → Int32) × (Nat → Int32) × (Nat → Int32) × (Nat → Int32)) :=
  bd (X8_noHand x_hands p1) fun r7 => if r7 = (0 : Int32) then (bd (X8_noTick p2) fun r14 => if r14 = (0 : Int32) then (bd (X8_start x_wide x_tall x_hands x_ball x_w x_h x_n x_place x_points (4 : Int32)) fun r24 => X8_wrong_L30 x_delay x_wide x_tall x_hands x_power x_spin x_seed x_pressed x_leftFrom x_leftTo x_wait x_isLost  FU (0 : Int32) r24.1 r24.2.1 r24.2.2.1 r24.2.2.2.1 r24.2.2.2.2.1 r24.2.2.2.2.2 x_other x_takes x_trueStates p1 p2 p3 (0 : Int32)) else (some ((-1 : Int32), (0 : Int32), x_ball, x_w, x_h, x_n, x_place, x_points, x_other, x_takes, x_trueStates))) else (some ((-1 : Int32), (0 : Int32), x_ball, x_w, x_h, x_n, x_place, x_points, x_other, x_takes, x_trueStates))
abbrev wd_X8_wrong (cy : Nat → ClassId) (o_t : Nat → Nat) (x_thrown : Int32) (x_delay : Int32) (x_feel : Int32) (x_turn : Int32) (x_sight : Int32) (x_ball : Int32) (x_w : Int32) (x_h : Int32) (x_n : Int32) (x_players : Int32) (x_wide : Nat → Int32) (x_tall : Nat → Int32) (x_hands : Nat → Int32) (x_power : Nat → Int32) (x_spin : Nat → Int32) (x_seed : Nat → Int32) (x_pressed : Nat → Int32) (x_leftFrom : Nat → Int32) (x_leftTo : Nat → Int32) (x_wait : Nat → Int32) (x_isLost : Nat → Int32) (x_place : Nat → Int32) (x_points : Nat → Int32) (x_other : Nat → Int32) (x_takes : Nat → Int32) (x_trueStates : Nat → Int32) : va_W := [(o_t 0, .inr (8, [.int x_thrown, .ref (o_t 2), .ref (o_t 3), .ref (o_t 4), .ref (o_t 5), .ref (o_t 6), .ref (o_t 7), .ref (o_t 8), .ref (o_t 9), .ref (o_t 10), .ref (o_t 11), .int x_delay, .int x_feel, .int x_turn, .int x_sight, .ref (o_t 16), .ref (o_t 17), .ref (o_t 18), .ref (o_t 19), .int x_ball, .int x_w, .int x_h, .int x_n, .ref (o_t 24), .ref (o_t 25), .ref (o_t 26), .ref (o_t 27), .ref (o_t 28), .ref (o_t 29), .int x_players, .ref (o_t 31), .ref (o_t 32), .ref (o_t 33), .ref (o_t 34), .ref (o_t 35), .ref (o_t 36)])), (o_t 2, .inl (cy 0, 5, .inl x_wide)), (o_t 3, .inl (cy 0, 5, .inl x_tall)), (o_t 4, .inl (cy 0, 5, .inl x_hands)), (o_t 5, .inl (cy 0, 5, .inl x_power)), (o_t 6, .inl (cy 0, 5, .inl x_spin)), (o_t 7, .inl (cy 0, 5, .inl x_seed)), (o_t 8, .inl (cy 0, 3000, .inl x_pressed)), (o_t 9, .inl (cy 0, 30, .inl x_leftFrom)), (o_t 10, .inl (cy 0, 30, .inl x_leftTo)), (o_t 16, .inl (cy 0, 36, .inl x_wait)), (o_t 17, .inl (cy 1, 600, .inl x_isLost)), (o_t 18, .inl (cy 0, 6, .inl x_place)), (o_t 19, .inl (cy 0, 6, .inl x_points)), (o_t 24, .inl (cy 0, 13, .inl x_other)), (o_t 25, .inl (cy 0, 600, .inl x_takes)), (o_t 27, .inl (cy 0, 1300, .inl x_trueStates))]
set_option maxHeartbeats 4000000 in
set_option maxRecDepth 100000 in
theorem w_X8_wrong {p : Program} {l : Launch} {e : Env} {s : State} {m : MethodId} {args : Array Value} {below : List Frame} {meth : Method} {c : Code} {Q : State → Prop} {A : Nat → Prop} {H : Heap} {locs : List Loc} {ls : Array Slot} (D : va_G) (cy : Nat → ClassId) (t : Nat → Nat) (o_t : Nat → Nat) (x_thrown : Int32) (x_delay : Int32) (x_feel : Int32) (x_turn : Int32) (x_sight : Int32) (x_ball : Int32) (x_w : Int32) (x_h : Int32) (x_n : Int32) (x_players : Int32) (x_wide : Nat → Int32) (x_tall : Nat → Int32) (x_hands : Nat → Int32) (x_power : Nat → Int32) (x_spin : Nat → Int32) (x_seed : Nat → Int32) (x_pressed : Nat → Int32) (x_leftFrom : Nat → Int32) (x_leftTo : Nat → Int32) (x_wait : Nat → Int32) (x_isLost : Nat → Int32) (x_place : Nat → Int32) (x_points : Nat → Int32) (x_other : Nat → Int32) (x_takes : Nat → Int32) (x_trueStates : Nat → Int32) (p1 : Int32) (p2 : Int32) (p3 : Int32) {out : Int32 × Int32 × Int32 × Int32 × Int32 × Int32 × (Nat → Int32) × (Nat → Int32) × (Nat → Int32) × (Nat → Int32) × (Nat → Int32)} (hf : X8_wrong x_delay x_wide x_tall x_hands x_power x_spin x_seed x_pressed x_leftFrom x_leftTo x_wait x_isLost x_thrown x_ball x_w x_h x_n x_place x_points x_other x_takes x_trueStates p1 p2 p3 = some out) (hx : p.tables.exec = Jvm.exec) (hb : c.code = cX8_wrong) (hml : c.maxLocals = 9) (hown : s.vm.findClass RX8 = some m.cls) (hts : ∀ w ∈ wsX8_wrong, w.before args s = true) (hK : va_K D vwCl (TYS cy) s) (hE : EV t A s s.heap) (hA : ∀ q, s.heap.size ≤ q → A q) (hP : va_P D vwCl (wd_X8_wrong cy o_t x_thrown x_delay x_feel x_turn x_sight x_ball x_w x_h x_n x_players x_wide x_tall x_hands x_power x_spin x_seed x_pressed x_leftFrom x_leftTo x_wait x_isLost x_place x_points x_other x_takes x_trueStates) H) (hD : va_D A (wd_X8_wrong cy o_t x_thrown x_delay x_feel x_turn x_sight x_ball x_w x_h x_n x_players x_wide x_tall x_hands x_power x_spin x_seed x_pressed x_leftFrom x_leftTo x_wait x_isLost x_place x_points x_other x_takes x_trueStates)) (hS : va_S A s.heap H locs) (hl : lv_has ls 9 [(0, .ref (o_t 0)), (1, .int p1), (2, .int p2), (3, .int p3)]) (hR : ∀ (H : Heap) (locs : List Loc) (ls : Array Slot) (pc : Nat), va_P D vwCl (wd_X8_wrong cy o_t out.2.1 x_delay x_feel x_turn x_sight out.2.2.1 out.2.2.2.1 out.2.2.2.2.1 out.2.2.2.2.2.1 x_players x_wide x_tall x_hands x_power x_spin x_seed x_pressed x_leftFrom x_leftTo x_wait x_isLost out.2.2.2.2.2.2.1 out.2.2.2.2.2.2.2.1 out.2.2.2.2.2.2.2.2.1 out.2.2.2.2.2.2.2.2.2.1 out.2.2.2.2.2.2.2.2.2.2) H → va_D A (wd_X8_wrong cy o_t out.2.1 x_delay x_feel x_turn x_sight out.2.2.1 out.2.2.2.1 out.2.2.2.2.1 out.2.2.2.2.2.1 x_players x_wide x_tall x_hands x_power x_spin x_seed x_pressed x_leftFrom x_leftTo x_wait x_isLost out.2.2.2.2.2.2.1 out.2.2.2.2.2.2.2.1 out.2.2.2.2.2.2.2.2.1 out.2.2.2.2.2.2.2.2.2.1 out.2.2.2.2.2.2.2.2.2.2) → va_S A s.heap H locs → decode cX8_wrong pc = .ok (.ireturn, 1) → W p l e (rmm 6 150) s m args below meth c H locs 0 0 Q (F0 m pc ls [.int out.1])) : W p l e (rmm 6 150) s m args below meth c H locs 0 0 Q (F0 m 0 ls []) := by
  have k0 := hts (.fieldLink RX8 100 "SeaGamesModel" "thrown" "I") (List.mem_cons_of_mem _ (List.mem_append_left _ (List.mem_append_left _ (List.mem_of_getElem? (i := 0) rfl))))
  have k1 : ∀ w ∈ u_ws RX8 TX8 36, w ∈ wsX8_wrong := fun _ h => List.mem_cons_of_mem _ (List.mem_append_right _ h)
  have k2 := hts (.fieldLink RX8 63 "SeaGamesModel" "other" "[I") (List.mem_cons_of_mem _ (List.mem_append_left _ (List.mem_append_left _ (List.mem_of_getElem? (i := 4) rfl))))
  have k3 := hts (.fieldLink RX8 72 "SeaGamesModel" "trueStates" "[I") (List.mem_cons_of_mem _ (List.mem_append_left _ (List.mem_append_left _ (List.mem_of_getElem? (i := 3) rfl))))
  have k4 := hts (.fieldLink RX8 28 "SeaGamesModel" "pressed" "[I") (List.mem_cons_of_mem _ (List.mem_append_left _ (List.mem_append_left _ (List.mem_of_getElem? (i := 1) rfl))))
  have k5 := hts (.fieldLink RX8 19 "SeaGamesModel" "power" "[I") (List.mem_cons_of_mem _ (List.mem_append_left _ (List.mem_append_left _ (List.mem_of_getElem? (i := 2) rfl))))
  rw [X8_wrong] at hf
  refine lv_aload_n hx hb dX8_wrong_0 rfl (lv_at hl 0 rfl) ?_
  refine lv_iconst (v := (0 : Int32)) hx hb dX8_wrong_1 (by decide) ?_
  refine va_put (D := D) (ci := 8) (v := .int (0 : Int32)) (ty := .int) (C := RX8) (T := TX8) (N := 36) hx hb hts k1 tyX8 tyX8_ok nmX8 hown hK hP hD hS 0 rfl rfl 0 (by decide) k0 (fun _ h9 => h9) rfl (by decide +kernel) rfl rfl (Nat.le_of_ble_eq_true rfl) dX8_wrong_2 (fun H locs hP hD hS => ?_)
  have hP : va_P D vwCl (wd_X8_wrong cy o_t (0 : Int32) x_delay x_feel x_turn x_sight x_ball x_w x_h x_n x_players x_wide x_tall x_hands x_power x_spin x_seed x_pressed x_leftFrom x_leftTo x_wait x_isLost x_place x_points x_other x_takes x_trueStates) H := hP
  have hD : va_D A (wd_X8_wrong cy o_t (0 : Int32) x_delay x_feel x_turn x_sight x_ball x_w x_h x_n x_players x_wide x_tall x_hands x_power x_spin x_seed x_pressed x_leftFrom x_leftTo x_wait x_isLost x_place x_points x_other x_takes x_trueStates) := hD
  refine lv_aload_n hx hb dX8_wrong_5 rfl (lv_at hl 0 rfl) ?_
  refine lv_iload_n hx hb dX8_wrong_6 rfl (lv_at hl 1 rfl) ?_
  obtain ⟨r7, hr7, hf⟩ := bd_s hf
  refine my_Vi (WS2 := (wd_X8_wrong cy o_t (0 : Int32) x_delay x_feel x_turn x_sight x_ball x_w x_h x_n x_players x_wide x_tall x_hands x_power x_spin x_seed x_pressed x_leftFrom x_leftTo x_wait x_isLost x_place x_points x_other x_takes x_trueStates)) ⟨hx, hb, hml, hown, hts⟩ (c_X8_noHand l D cy t o_t (0 : Int32) x_delay x_feel x_turn x_sight x_ball x_w x_h x_n x_players x_hands p1 hr7) (cwV 1 hts gX8_wrong_X8_noHand rfl rfl rfl ⟨rfl, hd_X8_noHand⟩ ⟨Nat.le_of_ble_eq_true rfl, Nat.le_of_ble_eq_true rfl⟩) hK hE hP hD hS hA [0, 3] 17 8 0 rfl rfl rfl rfl (by decide +kernel) rfl rfl hl.1 rfl (Nat.le_of_ble_eq_true rfl) dX8_wrong_7 ⟨Nat.le_of_ble_eq_true rfl, Nat.le_of_ble_eq_true rfl⟩ (fun H locs hP hD hS => ?_)
  refine lv_if_ne (tgt := 20) hx hb dX8_wrong_10 (by decide) (fun c10 => ?_) (fun c10 => ?_)
  · have hf := ifn c10 hf
    refine lv_iconst (v := (-1 : Int32)) hx hb dX8_wrong_20 (by decide) ?_
    obtain rfl := Option.some.inj hf
    exact hR _ _ _ _ hP hD hS dX8_wrong_21
  · have hf := ifp c10 hf
    refine lv_iload_n hx hb dX8_wrong_13 rfl (lv_at hl 2 rfl) ?_
    obtain ⟨r14, hr14, hf⟩ := bd_s hf
    refine my_Si (WS2 := (wd_X8_wrong cy o_t (0 : Int32) x_delay x_feel x_turn x_sight x_ball x_w x_h x_n x_players x_wide x_tall x_hands x_power x_spin x_seed x_pressed x_leftFrom x_leftTo x_wait x_isLost x_place x_points x_other x_takes x_trueStates)) ⟨hx, hb, hml, hown, hts⟩ (c_X8_noTick l D cy t p2 hr14) (va_cwS 1 hts gX8_wrong_X8_noTick rfl rfl rfl hd_X8_noTick ⟨Nat.le_of_ble_eq_true rfl, Nat.le_of_ble_eq_true rfl⟩) hK hE hP hD hS hA [] 17 rfl rfl (by decide +kernel) rfl rfl hl.1 rfl (Nat.le_of_ble_eq_true rfl) dX8_wrong_14 ⟨Nat.le_of_ble_eq_true rfl, Nat.le_of_ble_eq_true rfl⟩ (fun H locs hP hD hS => ?_)
    refine lv_if_eq (tgt := 22) hx hb dX8_wrong_17 (by decide) (fun c17 => ?_) (fun c17 => ?_)
    · have hf := ifp c17 hf
      have h30 : ∀ (n30 : Nat) (x_thrown : Int32) (x_ball : Int32) (x_w : Int32) (x_h : Int32) (x_n : Int32) (x_place : Nat → Int32) (x_points : Nat → Int32) (x_other : Nat → Int32) (x_takes : Nat → Int32) (x_trueStates : Nat → Int32) (l1 : Int32) (l2 : Int32) (l3 : Int32) (l4 : Int32) (H : Heap) (locs : List Loc) (ls : Array Slot), X8_wrong_L30 x_delay x_wide x_tall x_hands x_power x_spin x_seed x_pressed x_leftFrom x_leftTo x_wait x_isLost n30 x_thrown x_ball x_w x_h x_n x_place x_points x_other x_takes x_trueStates l1 l2 l3 l4 = some out → va_P D vwCl (wd_X8_wrong cy o_t x_thrown x_delay x_feel x_turn x_sight x_ball x_w x_h x_n x_players x_wide x_tall x_hands x_power x_spin x_seed x_pressed x_leftFrom x_leftTo x_wait x_isLost x_place x_points x_other x_takes x_trueStates) H → va_D A (wd_X8_wrong cy o_t x_thrown x_delay x_feel x_turn x_sight x_ball x_w x_h x_n x_players x_wide x_tall x_hands x_power x_spin x_seed x_pressed x_leftFrom x_leftTo x_wait x_isLost x_place x_points x_other x_takes x_trueStates) → va_S A s.heap H locs → lv_has ls 9 [(0, .ref (o_t 0)), (1, .int l1), (2, .int l2), (3, .int l3), (4, .int l4)] → W p l e (rmm 6 150) s m args below meth c H locs 0 0 Q (F0 m 30 ls []) := by
        intro n30
        induction n30 with
        | zero =>
          intro _ _ _ _ _ _ _ _ _ _ _ _ _ _ _ _ _ hf
          exact nomatch (show (none : Option _) = some out from hf)
        | succ n30 ih30 =>
          intro x_thrown x_ball x_w x_h x_n x_place x_points x_other x_takes x_trueStates l1 l2 l3 l4 H locs ls hf hP hD hS hl
          have hf : X8_wrong_L30_B x_delay x_wide x_tall x_hands x_power x_spin x_seed x_pressed x_leftFrom x_leftTo x_wait x_isLost (X8_wrong_L30 x_delay x_wide x_tall x_hands x_power x_spin x_seed x_pressed x_leftFrom x_leftTo x_wait x_isLost n30) x_thrown x_ball x_w x_h x_n x_place x_points x_other x_takes x_trueStates l1 l2 l3 l4 = some out := hf
          rw [X8_wrong_L30_B] at hf
          have h75 : ∀ (x_thrown : Int32) (x_ball : Int32) (x_w : Int32) (x_h : Int32) (x_n : Int32) (x_place : Nat → Int32) (x_points : Nat → Int32) (x_other : Nat → Int32) (x_takes : Nat → Int32) (x_trueStates : Nat → Int32) (l1 : Int32) (l2 : Int32) (l3 : Int32) (H : Heap) (locs : List Loc) (ls : Array Slot), X8_wrong_J75 x_delay x_wide x_tall x_hands x_power x_spin x_seed x_pressed x_leftFrom x_leftTo x_wait x_isLost x_thrown x_ball x_w x_h x_n x_place x_points x_other x_takes x_trueStates l1 l2 l3 = some out → va_P D vwCl (wd_X8_wrong cy o_t x_thrown x_delay x_feel x_turn x_sight x_ball x_w x_h x_n x_players x_wide x_tall x_hands x_power x_spin x_seed x_pressed x_leftFrom x_leftTo x_wait x_isLost x_place x_points x_other x_takes x_trueStates) H → va_D A (wd_X8_wrong cy o_t x_thrown x_delay x_feel x_turn x_sight x_ball x_w x_h x_n x_players x_wide x_tall x_hands x_power x_spin x_seed x_pressed x_leftFrom x_leftTo x_wait x_isLost x_place x_points x_other x_takes x_trueStates) → va_S A s.heap H locs → lv_has ls 9 [(0, .ref (o_t 0)), (1, .int l1), (2, .int l2), (3, .int l3)] → W p l e (rmm 6 150) s m args below meth c H locs 0 0 Q (F0 m 75 ls []) := by
            intro x_thrown x_ball x_w x_h x_n x_place x_points x_other x_takes x_trueStates l1 l2 l3 H locs ls hf hP hD hS hl
            rw [X8_wrong_J75] at hf
            have h87 : ∀ (n87 : Nat) (x_thrown : Int32) (x_ball : Int32) (x_w : Int32) (x_h : Int32) (x_n : Int32) (x_place : Nat → Int32) (x_points : Nat → Int32) (x_other : Nat → Int32) (x_takes : Nat → Int32) (x_trueStates : Nat → Int32) (l1 : Int32) (l2 : Int32) (l3 : Int32) (l4 : Int32) (l5 : Int32) (l6 : Int32) (l7 : Int32) (H : Heap) (locs : List Loc) (ls : Array Slot), X8_wrong_L87 x_delay x_wide x_tall x_hands x_power x_spin x_seed x_pressed x_leftFrom x_leftTo x_wait x_isLost n87 x_thrown x_ball x_w x_h x_n x_place x_points x_other x_takes x_trueStates l1 l2 l3 l4 l5 l6 l7 = some out → va_P D vwCl (wd_X8_wrong cy o_t x_thrown x_delay x_feel x_turn x_sight x_ball x_w x_h x_n x_players x_wide x_tall x_hands x_power x_spin x_seed x_pressed x_leftFrom x_leftTo x_wait x_isLost x_place x_points x_other x_takes x_trueStates) H → va_D A (wd_X8_wrong cy o_t x_thrown x_delay x_feel x_turn x_sight x_ball x_w x_h x_n x_players x_wide x_tall x_hands x_power x_spin x_seed x_pressed x_leftFrom x_leftTo x_wait x_isLost x_place x_points x_other x_takes x_trueStates) → va_S A s.heap H locs → lv_has ls 9 [(0, .ref (o_t 0)), (1, .int l1), (2, .int l2), (3, .int l3), (4, .int l4), (5, .int l5), (6, .int l6), (7, .int l7)] → W p l e (rmm 6 150) s m args below meth c H locs 0 0 Q (F0 m 87 ls []) := by
              intro n87
              induction n87 with
              | zero =>
                intro _ _ _ _ _ _ _ _ _ _ _ _ _ _ _ _ _ _ _ _ hf
                exact nomatch (show (none : Option _) = some out from hf)
              | succ n87 ih87 =>
                intro x_thrown x_ball x_w x_h x_n x_place x_points x_other x_takes x_trueStates l1 l2 l3 l4 l5 l6 l7 H locs ls hf hP hD hS hl
                have hf : X8_wrong_L87_B x_delay x_wide x_tall x_hands x_power x_spin x_seed x_pressed x_leftFrom x_leftTo x_wait x_isLost (X8_wrong_L87 x_delay x_wide x_tall x_hands x_power x_spin x_seed x_pressed x_leftFrom x_leftTo x_wait x_isLost n87) x_thrown x_ball x_w x_h x_n x_place x_points x_other x_takes x_trueStates l1 l2 l3 l4 l5 l6 l7 = some out := hf
                rw [X8_wrong_L87_B] at hf
                have h188 : ∀ (x_thrown : Int32) (x_ball : Int32) (x_w : Int32) (x_h : Int32) (x_n : Int32) (x_place : Nat → Int32) (x_points : Nat → Int32) (x_other : Nat → Int32) (x_takes : Nat → Int32) (x_trueStates : Nat → Int32) (l3 : Int32) (l4 : Int32) (l6 : Int32) (H : Heap) (locs : List Loc) (ls : Array Slot), X8_wrong_J188 x_delay x_wide x_tall x_hands x_power x_spin x_seed x_pressed x_leftFrom x_leftTo x_wait x_isLost x_thrown x_ball x_w x_h x_n x_place x_points x_other x_takes x_trueStates l3 l4 l6 = some out → va_P D vwCl (wd_X8_wrong cy o_t x_thrown x_delay x_feel x_turn x_sight x_ball x_w x_h x_n x_players x_wide x_tall x_hands x_power x_spin x_seed x_pressed x_leftFrom x_leftTo x_wait x_isLost x_place x_points x_other x_takes x_trueStates) H → va_D A (wd_X8_wrong cy o_t x_thrown x_delay x_feel x_turn x_sight x_ball x_w x_h x_n x_players x_wide x_tall x_hands x_power x_spin x_seed x_pressed x_leftFrom x_leftTo x_wait x_isLost x_place x_points x_other x_takes x_trueStates) → va_S A s.heap H locs → lv_has ls 9 [(3, .int l3), (4, .int l4), (6, .int l6)] → W p l e (rmm 6 150) s m args below meth c H locs 0 0 Q (F0 m 188 ls []) := by
                  intro x_thrown x_ball x_w x_h x_n x_place x_points x_other x_takes x_trueStates l3 l4 l6 H locs ls hf hP hD hS hl
                  rw [X8_wrong_J188] at hf
                  refine lv_iload_n hx hb dX8_wrong_188 rfl (lv_at hl 0 rfl) ?_
                  refine lv_if_eq (tgt := 197) hx hb dX8_wrong_189 (by decide) (fun c189 => ?_) (fun c189 => ?_)
                  · have hf := ifp c189 hf
                    refine lv_iload hx hb dX8_wrong_197 (lv_at hl 1 rfl) ?_
                    obtain rfl := Option.some.inj hf
                    exact hR _ _ _ _ hP hD hS dX8_wrong_199
                  · have hf := ifn c189 hf
                    refine lv_iload hx hb dX8_wrong_192 (lv_at hl 2 rfl) ?_
                    refine lv_goto (tgt := 199) hx hb dX8_wrong_194 (by decide) ?_
                    obtain rfl := Option.some.inj hf
                    exact hR _ _ _ _ hP hD hS dX8_wrong_199
                refine lv_iload hx hb dX8_wrong_87 (lv_at hl 7 rfl) ?_
                refine lv_iload_n hx hb dX8_wrong_89 rfl (lv_at hl 2 rfl) ?_
                refine lv_icmp_gt (tgt := 188) hx hb dX8_wrong_90 (by decide) (fun c90 => ?_) (fun c90 => ?_)
                · have hf := ifp c90 hf
                  exact h188 _ _ _ _ _ _ _ _ _ _ _ _ _ _ _ _ hf hP hD hS (lv_sub hl [3, 4, 6] rfl)
                · have hf := ifn c90 hf
                  have h134 : ∀ (x_thrown : Int32) (x_ball : Int32) (x_w : Int32) (x_h : Int32) (x_n : Int32) (x_place : Nat → Int32) (x_points : Nat → Int32) (x_other : Nat → Int32) (x_takes : Nat → Int32) (x_trueStates : Nat → Int32) (l1 : Int32) (l2 : Int32) (l3 : Int32) (l4 : Int32) (l5 : Int32) (l6 : Int32) (l7 : Int32) (s0 : Int32) (H : Heap) (locs : List Loc) (ls : Array Slot), X8_wrong_J134 x_delay x_wide x_tall x_hands x_power x_spin x_seed x_pressed x_leftFrom x_leftTo x_wait x_isLost (X8_wrong_L87 x_delay x_wide x_tall x_hands x_power x_spin x_seed x_pressed x_leftFrom x_leftTo x_wait x_isLost n87) x_thrown x_ball x_w x_h x_n x_place x_points x_other x_takes x_trueStates l1 l2 l3 l4 l5 l6 l7 s0 = some out → va_P D vwCl (wd_X8_wrong cy o_t x_thrown x_delay x_feel x_turn x_sight x_ball x_w x_h x_n x_players x_wide x_tall x_hands x_power x_spin x_seed x_pressed x_leftFrom x_leftTo x_wait x_isLost x_place x_points x_other x_takes x_trueStates) H → va_D A (wd_X8_wrong cy o_t x_thrown x_delay x_feel x_turn x_sight x_ball x_w x_h x_n x_players x_wide x_tall x_hands x_power x_spin x_seed x_pressed x_leftFrom x_leftTo x_wait x_isLost x_place x_points x_other x_takes x_trueStates) → va_S A s.heap H locs → lv_has ls 9 [(0, .ref (o_t 0)), (1, .int l1), (2, .int l2), (3, .int l3), (4, .int l4), (5, .int l5), (6, .int l6), (7, .int l7)] → W p l e (rmm 6 150) s m args below meth c H locs 0 0 Q (F0 m 134 ls [.int s0]) := by
                    intro x_thrown x_ball x_w x_h x_n x_place x_points x_other x_takes x_trueStates l1 l2 l3 l4 l5 l6 l7 s0 H locs ls hf hP hD hS hl
                    rw [X8_wrong_J134] at hf
                    have h148 : ∀ (x_thrown : Int32) (x_ball : Int32) (x_w : Int32) (x_h : Int32) (x_n : Int32) (x_place : Nat → Int32) (x_points : Nat → Int32) (x_other : Nat → Int32) (x_takes : Nat → Int32) (x_trueStates : Nat → Int32) (l1 : Int32) (l2 : Int32) (l3 : Int32) (l5 : Int32) (l6 : Int32) (l7 : Int32) (l8 : Int32) (s0 : Int32) (s1 : Int32) (H : Heap) (locs : List Loc) (ls : Array Slot), X8_wrong_J148 x_delay x_wide x_tall x_hands x_power x_spin x_seed x_pressed x_leftFrom x_leftTo x_wait x_isLost (X8_wrong_L87 x_delay x_wide x_tall x_hands x_power x_spin x_seed x_pressed x_leftFrom x_leftTo x_wait x_isLost n87) x_thrown x_ball x_w x_h x_n x_place x_points x_other x_takes x_trueStates l1 l2 l3 l5 l6 l7 l8 s0 s1 = some out → va_P D vwCl (wd_X8_wrong cy o_t x_thrown x_delay x_feel x_turn x_sight x_ball x_w x_h x_n x_players x_wide x_tall x_hands x_power x_spin x_seed x_pressed x_leftFrom x_leftTo x_wait x_isLost x_place x_points x_other x_takes x_trueStates) H → va_D A (wd_X8_wrong cy o_t x_thrown x_delay x_feel x_turn x_sight x_ball x_w x_h x_n x_players x_wide x_tall x_hands x_power x_spin x_seed x_pressed x_leftFrom x_leftTo x_wait x_isLost x_place x_points x_other x_takes x_trueStates) → va_S A s.heap H locs → lv_has ls 9 [(0, .ref (o_t 0)), (1, .int l1), (2, .int l2), (3, .int l3), (5, .int l5), (6, .int l6), (7, .int l7), (8, .int l8)] → W p l e (rmm 6 150) s m args below meth c H locs 0 0 Q (F0 m 148 ls [.int s1, .int s0]) := by
                      intro x_thrown x_ball x_w x_h x_n x_place x_points x_other x_takes x_trueStates l1 l2 l3 l5 l6 l7 l8 s0 s1 H locs ls hf hP hD hS hl
                      rw [X8_wrong_J148] at hf
                      have h164 : ∀ (x_thrown : Int32) (x_ball : Int32) (x_w : Int32) (x_h : Int32) (x_n : Int32) (x_place : Nat → Int32) (x_points : Nat → Int32) (x_other : Nat → Int32) (x_takes : Nat → Int32) (x_trueStates : Nat → Int32) (l1 : Int32) (l2 : Int32) (l3 : Int32) (l4 : Int32) (l6 : Int32) (l7 : Int32) (s0 : Int32) (H : Heap) (locs : List Loc) (ls : Array Slot), X8_wrong_J164 x_delay x_wide x_tall x_hands x_power x_spin x_seed x_pressed x_leftFrom x_leftTo x_wait x_isLost (X8_wrong_L87 x_delay x_wide x_tall x_hands x_power x_spin x_seed x_pressed x_leftFrom x_leftTo x_wait x_isLost n87) x_thrown x_ball x_w x_h x_n x_place x_points x_other x_takes x_trueStates l1 l2 l3 l4 l6 l7 s0 = some out → va_P D vwCl (wd_X8_wrong cy o_t x_thrown x_delay x_feel x_turn x_sight x_ball x_w x_h x_n x_players x_wide x_tall x_hands x_power x_spin x_seed x_pressed x_leftFrom x_leftTo x_wait x_isLost x_place x_points x_other x_takes x_trueStates) H → va_D A (wd_X8_wrong cy o_t x_thrown x_delay x_feel x_turn x_sight x_ball x_w x_h x_n x_players x_wide x_tall x_hands x_power x_spin x_seed x_pressed x_leftFrom x_leftTo x_wait x_isLost x_place x_points x_other x_takes x_trueStates) → va_S A s.heap H locs → lv_has ls 9 [(0, .ref (o_t 0)), (1, .int l1), (2, .int l2), (3, .int l3), (4, .int l4), (6, .int l6), (7, .int l7)] → W p l e (rmm 6 150) s m args below meth c H locs 0 0 Q (F0 m 164 ls [.int s0]) := by
                        intro x_thrown x_ball x_w x_h x_n x_place x_points x_other x_takes x_trueStates l1 l2 l3 l4 l6 l7 s0 H locs ls hf hP hD hS hl
                        rw [X8_wrong_J164] at hf
                        have h180 : ∀ (x_thrown : Int32) (x_ball : Int32) (x_w : Int32) (x_h : Int32) (x_n : Int32) (x_place : Nat → Int32) (x_points : Nat → Int32) (x_other : Nat → Int32) (x_takes : Nat → Int32) (x_trueStates : Nat → Int32) (l1 : Int32) (l2 : Int32) (l3 : Int32) (l4 : Int32) (l5 : Int32) (l7 : Int32) (s0 : Int32) (H : Heap) (locs : List Loc) (ls : Array Slot), X8_wrong_J180 x_delay x_wide x_tall x_hands x_power x_spin x_seed x_pressed x_leftFrom x_leftTo x_wait x_isLost (X8_wrong_L87 x_delay x_wide x_tall x_hands x_power x_spin x_seed x_pressed x_leftFrom x_leftTo x_wait x_isLost n87) x_thrown x_ball x_w x_h x_n x_place x_points x_other x_takes x_trueStates l1 l2 l3 l4 l5 l7 s0 = some out → va_P D vwCl (wd_X8_wrong cy o_t x_thrown x_delay x_feel x_turn x_sight x_ball x_w x_h x_n x_players x_wide x_tall x_hands x_power x_spin x_seed x_pressed x_leftFrom x_leftTo x_wait x_isLost x_place x_points x_other x_takes x_trueStates) H → va_D A (wd_X8_wrong cy o_t x_thrown x_delay x_feel x_turn x_sight x_ball x_w x_h x_n x_players x_wide x_tall x_hands x_power x_spin x_seed x_pressed x_leftFrom x_leftTo x_wait x_isLost x_place x_points x_other x_takes x_trueStates) → va_S A s.heap H locs → lv_has ls 9 [(0, .ref (o_t 0)), (1, .int l1), (2, .int l2), (3, .int l3), (4, .int l4), (5, .int l5), (7, .int l7)] → W p l e (rmm 6 150) s m args below meth c H locs 0 0 Q (F0 m 180 ls [.int s0]) := by
                          intro x_thrown x_ball x_w x_h x_n x_place x_points x_other x_takes x_trueStates l1 l2 l3 l4 l5 l7 s0 H locs ls hf hP hD hS hl
                          rw [X8_wrong_J180] at hf
                          refine lv_istore (lv' := [(6, .int s0), (0, .ref (o_t 0)), (1, .int l1), (2, .int l2), (3, .int l3), (4, .int l4), (5, .int l5), (7, .int l7)]) hx hb dX8_wrong_180 hl (by decide) rfl (fun ls hl => ?_)
                          obtain ⟨v182, ev182, hf⟩ := nm_s hf
                          refine lv_iinc (v := v182) (lv' := [(7, .int v182), (6, .int s0), (0, .ref (o_t 0)), (1, .int l1), (2, .int l2), (3, .int l3), (4, .int l4), (5, .int l5)]) hx hb dX8_wrong_182 hl (k := 7) rfl (by rw [ev182]; rfl) (by decide) rfl (fun ls hl => ?_)
                          refine lv_goto (tgt := 87) hx hb dX8_wrong_185 (by decide) ?_
                          exact ih87 _ _ _ _ _ _ _ _ _ _ _ _ _ _ _ _ _ _ _ _ hf hP hD hS (lv_sub hl [2, 3, 4, 5, 6, 7, 1, 0] rfl)
                        refine lv_istore (lv' := [(5, .int s0), (0, .ref (o_t 0)), (1, .int l1), (2, .int l2), (3, .int l3), (4, .int l4), (6, .int l6), (7, .int l7)]) hx hb dX8_wrong_164 hl (by decide) rfl (fun ls hl => ?_)
                        refine lv_iload hx hb dX8_wrong_166 (lv_at hl 0 rfl) ?_
                        refine lv_iload hx hb dX8_wrong_168 (lv_at hl 6 rfl) ?_
                        refine lv_icmp_le (tgt := 178) hx hb dX8_wrong_170 (by decide) (fun c170 => ?_) (fun c170 => ?_)
                        · have hf := ifp c170 hf
                          refine lv_iload hx hb dX8_wrong_178 (lv_at hl 6 rfl) ?_
                          exact h180 _ _ _ _ _ _ _ _ _ _ _ _ _ _ _ _ _ _ _ _ hf hP hD hS (lv_sub hl [1, 2, 3, 4, 5, 0, 7] rfl)
                        · have hf := ifn c170 hf
                          refine lv_iload hx hb dX8_wrong_173 (lv_at hl 0 rfl) ?_
                          refine lv_goto (tgt := 180) hx hb dX8_wrong_175 (by decide) ?_
                          exact h180 _ _ _ _ _ _ _ _ _ _ _ _ _ _ _ _ _ _ _ _ hf hP hD hS (lv_sub hl [1, 2, 3, 4, 5, 0, 7] rfl)
                      refine lv_iadd hx hb dX8_wrong_148 ?_
                      obtain ⟨v149, ev149, hf⟩ := nm_s hf
                      refine my_topi ev149 ?_
                      refine lv_istore (lv' := [(4, .int v149), (0, .ref (o_t 0)), (1, .int l1), (2, .int l2), (3, .int l3), (5, .int l5), (6, .int l6), (7, .int l7), (8, .int l8)]) hx hb dX8_wrong_149 hl (by decide) rfl (fun ls hl => ?_)
                      refine lv_iload hx hb dX8_wrong_151 (lv_at hl 8 rfl) ?_
                      refine lv_if_eq (tgt := 163) hx hb dX8_wrong_153 (by decide) (fun c153 => ?_) (fun c153 => ?_)
                      · have hf := ifp c153 hf
                        refine lv_iconst (v := (0 : Int32)) hx hb dX8_wrong_163 (by decide) ?_
                        exact h164 _ _ _ _ _ _ _ _ _ _ _ _ _ _ _ _ _ _ _ _ hf hP hD hS (lv_sub hl [1, 2, 3, 4, 0, 6, 7] rfl)
                      · have hf := ifn c153 hf
                        refine lv_iload hx hb dX8_wrong_156 (lv_at hl 5 rfl) ?_
                        refine lv_iconst (v := (1 : Int32)) hx hb dX8_wrong_158 (by decide) ?_
                        refine lv_iadd hx hb dX8_wrong_159 ?_
                        refine lv_goto (tgt := 164) hx hb dX8_wrong_160 (by decide) ?_
                        exact h164 _ _ _ _ _ _ _ _ _ _ _ _ _ _ _ _ _ _ _ _ hf hP hD hS (lv_sub hl [1, 2, 3, 4, 0, 6, 7] rfl)
                    refine lv_istore (lv' := [(8, .int s0), (0, .ref (o_t 0)), (1, .int l1), (2, .int l2), (3, .int l3), (4, .int l4), (5, .int l5), (6, .int l6), (7, .int l7)]) hx hb dX8_wrong_134 hl (by decide) rfl (fun ls hl => ?_)
                    refine lv_iload hx hb dX8_wrong_136 (lv_at hl 5 rfl) ?_
                    refine lv_iload hx hb dX8_wrong_138 (lv_at hl 0 rfl) ?_
                    refine lv_if_eq (tgt := 147) hx hb dX8_wrong_140 (by decide) (fun c140 => ?_) (fun c140 => ?_)
                    · have hf := ifp c140 hf
                      refine lv_iconst (v := (0 : Int32)) hx hb dX8_wrong_147 (by decide) ?_
                      exact h148 _ _ _ _ _ _ _ _ _ _ _ _ _ _ _ _ _ _ _ _ _ _ hf hP hD hS (lv_sub hl [1, 2, 3, 4, 6, 7, 8, 0] rfl)
                    · have hf := ifn c140 hf
                      refine lv_iconst (v := (1 : Int32)) hx hb dX8_wrong_143 (by decide) ?_
                      refine lv_goto (tgt := 148) hx hb dX8_wrong_144 (by decide) ?_
                      exact h148 _ _ _ _ _ _ _ _ _ _ _ _ _ _ _ _ _ _ _ _ _ _ hf hP hD hS (lv_sub hl [1, 2, 3, 4, 6, 7, 8, 0] rfl)
                  refine lv_aload_n hx hb dX8_wrong_93 rfl (lv_at hl 0 rfl) ?_
                  refine lv_iload_n hx hb dX8_wrong_94 rfl (lv_at hl 1 rfl) ?_
                  refine lv_iload hx hb dX8_wrong_95 (lv_at hl 7 rfl) ?_
                  obtain ⟨r97, hr97, hf⟩ := bd_s hf
                  refine my_Vv (WS2 := (wd_X8_wrong cy o_t x_thrown x_delay x_feel x_turn x_sight r97.1 r97.2.1 r97.2.2.1 r97.2.2.2.1 x_players x_wide x_tall x_hands x_power x_spin x_seed x_pressed x_leftFrom x_leftTo x_wait x_isLost r97.2.2.2.2.1 r97.2.2.2.2.2.1 x_other r97.2.2.2.2.2.2 x_trueStates)) ⟨hx, hb, hml, hown, hts⟩ (c_X8_show l D cy t o_t x_thrown x_delay x_feel x_turn x_sight x_ball x_w x_h x_n x_players x_wide x_tall x_hands x_power x_spin x_seed x_pressed x_leftFrom x_leftTo x_wait x_isLost x_place x_points x_takes l1 l7 hr97) (cwV 2 hts gX8_wrong_X8_show rfl rfl rfl ⟨rfl, hd_X8_show⟩ ⟨Nat.le_of_ble_eq_true rfl, Nat.le_of_ble_eq_true rfl⟩) hK hE hP hD hS hA [0, 1, 2, 3, 4, 5, 6, 7, 8, 9, 10, 11, 12, 13, 15] 17 8 0 rfl rfl rfl rfl (by decide +kernel) rfl rfl hl.1 rfl (Nat.le_of_ble_eq_true rfl) dX8_wrong_97 ⟨Nat.le_of_ble_eq_true rfl, Nat.le_of_ble_eq_true rfl⟩ (fun H locs hP hD hS => ?_)
                  refine lv_aload_n hx hb dX8_wrong_100 rfl (lv_at hl 0 rfl) ?_
                  refine lv_aload_n hx hb dX8_wrong_101 rfl (lv_at hl 0 rfl) ?_
                  refine va_get (D := D) (ci := 8) (v := .ref (o_t 24)) (C := RX8) (T := TX8) (N := 36) hx hb hts k1 hown hK hP 0 rfl rfl 23 (by decide) k2 (fun _ h9 => h9) rfl dX8_wrong_102 ?_
                  refine lv_iconst (v := (0 : Int32)) hx hb dX8_wrong_105 (by decide) ?_
                  obtain ⟨r106, hr106, hf⟩ := bd_s hf
                  refine my_Vv (WS2 := (wd_X8_wrong cy o_t x_thrown x_delay x_feel x_turn x_sight r97.1 r97.2.1 r97.2.2.1 r97.2.2.2.1 x_players x_wide x_tall x_hands x_power x_spin x_seed x_pressed x_leftFrom x_leftTo x_wait x_isLost r97.2.2.2.2.1 r97.2.2.2.2.2.1 r106 r97.2.2.2.2.2.2 x_trueStates)) ⟨hx, hb, hml, hown, hts⟩ (c_X8_write l D cy t o_t (o_t 24) 13 x_thrown x_delay x_feel x_turn x_sight r97.1 r97.2.1 r97.2.2.1 r97.2.2.2.1 x_players r97.2.2.2.2.1 r97.2.2.2.2.2.1 x_other (0 : Int32) hr106) (cwV 2 hts gX8_wrong_X8_write rfl rfl rfl ⟨rfl, hd_X8_write⟩ ⟨Nat.le_of_ble_eq_true rfl, Nat.le_of_ble_eq_true rfl⟩) hK hE hP hD hS hA [0, 12, 13, 14] 17 8 0 rfl rfl rfl rfl (by decide +kernel) rfl rfl hl.1 rfl (Nat.le_of_ble_eq_true rfl) dX8_wrong_106 ⟨Nat.le_of_ble_eq_true rfl, Nat.le_of_ble_eq_true rfl⟩ (fun H locs hP hD hS => ?_)
                  refine lv_aload_n hx hb dX8_wrong_109 rfl (lv_at hl 0 rfl) ?_
                  refine va_get (D := D) (ci := 8) (v := .ref (o_t 24)) (C := RX8) (T := TX8) (N := 36) hx hb hts k1 hown hK hP 0 rfl rfl 23 (by decide) k2 (fun _ h9 => h9) rfl dX8_wrong_110 ?_
                  refine lv_iconst (v := (0 : Int32)) hx hb dX8_wrong_113 (by decide) ?_
                  refine lv_aload_n hx hb dX8_wrong_114 rfl (lv_at hl 0 rfl) ?_
                  refine va_get (D := D) (ci := 8) (v := .ref (o_t 27)) (C := RX8) (T := TX8) (N := 36) hx hb hts k1 hown hK hP 0 rfl rfl 26 (by decide) k3 (fun _ h9 => h9) rfl dX8_wrong_115 ?_
                  refine lv_bipush (v := (13 : Int32)) hx hb dX8_wrong_118 (by decide) ?_
                  refine lv_iload hx hb dX8_wrong_120 (lv_at hl 7 rfl) ?_
                  refine lv_imul hx hb dX8_wrong_122 ?_
                  obtain ⟨r123, hr123, hf⟩ := bd_s hf
                  refine my_Si (WS2 := (wd_X8_wrong cy o_t x_thrown x_delay x_feel x_turn x_sight r97.1 r97.2.1 r97.2.2.1 r97.2.2.2.1 x_players x_wide x_tall x_hands x_power x_spin x_seed x_pressed x_leftFrom x_leftTo x_wait x_isLost r97.2.2.2.2.1 r97.2.2.2.2.2.1 r106 r97.2.2.2.2.2.2 x_trueStates)) ⟨hx, hb, hml, hown, hts⟩ (c_X8_isLike l D cy t (o_t 24) 13 (o_t 27) 1300 r106 x_trueStates (0 : Int32) ((13 : Int32) * l7) hr123) (va_cwS 4 hts gX8_wrong_X8_isLike rfl rfl rfl hd_X8_isLike ⟨Nat.le_of_ble_eq_true rfl, Nat.le_of_ble_eq_true rfl⟩) hK hE hP hD hS hA [14, 16] 17 rfl rfl (by decide +kernel) rfl rfl hl.1 rfl (Nat.le_of_ble_eq_true rfl) dX8_wrong_123 ⟨Nat.le_of_ble_eq_true rfl, Nat.le_of_ble_eq_true rfl⟩ (fun H locs hP hD hS => ?_)
                  refine lv_if_ne (tgt := 133) hx hb dX8_wrong_126 (by decide) (fun c126 => ?_) (fun c126 => ?_)
                  · have hf := ifn c126 hf
                    refine lv_iconst (v := (0 : Int32)) hx hb dX8_wrong_133 (by decide) ?_
                    exact h134 _ _ _ _ _ _ _ _ _ _ _ _ _ _ _ _ _ _ _ _ _ hf hP hD hS (lv_sub hl [0, 1, 2, 3, 4, 5, 6, 7] rfl)
                  · have hf := ifp c126 hf
                    refine lv_iconst (v := (1 : Int32)) hx hb dX8_wrong_129 (by decide) ?_
                    refine lv_goto (tgt := 134) hx hb dX8_wrong_130 (by decide) ?_
                    exact h134 _ _ _ _ _ _ _ _ _ _ _ _ _ _ _ _ _ _ _ _ _ hf hP hD hS (lv_sub hl [0, 1, 2, 3, 4, 5, 6, 7] rfl)
            refine lv_iconst (v := (0 : Int32)) hx hb dX8_wrong_75 (by decide) ?_
            refine lv_istore (lv' := [(4, .int (0 : Int32)), (0, .ref (o_t 0)), (1, .int l1), (2, .int l2), (3, .int l3)]) hx hb dX8_wrong_76 hl (by decide) rfl (fun ls hl => ?_)
            refine lv_iconst (v := (0 : Int32)) hx hb dX8_wrong_78 (by decide) ?_
            refine lv_istore (lv' := [(5, .int (0 : Int32)), (4, .int (0 : Int32)), (0, .ref (o_t 0)), (1, .int l1), (2, .int l2), (3, .int l3)]) hx hb dX8_wrong_79 hl (by decide) rfl (fun ls hl => ?_)
            refine lv_iconst (v := (0 : Int32)) hx hb dX8_wrong_81 (by decide) ?_
            refine lv_istore (lv' := [(6, .int (0 : Int32)), (5, .int (0 : Int32)), (4, .int (0 : Int32)), (0, .ref (o_t 0)), (1, .int l1), (2, .int l2), (3, .int l3)]) hx hb dX8_wrong_82 hl (by decide) rfl (fun ls hl => ?_)
            refine lv_iconst (v := (0 : Int32)) hx hb dX8_wrong_84 (by decide) ?_
            refine lv_istore (lv' := [(7, .int (0 : Int32)), (6, .int (0 : Int32)), (5, .int (0 : Int32)), (4, .int (0 : Int32)), (0, .ref (o_t 0)), (1, .int l1), (2, .int l2), (3, .int l3)]) hx hb dX8_wrong_85 hl (by decide) rfl (fun ls hl => ?_)
            exact h87 FU _ _ _ _ _ _ _ _ _ _ _ _ _ _ _ _ _ _ _ _ hf hP hD hS (lv_sub hl [4, 5, 6, 7, 3, 2, 1, 0] rfl)
          refine lv_iload hx hb dX8_wrong_30 (lv_at hl 4 rfl) ?_
          refine lv_iload_n hx hb dX8_wrong_32 rfl (lv_at hl 2 rfl) ?_
          refine lv_icmp_gt (tgt := 75) hx hb dX8_wrong_33 (by decide) (fun c33 => ?_) (fun c33 => ?_)
          · have hf := ifp c33 hf
            exact h75 _ _ _ _ _ _ _ _ _ _ _ _ _ _ _ _ hf hP hD hS (lv_sub hl [0, 1, 2, 3] rfl)
          · have hf := ifn c33 hf
            refine lv_aload_n hx hb dX8_wrong_36 rfl (lv_at hl 0 rfl) ?_
            refine lv_iconst (v := (4 : Int32)) hx hb dX8_wrong_37 (by decide) ?_
            refine lv_iload hx hb dX8_wrong_38 (lv_at hl 4 rfl) ?_
            refine lv_aload_n hx hb dX8_wrong_40 rfl (lv_at hl 0 rfl) ?_
            refine va_get (D := D) (ci := 8) (v := .ref (o_t 8)) (C := RX8) (T := TX8) (N := 36) hx hb hts k1 hown hK hP 0 rfl rfl 7 (by decide) k4 (fun _ h9 => h9) rfl dX8_wrong_41 ?_
            refine lv_sipush (v := (2400 : Int32)) hx hb dX8_wrong_44 (by decide) ?_
            refine lv_aload_n hx hb dX8_wrong_47 rfl (lv_at hl 0 rfl) ?_
            refine va_get (D := D) (ci := 8) (v := .ref (o_t 5)) (C := RX8) (T := TX8) (N := 36) hx hb hts k1 hown hK hP 0 rfl rfl 4 (by decide) k5 (fun _ h9 => h9) rfl dX8_wrong_48 ?_
            refine lv_iconst (v := (4 : Int32)) hx hb dX8_wrong_51 (by decide) ?_
            obtain ⟨v52, b52, ev52, hf⟩ := rd_s hf
            refine my_iald hx hb hK hP 4 rfl b52 ev52 dX8_wrong_52 ?_
            obtain ⟨r53, hr53, hf⟩ := bd_s hf
            refine my_Vv (WS2 := (wd_X8_wrong cy o_t x_thrown x_delay x_feel x_turn x_sight r53.1 x_w x_h x_n x_players x_wide x_tall x_hands x_power x_spin x_seed x_pressed x_leftFrom x_leftTo x_wait x_isLost r53.2.1 r53.2.2 x_other x_takes x_trueStates)) ⟨hx, hb, hml, hown, hts⟩ (c_X8_step l D cy t o_t (o_t 8) 3000 x_thrown x_delay x_feel x_turn x_sight x_ball x_w x_h x_n x_players x_spin x_seed x_leftFrom x_leftTo x_place x_points x_pressed (4 : Int32) l4 (2400 : Int32) v52 hr53) (cwV 5 hts gX8_wrong_X8_step rfl rfl rfl ⟨rfl, hd_X8_step⟩ ⟨Nat.le_of_ble_eq_true rfl, Nat.le_of_ble_eq_true rfl⟩) hK hE hP hD hS hA [0, 5, 6, 8, 9, 12, 13, 7] 17 8 0 rfl rfl rfl rfl (by decide +kernel) rfl rfl hl.1 rfl (Nat.le_of_ble_eq_true rfl) dX8_wrong_53 ⟨Nat.le_of_ble_eq_true rfl, Nat.le_of_ble_eq_true rfl⟩ (fun H locs hP hD hS => ?_)
            refine lv_aload_n hx hb dX8_wrong_56 rfl (lv_at hl 0 rfl) ?_
            refine lv_aload_n hx hb dX8_wrong_57 rfl (lv_at hl 0 rfl) ?_
            refine va_get (D := D) (ci := 8) (v := .ref (o_t 27)) (C := RX8) (T := TX8) (N := 36) hx hb hts k1 hown hK hP 0 rfl rfl 26 (by decide) k3 (fun _ h9 => h9) rfl dX8_wrong_58 ?_
            refine lv_bipush (v := (13 : Int32)) hx hb dX8_wrong_61 (by decide) ?_
            refine lv_iload hx hb dX8_wrong_63 (lv_at hl 4 rfl) ?_
            refine lv_imul hx hb dX8_wrong_65 ?_
            obtain ⟨r66, hr66, hf⟩ := bd_s hf
            refine my_Vv (WS2 := (wd_X8_wrong cy o_t x_thrown x_delay x_feel x_turn x_sight r53.1 x_w x_h x_n x_players x_wide x_tall x_hands x_power x_spin x_seed x_pressed x_leftFrom x_leftTo x_wait x_isLost r53.2.1 r53.2.2 x_other x_takes r66)) ⟨hx, hb, hml, hown, hts⟩ (c_X8_write l D cy t o_t (o_t 27) 1300 x_thrown x_delay x_feel x_turn x_sight r53.1 x_w x_h x_n x_players r53.2.1 r53.2.2 x_trueStates ((13 : Int32) * l4) hr66) (cwV 2 hts gX8_wrong_X8_write rfl rfl rfl ⟨rfl, hd_X8_write⟩ ⟨Nat.le_of_ble_eq_true rfl, Nat.le_of_ble_eq_true rfl⟩) hK hE hP hD hS hA [0, 12, 13, 16] 17 8 0 rfl rfl rfl rfl (by decide +kernel) rfl rfl hl.1 rfl (Nat.le_of_ble_eq_true rfl) dX8_wrong_66 ⟨Nat.le_of_ble_eq_true rfl, Nat.le_of_ble_eq_true rfl⟩ (fun H locs hP hD hS => ?_)
            obtain ⟨v69, ev69, hf⟩ := nm_s hf
            refine lv_iinc (v := v69) (lv' := [(4, .int v69), (0, .ref (o_t 0)), (1, .int l1), (2, .int l2), (3, .int l3)]) hx hb dX8_wrong_69 hl (k := 4) rfl (by rw [ev69]; rfl) (by decide) rfl (fun ls hl => ?_)
            refine lv_goto (tgt := 30) hx hb dX8_wrong_72 (by decide) ?_
            exact ih30 _ _ _ _ _ _ _ _ _ _ _ _ _ _ _ _ _ hf hP hD hS (lv_sub hl [1, 2, 3, 4, 0] rfl)
      refine lv_aload_n hx hb dX8_wrong_22 rfl (lv_at hl 0 rfl) ?_
      refine lv_iconst (v := (4 : Int32)) hx hb dX8_wrong_23 (by decide) ?_
      obtain ⟨r24, hr24, hf⟩ := bd_s hf
      refine my_Vv (WS2 := (wd_X8_wrong cy o_t (0 : Int32) x_delay x_feel x_turn x_sight r24.1 r24.2.1 r24.2.2.1 r24.2.2.2.1 x_players x_wide x_tall x_hands x_power x_spin x_seed x_pressed x_leftFrom x_leftTo x_wait x_isLost r24.2.2.2.2.1 r24.2.2.2.2.2 x_other x_takes x_trueStates)) ⟨hx, hb, hml, hown, hts⟩ (c_X8_start l D cy t o_t (0 : Int32) x_delay x_feel x_turn x_sight x_ball x_w x_h x_n x_players x_wide x_tall x_hands x_place x_points (4 : Int32) hr24) (cwV 1 hts gX8_wrong_X8_start rfl rfl rfl ⟨rfl, hd_X8_start⟩ ⟨Nat.le_of_ble_eq_true rfl, Nat.le_of_ble_eq_true rfl⟩) hK hE hP hD hS hA [0, 1, 2, 3, 12, 13] 17 8 0 rfl rfl rfl rfl (by decide +kernel) rfl rfl hl.1 rfl (Nat.le_of_ble_eq_true rfl) dX8_wrong_24 ⟨Nat.le_of_ble_eq_true rfl, Nat.le_of_ble_eq_true rfl⟩ (fun H locs hP hD hS => ?_)
      refine lv_iconst (v := (0 : Int32)) hx hb dX8_wrong_27 (by decide) ?_
      refine lv_istore (lv' := [(4, .int (0 : Int32)), (0, .ref (o_t 0)), (1, .int p1), (2, .int p2), (3, .int p3)]) hx hb dX8_wrong_28 hl (by decide) rfl (fun ls hl => ?_)
      exact h30 FU _ _ _ _ _ _ _ _ _ _ _ _ _ _ _ _ _ hf hP hD hS (lv_sub hl [1, 2, 3, 4, 0] rfl)
    · have hf := ifn c17 hf
      refine lv_iconst (v := (-1 : Int32)) hx hb dX8_wrong_20 (by decide) ?_
      obtain rfl := Option.some.inj hf
      exact hR _ _ _ _ hP hD hS dX8_wrong_21
theorem hd_X8_wrong : yX8_wrong.cls ≠ "java/lang/invoke/MethodHandle" ∧ yX8_wrong.cls ≠ "java/lang/invoke/VarHandle" ∧ (parseMethodDescriptor yX8_wrong.desc).map (fun d => d.parameters.length) = some 3 := by decide +kernel
set_option maxRecDepth 100000 in
theorem c_X8_wrong (l : Launch) (D : va_G) (cy : Nat → ClassId) (t : Nat → Nat) (o_t : Nat → Nat) (x_thrown : Int32) (x_delay : Int32) (x_feel : Int32) (x_turn : Int32) (x_sight : Int32) (x_ball : Int32) (x_w : Int32) (x_h : Int32) (x_n : Int32) (x_players : Int32) (x_wide : Nat → Int32) (x_tall : Nat → Int32) (x_hands : Nat → Int32) (x_power : Nat → Int32) (x_spin : Nat → Int32) (x_seed : Nat → Int32) (x_pressed : Nat → Int32) (x_leftFrom : Nat → Int32) (x_leftTo : Nat → Int32) (x_wait : Nat → Int32) (x_isLost : Nat → Int32) (x_place : Nat → Int32) (x_points : Nat → Int32) (x_other : Nat → Int32) (x_takes : Nat → Int32) (x_trueStates : Nat → Int32) (p1 : Int32) (p2 : Int32) (p3 : Int32) {out : Int32 × Int32 × Int32 × Int32 × Int32 × Int32 × (Nat → Int32) × (Nat → Int32) × (Nat → Int32) × (Nat → Int32) × (Nat → Int32)} (hf : X8_wrong x_delay x_wide x_tall x_hands x_power x_spin x_seed x_pressed x_leftFrom x_leftTo x_wait x_isLost x_thrown x_ball x_w x_h x_n x_place x_points x_other x_takes x_trueStates p1 p2 p3 = some out) : ctI l yX8_wrong wsX8_wrong 6 150 D cy t [.ref (o_t 0), .int p1, .int p2, .int p3] (wd_X8_wrong cy o_t x_thrown x_delay x_feel x_turn x_sight x_ball x_w x_h x_n x_players x_wide x_tall x_hands x_power x_spin x_seed x_pressed x_leftFrom x_leftTo x_wait x_isLost x_place x_points x_other x_takes x_trueStates) (wd_X8_wrong cy o_t out.2.1 x_delay x_feel x_turn x_sight out.2.2.1 out.2.2.2.1 out.2.2.2.2.1 out.2.2.2.2.2.1 x_players x_wide x_tall x_hands x_power x_spin x_seed x_pressed x_leftFrom x_leftTo x_wait x_isLost out.2.2.2.2.2.2.1 out.2.2.2.2.2.2.2.1 out.2.2.2.2.2.2.2.2.1 out.2.2.2.2.2.2.2.2.2.1 out.2.2.2.2.2.2.2.2.2.2) out.1 := by
  refine ⟨rfl, ?_⟩
  intro sz
  refine Met.ofW (cc := cX8_wrong) (maxL := 9) (ret := (some .int)) (by decide) rfl ?_
  intro p e s m args below meth c s₁ B hml hv
  obtain ⟨rfl, hsz, hP, hK, hD0, hE⟩ := hv
  have hts := atoms_spec (ws := wsX8_wrong) B.pre
  have hown : s.vm.findClass RX8 = some m.cls := findClass_of_methodNamed B.named
  have hlocks := B.notSynchronized
  subst hsz
  have hD := hD0.self (sz := s.heap.size)
  have hl := lv_entry ([.ref (o_t 0), .int p1, .int p2, .int p3]) (n := 9) (Nat.le_of_ble_eq_true rfl)
  rw [lg_entry_eq]
  generalize (lg_sl ([.ref (o_t 0), .int p1, .int p2, .int p3]) ++ List.replicate (9 - (lg_sl ([.ref (o_t 0), .int p1, .int p2, .int p3])).length) Slot.unset).toArray = ls at hl ⊢
  exact w_X8_wrong D cy t o_t x_thrown x_delay x_feel x_turn x_sight x_ball x_w x_h x_n x_players x_wide x_tall x_hands x_power x_spin x_seed x_pressed x_leftFrom x_leftTo x_wait x_isLost x_place x_points x_other x_takes x_trueStates p1 p2 p3 hf B.exec B.bytes hml hown hts hK hE (fun q h => Or.inr h) hP hD va_S.rf hl (fun H locs ls pc hP hD hS hdg => W.iret B.exec B.bytes B.returns (fun t ht hW => ⟨⟨_, (), rfl, rfl, ctB_of ht hP⟩, hS.F ht⟩) hS.2.2 hdg)

noncomputable def X8_priceOf_J64 (x_feel : Int32) (x_turn : Int32) (x_hands : Nat → Int32) (x_pressed : Nat → Int32) (x_leftFrom : Nat → Int32) (x_leftTo : Nat → Int32) (x_wait : Nat → Int32) (x_isLost : Nat → Int32) (rec21 : (Nat → Int32) → (Nat → Int32) → Int32 → Int32 → Int32 → Int32 → Option (Int32 × (Nat → Int32) × (Nat → Int32))) (x_takes : Nat → Int32) (x_took : Nat → Int32) (l1 : Int32) (l2 : Int32) (l3 : Int32) (l4 : Int32) : Option (Int32 × (Nat → Int32) × (Nat → Int32)) :=
  nm (l4 + (1 : Int32)) fun v64 => rec21 x_takes x_took l1 l2 l3 v64
noncomputable def X8_priceOf_L35_B (x_feel : Int32) (x_turn : Int32) (x_hands : Nat → Int32) (x_pressed : Nat → Int32) (x_leftFrom : Nat → Int32) (x_leftTo : Nat → Int32) (x_wait : Nat → Int32) (x_isLost : Nat → Int32) (rec21 : (Nat → Int32) → (Nat → Int32) → Int32 → Int32 → Int32 → Int32 → Option (Int32 × (Nat → Int32) × (Nat → Int32))) (rec35 : (Nat → Int32) → (Nat → Int32) → Int32 → Int32 → Int32 → Int32 → Int32 → Option (Int32 × (Nat → Int32) × (Nat → Int32))) (x_takes : Nat → Int32) (x_took : Nat → Int32) (l1 : Int32) (l2 : Int32) (l3 : Int32) (l4 : Int32) (l5 : Int32) : Option (Int32 × (Nat → Int32) × (Nat → Int32)) :=
  if l2 < l5 then (X8_priceOf_J64 x_feel x_turn x_hands x_pressed x_leftFrom x_leftTo x_wait x_isLost rec21 x_takes x_took l1 l2 l3 l4) else (bd (X8_backOf x_hands x_pressed x_leftFrom x_leftTo x_wait x_isLost x_takes x_took l4 l5 l1) fun r52 => nm (l3 + (x_turn * r52.1)) fun v57 => nm (l5 + (1 : Int32)) fun v58 => rec35 r52.2.1 r52.2.2 l1 l2 v57 l4 v58)
noncomputable def X8_priceOf_L35 (x_feel : Int32) (x_turn : Int32) (x_hands : Nat → Int32) (x_pressed : Nat → Int32) (x_leftFrom : Nat → Int32) (x_leftTo : Nat → Int32) (x_wait : Nat → Int32) (x_isLost : Nat → Int32) (rec21 : (Nat → Int32) → (Nat → Int32) → Int32 → Int32 → Int32 → Int32 → Option (Int32 × (Nat → Int32) × (Nat → Int32))) : Nat → (Nat → Int32) → (Nat → Int32) → Int32 → Int32 → Int32 → Int32 → Int32 → Option (Int32 × (Nat → Int32) × (Nat → Int32))
  | 0, _, _, _, _, _, _, _ => none
  | n + 1, y0, y1, y2, y3, y4, y5, y6 => X8_priceOf_L35_B x_feel x_turn x_hands x_pressed x_leftFrom x_leftTo x_wait x_isLost rec21 (X8_priceOf_L35 x_feel x_turn x_hands x_pressed x_leftFrom x_leftTo x_wait x_isLost rec21 n) y0 y1 y2 y3 y4 y5 y6
noncomputable def X8_priceOf_L21_B (x_feel : Int32) (x_turn : Int32) (x_hands : Nat → Int32) (x_pressed : Nat → Int32) (x_leftFrom : Nat → Int32) (x_leftTo : Nat → Int32) (x_wait : Nat → Int32) (x_isLost : Nat → Int32) (rec21 : (Nat → Int32) → (Nat → Int32) → Int32 → Int32 → Int32 → Int32 → Option (Int32 × (Nat → Int32) × (Nat → Int32))) (x_takes : Nat → Int32) (x_took : Nat → Int32) (l1 : Int32) (l2 : Int32) (l3 : Int32) (l4 : Int32) : Option (Int32 × (Nat → Int32) × (Nat → Int32)) :=
  rd x_hands 5 (4 : Int32) fun v28 => if v28 ≤ l4 then (some (l3, x_takes, x_took)) else (X8_priceOf_L35 x_feel x_turn x_hands x_pressed x_leftFrom x_leftTo x_wait x_isLost rec21 FU x_takes x_took l1 l2 l3 l4 (0 : Int32))
noncomputable def X8_priceOf_L21 (x_feel : Int32) (x_turn : Int32) (x_hands : Nat → Int32) (x_pressed : Nat → Int32) (x_leftFrom : Nat → Int32) (x_leftTo : Nat → Int32) (x_wait : Nat → Int32) (x_isLost : Nat → Int32) : Nat → (Nat → Int32) → (Nat → Int32) → Int32 → Int32 → Int32 → Int32 → Option (Int32 × (Nat → Int32) × (Nat → Int32))
  | 0, _, _, _, _, _, _ => none
  | n + 1, y0, y1, y2, y3, y4, y5 => X8_priceOf_L21_B x_feel x_turn x_hands x_pressed x_leftFrom x_leftTo x_wait x_isLost  (X8_priceOf_L21 x_feel x_turn x_hands x_pressed x_leftFrom x_leftTo x_wait x_isLost  n) y0 y1 y2 y3 y4 y5
noncomputable def X8_priceOf (x_feel : Int32) (x_turn : Int32) (x_hands : Nat → Int32) (x_pressed : Nat → Int32) (x_leftFrom : Nat → Int32) (x_leftTo : Nat → Int32) (x_wait : Nat → Int32) (x_isLost : Nat → Int32) (x_takes : Nat → Int32) (x_took : Nat → Int32) (p1 : Int32) (p2 : Int32) : Option (Int32 × (Nat → Int32) × (Nat → Int32)) :=
  rd x_hands 5 (4 : Int32) fun v11 => nm (((x_feel * p1) * v11) * (p2 + (1 : Int32))) fun v17 => X8_priceOf_L21 x_feel x_turn x_hands x_pressed x_leftFrom x_leftTo x_wait x_isLost  FU x_takes x_took p1 p2 v17 (0 : Int32)
abbrev wd_X8_priceOf (cy : Nat → ClassId) (o_t : Nat → Nat) (x_thrown : Int32) (x_delay : Int32) (x_feel : Int32) (x_turn : Int32) (x_sight : Int32) (x_ball : Int32) (x_w : Int32) (x_h : Int32) (x_n : Int32) (x_players : Int32) (x_hands : Nat → Int32) (x_pressed : Nat → Int32) (x_leftFrom : Nat → Int32) (x_leftTo : Nat → Int32) (x_wait : Nat → Int32) (x_isLost : Nat → Int32) (x_takes : Nat → Int32) (x_took : Nat → Int32) : va_W := [(o_t 0, .inr (8, [.int x_thrown, .ref (o_t 2), .ref (o_t 3), .ref (o_t 4), .ref (o_t 5), .ref (o_t 6), .ref (o_t 7), .ref (o_t 8), .ref (o_t 9), .ref (o_t 10), .ref (o_t 11), .int x_delay, .int x_feel, .int x_turn, .int x_sight, .ref (o_t 16), .ref (o_t 17), .ref (o_t 18), .ref (o_t 19), .int x_ball, .int x_w, .int x_h, .int x_n, .ref (o_t 24), .ref (o_t 25), .ref (o_t 26), .ref (o_t 27), .ref (o_t 28), .ref (o_t 29), .int x_players, .ref (o_t 31), .ref (o_t 32), .ref (o_t 33), .ref (o_t 34), .ref (o_t 35), .ref (o_t 36)])), (o_t 4, .inl (cy 0, 5, .inl x_hands)), (o_t 8, .inl (cy 0, 3000, .inl x_pressed)), (o_t 9, .inl (cy 0, 30, .inl x_leftFrom)), (o_t 10, .inl (cy 0, 30, .inl x_leftTo)), (o_t 16, .inl (cy 0, 36, .inl x_wait)), (o_t 17, .inl (cy 1, 600, .inl x_isLost)), (o_t 25, .inl (cy 0, 600, .inl x_takes)), (o_t 26, .inl (cy 0, 600, .inl x_took))]
set_option maxHeartbeats 4000000 in
set_option maxRecDepth 100000 in
theorem w_X8_priceOf {p : Program} {l : Launch} {e : Env} {s : State} {m : MethodId} {args : Array Value} {below : List Frame} {meth : Method} {c : Code} {Q : State → Prop} {A : Nat → Prop} {H : Heap} {locs : List Loc} {ls : Array Slot} (D : va_G) (cy : Nat → ClassId) (t : Nat → Nat) (o_t : Nat → Nat) (x_thrown : Int32) (x_delay : Int32) (x_feel : Int32) (x_turn : Int32) (x_sight : Int32) (x_ball : Int32) (x_w : Int32) (x_h : Int32) (x_n : Int32) (x_players : Int32) (x_hands : Nat → Int32) (x_pressed : Nat → Int32) (x_leftFrom : Nat → Int32) (x_leftTo : Nat → Int32) (x_wait : Nat → Int32) (x_isLost : Nat → Int32) (x_takes : Nat → Int32) (x_took : Nat → Int32) (p1 : Int32) (p2 : Int32) {out : Int32 × (Nat → Int32) × (Nat → Int32)} (hf : X8_priceOf x_feel x_turn x_hands x_pressed x_leftFrom x_leftTo x_wait x_isLost x_takes x_took p1 p2 = some out) (hx : p.tables.exec = Jvm.exec) (hb : c.code = cX8_priceOf) (hml : c.maxLocals = 6) (hown : s.vm.findClass RX8 = some m.cls) (hts : ∀ w ∈ wsX8_priceOf, w.before args s = true) (hK : va_K D vwCl (TYS cy) s) (hE : EV t A s s.heap) (hA : ∀ q, s.heap.size ≤ q → A q) (hP : va_P D vwCl (wd_X8_priceOf cy o_t x_thrown x_delay x_feel x_turn x_sight x_ball x_w x_h x_n x_players x_hands x_pressed x_leftFrom x_leftTo x_wait x_isLost x_takes x_took) H) (hD : va_D A (wd_X8_priceOf cy o_t x_thrown x_delay x_feel x_turn x_sight x_ball x_w x_h x_n x_players x_hands x_pressed x_leftFrom x_leftTo x_wait x_isLost x_takes x_took)) (hS : va_S A s.heap H locs) (hl : lv_has ls 6 [(0, .ref (o_t 0)), (1, .int p1), (2, .int p2)]) (hR : ∀ (H : Heap) (locs : List Loc) (ls : Array Slot) (pc : Nat), va_P D vwCl (wd_X8_priceOf cy o_t x_thrown x_delay x_feel x_turn x_sight x_ball x_w x_h x_n x_players x_hands x_pressed x_leftFrom x_leftTo x_wait x_isLost out.2.1 out.2.2) H → va_D A (wd_X8_priceOf cy o_t x_thrown x_delay x_feel x_turn x_sight x_ball x_w x_h x_n x_players x_hands x_pressed x_leftFrom x_leftTo x_wait x_isLost out.2.1 out.2.2) → va_S A s.heap H locs → decode cX8_priceOf pc = .ok (.ireturn, 1) → W p l e (rmm 4 102) s m args below meth c H locs 0 0 Q (F0 m pc ls [.int out.1])) : W p l e (rmm 4 102) s m args below meth c H locs 0 0 Q (F0 m 0 ls []) := by
  have k0 := hts (.fieldLink RX8 41 "SeaGamesModel" "feel" "I") (List.mem_cons_of_mem _ (List.mem_append_left _ (List.mem_append_left _ (List.mem_of_getElem? (i := 0) rfl))))
  have k1 : ∀ w ∈ u_ws RX8 TX8 36, w ∈ wsX8_priceOf := fun _ h => List.mem_cons_of_mem _ (List.mem_append_right _ h)
  have k2 := hts (.fieldLink RX8 16 "SeaGamesModel" "hands" "[I") (List.mem_cons_of_mem _ (List.mem_append_left _ (List.mem_append_left _ (List.mem_of_getElem? (i := 1) rfl))))
  have k3 := hts (.fieldLink RX8 45 "SeaGamesModel" "turn" "I") (List.mem_cons_of_mem _ (List.mem_append_left _ (List.mem_append_left _ (List.mem_of_getElem? (i := 2) rfl))))
  rw [X8_priceOf] at hf
  have h21 : ∀ (n21 : Nat) (x_takes : Nat → Int32) (x_took : Nat → Int32) (l1 : Int32) (l2 : Int32) (l3 : Int32) (l4 : Int32) (H : Heap) (locs : List Loc) (ls : Array Slot), X8_priceOf_L21 x_feel x_turn x_hands x_pressed x_leftFrom x_leftTo x_wait x_isLost n21 x_takes x_took l1 l2 l3 l4 = some out → va_P D vwCl (wd_X8_priceOf cy o_t x_thrown x_delay x_feel x_turn x_sight x_ball x_w x_h x_n x_players x_hands x_pressed x_leftFrom x_leftTo x_wait x_isLost x_takes x_took) H → va_D A (wd_X8_priceOf cy o_t x_thrown x_delay x_feel x_turn x_sight x_ball x_w x_h x_n x_players x_hands x_pressed x_leftFrom x_leftTo x_wait x_isLost x_takes x_took) → va_S A s.heap H locs → lv_has ls 6 [(0, .ref (o_t 0)), (1, .int l1), (2, .int l2), (3, .int l3), (4, .int l4)] → W p l e (rmm 4 102) s m args below meth c H locs 0 0 Q (F0 m 21 ls []) := by
    intro n21
    induction n21 with
    | zero =>
      intro _ _ _ _ _ _ _ _ _ hf
      exact nomatch (show (none : Option _) = some out from hf)
    | succ n21 ih21 =>
      intro x_takes x_took l1 l2 l3 l4 H locs ls hf hP hD hS hl
      have hf : X8_priceOf_L21_B x_feel x_turn x_hands x_pressed x_leftFrom x_leftTo x_wait x_isLost (X8_priceOf_L21 x_feel x_turn x_hands x_pressed x_leftFrom x_leftTo x_wait x_isLost n21) x_takes x_took l1 l2 l3 l4 = some out := hf
      rw [X8_priceOf_L21_B] at hf
      refine lv_iload hx hb dX8_priceOf_21 (lv_at hl 4 rfl) ?_
      refine lv_aload_n hx hb dX8_priceOf_23 rfl (lv_at hl 0 rfl) ?_
      refine va_get (D := D) (ci := 8) (v := .ref (o_t 4)) (C := RX8) (T := TX8) (N := 36) hx hb hts k1 hown hK hP 0 rfl rfl 3 (by decide) k2 (fun _ h9 => h9) rfl dX8_priceOf_24 ?_
      refine lv_iconst (v := (4 : Int32)) hx hb dX8_priceOf_27 (by decide) ?_
      obtain ⟨v28, b28, ev28, hf⟩ := rd_s hf
      refine my_iald hx hb hK hP 1 rfl b28 ev28 dX8_priceOf_28 ?_
      refine lv_icmp_ge (tgt := 70) hx hb dX8_priceOf_29 (by decide) (fun c29 => ?_) (fun c29 => ?_)
      · have hf := ifp c29 hf
        refine lv_iload_n hx hb dX8_priceOf_70 rfl (lv_at hl 3 rfl) ?_
        obtain rfl := Option.some.inj hf
        exact hR _ _ _ _ hP hD hS dX8_priceOf_71
      · have hf := ifn c29 hf
        have h35 : ∀ (n35 : Nat) (x_takes : Nat → Int32) (x_took : Nat → Int32) (l1 : Int32) (l2 : Int32) (l3 : Int32) (l4 : Int32) (l5 : Int32) (H : Heap) (locs : List Loc) (ls : Array Slot), X8_priceOf_L35 x_feel x_turn x_hands x_pressed x_leftFrom x_leftTo x_wait x_isLost (X8_priceOf_L21 x_feel x_turn x_hands x_pressed x_leftFrom x_leftTo x_wait x_isLost n21) n35 x_takes x_took l1 l2 l3 l4 l5 = some out → va_P D vwCl (wd_X8_priceOf cy o_t x_thrown x_delay x_feel x_turn x_sight x_ball x_w x_h x_n x_players x_hands x_pressed x_leftFrom x_leftTo x_wait x_isLost x_takes x_took) H → va_D A (wd_X8_priceOf cy o_t x_thrown x_delay x_feel x_turn x_sight x_ball x_w x_h x_n x_players x_hands x_pressed x_leftFrom x_leftTo x_wait x_isLost x_takes x_took) → va_S A s.heap H locs → lv_has ls 6 [(0, .ref (o_t 0)), (1, .int l1), (2, .int l2), (3, .int l3), (4, .int l4), (5, .int l5)] → W p l e (rmm 4 102) s m args below meth c H locs 0 0 Q (F0 m 35 ls []) := by
          intro n35
          induction n35 with
          | zero =>
            intro _ _ _ _ _ _ _ _ _ _ hf
            exact nomatch (show (none : Option _) = some out from hf)
          | succ n35 ih35 =>
            intro x_takes x_took l1 l2 l3 l4 l5 H locs ls hf hP hD hS hl
            have hf : X8_priceOf_L35_B x_feel x_turn x_hands x_pressed x_leftFrom x_leftTo x_wait x_isLost (X8_priceOf_L21 x_feel x_turn x_hands x_pressed x_leftFrom x_leftTo x_wait x_isLost n21) (X8_priceOf_L35 x_feel x_turn x_hands x_pressed x_leftFrom x_leftTo x_wait x_isLost (X8_priceOf_L21 x_feel x_turn x_hands x_pressed x_leftFrom x_leftTo x_wait x_isLost n21) n35) x_takes x_took l1 l2 l3 l4 l5 = some out := hf
            rw [X8_priceOf_L35_B] at hf
            have h64 : ∀ (x_takes : Nat → Int32) (x_took : Nat → Int32) (l1 : Int32) (l2 : Int32) (l3 : Int32) (l4 : Int32) (H : Heap) (locs : List Loc) (ls : Array Slot), X8_priceOf_J64 x_feel x_turn x_hands x_pressed x_leftFrom x_leftTo x_wait x_isLost (X8_priceOf_L21 x_feel x_turn x_hands x_pressed x_leftFrom x_leftTo x_wait x_isLost n21) x_takes x_took l1 l2 l3 l4 = some out → va_P D vwCl (wd_X8_priceOf cy o_t x_thrown x_delay x_feel x_turn x_sight x_ball x_w x_h x_n x_players x_hands x_pressed x_leftFrom x_leftTo x_wait x_isLost x_takes x_took) H → va_D A (wd_X8_priceOf cy o_t x_thrown x_delay x_feel x_turn x_sight x_ball x_w x_h x_n x_players x_hands x_pressed x_leftFrom x_leftTo x_wait x_isLost x_takes x_took) → va_S A s.heap H locs → lv_has ls 6 [(0, .ref (o_t 0)), (1, .int l1), (2, .int l2), (3, .int l3), (4, .int l4)] → W p l e (rmm 4 102) s m args below meth c H locs 0 0 Q (F0 m 64 ls []) := by
              intro x_takes x_took l1 l2 l3 l4 H locs ls hf hP hD hS hl
              rw [X8_priceOf_J64] at hf
              obtain ⟨v64, ev64, hf⟩ := nm_s hf
              refine lv_iinc (v := v64) (lv' := [(4, .int v64), (0, .ref (o_t 0)), (1, .int l1), (2, .int l2), (3, .int l3)]) hx hb dX8_priceOf_64 hl (k := 4) rfl (by rw [ev64]; rfl) (by decide) rfl (fun ls hl => ?_)
              refine lv_goto (tgt := 21) hx hb dX8_priceOf_67 (by decide) ?_
              exact ih21 _ _ _ _ _ _ _ _ _ hf hP hD hS (lv_sub hl [1, 2, 3, 4, 0] rfl)
            refine lv_iload hx hb dX8_priceOf_35 (lv_at hl 5 rfl) ?_
            refine lv_iload_n hx hb dX8_priceOf_37 rfl (lv_at hl 2 rfl) ?_
            refine lv_icmp_gt (tgt := 64) hx hb dX8_priceOf_38 (by decide) (fun c38 => ?_) (fun c38 => ?_)
            · have hf := ifp c38 hf
              exact h64 _ _ _ _ _ _ _ _ _ hf hP hD hS (lv_sub hl [0, 1, 2, 3, 4] rfl)
            · have hf := ifn c38 hf
              refine lv_iload_n hx hb dX8_priceOf_41 rfl (lv_at hl 3 rfl) ?_
              refine lv_aload_n hx hb dX8_priceOf_42 rfl (lv_at hl 0 rfl) ?_
              refine va_get (D := D) (ci := 8) (v := .int x_turn) (C := RX8) (T := TX8) (N := 36) hx hb hts k1 hown hK hP 0 rfl rfl 13 (by decide) k3 (fun _ h9 => h9) rfl dX8_priceOf_43 ?_
              refine lv_aload_n hx hb dX8_priceOf_46 rfl (lv_at hl 0 rfl) ?_
              refine lv_iload hx hb dX8_priceOf_47 (lv_at hl 4 rfl) ?_
              refine lv_iload hx hb dX8_priceOf_49 (lv_at hl 5 rfl) ?_
              refine lv_iload_n hx hb dX8_priceOf_51 rfl (lv_at hl 1 rfl) ?_
              obtain ⟨r52, hr52, hf⟩ := bd_s hf
              refine my_Vi (WS2 := (wd_X8_priceOf cy o_t x_thrown x_delay x_feel x_turn x_sight x_ball x_w x_h x_n x_players x_hands x_pressed x_leftFrom x_leftTo x_wait x_isLost r52.2.1 r52.2.2)) ⟨hx, hb, hml, hown, hts⟩ (c_X8_backOf l D cy t o_t x_thrown x_delay x_feel x_turn x_sight x_ball x_w x_h x_n x_players x_hands x_pressed x_leftFrom x_leftTo x_wait x_isLost x_takes x_took l4 l5 l1 hr52) (cwV 3 hts gX8_priceOf_X8_backOf rfl rfl rfl ⟨rfl, hd_X8_backOf⟩ ⟨Nat.le_of_ble_eq_true rfl, Nat.le_of_ble_eq_true rfl⟩) hK hE hP hD hS hA [0, 1, 2, 3, 4, 5, 6, 7, 8] 9 8 0 rfl rfl rfl rfl (by decide +kernel) rfl rfl hl.1 rfl (Nat.le_of_ble_eq_true rfl) dX8_priceOf_52 ⟨Nat.le_of_ble_eq_true rfl, Nat.le_of_ble_eq_true rfl⟩ (fun H locs hP hD hS => ?_)
              refine lv_imul hx hb dX8_priceOf_55 ?_
              refine lv_iadd hx hb dX8_priceOf_56 ?_
              obtain ⟨v57, ev57, hf⟩ := nm_s hf
              refine my_topi ev57 ?_
              refine lv_istore_n (lv' := [(3, .int v57), (0, .ref (o_t 0)), (1, .int l1), (2, .int l2), (4, .int l4), (5, .int l5)]) hx hb dX8_priceOf_57 rfl hl (by decide) rfl (fun ls hl => ?_)
              obtain ⟨v58, ev58, hf⟩ := nm_s hf
              refine lv_iinc (v := v58) (lv' := [(5, .int v58), (3, .int v57), (0, .ref (o_t 0)), (1, .int l1), (2, .int l2), (4, .int l4)]) hx hb dX8_priceOf_58 hl (k := 5) rfl (by rw [ev58]; rfl) (by decide) rfl (fun ls hl => ?_)
              refine lv_goto (tgt := 35) hx hb dX8_priceOf_61 (by decide) ?_
              exact ih35 _ _ _ _ _ _ _ _ _ _ hf hP hD hS (lv_sub hl [2, 3, 4, 1, 5, 0] rfl)
        refine lv_iconst (v := (0 : Int32)) hx hb dX8_priceOf_32 (by decide) ?_
        refine lv_istore (lv' := [(5, .int (0 : Int32)), (0, .ref (o_t 0)), (1, .int l1), (2, .int l2), (3, .int l3), (4, .int l4)]) hx hb dX8_priceOf_33 hl (by decide) rfl (fun ls hl => ?_)
        exact h35 FU _ _ _ _ _ _ _ _ _ _ hf hP hD hS (lv_sub hl [1, 2, 3, 4, 5, 0] rfl)
  refine lv_aload_n hx hb dX8_priceOf_0 rfl (lv_at hl 0 rfl) ?_
  refine va_get (D := D) (ci := 8) (v := .int x_feel) (C := RX8) (T := TX8) (N := 36) hx hb hts k1 hown hK hP 0 rfl rfl 12 (by decide) k0 (fun _ h9 => h9) rfl dX8_priceOf_1 ?_
  refine lv_iload_n hx hb dX8_priceOf_4 rfl (lv_at hl 1 rfl) ?_
  refine lv_imul hx hb dX8_priceOf_5 ?_
  refine lv_aload_n hx hb dX8_priceOf_6 rfl (lv_at hl 0 rfl) ?_
  refine va_get (D := D) (ci := 8) (v := .ref (o_t 4)) (C := RX8) (T := TX8) (N := 36) hx hb hts k1 hown hK hP 0 rfl rfl 3 (by decide) k2 (fun _ h9 => h9) rfl dX8_priceOf_7 ?_
  refine lv_iconst (v := (4 : Int32)) hx hb dX8_priceOf_10 (by decide) ?_
  obtain ⟨v11, b11, ev11, hf⟩ := rd_s hf
  refine my_iald hx hb hK hP 1 rfl b11 ev11 dX8_priceOf_11 ?_
  refine lv_imul hx hb dX8_priceOf_12 ?_
  refine lv_iload_n hx hb dX8_priceOf_13 rfl (lv_at hl 2 rfl) ?_
  refine lv_iconst (v := (1 : Int32)) hx hb dX8_priceOf_14 (by decide) ?_
  refine lv_iadd hx hb dX8_priceOf_15 ?_
  refine lv_imul hx hb dX8_priceOf_16 ?_
  obtain ⟨v17, ev17, hf⟩ := nm_s hf
  refine my_topi ev17 ?_
  refine lv_istore_n (lv' := [(3, .int v17), (0, .ref (o_t 0)), (1, .int p1), (2, .int p2)]) hx hb dX8_priceOf_17 rfl hl (by decide) rfl (fun ls hl => ?_)
  refine lv_iconst (v := (0 : Int32)) hx hb dX8_priceOf_18 (by decide) ?_
  refine lv_istore (lv' := [(4, .int (0 : Int32)), (3, .int v17), (0, .ref (o_t 0)), (1, .int p1), (2, .int p2)]) hx hb dX8_priceOf_19 hl (by decide) rfl (fun ls hl => ?_)
  exact h21 FU _ _ _ _ _ _ _ _ _ hf hP hD hS (lv_sub hl [2, 3, 4, 1, 0] rfl)
theorem hd_X8_priceOf : yX8_priceOf.cls ≠ "java/lang/invoke/MethodHandle" ∧ yX8_priceOf.cls ≠ "java/lang/invoke/VarHandle" ∧ (parseMethodDescriptor yX8_priceOf.desc).map (fun d => d.parameters.length) = some 2 := by decide +kernel
set_option maxRecDepth 100000 in
theorem c_X8_priceOf (l : Launch) (D : va_G) (cy : Nat → ClassId) (t : Nat → Nat) (o_t : Nat → Nat) (x_thrown : Int32) (x_delay : Int32) (x_feel : Int32) (x_turn : Int32) (x_sight : Int32) (x_ball : Int32) (x_w : Int32) (x_h : Int32) (x_n : Int32) (x_players : Int32) (x_hands : Nat → Int32) (x_pressed : Nat → Int32) (x_leftFrom : Nat → Int32) (x_leftTo : Nat → Int32) (x_wait : Nat → Int32) (x_isLost : Nat → Int32) (x_takes : Nat → Int32) (x_took : Nat → Int32) (p1 : Int32) (p2 : Int32) {out : Int32 × (Nat → Int32) × (Nat → Int32)} (hf : X8_priceOf x_feel x_turn x_hands x_pressed x_leftFrom x_leftTo x_wait x_isLost x_takes x_took p1 p2 = some out) : ctI l yX8_priceOf wsX8_priceOf 4 102 D cy t [.ref (o_t 0), .int p1, .int p2] (wd_X8_priceOf cy o_t x_thrown x_delay x_feel x_turn x_sight x_ball x_w x_h x_n x_players x_hands x_pressed x_leftFrom x_leftTo x_wait x_isLost x_takes x_took) (wd_X8_priceOf cy o_t x_thrown x_delay x_feel x_turn x_sight x_ball x_w x_h x_n x_players x_hands x_pressed x_leftFrom x_leftTo x_wait x_isLost out.2.1 out.2.2) out.1 := by
  refine ⟨rfl, ?_⟩
  intro sz
  refine Met.ofW (cc := cX8_priceOf) (maxL := 6) (ret := (some .int)) (by decide) rfl ?_
  intro p e s m args below meth c s₁ B hml hv
  obtain ⟨rfl, hsz, hP, hK, hD0, hE⟩ := hv
  have hts := atoms_spec (ws := wsX8_priceOf) B.pre
  have hown : s.vm.findClass RX8 = some m.cls := findClass_of_methodNamed B.named
  have hlocks := B.notSynchronized
  subst hsz
  have hD := hD0.self (sz := s.heap.size)
  have hl := lv_entry ([.ref (o_t 0), .int p1, .int p2]) (n := 6) (Nat.le_of_ble_eq_true rfl)
  rw [lg_entry_eq]
  generalize (lg_sl ([.ref (o_t 0), .int p1, .int p2]) ++ List.replicate (6 - (lg_sl ([.ref (o_t 0), .int p1, .int p2])).length) Slot.unset).toArray = ls at hl ⊢
  exact w_X8_priceOf D cy t o_t x_thrown x_delay x_feel x_turn x_sight x_ball x_w x_h x_n x_players x_hands x_pressed x_leftFrom x_leftTo x_wait x_isLost x_takes x_took p1 p2 hf B.exec B.bytes hml hown hts hK hE (fun q h => Or.inr h) hP hD va_S.rf hl (fun H locs ls pc hP hD hS hdg => W.iret B.exec B.bytes B.returns (fun t ht hW => ⟨⟨_, (), rfl, rfl, ctB_of ht hP⟩, hS.F ht⟩) hS.2.2 hdg)

noncomputable def X8_price (x_feel : Int32) (x_turn : Int32) (x_hands : Nat → Int32) (x_pressed : Nat → Int32) (x_leftFrom : Nat → Int32) (x_leftTo : Nat → Int32) (x_wait : Nat → Int32) (x_isLost : Nat → Int32) (x_thrown : Int32) (x_takes : Nat → Int32) (x_took : Nat → Int32) (p1 : Int32) (p2 : Int32) : Option (Int32 × Int32 × (Nat → Int32) × (Nat → Int32)) :=
  bd (X8_in (Int32.toInt64 p1) (0 : Int64) (9 : Int64)) fun r11 => if r11 = (0 : Int32) then (some ((-2 : Int32), (0 : Int32), x_takes, x_took)) else (bd (X8_noTick p2) fun r21 => if r21 = (0 : Int32) then (bd (X8_priceOf x_feel x_turn x_hands x_pressed x_leftFrom x_leftTo x_wait x_isLost x_takes x_took p1 p2) fun r34 => some (r34.1, (0 : Int32), r34.2.1, r34.2.2)) else (some ((-1 : Int32), (0 : Int32), x_takes, x_took)))
abbrev wd_X8_price (cy : Nat → ClassId) (o_t : Nat → Nat) (x_thrown : Int32) (x_delay : Int32) (x_feel : Int32) (x_turn : Int32) (x_sight : Int32) (x_ball : Int32) (x_w : Int32) (x_h : Int32) (x_n : Int32) (x_players : Int32) (x_hands : Nat → Int32) (x_pressed : Nat → Int32) (x_leftFrom : Nat → Int32) (x_leftTo : Nat → Int32) (x_wait : Nat → Int32) (x_isLost : Nat → Int32) (x_takes : Nat → Int32) (x_took : Nat → Int32) : va_W := [(o_t 0, .inr (8, [.int x_thrown, .ref (o_t 2), .ref (o_t 3), .ref (o_t 4), .ref (o_t 5), .ref (o_t 6), .ref (o_t 7), .ref (o_t 8), .ref (o_t 9), .ref (o_t 10), .ref (o_t 11), .int x_delay, .int x_feel, .int x_turn, .int x_sight, .ref (o_t 16), .ref (o_t 17), .ref (o_t 18), .ref (o_t 19), .int x_ball, .int x_w, .int x_h, .int x_n, .ref (o_t 24), .ref (o_t 25), .ref (o_t 26), .ref (o_t 27), .ref (o_t 28), .ref (o_t 29), .int x_players, .ref (o_t 31), .ref (o_t 32), .ref (o_t 33), .ref (o_t 34), .ref (o_t 35), .ref (o_t 36)])), (o_t 4, .inl (cy 0, 5, .inl x_hands)), (o_t 8, .inl (cy 0, 3000, .inl x_pressed)), (o_t 9, .inl (cy 0, 30, .inl x_leftFrom)), (o_t 10, .inl (cy 0, 30, .inl x_leftTo)), (o_t 16, .inl (cy 0, 36, .inl x_wait)), (o_t 17, .inl (cy 1, 600, .inl x_isLost)), (o_t 25, .inl (cy 0, 600, .inl x_takes)), (o_t 26, .inl (cy 0, 600, .inl x_took))]
set_option maxHeartbeats 4000000 in
set_option maxRecDepth 100000 in
theorem w_X8_price {p : Program} {l : Launch} {e : Env} {s : State} {m : MethodId} {args : Array Value} {below : List Frame} {meth : Method} {c : Code} {Q : State → Prop} {A : Nat → Prop} {H : Heap} {locs : List Loc} {ls : Array Slot} (D : va_G) (cy : Nat → ClassId) (t : Nat → Nat) (o_t : Nat → Nat) (x_thrown : Int32) (x_delay : Int32) (x_feel : Int32) (x_turn : Int32) (x_sight : Int32) (x_ball : Int32) (x_w : Int32) (x_h : Int32) (x_n : Int32) (x_players : Int32) (x_hands : Nat → Int32) (x_pressed : Nat → Int32) (x_leftFrom : Nat → Int32) (x_leftTo : Nat → Int32) (x_wait : Nat → Int32) (x_isLost : Nat → Int32) (x_takes : Nat → Int32) (x_took : Nat → Int32) (p1 : Int32) (p2 : Int32) {out : Int32 × Int32 × (Nat → Int32) × (Nat → Int32)} (hf : X8_price x_feel x_turn x_hands x_pressed x_leftFrom x_leftTo x_wait x_isLost x_thrown x_takes x_took p1 p2 = some out) (hx : p.tables.exec = Jvm.exec) (hb : c.code = cX8_price) (hml : c.maxLocals = 3) (hown : s.vm.findClass RX8 = some m.cls) (hts : ∀ w ∈ wsX8_price, w.before args s = true) (hK : va_K D vwCl (TYS cy) s) (hE : EV t A s s.heap) (hA : ∀ q, s.heap.size ≤ q → A q) (hP : va_P D vwCl (wd_X8_price cy o_t x_thrown x_delay x_feel x_turn x_sight x_ball x_w x_h x_n x_players x_hands x_pressed x_leftFrom x_leftTo x_wait x_isLost x_takes x_took) H) (hD : va_D A (wd_X8_price cy o_t x_thrown x_delay x_feel x_turn x_sight x_ball x_w x_h x_n x_players x_hands x_pressed x_leftFrom x_leftTo x_wait x_isLost x_takes x_took)) (hS : va_S A s.heap H locs) (hl : lv_has ls 3 [(0, .ref (o_t 0)), (1, .int p1), (2, .int p2)]) (hR : ∀ (H : Heap) (locs : List Loc) (ls : Array Slot) (pc : Nat), va_P D vwCl (wd_X8_price cy o_t out.2.1 x_delay x_feel x_turn x_sight x_ball x_w x_h x_n x_players x_hands x_pressed x_leftFrom x_leftTo x_wait x_isLost out.2.2.1 out.2.2.2) H → va_D A (wd_X8_price cy o_t out.2.1 x_delay x_feel x_turn x_sight x_ball x_w x_h x_n x_players x_hands x_pressed x_leftFrom x_leftTo x_wait x_isLost out.2.2.1 out.2.2.2) → va_S A s.heap H locs → decode cX8_price pc = .ok (.ireturn, 1) → W p l e (rmm 5 127) s m args below meth c H locs 0 0 Q (F0 m pc ls [.int out.1])) : W p l e (rmm 5 127) s m args below meth c H locs 0 0 Q (F0 m 0 ls []) := by
  have k0 := hts (.fieldLink RX8 100 "SeaGamesModel" "thrown" "I") (List.mem_cons_of_mem _ (List.mem_append_left _ (List.mem_append_left _ (List.mem_of_getElem? (i := 0) rfl))))
  have k1 : ∀ w ∈ u_ws RX8 TX8 36, w ∈ wsX8_price := fun _ h => List.mem_cons_of_mem _ (List.mem_append_right _ h)
  have k2 := hts (.constantLong RX8 111 (9)) (List.mem_cons_of_mem _ (List.mem_append_left _ (List.mem_append_left _ (List.mem_of_getElem? (i := 1) rfl))))
  rw [X8_price] at hf
  refine lv_aload_n hx hb dX8_price_0 rfl (lv_at hl 0 rfl) ?_
  refine lv_iconst (v := (0 : Int32)) hx hb dX8_price_1 (by decide) ?_
  refine va_put (D := D) (ci := 8) (v := .int (0 : Int32)) (ty := .int) (C := RX8) (T := TX8) (N := 36) hx hb hts k1 tyX8 tyX8_ok nmX8 hown hK hP hD hS 0 rfl rfl 0 (by decide) k0 (fun _ h9 => h9) rfl (by decide +kernel) rfl rfl (Nat.le_of_ble_eq_true rfl) dX8_price_2 (fun H locs hP hD hS => ?_)
  have hP : va_P D vwCl (wd_X8_price cy o_t (0 : Int32) x_delay x_feel x_turn x_sight x_ball x_w x_h x_n x_players x_hands x_pressed x_leftFrom x_leftTo x_wait x_isLost x_takes x_took) H := hP
  have hD : va_D A (wd_X8_price cy o_t (0 : Int32) x_delay x_feel x_turn x_sight x_ball x_w x_h x_n x_players x_hands x_pressed x_leftFrom x_leftTo x_wait x_isLost x_takes x_took) := hD
  refine lv_iload_n hx hb dX8_price_5 rfl (lv_at hl 1 rfl) ?_
  refine lv_i2l (v := (Int32.toInt64 p1)) hx hb dX8_price_6 rfl ?_
  refine lv_lconst (v := (0 : Int64)) hx hb dX8_price_7 (by decide) ?_
  refine lv_ldc2 (v := (9 : Int64)) hx hb hown k2 dX8_price_8 ?_
  obtain ⟨r11, hr11, hf⟩ := bd_s hf
  refine my_Si (WS2 := (wd_X8_price cy o_t (0 : Int32) x_delay x_feel x_turn x_sight x_ball x_w x_h x_n x_players x_hands x_pressed x_leftFrom x_leftTo x_wait x_isLost x_takes x_took)) ⟨hx, hb, hml, hown, hts⟩ (c_X8_in l D cy t (Int32.toInt64 p1) (0 : Int64) (9 : Int64) hr11) (va_cwS 3 hts gX8_price_X8_in rfl rfl rfl hd_X8_in ⟨Nat.le_of_ble_eq_true rfl, Nat.le_of_ble_eq_true rfl⟩) hK hE hP hD hS hA [] 9 rfl rfl (by decide +kernel) rfl rfl hl.1 rfl (Nat.le_of_ble_eq_true rfl) dX8_price_11 ⟨Nat.le_of_ble_eq_true rfl, Nat.le_of_ble_eq_true rfl⟩ (fun H locs hP hD hS => ?_)
  refine lv_if_ne (tgt := 20) hx hb dX8_price_14 (by decide) (fun c14 => ?_) (fun c14 => ?_)
  · have hf := ifn c14 hf
    refine lv_iload_n hx hb dX8_price_20 rfl (lv_at hl 2 rfl) ?_
    obtain ⟨r21, hr21, hf⟩ := bd_s hf
    refine my_Si (WS2 := (wd_X8_price cy o_t (0 : Int32) x_delay x_feel x_turn x_sight x_ball x_w x_h x_n x_players x_hands x_pressed x_leftFrom x_leftTo x_wait x_isLost x_takes x_took)) ⟨hx, hb, hml, hown, hts⟩ (c_X8_noTick l D cy t p2 hr21) (va_cwS 1 hts gX8_price_X8_noTick rfl rfl rfl hd_X8_noTick ⟨Nat.le_of_ble_eq_true rfl, Nat.le_of_ble_eq_true rfl⟩) hK hE hP hD hS hA [] 9 rfl rfl (by decide +kernel) rfl rfl hl.1 rfl (Nat.le_of_ble_eq_true rfl) dX8_price_21 ⟨Nat.le_of_ble_eq_true rfl, Nat.le_of_ble_eq_true rfl⟩ (fun H locs hP hD hS => ?_)
    refine lv_if_eq (tgt := 31) hx hb dX8_price_24 (by decide) (fun c24 => ?_) (fun c24 => ?_)
    · have hf := ifp c24 hf
      refine lv_aload_n hx hb dX8_price_31 rfl (lv_at hl 0 rfl) ?_
      refine lv_iload_n hx hb dX8_price_32 rfl (lv_at hl 1 rfl) ?_
      refine lv_iload_n hx hb dX8_price_33 rfl (lv_at hl 2 rfl) ?_
      obtain ⟨r34, hr34, hf⟩ := bd_s hf
      refine my_Vi (WS2 := (wd_X8_price cy o_t (0 : Int32) x_delay x_feel x_turn x_sight x_ball x_w x_h x_n x_players x_hands x_pressed x_leftFrom x_leftTo x_wait x_isLost r34.2.1 r34.2.2)) ⟨hx, hb, hml, hown, hts⟩ (c_X8_priceOf l D cy t o_t (0 : Int32) x_delay x_feel x_turn x_sight x_ball x_w x_h x_n x_players x_hands x_pressed x_leftFrom x_leftTo x_wait x_isLost x_takes x_took p1 p2 hr34) (cwV 2 hts gX8_price_X8_priceOf rfl rfl rfl ⟨rfl, hd_X8_priceOf⟩ ⟨Nat.le_of_ble_eq_true rfl, Nat.le_of_ble_eq_true rfl⟩) hK hE hP hD hS hA [0, 1, 2, 3, 4, 5, 6, 7, 8] 9 8 0 rfl rfl rfl rfl (by decide +kernel) rfl rfl hl.1 rfl (Nat.le_of_ble_eq_true rfl) dX8_price_34 ⟨Nat.le_of_ble_eq_true rfl, Nat.le_of_ble_eq_true rfl⟩ (fun H locs hP hD hS => ?_)
      obtain rfl := Option.some.inj hf
      exact hR _ _ _ _ hP hD hS dX8_price_37
    · have hf := ifn c24 hf
      refine lv_iconst (v := (-1 : Int32)) hx hb dX8_price_27 (by decide) ?_
      refine lv_goto (tgt := 37) hx hb dX8_price_28 (by decide) ?_
      obtain rfl := Option.some.inj hf
      exact hR _ _ _ _ hP hD hS dX8_price_37
  · have hf := ifp c14 hf
    refine lv_bipush (v := (-2 : Int32)) hx hb dX8_price_17 (by decide) ?_
    obtain rfl := Option.some.inj hf
    exact hR _ _ _ _ hP hD hS dX8_price_19
theorem hd_X8_price : yX8_price.cls ≠ "java/lang/invoke/MethodHandle" ∧ yX8_price.cls ≠ "java/lang/invoke/VarHandle" ∧ (parseMethodDescriptor yX8_price.desc).map (fun d => d.parameters.length) = some 2 := by decide +kernel
set_option maxRecDepth 100000 in
theorem c_X8_price (l : Launch) (D : va_G) (cy : Nat → ClassId) (t : Nat → Nat) (o_t : Nat → Nat) (x_thrown : Int32) (x_delay : Int32) (x_feel : Int32) (x_turn : Int32) (x_sight : Int32) (x_ball : Int32) (x_w : Int32) (x_h : Int32) (x_n : Int32) (x_players : Int32) (x_hands : Nat → Int32) (x_pressed : Nat → Int32) (x_leftFrom : Nat → Int32) (x_leftTo : Nat → Int32) (x_wait : Nat → Int32) (x_isLost : Nat → Int32) (x_takes : Nat → Int32) (x_took : Nat → Int32) (p1 : Int32) (p2 : Int32) {out : Int32 × Int32 × (Nat → Int32) × (Nat → Int32)} (hf : X8_price x_feel x_turn x_hands x_pressed x_leftFrom x_leftTo x_wait x_isLost x_thrown x_takes x_took p1 p2 = some out) : ctI l yX8_price wsX8_price 5 127 D cy t [.ref (o_t 0), .int p1, .int p2] (wd_X8_price cy o_t x_thrown x_delay x_feel x_turn x_sight x_ball x_w x_h x_n x_players x_hands x_pressed x_leftFrom x_leftTo x_wait x_isLost x_takes x_took) (wd_X8_price cy o_t out.2.1 x_delay x_feel x_turn x_sight x_ball x_w x_h x_n x_players x_hands x_pressed x_leftFrom x_leftTo x_wait x_isLost out.2.2.1 out.2.2.2) out.1 := by
  refine ⟨rfl, ?_⟩
  intro sz
  refine Met.ofW (cc := cX8_price) (maxL := 3) (ret := (some .int)) (by decide) rfl ?_
  intro p e s m args below meth c s₁ B hml hv
  obtain ⟨rfl, hsz, hP, hK, hD0, hE⟩ := hv
  have hts := atoms_spec (ws := wsX8_price) B.pre
  have hown : s.vm.findClass RX8 = some m.cls := findClass_of_methodNamed B.named
  have hlocks := B.notSynchronized
  subst hsz
  have hD := hD0.self (sz := s.heap.size)
  have hl := lv_entry ([.ref (o_t 0), .int p1, .int p2]) (n := 3) (Nat.le_of_ble_eq_true rfl)
  rw [lg_entry_eq]
  generalize (lg_sl ([.ref (o_t 0), .int p1, .int p2]) ++ List.replicate (3 - (lg_sl ([.ref (o_t 0), .int p1, .int p2])).length) Slot.unset).toArray = ls at hl ⊢
  exact w_X8_price D cy t o_t x_thrown x_delay x_feel x_turn x_sight x_ball x_w x_h x_n x_players x_hands x_pressed x_leftFrom x_leftTo x_wait x_isLost x_takes x_took p1 p2 hf B.exec B.bytes hml hown hts hK hE (fun q h => Or.inr h) hP hD va_S.rf hl (fun H locs ls pc hP hD hS hdg => W.iret B.exec B.bytes B.returns (fun t ht hW => ⟨⟨_, (), rfl, rfl, ctB_of ht hP⟩, hS.F ht⟩) hS.2.2 hdg)

noncomputable def X8_best_J54 (x_feel : Int32) (x_turn : Int32) (x_hands : Nat → Int32) (x_pressed : Nat → Int32) (x_leftFrom : Nat → Int32) (x_leftTo : Nat → Int32) (x_wait : Nat → Int32) (x_isLost : Nat → Int32) (rec26 : Int32 → (Nat → Int32) → (Nat → Int32) → Int32 → Int32 → Int32 → Int32 → Option (Int32 × Int32 × (Nat → Int32) × (Nat → Int32))) (x_thrown : Int32) (x_takes : Nat → Int32) (x_took : Nat → Int32) (l1 : Int32) (l2 : Int32) (l3 : Int32) (l4 : Int32) : Option (Int32 × Int32 × (Nat → Int32) × (Nat → Int32)) :=
  nm (l4 + (1 : Int32)) fun v54 => rec26 x_thrown x_takes x_took l1 l2 l3 v54
noncomputable def X8_best_L26_B (x_feel : Int32) (x_turn : Int32) (x_hands : Nat → Int32) (x_pressed : Nat → Int32) (x_leftFrom : Nat → Int32) (x_leftTo : Nat → Int32) (x_wait : Nat → Int32) (x_isLost : Nat → Int32) (rec26 : Int32 → (Nat → Int32) → (Nat → Int32) → Int32 → Int32 → Int32 → Int32 → Option (Int32 × Int32 × (Nat → Int32) × (Nat → Int32))) (x_thrown : Int32) (x_takes : Nat → Int32) (x_took : Nat → Int32) (l1 : Int32) (l2 : Int32) (l3 : Int32) (l4 : Int32) : Option (Int32 × Int32 × (Nat → Int32) × (Nat → Int32)) :=
  if (10 : Int32) ≤ l4 then (some (l2, x_thrown, x_takes, x_took)) else (bd (X8_priceOf x_feel x_turn x_hands x_pressed x_leftFrom x_leftTo x_wait x_isLost x_takes x_took l4 l1) fun r37 => if l3 ≤ r37.1 then (X8_best_J54 x_feel x_turn x_hands x_pressed x_leftFrom x_leftTo x_wait x_isLost rec26 x_thrown r37.2.1 r37.2.2 l1 l2 l3 l4) else (X8_best_J54 x_feel x_turn x_hands x_pressed x_leftFrom x_leftTo x_wait x_isLost rec26 x_thrown r37.2.1 r37.2.2 l1 l4 r37.1 l4))
noncomputable def X8_best_L26 (x_feel : Int32) (x_turn : Int32) (x_hands : Nat → Int32) (x_pressed : Nat → Int32) (x_leftFrom : Nat → Int32) (x_leftTo : Nat → Int32) (x_wait : Nat → Int32) (x_isLost : Nat → Int32) : Nat → Int32 → (Nat → Int32) → (Nat → Int32) → Int32 → Int32 → Int32 → Int32 → Option (Int32 × Int32 × (Nat → Int32) × (Nat → Int32))
  | 0, _, _, _, _, _, _, _ => none
  | n + 1, y0, y1, y2, y3, y4, y5, y6 => X8_best_L26_B x_feel x_turn x_hands x_pressed x_leftFrom x_leftTo x_wait x_isLost  (X8_best_L26 x_feel x_turn x_hands x_pressed x_leftFrom x_leftTo x_wait x_isLost  n) y0 y1 y2 y3 y4 y5 y6
noncomputable def X8_best (x_feel : Int32) (x_turn : Int32) (x_hands : Nat → Int32) (x_pressed : Nat → Int32) (x_leftFrom : Nat → Int32) (x_leftTo : Nat → Int32) (x_wait : Nat → Int32) (x_isLost : Nat → Int32) (x_thrown : Int32) (x_takes : Nat → Int32) (x_took : Nat → Int32) (p1 : Int32) : Option (Int32 × Int32 × (Nat → Int32) × (Nat → Int32)) :=
  bd (X8_noTick p1) fun r6 => if r6 = (0 : Int32) then (bd (X8_priceOf x_feel x_turn x_hands x_pressed x_leftFrom x_leftTo x_wait x_isLost x_takes x_took (0 : Int32) p1) fun r19 => X8_best_L26 x_feel x_turn x_hands x_pressed x_leftFrom x_leftTo x_wait x_isLost  FU (0 : Int32) r19.2.1 r19.2.2 p1 (0 : Int32) r19.1 (1 : Int32)) else (some ((-1 : Int32), (0 : Int32), x_takes, x_took))
abbrev wd_X8_best (cy : Nat → ClassId) (o_t : Nat → Nat) (x_thrown : Int32) (x_delay : Int32) (x_feel : Int32) (x_turn : Int32) (x_sight : Int32) (x_ball : Int32) (x_w : Int32) (x_h : Int32) (x_n : Int32) (x_players : Int32) (x_hands : Nat → Int32) (x_pressed : Nat → Int32) (x_leftFrom : Nat → Int32) (x_leftTo : Nat → Int32) (x_wait : Nat → Int32) (x_isLost : Nat → Int32) (x_takes : Nat → Int32) (x_took : Nat → Int32) : va_W := [(o_t 0, .inr (8, [.int x_thrown, .ref (o_t 2), .ref (o_t 3), .ref (o_t 4), .ref (o_t 5), .ref (o_t 6), .ref (o_t 7), .ref (o_t 8), .ref (o_t 9), .ref (o_t 10), .ref (o_t 11), .int x_delay, .int x_feel, .int x_turn, .int x_sight, .ref (o_t 16), .ref (o_t 17), .ref (o_t 18), .ref (o_t 19), .int x_ball, .int x_w, .int x_h, .int x_n, .ref (o_t 24), .ref (o_t 25), .ref (o_t 26), .ref (o_t 27), .ref (o_t 28), .ref (o_t 29), .int x_players, .ref (o_t 31), .ref (o_t 32), .ref (o_t 33), .ref (o_t 34), .ref (o_t 35), .ref (o_t 36)])), (o_t 4, .inl (cy 0, 5, .inl x_hands)), (o_t 8, .inl (cy 0, 3000, .inl x_pressed)), (o_t 9, .inl (cy 0, 30, .inl x_leftFrom)), (o_t 10, .inl (cy 0, 30, .inl x_leftTo)), (o_t 16, .inl (cy 0, 36, .inl x_wait)), (o_t 17, .inl (cy 1, 600, .inl x_isLost)), (o_t 25, .inl (cy 0, 600, .inl x_takes)), (o_t 26, .inl (cy 0, 600, .inl x_took))]
set_option maxHeartbeats 4000000 in
set_option maxRecDepth 100000 in
theorem w_X8_best {p : Program} {l : Launch} {e : Env} {s : State} {m : MethodId} {args : Array Value} {below : List Frame} {meth : Method} {c : Code} {Q : State → Prop} {A : Nat → Prop} {H : Heap} {locs : List Loc} {ls : Array Slot} (D : va_G) (cy : Nat → ClassId) (t : Nat → Nat) (o_t : Nat → Nat) (x_thrown : Int32) (x_delay : Int32) (x_feel : Int32) (x_turn : Int32) (x_sight : Int32) (x_ball : Int32) (x_w : Int32) (x_h : Int32) (x_n : Int32) (x_players : Int32) (x_hands : Nat → Int32) (x_pressed : Nat → Int32) (x_leftFrom : Nat → Int32) (x_leftTo : Nat → Int32) (x_wait : Nat → Int32) (x_isLost : Nat → Int32) (x_takes : Nat → Int32) (x_took : Nat → Int32) (p1 : Int32) {out : Int32 × Int32 × (Nat → Int32) × (Nat → Int32)} (hf : X8_best x_feel x_turn x_hands x_pressed x_leftFrom x_leftTo x_wait x_isLost x_thrown x_takes x_took p1 = some out) (hx : p.tables.exec = Jvm.exec) (hb : c.code = cX8_best) (hml : c.maxLocals = 6) (hown : s.vm.findClass RX8 = some m.cls) (hts : ∀ w ∈ wsX8_best, w.before args s = true) (hK : va_K D vwCl (TYS cy) s) (hE : EV t A s s.heap) (hA : ∀ q, s.heap.size ≤ q → A q) (hP : va_P D vwCl (wd_X8_best cy o_t x_thrown x_delay x_feel x_turn x_sight x_ball x_w x_h x_n x_players x_hands x_pressed x_leftFrom x_leftTo x_wait x_isLost x_takes x_took) H) (hD : va_D A (wd_X8_best cy o_t x_thrown x_delay x_feel x_turn x_sight x_ball x_w x_h x_n x_players x_hands x_pressed x_leftFrom x_leftTo x_wait x_isLost x_takes x_took)) (hS : va_S A s.heap H locs) (hl : lv_has ls 6 [(0, .ref (o_t 0)), (1, .int p1)]) (hR : ∀ (H : Heap) (locs : List Loc) (ls : Array Slot) (pc : Nat), va_P D vwCl (wd_X8_best cy o_t out.2.1 x_delay x_feel x_turn x_sight x_ball x_w x_h x_n x_players x_hands x_pressed x_leftFrom x_leftTo x_wait x_isLost out.2.2.1 out.2.2.2) H → va_D A (wd_X8_best cy o_t out.2.1 x_delay x_feel x_turn x_sight x_ball x_w x_h x_n x_players x_hands x_pressed x_leftFrom x_leftTo x_wait x_isLost out.2.2.1 out.2.2.2) → va_S A s.heap H locs → decode cX8_best pc = .ok (.ireturn, 1) → W p l e (rmm 5 127) s m args below meth c H locs 0 0 Q (F0 m pc ls [.int out.1])) : W p l e (rmm 5 127) s m args below meth c H locs 0 0 Q (F0 m 0 ls []) := by
  have k0 := hts (.fieldLink RX8 100 "SeaGamesModel" "thrown" "I") (List.mem_cons_of_mem _ (List.mem_append_left _ (List.mem_append_left _ (List.mem_of_getElem? (i := 0) rfl))))
  have k1 : ∀ w ∈ u_ws RX8 TX8 36, w ∈ wsX8_best := fun _ h => List.mem_cons_of_mem _ (List.mem_append_right _ h)
  rw [X8_best] at hf
  refine lv_aload_n hx hb dX8_best_0 rfl (lv_at hl 0 rfl) ?_
  refine lv_iconst (v := (0 : Int32)) hx hb dX8_best_1 (by decide) ?_
  refine va_put (D := D) (ci := 8) (v := .int (0 : Int32)) (ty := .int) (C := RX8) (T := TX8) (N := 36) hx hb hts k1 tyX8 tyX8_ok nmX8 hown hK hP hD hS 0 rfl rfl 0 (by decide) k0 (fun _ h9 => h9) rfl (by decide +kernel) rfl rfl (Nat.le_of_ble_eq_true rfl) dX8_best_2 (fun H locs hP hD hS => ?_)
  have hP : va_P D vwCl (wd_X8_best cy o_t (0 : Int32) x_delay x_feel x_turn x_sight x_ball x_w x_h x_n x_players x_hands x_pressed x_leftFrom x_leftTo x_wait x_isLost x_takes x_took) H := hP
  have hD : va_D A (wd_X8_best cy o_t (0 : Int32) x_delay x_feel x_turn x_sight x_ball x_w x_h x_n x_players x_hands x_pressed x_leftFrom x_leftTo x_wait x_isLost x_takes x_took) := hD
  refine lv_iload_n hx hb dX8_best_5 rfl (lv_at hl 1 rfl) ?_
  obtain ⟨r6, hr6, hf⟩ := bd_s hf
  refine my_Si (WS2 := (wd_X8_best cy o_t (0 : Int32) x_delay x_feel x_turn x_sight x_ball x_w x_h x_n x_players x_hands x_pressed x_leftFrom x_leftTo x_wait x_isLost x_takes x_took)) ⟨hx, hb, hml, hown, hts⟩ (c_X8_noTick l D cy t p1 hr6) (va_cwS 1 hts gX8_best_X8_noTick rfl rfl rfl hd_X8_noTick ⟨Nat.le_of_ble_eq_true rfl, Nat.le_of_ble_eq_true rfl⟩) hK hE hP hD hS hA [] 9 rfl rfl (by decide +kernel) rfl rfl hl.1 rfl (Nat.le_of_ble_eq_true rfl) dX8_best_6 ⟨Nat.le_of_ble_eq_true rfl, Nat.le_of_ble_eq_true rfl⟩ (fun H locs hP hD hS => ?_)
  refine lv_if_eq (tgt := 14) hx hb dX8_best_9 (by decide) (fun c9 => ?_) (fun c9 => ?_)
  · have hf := ifp c9 hf
    have h26 : ∀ (n26 : Nat) (x_thrown : Int32) (x_takes : Nat → Int32) (x_took : Nat → Int32) (l1 : Int32) (l2 : Int32) (l3 : Int32) (l4 : Int32) (H : Heap) (locs : List Loc) (ls : Array Slot), X8_best_L26 x_feel x_turn x_hands x_pressed x_leftFrom x_leftTo x_wait x_isLost n26 x_thrown x_takes x_took l1 l2 l3 l4 = some out → va_P D vwCl (wd_X8_best cy o_t x_thrown x_delay x_feel x_turn x_sight x_ball x_w x_h x_n x_players x_hands x_pressed x_leftFrom x_leftTo x_wait x_isLost x_takes x_took) H → va_D A (wd_X8_best cy o_t x_thrown x_delay x_feel x_turn x_sight x_ball x_w x_h x_n x_players x_hands x_pressed x_leftFrom x_leftTo x_wait x_isLost x_takes x_took) → va_S A s.heap H locs → lv_has ls 6 [(0, .ref (o_t 0)), (1, .int l1), (2, .int l2), (3, .int l3), (4, .int l4)] → W p l e (rmm 5 127) s m args below meth c H locs 0 0 Q (F0 m 26 ls []) := by
      intro n26
      induction n26 with
      | zero =>
        intro _ _ _ _ _ _ _ _ _ _ hf
        exact nomatch (show (none : Option _) = some out from hf)
      | succ n26 ih26 =>
        intro x_thrown x_takes x_took l1 l2 l3 l4 H locs ls hf hP hD hS hl
        have hf : X8_best_L26_B x_feel x_turn x_hands x_pressed x_leftFrom x_leftTo x_wait x_isLost (X8_best_L26 x_feel x_turn x_hands x_pressed x_leftFrom x_leftTo x_wait x_isLost n26) x_thrown x_takes x_took l1 l2 l3 l4 = some out := hf
        rw [X8_best_L26_B] at hf
        refine lv_iload hx hb dX8_best_26 (lv_at hl 4 rfl) ?_
        refine lv_bipush (v := (10 : Int32)) hx hb dX8_best_28 (by decide) ?_
        refine lv_icmp_ge (tgt := 60) hx hb dX8_best_30 (by decide) (fun c30 => ?_) (fun c30 => ?_)
        · have hf := ifp c30 hf
          refine lv_iload_n hx hb dX8_best_60 rfl (lv_at hl 2 rfl) ?_
          obtain rfl := Option.some.inj hf
          exact hR _ _ _ _ hP hD hS dX8_best_61
        · have hf := ifn c30 hf
          have h54 : ∀ (x_thrown : Int32) (x_takes : Nat → Int32) (x_took : Nat → Int32) (l1 : Int32) (l2 : Int32) (l3 : Int32) (l4 : Int32) (H : Heap) (locs : List Loc) (ls : Array Slot), X8_best_J54 x_feel x_turn x_hands x_pressed x_leftFrom x_leftTo x_wait x_isLost (X8_best_L26 x_feel x_turn x_hands x_pressed x_leftFrom x_leftTo x_wait x_isLost n26) x_thrown x_takes x_took l1 l2 l3 l4 = some out → va_P D vwCl (wd_X8_best cy o_t x_thrown x_delay x_feel x_turn x_sight x_ball x_w x_h x_n x_players x_hands x_pressed x_leftFrom x_leftTo x_wait x_isLost x_takes x_took) H → va_D A (wd_X8_best cy o_t x_thrown x_delay x_feel x_turn x_sight x_ball x_w x_h x_n x_players x_hands x_pressed x_leftFrom x_leftTo x_wait x_isLost x_takes x_took) → va_S A s.heap H locs → lv_has ls 6 [(0, .ref (o_t 0)), (1, .int l1), (2, .int l2), (3, .int l3), (4, .int l4)] → W p l e (rmm 5 127) s m args below meth c H locs 0 0 Q (F0 m 54 ls []) := by
            intro x_thrown x_takes x_took l1 l2 l3 l4 H locs ls hf hP hD hS hl
            rw [X8_best_J54] at hf
            obtain ⟨v54, ev54, hf⟩ := nm_s hf
            refine lv_iinc (v := v54) (lv' := [(4, .int v54), (0, .ref (o_t 0)), (1, .int l1), (2, .int l2), (3, .int l3)]) hx hb dX8_best_54 hl (k := 4) rfl (by rw [ev54]; rfl) (by decide) rfl (fun ls hl => ?_)
            refine lv_goto (tgt := 26) hx hb dX8_best_57 (by decide) ?_
            exact ih26 _ _ _ _ _ _ _ _ _ _ hf hP hD hS (lv_sub hl [1, 2, 3, 4, 0] rfl)
          refine lv_aload_n hx hb dX8_best_33 rfl (lv_at hl 0 rfl) ?_
          refine lv_iload hx hb dX8_best_34 (lv_at hl 4 rfl) ?_
          refine lv_iload_n hx hb dX8_best_36 rfl (lv_at hl 1 rfl) ?_
          obtain ⟨r37, hr37, hf⟩ := bd_s hf
          refine my_Vi (WS2 := (wd_X8_best cy o_t x_thrown x_delay x_feel x_turn x_sight x_ball x_w x_h x_n x_players x_hands x_pressed x_leftFrom x_leftTo x_wait x_isLost r37.2.1 r37.2.2)) ⟨hx, hb, hml, hown, hts⟩ (c_X8_priceOf l D cy t o_t x_thrown x_delay x_feel x_turn x_sight x_ball x_w x_h x_n x_players x_hands x_pressed x_leftFrom x_leftTo x_wait x_isLost x_takes x_took l4 l1 hr37) (cwV 2 hts gX8_best_X8_priceOf rfl rfl rfl ⟨rfl, hd_X8_priceOf⟩ ⟨Nat.le_of_ble_eq_true rfl, Nat.le_of_ble_eq_true rfl⟩) hK hE hP hD hS hA [0, 1, 2, 3, 4, 5, 6, 7, 8] 9 8 0 rfl rfl rfl rfl (by decide +kernel) rfl rfl hl.1 rfl (Nat.le_of_ble_eq_true rfl) dX8_best_37 ⟨Nat.le_of_ble_eq_true rfl, Nat.le_of_ble_eq_true rfl⟩ (fun H locs hP hD hS => ?_)
          refine lv_istore (lv' := [(5, .int r37.1), (0, .ref (o_t 0)), (1, .int l1), (2, .int l2), (3, .int l3), (4, .int l4)]) hx hb dX8_best_40 hl (by decide) rfl (fun ls hl => ?_)
          refine lv_iload hx hb dX8_best_42 (lv_at hl 0 rfl) ?_
          refine lv_iload_n hx hb dX8_best_44 rfl (lv_at hl 4 rfl) ?_
          refine lv_icmp_ge (tgt := 54) hx hb dX8_best_45 (by decide) (fun c45 => ?_) (fun c45 => ?_)
          · have hf := ifp c45 hf
            exact h54 _ _ _ _ _ _ _ _ _ _ hf hP hD hS (lv_sub hl [1, 2, 3, 4, 5] rfl)
          · have hf := ifn c45 hf
            refine lv_iload hx hb dX8_best_48 (lv_at hl 0 rfl) ?_
            refine lv_istore_n (lv' := [(3, .int r37.1), (5, .int r37.1), (0, .ref (o_t 0)), (1, .int l1), (2, .int l2), (4, .int l4)]) hx hb dX8_best_50 rfl hl (by decide) rfl (fun ls hl => ?_)
            refine lv_iload hx hb dX8_best_51 (lv_at hl 5 rfl) ?_
            refine lv_istore_n (lv' := [(2, .int l4), (3, .int r37.1), (5, .int r37.1), (0, .ref (o_t 0)), (1, .int l1), (4, .int l4)]) hx hb dX8_best_53 rfl hl (by decide) rfl (fun ls hl => ?_)
            exact h54 _ _ _ _ _ _ _ _ _ _ hf hP hD hS (lv_sub hl [3, 4, 0, 1, 5] rfl)
    refine lv_iconst (v := (0 : Int32)) hx hb dX8_best_14 (by decide) ?_
    refine lv_istore_n (lv' := [(2, .int (0 : Int32)), (0, .ref (o_t 0)), (1, .int p1)]) hx hb dX8_best_15 rfl hl (by decide) rfl (fun ls hl => ?_)
    refine lv_aload_n hx hb dX8_best_16 rfl (lv_at hl 1 rfl) ?_
    refine lv_iconst (v := (0 : Int32)) hx hb dX8_best_17 (by decide) ?_
    refine lv_iload_n hx hb dX8_best_18 rfl (lv_at hl 2 rfl) ?_
    obtain ⟨r19, hr19, hf⟩ := bd_s hf
    refine my_Vi (WS2 := (wd_X8_best cy o_t (0 : Int32) x_delay x_feel x_turn x_sight x_ball x_w x_h x_n x_players x_hands x_pressed x_leftFrom x_leftTo x_wait x_isLost r19.2.1 r19.2.2)) ⟨hx, hb, hml, hown, hts⟩ (c_X8_priceOf l D cy t o_t (0 : Int32) x_delay x_feel x_turn x_sight x_ball x_w x_h x_n x_players x_hands x_pressed x_leftFrom x_leftTo x_wait x_isLost x_takes x_took (0 : Int32) p1 hr19) (cwV 2 hts gX8_best_X8_priceOf rfl rfl rfl ⟨rfl, hd_X8_priceOf⟩ ⟨Nat.le_of_ble_eq_true rfl, Nat.le_of_ble_eq_true rfl⟩) hK hE hP hD hS hA [0, 1, 2, 3, 4, 5, 6, 7, 8] 9 8 0 rfl rfl rfl rfl (by decide +kernel) rfl rfl hl.1 rfl (Nat.le_of_ble_eq_true rfl) dX8_best_19 ⟨Nat.le_of_ble_eq_true rfl, Nat.le_of_ble_eq_true rfl⟩ (fun H locs hP hD hS => ?_)
    refine lv_istore_n (lv' := [(3, .int r19.1), (2, .int (0 : Int32)), (0, .ref (o_t 0)), (1, .int p1)]) hx hb dX8_best_22 rfl hl (by decide) rfl (fun ls hl => ?_)
    refine lv_iconst (v := (1 : Int32)) hx hb dX8_best_23 (by decide) ?_
    refine lv_istore (lv' := [(4, .int (1 : Int32)), (3, .int r19.1), (2, .int (0 : Int32)), (0, .ref (o_t 0)), (1, .int p1)]) hx hb dX8_best_24 hl (by decide) rfl (fun ls hl => ?_)
    exact h26 FU _ _ _ _ _ _ _ _ _ _ hf hP hD hS (lv_sub hl [3, 4, 2, 1, 0] rfl)
  · have hf := ifn c9 hf
    refine lv_iconst (v := (-1 : Int32)) hx hb dX8_best_12 (by decide) ?_
    obtain rfl := Option.some.inj hf
    exact hR _ _ _ _ hP hD hS dX8_best_13
theorem hd_X8_best : yX8_best.cls ≠ "java/lang/invoke/MethodHandle" ∧ yX8_best.cls ≠ "java/lang/invoke/VarHandle" ∧ (parseMethodDescriptor yX8_best.desc).map (fun d => d.parameters.length) = some 1 := by decide +kernel
set_option maxRecDepth 100000 in
theorem c_X8_best (l : Launch) (D : va_G) (cy : Nat → ClassId) (t : Nat → Nat) (o_t : Nat → Nat) (x_thrown : Int32) (x_delay : Int32) (x_feel : Int32) (x_turn : Int32) (x_sight : Int32) (x_ball : Int32) (x_w : Int32) (x_h : Int32) (x_n : Int32) (x_players : Int32) (x_hands : Nat → Int32) (x_pressed : Nat → Int32) (x_leftFrom : Nat → Int32) (x_leftTo : Nat → Int32) (x_wait : Nat → Int32) (x_isLost : Nat → Int32) (x_takes : Nat → Int32) (x_took : Nat → Int32) (p1 : Int32) {out : Int32 × Int32 × (Nat → Int32) × (Nat → Int32)} (hf : X8_best x_feel x_turn x_hands x_pressed x_leftFrom x_leftTo x_wait x_isLost x_thrown x_takes x_took p1 = some out) : ctI l yX8_best wsX8_best 5 127 D cy t [.ref (o_t 0), .int p1] (wd_X8_best cy o_t x_thrown x_delay x_feel x_turn x_sight x_ball x_w x_h x_n x_players x_hands x_pressed x_leftFrom x_leftTo x_wait x_isLost x_takes x_took) (wd_X8_best cy o_t out.2.1 x_delay x_feel x_turn x_sight x_ball x_w x_h x_n x_players x_hands x_pressed x_leftFrom x_leftTo x_wait x_isLost out.2.2.1 out.2.2.2) out.1 := by
  refine ⟨rfl, ?_⟩
  intro sz
  refine Met.ofW (cc := cX8_best) (maxL := 6) (ret := (some .int)) (by decide) rfl ?_
  intro p e s m args below meth c s₁ B hml hv
  obtain ⟨rfl, hsz, hP, hK, hD0, hE⟩ := hv
  have hts := atoms_spec (ws := wsX8_best) B.pre
  have hown : s.vm.findClass RX8 = some m.cls := findClass_of_methodNamed B.named
  have hlocks := B.notSynchronized
  subst hsz
  have hD := hD0.self (sz := s.heap.size)
  have hl := lv_entry ([.ref (o_t 0), .int p1]) (n := 6) (Nat.le_of_ble_eq_true rfl)
  rw [lg_entry_eq]
  generalize (lg_sl ([.ref (o_t 0), .int p1]) ++ List.replicate (6 - (lg_sl ([.ref (o_t 0), .int p1])).length) Slot.unset).toArray = ls at hl ⊢
  exact w_X8_best D cy t o_t x_thrown x_delay x_feel x_turn x_sight x_ball x_w x_h x_n x_players x_hands x_pressed x_leftFrom x_leftTo x_wait x_isLost x_takes x_took p1 hf B.exec B.bytes hml hown hts hK hE (fun q h => Or.inr h) hP hD va_S.rf hl (fun H locs ls pc hP hD hS hdg => W.iret B.exec B.bytes B.returns (fun t ht hW => ⟨⟨_, (), rfl, rfl, ctB_of ht hP⟩, hS.F ht⟩) hS.2.2 hdg)

noncomputable def X8_isSeen (x_sight : Int32) (x_w : Int32) (x_place : Nat → Int32) (p1 : Int32) (p2 : Int32) : Option (Int32) :=
  rd x_place 6 p1 fun v5 => dvI x_w <| dvI x_w <| bd (X8_size ((v5 - v5 / x_w * x_w) - (p2 - p2 / x_w * x_w))) fun r18 => rd x_place 6 p1 fun v26 => dvI x_w <| dvI x_w <| bd (X8_size ((v26 / x_w) - (p2 / x_w))) fun r39 => if x_sight < (r18 + r39) then (zb (0 : Int32) <| some (0 : Int32)) else (zb (1 : Int32) <| some (1 : Int32))
abbrev wd_X8_isSeen (cy : Nat → ClassId) (o_t : Nat → Nat) (x_thrown : Int32) (x_delay : Int32) (x_feel : Int32) (x_turn : Int32) (x_sight : Int32) (x_ball : Int32) (x_w : Int32) (x_h : Int32) (x_n : Int32) (x_players : Int32) (x_place : Nat → Int32) : va_W := [(o_t 0, .inr (8, [.int x_thrown, .ref (o_t 2), .ref (o_t 3), .ref (o_t 4), .ref (o_t 5), .ref (o_t 6), .ref (o_t 7), .ref (o_t 8), .ref (o_t 9), .ref (o_t 10), .ref (o_t 11), .int x_delay, .int x_feel, .int x_turn, .int x_sight, .ref (o_t 16), .ref (o_t 17), .ref (o_t 18), .ref (o_t 19), .int x_ball, .int x_w, .int x_h, .int x_n, .ref (o_t 24), .ref (o_t 25), .ref (o_t 26), .ref (o_t 27), .ref (o_t 28), .ref (o_t 29), .int x_players, .ref (o_t 31), .ref (o_t 32), .ref (o_t 33), .ref (o_t 34), .ref (o_t 35), .ref (o_t 36)])), (o_t 18, .inl (cy 0, 6, .inl x_place))]
set_option maxHeartbeats 4000000 in
set_option maxRecDepth 100000 in
theorem w_X8_isSeen {p : Program} {l : Launch} {e : Env} {s : State} {m : MethodId} {args : Array Value} {below : List Frame} {meth : Method} {c : Code} {Q : State → Prop} {A : Nat → Prop} {H : Heap} {locs : List Loc} {ls : Array Slot} (D : va_G) (cy : Nat → ClassId) (t : Nat → Nat) (o_t : Nat → Nat) (x_thrown : Int32) (x_delay : Int32) (x_feel : Int32) (x_turn : Int32) (x_sight : Int32) (x_ball : Int32) (x_w : Int32) (x_h : Int32) (x_n : Int32) (x_players : Int32) (x_place : Nat → Int32) (p1 : Int32) (p2 : Int32) {out : Int32} (hf : X8_isSeen x_sight x_w x_place p1 p2 = some out) (hx : p.tables.exec = Jvm.exec) (hb : c.code = cX8_isSeen) (hml : c.maxLocals = 3) (hown : s.vm.findClass RX8 = some m.cls) (hts : ∀ w ∈ wsX8_isSeen, w.before args s = true) (hK : va_K D vwCl (TYS cy) s) (hE : EV t A s s.heap) (hA : ∀ q, s.heap.size ≤ q → A q) (hP : va_P D vwCl (wd_X8_isSeen cy o_t x_thrown x_delay x_feel x_turn x_sight x_ball x_w x_h x_n x_players x_place) H) (hD : va_D A (wd_X8_isSeen cy o_t x_thrown x_delay x_feel x_turn x_sight x_ball x_w x_h x_n x_players x_place)) (hS : va_S A s.heap H locs) (hl : lv_has ls 3 [(0, .ref (o_t 0)), (1, .int p1), (2, .int p2)]) (hR : ∀ (H : Heap) (locs : List Loc) (ls : Array Slot) (pc : Nat), va_P D vwCl (wd_X8_isSeen cy o_t x_thrown x_delay x_feel x_turn x_sight x_ball x_w x_h x_n x_players x_place) H → va_D A (wd_X8_isSeen cy o_t x_thrown x_delay x_feel x_turn x_sight x_ball x_w x_h x_n x_players x_place) → va_S A s.heap H locs → narrow .boolean (.int out) = .int out → decode cX8_isSeen pc = .ok (.ireturn, 1) → W p l e (rmm 1 20) s m args below meth c H locs 0 0 Q (F0 m pc ls [.int out])) : W p l e (rmm 1 20) s m args below meth c H locs 0 0 Q (F0 m 0 ls []) := by
  have k0 := hts (.fieldLink RX8 57 "SeaGamesModel" "place" "[I") (List.mem_cons_of_mem _ (List.mem_append_left _ (List.mem_of_getElem? (i := 0) rfl)))
  have k1 : ∀ w ∈ u_ws RX8 TX8 36, w ∈ wsX8_isSeen := fun _ h => List.mem_cons_of_mem _ (List.mem_append_right _ h)
  have k2 := hts (.fieldLink RX8 129 "SeaGamesModel" "w" "I") (List.mem_cons_of_mem _ (List.mem_append_left _ (List.mem_of_getElem? (i := 1) rfl)))
  have k3 := hts (.fieldLink RX8 48 "SeaGamesModel" "sight" "I") (List.mem_cons_of_mem _ (List.mem_append_left _ (List.mem_of_getElem? (i := 2) rfl)))
  rw [X8_isSeen] at hf
  refine lv_aload_n hx hb dX8_isSeen_0 rfl (lv_at hl 0 rfl) ?_
  refine va_get (D := D) (ci := 8) (v := .ref (o_t 18)) (C := RX8) (T := TX8) (N := 36) hx hb hts k1 hown hK hP 0 rfl rfl 17 (by decide) k0 (fun _ h9 => h9) rfl dX8_isSeen_1 ?_
  refine lv_iload_n hx hb dX8_isSeen_4 rfl (lv_at hl 1 rfl) ?_
  obtain ⟨v5, b5, ev5, hf⟩ := rd_s hf
  refine my_iald hx hb hK hP 1 rfl b5 ev5 dX8_isSeen_5 ?_
  refine lv_aload_n hx hb dX8_isSeen_6 rfl (lv_at hl 0 rfl) ?_
  refine va_get (D := D) (ci := 8) (v := .int x_w) (C := RX8) (T := TX8) (N := 36) hx hb hts k1 hown hK hP 0 rfl rfl 20 (by decide) k2 (fun _ h9 => h9) rfl dX8_isSeen_7 ?_
  obtain ⟨z10, hf⟩ := dvI_s hf
  refine lv_irem hx hb dX8_isSeen_10 z10 ?_
  refine lv_iload_n hx hb dX8_isSeen_11 rfl (lv_at hl 2 rfl) ?_
  refine lv_aload_n hx hb dX8_isSeen_12 rfl (lv_at hl 0 rfl) ?_
  refine va_get (D := D) (ci := 8) (v := .int x_w) (C := RX8) (T := TX8) (N := 36) hx hb hts k1 hown hK hP 0 rfl rfl 20 (by decide) k2 (fun _ h9 => h9) rfl dX8_isSeen_13 ?_
  obtain ⟨z16, hf⟩ := dvI_s hf
  refine lv_irem hx hb dX8_isSeen_16 z16 ?_
  refine lv_isub hx hb dX8_isSeen_17 ?_
  obtain ⟨r18, hr18, hf⟩ := bd_s hf
  refine my_Si (WS2 := (wd_X8_isSeen cy o_t x_thrown x_delay x_feel x_turn x_sight x_ball x_w x_h x_n x_players x_place)) ⟨hx, hb, hml, hown, hts⟩ (c_X8_size l D cy t ((v5 - v5 / x_w * x_w) - (p2 - p2 / x_w * x_w)) hr18) (va_cwS 1 hts gX8_isSeen_X8_size rfl rfl rfl hd_X8_size ⟨Nat.le_of_ble_eq_true rfl, Nat.le_of_ble_eq_true rfl⟩) hK hE hP hD hS hA [] 2 rfl rfl (by decide +kernel) rfl rfl hl.1 rfl (Nat.le_of_ble_eq_true rfl) dX8_isSeen_18 ⟨Nat.le_of_ble_eq_true rfl, Nat.le_of_ble_eq_true rfl⟩ (fun H locs hP hD hS => ?_)
  refine lv_aload_n hx hb dX8_isSeen_21 rfl (lv_at hl 0 rfl) ?_
  refine va_get (D := D) (ci := 8) (v := .ref (o_t 18)) (C := RX8) (T := TX8) (N := 36) hx hb hts k1 hown hK hP 0 rfl rfl 17 (by decide) k0 (fun _ h9 => h9) rfl dX8_isSeen_22 ?_
  refine lv_iload_n hx hb dX8_isSeen_25 rfl (lv_at hl 1 rfl) ?_
  obtain ⟨v26, b26, ev26, hf⟩ := rd_s hf
  refine my_iald hx hb hK hP 1 rfl b26 ev26 dX8_isSeen_26 ?_
  refine lv_aload_n hx hb dX8_isSeen_27 rfl (lv_at hl 0 rfl) ?_
  refine va_get (D := D) (ci := 8) (v := .int x_w) (C := RX8) (T := TX8) (N := 36) hx hb hts k1 hown hK hP 0 rfl rfl 20 (by decide) k2 (fun _ h9 => h9) rfl dX8_isSeen_28 ?_
  obtain ⟨z31, hf⟩ := dvI_s hf
  refine lv_idiv hx hb dX8_isSeen_31 z31 ?_
  refine lv_iload_n hx hb dX8_isSeen_32 rfl (lv_at hl 2 rfl) ?_
  refine lv_aload_n hx hb dX8_isSeen_33 rfl (lv_at hl 0 rfl) ?_
  refine va_get (D := D) (ci := 8) (v := .int x_w) (C := RX8) (T := TX8) (N := 36) hx hb hts k1 hown hK hP 0 rfl rfl 20 (by decide) k2 (fun _ h9 => h9) rfl dX8_isSeen_34 ?_
  obtain ⟨z37, hf⟩ := dvI_s hf
  refine lv_idiv hx hb dX8_isSeen_37 z37 ?_
  refine lv_isub hx hb dX8_isSeen_38 ?_
  obtain ⟨r39, hr39, hf⟩ := bd_s hf
  refine my_Si (WS2 := (wd_X8_isSeen cy o_t x_thrown x_delay x_feel x_turn x_sight x_ball x_w x_h x_n x_players x_place)) ⟨hx, hb, hml, hown, hts⟩ (c_X8_size l D cy t ((v26 / x_w) - (p2 / x_w)) hr39) (va_cwS 1 hts gX8_isSeen_X8_size rfl rfl rfl hd_X8_size ⟨Nat.le_of_ble_eq_true rfl, Nat.le_of_ble_eq_true rfl⟩) hK hE hP hD hS hA [] 2 rfl rfl (by decide +kernel) rfl rfl hl.1 rfl (Nat.le_of_ble_eq_true rfl) dX8_isSeen_39 ⟨Nat.le_of_ble_eq_true rfl, Nat.le_of_ble_eq_true rfl⟩ (fun H locs hP hD hS => ?_)
  refine lv_iadd hx hb dX8_isSeen_42 ?_
  refine lv_aload_n hx hb dX8_isSeen_43 rfl (lv_at hl 0 rfl) ?_
  refine va_get (D := D) (ci := 8) (v := .int x_sight) (C := RX8) (T := TX8) (N := 36) hx hb hts k1 hown hK hP 0 rfl rfl 14 (by decide) k3 (fun _ h9 => h9) rfl dX8_isSeen_44 ?_
  refine lv_icmp_gt (tgt := 54) hx hb dX8_isSeen_47 (by decide) (fun c47 => ?_) (fun c47 => ?_)
  · have hf := ifp c47 hf
    refine lv_iconst (v := (0 : Int32)) hx hb dX8_isSeen_54 (by decide) ?_
    obtain ⟨z55, hf⟩ := zb_s hf
    obtain rfl := Option.some.inj hf
    exact hR _ _ _ _ hP hD hS z55 dX8_isSeen_55
  · have hf := ifn c47 hf
    refine lv_iconst (v := (1 : Int32)) hx hb dX8_isSeen_50 (by decide) ?_
    refine lv_goto (tgt := 55) hx hb dX8_isSeen_51 (by decide) ?_
    obtain ⟨z55, hf⟩ := zb_s hf
    obtain rfl := Option.some.inj hf
    exact hR _ _ _ _ hP hD hS z55 dX8_isSeen_55
theorem hd_X8_isSeen : yX8_isSeen.cls ≠ "java/lang/invoke/MethodHandle" ∧ yX8_isSeen.cls ≠ "java/lang/invoke/VarHandle" ∧ (parseMethodDescriptor yX8_isSeen.desc).map (fun d => d.parameters.length) = some 2 := by decide +kernel
set_option maxRecDepth 100000 in
theorem c_X8_isSeen (l : Launch) (D : va_G) (cy : Nat → ClassId) (t : Nat → Nat) (o_t : Nat → Nat) (x_thrown : Int32) (x_delay : Int32) (x_feel : Int32) (x_turn : Int32) (x_sight : Int32) (x_ball : Int32) (x_w : Int32) (x_h : Int32) (x_n : Int32) (x_players : Int32) (x_place : Nat → Int32) (p1 : Int32) (p2 : Int32) {out : Int32} (hf : X8_isSeen x_sight x_w x_place p1 p2 = some out) : ctI l yX8_isSeen wsX8_isSeen 1 20 D cy t [.ref (o_t 0), .int p1, .int p2] (wd_X8_isSeen cy o_t x_thrown x_delay x_feel x_turn x_sight x_ball x_w x_h x_n x_players x_place) (wd_X8_isSeen cy o_t x_thrown x_delay x_feel x_turn x_sight x_ball x_w x_h x_n x_players x_place) out := by
  refine ⟨rfl, ?_⟩
  intro sz
  refine Met.ofW (cc := cX8_isSeen) (maxL := 3) (ret := (some .boolean)) (by decide) rfl ?_
  intro p e s m args below meth c s₁ B hml hv
  obtain ⟨rfl, hsz, hP, hK, hD0, hE⟩ := hv
  have hts := atoms_spec (ws := wsX8_isSeen) B.pre
  have hown : s.vm.findClass RX8 = some m.cls := findClass_of_methodNamed B.named
  have hlocks := B.notSynchronized
  subst hsz
  have hD := hD0.self (sz := s.heap.size)
  have hl := lv_entry ([.ref (o_t 0), .int p1, .int p2]) (n := 3) (Nat.le_of_ble_eq_true rfl)
  rw [lg_entry_eq]
  generalize (lg_sl ([.ref (o_t 0), .int p1, .int p2]) ++ List.replicate (3 - (lg_sl ([.ref (o_t 0), .int p1, .int p2])).length) Slot.unset).toArray = ls at hl ⊢
  exact w_X8_isSeen D cy t o_t x_thrown x_delay x_feel x_turn x_sight x_ball x_w x_h x_n x_players x_place p1 p2 hf B.exec B.bytes hml hown hts hK hE (fun q h => Or.inr h) hP hD va_S.rf hl (fun H locs ls pc hP hD hS z hdg => W.zret B.exec B.bytes B.returns z (fun t ht hW => ⟨⟨_, (), rfl, rfl, ctB_of ht hP⟩, hS.F ht⟩) hS.2.2 hdg)

noncomputable def X8_sees (x_sight : Int32) (x_wide : Nat → Int32) (x_tall : Nat → Int32) (x_hands : Nat → Int32) (x_power : Nat → Int32) (x_spin : Nat → Int32) (x_seed : Nat → Int32) (x_pressed : Nat → Int32) (x_leftFrom : Nat → Int32) (x_leftTo : Nat → Int32) (x_thrown : Int32) (x_ball : Int32) (x_w : Int32) (x_h : Int32) (x_n : Int32) (x_place : Nat → Int32) (x_points : Nat → Int32) (p1 : Int32) (p2 : Int32) (p3 : Int32) : Option (Int32 × Int32 × Int32 × Int32 × Int32 × Int32 × (Nat → Int32) × (Nat → Int32)) :=
  bd (X8_noHand x_hands p1) fun r7 => if r7 = (0 : Int32) then (bd (X8_noHand x_hands p2) fun r15 => if r15 = (0 : Int32) then (bd (X8_noTick p3) fun r22 => if r22 = (0 : Int32) then (bd (X8_liveNow x_wide x_tall x_hands x_power x_spin x_seed x_pressed x_leftFrom x_leftTo x_ball x_w x_h x_n x_place x_points p3) fun r32 => rd r32.2.2.2.2.1 6 p2 fun v42 => bd (X8_isSeen x_sight r32.2.1 r32.2.2.2.2.1 p1 v42) fun r43 => if r43 = (0 : Int32) then (some ((0 : Int32), (0 : Int32), r32.1, r32.2.1, r32.2.2.1, r32.2.2.2.1, r32.2.2.2.2.1, r32.2.2.2.2.2)) else (some ((1 : Int32), (0 : Int32), r32.1, r32.2.1, r32.2.2.1, r32.2.2.2.1, r32.2.2.2.2.1, r32.2.2.2.2.2))) else (some ((-1 : Int32), (0 : Int32), x_ball, x_w, x_h, x_n, x_place, x_points))) else (some ((-1 : Int32), (0 : Int32), x_ball, x_w, x_h, x_n, x_place, x_points))) else (some ((-1 : Int32), (0 : Int32), x_ball, x_w, x_h, x_n, x_place, x_points))
abbrev wd_X8_sees (cy : Nat → ClassId) (o_t : Nat → Nat) (x_thrown : Int32) (x_delay : Int32) (x_feel : Int32) (x_turn : Int32) (x_sight : Int32) (x_ball : Int32) (x_w : Int32) (x_h : Int32) (x_n : Int32) (x_players : Int32) (x_wide : Nat → Int32) (x_tall : Nat → Int32) (x_hands : Nat → Int32) (x_power : Nat → Int32) (x_spin : Nat → Int32) (x_seed : Nat → Int32) (x_pressed : Nat → Int32) (x_leftFrom : Nat → Int32) (x_leftTo : Nat → Int32) (x_place : Nat → Int32) (x_points : Nat → Int32) : va_W := [(o_t 0, .inr (8, [.int x_thrown, .ref (o_t 2), .ref (o_t 3), .ref (o_t 4), .ref (o_t 5), .ref (o_t 6), .ref (o_t 7), .ref (o_t 8), .ref (o_t 9), .ref (o_t 10), .ref (o_t 11), .int x_delay, .int x_feel, .int x_turn, .int x_sight, .ref (o_t 16), .ref (o_t 17), .ref (o_t 18), .ref (o_t 19), .int x_ball, .int x_w, .int x_h, .int x_n, .ref (o_t 24), .ref (o_t 25), .ref (o_t 26), .ref (o_t 27), .ref (o_t 28), .ref (o_t 29), .int x_players, .ref (o_t 31), .ref (o_t 32), .ref (o_t 33), .ref (o_t 34), .ref (o_t 35), .ref (o_t 36)])), (o_t 2, .inl (cy 0, 5, .inl x_wide)), (o_t 3, .inl (cy 0, 5, .inl x_tall)), (o_t 4, .inl (cy 0, 5, .inl x_hands)), (o_t 5, .inl (cy 0, 5, .inl x_power)), (o_t 6, .inl (cy 0, 5, .inl x_spin)), (o_t 7, .inl (cy 0, 5, .inl x_seed)), (o_t 8, .inl (cy 0, 3000, .inl x_pressed)), (o_t 9, .inl (cy 0, 30, .inl x_leftFrom)), (o_t 10, .inl (cy 0, 30, .inl x_leftTo)), (o_t 18, .inl (cy 0, 6, .inl x_place)), (o_t 19, .inl (cy 0, 6, .inl x_points))]
set_option maxHeartbeats 4000000 in
set_option maxRecDepth 100000 in
theorem w_X8_sees {p : Program} {l : Launch} {e : Env} {s : State} {m : MethodId} {args : Array Value} {below : List Frame} {meth : Method} {c : Code} {Q : State → Prop} {A : Nat → Prop} {H : Heap} {locs : List Loc} {ls : Array Slot} (D : va_G) (cy : Nat → ClassId) (t : Nat → Nat) (o_t : Nat → Nat) (x_thrown : Int32) (x_delay : Int32) (x_feel : Int32) (x_turn : Int32) (x_sight : Int32) (x_ball : Int32) (x_w : Int32) (x_h : Int32) (x_n : Int32) (x_players : Int32) (x_wide : Nat → Int32) (x_tall : Nat → Int32) (x_hands : Nat → Int32) (x_power : Nat → Int32) (x_spin : Nat → Int32) (x_seed : Nat → Int32) (x_pressed : Nat → Int32) (x_leftFrom : Nat → Int32) (x_leftTo : Nat → Int32) (x_place : Nat → Int32) (x_points : Nat → Int32) (p1 : Int32) (p2 : Int32) (p3 : Int32) {out : Int32 × Int32 × Int32 × Int32 × Int32 × Int32 × (Nat → Int32) × (Nat → Int32)} (hf : X8_sees x_sight x_wide x_tall x_hands x_power x_spin x_seed x_pressed x_leftFrom x_leftTo x_thrown x_ball x_w x_h x_n x_place x_points p1 p2 p3 = some out) (hx : p.tables.exec = Jvm.exec) (hb : c.code = cX8_sees) (hml : c.maxLocals = 4) (hown : s.vm.findClass RX8 = some m.cls) (hts : ∀ w ∈ wsX8_sees, w.before args s = true) (hK : va_K D vwCl (TYS cy) s) (hE : EV t A s s.heap) (hA : ∀ q, s.heap.size ≤ q → A q) (hP : va_P D vwCl (wd_X8_sees cy o_t x_thrown x_delay x_feel x_turn x_sight x_ball x_w x_h x_n x_players x_wide x_tall x_hands x_power x_spin x_seed x_pressed x_leftFrom x_leftTo x_place x_points) H) (hD : va_D A (wd_X8_sees cy o_t x_thrown x_delay x_feel x_turn x_sight x_ball x_w x_h x_n x_players x_wide x_tall x_hands x_power x_spin x_seed x_pressed x_leftFrom x_leftTo x_place x_points)) (hS : va_S A s.heap H locs) (hl : lv_has ls 4 [(0, .ref (o_t 0)), (1, .int p1), (2, .int p2), (3, .int p3)]) (hR : ∀ (H : Heap) (locs : List Loc) (ls : Array Slot) (pc : Nat), va_P D vwCl (wd_X8_sees cy o_t out.2.1 x_delay x_feel x_turn x_sight out.2.2.1 out.2.2.2.1 out.2.2.2.2.1 out.2.2.2.2.2.1 x_players x_wide x_tall x_hands x_power x_spin x_seed x_pressed x_leftFrom x_leftTo out.2.2.2.2.2.2.1 out.2.2.2.2.2.2.2) H → va_D A (wd_X8_sees cy o_t out.2.1 x_delay x_feel x_turn x_sight out.2.2.1 out.2.2.2.1 out.2.2.2.2.1 out.2.2.2.2.2.1 x_players x_wide x_tall x_hands x_power x_spin x_seed x_pressed x_leftFrom x_leftTo out.2.2.2.2.2.2.1 out.2.2.2.2.2.2.2) → va_S A s.heap H locs → decode cX8_sees pc = .ok (.ireturn, 1) → W p l e (rmm 7 172) s m args below meth c H locs 0 0 Q (F0 m pc ls [.int out.1])) : W p l e (rmm 7 172) s m args below meth c H locs 0 0 Q (F0 m 0 ls []) := by
  have k0 := hts (.fieldLink RX8 100 "SeaGamesModel" "thrown" "I") (List.mem_cons_of_mem _ (List.mem_append_left _ (List.mem_append_left _ (List.mem_of_getElem? (i := 0) rfl))))
  have k1 : ∀ w ∈ u_ws RX8 TX8 36, w ∈ wsX8_sees := fun _ h => List.mem_cons_of_mem _ (List.mem_append_right _ h)
  have k2 := hts (.fieldLink RX8 57 "SeaGamesModel" "place" "[I") (List.mem_cons_of_mem _ (List.mem_append_left _ (List.mem_append_left _ (List.mem_of_getElem? (i := 1) rfl))))
  rw [X8_sees] at hf
  refine lv_aload_n hx hb dX8_sees_0 rfl (lv_at hl 0 rfl) ?_
  refine lv_iconst (v := (0 : Int32)) hx hb dX8_sees_1 (by decide) ?_
  refine va_put (D := D) (ci := 8) (v := .int (0 : Int32)) (ty := .int) (C := RX8) (T := TX8) (N := 36) hx hb hts k1 tyX8 tyX8_ok nmX8 hown hK hP hD hS 0 rfl rfl 0 (by decide) k0 (fun _ h9 => h9) rfl (by decide +kernel) rfl rfl (Nat.le_of_ble_eq_true rfl) dX8_sees_2 (fun H locs hP hD hS => ?_)
  have hP : va_P D vwCl (wd_X8_sees cy o_t (0 : Int32) x_delay x_feel x_turn x_sight x_ball x_w x_h x_n x_players x_wide x_tall x_hands x_power x_spin x_seed x_pressed x_leftFrom x_leftTo x_place x_points) H := hP
  have hD : va_D A (wd_X8_sees cy o_t (0 : Int32) x_delay x_feel x_turn x_sight x_ball x_w x_h x_n x_players x_wide x_tall x_hands x_power x_spin x_seed x_pressed x_leftFrom x_leftTo x_place x_points) := hD
  refine lv_aload_n hx hb dX8_sees_5 rfl (lv_at hl 0 rfl) ?_
  refine lv_iload_n hx hb dX8_sees_6 rfl (lv_at hl 1 rfl) ?_
  obtain ⟨r7, hr7, hf⟩ := bd_s hf
  refine my_Vi (WS2 := (wd_X8_sees cy o_t (0 : Int32) x_delay x_feel x_turn x_sight x_ball x_w x_h x_n x_players x_wide x_tall x_hands x_power x_spin x_seed x_pressed x_leftFrom x_leftTo x_place x_points)) ⟨hx, hb, hml, hown, hts⟩ (c_X8_noHand l D cy t o_t (0 : Int32) x_delay x_feel x_turn x_sight x_ball x_w x_h x_n x_players x_hands p1 hr7) (cwV 1 hts gX8_sees_X8_noHand rfl rfl rfl ⟨rfl, hd_X8_noHand⟩ ⟨Nat.le_of_ble_eq_true rfl, Nat.le_of_ble_eq_true rfl⟩) hK hE hP hD hS hA [0, 3] 12 8 0 rfl rfl rfl rfl (by decide +kernel) rfl rfl hl.1 rfl (Nat.le_of_ble_eq_true rfl) dX8_sees_7 ⟨Nat.le_of_ble_eq_true rfl, Nat.le_of_ble_eq_true rfl⟩ (fun H locs hP hD hS => ?_)
  refine lv_if_ne (tgt := 28) hx hb dX8_sees_10 (by decide) (fun c10 => ?_) (fun c10 => ?_)
  · have hf := ifn c10 hf
    refine lv_iconst (v := (-1 : Int32)) hx hb dX8_sees_28 (by decide) ?_
    obtain rfl := Option.some.inj hf
    exact hR _ _ _ _ hP hD hS dX8_sees_29
  · have hf := ifp c10 hf
    refine lv_aload_n hx hb dX8_sees_13 rfl (lv_at hl 0 rfl) ?_
    refine lv_iload_n hx hb dX8_sees_14 rfl (lv_at hl 2 rfl) ?_
    obtain ⟨r15, hr15, hf⟩ := bd_s hf
    refine my_Vi (WS2 := (wd_X8_sees cy o_t (0 : Int32) x_delay x_feel x_turn x_sight x_ball x_w x_h x_n x_players x_wide x_tall x_hands x_power x_spin x_seed x_pressed x_leftFrom x_leftTo x_place x_points)) ⟨hx, hb, hml, hown, hts⟩ (c_X8_noHand l D cy t o_t (0 : Int32) x_delay x_feel x_turn x_sight x_ball x_w x_h x_n x_players x_hands p2 hr15) (cwV 1 hts gX8_sees_X8_noHand rfl rfl rfl ⟨rfl, hd_X8_noHand⟩ ⟨Nat.le_of_ble_eq_true rfl, Nat.le_of_ble_eq_true rfl⟩) hK hE hP hD hS hA [0, 3] 12 8 0 rfl rfl rfl rfl (by decide +kernel) rfl rfl hl.1 rfl (Nat.le_of_ble_eq_true rfl) dX8_sees_15 ⟨Nat.le_of_ble_eq_true rfl, Nat.le_of_ble_eq_true rfl⟩ (fun H locs hP hD hS => ?_)
    refine lv_if_ne (tgt := 28) hx hb dX8_sees_18 (by decide) (fun c18 => ?_) (fun c18 => ?_)
    · have hf := ifn c18 hf
      refine lv_iconst (v := (-1 : Int32)) hx hb dX8_sees_28 (by decide) ?_
      obtain rfl := Option.some.inj hf
      exact hR _ _ _ _ hP hD hS dX8_sees_29
    · have hf := ifp c18 hf
      refine lv_iload_n hx hb dX8_sees_21 rfl (lv_at hl 3 rfl) ?_
      obtain ⟨r22, hr22, hf⟩ := bd_s hf
      refine my_Si (WS2 := (wd_X8_sees cy o_t (0 : Int32) x_delay x_feel x_turn x_sight x_ball x_w x_h x_n x_players x_wide x_tall x_hands x_power x_spin x_seed x_pressed x_leftFrom x_leftTo x_place x_points)) ⟨hx, hb, hml, hown, hts⟩ (c_X8_noTick l D cy t p3 hr22) (va_cwS 1 hts gX8_sees_X8_noTick rfl rfl rfl hd_X8_noTick ⟨Nat.le_of_ble_eq_true rfl, Nat.le_of_ble_eq_true rfl⟩) hK hE hP hD hS hA [] 12 rfl rfl (by decide +kernel) rfl rfl hl.1 rfl (Nat.le_of_ble_eq_true rfl) dX8_sees_22 ⟨Nat.le_of_ble_eq_true rfl, Nat.le_of_ble_eq_true rfl⟩ (fun H locs hP hD hS => ?_)
      refine lv_if_eq (tgt := 30) hx hb dX8_sees_25 (by decide) (fun c25 => ?_) (fun c25 => ?_)
      · have hf := ifp c25 hf
        refine lv_aload_n hx hb dX8_sees_30 rfl (lv_at hl 0 rfl) ?_
        refine lv_iload_n hx hb dX8_sees_31 rfl (lv_at hl 3 rfl) ?_
        obtain ⟨r32, hr32, hf⟩ := bd_s hf
        refine my_Vv (WS2 := (wd_X8_sees cy o_t (0 : Int32) x_delay x_feel x_turn x_sight r32.1 r32.2.1 r32.2.2.1 r32.2.2.2.1 x_players x_wide x_tall x_hands x_power x_spin x_seed x_pressed x_leftFrom x_leftTo r32.2.2.2.2.1 r32.2.2.2.2.2)) ⟨hx, hb, hml, hown, hts⟩ (c_X8_liveNow l D cy t o_t (0 : Int32) x_delay x_feel x_turn x_sight x_ball x_w x_h x_n x_players x_wide x_tall x_hands x_power x_spin x_seed x_pressed x_leftFrom x_leftTo x_place x_points p3 hr32) (cwV 1 hts gX8_sees_X8_liveNow rfl rfl rfl ⟨rfl, hd_X8_liveNow⟩ ⟨Nat.le_of_ble_eq_true rfl, Nat.le_of_ble_eq_true rfl⟩) hK hE hP hD hS hA [0, 1, 2, 3, 4, 5, 6, 7, 8, 9, 10, 11] 12 8 0 rfl rfl rfl rfl (by decide +kernel) rfl rfl hl.1 rfl (Nat.le_of_ble_eq_true rfl) dX8_sees_32 ⟨Nat.le_of_ble_eq_true rfl, Nat.le_of_ble_eq_true rfl⟩ (fun H locs hP hD hS => ?_)
        refine lv_aload_n hx hb dX8_sees_35 rfl (lv_at hl 0 rfl) ?_
        refine lv_iload_n hx hb dX8_sees_36 rfl (lv_at hl 1 rfl) ?_
        refine lv_aload_n hx hb dX8_sees_37 rfl (lv_at hl 0 rfl) ?_
        refine va_get (D := D) (ci := 8) (v := .ref (o_t 18)) (C := RX8) (T := TX8) (N := 36) hx hb hts k1 hown hK hP 0 rfl rfl 17 (by decide) k2 (fun _ h9 => h9) rfl dX8_sees_38 ?_
        refine lv_iload_n hx hb dX8_sees_41 rfl (lv_at hl 2 rfl) ?_
        obtain ⟨v42, b42, ev42, hf⟩ := rd_s hf
        refine my_iald hx hb hK hP 10 rfl b42 ev42 dX8_sees_42 ?_
        obtain ⟨r43, hr43, hf⟩ := bd_s hf
        refine my_Vi (WS2 := (wd_X8_sees cy o_t (0 : Int32) x_delay x_feel x_turn x_sight r32.1 r32.2.1 r32.2.2.1 r32.2.2.2.1 x_players x_wide x_tall x_hands x_power x_spin x_seed x_pressed x_leftFrom x_leftTo r32.2.2.2.2.1 r32.2.2.2.2.2)) ⟨hx, hb, hml, hown, hts⟩ (c_X8_isSeen l D cy t o_t (0 : Int32) x_delay x_feel x_turn x_sight r32.1 r32.2.1 r32.2.2.1 r32.2.2.2.1 x_players r32.2.2.2.2.1 p1 v42 hr43) (cwV 2 hts gX8_sees_X8_isSeen rfl rfl rfl ⟨rfl, hd_X8_isSeen⟩ ⟨Nat.le_of_ble_eq_true rfl, Nat.le_of_ble_eq_true rfl⟩) hK hE hP hD hS hA [0, 10] 12 8 0 rfl rfl rfl rfl (by decide +kernel) rfl rfl hl.1 rfl (Nat.le_of_ble_eq_true rfl) dX8_sees_43 ⟨Nat.le_of_ble_eq_true rfl, Nat.le_of_ble_eq_true rfl⟩ (fun H locs hP hD hS => ?_)
        refine lv_if_eq (tgt := 53) hx hb dX8_sees_46 (by decide) (fun c46 => ?_) (fun c46 => ?_)
        · have hf := ifp c46 hf
          refine lv_iconst (v := (0 : Int32)) hx hb dX8_sees_53 (by decide) ?_
          obtain rfl := Option.some.inj hf
          exact hR _ _ _ _ hP hD hS dX8_sees_54
        · have hf := ifn c46 hf
          refine lv_iconst (v := (1 : Int32)) hx hb dX8_sees_49 (by decide) ?_
          refine lv_goto (tgt := 54) hx hb dX8_sees_50 (by decide) ?_
          obtain rfl := Option.some.inj hf
          exact hR _ _ _ _ hP hD hS dX8_sees_54
      · have hf := ifn c25 hf
        refine lv_iconst (v := (-1 : Int32)) hx hb dX8_sees_28 (by decide) ?_
        obtain rfl := Option.some.inj hf
        exact hR _ _ _ _ hP hD hS dX8_sees_29
theorem hd_X8_sees : yX8_sees.cls ≠ "java/lang/invoke/MethodHandle" ∧ yX8_sees.cls ≠ "java/lang/invoke/VarHandle" ∧ (parseMethodDescriptor yX8_sees.desc).map (fun d => d.parameters.length) = some 3 := by decide +kernel
set_option maxRecDepth 100000 in
theorem c_X8_sees (l : Launch) (D : va_G) (cy : Nat → ClassId) (t : Nat → Nat) (o_t : Nat → Nat) (x_thrown : Int32) (x_delay : Int32) (x_feel : Int32) (x_turn : Int32) (x_sight : Int32) (x_ball : Int32) (x_w : Int32) (x_h : Int32) (x_n : Int32) (x_players : Int32) (x_wide : Nat → Int32) (x_tall : Nat → Int32) (x_hands : Nat → Int32) (x_power : Nat → Int32) (x_spin : Nat → Int32) (x_seed : Nat → Int32) (x_pressed : Nat → Int32) (x_leftFrom : Nat → Int32) (x_leftTo : Nat → Int32) (x_place : Nat → Int32) (x_points : Nat → Int32) (p1 : Int32) (p2 : Int32) (p3 : Int32) {out : Int32 × Int32 × Int32 × Int32 × Int32 × Int32 × (Nat → Int32) × (Nat → Int32)} (hf : X8_sees x_sight x_wide x_tall x_hands x_power x_spin x_seed x_pressed x_leftFrom x_leftTo x_thrown x_ball x_w x_h x_n x_place x_points p1 p2 p3 = some out) : ctI l yX8_sees wsX8_sees 7 172 D cy t [.ref (o_t 0), .int p1, .int p2, .int p3] (wd_X8_sees cy o_t x_thrown x_delay x_feel x_turn x_sight x_ball x_w x_h x_n x_players x_wide x_tall x_hands x_power x_spin x_seed x_pressed x_leftFrom x_leftTo x_place x_points) (wd_X8_sees cy o_t out.2.1 x_delay x_feel x_turn x_sight out.2.2.1 out.2.2.2.1 out.2.2.2.2.1 out.2.2.2.2.2.1 x_players x_wide x_tall x_hands x_power x_spin x_seed x_pressed x_leftFrom x_leftTo out.2.2.2.2.2.2.1 out.2.2.2.2.2.2.2) out.1 := by
  refine ⟨rfl, ?_⟩
  intro sz
  refine Met.ofW (cc := cX8_sees) (maxL := 4) (ret := (some .int)) (by decide) rfl ?_
  intro p e s m args below meth c s₁ B hml hv
  obtain ⟨rfl, hsz, hP, hK, hD0, hE⟩ := hv
  have hts := atoms_spec (ws := wsX8_sees) B.pre
  have hown : s.vm.findClass RX8 = some m.cls := findClass_of_methodNamed B.named
  have hlocks := B.notSynchronized
  subst hsz
  have hD := hD0.self (sz := s.heap.size)
  have hl := lv_entry ([.ref (o_t 0), .int p1, .int p2, .int p3]) (n := 4) (Nat.le_of_ble_eq_true rfl)
  rw [lg_entry_eq]
  generalize (lg_sl ([.ref (o_t 0), .int p1, .int p2, .int p3]) ++ List.replicate (4 - (lg_sl ([.ref (o_t 0), .int p1, .int p2, .int p3])).length) Slot.unset).toArray = ls at hl ⊢
  exact w_X8_sees D cy t o_t x_thrown x_delay x_feel x_turn x_sight x_ball x_w x_h x_n x_players x_wide x_tall x_hands x_power x_spin x_seed x_pressed x_leftFrom x_leftTo x_place x_points p1 p2 p3 hf B.exec B.bytes hml hown hts hK hE (fun q h => Or.inr h) hP hD va_S.rf hl (fun H locs ls pc hP hD hS hdg => W.iret B.exec B.bytes B.returns (fun t ht hW => ⟨⟨_, (), rfl, rfl, ctB_of ht hP⟩, hS.F ht⟩) hS.2.2 hdg)

noncomputable def X8_guess_J260 (x_sight : Int32) (x_wide : Nat → Int32) (x_tall : Nat → Int32) (x_hands : Nat → Int32) (x_power : Nat → Int32) (x_spin : Nat → Int32) (x_seed : Nat → Int32) (x_pressed : Nat → Int32) (x_leftFrom : Nat → Int32) (x_leftTo : Nat → Int32) (rec47 : Int32 → Int32 → Int32 → Int32 → (Nat → Int32) → (Nat → Int32) → (Nat → Int32) → (Nat → Int32) → Int32 → Int32 → Int32 → Int32 → Option (Int32 × Int32 × Int32 × Int32 × (Nat → Int32) × (Nat → Int32) × (Nat → Int32) × (Nat → Int32))) (x_ball : Int32) (x_w : Int32) (x_h : Int32) (x_n : Int32) (x_place : Nat → Int32) (x_points : Nat → Int32) (x_may : Nat → Int32) (x_then : Nat → Int32) (l1 : Int32) (l2 : Int32) (l3 : Int32) (l4 : Int32) : Option (Int32 × Int32 × Int32 × Int32 × (Nat → Int32) × (Nat → Int32) × (Nat → Int32) × (Nat → Int32)) :=
  nm (l4 + (1 : Int32)) fun v260 => rec47 x_ball x_w x_h x_n x_place x_points x_may x_then l1 l2 l3 v260
noncomputable def X8_guess_J253 (x_sight : Int32) (x_wide : Nat → Int32) (x_tall : Nat → Int32) (x_hands : Nat → Int32) (x_power : Nat → Int32) (x_spin : Nat → Int32) (x_seed : Nat → Int32) (x_pressed : Nat → Int32) (x_leftFrom : Nat → Int32) (x_leftTo : Nat → Int32) (rec47 : Int32 → Int32 → Int32 → Int32 → (Nat → Int32) → (Nat → Int32) → (Nat → Int32) → (Nat → Int32) → Int32 → Int32 → Int32 → Int32 → Option (Int32 × Int32 × Int32 × Int32 × (Nat → Int32) × (Nat → Int32) × (Nat → Int32) × (Nat → Int32))) (rec184 : Int32 → Int32 → Int32 → Int32 → (Nat → Int32) → (Nat → Int32) → (Nat → Int32) → (Nat → Int32) → Int32 → Int32 → Int32 → Int32 → Int32 → Int32 → Option (Int32 × Int32 × Int32 × Int32 × (Nat → Int32) × (Nat → Int32) × (Nat → Int32) × (Nat → Int32))) (x_ball : Int32) (x_w : Int32) (x_h : Int32) (x_n : Int32) (x_place : Nat → Int32) (x_points : Nat → Int32) (x_may : Nat → Int32) (x_then : Nat → Int32) (l1 : Int32) (l2 : Int32) (l3 : Int32) (l4 : Int32) (l5 : Int32) (l6 : Int32) (s1 : Int32) (s2 : Int32) : Option (Int32 × Int32 × Int32 × Int32 × (Nat → Int32) × (Nat → Int32) × (Nat → Int32) × (Nat → Int32)) :=
  wrZ x_may 81 s1 s2 fun w253 => nm (l6 + (1 : Int32)) fun v254 => rec184 x_ball x_w x_h x_n x_place x_points w253 x_then l1 l2 l3 l4 l5 v254
noncomputable def X8_guess_J252 (x_sight : Int32) (x_wide : Nat → Int32) (x_tall : Nat → Int32) (x_hands : Nat → Int32) (x_power : Nat → Int32) (x_spin : Nat → Int32) (x_seed : Nat → Int32) (x_pressed : Nat → Int32) (x_leftFrom : Nat → Int32) (x_leftTo : Nat → Int32) (rec47 : Int32 → Int32 → Int32 → Int32 → (Nat → Int32) → (Nat → Int32) → (Nat → Int32) → (Nat → Int32) → Int32 → Int32 → Int32 → Int32 → Option (Int32 × Int32 × Int32 × Int32 × (Nat → Int32) × (Nat → Int32) × (Nat → Int32) × (Nat → Int32))) (rec184 : Int32 → Int32 → Int32 → Int32 → (Nat → Int32) → (Nat → Int32) → (Nat → Int32) → (Nat → Int32) → Int32 → Int32 → Int32 → Int32 → Int32 → Int32 → Option (Int32 × Int32 × Int32 × Int32 × (Nat → Int32) × (Nat → Int32) × (Nat → Int32) × (Nat → Int32))) (x_ball : Int32) (x_w : Int32) (x_h : Int32) (x_n : Int32) (x_place : Nat → Int32) (x_points : Nat → Int32) (x_may : Nat → Int32) (x_then : Nat → Int32) (l1 : Int32) (l2 : Int32) (l3 : Int32) (l4 : Int32) (l5 : Int32) (l6 : Int32) (s1 : Int32) : Option (Int32 × Int32 × Int32 × Int32 × (Nat → Int32) × (Nat → Int32) × (Nat → Int32) × (Nat → Int32)) :=
  X8_guess_J253 x_sight x_wide x_tall x_hands x_power x_spin x_seed x_pressed x_leftFrom x_leftTo rec47 rec184 x_ball x_w x_h x_n x_place x_points x_may x_then l1 l2 l3 l4 l5 l6 s1 (0 : Int32)
noncomputable def X8_guess_L184_B (x_sight : Int32) (x_wide : Nat → Int32) (x_tall : Nat → Int32) (x_hands : Nat → Int32) (x_power : Nat → Int32) (x_spin : Nat → Int32) (x_seed : Nat → Int32) (x_pressed : Nat → Int32) (x_leftFrom : Nat → Int32) (x_leftTo : Nat → Int32) (rec47 : Int32 → Int32 → Int32 → Int32 → (Nat → Int32) → (Nat → Int32) → (Nat → Int32) → (Nat → Int32) → Int32 → Int32 → Int32 → Int32 → Option (Int32 × Int32 × Int32 × Int32 × (Nat → Int32) × (Nat → Int32) × (Nat → Int32) × (Nat → Int32))) (rec184 : Int32 → Int32 → Int32 → Int32 → (Nat → Int32) → (Nat → Int32) → (Nat → Int32) → (Nat → Int32) → Int32 → Int32 → Int32 → Int32 → Int32 → Int32 → Option (Int32 × Int32 × Int32 × Int32 × (Nat → Int32) × (Nat → Int32) × (Nat → Int32) × (Nat → Int32))) (x_ball : Int32) (x_w : Int32) (x_h : Int32) (x_n : Int32) (x_place : Nat → Int32) (x_points : Nat → Int32) (x_may : Nat → Int32) (x_then : Nat → Int32) (l1 : Int32) (l2 : Int32) (l3 : Int32) (l4 : Int32) (l5 : Int32) (l6 : Int32) : Option (Int32 × Int32 × Int32 × Int32 × (Nat → Int32) × (Nat → Int32) × (Nat → Int32) × (Nat → Int32)) :=
  if (x_w * x_h) ≤ l6 then (X8_guess_J260 x_sight x_wide x_tall x_hands x_power x_spin x_seed x_pressed x_leftFrom x_leftTo rec47 x_ball x_w x_h x_n x_place x_points x_may x_then l1 l2 l3 l4) else (if l5 = (0 : Int32) then (rd x_then 81 l6 fun v234 => if v234 = (0 : Int32) then (X8_guess_J252 x_sight x_wide x_tall x_hands x_power x_spin x_seed x_pressed x_leftFrom x_leftTo rec47 rec184 x_ball x_w x_h x_n x_place x_points x_may x_then l1 l2 l3 l4 l5 l6 l6) else (bd (X8_isSeen x_sight x_w x_place l1 l6) fun r242 => if r242 = (0 : Int32) then (X8_guess_J253 x_sight x_wide x_tall x_hands x_power x_spin x_seed x_pressed x_leftFrom x_leftTo rec47 rec184 x_ball x_w x_h x_n x_place x_points x_may x_then l1 l2 l3 l4 l5 l6 l6 (1 : Int32)) else (X8_guess_J252 x_sight x_wide x_tall x_hands x_power x_spin x_seed x_pressed x_leftFrom x_leftTo rec47 rec184 x_ball x_w x_h x_n x_place x_points x_may x_then l1 l2 l3 l4 l5 l6 l6))) else (rd x_place 6 l2 fun v216 => if l6 = v216 then (X8_guess_J253 x_sight x_wide x_tall x_hands x_power x_spin x_seed x_pressed x_leftFrom x_leftTo rec47 rec184 x_ball x_w x_h x_n x_place x_points x_may x_then l1 l2 l3 l4 l5 l6 l6 (1 : Int32)) else (X8_guess_J253 x_sight x_wide x_tall x_hands x_power x_spin x_seed x_pressed x_leftFrom x_leftTo rec47 rec184 x_ball x_w x_h x_n x_place x_points x_may x_then l1 l2 l3 l4 l5 l6 l6 (0 : Int32))))
noncomputable def X8_guess_L184 (x_sight : Int32) (x_wide : Nat → Int32) (x_tall : Nat → Int32) (x_hands : Nat → Int32) (x_power : Nat → Int32) (x_spin : Nat → Int32) (x_seed : Nat → Int32) (x_pressed : Nat → Int32) (x_leftFrom : Nat → Int32) (x_leftTo : Nat → Int32) (rec47 : Int32 → Int32 → Int32 → Int32 → (Nat → Int32) → (Nat → Int32) → (Nat → Int32) → (Nat → Int32) → Int32 → Int32 → Int32 → Int32 → Option (Int32 × Int32 × Int32 × Int32 × (Nat → Int32) × (Nat → Int32) × (Nat → Int32) × (Nat → Int32))) : Nat → Int32 → Int32 → Int32 → Int32 → (Nat → Int32) → (Nat → Int32) → (Nat → Int32) → (Nat → Int32) → Int32 → Int32 → Int32 → Int32 → Int32 → Int32 → Option (Int32 × Int32 × Int32 × Int32 × (Nat → Int32) × (Nat → Int32) × (Nat → Int32) × (Nat → Int32))
  | 0, _, _, _, _, _, _, _, _, _, _, _, _, _, _ => none
  | n + 1, y0, y1, y2, y3, y4, y5, y6, y7, y8, y9, y10, y11, y12, y13 => X8_guess_L184_B x_sight x_wide x_tall x_hands x_power x_spin x_seed x_pressed x_leftFrom x_leftTo rec47 (X8_guess_L184 x_sight x_wide x_tall x_hands x_power x_spin x_seed x_pressed x_leftFrom x_leftTo rec47 n) y0 y1 y2 y3 y4 y5 y6 y7 y8 y9 y10 y11 y12 y13
noncomputable def X8_guess_J168 (x_sight : Int32) (x_wide : Nat → Int32) (x_tall : Nat → Int32) (x_hands : Nat → Int32) (x_power : Nat → Int32) (x_spin : Nat → Int32) (x_seed : Nat → Int32) (x_pressed : Nat → Int32) (x_leftFrom : Nat → Int32) (x_leftTo : Nat → Int32) (rec47 : Int32 → Int32 → Int32 → Int32 → (Nat → Int32) → (Nat → Int32) → (Nat → Int32) → (Nat → Int32) → Int32 → Int32 → Int32 → Int32 → Option (Int32 × Int32 × Int32 × Int32 × (Nat → Int32) × (Nat → Int32) × (Nat → Int32) × (Nat → Int32))) (x_ball : Int32) (x_w : Int32) (x_h : Int32) (x_n : Int32) (x_place : Nat → Int32) (x_points : Nat → Int32) (x_may : Nat → Int32) (x_then : Nat → Int32) (l1 : Int32) (l2 : Int32) (l3 : Int32) (l4 : Int32) : Option (Int32 × Int32 × Int32 × Int32 × (Nat → Int32) × (Nat → Int32) × (Nat → Int32) × (Nat → Int32)) :=
  rd x_place 6 l2 fun v175 => bd (X8_isSeen x_sight x_w x_place l1 v175) fun r176 => X8_guess_L184 x_sight x_wide x_tall x_hands x_power x_spin x_seed x_pressed x_leftFrom x_leftTo rec47 FU x_ball x_w x_h x_n x_place x_points x_may x_then l1 l2 l3 l4 r176 (0 : Int32)
noncomputable def X8_guess_J153 (x_sight : Int32) (x_wide : Nat → Int32) (x_tall : Nat → Int32) (x_hands : Nat → Int32) (x_power : Nat → Int32) (x_spin : Nat → Int32) (x_seed : Nat → Int32) (x_pressed : Nat → Int32) (x_leftFrom : Nat → Int32) (x_leftTo : Nat → Int32) (rec47 : Int32 → Int32 → Int32 → Int32 → (Nat → Int32) → (Nat → Int32) → (Nat → Int32) → (Nat → Int32) → Int32 → Int32 → Int32 → Int32 → Option (Int32 × Int32 × Int32 × Int32 × (Nat → Int32) × (Nat → Int32) × (Nat → Int32) × (Nat → Int32))) (rec76 : Int32 → Int32 → Int32 → Int32 → (Nat → Int32) → (Nat → Int32) → (Nat → Int32) → (Nat → Int32) → Int32 → Int32 → Int32 → Int32 → Int32 → Option (Int32 × Int32 × Int32 × Int32 × (Nat → Int32) × (Nat → Int32) × (Nat → Int32) × (Nat → Int32))) (x_ball : Int32) (x_w : Int32) (x_h : Int32) (x_n : Int32) (x_place : Nat → Int32) (x_points : Nat → Int32) (x_may : Nat → Int32) (x_then : Nat → Int32) (l1 : Int32) (l2 : Int32) (l3 : Int32) (l4 : Int32) (l5 : Int32) (l6 : Int32) : Option (Int32 × Int32 × Int32 × Int32 × (Nat → Int32) × (Nat → Int32) × (Nat → Int32) × (Nat → Int32)) :=
  wrZ x_then 81 l5 l6 fun w161 => nm (l5 + (1 : Int32)) fun v162 => rec76 x_ball x_w x_h x_n x_place x_points x_may w161 l1 l2 l3 l4 v162
noncomputable def X8_guess_J145 (x_sight : Int32) (x_wide : Nat → Int32) (x_tall : Nat → Int32) (x_hands : Nat → Int32) (x_power : Nat → Int32) (x_spin : Nat → Int32) (x_seed : Nat → Int32) (x_pressed : Nat → Int32) (x_leftFrom : Nat → Int32) (x_leftTo : Nat → Int32) (rec47 : Int32 → Int32 → Int32 → Int32 → (Nat → Int32) → (Nat → Int32) → (Nat → Int32) → (Nat → Int32) → Int32 → Int32 → Int32 → Int32 → Option (Int32 × Int32 × Int32 × Int32 × (Nat → Int32) × (Nat → Int32) × (Nat → Int32) × (Nat → Int32))) (rec76 : Int32 → Int32 → Int32 → Int32 → (Nat → Int32) → (Nat → Int32) → (Nat → Int32) → (Nat → Int32) → Int32 → Int32 → Int32 → Int32 → Int32 → Option (Int32 × Int32 × Int32 × Int32 × (Nat → Int32) × (Nat → Int32) × (Nat → Int32) × (Nat → Int32))) (rec102 : Int32 → Int32 → Int32 → Int32 → (Nat → Int32) → (Nat → Int32) → (Nat → Int32) → (Nat → Int32) → Int32 → Int32 → Int32 → Int32 → Int32 → Int32 → Int32 → Option (Int32 × Int32 × Int32 × Int32 × (Nat → Int32) × (Nat → Int32) × (Nat → Int32) × (Nat → Int32))) (x_ball : Int32) (x_w : Int32) (x_h : Int32) (x_n : Int32) (x_place : Nat → Int32) (x_points : Nat → Int32) (x_may : Nat → Int32) (x_then : Nat → Int32) (l1 : Int32) (l2 : Int32) (l3 : Int32) (l4 : Int32) (l5 : Int32) (l7 : Int32) (s0 : Int32) : Option (Int32 × Int32 × Int32 × Int32 × (Nat → Int32) × (Nat → Int32) × (Nat → Int32) × (Nat → Int32)) :=
  nm (l7 + (1 : Int32)) fun v147 => rec102 x_ball x_w x_h x_n x_place x_points x_may x_then l1 l2 l3 l4 l5 s0 v147
noncomputable def X8_guess_J140 (x_sight : Int32) (x_wide : Nat → Int32) (x_tall : Nat → Int32) (x_hands : Nat → Int32) (x_power : Nat → Int32) (x_spin : Nat → Int32) (x_seed : Nat → Int32) (x_pressed : Nat → Int32) (x_leftFrom : Nat → Int32) (x_leftTo : Nat → Int32) (rec47 : Int32 → Int32 → Int32 → Int32 → (Nat → Int32) → (Nat → Int32) → (Nat → Int32) → (Nat → Int32) → Int32 → Int32 → Int32 → Int32 → Option (Int32 × Int32 × Int32 × Int32 × (Nat → Int32) × (Nat → Int32) × (Nat → Int32) × (Nat → Int32))) (rec76 : Int32 → Int32 → Int32 → Int32 → (Nat → Int32) → (Nat → Int32) → (Nat → Int32) → (Nat → Int32) → Int32 → Int32 → Int32 → Int32 → Int32 → Option (Int32 × Int32 × Int32 × Int32 × (Nat → Int32) × (Nat → Int32) × (Nat → Int32) × (Nat → Int32))) (rec102 : Int32 → Int32 → Int32 → Int32 → (Nat → Int32) → (Nat → Int32) → (Nat → Int32) → (Nat → Int32) → Int32 → Int32 → Int32 → Int32 → Int32 → Int32 → Int32 → Option (Int32 × Int32 × Int32 × Int32 × (Nat → Int32) × (Nat → Int32) × (Nat → Int32) × (Nat → Int32))) (x_ball : Int32) (x_w : Int32) (x_h : Int32) (x_n : Int32) (x_place : Nat → Int32) (x_points : Nat → Int32) (x_may : Nat → Int32) (x_then : Nat → Int32) (l1 : Int32) (l2 : Int32) (l3 : Int32) (l4 : Int32) (l5 : Int32) (l7 : Int32) : Option (Int32 × Int32 × Int32 × Int32 × (Nat → Int32) × (Nat → Int32) × (Nat → Int32) × (Nat → Int32)) :=
  X8_guess_J145 x_sight x_wide x_tall x_hands x_power x_spin x_seed x_pressed x_leftFrom x_leftTo rec47 rec76 rec102 x_ball x_w x_h x_n x_place x_points x_may x_then l1 l2 l3 l4 l5 l7 (1 : Int32)
noncomputable def X8_guess_J144 (x_sight : Int32) (x_wide : Nat → Int32) (x_tall : Nat → Int32) (x_hands : Nat → Int32) (x_power : Nat → Int32) (x_spin : Nat → Int32) (x_seed : Nat → Int32) (x_pressed : Nat → Int32) (x_leftFrom : Nat → Int32) (x_leftTo : Nat → Int32) (rec47 : Int32 → Int32 → Int32 → Int32 → (Nat → Int32) → (Nat → Int32) → (Nat → Int32) → (Nat → Int32) → Int32 → Int32 → Int32 → Int32 → Option (Int32 × Int32 × Int32 × Int32 × (Nat → Int32) × (Nat → Int32) × (Nat → Int32) × (Nat → Int32))) (rec76 : Int32 → Int32 → Int32 → Int32 → (Nat → Int32) → (Nat → Int32) → (Nat → Int32) → (Nat → Int32) → Int32 → Int32 → Int32 → Int32 → Int32 → Option (Int32 × Int32 × Int32 × Int32 × (Nat → Int32) × (Nat → Int32) × (Nat → Int32) × (Nat → Int32))) (rec102 : Int32 → Int32 → Int32 → Int32 → (Nat → Int32) → (Nat → Int32) → (Nat → Int32) → (Nat → Int32) → Int32 → Int32 → Int32 → Int32 → Int32 → Int32 → Int32 → Option (Int32 × Int32 × Int32 × Int32 × (Nat → Int32) × (Nat → Int32) × (Nat → Int32) × (Nat → Int32))) (x_ball : Int32) (x_w : Int32) (x_h : Int32) (x_n : Int32) (x_place : Nat → Int32) (x_points : Nat → Int32) (x_may : Nat → Int32) (x_then : Nat → Int32) (l1 : Int32) (l2 : Int32) (l3 : Int32) (l4 : Int32) (l5 : Int32) (l7 : Int32) : Option (Int32 × Int32 × Int32 × Int32 × (Nat → Int32) × (Nat → Int32) × (Nat → Int32) × (Nat → Int32)) :=
  X8_guess_J145 x_sight x_wide x_tall x_hands x_power x_spin x_seed x_pressed x_leftFrom x_leftTo rec47 rec76 rec102 x_ball x_w x_h x_n x_place x_points x_may x_then l1 l2 l3 l4 l5 l7 (0 : Int32)
noncomputable def X8_guess_L102_B (x_sight : Int32) (x_wide : Nat → Int32) (x_tall : Nat → Int32) (x_hands : Nat → Int32) (x_power : Nat → Int32) (x_spin : Nat → Int32) (x_seed : Nat → Int32) (x_pressed : Nat → Int32) (x_leftFrom : Nat → Int32) (x_leftTo : Nat → Int32) (rec47 : Int32 → Int32 → Int32 → Int32 → (Nat → Int32) → (Nat → Int32) → (Nat → Int32) → (Nat → Int32) → Int32 → Int32 → Int32 → Int32 → Option (Int32 × Int32 × Int32 × Int32 × (Nat → Int32) × (Nat → Int32) × (Nat → Int32) × (Nat → Int32))) (rec76 : Int32 → Int32 → Int32 → Int32 → (Nat → Int32) → (Nat → Int32) → (Nat → Int32) → (Nat → Int32) → Int32 → Int32 → Int32 → Int32 → Int32 → Option (Int32 × Int32 × Int32 × Int32 × (Nat → Int32) × (Nat → Int32) × (Nat → Int32) × (Nat → Int32))) (rec102 : Int32 → Int32 → Int32 → Int32 → (Nat → Int32) → (Nat → Int32) → (Nat → Int32) → (Nat → Int32) → Int32 → Int32 → Int32 → Int32 → Int32 → Int32 → Int32 → Option (Int32 × Int32 × Int32 × Int32 × (Nat → Int32) × (Nat → Int32) × (Nat → Int32) × (Nat → Int32))) (x_ball : Int32) (x_w : Int32) (x_h : Int32) (x_n : Int32) (x_place : Nat → Int32) (x_points : Nat → Int32) (x_may : Nat → Int32) (x_then : Nat → Int32) (l1 : Int32) (l2 : Int32) (l3 : Int32) (l4 : Int32) (l5 : Int32) (l6 : Int32) (l7 : Int32) : Option (Int32 × Int32 × Int32 × Int32 × (Nat → Int32) × (Nat → Int32) × (Nat → Int32) × (Nat → Int32)) :=
  if (5 : Int32) ≤ l7 then (X8_guess_J153 x_sight x_wide x_tall x_hands x_power x_spin x_seed x_pressed x_leftFrom x_leftTo rec47 rec76 x_ball x_w x_h x_n x_place x_points x_may x_then l1 l2 l3 l4 l5 l6) else (bd (X8_by x_w x_h l5 l7) fun r113 => if l6 = (0 : Int32) then (if r113 = (-9 : Int32) then (X8_guess_J144 x_sight x_wide x_tall x_hands x_power x_spin x_seed x_pressed x_leftFrom x_leftTo rec47 rec76 rec102 x_ball x_w x_h x_n x_place x_points x_may x_then l1 l2 l3 l4 l5 l7) else (rd x_may 81 r113 fun v136 => if v136 = (0 : Int32) then (X8_guess_J144 x_sight x_wide x_tall x_hands x_power x_spin x_seed x_pressed x_leftFrom x_leftTo rec47 rec76 rec102 x_ball x_w x_h x_n x_place x_points x_may x_then l1 l2 l3 l4 l5 l7) else (X8_guess_J140 x_sight x_wide x_tall x_hands x_power x_spin x_seed x_pressed x_leftFrom x_leftTo rec47 rec76 rec102 x_ball x_w x_h x_n x_place x_points x_may x_then l1 l2 l3 l4 l5 l7))) else (X8_guess_J140 x_sight x_wide x_tall x_hands x_power x_spin x_seed x_pressed x_leftFrom x_leftTo rec47 rec76 rec102 x_ball x_w x_h x_n x_place x_points x_may x_then l1 l2 l3 l4 l5 l7))
noncomputable def X8_guess_L102 (x_sight : Int32) (x_wide : Nat → Int32) (x_tall : Nat → Int32) (x_hands : Nat → Int32) (x_power : Nat → Int32) (x_spin : Nat → Int32) (x_seed : Nat → Int32) (x_pressed : Nat → Int32) (x_leftFrom : Nat → Int32) (x_leftTo : Nat → Int32) (rec47 : Int32 → Int32 → Int32 → Int32 → (Nat → Int32) → (Nat → Int32) → (Nat → Int32) → (Nat → Int32) → Int32 → Int32 → Int32 → Int32 → Option (Int32 × Int32 × Int32 × Int32 × (Nat → Int32) × (Nat → Int32) × (Nat → Int32) × (Nat → Int32))) (rec76 : Int32 → Int32 → Int32 → Int32 → (Nat → Int32) → (Nat → Int32) → (Nat → Int32) → (Nat → Int32) → Int32 → Int32 → Int32 → Int32 → Int32 → Option (Int32 × Int32 × Int32 × Int32 × (Nat → Int32) × (Nat → Int32) × (Nat → Int32) × (Nat → Int32))) : Nat → Int32 → Int32 → Int32 → Int32 → (Nat → Int32) → (Nat → Int32) → (Nat → Int32) → (Nat → Int32) → Int32 → Int32 → Int32 → Int32 → Int32 → Int32 → Int32 → Option (Int32 × Int32 × Int32 × Int32 × (Nat → Int32) × (Nat → Int32) × (Nat → Int32) × (Nat → Int32))
  | 0, _, _, _, _, _, _, _, _, _, _, _, _, _, _, _ => none
  | n + 1, y0, y1, y2, y3, y4, y5, y6, y7, y8, y9, y10, y11, y12, y13, y14 => X8_guess_L102_B x_sight x_wide x_tall x_hands x_power x_spin x_seed x_pressed x_leftFrom x_leftTo rec47 rec76 (X8_guess_L102 x_sight x_wide x_tall x_hands x_power x_spin x_seed x_pressed x_leftFrom x_leftTo rec47 rec76 n) y0 y1 y2 y3 y4 y5 y6 y7 y8 y9 y10 y11 y12 y13 y14
noncomputable def X8_guess_L76_B (x_sight : Int32) (x_wide : Nat → Int32) (x_tall : Nat → Int32) (x_hands : Nat → Int32) (x_power : Nat → Int32) (x_spin : Nat → Int32) (x_seed : Nat → Int32) (x_pressed : Nat → Int32) (x_leftFrom : Nat → Int32) (x_leftTo : Nat → Int32) (rec47 : Int32 → Int32 → Int32 → Int32 → (Nat → Int32) → (Nat → Int32) → (Nat → Int32) → (Nat → Int32) → Int32 → Int32 → Int32 → Int32 → Option (Int32 × Int32 × Int32 × Int32 × (Nat → Int32) × (Nat → Int32) × (Nat → Int32) × (Nat → Int32))) (rec76 : Int32 → Int32 → Int32 → Int32 → (Nat → Int32) → (Nat → Int32) → (Nat → Int32) → (Nat → Int32) → Int32 → Int32 → Int32 → Int32 → Int32 → Option (Int32 × Int32 × Int32 × Int32 × (Nat → Int32) × (Nat → Int32) × (Nat → Int32) × (Nat → Int32))) (x_ball : Int32) (x_w : Int32) (x_h : Int32) (x_n : Int32) (x_place : Nat → Int32) (x_points : Nat → Int32) (x_may : Nat → Int32) (x_then : Nat → Int32) (l1 : Int32) (l2 : Int32) (l3 : Int32) (l4 : Int32) (l5 : Int32) : Option (Int32 × Int32 × Int32 × Int32 × (Nat → Int32) × (Nat → Int32) × (Nat → Int32) × (Nat → Int32)) :=
  if (x_w * x_h) ≤ l5 then (X8_guess_J168 x_sight x_wide x_tall x_hands x_power x_spin x_seed x_pressed x_leftFrom x_leftTo rec47 x_ball x_w x_h x_n x_place x_points x_may x_then l1 l2 l3 l4) else (rd x_may 81 l5 fun v96 => X8_guess_L102 x_sight x_wide x_tall x_hands x_power x_spin x_seed x_pressed x_leftFrom x_leftTo rec47 rec76 FU x_ball x_w x_h x_n x_place x_points x_may x_then l1 l2 l3 l4 l5 v96 (1 : Int32))
noncomputable def X8_guess_L76 (x_sight : Int32) (x_wide : Nat → Int32) (x_tall : Nat → Int32) (x_hands : Nat → Int32) (x_power : Nat → Int32) (x_spin : Nat → Int32) (x_seed : Nat → Int32) (x_pressed : Nat → Int32) (x_leftFrom : Nat → Int32) (x_leftTo : Nat → Int32) (rec47 : Int32 → Int32 → Int32 → Int32 → (Nat → Int32) → (Nat → Int32) → (Nat → Int32) → (Nat → Int32) → Int32 → Int32 → Int32 → Int32 → Option (Int32 × Int32 × Int32 × Int32 × (Nat → Int32) × (Nat → Int32) × (Nat → Int32) × (Nat → Int32))) : Nat → Int32 → Int32 → Int32 → Int32 → (Nat → Int32) → (Nat → Int32) → (Nat → Int32) → (Nat → Int32) → Int32 → Int32 → Int32 → Int32 → Int32 → Option (Int32 × Int32 × Int32 × Int32 × (Nat → Int32) × (Nat → Int32) × (Nat → Int32) × (Nat → Int32))
  | 0, _, _, _, _, _, _, _, _, _, _, _, _, _ => none
  | n + 1, y0, y1, y2, y3, y4, y5, y6, y7, y8, y9, y10, y11, y12 => X8_guess_L76_B x_sight x_wide x_tall x_hands x_power x_spin x_seed x_pressed x_leftFrom x_leftTo rec47 (X8_guess_L76 x_sight x_wide x_tall x_hands x_power x_spin x_seed x_pressed x_leftFrom x_leftTo rec47 n) y0 y1 y2 y3 y4 y5 y6 y7 y8 y9 y10 y11 y12
noncomputable def X8_guess_L47_B (x_sight : Int32) (x_wide : Nat → Int32) (x_tall : Nat → Int32) (x_hands : Nat → Int32) (x_power : Nat → Int32) (x_spin : Nat → Int32) (x_seed : Nat → Int32) (x_pressed : Nat → Int32) (x_leftFrom : Nat → Int32) (x_leftTo : Nat → Int32) (rec47 : Int32 → Int32 → Int32 → Int32 → (Nat → Int32) → (Nat → Int32) → (Nat → Int32) → (Nat → Int32) → Int32 → Int32 → Int32 → Int32 → Option (Int32 × Int32 × Int32 × Int32 × (Nat → Int32) × (Nat → Int32) × (Nat → Int32) × (Nat → Int32))) (x_ball : Int32) (x_w : Int32) (x_h : Int32) (x_n : Int32) (x_place : Nat → Int32) (x_points : Nat → Int32) (x_may : Nat → Int32) (x_then : Nat → Int32) (l1 : Int32) (l2 : Int32) (l3 : Int32) (l4 : Int32) : Option (Int32 × Int32 × Int32 × Int32 × (Nat → Int32) × (Nat → Int32) × (Nat → Int32) × (Nat → Int32)) :=
  if l3 < l4 then (some (x_ball, x_w, x_h, x_n, x_place, x_points, x_may, x_then)) else (rd x_power 5 (4 : Int32) fun v69 => bd (X8_step 3000 x_w x_h x_n x_spin x_seed x_leftFrom x_leftTo x_pressed x_ball x_place x_points (4 : Int32) l4 (2400 : Int32) v69) fun r70 => X8_guess_L76 x_sight x_wide x_tall x_hands x_power x_spin x_seed x_pressed x_leftFrom x_leftTo rec47 FU r70.1 x_w x_h x_n r70.2.1 r70.2.2 x_may x_then l1 l2 l3 l4 (0 : Int32))
noncomputable def X8_guess_L47 (x_sight : Int32) (x_wide : Nat → Int32) (x_tall : Nat → Int32) (x_hands : Nat → Int32) (x_power : Nat → Int32) (x_spin : Nat → Int32) (x_seed : Nat → Int32) (x_pressed : Nat → Int32) (x_leftFrom : Nat → Int32) (x_leftTo : Nat → Int32) : Nat → Int32 → Int32 → Int32 → Int32 → (Nat → Int32) → (Nat → Int32) → (Nat → Int32) → (Nat → Int32) → Int32 → Int32 → Int32 → Int32 → Option (Int32 × Int32 × Int32 × Int32 × (Nat → Int32) × (Nat → Int32) × (Nat → Int32) × (Nat → Int32))
  | 0, _, _, _, _, _, _, _, _, _, _, _, _ => none
  | n + 1, y0, y1, y2, y3, y4, y5, y6, y7, y8, y9, y10, y11 => X8_guess_L47_B x_sight x_wide x_tall x_hands x_power x_spin x_seed x_pressed x_leftFrom x_leftTo  (X8_guess_L47 x_sight x_wide x_tall x_hands x_power x_spin x_seed x_pressed x_leftFrom x_leftTo  n) y0 y1 y2 y3 y4 y5 y6 y7 y8 y9 y10 y11
noncomputable def X8_guess_J44 (x_sight : Int32) (x_wide : Nat → Int32) (x_tall : Nat → Int32) (x_hands : Nat → Int32) (x_power : Nat → Int32) (x_spin : Nat → Int32) (x_seed : Nat → Int32) (x_pressed : Nat → Int32) (x_leftFrom : Nat → Int32) (x_leftTo : Nat → Int32) (x_ball : Int32) (x_w : Int32) (x_h : Int32) (x_n : Int32) (x_place : Nat → Int32) (x_points : Nat → Int32) (x_may : Nat → Int32) (x_then : Nat → Int32) (l1 : Int32) (l2 : Int32) (l3 : Int32) : Option (Int32 × Int32 × Int32 × Int32 × (Nat → Int32) × (Nat → Int32) × (Nat → Int32) × (Nat → Int32)) :=
  X8_guess_L47 x_sight x_wide x_tall x_hands x_power x_spin x_seed x_pressed x_leftFrom x_leftTo  FU x_ball x_w x_h x_n x_place x_points x_may x_then l1 l2 l3 (0 : Int32)
noncomputable def X8_guess_J37 (x_sight : Int32) (x_wide : Nat → Int32) (x_tall : Nat → Int32) (x_hands : Nat → Int32) (x_power : Nat → Int32) (x_spin : Nat → Int32) (x_seed : Nat → Int32) (x_pressed : Nat → Int32) (x_leftFrom : Nat → Int32) (x_leftTo : Nat → Int32) (rec8 : Int32 → Int32 → Int32 → Int32 → (Nat → Int32) → (Nat → Int32) → (Nat → Int32) → (Nat → Int32) → Int32 → Int32 → Int32 → Int32 → Option (Int32 × Int32 × Int32 × Int32 × (Nat → Int32) × (Nat → Int32) × (Nat → Int32) × (Nat → Int32))) (x_ball : Int32) (x_w : Int32) (x_h : Int32) (x_n : Int32) (x_place : Nat → Int32) (x_points : Nat → Int32) (x_may : Nat → Int32) (x_then : Nat → Int32) (l1 : Int32) (l2 : Int32) (l3 : Int32) (l4 : Int32) (s1 : Int32) (s2 : Int32) : Option (Int32 × Int32 × Int32 × Int32 × (Nat → Int32) × (Nat → Int32) × (Nat → Int32) × (Nat → Int32)) :=
  wrZ x_may 81 s1 s2 fun w37 => nm (l4 + (1 : Int32)) fun v38 => rec8 x_ball x_w x_h x_n x_place x_points w37 x_then l1 l2 l3 v38
noncomputable def X8_guess_L8_B (x_sight : Int32) (x_wide : Nat → Int32) (x_tall : Nat → Int32) (x_hands : Nat → Int32) (x_power : Nat → Int32) (x_spin : Nat → Int32) (x_seed : Nat → Int32) (x_pressed : Nat → Int32) (x_leftFrom : Nat → Int32) (x_leftTo : Nat → Int32) (rec8 : Int32 → Int32 → Int32 → Int32 → (Nat → Int32) → (Nat → Int32) → (Nat → Int32) → (Nat → Int32) → Int32 → Int32 → Int32 → Int32 → Option (Int32 × Int32 × Int32 × Int32 × (Nat → Int32) × (Nat → Int32) × (Nat → Int32) × (Nat → Int32))) (x_ball : Int32) (x_w : Int32) (x_h : Int32) (x_n : Int32) (x_place : Nat → Int32) (x_points : Nat → Int32) (x_may : Nat → Int32) (x_then : Nat → Int32) (l1 : Int32) (l2 : Int32) (l3 : Int32) (l4 : Int32) : Option (Int32 × Int32 × Int32 × Int32 × (Nat → Int32) × (Nat → Int32) × (Nat → Int32) × (Nat → Int32)) :=
  if (81 : Int32) ≤ l4 then (X8_guess_J44 x_sight x_wide x_tall x_hands x_power x_spin x_seed x_pressed x_leftFrom x_leftTo  x_ball x_w x_h x_n x_place x_points x_may x_then l1 l2 l3) else (rd x_place 6 l2 fun v28 => if l4 = v28 then (X8_guess_J37 x_sight x_wide x_tall x_hands x_power x_spin x_seed x_pressed x_leftFrom x_leftTo rec8 x_ball x_w x_h x_n x_place x_points x_may x_then l1 l2 l3 l4 l4 (1 : Int32)) else (X8_guess_J37 x_sight x_wide x_tall x_hands x_power x_spin x_seed x_pressed x_leftFrom x_leftTo rec8 x_ball x_w x_h x_n x_place x_points x_may x_then l1 l2 l3 l4 l4 (0 : Int32)))
noncomputable def X8_guess_L8 (x_sight : Int32) (x_wide : Nat → Int32) (x_tall : Nat → Int32) (x_hands : Nat → Int32) (x_power : Nat → Int32) (x_spin : Nat → Int32) (x_seed : Nat → Int32) (x_pressed : Nat → Int32) (x_leftFrom : Nat → Int32) (x_leftTo : Nat → Int32) : Nat → Int32 → Int32 → Int32 → Int32 → (Nat → Int32) → (Nat → Int32) → (Nat → Int32) → (Nat → Int32) → Int32 → Int32 → Int32 → Int32 → Option (Int32 × Int32 × Int32 × Int32 × (Nat → Int32) × (Nat → Int32) × (Nat → Int32) × (Nat → Int32))
  | 0, _, _, _, _, _, _, _, _, _, _, _, _ => none
  | n + 1, y0, y1, y2, y3, y4, y5, y6, y7, y8, y9, y10, y11 => X8_guess_L8_B x_sight x_wide x_tall x_hands x_power x_spin x_seed x_pressed x_leftFrom x_leftTo  (X8_guess_L8 x_sight x_wide x_tall x_hands x_power x_spin x_seed x_pressed x_leftFrom x_leftTo  n) y0 y1 y2 y3 y4 y5 y6 y7 y8 y9 y10 y11
noncomputable def X8_guess (x_sight : Int32) (x_wide : Nat → Int32) (x_tall : Nat → Int32) (x_hands : Nat → Int32) (x_power : Nat → Int32) (x_spin : Nat → Int32) (x_seed : Nat → Int32) (x_pressed : Nat → Int32) (x_leftFrom : Nat → Int32) (x_leftTo : Nat → Int32) (x_ball : Int32) (x_w : Int32) (x_h : Int32) (x_n : Int32) (x_place : Nat → Int32) (x_points : Nat → Int32) (x_may : Nat → Int32) (x_then : Nat → Int32) (p1 : Int32) (p2 : Int32) (p3 : Int32) : Option (Int32 × Int32 × Int32 × Int32 × (Nat → Int32) × (Nat → Int32) × (Nat → Int32) × (Nat → Int32)) :=
  bd (X8_start x_wide x_tall x_hands x_ball x_w x_h x_n x_place x_points (4 : Int32)) fun r2 => X8_guess_L8 x_sight x_wide x_tall x_hands x_power x_spin x_seed x_pressed x_leftFrom x_leftTo  FU r2.1 r2.2.1 r2.2.2.1 r2.2.2.2.1 r2.2.2.2.2.1 r2.2.2.2.2.2 x_may x_then p1 p2 p3 (0 : Int32)
abbrev wd_X8_guess (cy : Nat → ClassId) (o_t : Nat → Nat) (x_thrown : Int32) (x_delay : Int32) (x_feel : Int32) (x_turn : Int32) (x_sight : Int32) (x_ball : Int32) (x_w : Int32) (x_h : Int32) (x_n : Int32) (x_players : Int32) (x_wide : Nat → Int32) (x_tall : Nat → Int32) (x_hands : Nat → Int32) (x_power : Nat → Int32) (x_spin : Nat → Int32) (x_seed : Nat → Int32) (x_pressed : Nat → Int32) (x_leftFrom : Nat → Int32) (x_leftTo : Nat → Int32) (x_place : Nat → Int32) (x_points : Nat → Int32) (x_may : Nat → Int32) (x_then : Nat → Int32) : va_W := [(o_t 0, .inr (8, [.int x_thrown, .ref (o_t 2), .ref (o_t 3), .ref (o_t 4), .ref (o_t 5), .ref (o_t 6), .ref (o_t 7), .ref (o_t 8), .ref (o_t 9), .ref (o_t 10), .ref (o_t 11), .int x_delay, .int x_feel, .int x_turn, .int x_sight, .ref (o_t 16), .ref (o_t 17), .ref (o_t 18), .ref (o_t 19), .int x_ball, .int x_w, .int x_h, .int x_n, .ref (o_t 24), .ref (o_t 25), .ref (o_t 26), .ref (o_t 27), .ref (o_t 28), .ref (o_t 29), .int x_players, .ref (o_t 31), .ref (o_t 32), .ref (o_t 33), .ref (o_t 34), .ref (o_t 35), .ref (o_t 36)])), (o_t 2, .inl (cy 0, 5, .inl x_wide)), (o_t 3, .inl (cy 0, 5, .inl x_tall)), (o_t 4, .inl (cy 0, 5, .inl x_hands)), (o_t 5, .inl (cy 0, 5, .inl x_power)), (o_t 6, .inl (cy 0, 5, .inl x_spin)), (o_t 7, .inl (cy 0, 5, .inl x_seed)), (o_t 8, .inl (cy 0, 3000, .inl x_pressed)), (o_t 9, .inl (cy 0, 30, .inl x_leftFrom)), (o_t 10, .inl (cy 0, 30, .inl x_leftTo)), (o_t 18, .inl (cy 0, 6, .inl x_place)), (o_t 19, .inl (cy 0, 6, .inl x_points)), (o_t 28, .inl (cy 1, 81, .inl x_may)), (o_t 29, .inl (cy 1, 81, .inl x_then))]
set_option maxHeartbeats 4000000 in
set_option maxRecDepth 100000 in
theorem w_X8_guess {p : Program} {l : Launch} {e : Env} {s : State} {m : MethodId} {args : Array Value} {below : List Frame} {meth : Method} {c : Code} {Q : State → Prop} {A : Nat → Prop} {H : Heap} {locs : List Loc} {ls : Array Slot} (D : va_G) (cy : Nat → ClassId) (t : Nat → Nat) (o_t : Nat → Nat) (x_thrown : Int32) (x_delay : Int32) (x_feel : Int32) (x_turn : Int32) (x_sight : Int32) (x_ball : Int32) (x_w : Int32) (x_h : Int32) (x_n : Int32) (x_players : Int32) (x_wide : Nat → Int32) (x_tall : Nat → Int32) (x_hands : Nat → Int32) (x_power : Nat → Int32) (x_spin : Nat → Int32) (x_seed : Nat → Int32) (x_pressed : Nat → Int32) (x_leftFrom : Nat → Int32) (x_leftTo : Nat → Int32) (x_place : Nat → Int32) (x_points : Nat → Int32) (x_may : Nat → Int32) (x_then : Nat → Int32) (p1 : Int32) (p2 : Int32) (p3 : Int32) {out : Int32 × Int32 × Int32 × Int32 × (Nat → Int32) × (Nat → Int32) × (Nat → Int32) × (Nat → Int32)} (hf : X8_guess x_sight x_wide x_tall x_hands x_power x_spin x_seed x_pressed x_leftFrom x_leftTo x_ball x_w x_h x_n x_place x_points x_may x_then p1 p2 p3 = some out) (hx : p.tables.exec = Jvm.exec) (hb : c.code = cX8_guess) (hml : c.maxLocals = 9) (hown : s.vm.findClass RX8 = some m.cls) (hts : ∀ w ∈ wsX8_guess, w.before args s = true) (hK : va_K D vwCl (TYS cy) s) (hE : EV t A s s.heap) (hA : ∀ q, s.heap.size ≤ q → A q) (hP : va_P D vwCl (wd_X8_guess cy o_t x_thrown x_delay x_feel x_turn x_sight x_ball x_w x_h x_n x_players x_wide x_tall x_hands x_power x_spin x_seed x_pressed x_leftFrom x_leftTo x_place x_points x_may x_then) H) (hD : va_D A (wd_X8_guess cy o_t x_thrown x_delay x_feel x_turn x_sight x_ball x_w x_h x_n x_players x_wide x_tall x_hands x_power x_spin x_seed x_pressed x_leftFrom x_leftTo x_place x_points x_may x_then)) (hS : va_S A s.heap H locs) (hl : lv_has ls 9 [(0, .ref (o_t 0)), (1, .int p1), (2, .int p2), (3, .int p3)]) (hR : ∀ (H : Heap) (locs : List Loc) (ls : Array Slot) (pc : Nat), va_P D vwCl (wd_X8_guess cy o_t x_thrown x_delay x_feel x_turn x_sight out.1 out.2.1 out.2.2.1 out.2.2.2.1 x_players x_wide x_tall x_hands x_power x_spin x_seed x_pressed x_leftFrom x_leftTo out.2.2.2.2.1 out.2.2.2.2.2.1 out.2.2.2.2.2.2.1 out.2.2.2.2.2.2.2) H → va_D A (wd_X8_guess cy o_t x_thrown x_delay x_feel x_turn x_sight out.1 out.2.1 out.2.2.1 out.2.2.2.1 x_players x_wide x_tall x_hands x_power x_spin x_seed x_pressed x_leftFrom x_leftTo out.2.2.2.2.1 out.2.2.2.2.2.1 out.2.2.2.2.2.2.1 out.2.2.2.2.2.2.2) → va_S A s.heap H locs → decode cX8_guess pc = .ok (.return_, 1) → W p l e (rmm 5 127) s m args below meth c H locs 0 0 Q (F0 m pc ls [])) : W p l e (rmm 5 127) s m args below meth c H locs 0 0 Q (F0 m 0 ls []) := by
  have k0 := hts (.fieldLink RX8 28 "SeaGamesModel" "pressed" "[I") (List.mem_cons_of_mem _ (List.mem_append_left _ (List.mem_append_left _ (List.mem_of_getElem? (i := 2) rfl))))
  have k1 : ∀ w ∈ u_ws RX8 TX8 36, w ∈ wsX8_guess := fun _ h => List.mem_cons_of_mem _ (List.mem_append_right _ h)
  have k2 := hts (.fieldLink RX8 19 "SeaGamesModel" "power" "[I") (List.mem_cons_of_mem _ (List.mem_append_left _ (List.mem_append_left _ (List.mem_of_getElem? (i := 3) rfl))))
  have k3 := hts (.fieldLink RX8 129 "SeaGamesModel" "w" "I") (List.mem_cons_of_mem _ (List.mem_append_left _ (List.mem_append_left _ (List.mem_of_getElem? (i := 4) rfl))))
  have k4 := hts (.fieldLink RX8 132 "SeaGamesModel" "h" "I") (List.mem_cons_of_mem _ (List.mem_append_left _ (List.mem_append_left _ (List.mem_of_getElem? (i := 5) rfl))))
  have k5 := hts (.fieldLink RX8 57 "SeaGamesModel" "place" "[I") (List.mem_cons_of_mem _ (List.mem_append_left _ (List.mem_append_left _ (List.mem_of_getElem? (i := 1) rfl))))
  have k6 := hts (.fieldLink RX8 75 "SeaGamesModel" "may" "[Z") (List.mem_cons_of_mem _ (List.mem_append_left _ (List.mem_append_left _ (List.mem_of_getElem? (i := 0) rfl))))
  have k7 := hts (.fieldLink RX8 78 "SeaGamesModel" "then" "[Z") (List.mem_cons_of_mem _ (List.mem_append_left _ (List.mem_append_left _ (List.mem_of_getElem? (i := 6) rfl))))
  rw [X8_guess] at hf
  have h8 : ∀ (n8 : Nat) (x_ball : Int32) (x_w : Int32) (x_h : Int32) (x_n : Int32) (x_place : Nat → Int32) (x_points : Nat → Int32) (x_may : Nat → Int32) (x_then : Nat → Int32) (l1 : Int32) (l2 : Int32) (l3 : Int32) (l4 : Int32) (H : Heap) (locs : List Loc) (ls : Array Slot), X8_guess_L8 x_sight x_wide x_tall x_hands x_power x_spin x_seed x_pressed x_leftFrom x_leftTo n8 x_ball x_w x_h x_n x_place x_points x_may x_then l1 l2 l3 l4 = some out → va_P D vwCl (wd_X8_guess cy o_t x_thrown x_delay x_feel x_turn x_sight x_ball x_w x_h x_n x_players x_wide x_tall x_hands x_power x_spin x_seed x_pressed x_leftFrom x_leftTo x_place x_points x_may x_then) H → va_D A (wd_X8_guess cy o_t x_thrown x_delay x_feel x_turn x_sight x_ball x_w x_h x_n x_players x_wide x_tall x_hands x_power x_spin x_seed x_pressed x_leftFrom x_leftTo x_place x_points x_may x_then) → va_S A s.heap H locs → lv_has ls 9 [(0, .ref (o_t 0)), (1, .int l1), (2, .int l2), (3, .int l3), (4, .int l4)] → W p l e (rmm 5 127) s m args below meth c H locs 0 0 Q (F0 m 8 ls []) := by
    intro n8
    induction n8 with
    | zero =>
      intro _ _ _ _ _ _ _ _ _ _ _ _ _ _ _ hf
      exact nomatch (show (none : Option _) = some out from hf)
    | succ n8 ih8 =>
      intro x_ball x_w x_h x_n x_place x_points x_may x_then l1 l2 l3 l4 H locs ls hf hP hD hS hl
      have hf : X8_guess_L8_B x_sight x_wide x_tall x_hands x_power x_spin x_seed x_pressed x_leftFrom x_leftTo (X8_guess_L8 x_sight x_wide x_tall x_hands x_power x_spin x_seed x_pressed x_leftFrom x_leftTo n8) x_ball x_w x_h x_n x_place x_points x_may x_then l1 l2 l3 l4 = some out := hf
      rw [X8_guess_L8_B] at hf
      have h44 : ∀ (x_ball : Int32) (x_w : Int32) (x_h : Int32) (x_n : Int32) (x_place : Nat → Int32) (x_points : Nat → Int32) (x_may : Nat → Int32) (x_then : Nat → Int32) (l1 : Int32) (l2 : Int32) (l3 : Int32) (H : Heap) (locs : List Loc) (ls : Array Slot), X8_guess_J44 x_sight x_wide x_tall x_hands x_power x_spin x_seed x_pressed x_leftFrom x_leftTo x_ball x_w x_h x_n x_place x_points x_may x_then l1 l2 l3 = some out → va_P D vwCl (wd_X8_guess cy o_t x_thrown x_delay x_feel x_turn x_sight x_ball x_w x_h x_n x_players x_wide x_tall x_hands x_power x_spin x_seed x_pressed x_leftFrom x_leftTo x_place x_points x_may x_then) H → va_D A (wd_X8_guess cy o_t x_thrown x_delay x_feel x_turn x_sight x_ball x_w x_h x_n x_players x_wide x_tall x_hands x_power x_spin x_seed x_pressed x_leftFrom x_leftTo x_place x_points x_may x_then) → va_S A s.heap H locs → lv_has ls 9 [(0, .ref (o_t 0)), (1, .int l1), (2, .int l2), (3, .int l3)] → W p l e (rmm 5 127) s m args below meth c H locs 0 0 Q (F0 m 44 ls []) := by
        intro x_ball x_w x_h x_n x_place x_points x_may x_then l1 l2 l3 H locs ls hf hP hD hS hl
        rw [X8_guess_J44] at hf
        have h47 : ∀ (n47 : Nat) (x_ball : Int32) (x_w : Int32) (x_h : Int32) (x_n : Int32) (x_place : Nat → Int32) (x_points : Nat → Int32) (x_may : Nat → Int32) (x_then : Nat → Int32) (l1 : Int32) (l2 : Int32) (l3 : Int32) (l4 : Int32) (H : Heap) (locs : List Loc) (ls : Array Slot), X8_guess_L47 x_sight x_wide x_tall x_hands x_power x_spin x_seed x_pressed x_leftFrom x_leftTo n47 x_ball x_w x_h x_n x_place x_points x_may x_then l1 l2 l3 l4 = some out → va_P D vwCl (wd_X8_guess cy o_t x_thrown x_delay x_feel x_turn x_sight x_ball x_w x_h x_n x_players x_wide x_tall x_hands x_power x_spin x_seed x_pressed x_leftFrom x_leftTo x_place x_points x_may x_then) H → va_D A (wd_X8_guess cy o_t x_thrown x_delay x_feel x_turn x_sight x_ball x_w x_h x_n x_players x_wide x_tall x_hands x_power x_spin x_seed x_pressed x_leftFrom x_leftTo x_place x_points x_may x_then) → va_S A s.heap H locs → lv_has ls 9 [(0, .ref (o_t 0)), (1, .int l1), (2, .int l2), (3, .int l3), (4, .int l4)] → W p l e (rmm 5 127) s m args below meth c H locs 0 0 Q (F0 m 47 ls []) := by
          intro n47
          induction n47 with
          | zero =>
            intro _ _ _ _ _ _ _ _ _ _ _ _ _ _ _ hf
            exact nomatch (show (none : Option _) = some out from hf)
          | succ n47 ih47 =>
            intro x_ball x_w x_h x_n x_place x_points x_may x_then l1 l2 l3 l4 H locs ls hf hP hD hS hl
            have hf : X8_guess_L47_B x_sight x_wide x_tall x_hands x_power x_spin x_seed x_pressed x_leftFrom x_leftTo (X8_guess_L47 x_sight x_wide x_tall x_hands x_power x_spin x_seed x_pressed x_leftFrom x_leftTo n47) x_ball x_w x_h x_n x_place x_points x_may x_then l1 l2 l3 l4 = some out := hf
            rw [X8_guess_L47_B] at hf
            refine lv_iload hx hb dX8_guess_47 (lv_at hl 4 rfl) ?_
            refine lv_iload_n hx hb dX8_guess_49 rfl (lv_at hl 3 rfl) ?_
            refine lv_icmp_gt (tgt := 266) hx hb dX8_guess_50 (by decide) (fun c50 => ?_) (fun c50 => ?_)
            · have hf := ifp c50 hf
              obtain rfl := Option.some.inj hf
              exact hR _ _ _ _ hP hD hS dX8_guess_266
            · have hf := ifn c50 hf
              have h76 : ∀ (n76 : Nat) (x_ball : Int32) (x_w : Int32) (x_h : Int32) (x_n : Int32) (x_place : Nat → Int32) (x_points : Nat → Int32) (x_may : Nat → Int32) (x_then : Nat → Int32) (l1 : Int32) (l2 : Int32) (l3 : Int32) (l4 : Int32) (l5 : Int32) (H : Heap) (locs : List Loc) (ls : Array Slot), X8_guess_L76 x_sight x_wide x_tall x_hands x_power x_spin x_seed x_pressed x_leftFrom x_leftTo (X8_guess_L47 x_sight x_wide x_tall x_hands x_power x_spin x_seed x_pressed x_leftFrom x_leftTo n47) n76 x_ball x_w x_h x_n x_place x_points x_may x_then l1 l2 l3 l4 l5 = some out → va_P D vwCl (wd_X8_guess cy o_t x_thrown x_delay x_feel x_turn x_sight x_ball x_w x_h x_n x_players x_wide x_tall x_hands x_power x_spin x_seed x_pressed x_leftFrom x_leftTo x_place x_points x_may x_then) H → va_D A (wd_X8_guess cy o_t x_thrown x_delay x_feel x_turn x_sight x_ball x_w x_h x_n x_players x_wide x_tall x_hands x_power x_spin x_seed x_pressed x_leftFrom x_leftTo x_place x_points x_may x_then) → va_S A s.heap H locs → lv_has ls 9 [(0, .ref (o_t 0)), (1, .int l1), (2, .int l2), (3, .int l3), (4, .int l4), (5, .int l5)] → W p l e (rmm 5 127) s m args below meth c H locs 0 0 Q (F0 m 76 ls []) := by
                intro n76
                induction n76 with
                | zero =>
                  intro _ _ _ _ _ _ _ _ _ _ _ _ _ _ _ _ hf
                  exact nomatch (show (none : Option _) = some out from hf)
                | succ n76 ih76 =>
                  intro x_ball x_w x_h x_n x_place x_points x_may x_then l1 l2 l3 l4 l5 H locs ls hf hP hD hS hl
                  have hf : X8_guess_L76_B x_sight x_wide x_tall x_hands x_power x_spin x_seed x_pressed x_leftFrom x_leftTo (X8_guess_L47 x_sight x_wide x_tall x_hands x_power x_spin x_seed x_pressed x_leftFrom x_leftTo n47) (X8_guess_L76 x_sight x_wide x_tall x_hands x_power x_spin x_seed x_pressed x_leftFrom x_leftTo (X8_guess_L47 x_sight x_wide x_tall x_hands x_power x_spin x_seed x_pressed x_leftFrom x_leftTo n47) n76) x_ball x_w x_h x_n x_place x_points x_may x_then l1 l2 l3 l4 l5 = some out := hf
                  rw [X8_guess_L76_B] at hf
                  have h168 : ∀ (x_ball : Int32) (x_w : Int32) (x_h : Int32) (x_n : Int32) (x_place : Nat → Int32) (x_points : Nat → Int32) (x_may : Nat → Int32) (x_then : Nat → Int32) (l1 : Int32) (l2 : Int32) (l3 : Int32) (l4 : Int32) (H : Heap) (locs : List Loc) (ls : Array Slot), X8_guess_J168 x_sight x_wide x_tall x_hands x_power x_spin x_seed x_pressed x_leftFrom x_leftTo (X8_guess_L47 x_sight x_wide x_tall x_hands x_power x_spin x_seed x_pressed x_leftFrom x_leftTo n47) x_ball x_w x_h x_n x_place x_points x_may x_then l1 l2 l3 l4 = some out → va_P D vwCl (wd_X8_guess cy o_t x_thrown x_delay x_feel x_turn x_sight x_ball x_w x_h x_n x_players x_wide x_tall x_hands x_power x_spin x_seed x_pressed x_leftFrom x_leftTo x_place x_points x_may x_then) H → va_D A (wd_X8_guess cy o_t x_thrown x_delay x_feel x_turn x_sight x_ball x_w x_h x_n x_players x_wide x_tall x_hands x_power x_spin x_seed x_pressed x_leftFrom x_leftTo x_place x_points x_may x_then) → va_S A s.heap H locs → lv_has ls 9 [(0, .ref (o_t 0)), (1, .int l1), (2, .int l2), (3, .int l3), (4, .int l4)] → W p l e (rmm 5 127) s m args below meth c H locs 0 0 Q (F0 m 168 ls []) := by
                    intro x_ball x_w x_h x_n x_place x_points x_may x_then l1 l2 l3 l4 H locs ls hf hP hD hS hl
                    rw [X8_guess_J168] at hf
                    have h184 : ∀ (n184 : Nat) (x_ball : Int32) (x_w : Int32) (x_h : Int32) (x_n : Int32) (x_place : Nat → Int32) (x_points : Nat → Int32) (x_may : Nat → Int32) (x_then : Nat → Int32) (l1 : Int32) (l2 : Int32) (l3 : Int32) (l4 : Int32) (l5 : Int32) (l6 : Int32) (H : Heap) (locs : List Loc) (ls : Array Slot), X8_guess_L184 x_sight x_wide x_tall x_hands x_power x_spin x_seed x_pressed x_leftFrom x_leftTo (X8_guess_L47 x_sight x_wide x_tall x_hands x_power x_spin x_seed x_pressed x_leftFrom x_leftTo n47) n184 x_ball x_w x_h x_n x_place x_points x_may x_then l1 l2 l3 l4 l5 l6 = some out → va_P D vwCl (wd_X8_guess cy o_t x_thrown x_delay x_feel x_turn x_sight x_ball x_w x_h x_n x_players x_wide x_tall x_hands x_power x_spin x_seed x_pressed x_leftFrom x_leftTo x_place x_points x_may x_then) H → va_D A (wd_X8_guess cy o_t x_thrown x_delay x_feel x_turn x_sight x_ball x_w x_h x_n x_players x_wide x_tall x_hands x_power x_spin x_seed x_pressed x_leftFrom x_leftTo x_place x_points x_may x_then) → va_S A s.heap H locs → lv_has ls 9 [(0, .ref (o_t 0)), (1, .int l1), (2, .int l2), (3, .int l3), (4, .int l4), (5, .int l5), (6, .int l6)] → W p l e (rmm 5 127) s m args below meth c H locs 0 0 Q (F0 m 184 ls []) := by
                      intro n184
                      induction n184 with
                      | zero =>
                        intro _ _ _ _ _ _ _ _ _ _ _ _ _ _ _ _ _ hf
                        exact nomatch (show (none : Option _) = some out from hf)
                      | succ n184 ih184 =>
                        intro x_ball x_w x_h x_n x_place x_points x_may x_then l1 l2 l3 l4 l5 l6 H locs ls hf hP hD hS hl
                        have hf : X8_guess_L184_B x_sight x_wide x_tall x_hands x_power x_spin x_seed x_pressed x_leftFrom x_leftTo (X8_guess_L47 x_sight x_wide x_tall x_hands x_power x_spin x_seed x_pressed x_leftFrom x_leftTo n47) (X8_guess_L184 x_sight x_wide x_tall x_hands x_power x_spin x_seed x_pressed x_leftFrom x_leftTo (X8_guess_L47 x_sight x_wide x_tall x_hands x_power x_spin x_seed x_pressed x_leftFrom x_leftTo n47) n184) x_ball x_w x_h x_n x_place x_points x_may x_then l1 l2 l3 l4 l5 l6 = some out := hf
                        rw [X8_guess_L184_B] at hf
                        have h260 : ∀ (x_ball : Int32) (x_w : Int32) (x_h : Int32) (x_n : Int32) (x_place : Nat → Int32) (x_points : Nat → Int32) (x_may : Nat → Int32) (x_then : Nat → Int32) (l1 : Int32) (l2 : Int32) (l3 : Int32) (l4 : Int32) (H : Heap) (locs : List Loc) (ls : Array Slot), X8_guess_J260 x_sight x_wide x_tall x_hands x_power x_spin x_seed x_pressed x_leftFrom x_leftTo (X8_guess_L47 x_sight x_wide x_tall x_hands x_power x_spin x_seed x_pressed x_leftFrom x_leftTo n47) x_ball x_w x_h x_n x_place x_points x_may x_then l1 l2 l3 l4 = some out → va_P D vwCl (wd_X8_guess cy o_t x_thrown x_delay x_feel x_turn x_sight x_ball x_w x_h x_n x_players x_wide x_tall x_hands x_power x_spin x_seed x_pressed x_leftFrom x_leftTo x_place x_points x_may x_then) H → va_D A (wd_X8_guess cy o_t x_thrown x_delay x_feel x_turn x_sight x_ball x_w x_h x_n x_players x_wide x_tall x_hands x_power x_spin x_seed x_pressed x_leftFrom x_leftTo x_place x_points x_may x_then) → va_S A s.heap H locs → lv_has ls 9 [(0, .ref (o_t 0)), (1, .int l1), (2, .int l2), (3, .int l3), (4, .int l4)] → W p l e (rmm 5 127) s m args below meth c H locs 0 0 Q (F0 m 260 ls []) := by
                          intro x_ball x_w x_h x_n x_place x_points x_may x_then l1 l2 l3 l4 H locs ls hf hP hD hS hl
                          rw [X8_guess_J260] at hf
                          obtain ⟨v260, ev260, hf⟩ := nm_s hf
                          refine lv_iinc (v := v260) (lv' := [(4, .int v260), (0, .ref (o_t 0)), (1, .int l1), (2, .int l2), (3, .int l3)]) hx hb dX8_guess_260 hl (k := 4) rfl (by rw [ev260]; rfl) (by decide) rfl (fun ls hl => ?_)
                          refine lv_goto (tgt := 47) hx hb dX8_guess_263 (by decide) ?_
                          exact ih47 _ _ _ _ _ _ _ _ _ _ _ _ _ _ _ hf hP hD hS (lv_sub hl [1, 2, 3, 4, 0] rfl)
                        refine lv_iload hx hb dX8_guess_184 (lv_at hl 6 rfl) ?_
                        refine lv_aload_n hx hb dX8_guess_186 rfl (lv_at hl 0 rfl) ?_
                        refine va_get (D := D) (ci := 8) (v := .int x_w) (C := RX8) (T := TX8) (N := 36) hx hb hts k1 hown hK hP 0 rfl rfl 20 (by decide) k3 (fun _ h9 => h9) rfl dX8_guess_187 ?_
                        refine lv_aload_n hx hb dX8_guess_190 rfl (lv_at hl 0 rfl) ?_
                        refine va_get (D := D) (ci := 8) (v := .int x_h) (C := RX8) (T := TX8) (N := 36) hx hb hts k1 hown hK hP 0 rfl rfl 21 (by decide) k4 (fun _ h9 => h9) rfl dX8_guess_191 ?_
                        refine lv_imul hx hb dX8_guess_194 ?_
                        refine lv_icmp_ge (tgt := 260) hx hb dX8_guess_195 (by decide) (fun c195 => ?_) (fun c195 => ?_)
                        · have hf := ifp c195 hf
                          exact h260 _ _ _ _ _ _ _ _ _ _ _ _ _ _ _ hf hP hD hS (lv_sub hl [0, 1, 2, 3, 4] rfl)
                        · have hf := ifn c195 hf
                          have h253 : ∀ (x_ball : Int32) (x_w : Int32) (x_h : Int32) (x_n : Int32) (x_place : Nat → Int32) (x_points : Nat → Int32) (x_may : Nat → Int32) (x_then : Nat → Int32) (l1 : Int32) (l2 : Int32) (l3 : Int32) (l4 : Int32) (l5 : Int32) (l6 : Int32) (s1 : Int32) (s2 : Int32) (H : Heap) (locs : List Loc) (ls : Array Slot), X8_guess_J253 x_sight x_wide x_tall x_hands x_power x_spin x_seed x_pressed x_leftFrom x_leftTo (X8_guess_L47 x_sight x_wide x_tall x_hands x_power x_spin x_seed x_pressed x_leftFrom x_leftTo n47) (X8_guess_L184 x_sight x_wide x_tall x_hands x_power x_spin x_seed x_pressed x_leftFrom x_leftTo (X8_guess_L47 x_sight x_wide x_tall x_hands x_power x_spin x_seed x_pressed x_leftFrom x_leftTo n47) n184) x_ball x_w x_h x_n x_place x_points x_may x_then l1 l2 l3 l4 l5 l6 s1 s2 = some out → va_P D vwCl (wd_X8_guess cy o_t x_thrown x_delay x_feel x_turn x_sight x_ball x_w x_h x_n x_players x_wide x_tall x_hands x_power x_spin x_seed x_pressed x_leftFrom x_leftTo x_place x_points x_may x_then) H → va_D A (wd_X8_guess cy o_t x_thrown x_delay x_feel x_turn x_sight x_ball x_w x_h x_n x_players x_wide x_tall x_hands x_power x_spin x_seed x_pressed x_leftFrom x_leftTo x_place x_points x_may x_then) → va_S A s.heap H locs → lv_has ls 9 [(0, .ref (o_t 0)), (1, .int l1), (2, .int l2), (3, .int l3), (4, .int l4), (5, .int l5), (6, .int l6)] → W p l e (rmm 5 127) s m args below meth c H locs 0 0 Q (F0 m 253 ls [.int s2, .int s1, .ref (o_t 28)]) := by
                            intro x_ball x_w x_h x_n x_place x_points x_may x_then l1 l2 l3 l4 l5 l6 s1 s2 H locs ls hf hP hD hS hl
                            rw [X8_guess_J253] at hf
                            obtain ⟨w253, b253, ew253, hf⟩ := wrZ_s hf
                            refine my_zast (ws2 := (wd_X8_guess cy o_t x_thrown x_delay x_feel x_turn x_sight x_ball x_w x_h x_n x_players x_wide x_tall x_hands x_power x_spin x_seed x_pressed x_leftFrom x_leftTo x_place x_points w253 x_then)) hx hb hK hP hD hS 12 rfl b253 ew253 rfl dX8_guess_253 (fun H locs hP hD hS => ?_)
                            obtain ⟨v254, ev254, hf⟩ := nm_s hf
                            refine lv_iinc (v := v254) (lv' := [(6, .int v254), (0, .ref (o_t 0)), (1, .int l1), (2, .int l2), (3, .int l3), (4, .int l4), (5, .int l5)]) hx hb dX8_guess_254 hl (k := 6) rfl (by rw [ev254]; rfl) (by decide) rfl (fun ls hl => ?_)
                            refine lv_goto (tgt := 184) hx hb dX8_guess_257 (by decide) ?_
                            exact ih184 _ _ _ _ _ _ _ _ _ _ _ _ _ _ _ _ _ hf hP hD hS (lv_sub hl [1, 2, 3, 4, 5, 6, 0] rfl)
                          refine lv_aload_n hx hb dX8_guess_198 rfl (lv_at hl 0 rfl) ?_
                          refine va_get (D := D) (ci := 8) (v := .ref (o_t 28)) (C := RX8) (T := TX8) (N := 36) hx hb hts k1 hown hK hP 0 rfl rfl 27 (by decide) k6 (fun _ h9 => h9) rfl dX8_guess_199 ?_
                          refine lv_iload hx hb dX8_guess_202 (lv_at hl 6 rfl) ?_
                          refine lv_iload hx hb dX8_guess_204 (lv_at hl 5 rfl) ?_
                          refine lv_if_eq (tgt := 228) hx hb dX8_guess_206 (by decide) (fun c206 => ?_) (fun c206 => ?_)
                          · have hf := ifp c206 hf
                            have h252 : ∀ (x_ball : Int32) (x_w : Int32) (x_h : Int32) (x_n : Int32) (x_place : Nat → Int32) (x_points : Nat → Int32) (x_may : Nat → Int32) (x_then : Nat → Int32) (l1 : Int32) (l2 : Int32) (l3 : Int32) (l4 : Int32) (l5 : Int32) (l6 : Int32) (s1 : Int32) (H : Heap) (locs : List Loc) (ls : Array Slot), X8_guess_J252 x_sight x_wide x_tall x_hands x_power x_spin x_seed x_pressed x_leftFrom x_leftTo (X8_guess_L47 x_sight x_wide x_tall x_hands x_power x_spin x_seed x_pressed x_leftFrom x_leftTo n47) (X8_guess_L184 x_sight x_wide x_tall x_hands x_power x_spin x_seed x_pressed x_leftFrom x_leftTo (X8_guess_L47 x_sight x_wide x_tall x_hands x_power x_spin x_seed x_pressed x_leftFrom x_leftTo n47) n184) x_ball x_w x_h x_n x_place x_points x_may x_then l1 l2 l3 l4 l5 l6 s1 = some out → va_P D vwCl (wd_X8_guess cy o_t x_thrown x_delay x_feel x_turn x_sight x_ball x_w x_h x_n x_players x_wide x_tall x_hands x_power x_spin x_seed x_pressed x_leftFrom x_leftTo x_place x_points x_may x_then) H → va_D A (wd_X8_guess cy o_t x_thrown x_delay x_feel x_turn x_sight x_ball x_w x_h x_n x_players x_wide x_tall x_hands x_power x_spin x_seed x_pressed x_leftFrom x_leftTo x_place x_points x_may x_then) → va_S A s.heap H locs → lv_has ls 9 [(0, .ref (o_t 0)), (1, .int l1), (2, .int l2), (3, .int l3), (4, .int l4), (5, .int l5), (6, .int l6)] → W p l e (rmm 5 127) s m args below meth c H locs 0 0 Q (F0 m 252 ls [.int s1, .ref (o_t 28)]) := by
                              intro x_ball x_w x_h x_n x_place x_points x_may x_then l1 l2 l3 l4 l5 l6 s1 H locs ls hf hP hD hS hl
                              rw [X8_guess_J252] at hf
                              refine lv_iconst (v := (0 : Int32)) hx hb dX8_guess_252 (by decide) ?_
                              exact h253 _ _ _ _ _ _ _ _ _ _ _ _ _ _ _ _ _ _ _ hf hP hD hS (lv_sub hl [0, 1, 2, 3, 4, 5, 6] rfl)
                            refine lv_aload_n hx hb dX8_guess_228 rfl (lv_at hl 0 rfl) ?_
                            refine va_get (D := D) (ci := 8) (v := .ref (o_t 29)) (C := RX8) (T := TX8) (N := 36) hx hb hts k1 hown hK hP 0 rfl rfl 28 (by decide) k7 (fun _ h9 => h9) rfl dX8_guess_229 ?_
                            refine lv_iload hx hb dX8_guess_232 (lv_at hl 6 rfl) ?_
                            obtain ⟨v234, b234, ev234, hf⟩ := rd_s hf
                            refine my_zald hx hb hK hP 13 rfl b234 ev234 dX8_guess_234 ?_
                            refine lv_if_eq (tgt := 252) hx hb dX8_guess_235 (by decide) (fun c235 => ?_) (fun c235 => ?_)
                            · have hf := ifp c235 hf
                              exact h252 _ _ _ _ _ _ _ _ _ _ _ _ _ _ _ _ _ _ hf hP hD hS (lv_sub hl [0, 1, 2, 3, 4, 5, 6] rfl)
                            · have hf := ifn c235 hf
                              refine lv_aload_n hx hb dX8_guess_238 rfl (lv_at hl 0 rfl) ?_
                              refine lv_iload_n hx hb dX8_guess_239 rfl (lv_at hl 1 rfl) ?_
                              refine lv_iload hx hb dX8_guess_240 (lv_at hl 6 rfl) ?_
                              obtain ⟨r242, hr242, hf⟩ := bd_s hf
                              refine my_Vi (WS2 := (wd_X8_guess cy o_t x_thrown x_delay x_feel x_turn x_sight x_ball x_w x_h x_n x_players x_wide x_tall x_hands x_power x_spin x_seed x_pressed x_leftFrom x_leftTo x_place x_points x_may x_then)) ⟨hx, hb, hml, hown, hts⟩ (c_X8_isSeen l D cy t o_t x_thrown x_delay x_feel x_turn x_sight x_ball x_w x_h x_n x_players x_place l1 l6 hr242) (cwV 2 hts gX8_guess_X8_isSeen rfl rfl rfl ⟨rfl, hd_X8_isSeen⟩ ⟨Nat.le_of_ble_eq_true rfl, Nat.le_of_ble_eq_true rfl⟩) hK hE hP hD hS hA [0, 10] 14 8 0 rfl rfl rfl rfl (by decide +kernel) rfl rfl hl.1 rfl (Nat.le_of_ble_eq_true rfl) dX8_guess_242 ⟨Nat.le_of_ble_eq_true rfl, Nat.le_of_ble_eq_true rfl⟩ (fun H locs hP hD hS => ?_)
                              refine lv_if_ne (tgt := 252) hx hb dX8_guess_245 (by decide) (fun c245 => ?_) (fun c245 => ?_)
                              · have hf := ifn c245 hf
                                exact h252 _ _ _ _ _ _ _ _ _ _ _ _ _ _ _ _ _ _ hf hP hD hS (lv_sub hl [0, 1, 2, 3, 4, 5, 6] rfl)
                              · have hf := ifp c245 hf
                                refine lv_iconst (v := (1 : Int32)) hx hb dX8_guess_248 (by decide) ?_
                                refine lv_goto (tgt := 253) hx hb dX8_guess_249 (by decide) ?_
                                exact h253 _ _ _ _ _ _ _ _ _ _ _ _ _ _ _ _ _ _ _ hf hP hD hS (lv_sub hl [0, 1, 2, 3, 4, 5, 6] rfl)
                          · have hf := ifn c206 hf
                            refine lv_iload hx hb dX8_guess_209 (lv_at hl 6 rfl) ?_
                            refine lv_aload_n hx hb dX8_guess_211 rfl (lv_at hl 0 rfl) ?_
                            refine va_get (D := D) (ci := 8) (v := .ref (o_t 18)) (C := RX8) (T := TX8) (N := 36) hx hb hts k1 hown hK hP 0 rfl rfl 17 (by decide) k5 (fun _ h9 => h9) rfl dX8_guess_212 ?_
                            refine lv_iload_n hx hb dX8_guess_215 rfl (lv_at hl 2 rfl) ?_
                            obtain ⟨v216, b216, ev216, hf⟩ := rd_s hf
                            refine my_iald hx hb hK hP 10 rfl b216 ev216 dX8_guess_216 ?_
                            refine lv_icmp_ne (tgt := 224) hx hb dX8_guess_217 (by decide) (fun c217 => ?_) (fun c217 => ?_)
                            · have hf := ifn c217 hf
                              refine lv_iconst (v := (0 : Int32)) hx hb dX8_guess_224 (by decide) ?_
                              refine lv_goto (tgt := 253) hx hb dX8_guess_225 (by decide) ?_
                              exact h253 _ _ _ _ _ _ _ _ _ _ _ _ _ _ _ _ _ _ _ hf hP hD hS (lv_sub hl [0, 1, 2, 3, 4, 5, 6] rfl)
                            · have hf := ifp c217 hf
                              refine lv_iconst (v := (1 : Int32)) hx hb dX8_guess_220 (by decide) ?_
                              refine lv_goto (tgt := 253) hx hb dX8_guess_221 (by decide) ?_
                              exact h253 _ _ _ _ _ _ _ _ _ _ _ _ _ _ _ _ _ _ _ hf hP hD hS (lv_sub hl [0, 1, 2, 3, 4, 5, 6] rfl)
                    refine lv_aload_n hx hb dX8_guess_168 rfl (lv_at hl 0 rfl) ?_
                    refine lv_iload_n hx hb dX8_guess_169 rfl (lv_at hl 1 rfl) ?_
                    refine lv_aload_n hx hb dX8_guess_170 rfl (lv_at hl 0 rfl) ?_
                    refine va_get (D := D) (ci := 8) (v := .ref (o_t 18)) (C := RX8) (T := TX8) (N := 36) hx hb hts k1 hown hK hP 0 rfl rfl 17 (by decide) k5 (fun _ h9 => h9) rfl dX8_guess_171 ?_
                    refine lv_iload_n hx hb dX8_guess_174 rfl (lv_at hl 2 rfl) ?_
                    obtain ⟨v175, b175, ev175, hf⟩ := rd_s hf
                    refine my_iald hx hb hK hP 10 rfl b175 ev175 dX8_guess_175 ?_
                    obtain ⟨r176, hr176, hf⟩ := bd_s hf
                    refine my_Vi (WS2 := (wd_X8_guess cy o_t x_thrown x_delay x_feel x_turn x_sight x_ball x_w x_h x_n x_players x_wide x_tall x_hands x_power x_spin x_seed x_pressed x_leftFrom x_leftTo x_place x_points x_may x_then)) ⟨hx, hb, hml, hown, hts⟩ (c_X8_isSeen l D cy t o_t x_thrown x_delay x_feel x_turn x_sight x_ball x_w x_h x_n x_players x_place l1 v175 hr176) (cwV 2 hts gX8_guess_X8_isSeen rfl rfl rfl ⟨rfl, hd_X8_isSeen⟩ ⟨Nat.le_of_ble_eq_true rfl, Nat.le_of_ble_eq_true rfl⟩) hK hE hP hD hS hA [0, 10] 14 8 0 rfl rfl rfl rfl (by decide +kernel) rfl rfl hl.1 rfl (Nat.le_of_ble_eq_true rfl) dX8_guess_176 ⟨Nat.le_of_ble_eq_true rfl, Nat.le_of_ble_eq_true rfl⟩ (fun H locs hP hD hS => ?_)
                    refine lv_istore (lv' := [(5, .int r176), (0, .ref (o_t 0)), (1, .int l1), (2, .int l2), (3, .int l3), (4, .int l4)]) hx hb dX8_guess_179 hl (by decide) rfl (fun ls hl => ?_)
                    refine lv_iconst (v := (0 : Int32)) hx hb dX8_guess_181 (by decide) ?_
                    refine lv_istore (lv' := [(6, .int (0 : Int32)), (5, .int r176), (0, .ref (o_t 0)), (1, .int l1), (2, .int l2), (3, .int l3), (4, .int l4)]) hx hb dX8_guess_182 hl (by decide) rfl (fun ls hl => ?_)
                    exact h184 FU _ _ _ _ _ _ _ _ _ _ _ _ _ _ _ _ _ hf hP hD hS (lv_sub hl [2, 3, 4, 5, 6, 1, 0] rfl)
                  refine lv_iload hx hb dX8_guess_76 (lv_at hl 5 rfl) ?_
                  refine lv_aload_n hx hb dX8_guess_78 rfl (lv_at hl 0 rfl) ?_
                  refine va_get (D := D) (ci := 8) (v := .int x_w) (C := RX8) (T := TX8) (N := 36) hx hb hts k1 hown hK hP 0 rfl rfl 20 (by decide) k3 (fun _ h9 => h9) rfl dX8_guess_79 ?_
                  refine lv_aload_n hx hb dX8_guess_82 rfl (lv_at hl 0 rfl) ?_
                  refine va_get (D := D) (ci := 8) (v := .int x_h) (C := RX8) (T := TX8) (N := 36) hx hb hts k1 hown hK hP 0 rfl rfl 21 (by decide) k4 (fun _ h9 => h9) rfl dX8_guess_83 ?_
                  refine lv_imul hx hb dX8_guess_86 ?_
                  refine lv_icmp_ge (tgt := 168) hx hb dX8_guess_87 (by decide) (fun c87 => ?_) (fun c87 => ?_)
                  · have hf := ifp c87 hf
                    exact h168 _ _ _ _ _ _ _ _ _ _ _ _ _ _ _ hf hP hD hS (lv_sub hl [0, 1, 2, 3, 4] rfl)
                  · have hf := ifn c87 hf
                    have h102 : ∀ (n102 : Nat) (x_ball : Int32) (x_w : Int32) (x_h : Int32) (x_n : Int32) (x_place : Nat → Int32) (x_points : Nat → Int32) (x_may : Nat → Int32) (x_then : Nat → Int32) (l1 : Int32) (l2 : Int32) (l3 : Int32) (l4 : Int32) (l5 : Int32) (l6 : Int32) (l7 : Int32) (H : Heap) (locs : List Loc) (ls : Array Slot), X8_guess_L102 x_sight x_wide x_tall x_hands x_power x_spin x_seed x_pressed x_leftFrom x_leftTo (X8_guess_L47 x_sight x_wide x_tall x_hands x_power x_spin x_seed x_pressed x_leftFrom x_leftTo n47) (X8_guess_L76 x_sight x_wide x_tall x_hands x_power x_spin x_seed x_pressed x_leftFrom x_leftTo (X8_guess_L47 x_sight x_wide x_tall x_hands x_power x_spin x_seed x_pressed x_leftFrom x_leftTo n47) n76) n102 x_ball x_w x_h x_n x_place x_points x_may x_then l1 l2 l3 l4 l5 l6 l7 = some out → va_P D vwCl (wd_X8_guess cy o_t x_thrown x_delay x_feel x_turn x_sight x_ball x_w x_h x_n x_players x_wide x_tall x_hands x_power x_spin x_seed x_pressed x_leftFrom x_leftTo x_place x_points x_may x_then) H → va_D A (wd_X8_guess cy o_t x_thrown x_delay x_feel x_turn x_sight x_ball x_w x_h x_n x_players x_wide x_tall x_hands x_power x_spin x_seed x_pressed x_leftFrom x_leftTo x_place x_points x_may x_then) → va_S A s.heap H locs → lv_has ls 9 [(0, .ref (o_t 0)), (1, .int l1), (2, .int l2), (3, .int l3), (4, .int l4), (5, .int l5), (6, .int l6), (7, .int l7)] → W p l e (rmm 5 127) s m args below meth c H locs 0 0 Q (F0 m 102 ls []) := by
                      intro n102
                      induction n102 with
                      | zero =>
                        intro _ _ _ _ _ _ _ _ _ _ _ _ _ _ _ _ _ _ hf
                        exact nomatch (show (none : Option _) = some out from hf)
                      | succ n102 ih102 =>
                        intro x_ball x_w x_h x_n x_place x_points x_may x_then l1 l2 l3 l4 l5 l6 l7 H locs ls hf hP hD hS hl
                        have hf : X8_guess_L102_B x_sight x_wide x_tall x_hands x_power x_spin x_seed x_pressed x_leftFrom x_leftTo (X8_guess_L47 x_sight x_wide x_tall x_hands x_power x_spin x_seed x_pressed x_leftFrom x_leftTo n47) (X8_guess_L76 x_sight x_wide x_tall x_hands x_power x_spin x_seed x_pressed x_leftFrom x_leftTo (X8_guess_L47 x_sight x_wide x_tall x_hands x_power x_spin x_seed x_pressed x_leftFrom x_leftTo n47) n76) (X8_guess_L102 x_sight x_wide x_tall x_hands x_power x_spin x_seed x_pressed x_leftFrom x_leftTo (X8_guess_L47 x_sight x_wide x_tall x_hands x_power x_spin x_seed x_pressed x_leftFrom x_leftTo n47) (X8_guess_L76 x_sight x_wide x_tall x_hands x_power x_spin x_seed x_pressed x_leftFrom x_leftTo (X8_guess_L47 x_sight x_wide x_tall x_hands x_power x_spin x_seed x_pressed x_leftFrom x_leftTo n47) n76) n102) x_ball x_w x_h x_n x_place x_points x_may x_then l1 l2 l3 l4 l5 l6 l7 = some out := hf
                        rw [X8_guess_L102_B] at hf
                        have h153 : ∀ (x_ball : Int32) (x_w : Int32) (x_h : Int32) (x_n : Int32) (x_place : Nat → Int32) (x_points : Nat → Int32) (x_may : Nat → Int32) (x_then : Nat → Int32) (l1 : Int32) (l2 : Int32) (l3 : Int32) (l4 : Int32) (l5 : Int32) (l6 : Int32) (H : Heap) (locs : List Loc) (ls : Array Slot), X8_guess_J153 x_sight x_wide x_tall x_hands x_power x_spin x_seed x_pressed x_leftFrom x_leftTo (X8_guess_L47 x_sight x_wide x_tall x_hands x_power x_spin x_seed x_pressed x_leftFrom x_leftTo n47) (X8_guess_L76 x_sight x_wide x_tall x_hands x_power x_spin x_seed x_pressed x_leftFrom x_leftTo (X8_guess_L47 x_sight x_wide x_tall x_hands x_power x_spin x_seed x_pressed x_leftFrom x_leftTo n47) n76) x_ball x_w x_h x_n x_place x_points x_may x_then l1 l2 l3 l4 l5 l6 = some out → va_P D vwCl (wd_X8_guess cy o_t x_thrown x_delay x_feel x_turn x_sight x_ball x_w x_h x_n x_players x_wide x_tall x_hands x_power x_spin x_seed x_pressed x_leftFrom x_leftTo x_place x_points x_may x_then) H → va_D A (wd_X8_guess cy o_t x_thrown x_delay x_feel x_turn x_sight x_ball x_w x_h x_n x_players x_wide x_tall x_hands x_power x_spin x_seed x_pressed x_leftFrom x_leftTo x_place x_points x_may x_then) → va_S A s.heap H locs → lv_has ls 9 [(0, .ref (o_t 0)), (1, .int l1), (2, .int l2), (3, .int l3), (4, .int l4), (5, .int l5), (6, .int l6)] → W p l e (rmm 5 127) s m args below meth c H locs 0 0 Q (F0 m 153 ls []) := by
                          intro x_ball x_w x_h x_n x_place x_points x_may x_then l1 l2 l3 l4 l5 l6 H locs ls hf hP hD hS hl
                          rw [X8_guess_J153] at hf
                          refine lv_aload_n hx hb dX8_guess_153 rfl (lv_at hl 0 rfl) ?_
                          refine va_get (D := D) (ci := 8) (v := .ref (o_t 29)) (C := RX8) (T := TX8) (N := 36) hx hb hts k1 hown hK hP 0 rfl rfl 28 (by decide) k7 (fun _ h9 => h9) rfl dX8_guess_154 ?_
                          refine lv_iload hx hb dX8_guess_157 (lv_at hl 5 rfl) ?_
                          refine lv_iload hx hb dX8_guess_159 (lv_at hl 6 rfl) ?_
                          obtain ⟨w161, b161, ew161, hf⟩ := wrZ_s hf
                          refine my_zast (ws2 := (wd_X8_guess cy o_t x_thrown x_delay x_feel x_turn x_sight x_ball x_w x_h x_n x_players x_wide x_tall x_hands x_power x_spin x_seed x_pressed x_leftFrom x_leftTo x_place x_points x_may w161)) hx hb hK hP hD hS 13 rfl b161 ew161 rfl dX8_guess_161 (fun H locs hP hD hS => ?_)
                          obtain ⟨v162, ev162, hf⟩ := nm_s hf
                          refine lv_iinc (v := v162) (lv' := [(5, .int v162), (0, .ref (o_t 0)), (1, .int l1), (2, .int l2), (3, .int l3), (4, .int l4), (6, .int l6)]) hx hb dX8_guess_162 hl (k := 5) rfl (by rw [ev162]; rfl) (by decide) rfl (fun ls hl => ?_)
                          refine lv_goto (tgt := 76) hx hb dX8_guess_165 (by decide) ?_
                          exact ih76 _ _ _ _ _ _ _ _ _ _ _ _ _ _ _ _ hf hP hD hS (lv_sub hl [1, 2, 3, 4, 5, 0] rfl)
                        refine lv_iload hx hb dX8_guess_102 (lv_at hl 7 rfl) ?_
                        refine lv_iconst (v := (5 : Int32)) hx hb dX8_guess_104 (by decide) ?_
                        refine lv_icmp_ge (tgt := 153) hx hb dX8_guess_105 (by decide) (fun c105 => ?_) (fun c105 => ?_)
                        · have hf := ifp c105 hf
                          exact h153 _ _ _ _ _ _ _ _ _ _ _ _ _ _ _ _ _ hf hP hD hS (lv_sub hl [0, 1, 2, 3, 4, 5, 6] rfl)
                        · have hf := ifn c105 hf
                          have h145 : ∀ (x_ball : Int32) (x_w : Int32) (x_h : Int32) (x_n : Int32) (x_place : Nat → Int32) (x_points : Nat → Int32) (x_may : Nat → Int32) (x_then : Nat → Int32) (l1 : Int32) (l2 : Int32) (l3 : Int32) (l4 : Int32) (l5 : Int32) (l7 : Int32) (s0 : Int32) (H : Heap) (locs : List Loc) (ls : Array Slot), X8_guess_J145 x_sight x_wide x_tall x_hands x_power x_spin x_seed x_pressed x_leftFrom x_leftTo (X8_guess_L47 x_sight x_wide x_tall x_hands x_power x_spin x_seed x_pressed x_leftFrom x_leftTo n47) (X8_guess_L76 x_sight x_wide x_tall x_hands x_power x_spin x_seed x_pressed x_leftFrom x_leftTo (X8_guess_L47 x_sight x_wide x_tall x_hands x_power x_spin x_seed x_pressed x_leftFrom x_leftTo n47) n76) (X8_guess_L102 x_sight x_wide x_tall x_hands x_power x_spin x_seed x_pressed x_leftFrom x_leftTo (X8_guess_L47 x_sight x_wide x_tall x_hands x_power x_spin x_seed x_pressed x_leftFrom x_leftTo n47) (X8_guess_L76 x_sight x_wide x_tall x_hands x_power x_spin x_seed x_pressed x_leftFrom x_leftTo (X8_guess_L47 x_sight x_wide x_tall x_hands x_power x_spin x_seed x_pressed x_leftFrom x_leftTo n47) n76) n102) x_ball x_w x_h x_n x_place x_points x_may x_then l1 l2 l3 l4 l5 l7 s0 = some out → va_P D vwCl (wd_X8_guess cy o_t x_thrown x_delay x_feel x_turn x_sight x_ball x_w x_h x_n x_players x_wide x_tall x_hands x_power x_spin x_seed x_pressed x_leftFrom x_leftTo x_place x_points x_may x_then) H → va_D A (wd_X8_guess cy o_t x_thrown x_delay x_feel x_turn x_sight x_ball x_w x_h x_n x_players x_wide x_tall x_hands x_power x_spin x_seed x_pressed x_leftFrom x_leftTo x_place x_points x_may x_then) → va_S A s.heap H locs → lv_has ls 9 [(0, .ref (o_t 0)), (1, .int l1), (2, .int l2), (3, .int l3), (4, .int l4), (5, .int l5), (7, .int l7)] → W p l e (rmm 5 127) s m args below meth c H locs 0 0 Q (F0 m 145 ls [.int s0]) := by
                            intro x_ball x_w x_h x_n x_place x_points x_may x_then l1 l2 l3 l4 l5 l7 s0 H locs ls hf hP hD hS hl
                            rw [X8_guess_J145] at hf
                            refine lv_istore (lv' := [(6, .int s0), (0, .ref (o_t 0)), (1, .int l1), (2, .int l2), (3, .int l3), (4, .int l4), (5, .int l5), (7, .int l7)]) hx hb dX8_guess_145 hl (by decide) rfl (fun ls hl => ?_)
                            obtain ⟨v147, ev147, hf⟩ := nm_s hf
                            refine lv_iinc (v := v147) (lv' := [(7, .int v147), (6, .int s0), (0, .ref (o_t 0)), (1, .int l1), (2, .int l2), (3, .int l3), (4, .int l4), (5, .int l5)]) hx hb dX8_guess_147 hl (k := 7) rfl (by rw [ev147]; rfl) (by decide) rfl (fun ls hl => ?_)
                            refine lv_goto (tgt := 102) hx hb dX8_guess_150 (by decide) ?_
                            exact ih102 _ _ _ _ _ _ _ _ _ _ _ _ _ _ _ _ _ _ hf hP hD hS (lv_sub hl [2, 3, 4, 5, 6, 7, 1, 0] rfl)
                          have h140 : ∀ (x_ball : Int32) (x_w : Int32) (x_h : Int32) (x_n : Int32) (x_place : Nat → Int32) (x_points : Nat → Int32) (x_may : Nat → Int32) (x_then : Nat → Int32) (l1 : Int32) (l2 : Int32) (l3 : Int32) (l4 : Int32) (l5 : Int32) (l7 : Int32) (H : Heap) (locs : List Loc) (ls : Array Slot), X8_guess_J140 x_sight x_wide x_tall x_hands x_power x_spin x_seed x_pressed x_leftFrom x_leftTo (X8_guess_L47 x_sight x_wide x_tall x_hands x_power x_spin x_seed x_pressed x_leftFrom x_leftTo n47) (X8_guess_L76 x_sight x_wide x_tall x_hands x_power x_spin x_seed x_pressed x_leftFrom x_leftTo (X8_guess_L47 x_sight x_wide x_tall x_hands x_power x_spin x_seed x_pressed x_leftFrom x_leftTo n47) n76) (X8_guess_L102 x_sight x_wide x_tall x_hands x_power x_spin x_seed x_pressed x_leftFrom x_leftTo (X8_guess_L47 x_sight x_wide x_tall x_hands x_power x_spin x_seed x_pressed x_leftFrom x_leftTo n47) (X8_guess_L76 x_sight x_wide x_tall x_hands x_power x_spin x_seed x_pressed x_leftFrom x_leftTo (X8_guess_L47 x_sight x_wide x_tall x_hands x_power x_spin x_seed x_pressed x_leftFrom x_leftTo n47) n76) n102) x_ball x_w x_h x_n x_place x_points x_may x_then l1 l2 l3 l4 l5 l7 = some out → va_P D vwCl (wd_X8_guess cy o_t x_thrown x_delay x_feel x_turn x_sight x_ball x_w x_h x_n x_players x_wide x_tall x_hands x_power x_spin x_seed x_pressed x_leftFrom x_leftTo x_place x_points x_may x_then) H → va_D A (wd_X8_guess cy o_t x_thrown x_delay x_feel x_turn x_sight x_ball x_w x_h x_n x_players x_wide x_tall x_hands x_power x_spin x_seed x_pressed x_leftFrom x_leftTo x_place x_points x_may x_then) → va_S A s.heap H locs → lv_has ls 9 [(0, .ref (o_t 0)), (1, .int l1), (2, .int l2), (3, .int l3), (4, .int l4), (5, .int l5), (7, .int l7)] → W p l e (rmm 5 127) s m args below meth c H locs 0 0 Q (F0 m 140 ls []) := by
                            intro x_ball x_w x_h x_n x_place x_points x_may x_then l1 l2 l3 l4 l5 l7 H locs ls hf hP hD hS hl
                            rw [X8_guess_J140] at hf
                            refine lv_iconst (v := (1 : Int32)) hx hb dX8_guess_140 (by decide) ?_
                            refine lv_goto (tgt := 145) hx hb dX8_guess_141 (by decide) ?_
                            exact h145 _ _ _ _ _ _ _ _ _ _ _ _ _ _ _ _ _ _ hf hP hD hS (lv_sub hl [0, 1, 2, 3, 4, 5, 6] rfl)
                          refine lv_aload_n hx hb dX8_guess_108 rfl (lv_at hl 0 rfl) ?_
                          refine lv_iload hx hb dX8_guess_109 (lv_at hl 5 rfl) ?_
                          refine lv_iload hx hb dX8_guess_111 (lv_at hl 7 rfl) ?_
                          obtain ⟨r113, hr113, hf⟩ := bd_s hf
                          refine my_Vi (WS2 := (wd_X8_guess cy o_t x_thrown x_delay x_feel x_turn x_sight x_ball x_w x_h x_n x_players x_wide x_tall x_hands x_power x_spin x_seed x_pressed x_leftFrom x_leftTo x_place x_points x_may x_then)) ⟨hx, hb, hml, hown, hts⟩ (c_X8_by l D cy t o_t x_thrown x_delay x_feel x_turn x_sight x_ball x_w x_h x_n x_players l5 l7 hr113) (cwV 2 hts gX8_guess_X8_by rfl rfl rfl ⟨rfl, hd_X8_by⟩ ⟨Nat.le_of_ble_eq_true rfl, Nat.le_of_ble_eq_true rfl⟩) hK hE hP hD hS hA [0] 14 8 0 rfl rfl rfl rfl (by decide +kernel) rfl rfl hl.1 rfl (Nat.le_of_ble_eq_true rfl) dX8_guess_113 ⟨Nat.le_of_ble_eq_true rfl, Nat.le_of_ble_eq_true rfl⟩ (fun H locs hP hD hS => ?_)
                          refine lv_istore (lv' := [(8, .int r113), (0, .ref (o_t 0)), (1, .int l1), (2, .int l2), (3, .int l3), (4, .int l4), (5, .int l5), (6, .int l6), (7, .int l7)]) hx hb dX8_guess_116 hl (by decide) rfl (fun ls hl => ?_)
                          refine lv_iload hx hb dX8_guess_118 (lv_at hl 7 rfl) ?_
                          refine lv_if_ne (tgt := 140) hx hb dX8_guess_120 (by decide) (fun c120 => ?_) (fun c120 => ?_)
                          · have hf := ifn c120 hf
                            exact h140 _ _ _ _ _ _ _ _ _ _ _ _ _ _ _ _ _ hf hP hD hS (lv_sub hl [1, 2, 3, 4, 5, 6, 8] rfl)
                          · have hf := ifp c120 hf
                            have h144 : ∀ (x_ball : Int32) (x_w : Int32) (x_h : Int32) (x_n : Int32) (x_place : Nat → Int32) (x_points : Nat → Int32) (x_may : Nat → Int32) (x_then : Nat → Int32) (l1 : Int32) (l2 : Int32) (l3 : Int32) (l4 : Int32) (l5 : Int32) (l7 : Int32) (H : Heap) (locs : List Loc) (ls : Array Slot), X8_guess_J144 x_sight x_wide x_tall x_hands x_power x_spin x_seed x_pressed x_leftFrom x_leftTo (X8_guess_L47 x_sight x_wide x_tall x_hands x_power x_spin x_seed x_pressed x_leftFrom x_leftTo n47) (X8_guess_L76 x_sight x_wide x_tall x_hands x_power x_spin x_seed x_pressed x_leftFrom x_leftTo (X8_guess_L47 x_sight x_wide x_tall x_hands x_power x_spin x_seed x_pressed x_leftFrom x_leftTo n47) n76) (X8_guess_L102 x_sight x_wide x_tall x_hands x_power x_spin x_seed x_pressed x_leftFrom x_leftTo (X8_guess_L47 x_sight x_wide x_tall x_hands x_power x_spin x_seed x_pressed x_leftFrom x_leftTo n47) (X8_guess_L76 x_sight x_wide x_tall x_hands x_power x_spin x_seed x_pressed x_leftFrom x_leftTo (X8_guess_L47 x_sight x_wide x_tall x_hands x_power x_spin x_seed x_pressed x_leftFrom x_leftTo n47) n76) n102) x_ball x_w x_h x_n x_place x_points x_may x_then l1 l2 l3 l4 l5 l7 = some out → va_P D vwCl (wd_X8_guess cy o_t x_thrown x_delay x_feel x_turn x_sight x_ball x_w x_h x_n x_players x_wide x_tall x_hands x_power x_spin x_seed x_pressed x_leftFrom x_leftTo x_place x_points x_may x_then) H → va_D A (wd_X8_guess cy o_t x_thrown x_delay x_feel x_turn x_sight x_ball x_w x_h x_n x_players x_wide x_tall x_hands x_power x_spin x_seed x_pressed x_leftFrom x_leftTo x_place x_points x_may x_then) → va_S A s.heap H locs → lv_has ls 9 [(0, .ref (o_t 0)), (1, .int l1), (2, .int l2), (3, .int l3), (4, .int l4), (5, .int l5), (7, .int l7)] → W p l e (rmm 5 127) s m args below meth c H locs 0 0 Q (F0 m 144 ls []) := by
                              intro x_ball x_w x_h x_n x_place x_points x_may x_then l1 l2 l3 l4 l5 l7 H locs ls hf hP hD hS hl
                              rw [X8_guess_J144] at hf
                              refine lv_iconst (v := (0 : Int32)) hx hb dX8_guess_144 (by decide) ?_
                              exact h145 _ _ _ _ _ _ _ _ _ _ _ _ _ _ _ _ _ _ hf hP hD hS (lv_sub hl [0, 1, 2, 3, 4, 5, 6] rfl)
                            refine lv_iload hx hb dX8_guess_123 (lv_at hl 0 rfl) ?_
                            refine lv_bipush (v := (-9 : Int32)) hx hb dX8_guess_125 (by decide) ?_
                            refine lv_icmp_eq (tgt := 144) hx hb dX8_guess_127 (by decide) (fun c127 => ?_) (fun c127 => ?_)
                            · have hf := ifp c127 hf
                              exact h144 _ _ _ _ _ _ _ _ _ _ _ _ _ _ _ _ _ hf hP hD hS (lv_sub hl [1, 2, 3, 4, 5, 6, 8] rfl)
                            · have hf := ifn c127 hf
                              refine lv_aload_n hx hb dX8_guess_130 rfl (lv_at hl 1 rfl) ?_
                              refine va_get (D := D) (ci := 8) (v := .ref (o_t 28)) (C := RX8) (T := TX8) (N := 36) hx hb hts k1 hown hK hP 0 rfl rfl 27 (by decide) k6 (fun _ h9 => h9) rfl dX8_guess_131 ?_
                              refine lv_iload hx hb dX8_guess_134 (lv_at hl 0 rfl) ?_
                              obtain ⟨v136, b136, ev136, hf⟩ := rd_s hf
                              refine my_zald hx hb hK hP 12 rfl b136 ev136 dX8_guess_136 ?_
                              refine lv_if_eq (tgt := 144) hx hb dX8_guess_137 (by decide) (fun c137 => ?_) (fun c137 => ?_)
                              · have hf := ifp c137 hf
                                exact h144 _ _ _ _ _ _ _ _ _ _ _ _ _ _ _ _ _ hf hP hD hS (lv_sub hl [1, 2, 3, 4, 5, 6, 8] rfl)
                              · have hf := ifn c137 hf
                                exact h140 _ _ _ _ _ _ _ _ _ _ _ _ _ _ _ _ _ hf hP hD hS (lv_sub hl [1, 2, 3, 4, 5, 6, 8] rfl)
                    refine lv_aload_n hx hb dX8_guess_90 rfl (lv_at hl 0 rfl) ?_
                    refine va_get (D := D) (ci := 8) (v := .ref (o_t 28)) (C := RX8) (T := TX8) (N := 36) hx hb hts k1 hown hK hP 0 rfl rfl 27 (by decide) k6 (fun _ h9 => h9) rfl dX8_guess_91 ?_
                    refine lv_iload hx hb dX8_guess_94 (lv_at hl 5 rfl) ?_
                    obtain ⟨v96, b96, ev96, hf⟩ := rd_s hf
                    refine my_zald hx hb hK hP 12 rfl b96 ev96 dX8_guess_96 ?_
                    refine lv_istore (lv' := [(6, .int v96), (0, .ref (o_t 0)), (1, .int l1), (2, .int l2), (3, .int l3), (4, .int l4), (5, .int l5)]) hx hb dX8_guess_97 hl (by decide) rfl (fun ls hl => ?_)
                    refine lv_iconst (v := (1 : Int32)) hx hb dX8_guess_99 (by decide) ?_
                    refine lv_istore (lv' := [(7, .int (1 : Int32)), (6, .int v96), (0, .ref (o_t 0)), (1, .int l1), (2, .int l2), (3, .int l3), (4, .int l4), (5, .int l5)]) hx hb dX8_guess_100 hl (by decide) rfl (fun ls hl => ?_)
                    exact h102 FU _ _ _ _ _ _ _ _ _ _ _ _ _ _ _ _ _ _ hf hP hD hS (lv_sub hl [2, 3, 4, 5, 6, 7, 1, 0] rfl)
              refine lv_aload_n hx hb dX8_guess_53 rfl (lv_at hl 0 rfl) ?_
              refine lv_iconst (v := (4 : Int32)) hx hb dX8_guess_54 (by decide) ?_
              refine lv_iload hx hb dX8_guess_55 (lv_at hl 4 rfl) ?_
              refine lv_aload_n hx hb dX8_guess_57 rfl (lv_at hl 0 rfl) ?_
              refine va_get (D := D) (ci := 8) (v := .ref (o_t 8)) (C := RX8) (T := TX8) (N := 36) hx hb hts k1 hown hK hP 0 rfl rfl 7 (by decide) k0 (fun _ h9 => h9) rfl dX8_guess_58 ?_
              refine lv_sipush (v := (2400 : Int32)) hx hb dX8_guess_61 (by decide) ?_
              refine lv_aload_n hx hb dX8_guess_64 rfl (lv_at hl 0 rfl) ?_
              refine va_get (D := D) (ci := 8) (v := .ref (o_t 5)) (C := RX8) (T := TX8) (N := 36) hx hb hts k1 hown hK hP 0 rfl rfl 4 (by decide) k2 (fun _ h9 => h9) rfl dX8_guess_65 ?_
              refine lv_iconst (v := (4 : Int32)) hx hb dX8_guess_68 (by decide) ?_
              obtain ⟨v69, b69, ev69, hf⟩ := rd_s hf
              refine my_iald hx hb hK hP 4 rfl b69 ev69 dX8_guess_69 ?_
              obtain ⟨r70, hr70, hf⟩ := bd_s hf
              refine my_Vv (WS2 := (wd_X8_guess cy o_t x_thrown x_delay x_feel x_turn x_sight r70.1 x_w x_h x_n x_players x_wide x_tall x_hands x_power x_spin x_seed x_pressed x_leftFrom x_leftTo r70.2.1 r70.2.2 x_may x_then)) ⟨hx, hb, hml, hown, hts⟩ (c_X8_step l D cy t o_t (o_t 8) 3000 x_thrown x_delay x_feel x_turn x_sight x_ball x_w x_h x_n x_players x_spin x_seed x_leftFrom x_leftTo x_place x_points x_pressed (4 : Int32) l4 (2400 : Int32) v69 hr70) (cwV 5 hts gX8_guess_X8_step rfl rfl rfl ⟨rfl, hd_X8_step⟩ ⟨Nat.le_of_ble_eq_true rfl, Nat.le_of_ble_eq_true rfl⟩) hK hE hP hD hS hA [0, 5, 6, 8, 9, 10, 11, 7] 14 8 0 rfl rfl rfl rfl (by decide +kernel) rfl rfl hl.1 rfl (Nat.le_of_ble_eq_true rfl) dX8_guess_70 ⟨Nat.le_of_ble_eq_true rfl, Nat.le_of_ble_eq_true rfl⟩ (fun H locs hP hD hS => ?_)
              refine lv_iconst (v := (0 : Int32)) hx hb dX8_guess_73 (by decide) ?_
              refine lv_istore (lv' := [(5, .int (0 : Int32)), (0, .ref (o_t 0)), (1, .int l1), (2, .int l2), (3, .int l3), (4, .int l4)]) hx hb dX8_guess_74 hl (by decide) rfl (fun ls hl => ?_)
              exact h76 FU _ _ _ _ _ _ _ _ _ _ _ _ _ _ _ _ hf hP hD hS (lv_sub hl [1, 2, 3, 4, 5, 0] rfl)
        refine lv_iconst (v := (0 : Int32)) hx hb dX8_guess_44 (by decide) ?_
        refine lv_istore (lv' := [(4, .int (0 : Int32)), (0, .ref (o_t 0)), (1, .int l1), (2, .int l2), (3, .int l3)]) hx hb dX8_guess_45 hl (by decide) rfl (fun ls hl => ?_)
        exact h47 FU _ _ _ _ _ _ _ _ _ _ _ _ _ _ _ hf hP hD hS (lv_sub hl [1, 2, 3, 4, 0] rfl)
      refine lv_iload hx hb dX8_guess_8 (lv_at hl 4 rfl) ?_
      refine lv_bipush (v := (81 : Int32)) hx hb dX8_guess_10 (by decide) ?_
      refine lv_icmp_ge (tgt := 44) hx hb dX8_guess_12 (by decide) (fun c12 => ?_) (fun c12 => ?_)
      · have hf := ifp c12 hf
        exact h44 _ _ _ _ _ _ _ _ _ _ _ _ _ _ hf hP hD hS (lv_sub hl [0, 1, 2, 3] rfl)
      · have hf := ifn c12 hf
        have h37 : ∀ (x_ball : Int32) (x_w : Int32) (x_h : Int32) (x_n : Int32) (x_place : Nat → Int32) (x_points : Nat → Int32) (x_may : Nat → Int32) (x_then : Nat → Int32) (l1 : Int32) (l2 : Int32) (l3 : Int32) (l4 : Int32) (s1 : Int32) (s2 : Int32) (H : Heap) (locs : List Loc) (ls : Array Slot), X8_guess_J37 x_sight x_wide x_tall x_hands x_power x_spin x_seed x_pressed x_leftFrom x_leftTo (X8_guess_L8 x_sight x_wide x_tall x_hands x_power x_spin x_seed x_pressed x_leftFrom x_leftTo n8) x_ball x_w x_h x_n x_place x_points x_may x_then l1 l2 l3 l4 s1 s2 = some out → va_P D vwCl (wd_X8_guess cy o_t x_thrown x_delay x_feel x_turn x_sight x_ball x_w x_h x_n x_players x_wide x_tall x_hands x_power x_spin x_seed x_pressed x_leftFrom x_leftTo x_place x_points x_may x_then) H → va_D A (wd_X8_guess cy o_t x_thrown x_delay x_feel x_turn x_sight x_ball x_w x_h x_n x_players x_wide x_tall x_hands x_power x_spin x_seed x_pressed x_leftFrom x_leftTo x_place x_points x_may x_then) → va_S A s.heap H locs → lv_has ls 9 [(0, .ref (o_t 0)), (1, .int l1), (2, .int l2), (3, .int l3), (4, .int l4)] → W p l e (rmm 5 127) s m args below meth c H locs 0 0 Q (F0 m 37 ls [.int s2, .int s1, .ref (o_t 28)]) := by
          intro x_ball x_w x_h x_n x_place x_points x_may x_then l1 l2 l3 l4 s1 s2 H locs ls hf hP hD hS hl
          rw [X8_guess_J37] at hf
          obtain ⟨w37, b37, ew37, hf⟩ := wrZ_s hf
          refine my_zast (ws2 := (wd_X8_guess cy o_t x_thrown x_delay x_feel x_turn x_sight x_ball x_w x_h x_n x_players x_wide x_tall x_hands x_power x_spin x_seed x_pressed x_leftFrom x_leftTo x_place x_points w37 x_then)) hx hb hK hP hD hS 12 rfl b37 ew37 rfl dX8_guess_37 (fun H locs hP hD hS => ?_)
          obtain ⟨v38, ev38, hf⟩ := nm_s hf
          refine lv_iinc (v := v38) (lv' := [(4, .int v38), (0, .ref (o_t 0)), (1, .int l1), (2, .int l2), (3, .int l3)]) hx hb dX8_guess_38 hl (k := 4) rfl (by rw [ev38]; rfl) (by decide) rfl (fun ls hl => ?_)
          refine lv_goto (tgt := 8) hx hb dX8_guess_41 (by decide) ?_
          exact ih8 _ _ _ _ _ _ _ _ _ _ _ _ _ _ _ hf hP hD hS (lv_sub hl [1, 2, 3, 4, 0] rfl)
        refine lv_aload_n hx hb dX8_guess_15 rfl (lv_at hl 0 rfl) ?_
        refine va_get (D := D) (ci := 8) (v := .ref (o_t 28)) (C := RX8) (T := TX8) (N := 36) hx hb hts k1 hown hK hP 0 rfl rfl 27 (by decide) k6 (fun _ h9 => h9) rfl dX8_guess_16 ?_
        refine lv_iload hx hb dX8_guess_19 (lv_at hl 4 rfl) ?_
        refine lv_iload hx hb dX8_guess_21 (lv_at hl 4 rfl) ?_
        refine lv_aload_n hx hb dX8_guess_23 rfl (lv_at hl 0 rfl) ?_
        refine va_get (D := D) (ci := 8) (v := .ref (o_t 18)) (C := RX8) (T := TX8) (N := 36) hx hb hts k1 hown hK hP 0 rfl rfl 17 (by decide) k5 (fun _ h9 => h9) rfl dX8_guess_24 ?_
        refine lv_iload_n hx hb dX8_guess_27 rfl (lv_at hl 2 rfl) ?_
        obtain ⟨v28, b28, ev28, hf⟩ := rd_s hf
        refine my_iald hx hb hK hP 10 rfl b28 ev28 dX8_guess_28 ?_
        refine lv_icmp_ne (tgt := 36) hx hb dX8_guess_29 (by decide) (fun c29 => ?_) (fun c29 => ?_)
        · have hf := ifn c29 hf
          refine lv_iconst (v := (0 : Int32)) hx hb dX8_guess_36 (by decide) ?_
          exact h37 _ _ _ _ _ _ _ _ _ _ _ _ _ _ _ _ _ hf hP hD hS (lv_sub hl [0, 1, 2, 3, 4] rfl)
        · have hf := ifp c29 hf
          refine lv_iconst (v := (1 : Int32)) hx hb dX8_guess_32 (by decide) ?_
          refine lv_goto (tgt := 37) hx hb dX8_guess_33 (by decide) ?_
          exact h37 _ _ _ _ _ _ _ _ _ _ _ _ _ _ _ _ _ hf hP hD hS (lv_sub hl [0, 1, 2, 3, 4] rfl)
  refine lv_aload_n hx hb dX8_guess_0 rfl (lv_at hl 0 rfl) ?_
  refine lv_iconst (v := (4 : Int32)) hx hb dX8_guess_1 (by decide) ?_
  obtain ⟨r2, hr2, hf⟩ := bd_s hf
  refine my_Vv (WS2 := (wd_X8_guess cy o_t x_thrown x_delay x_feel x_turn x_sight r2.1 r2.2.1 r2.2.2.1 r2.2.2.2.1 x_players x_wide x_tall x_hands x_power x_spin x_seed x_pressed x_leftFrom x_leftTo r2.2.2.2.2.1 r2.2.2.2.2.2 x_may x_then)) ⟨hx, hb, hml, hown, hts⟩ (c_X8_start l D cy t o_t x_thrown x_delay x_feel x_turn x_sight x_ball x_w x_h x_n x_players x_wide x_tall x_hands x_place x_points (4 : Int32) hr2) (cwV 1 hts gX8_guess_X8_start rfl rfl rfl ⟨rfl, hd_X8_start⟩ ⟨Nat.le_of_ble_eq_true rfl, Nat.le_of_ble_eq_true rfl⟩) hK hE hP hD hS hA [0, 1, 2, 3, 10, 11] 14 8 0 rfl rfl rfl rfl (by decide +kernel) rfl rfl hl.1 rfl (Nat.le_of_ble_eq_true rfl) dX8_guess_2 ⟨Nat.le_of_ble_eq_true rfl, Nat.le_of_ble_eq_true rfl⟩ (fun H locs hP hD hS => ?_)
  refine lv_iconst (v := (0 : Int32)) hx hb dX8_guess_5 (by decide) ?_
  refine lv_istore (lv' := [(4, .int (0 : Int32)), (0, .ref (o_t 0)), (1, .int p1), (2, .int p2), (3, .int p3)]) hx hb dX8_guess_6 hl (by decide) rfl (fun ls hl => ?_)
  exact h8 FU _ _ _ _ _ _ _ _ _ _ _ _ _ _ _ hf hP hD hS (lv_sub hl [1, 2, 3, 4, 0] rfl)
theorem hd_X8_guess : yX8_guess.cls ≠ "java/lang/invoke/MethodHandle" ∧ yX8_guess.cls ≠ "java/lang/invoke/VarHandle" ∧ (parseMethodDescriptor yX8_guess.desc).map (fun d => d.parameters.length) = some 3 := by decide +kernel
set_option maxRecDepth 100000 in
theorem c_X8_guess (l : Launch) (D : va_G) (cy : Nat → ClassId) (t : Nat → Nat) (o_t : Nat → Nat) (x_thrown : Int32) (x_delay : Int32) (x_feel : Int32) (x_turn : Int32) (x_sight : Int32) (x_ball : Int32) (x_w : Int32) (x_h : Int32) (x_n : Int32) (x_players : Int32) (x_wide : Nat → Int32) (x_tall : Nat → Int32) (x_hands : Nat → Int32) (x_power : Nat → Int32) (x_spin : Nat → Int32) (x_seed : Nat → Int32) (x_pressed : Nat → Int32) (x_leftFrom : Nat → Int32) (x_leftTo : Nat → Int32) (x_place : Nat → Int32) (x_points : Nat → Int32) (x_may : Nat → Int32) (x_then : Nat → Int32) (p1 : Int32) (p2 : Int32) (p3 : Int32) {out : Int32 × Int32 × Int32 × Int32 × (Nat → Int32) × (Nat → Int32) × (Nat → Int32) × (Nat → Int32)} (hf : X8_guess x_sight x_wide x_tall x_hands x_power x_spin x_seed x_pressed x_leftFrom x_leftTo x_ball x_w x_h x_n x_place x_points x_may x_then p1 p2 p3 = some out) : ctV l yX8_guess wsX8_guess 5 127 D cy t [.ref (o_t 0), .int p1, .int p2, .int p3] (wd_X8_guess cy o_t x_thrown x_delay x_feel x_turn x_sight x_ball x_w x_h x_n x_players x_wide x_tall x_hands x_power x_spin x_seed x_pressed x_leftFrom x_leftTo x_place x_points x_may x_then) (wd_X8_guess cy o_t x_thrown x_delay x_feel x_turn x_sight out.1 out.2.1 out.2.2.1 out.2.2.2.1 x_players x_wide x_tall x_hands x_power x_spin x_seed x_pressed x_leftFrom x_leftTo out.2.2.2.2.1 out.2.2.2.2.2.1 out.2.2.2.2.2.2.1 out.2.2.2.2.2.2.2) := by
  refine ⟨rfl, ?_⟩
  intro sz
  refine Met.ofW (cc := cX8_guess) (maxL := 9) (ret := none) (by decide) rfl ?_
  intro p e s m args below meth c s₁ B hml hv
  obtain ⟨rfl, hsz, hP, hK, hD0, hE⟩ := hv
  have hts := atoms_spec (ws := wsX8_guess) B.pre
  have hown : s.vm.findClass RX8 = some m.cls := findClass_of_methodNamed B.named
  have hlocks := B.notSynchronized
  subst hsz
  have hD := hD0.self (sz := s.heap.size)
  have hl := lv_entry ([.ref (o_t 0), .int p1, .int p2, .int p3]) (n := 9) (Nat.le_of_ble_eq_true rfl)
  rw [lg_entry_eq]
  generalize (lg_sl ([.ref (o_t 0), .int p1, .int p2, .int p3]) ++ List.replicate (9 - (lg_sl ([.ref (o_t 0), .int p1, .int p2, .int p3])).length) Slot.unset).toArray = ls at hl ⊢
  exact w_X8_guess D cy t o_t x_thrown x_delay x_feel x_turn x_sight x_ball x_w x_h x_n x_players x_wide x_tall x_hands x_power x_spin x_seed x_pressed x_leftFrom x_leftTo x_place x_points x_may x_then p1 p2 p3 hf B.exec B.bytes hml hown hts hK hE (fun q h => Or.inr h) hP hD va_S.rf hl (fun H locs ls pc hP hD hS hdg => W.vret B.exec B.bytes B.returns (fun t ht hW => ⟨⟨(), rfl, trivial, ctB_of ht hP⟩, hS.F ht⟩) hS.2.2 hdg)

noncomputable def X8_could_J74 (x_sight : Int32) (x_wide : Nat → Int32) (x_tall : Nat → Int32) (x_hands : Nat → Int32) (x_power : Nat → Int32) (x_spin : Nat → Int32) (x_seed : Nat → Int32) (x_pressed : Nat → Int32) (x_leftFrom : Nat → Int32) (x_leftTo : Nat → Int32) (rec43 : Int32 → Int32 → Int32 → Int32 → Int32 → (Nat → Int32) → (Nat → Int32) → (Nat → Int32) → (Nat → Int32) → Int32 → Int32 → Option (Int32 × Int32 × Int32 × Int32 × Int32 × Int32 × (Nat → Int32) × (Nat → Int32) × (Nat → Int32) × (Nat → Int32))) (x_thrown : Int32) (x_ball : Int32) (x_w : Int32) (x_h : Int32) (x_n : Int32) (x_place : Nat → Int32) (x_points : Nat → Int32) (x_may : Nat → Int32) (x_then : Nat → Int32) (l5 : Int32) (s0 : Int32) (s1 : Int32) : Option (Int32 × Int32 × Int32 × Int32 × Int32 × Int32 × (Nat → Int32) × (Nat → Int32) × (Nat → Int32) × (Nat → Int32)) :=
  nm (s0 + s1) fun v75 => nm (l5 + (1 : Int32)) fun v77 => rec43 x_thrown x_ball x_w x_h x_n x_place x_points x_may x_then v75 v77
noncomputable def X8_could_L43_B (x_sight : Int32) (x_wide : Nat → Int32) (x_tall : Nat → Int32) (x_hands : Nat → Int32) (x_power : Nat → Int32) (x_spin : Nat → Int32) (x_seed : Nat → Int32) (x_pressed : Nat → Int32) (x_leftFrom : Nat → Int32) (x_leftTo : Nat → Int32) (rec43 : Int32 → Int32 → Int32 → Int32 → Int32 → (Nat → Int32) → (Nat → Int32) → (Nat → Int32) → (Nat → Int32) → Int32 → Int32 → Option (Int32 × Int32 × Int32 × Int32 × Int32 × Int32 × (Nat → Int32) × (Nat → Int32) × (Nat → Int32) × (Nat → Int32))) (x_thrown : Int32) (x_ball : Int32) (x_w : Int32) (x_h : Int32) (x_n : Int32) (x_place : Nat → Int32) (x_points : Nat → Int32) (x_may : Nat → Int32) (x_then : Nat → Int32) (l4 : Int32) (l5 : Int32) : Option (Int32 × Int32 × Int32 × Int32 × Int32 × Int32 × (Nat → Int32) × (Nat → Int32) × (Nat → Int32) × (Nat → Int32)) :=
  if (x_w * x_h) ≤ l5 then (some (l4, x_thrown, x_ball, x_w, x_h, x_n, x_place, x_points, x_may, x_then)) else (rd x_may 81 l5 fun v65 => if v65 = (0 : Int32) then (X8_could_J74 x_sight x_wide x_tall x_hands x_power x_spin x_seed x_pressed x_leftFrom x_leftTo rec43 x_thrown x_ball x_w x_h x_n x_place x_points x_may x_then l5 l4 (0 : Int32)) else (X8_could_J74 x_sight x_wide x_tall x_hands x_power x_spin x_seed x_pressed x_leftFrom x_leftTo rec43 x_thrown x_ball x_w x_h x_n x_place x_points x_may x_then l5 l4 (1 : Int32)))
noncomputable def X8_could_L43 (x_sight : Int32) (x_wide : Nat → Int32) (x_tall : Nat → Int32) (x_hands : Nat → Int32) (x_power : Nat → Int32) (x_spin : Nat → Int32) (x_seed : Nat → Int32) (x_pressed : Nat → Int32) (x_leftFrom : Nat → Int32) (x_leftTo : Nat → Int32) : Nat → Int32 → Int32 → Int32 → Int32 → Int32 → (Nat → Int32) → (Nat → Int32) → (Nat → Int32) → (Nat → Int32) → Int32 → Int32 → Option (Int32 × Int32 × Int32 × Int32 × Int32 × Int32 × (Nat → Int32) × (Nat → Int32) × (Nat → Int32) × (Nat → Int32))
  | 0, _, _, _, _, _, _, _, _, _, _, _ => none
  | n + 1, y0, y1, y2, y3, y4, y5, y6, y7, y8, y9, y10 => X8_could_L43_B x_sight x_wide x_tall x_hands x_power x_spin x_seed x_pressed x_leftFrom x_leftTo  (X8_could_L43 x_sight x_wide x_tall x_hands x_power x_spin x_seed x_pressed x_leftFrom x_leftTo  n) y0 y1 y2 y3 y4 y5 y6 y7 y8 y9 y10
noncomputable def X8_could (x_sight : Int32) (x_wide : Nat → Int32) (x_tall : Nat → Int32) (x_hands : Nat → Int32) (x_power : Nat → Int32) (x_spin : Nat → Int32) (x_seed : Nat → Int32) (x_pressed : Nat → Int32) (x_leftFrom : Nat → Int32) (x_leftTo : Nat → Int32) (x_thrown : Int32) (x_ball : Int32) (x_w : Int32) (x_h : Int32) (x_n : Int32) (x_place : Nat → Int32) (x_points : Nat → Int32) (x_may : Nat → Int32) (x_then : Nat → Int32) (p1 : Int32) (p2 : Int32) (p3 : Int32) : Option (Int32 × Int32 × Int32 × Int32 × Int32 × Int32 × (Nat → Int32) × (Nat → Int32) × (Nat → Int32) × (Nat → Int32)) :=
  bd (X8_noHand x_hands p1) fun r7 => if r7 = (0 : Int32) then (bd (X8_noHand x_hands p2) fun r15 => if r15 = (0 : Int32) then (bd (X8_noTick p3) fun r22 => if r22 = (0 : Int32) then (bd (X8_guess x_sight x_wide x_tall x_hands x_power x_spin x_seed x_pressed x_leftFrom x_leftTo x_ball x_w x_h x_n x_place x_points x_may x_then p1 p2 p3) fun r34 => X8_could_L43 x_sight x_wide x_tall x_hands x_power x_spin x_seed x_pressed x_leftFrom x_leftTo  FU (0 : Int32) r34.1 r34.2.1 r34.2.2.1 r34.2.2.2.1 r34.2.2.2.2.1 r34.2.2.2.2.2.1 r34.2.2.2.2.2.2.1 r34.2.2.2.2.2.2.2 (0 : Int32) (0 : Int32)) else (some ((-1 : Int32), (0 : Int32), x_ball, x_w, x_h, x_n, x_place, x_points, x_may, x_then))) else (some ((-1 : Int32), (0 : Int32), x_ball, x_w, x_h, x_n, x_place, x_points, x_may, x_then))) else (some ((-1 : Int32), (0 : Int32), x_ball, x_w, x_h, x_n, x_place, x_points, x_may, x_then))
abbrev wd_X8_could (cy : Nat → ClassId) (o_t : Nat → Nat) (x_thrown : Int32) (x_delay : Int32) (x_feel : Int32) (x_turn : Int32) (x_sight : Int32) (x_ball : Int32) (x_w : Int32) (x_h : Int32) (x_n : Int32) (x_players : Int32) (x_wide : Nat → Int32) (x_tall : Nat → Int32) (x_hands : Nat → Int32) (x_power : Nat → Int32) (x_spin : Nat → Int32) (x_seed : Nat → Int32) (x_pressed : Nat → Int32) (x_leftFrom : Nat → Int32) (x_leftTo : Nat → Int32) (x_place : Nat → Int32) (x_points : Nat → Int32) (x_may : Nat → Int32) (x_then : Nat → Int32) : va_W := [(o_t 0, .inr (8, [.int x_thrown, .ref (o_t 2), .ref (o_t 3), .ref (o_t 4), .ref (o_t 5), .ref (o_t 6), .ref (o_t 7), .ref (o_t 8), .ref (o_t 9), .ref (o_t 10), .ref (o_t 11), .int x_delay, .int x_feel, .int x_turn, .int x_sight, .ref (o_t 16), .ref (o_t 17), .ref (o_t 18), .ref (o_t 19), .int x_ball, .int x_w, .int x_h, .int x_n, .ref (o_t 24), .ref (o_t 25), .ref (o_t 26), .ref (o_t 27), .ref (o_t 28), .ref (o_t 29), .int x_players, .ref (o_t 31), .ref (o_t 32), .ref (o_t 33), .ref (o_t 34), .ref (o_t 35), .ref (o_t 36)])), (o_t 2, .inl (cy 0, 5, .inl x_wide)), (o_t 3, .inl (cy 0, 5, .inl x_tall)), (o_t 4, .inl (cy 0, 5, .inl x_hands)), (o_t 5, .inl (cy 0, 5, .inl x_power)), (o_t 6, .inl (cy 0, 5, .inl x_spin)), (o_t 7, .inl (cy 0, 5, .inl x_seed)), (o_t 8, .inl (cy 0, 3000, .inl x_pressed)), (o_t 9, .inl (cy 0, 30, .inl x_leftFrom)), (o_t 10, .inl (cy 0, 30, .inl x_leftTo)), (o_t 18, .inl (cy 0, 6, .inl x_place)), (o_t 19, .inl (cy 0, 6, .inl x_points)), (o_t 28, .inl (cy 1, 81, .inl x_may)), (o_t 29, .inl (cy 1, 81, .inl x_then))]
set_option maxHeartbeats 4000000 in
set_option maxRecDepth 100000 in
theorem w_X8_could {p : Program} {l : Launch} {e : Env} {s : State} {m : MethodId} {args : Array Value} {below : List Frame} {meth : Method} {c : Code} {Q : State → Prop} {A : Nat → Prop} {H : Heap} {locs : List Loc} {ls : Array Slot} (D : va_G) (cy : Nat → ClassId) (t : Nat → Nat) (o_t : Nat → Nat) (x_thrown : Int32) (x_delay : Int32) (x_feel : Int32) (x_turn : Int32) (x_sight : Int32) (x_ball : Int32) (x_w : Int32) (x_h : Int32) (x_n : Int32) (x_players : Int32) (x_wide : Nat → Int32) (x_tall : Nat → Int32) (x_hands : Nat → Int32) (x_power : Nat → Int32) (x_spin : Nat → Int32) (x_seed : Nat → Int32) (x_pressed : Nat → Int32) (x_leftFrom : Nat → Int32) (x_leftTo : Nat → Int32) (x_place : Nat → Int32) (x_points : Nat → Int32) (x_may : Nat → Int32) (x_then : Nat → Int32) (p1 : Int32) (p2 : Int32) (p3 : Int32) {out : Int32 × Int32 × Int32 × Int32 × Int32 × Int32 × (Nat → Int32) × (Nat → Int32) × (Nat → Int32) × (Nat → Int32)} (hf : X8_could x_sight x_wide x_tall x_hands x_power x_spin x_seed x_pressed x_leftFrom x_leftTo x_thrown x_ball x_w x_h x_n x_place x_points x_may x_then p1 p2 p3 = some out) (hx : p.tables.exec = Jvm.exec) (hb : c.code = cX8_could) (hml : c.maxLocals = 6) (hown : s.vm.findClass RX8 = some m.cls) (hts : ∀ w ∈ wsX8_could, w.before args s = true) (hK : va_K D vwCl (TYS cy) s) (hE : EV t A s s.heap) (hA : ∀ q, s.heap.size ≤ q → A q) (hP : va_P D vwCl (wd_X8_could cy o_t x_thrown x_delay x_feel x_turn x_sight x_ball x_w x_h x_n x_players x_wide x_tall x_hands x_power x_spin x_seed x_pressed x_leftFrom x_leftTo x_place x_points x_may x_then) H) (hD : va_D A (wd_X8_could cy o_t x_thrown x_delay x_feel x_turn x_sight x_ball x_w x_h x_n x_players x_wide x_tall x_hands x_power x_spin x_seed x_pressed x_leftFrom x_leftTo x_place x_points x_may x_then)) (hS : va_S A s.heap H locs) (hl : lv_has ls 6 [(0, .ref (o_t 0)), (1, .int p1), (2, .int p2), (3, .int p3)]) (hR : ∀ (H : Heap) (locs : List Loc) (ls : Array Slot) (pc : Nat), va_P D vwCl (wd_X8_could cy o_t out.2.1 x_delay x_feel x_turn x_sight out.2.2.1 out.2.2.2.1 out.2.2.2.2.1 out.2.2.2.2.2.1 x_players x_wide x_tall x_hands x_power x_spin x_seed x_pressed x_leftFrom x_leftTo out.2.2.2.2.2.2.1 out.2.2.2.2.2.2.2.1 out.2.2.2.2.2.2.2.2.1 out.2.2.2.2.2.2.2.2.2) H → va_D A (wd_X8_could cy o_t out.2.1 x_delay x_feel x_turn x_sight out.2.2.1 out.2.2.2.1 out.2.2.2.2.1 out.2.2.2.2.2.1 x_players x_wide x_tall x_hands x_power x_spin x_seed x_pressed x_leftFrom x_leftTo out.2.2.2.2.2.2.1 out.2.2.2.2.2.2.2.1 out.2.2.2.2.2.2.2.2.1 out.2.2.2.2.2.2.2.2.2) → va_S A s.heap H locs → decode cX8_could pc = .ok (.ireturn, 1) → W p l e (rmm 6 155) s m args below meth c H locs 0 0 Q (F0 m pc ls [.int out.1])) : W p l e (rmm 6 155) s m args below meth c H locs 0 0 Q (F0 m 0 ls []) := by
  have k0 := hts (.fieldLink RX8 100 "SeaGamesModel" "thrown" "I") (List.mem_cons_of_mem _ (List.mem_append_left _ (List.mem_append_left _ (List.mem_of_getElem? (i := 0) rfl))))
  have k1 : ∀ w ∈ u_ws RX8 TX8 36, w ∈ wsX8_could := fun _ h => List.mem_cons_of_mem _ (List.mem_append_right _ h)
  have k2 := hts (.fieldLink RX8 129 "SeaGamesModel" "w" "I") (List.mem_cons_of_mem _ (List.mem_append_left _ (List.mem_append_left _ (List.mem_of_getElem? (i := 1) rfl))))
  have k3 := hts (.fieldLink RX8 132 "SeaGamesModel" "h" "I") (List.mem_cons_of_mem _ (List.mem_append_left _ (List.mem_append_left _ (List.mem_of_getElem? (i := 2) rfl))))
  have k4 := hts (.fieldLink RX8 75 "SeaGamesModel" "may" "[Z") (List.mem_cons_of_mem _ (List.mem_append_left _ (List.mem_append_left _ (List.mem_of_getElem? (i := 3) rfl))))
  rw [X8_could] at hf
  refine lv_aload_n hx hb dX8_could_0 rfl (lv_at hl 0 rfl) ?_
  refine lv_iconst (v := (0 : Int32)) hx hb dX8_could_1 (by decide) ?_
  refine va_put (D := D) (ci := 8) (v := .int (0 : Int32)) (ty := .int) (C := RX8) (T := TX8) (N := 36) hx hb hts k1 tyX8 tyX8_ok nmX8 hown hK hP hD hS 0 rfl rfl 0 (by decide) k0 (fun _ h9 => h9) rfl (by decide +kernel) rfl rfl (Nat.le_of_ble_eq_true rfl) dX8_could_2 (fun H locs hP hD hS => ?_)
  have hP : va_P D vwCl (wd_X8_could cy o_t (0 : Int32) x_delay x_feel x_turn x_sight x_ball x_w x_h x_n x_players x_wide x_tall x_hands x_power x_spin x_seed x_pressed x_leftFrom x_leftTo x_place x_points x_may x_then) H := hP
  have hD : va_D A (wd_X8_could cy o_t (0 : Int32) x_delay x_feel x_turn x_sight x_ball x_w x_h x_n x_players x_wide x_tall x_hands x_power x_spin x_seed x_pressed x_leftFrom x_leftTo x_place x_points x_may x_then) := hD
  refine lv_aload_n hx hb dX8_could_5 rfl (lv_at hl 0 rfl) ?_
  refine lv_iload_n hx hb dX8_could_6 rfl (lv_at hl 1 rfl) ?_
  obtain ⟨r7, hr7, hf⟩ := bd_s hf
  refine my_Vi (WS2 := (wd_X8_could cy o_t (0 : Int32) x_delay x_feel x_turn x_sight x_ball x_w x_h x_n x_players x_wide x_tall x_hands x_power x_spin x_seed x_pressed x_leftFrom x_leftTo x_place x_points x_may x_then)) ⟨hx, hb, hml, hown, hts⟩ (c_X8_noHand l D cy t o_t (0 : Int32) x_delay x_feel x_turn x_sight x_ball x_w x_h x_n x_players x_hands p1 hr7) (cwV 1 hts gX8_could_X8_noHand rfl rfl rfl ⟨rfl, hd_X8_noHand⟩ ⟨Nat.le_of_ble_eq_true rfl, Nat.le_of_ble_eq_true rfl⟩) hK hE hP hD hS hA [0, 3] 14 8 0 rfl rfl rfl rfl (by decide +kernel) rfl rfl hl.1 rfl (Nat.le_of_ble_eq_true rfl) dX8_could_7 ⟨Nat.le_of_ble_eq_true rfl, Nat.le_of_ble_eq_true rfl⟩ (fun H locs hP hD hS => ?_)
  refine lv_if_ne (tgt := 28) hx hb dX8_could_10 (by decide) (fun c10 => ?_) (fun c10 => ?_)
  · have hf := ifn c10 hf
    refine lv_iconst (v := (-1 : Int32)) hx hb dX8_could_28 (by decide) ?_
    obtain rfl := Option.some.inj hf
    exact hR _ _ _ _ hP hD hS dX8_could_29
  · have hf := ifp c10 hf
    refine lv_aload_n hx hb dX8_could_13 rfl (lv_at hl 0 rfl) ?_
    refine lv_iload_n hx hb dX8_could_14 rfl (lv_at hl 2 rfl) ?_
    obtain ⟨r15, hr15, hf⟩ := bd_s hf
    refine my_Vi (WS2 := (wd_X8_could cy o_t (0 : Int32) x_delay x_feel x_turn x_sight x_ball x_w x_h x_n x_players x_wide x_tall x_hands x_power x_spin x_seed x_pressed x_leftFrom x_leftTo x_place x_points x_may x_then)) ⟨hx, hb, hml, hown, hts⟩ (c_X8_noHand l D cy t o_t (0 : Int32) x_delay x_feel x_turn x_sight x_ball x_w x_h x_n x_players x_hands p2 hr15) (cwV 1 hts gX8_could_X8_noHand rfl rfl rfl ⟨rfl, hd_X8_noHand⟩ ⟨Nat.le_of_ble_eq_true rfl, Nat.le_of_ble_eq_true rfl⟩) hK hE hP hD hS hA [0, 3] 14 8 0 rfl rfl rfl rfl (by decide +kernel) rfl rfl hl.1 rfl (Nat.le_of_ble_eq_true rfl) dX8_could_15 ⟨Nat.le_of_ble_eq_true rfl, Nat.le_of_ble_eq_true rfl⟩ (fun H locs hP hD hS => ?_)
    refine lv_if_ne (tgt := 28) hx hb dX8_could_18 (by decide) (fun c18 => ?_) (fun c18 => ?_)
    · have hf := ifn c18 hf
      refine lv_iconst (v := (-1 : Int32)) hx hb dX8_could_28 (by decide) ?_
      obtain rfl := Option.some.inj hf
      exact hR _ _ _ _ hP hD hS dX8_could_29
    · have hf := ifp c18 hf
      refine lv_iload_n hx hb dX8_could_21 rfl (lv_at hl 3 rfl) ?_
      obtain ⟨r22, hr22, hf⟩ := bd_s hf
      refine my_Si (WS2 := (wd_X8_could cy o_t (0 : Int32) x_delay x_feel x_turn x_sight x_ball x_w x_h x_n x_players x_wide x_tall x_hands x_power x_spin x_seed x_pressed x_leftFrom x_leftTo x_place x_points x_may x_then)) ⟨hx, hb, hml, hown, hts⟩ (c_X8_noTick l D cy t p3 hr22) (va_cwS 1 hts gX8_could_X8_noTick rfl rfl rfl hd_X8_noTick ⟨Nat.le_of_ble_eq_true rfl, Nat.le_of_ble_eq_true rfl⟩) hK hE hP hD hS hA [] 14 rfl rfl (by decide +kernel) rfl rfl hl.1 rfl (Nat.le_of_ble_eq_true rfl) dX8_could_22 ⟨Nat.le_of_ble_eq_true rfl, Nat.le_of_ble_eq_true rfl⟩ (fun H locs hP hD hS => ?_)
      refine lv_if_eq (tgt := 30) hx hb dX8_could_25 (by decide) (fun c25 => ?_) (fun c25 => ?_)
      · have hf := ifp c25 hf
        have h43 : ∀ (n43 : Nat) (x_thrown : Int32) (x_ball : Int32) (x_w : Int32) (x_h : Int32) (x_n : Int32) (x_place : Nat → Int32) (x_points : Nat → Int32) (x_may : Nat → Int32) (x_then : Nat → Int32) (l4 : Int32) (l5 : Int32) (H : Heap) (locs : List Loc) (ls : Array Slot), X8_could_L43 x_sight x_wide x_tall x_hands x_power x_spin x_seed x_pressed x_leftFrom x_leftTo n43 x_thrown x_ball x_w x_h x_n x_place x_points x_may x_then l4 l5 = some out → va_P D vwCl (wd_X8_could cy o_t x_thrown x_delay x_feel x_turn x_sight x_ball x_w x_h x_n x_players x_wide x_tall x_hands x_power x_spin x_seed x_pressed x_leftFrom x_leftTo x_place x_points x_may x_then) H → va_D A (wd_X8_could cy o_t x_thrown x_delay x_feel x_turn x_sight x_ball x_w x_h x_n x_players x_wide x_tall x_hands x_power x_spin x_seed x_pressed x_leftFrom x_leftTo x_place x_points x_may x_then) → va_S A s.heap H locs → lv_has ls 6 [(0, .ref (o_t 0)), (4, .int l4), (5, .int l5)] → W p l e (rmm 6 155) s m args below meth c H locs 0 0 Q (F0 m 43 ls []) := by
          intro n43
          induction n43 with
          | zero =>
            intro _ _ _ _ _ _ _ _ _ _ _ _ _ _ hf
            exact nomatch (show (none : Option _) = some out from hf)
          | succ n43 ih43 =>
            intro x_thrown x_ball x_w x_h x_n x_place x_points x_may x_then l4 l5 H locs ls hf hP hD hS hl
            have hf : X8_could_L43_B x_sight x_wide x_tall x_hands x_power x_spin x_seed x_pressed x_leftFrom x_leftTo (X8_could_L43 x_sight x_wide x_tall x_hands x_power x_spin x_seed x_pressed x_leftFrom x_leftTo n43) x_thrown x_ball x_w x_h x_n x_place x_points x_may x_then l4 l5 = some out := hf
            rw [X8_could_L43_B] at hf
            refine lv_iload hx hb dX8_could_43 (lv_at hl 2 rfl) ?_
            refine lv_aload_n hx hb dX8_could_45 rfl (lv_at hl 0 rfl) ?_
            refine va_get (D := D) (ci := 8) (v := .int x_w) (C := RX8) (T := TX8) (N := 36) hx hb hts k1 hown hK hP 0 rfl rfl 20 (by decide) k2 (fun _ h9 => h9) rfl dX8_could_46 ?_
            refine lv_aload_n hx hb dX8_could_49 rfl (lv_at hl 0 rfl) ?_
            refine va_get (D := D) (ci := 8) (v := .int x_h) (C := RX8) (T := TX8) (N := 36) hx hb hts k1 hown hK hP 0 rfl rfl 21 (by decide) k3 (fun _ h9 => h9) rfl dX8_could_50 ?_
            refine lv_imul hx hb dX8_could_53 ?_
            refine lv_icmp_ge (tgt := 83) hx hb dX8_could_54 (by decide) (fun c54 => ?_) (fun c54 => ?_)
            · have hf := ifp c54 hf
              refine lv_iload hx hb dX8_could_83 (lv_at hl 1 rfl) ?_
              obtain rfl := Option.some.inj hf
              exact hR _ _ _ _ hP hD hS dX8_could_85
            · have hf := ifn c54 hf
              have h74 : ∀ (x_thrown : Int32) (x_ball : Int32) (x_w : Int32) (x_h : Int32) (x_n : Int32) (x_place : Nat → Int32) (x_points : Nat → Int32) (x_may : Nat → Int32) (x_then : Nat → Int32) (l5 : Int32) (s0 : Int32) (s1 : Int32) (H : Heap) (locs : List Loc) (ls : Array Slot), X8_could_J74 x_sight x_wide x_tall x_hands x_power x_spin x_seed x_pressed x_leftFrom x_leftTo (X8_could_L43 x_sight x_wide x_tall x_hands x_power x_spin x_seed x_pressed x_leftFrom x_leftTo n43) x_thrown x_ball x_w x_h x_n x_place x_points x_may x_then l5 s0 s1 = some out → va_P D vwCl (wd_X8_could cy o_t x_thrown x_delay x_feel x_turn x_sight x_ball x_w x_h x_n x_players x_wide x_tall x_hands x_power x_spin x_seed x_pressed x_leftFrom x_leftTo x_place x_points x_may x_then) H → va_D A (wd_X8_could cy o_t x_thrown x_delay x_feel x_turn x_sight x_ball x_w x_h x_n x_players x_wide x_tall x_hands x_power x_spin x_seed x_pressed x_leftFrom x_leftTo x_place x_points x_may x_then) → va_S A s.heap H locs → lv_has ls 6 [(0, .ref (o_t 0)), (5, .int l5)] → W p l e (rmm 6 155) s m args below meth c H locs 0 0 Q (F0 m 74 ls [.int s1, .int s0]) := by
                intro x_thrown x_ball x_w x_h x_n x_place x_points x_may x_then l5 s0 s1 H locs ls hf hP hD hS hl
                rw [X8_could_J74] at hf
                refine lv_iadd hx hb dX8_could_74 ?_
                obtain ⟨v75, ev75, hf⟩ := nm_s hf
                refine my_topi ev75 ?_
                refine lv_istore (lv' := [(4, .int v75), (0, .ref (o_t 0)), (5, .int l5)]) hx hb dX8_could_75 hl (by decide) rfl (fun ls hl => ?_)
                obtain ⟨v77, ev77, hf⟩ := nm_s hf
                refine lv_iinc (v := v77) (lv' := [(5, .int v77), (4, .int v75), (0, .ref (o_t 0))]) hx hb dX8_could_77 hl (k := 2) rfl (by rw [ev77]; rfl) (by decide) rfl (fun ls hl => ?_)
                refine lv_goto (tgt := 43) hx hb dX8_could_80 (by decide) ?_
                exact ih43 _ _ _ _ _ _ _ _ _ _ _ _ _ _ hf hP hD hS (lv_sub hl [2, 1, 0] rfl)
              refine lv_iload hx hb dX8_could_57 (lv_at hl 1 rfl) ?_
              refine lv_aload_n hx hb dX8_could_59 rfl (lv_at hl 0 rfl) ?_
              refine va_get (D := D) (ci := 8) (v := .ref (o_t 28)) (C := RX8) (T := TX8) (N := 36) hx hb hts k1 hown hK hP 0 rfl rfl 27 (by decide) k4 (fun _ h9 => h9) rfl dX8_could_60 ?_
              refine lv_iload hx hb dX8_could_63 (lv_at hl 2 rfl) ?_
              obtain ⟨v65, b65, ev65, hf⟩ := rd_s hf
              refine my_zald hx hb hK hP 12 rfl b65 ev65 dX8_could_65 ?_
              refine lv_if_eq (tgt := 73) hx hb dX8_could_66 (by decide) (fun c66 => ?_) (fun c66 => ?_)
              · have hf := ifp c66 hf
                refine lv_iconst (v := (0 : Int32)) hx hb dX8_could_73 (by decide) ?_
                exact h74 _ _ _ _ _ _ _ _ _ _ _ _ _ _ _ hf hP hD hS (lv_sub hl [0, 2] rfl)
              · have hf := ifn c66 hf
                refine lv_iconst (v := (1 : Int32)) hx hb dX8_could_69 (by decide) ?_
                refine lv_goto (tgt := 74) hx hb dX8_could_70 (by decide) ?_
                exact h74 _ _ _ _ _ _ _ _ _ _ _ _ _ _ _ hf hP hD hS (lv_sub hl [0, 2] rfl)
        refine lv_aload_n hx hb dX8_could_30 rfl (lv_at hl 0 rfl) ?_
        refine lv_iload_n hx hb dX8_could_31 rfl (lv_at hl 1 rfl) ?_
        refine lv_iload_n hx hb dX8_could_32 rfl (lv_at hl 2 rfl) ?_
        refine lv_iload_n hx hb dX8_could_33 rfl (lv_at hl 3 rfl) ?_
        obtain ⟨r34, hr34, hf⟩ := bd_s hf
        refine my_Vv (WS2 := (wd_X8_could cy o_t (0 : Int32) x_delay x_feel x_turn x_sight r34.1 r34.2.1 r34.2.2.1 r34.2.2.2.1 x_players x_wide x_tall x_hands x_power x_spin x_seed x_pressed x_leftFrom x_leftTo r34.2.2.2.2.1 r34.2.2.2.2.2.1 r34.2.2.2.2.2.2.1 r34.2.2.2.2.2.2.2)) ⟨hx, hb, hml, hown, hts⟩ (c_X8_guess l D cy t o_t (0 : Int32) x_delay x_feel x_turn x_sight x_ball x_w x_h x_n x_players x_wide x_tall x_hands x_power x_spin x_seed x_pressed x_leftFrom x_leftTo x_place x_points x_may x_then p1 p2 p3 hr34) (cwV 3 hts gX8_could_X8_guess rfl rfl rfl ⟨rfl, hd_X8_guess⟩ ⟨Nat.le_of_ble_eq_true rfl, Nat.le_of_ble_eq_true rfl⟩) hK hE hP hD hS hA [0, 1, 2, 3, 4, 5, 6, 7, 8, 9, 10, 11, 12, 13] 14 8 0 rfl rfl rfl rfl (by decide +kernel) rfl rfl hl.1 rfl (Nat.le_of_ble_eq_true rfl) dX8_could_34 ⟨Nat.le_of_ble_eq_true rfl, Nat.le_of_ble_eq_true rfl⟩ (fun H locs hP hD hS => ?_)
        refine lv_iconst (v := (0 : Int32)) hx hb dX8_could_37 (by decide) ?_
        refine lv_istore (lv' := [(4, .int (0 : Int32)), (0, .ref (o_t 0)), (1, .int p1), (2, .int p2), (3, .int p3)]) hx hb dX8_could_38 hl (by decide) rfl (fun ls hl => ?_)
        refine lv_iconst (v := (0 : Int32)) hx hb dX8_could_40 (by decide) ?_
        refine lv_istore (lv' := [(5, .int (0 : Int32)), (4, .int (0 : Int32)), (0, .ref (o_t 0)), (1, .int p1), (2, .int p2), (3, .int p3)]) hx hb dX8_could_41 hl (by decide) rfl (fun ls hl => ?_)
        exact h43 FU _ _ _ _ _ _ _ _ _ _ _ _ _ _ hf hP hD hS (lv_sub hl [2, 1, 0] rfl)
      · have hf := ifn c25 hf
        refine lv_iconst (v := (-1 : Int32)) hx hb dX8_could_28 (by decide) ?_
        obtain rfl := Option.some.inj hf
        exact hR _ _ _ _ hP hD hS dX8_could_29
theorem hd_X8_could : yX8_could.cls ≠ "java/lang/invoke/MethodHandle" ∧ yX8_could.cls ≠ "java/lang/invoke/VarHandle" ∧ (parseMethodDescriptor yX8_could.desc).map (fun d => d.parameters.length) = some 3 := by decide +kernel
set_option maxRecDepth 100000 in
theorem c_X8_could (l : Launch) (D : va_G) (cy : Nat → ClassId) (t : Nat → Nat) (o_t : Nat → Nat) (x_thrown : Int32) (x_delay : Int32) (x_feel : Int32) (x_turn : Int32) (x_sight : Int32) (x_ball : Int32) (x_w : Int32) (x_h : Int32) (x_n : Int32) (x_players : Int32) (x_wide : Nat → Int32) (x_tall : Nat → Int32) (x_hands : Nat → Int32) (x_power : Nat → Int32) (x_spin : Nat → Int32) (x_seed : Nat → Int32) (x_pressed : Nat → Int32) (x_leftFrom : Nat → Int32) (x_leftTo : Nat → Int32) (x_place : Nat → Int32) (x_points : Nat → Int32) (x_may : Nat → Int32) (x_then : Nat → Int32) (p1 : Int32) (p2 : Int32) (p3 : Int32) {out : Int32 × Int32 × Int32 × Int32 × Int32 × Int32 × (Nat → Int32) × (Nat → Int32) × (Nat → Int32) × (Nat → Int32)} (hf : X8_could x_sight x_wide x_tall x_hands x_power x_spin x_seed x_pressed x_leftFrom x_leftTo x_thrown x_ball x_w x_h x_n x_place x_points x_may x_then p1 p2 p3 = some out) : ctI l yX8_could wsX8_could 6 155 D cy t [.ref (o_t 0), .int p1, .int p2, .int p3] (wd_X8_could cy o_t x_thrown x_delay x_feel x_turn x_sight x_ball x_w x_h x_n x_players x_wide x_tall x_hands x_power x_spin x_seed x_pressed x_leftFrom x_leftTo x_place x_points x_may x_then) (wd_X8_could cy o_t out.2.1 x_delay x_feel x_turn x_sight out.2.2.1 out.2.2.2.1 out.2.2.2.2.1 out.2.2.2.2.2.1 x_players x_wide x_tall x_hands x_power x_spin x_seed x_pressed x_leftFrom x_leftTo out.2.2.2.2.2.2.1 out.2.2.2.2.2.2.2.1 out.2.2.2.2.2.2.2.2.1 out.2.2.2.2.2.2.2.2.2) out.1 := by
  refine ⟨rfl, ?_⟩
  intro sz
  refine Met.ofW (cc := cX8_could) (maxL := 6) (ret := (some .int)) (by decide) rfl ?_
  intro p e s m args below meth c s₁ B hml hv
  obtain ⟨rfl, hsz, hP, hK, hD0, hE⟩ := hv
  have hts := atoms_spec (ws := wsX8_could) B.pre
  have hown : s.vm.findClass RX8 = some m.cls := findClass_of_methodNamed B.named
  have hlocks := B.notSynchronized
  subst hsz
  have hD := hD0.self (sz := s.heap.size)
  have hl := lv_entry ([.ref (o_t 0), .int p1, .int p2, .int p3]) (n := 6) (Nat.le_of_ble_eq_true rfl)
  rw [lg_entry_eq]
  generalize (lg_sl ([.ref (o_t 0), .int p1, .int p2, .int p3]) ++ List.replicate (6 - (lg_sl ([.ref (o_t 0), .int p1, .int p2, .int p3])).length) Slot.unset).toArray = ls at hl ⊢
  exact w_X8_could D cy t o_t x_thrown x_delay x_feel x_turn x_sight x_ball x_w x_h x_n x_players x_wide x_tall x_hands x_power x_spin x_seed x_pressed x_leftFrom x_leftTo x_place x_points x_may x_then p1 p2 p3 hf B.exec B.bytes hml hown hts hK hE (fun q h => Or.inr h) hP hD va_S.rf hl (fun H locs ls pc hP hD hS hdg => W.iret B.exec B.bytes B.returns (fun t ht hW => ⟨⟨_, (), rfl, rfl, ctB_of ht hP⟩, hS.F ht⟩) hS.2.2 hdg)

noncomputable def X8_couldBe (x_sight : Int32) (x_wide : Nat → Int32) (x_tall : Nat → Int32) (x_hands : Nat → Int32) (x_power : Nat → Int32) (x_spin : Nat → Int32) (x_seed : Nat → Int32) (x_pressed : Nat → Int32) (x_leftFrom : Nat → Int32) (x_leftTo : Nat → Int32) (x_thrown : Int32) (x_ball : Int32) (x_w : Int32) (x_h : Int32) (x_n : Int32) (x_place : Nat → Int32) (x_points : Nat → Int32) (x_may : Nat → Int32) (x_then : Nat → Int32) (p1 : Int32) (p2 : Int32) (p3 : Int32) (p4 : Int32) : Option (Int32 × Int32 × Int32 × Int32 × Int32 × Int32 × (Nat → Int32) × (Nat → Int32) × (Nat → Int32) × (Nat → Int32)) :=
  bd (X8_noHand x_hands p1) fun r7 => if r7 = (0 : Int32) then (bd (X8_noHand x_hands p2) fun r15 => if r15 = (0 : Int32) then (bd (X8_noTick p3) fun r22 => if r22 = (0 : Int32) then (rd x_wide 5 (4 : Int32) fun v37 => rd x_tall 5 (4 : Int32) fun v43 => bd (X8_in (Int32.toInt64 p4) (0 : Int64) (Int32.toInt64 ((v37 * v43) - (1 : Int32)))) fun r48 => if r48 = (0 : Int32) then (some ((-1 : Int32), (0 : Int32), x_ball, x_w, x_h, x_n, x_place, x_points, x_may, x_then)) else (bd (X8_guess x_sight x_wide x_tall x_hands x_power x_spin x_seed x_pressed x_leftFrom x_leftTo x_ball x_w x_h x_n x_place x_points x_may x_then p1 p2 p3) fun r60 => rd r60.2.2.2.2.2.2.1 81 p4 fun v69 => if v69 = (0 : Int32) then (some ((0 : Int32), (0 : Int32), r60.1, r60.2.1, r60.2.2.1, r60.2.2.2.1, r60.2.2.2.2.1, r60.2.2.2.2.2.1, r60.2.2.2.2.2.2.1, r60.2.2.2.2.2.2.2)) else (some ((1 : Int32), (0 : Int32), r60.1, r60.2.1, r60.2.2.1, r60.2.2.2.1, r60.2.2.2.2.1, r60.2.2.2.2.2.1, r60.2.2.2.2.2.2.1, r60.2.2.2.2.2.2.2)))) else (some ((-1 : Int32), (0 : Int32), x_ball, x_w, x_h, x_n, x_place, x_points, x_may, x_then))) else (some ((-1 : Int32), (0 : Int32), x_ball, x_w, x_h, x_n, x_place, x_points, x_may, x_then))) else (some ((-1 : Int32), (0 : Int32), x_ball, x_w, x_h, x_n, x_place, x_points, x_may, x_then))
abbrev wd_X8_couldBe (cy : Nat → ClassId) (o_t : Nat → Nat) (x_thrown : Int32) (x_delay : Int32) (x_feel : Int32) (x_turn : Int32) (x_sight : Int32) (x_ball : Int32) (x_w : Int32) (x_h : Int32) (x_n : Int32) (x_players : Int32) (x_wide : Nat → Int32) (x_tall : Nat → Int32) (x_hands : Nat → Int32) (x_power : Nat → Int32) (x_spin : Nat → Int32) (x_seed : Nat → Int32) (x_pressed : Nat → Int32) (x_leftFrom : Nat → Int32) (x_leftTo : Nat → Int32) (x_place : Nat → Int32) (x_points : Nat → Int32) (x_may : Nat → Int32) (x_then : Nat → Int32) : va_W := [(o_t 0, .inr (8, [.int x_thrown, .ref (o_t 2), .ref (o_t 3), .ref (o_t 4), .ref (o_t 5), .ref (o_t 6), .ref (o_t 7), .ref (o_t 8), .ref (o_t 9), .ref (o_t 10), .ref (o_t 11), .int x_delay, .int x_feel, .int x_turn, .int x_sight, .ref (o_t 16), .ref (o_t 17), .ref (o_t 18), .ref (o_t 19), .int x_ball, .int x_w, .int x_h, .int x_n, .ref (o_t 24), .ref (o_t 25), .ref (o_t 26), .ref (o_t 27), .ref (o_t 28), .ref (o_t 29), .int x_players, .ref (o_t 31), .ref (o_t 32), .ref (o_t 33), .ref (o_t 34), .ref (o_t 35), .ref (o_t 36)])), (o_t 2, .inl (cy 0, 5, .inl x_wide)), (o_t 3, .inl (cy 0, 5, .inl x_tall)), (o_t 4, .inl (cy 0, 5, .inl x_hands)), (o_t 5, .inl (cy 0, 5, .inl x_power)), (o_t 6, .inl (cy 0, 5, .inl x_spin)), (o_t 7, .inl (cy 0, 5, .inl x_seed)), (o_t 8, .inl (cy 0, 3000, .inl x_pressed)), (o_t 9, .inl (cy 0, 30, .inl x_leftFrom)), (o_t 10, .inl (cy 0, 30, .inl x_leftTo)), (o_t 18, .inl (cy 0, 6, .inl x_place)), (o_t 19, .inl (cy 0, 6, .inl x_points)), (o_t 28, .inl (cy 1, 81, .inl x_may)), (o_t 29, .inl (cy 1, 81, .inl x_then))]
set_option maxHeartbeats 4000000 in
set_option maxRecDepth 100000 in
theorem w_X8_couldBe {p : Program} {l : Launch} {e : Env} {s : State} {m : MethodId} {args : Array Value} {below : List Frame} {meth : Method} {c : Code} {Q : State → Prop} {A : Nat → Prop} {H : Heap} {locs : List Loc} {ls : Array Slot} (D : va_G) (cy : Nat → ClassId) (t : Nat → Nat) (o_t : Nat → Nat) (x_thrown : Int32) (x_delay : Int32) (x_feel : Int32) (x_turn : Int32) (x_sight : Int32) (x_ball : Int32) (x_w : Int32) (x_h : Int32) (x_n : Int32) (x_players : Int32) (x_wide : Nat → Int32) (x_tall : Nat → Int32) (x_hands : Nat → Int32) (x_power : Nat → Int32) (x_spin : Nat → Int32) (x_seed : Nat → Int32) (x_pressed : Nat → Int32) (x_leftFrom : Nat → Int32) (x_leftTo : Nat → Int32) (x_place : Nat → Int32) (x_points : Nat → Int32) (x_may : Nat → Int32) (x_then : Nat → Int32) (p1 : Int32) (p2 : Int32) (p3 : Int32) (p4 : Int32) {out : Int32 × Int32 × Int32 × Int32 × Int32 × Int32 × (Nat → Int32) × (Nat → Int32) × (Nat → Int32) × (Nat → Int32)} (hf : X8_couldBe x_sight x_wide x_tall x_hands x_power x_spin x_seed x_pressed x_leftFrom x_leftTo x_thrown x_ball x_w x_h x_n x_place x_points x_may x_then p1 p2 p3 p4 = some out) (hx : p.tables.exec = Jvm.exec) (hb : c.code = cX8_couldBe) (hml : c.maxLocals = 5) (hown : s.vm.findClass RX8 = some m.cls) (hts : ∀ w ∈ wsX8_couldBe, w.before args s = true) (hK : va_K D vwCl (TYS cy) s) (hE : EV t A s s.heap) (hA : ∀ q, s.heap.size ≤ q → A q) (hP : va_P D vwCl (wd_X8_couldBe cy o_t x_thrown x_delay x_feel x_turn x_sight x_ball x_w x_h x_n x_players x_wide x_tall x_hands x_power x_spin x_seed x_pressed x_leftFrom x_leftTo x_place x_points x_may x_then) H) (hD : va_D A (wd_X8_couldBe cy o_t x_thrown x_delay x_feel x_turn x_sight x_ball x_w x_h x_n x_players x_wide x_tall x_hands x_power x_spin x_seed x_pressed x_leftFrom x_leftTo x_place x_points x_may x_then)) (hS : va_S A s.heap H locs) (hl : lv_has ls 5 [(0, .ref (o_t 0)), (1, .int p1), (2, .int p2), (3, .int p3), (4, .int p4)]) (hR : ∀ (H : Heap) (locs : List Loc) (ls : Array Slot) (pc : Nat), va_P D vwCl (wd_X8_couldBe cy o_t out.2.1 x_delay x_feel x_turn x_sight out.2.2.1 out.2.2.2.1 out.2.2.2.2.1 out.2.2.2.2.2.1 x_players x_wide x_tall x_hands x_power x_spin x_seed x_pressed x_leftFrom x_leftTo out.2.2.2.2.2.2.1 out.2.2.2.2.2.2.2.1 out.2.2.2.2.2.2.2.2.1 out.2.2.2.2.2.2.2.2.2) H → va_D A (wd_X8_couldBe cy o_t out.2.1 x_delay x_feel x_turn x_sight out.2.2.1 out.2.2.2.1 out.2.2.2.2.1 out.2.2.2.2.2.1 x_players x_wide x_tall x_hands x_power x_spin x_seed x_pressed x_leftFrom x_leftTo out.2.2.2.2.2.2.1 out.2.2.2.2.2.2.2.1 out.2.2.2.2.2.2.2.2.1 out.2.2.2.2.2.2.2.2.2) → va_S A s.heap H locs → decode cX8_couldBe pc = .ok (.ireturn, 1) → W p l e (rmm 6 155) s m args below meth c H locs 0 0 Q (F0 m pc ls [.int out.1])) : W p l e (rmm 6 155) s m args below meth c H locs 0 0 Q (F0 m 0 ls []) := by
  have k0 := hts (.fieldLink RX8 100 "SeaGamesModel" "thrown" "I") (List.mem_cons_of_mem _ (List.mem_append_left _ (List.mem_append_left _ (List.mem_of_getElem? (i := 0) rfl))))
  have k1 : ∀ w ∈ u_ws RX8 TX8 36, w ∈ wsX8_couldBe := fun _ h => List.mem_cons_of_mem _ (List.mem_append_right _ h)
  have k2 := hts (.fieldLink RX8 7 "SeaGamesModel" "wide" "[I") (List.mem_cons_of_mem _ (List.mem_append_left _ (List.mem_append_left _ (List.mem_of_getElem? (i := 1) rfl))))
  have k3 := hts (.fieldLink RX8 13 "SeaGamesModel" "tall" "[I") (List.mem_cons_of_mem _ (List.mem_append_left _ (List.mem_append_left _ (List.mem_of_getElem? (i := 2) rfl))))
  have k4 := hts (.fieldLink RX8 75 "SeaGamesModel" "may" "[Z") (List.mem_cons_of_mem _ (List.mem_append_left _ (List.mem_append_left _ (List.mem_of_getElem? (i := 3) rfl))))
  rw [X8_couldBe] at hf
  refine lv_aload_n hx hb dX8_couldBe_0 rfl (lv_at hl 0 rfl) ?_
  refine lv_iconst (v := (0 : Int32)) hx hb dX8_couldBe_1 (by decide) ?_
  refine va_put (D := D) (ci := 8) (v := .int (0 : Int32)) (ty := .int) (C := RX8) (T := TX8) (N := 36) hx hb hts k1 tyX8 tyX8_ok nmX8 hown hK hP hD hS 0 rfl rfl 0 (by decide) k0 (fun _ h9 => h9) rfl (by decide +kernel) rfl rfl (Nat.le_of_ble_eq_true rfl) dX8_couldBe_2 (fun H locs hP hD hS => ?_)
  have hP : va_P D vwCl (wd_X8_couldBe cy o_t (0 : Int32) x_delay x_feel x_turn x_sight x_ball x_w x_h x_n x_players x_wide x_tall x_hands x_power x_spin x_seed x_pressed x_leftFrom x_leftTo x_place x_points x_may x_then) H := hP
  have hD : va_D A (wd_X8_couldBe cy o_t (0 : Int32) x_delay x_feel x_turn x_sight x_ball x_w x_h x_n x_players x_wide x_tall x_hands x_power x_spin x_seed x_pressed x_leftFrom x_leftTo x_place x_points x_may x_then) := hD
  refine lv_aload_n hx hb dX8_couldBe_5 rfl (lv_at hl 0 rfl) ?_
  refine lv_iload_n hx hb dX8_couldBe_6 rfl (lv_at hl 1 rfl) ?_
  obtain ⟨r7, hr7, hf⟩ := bd_s hf
  refine my_Vi (WS2 := (wd_X8_couldBe cy o_t (0 : Int32) x_delay x_feel x_turn x_sight x_ball x_w x_h x_n x_players x_wide x_tall x_hands x_power x_spin x_seed x_pressed x_leftFrom x_leftTo x_place x_points x_may x_then)) ⟨hx, hb, hml, hown, hts⟩ (c_X8_noHand l D cy t o_t (0 : Int32) x_delay x_feel x_turn x_sight x_ball x_w x_h x_n x_players x_hands p1 hr7) (cwV 1 hts gX8_couldBe_X8_noHand rfl rfl rfl ⟨rfl, hd_X8_noHand⟩ ⟨Nat.le_of_ble_eq_true rfl, Nat.le_of_ble_eq_true rfl⟩) hK hE hP hD hS hA [0, 3] 14 8 0 rfl rfl rfl rfl (by decide +kernel) rfl rfl hl.1 rfl (Nat.le_of_ble_eq_true rfl) dX8_couldBe_7 ⟨Nat.le_of_ble_eq_true rfl, Nat.le_of_ble_eq_true rfl⟩ (fun H locs hP hD hS => ?_)
  refine lv_if_ne (tgt := 54) hx hb dX8_couldBe_10 (by decide) (fun c10 => ?_) (fun c10 => ?_)
  · have hf := ifn c10 hf
    refine lv_iconst (v := (-1 : Int32)) hx hb dX8_couldBe_54 (by decide) ?_
    obtain rfl := Option.some.inj hf
    exact hR _ _ _ _ hP hD hS dX8_couldBe_55
  · have hf := ifp c10 hf
    refine lv_aload_n hx hb dX8_couldBe_13 rfl (lv_at hl 0 rfl) ?_
    refine lv_iload_n hx hb dX8_couldBe_14 rfl (lv_at hl 2 rfl) ?_
    obtain ⟨r15, hr15, hf⟩ := bd_s hf
    refine my_Vi (WS2 := (wd_X8_couldBe cy o_t (0 : Int32) x_delay x_feel x_turn x_sight x_ball x_w x_h x_n x_players x_wide x_tall x_hands x_power x_spin x_seed x_pressed x_leftFrom x_leftTo x_place x_points x_may x_then)) ⟨hx, hb, hml, hown, hts⟩ (c_X8_noHand l D cy t o_t (0 : Int32) x_delay x_feel x_turn x_sight x_ball x_w x_h x_n x_players x_hands p2 hr15) (cwV 1 hts gX8_couldBe_X8_noHand rfl rfl rfl ⟨rfl, hd_X8_noHand⟩ ⟨Nat.le_of_ble_eq_true rfl, Nat.le_of_ble_eq_true rfl⟩) hK hE hP hD hS hA [0, 3] 14 8 0 rfl rfl rfl rfl (by decide +kernel) rfl rfl hl.1 rfl (Nat.le_of_ble_eq_true rfl) dX8_couldBe_15 ⟨Nat.le_of_ble_eq_true rfl, Nat.le_of_ble_eq_true rfl⟩ (fun H locs hP hD hS => ?_)
    refine lv_if_ne (tgt := 54) hx hb dX8_couldBe_18 (by decide) (fun c18 => ?_) (fun c18 => ?_)
    · have hf := ifn c18 hf
      refine lv_iconst (v := (-1 : Int32)) hx hb dX8_couldBe_54 (by decide) ?_
      obtain rfl := Option.some.inj hf
      exact hR _ _ _ _ hP hD hS dX8_couldBe_55
    · have hf := ifp c18 hf
      refine lv_iload_n hx hb dX8_couldBe_21 rfl (lv_at hl 3 rfl) ?_
      obtain ⟨r22, hr22, hf⟩ := bd_s hf
      refine my_Si (WS2 := (wd_X8_couldBe cy o_t (0 : Int32) x_delay x_feel x_turn x_sight x_ball x_w x_h x_n x_players x_wide x_tall x_hands x_power x_spin x_seed x_pressed x_leftFrom x_leftTo x_place x_points x_may x_then)) ⟨hx, hb, hml, hown, hts⟩ (c_X8_noTick l D cy t p3 hr22) (va_cwS 1 hts gX8_couldBe_X8_noTick rfl rfl rfl hd_X8_noTick ⟨Nat.le_of_ble_eq_true rfl, Nat.le_of_ble_eq_true rfl⟩) hK hE hP hD hS hA [] 14 rfl rfl (by decide +kernel) rfl rfl hl.1 rfl (Nat.le_of_ble_eq_true rfl) dX8_couldBe_22 ⟨Nat.le_of_ble_eq_true rfl, Nat.le_of_ble_eq_true rfl⟩ (fun H locs hP hD hS => ?_)
      refine lv_if_ne (tgt := 54) hx hb dX8_couldBe_25 (by decide) (fun c25 => ?_) (fun c25 => ?_)
      · have hf := ifn c25 hf
        refine lv_iconst (v := (-1 : Int32)) hx hb dX8_couldBe_54 (by decide) ?_
        obtain rfl := Option.some.inj hf
        exact hR _ _ _ _ hP hD hS dX8_couldBe_55
      · have hf := ifp c25 hf
        refine lv_iload hx hb dX8_couldBe_28 (lv_at hl 4 rfl) ?_
        refine lv_i2l (v := (Int32.toInt64 p4)) hx hb dX8_couldBe_30 rfl ?_
        refine lv_lconst (v := (0 : Int64)) hx hb dX8_couldBe_31 (by decide) ?_
        refine lv_aload_n hx hb dX8_couldBe_32 rfl (lv_at hl 0 rfl) ?_
        refine va_get (D := D) (ci := 8) (v := .ref (o_t 2)) (C := RX8) (T := TX8) (N := 36) hx hb hts k1 hown hK hP 0 rfl rfl 1 (by decide) k2 (fun _ h9 => h9) rfl dX8_couldBe_33 ?_
        refine lv_iconst (v := (4 : Int32)) hx hb dX8_couldBe_36 (by decide) ?_
        obtain ⟨v37, b37, ev37, hf⟩ := rd_s hf
        refine my_iald hx hb hK hP 1 rfl b37 ev37 dX8_couldBe_37 ?_
        refine lv_aload_n hx hb dX8_couldBe_38 rfl (lv_at hl 0 rfl) ?_
        refine va_get (D := D) (ci := 8) (v := .ref (o_t 3)) (C := RX8) (T := TX8) (N := 36) hx hb hts k1 hown hK hP 0 rfl rfl 2 (by decide) k3 (fun _ h9 => h9) rfl dX8_couldBe_39 ?_
        refine lv_iconst (v := (4 : Int32)) hx hb dX8_couldBe_42 (by decide) ?_
        obtain ⟨v43, b43, ev43, hf⟩ := rd_s hf
        refine my_iald hx hb hK hP 2 rfl b43 ev43 dX8_couldBe_43 ?_
        refine lv_imul hx hb dX8_couldBe_44 ?_
        refine lv_iconst (v := (1 : Int32)) hx hb dX8_couldBe_45 (by decide) ?_
        refine lv_isub hx hb dX8_couldBe_46 ?_
        refine lv_i2l (v := (Int32.toInt64 ((v37 * v43) - (1 : Int32)))) hx hb dX8_couldBe_47 rfl ?_
        obtain ⟨r48, hr48, hf⟩ := bd_s hf
        refine my_Si (WS2 := (wd_X8_couldBe cy o_t (0 : Int32) x_delay x_feel x_turn x_sight x_ball x_w x_h x_n x_players x_wide x_tall x_hands x_power x_spin x_seed x_pressed x_leftFrom x_leftTo x_place x_points x_may x_then)) ⟨hx, hb, hml, hown, hts⟩ (c_X8_in l D cy t (Int32.toInt64 p4) (0 : Int64) (Int32.toInt64 ((v37 * v43) - (1 : Int32))) hr48) (va_cwS 3 hts gX8_couldBe_X8_in rfl rfl rfl hd_X8_in ⟨Nat.le_of_ble_eq_true rfl, Nat.le_of_ble_eq_true rfl⟩) hK hE hP hD hS hA [] 14 rfl rfl (by decide +kernel) rfl rfl hl.1 rfl (Nat.le_of_ble_eq_true rfl) dX8_couldBe_48 ⟨Nat.le_of_ble_eq_true rfl, Nat.le_of_ble_eq_true rfl⟩ (fun H locs hP hD hS => ?_)
        refine lv_if_ne (tgt := 56) hx hb dX8_couldBe_51 (by decide) (fun c51 => ?_) (fun c51 => ?_)
        · have hf := ifn c51 hf
          refine lv_aload_n hx hb dX8_couldBe_56 rfl (lv_at hl 0 rfl) ?_
          refine lv_iload_n hx hb dX8_couldBe_57 rfl (lv_at hl 1 rfl) ?_
          refine lv_iload_n hx hb dX8_couldBe_58 rfl (lv_at hl 2 rfl) ?_
          refine lv_iload_n hx hb dX8_couldBe_59 rfl (lv_at hl 3 rfl) ?_
          obtain ⟨r60, hr60, hf⟩ := bd_s hf
          refine my_Vv (WS2 := (wd_X8_couldBe cy o_t (0 : Int32) x_delay x_feel x_turn x_sight r60.1 r60.2.1 r60.2.2.1 r60.2.2.2.1 x_players x_wide x_tall x_hands x_power x_spin x_seed x_pressed x_leftFrom x_leftTo r60.2.2.2.2.1 r60.2.2.2.2.2.1 r60.2.2.2.2.2.2.1 r60.2.2.2.2.2.2.2)) ⟨hx, hb, hml, hown, hts⟩ (c_X8_guess l D cy t o_t (0 : Int32) x_delay x_feel x_turn x_sight x_ball x_w x_h x_n x_players x_wide x_tall x_hands x_power x_spin x_seed x_pressed x_leftFrom x_leftTo x_place x_points x_may x_then p1 p2 p3 hr60) (cwV 3 hts gX8_couldBe_X8_guess rfl rfl rfl ⟨rfl, hd_X8_guess⟩ ⟨Nat.le_of_ble_eq_true rfl, Nat.le_of_ble_eq_true rfl⟩) hK hE hP hD hS hA [0, 1, 2, 3, 4, 5, 6, 7, 8, 9, 10, 11, 12, 13] 14 8 0 rfl rfl rfl rfl (by decide +kernel) rfl rfl hl.1 rfl (Nat.le_of_ble_eq_true rfl) dX8_couldBe_60 ⟨Nat.le_of_ble_eq_true rfl, Nat.le_of_ble_eq_true rfl⟩ (fun H locs hP hD hS => ?_)
          refine lv_aload_n hx hb dX8_couldBe_63 rfl (lv_at hl 0 rfl) ?_
          refine va_get (D := D) (ci := 8) (v := .ref (o_t 28)) (C := RX8) (T := TX8) (N := 36) hx hb hts k1 hown hK hP 0 rfl rfl 27 (by decide) k4 (fun _ h9 => h9) rfl dX8_couldBe_64 ?_
          refine lv_iload hx hb dX8_couldBe_67 (lv_at hl 4 rfl) ?_
          obtain ⟨v69, b69, ev69, hf⟩ := rd_s hf
          refine my_zald hx hb hK hP 12 rfl b69 ev69 dX8_couldBe_69 ?_
          refine lv_if_eq (tgt := 77) hx hb dX8_couldBe_70 (by decide) (fun c70 => ?_) (fun c70 => ?_)
          · have hf := ifp c70 hf
            refine lv_iconst (v := (0 : Int32)) hx hb dX8_couldBe_77 (by decide) ?_
            obtain rfl := Option.some.inj hf
            exact hR _ _ _ _ hP hD hS dX8_couldBe_78
          · have hf := ifn c70 hf
            refine lv_iconst (v := (1 : Int32)) hx hb dX8_couldBe_73 (by decide) ?_
            refine lv_goto (tgt := 78) hx hb dX8_couldBe_74 (by decide) ?_
            obtain rfl := Option.some.inj hf
            exact hR _ _ _ _ hP hD hS dX8_couldBe_78
        · have hf := ifp c51 hf
          refine lv_iconst (v := (-1 : Int32)) hx hb dX8_couldBe_54 (by decide) ?_
          obtain rfl := Option.some.inj hf
          exact hR _ _ _ _ hP hD hS dX8_couldBe_55
theorem hd_X8_couldBe : yX8_couldBe.cls ≠ "java/lang/invoke/MethodHandle" ∧ yX8_couldBe.cls ≠ "java/lang/invoke/VarHandle" ∧ (parseMethodDescriptor yX8_couldBe.desc).map (fun d => d.parameters.length) = some 4 := by decide +kernel
set_option maxRecDepth 100000 in
theorem c_X8_couldBe (l : Launch) (D : va_G) (cy : Nat → ClassId) (t : Nat → Nat) (o_t : Nat → Nat) (x_thrown : Int32) (x_delay : Int32) (x_feel : Int32) (x_turn : Int32) (x_sight : Int32) (x_ball : Int32) (x_w : Int32) (x_h : Int32) (x_n : Int32) (x_players : Int32) (x_wide : Nat → Int32) (x_tall : Nat → Int32) (x_hands : Nat → Int32) (x_power : Nat → Int32) (x_spin : Nat → Int32) (x_seed : Nat → Int32) (x_pressed : Nat → Int32) (x_leftFrom : Nat → Int32) (x_leftTo : Nat → Int32) (x_place : Nat → Int32) (x_points : Nat → Int32) (x_may : Nat → Int32) (x_then : Nat → Int32) (p1 : Int32) (p2 : Int32) (p3 : Int32) (p4 : Int32) {out : Int32 × Int32 × Int32 × Int32 × Int32 × Int32 × (Nat → Int32) × (Nat → Int32) × (Nat → Int32) × (Nat → Int32)} (hf : X8_couldBe x_sight x_wide x_tall x_hands x_power x_spin x_seed x_pressed x_leftFrom x_leftTo x_thrown x_ball x_w x_h x_n x_place x_points x_may x_then p1 p2 p3 p4 = some out) : ctI l yX8_couldBe wsX8_couldBe 6 155 D cy t [.ref (o_t 0), .int p1, .int p2, .int p3, .int p4] (wd_X8_couldBe cy o_t x_thrown x_delay x_feel x_turn x_sight x_ball x_w x_h x_n x_players x_wide x_tall x_hands x_power x_spin x_seed x_pressed x_leftFrom x_leftTo x_place x_points x_may x_then) (wd_X8_couldBe cy o_t out.2.1 x_delay x_feel x_turn x_sight out.2.2.1 out.2.2.2.1 out.2.2.2.2.1 out.2.2.2.2.2.1 x_players x_wide x_tall x_hands x_power x_spin x_seed x_pressed x_leftFrom x_leftTo out.2.2.2.2.2.2.1 out.2.2.2.2.2.2.2.1 out.2.2.2.2.2.2.2.2.1 out.2.2.2.2.2.2.2.2.2) out.1 := by
  refine ⟨rfl, ?_⟩
  intro sz
  refine Met.ofW (cc := cX8_couldBe) (maxL := 5) (ret := (some .int)) (by decide) rfl ?_
  intro p e s m args below meth c s₁ B hml hv
  obtain ⟨rfl, hsz, hP, hK, hD0, hE⟩ := hv
  have hts := atoms_spec (ws := wsX8_couldBe) B.pre
  have hown : s.vm.findClass RX8 = some m.cls := findClass_of_methodNamed B.named
  have hlocks := B.notSynchronized
  subst hsz
  have hD := hD0.self (sz := s.heap.size)
  have hl := lv_entry ([.ref (o_t 0), .int p1, .int p2, .int p3, .int p4]) (n := 5) (Nat.le_of_ble_eq_true rfl)
  rw [lg_entry_eq]
  generalize (lg_sl ([.ref (o_t 0), .int p1, .int p2, .int p3, .int p4]) ++ List.replicate (5 - (lg_sl ([.ref (o_t 0), .int p1, .int p2, .int p3, .int p4])).length) Slot.unset).toArray = ls at hl ⊢
  exact w_X8_couldBe D cy t o_t x_thrown x_delay x_feel x_turn x_sight x_ball x_w x_h x_n x_players x_wide x_tall x_hands x_power x_spin x_seed x_pressed x_leftFrom x_leftTo x_place x_points x_may x_then p1 p2 p3 p4 hf B.exec B.bytes hml hown hts hK hE (fun q h => Or.inr h) hP hD va_S.rf hl (fun H locs ls pc hP hD hS hdg => W.iret B.exec B.bytes B.returns (fun t ht hW => ⟨⟨_, (), rfl, rfl, ctB_of ht hP⟩, hS.F ht⟩) hS.2.2 hdg)
