noncomputable def X0_start_J38 (x_a1_w : Int32) (x_a1_h : Int32) (x_a1_hands : Int32) (x_now : Nat → Int32) : Option ((Nat → Int32)) :=
  wrI x_now 13 (6 : Int32) ((((16 : Int32) * (x_a1_h - (1 : Int32))) + x_a1_w) - (1 : Int32)) fun w60 => some w60
noncomputable def X0_start_L10_B (x_a1_w : Int32) (x_a1_h : Int32) (x_a1_hands : Int32) (rec10 : (Nat → Int32) → Int32 → Option ((Nat → Int32))) (x_now : Nat → Int32) (l2 : Int32) : Option ((Nat → Int32)) :=
  if x_a1_hands ≤ l2 then (X0_start_J38 x_a1_w x_a1_h x_a1_hands  x_now ) else (bd (X7_spotOf l2 x_a1_w) fun r28 => wrI x_now 13 l2 r28 fun w31 => nm (l2 + (1 : Int32)) fun v32 => rec10 w31 v32)
noncomputable def X0_start_L10 (x_a1_w : Int32) (x_a1_h : Int32) (x_a1_hands : Int32) : Nat → (Nat → Int32) → Int32 → Option ((Nat → Int32))
  | 0, _, _ => none
  | n + 1, y0, y1 => X0_start_L10_B x_a1_w x_a1_h x_a1_hands  (X0_start_L10 x_a1_w x_a1_h x_a1_hands  n) y0 y1
noncomputable def X0_start (x_a1_w : Int32) (x_a1_h : Int32) (x_a1_hands : Int32) (x_now : Nat → Int32) : Option ((Nat → Int32)) :=
  bd (J7_fill_53178 13 x_now (0 : Int32)) fun r5 => X0_start_L10 x_a1_w x_a1_h x_a1_hands  FU r5 (0 : Int32)
abbrev wd_X0_start (cy : Nat → ClassId) (o_t o_a1 : Nat → Nat) (x_now : Nat → Int32) (x_a1_w : Int32) (x_a1_h : Int32) (x_a1_hands : Int32) : va_W := [(o_t 0, .inr (0, [.ref (o_t 1)])), (o_t 1, .inl (cy 0, 13, .inl x_now)), (o_a1 0, .inr (5, [.int x_a1_w, .int x_a1_h, .int x_a1_hands, .ref (o_a1 4), .ref (o_a1 5), .ref (o_a1 6), .ref (o_a1 7)]))]
set_option maxHeartbeats 4000000 in
set_option maxRecDepth 100000 in
theorem w_X0_start {p : Program} {l : Launch} {e : Env} {s : State} {m : MethodId} {args : Array Value} {below : List Frame} {meth : Method} {c : Code} {Q : State → Prop} {A : Nat → Prop} {H : Heap} {locs : List Loc} {ls : Array Slot} (D : va_G) (cy : Nat → ClassId) (t : Nat → Nat) (o_t o_a1 : Nat → Nat) (x_now : Nat → Int32) (x_a1_w : Int32) (x_a1_h : Int32) (x_a1_hands : Int32) {out : (Nat → Int32)} (hf : X0_start x_a1_w x_a1_h x_a1_hands x_now = some out) (hx : p.tables.exec = Jvm.exec) (hb : c.code = cX0_start) (hml : c.maxLocals = 3) (hown : s.vm.findClass RX0 = some m.cls) (hts : ∀ w ∈ wsX0_start, w.before args s = true) (hK : va_K D vwCl (TYS cy) s) (hE : EV t A s s.heap) (hA : ∀ q, s.heap.size ≤ q → A q) (hP : va_P D vwCl (wd_X0_start cy o_t o_a1 x_now x_a1_w x_a1_h x_a1_hands) H) (hD : va_D A (wd_X0_start cy o_t o_a1 x_now x_a1_w x_a1_h x_a1_hands)) (hS : va_S A s.heap H locs) (hl : lv_has ls 3 [(0, .ref (o_t 0)), (1, .ref (o_a1 0))]) (hR : ∀ (H : Heap) (locs : List Loc) (ls : Array Slot) (pc : Nat), va_P D vwCl (wd_X0_start cy o_t o_a1 out x_a1_w x_a1_h x_a1_hands) H → va_D A (wd_X0_start cy o_t o_a1 out x_a1_w x_a1_h x_a1_hands) → va_S A s.heap H locs → decode cX0_start pc = .ok (.return_, 1) → W p l e (rmm 1 24) s m args below meth c H locs 0 0 Q (F0 m pc ls [])) : W p l e (rmm 1 24) s m args below meth c H locs 0 0 Q (F0 m 0 ls []) := by
  have k0 := hts (.fieldLink RX0 9 "SeaGames$Board" "now" "[I") (List.mem_cons_of_mem _ (List.mem_append_left _ (List.mem_append_left _ (List.mem_of_getElem? (i := 0) rfl))))
  have k1 : ∀ w ∈ u_ws RX0 TX0 1, w ∈ wsX0_start := fun _ h => List.mem_cons_of_mem _ (List.mem_append_left _ (List.mem_append_right _ h))
  have k2 := hts (.fieldLink RX0 21 "SeaGames$Play" "hands" "I") (List.mem_cons_of_mem _ (List.mem_append_left _ (List.mem_append_left _ (List.mem_of_getElem? (i := 1) rfl))))
  have k3 : ∀ w ∈ u_ws RX5 TX5 7, w ∈ wsX0_start := fun _ h => List.mem_cons_of_mem _ (List.mem_append_right _ h)
  have k4 := hts (.fieldLink RX0 34 "SeaGames$Play" "h" "I") (List.mem_cons_of_mem _ (List.mem_append_left _ (List.mem_append_left _ (List.mem_of_getElem? (i := 3) rfl))))
  have k5 := hts (.fieldLink RX0 27 "SeaGames$Play" "w" "I") (List.mem_cons_of_mem _ (List.mem_append_left _ (List.mem_append_left _ (List.mem_of_getElem? (i := 2) rfl))))
  have k6 := hts (.initialized RX7) (List.mem_cons_of_mem _ (List.mem_append_left _ (List.mem_append_left _ (List.mem_of_getElem? (i := 9) rfl))))
  have k7 := hts (.static yX7_spotOf) (List.mem_cons_of_mem _ (List.mem_append_left _ (List.mem_append_left _ (List.mem_of_getElem? (i := 8) rfl))))
  rw [X0_start] at hf
  have h10 : ∀ (n10 : Nat) (x_now : Nat → Int32) (l2 : Int32) (H : Heap) (locs : List Loc) (ls : Array Slot), X0_start_L10 x_a1_w x_a1_h x_a1_hands n10 x_now l2 = some out → va_P D vwCl (wd_X0_start cy o_t o_a1 x_now x_a1_w x_a1_h x_a1_hands) H → va_D A (wd_X0_start cy o_t o_a1 x_now x_a1_w x_a1_h x_a1_hands) → va_S A s.heap H locs → lv_has ls 3 [(0, .ref (o_t 0)), (1, .ref (o_a1 0)), (2, .int l2)] → W p l e (rmm 1 24) s m args below meth c H locs 0 0 Q (F0 m 10 ls []) := by
    intro n10
    induction n10 with
    | zero =>
      intro _ _ _ _ _ hf
      exact nomatch (show (none : Option _) = some out from hf)
    | succ n10 ih10 =>
      intro x_now l2 H locs ls hf hP hD hS hl
      have hf : X0_start_L10_B x_a1_w x_a1_h x_a1_hands (X0_start_L10 x_a1_w x_a1_h x_a1_hands n10) x_now l2 = some out := hf
      rw [X0_start_L10_B] at hf
      have h38 : ∀ (x_now : Nat → Int32) (H : Heap) (locs : List Loc) (ls : Array Slot), X0_start_J38 x_a1_w x_a1_h x_a1_hands x_now = some out → va_P D vwCl (wd_X0_start cy o_t o_a1 x_now x_a1_w x_a1_h x_a1_hands) H → va_D A (wd_X0_start cy o_t o_a1 x_now x_a1_w x_a1_h x_a1_hands) → va_S A s.heap H locs → lv_has ls 3 [(0, .ref (o_t 0)), (1, .ref (o_a1 0))] → W p l e (rmm 1 24) s m args below meth c H locs 0 0 Q (F0 m 38 ls []) := by
        intro x_now H locs ls hf hP hD hS hl
        rw [X0_start_J38] at hf
        refine lv_aload_n hx hb dX0_start_38 rfl (lv_at hl 0 rfl) ?_
        refine va_get (D := D) (ci := 0) (v := .ref (o_t 1)) (C := RX0) (T := TX0) (N := 1) hx hb hts k1 hown hK hP 0 rfl rfl 0 (by decide) k0 (fun _ h9 => h9) rfl dX0_start_39 ?_
        refine lv_bipush (v := (6 : Int32)) hx hb dX0_start_42 (by decide) ?_
        refine lv_bipush (v := (16 : Int32)) hx hb dX0_start_44 (by decide) ?_
        refine lv_aload_n hx hb dX0_start_46 rfl (lv_at hl 1 rfl) ?_
        refine va_get (D := D) (ci := 5) (v := .int x_a1_h) (C := RX5) (T := TX5) (N := 7) hx hb hts k3 hown hK hP 2 rfl rfl 1 (by decide) k4 (fun _ h9 => h9) rfl dX0_start_47 ?_
        refine lv_iconst (v := (1 : Int32)) hx hb dX0_start_50 (by decide) ?_
        refine lv_isub hx hb dX0_start_51 ?_
        refine lv_imul hx hb dX0_start_52 ?_
        refine lv_aload_n hx hb dX0_start_53 rfl (lv_at hl 1 rfl) ?_
        refine va_get (D := D) (ci := 5) (v := .int x_a1_w) (C := RX5) (T := TX5) (N := 7) hx hb hts k3 hown hK hP 2 rfl rfl 0 (by decide) k5 (fun _ h9 => h9) rfl dX0_start_54 ?_
        refine lv_iadd hx hb dX0_start_57 ?_
        refine lv_iconst (v := (1 : Int32)) hx hb dX0_start_58 (by decide) ?_
        refine lv_isub hx hb dX0_start_59 ?_
        obtain ⟨w60, b60, ew60, hf⟩ := wrI_s hf
        refine my_iast (ws2 := (wd_X0_start cy o_t o_a1 w60 x_a1_w x_a1_h x_a1_hands)) hx hb hK hP hD hS 1 rfl b60 ew60 rfl dX0_start_60 (fun H locs hP hD hS => ?_)
        obtain rfl := Option.some.inj hf
        exact hR _ _ _ _ hP hD hS dX0_start_61
      refine lv_iload_n hx hb dX0_start_10 rfl (lv_at hl 2 rfl) ?_
      refine lv_aload_n hx hb dX0_start_11 rfl (lv_at hl 1 rfl) ?_
      refine va_get (D := D) (ci := 5) (v := .int x_a1_hands) (C := RX5) (T := TX5) (N := 7) hx hb hts k3 hown hK hP 2 rfl rfl 2 (by decide) k2 (fun _ h9 => h9) rfl dX0_start_12 ?_
      refine lv_icmp_ge (tgt := 38) hx hb dX0_start_15 (by decide) (fun c15 => ?_) (fun c15 => ?_)
      · have hf := ifp c15 hf
        exact h38 _ _ _ _ hf hP hD hS (lv_sub hl [0, 1] rfl)
      · have hf := ifn c15 hf
        refine lv_aload_n hx hb dX0_start_18 rfl (lv_at hl 0 rfl) ?_
        refine va_get (D := D) (ci := 0) (v := .ref (o_t 1)) (C := RX0) (T := TX0) (N := 1) hx hb hts k1 hown hK hP 0 rfl rfl 0 (by decide) k0 (fun _ h9 => h9) rfl dX0_start_19 ?_
        refine lv_iload_n hx hb dX0_start_22 rfl (lv_at hl 2 rfl) ?_
        refine lv_iload_n hx hb dX0_start_23 rfl (lv_at hl 2 rfl) ?_
        refine lv_aload_n hx hb dX0_start_24 rfl (lv_at hl 1 rfl) ?_
        refine va_get (D := D) (ci := 5) (v := .int x_a1_w) (C := RX5) (T := TX5) (N := 7) hx hb hts k3 hown hK hP 2 rfl rfl 0 (by decide) k5 (fun _ h9 => h9) rfl dX0_start_25 ?_
        obtain ⟨r28, hr28, hf⟩ := bd_s hf
        refine my_Ni (WS2 := (wd_X0_start cy o_t o_a1 x_now x_a1_w x_a1_h x_a1_hands)) (host := RX7) ⟨hx, hb, hml, hown, hts⟩ (c_X7_spotOf l D cy t l2 x_a1_w hr28) (va_cnB 2 hts gX0_start_X7_spotOf_n30 rfl rfl rfl (ev_n6 hE) k6 hd_X7_spotOf ⟨Nat.le_of_ble_eq_true rfl, Nat.le_of_ble_eq_true rfl⟩) k7 hK hE hP hD hS hA [] 3 rfl rfl (by decide +kernel) rfl rfl hl.1 rfl (Nat.le_of_ble_eq_true rfl) dX0_start_28 ⟨Nat.le_of_ble_eq_true rfl, Nat.le_of_ble_eq_true rfl⟩ (fun H locs hP hD hS => ?_)
        obtain ⟨w31, b31, ew31, hf⟩ := wrI_s hf
        refine my_iast (ws2 := (wd_X0_start cy o_t o_a1 w31 x_a1_w x_a1_h x_a1_hands)) hx hb hK hP hD hS 1 rfl b31 ew31 rfl dX0_start_31 (fun H locs hP hD hS => ?_)
        obtain ⟨v32, ev32, hf⟩ := nm_s hf
        refine lv_iinc (v := v32) (lv' := [(2, .int v32), (0, .ref (o_t 0)), (1, .ref (o_a1 0))]) hx hb dX0_start_32 hl (k := 2) rfl (by rw [ev32]; rfl) (by decide) rfl (fun ls hl => ?_)
        refine lv_goto (tgt := 10) hx hb dX0_start_35 (by decide) ?_
        exact ih10 _ _ _ _ _ hf hP hD hS (lv_sub hl [1, 2, 0] rfl)
  refine lv_aload_n hx hb dX0_start_0 rfl (lv_at hl 0 rfl) ?_
  refine va_get (D := D) (ci := 0) (v := .ref (o_t 1)) (C := RX0) (T := TX0) (N := 1) hx hb hts k1 hown hK hP 0 rfl rfl 0 (by decide) k0 (fun _ h9 => h9) rfl dX0_start_1 ?_
  refine lv_iconst (v := (0 : Int32)) hx hb dX0_start_4 (by decide) ?_
  obtain ⟨r5, hr5, hf⟩ := bd_s hf
  refine my_Sv (WS2 := (wd_X0_start cy o_t o_a1 r5 x_a1_w x_a1_h x_a1_hands)) ⟨hx, hb, hml, hown, hts⟩ (c_J7_fill_53178 l D cy t (o_t 1) 13 x_now (0 : Int32) hr5) (va_cwS 2 hts gX0_start_J7_fill_53178 rfl rfl rfl hd_J7_fill_53178 ⟨Nat.le_of_ble_eq_true rfl, Nat.le_of_ble_eq_true rfl⟩) hK hE hP hD hS hA [1] 3 rfl rfl (by decide +kernel) rfl rfl hl.1 rfl (Nat.le_of_ble_eq_true rfl) dX0_start_5 ⟨Nat.le_of_ble_eq_true rfl, Nat.le_of_ble_eq_true rfl⟩ (fun H locs hP hD hS => ?_)
  refine lv_iconst (v := (0 : Int32)) hx hb dX0_start_8 (by decide) ?_
  refine lv_istore_n (lv' := [(2, .int (0 : Int32)), (0, .ref (o_t 0)), (1, .ref (o_a1 0))]) hx hb dX0_start_9 rfl hl (by decide) rfl (fun ls hl => ?_)
  exact h10 FU _ _ _ _ _ hf hP hD hS (lv_sub hl [1, 2, 0] rfl)
theorem hd_X0_start : yX0_start.cls ≠ "java/lang/invoke/MethodHandle" ∧ yX0_start.cls ≠ "java/lang/invoke/VarHandle" ∧ (parseMethodDescriptor yX0_start.desc).map (fun d => d.parameters.length) = some 1 := by decide +kernel
set_option maxRecDepth 100000 in
theorem c_X0_start (l : Launch) (D : va_G) (cy : Nat → ClassId) (t : Nat → Nat) (o_t o_a1 : Nat → Nat) (x_now : Nat → Int32) (x_a1_w : Int32) (x_a1_h : Int32) (x_a1_hands : Int32) {out : (Nat → Int32)} (hf : X0_start x_a1_w x_a1_h x_a1_hands x_now = some out) : ctV l yX0_start wsX0_start 1 24 D cy t [.ref (o_t 0), .ref (o_a1 0)] (wd_X0_start cy o_t o_a1 x_now x_a1_w x_a1_h x_a1_hands) (wd_X0_start cy o_t o_a1 out x_a1_w x_a1_h x_a1_hands) := by
  refine ⟨rfl, ?_⟩
  intro sz
  refine Met.ofW (cc := cX0_start) (maxL := 3) (ret := none) (by decide) rfl ?_
  intro p e s m args below meth c s₁ B hml hv
  obtain ⟨rfl, hsz, hP, hK, hD0, hE⟩ := hv
  have hts := atoms_spec (ws := wsX0_start) B.pre
  have hown : s.vm.findClass RX0 = some m.cls := findClass_of_methodNamed B.named
  have hlocks := B.notSynchronized
  subst hsz
  have hD := hD0.self (sz := s.heap.size)
  have hl := lv_entry ([.ref (o_t 0), .ref (o_a1 0)]) (n := 3) (Nat.le_of_ble_eq_true rfl)
  rw [lg_entry_eq]
  generalize (lg_sl ([.ref (o_t 0), .ref (o_a1 0)]) ++ List.replicate (3 - (lg_sl ([.ref (o_t 0), .ref (o_a1 0)])).length) Slot.unset).toArray = ls at hl ⊢
  exact w_X0_start D cy t o_t o_a1 x_now x_a1_w x_a1_h x_a1_hands hf B.exec B.bytes hml hown hts hK hE (fun q h => Or.inr h) hP hD va_S.rf hl (fun H locs ls pc hP hD hS hdg => W.vret B.exec B.bytes B.returns (fun t ht hW => ⟨⟨(), rfl, trivial, ctB_of ht hP⟩, hS.F ht⟩) hS.2.2 hdg)

noncomputable def X0_wayToBall_L2_B (x_now : Nat → Int32) (rec2 : Int32 → Int32 → Option (Int32)) (l1 : Int32) (l2 : Int32) : Option (Int32) :=
  if (4 : Int32) < l2 then (some (0 : Int32)) else (rd x_now 13 l1 fun v12 => rd st_step 5 l2 fun v17 => rd x_now 13 (6 : Int32) fun v25 => if (v12 + v17) = v25 then (some l2) else (nm (l2 + (1 : Int32)) fun v31 => rec2  l1 v31))
noncomputable def X0_wayToBall_L2 (x_now : Nat → Int32) : Nat → Int32 → Int32 → Option (Int32)
  | 0, _, _ => none
  | n + 1, y0, y1 => X0_wayToBall_L2_B x_now  (X0_wayToBall_L2 x_now  n) y0 y1
noncomputable def X0_wayToBall (x_now : Nat → Int32) (p1 : Int32) : Option (Int32) :=
  X0_wayToBall_L2 x_now  FU  p1 (1 : Int32)
abbrev wd_X0_wayToBall (cy : Nat → ClassId) (o_t : Nat → Nat) (x_now : Nat → Int32) : va_W := [(o_t 0, .inr (0, [.ref (o_t 1)])), (o_t 1, .inl (cy 0, 13, .inl x_now))]
set_option maxHeartbeats 4000000 in
set_option maxRecDepth 100000 in
theorem w_X0_wayToBall {p : Program} {l : Launch} {e : Env} {s : State} {m : MethodId} {args : Array Value} {below : List Frame} {meth : Method} {c : Code} {Q : State → Prop} {A : Nat → Prop} {H : Heap} {locs : List Loc} {ls : Array Slot} (D : va_G) (cy : Nat → ClassId) (t : Nat → Nat) (o_t : Nat → Nat) (x_now : Nat → Int32) (p1 : Int32) {out : Int32} (hf : X0_wayToBall x_now p1 = some out) (hx : p.tables.exec = Jvm.exec) (hb : c.code = cX0_wayToBall) (hml : c.maxLocals = 3) (hown : s.vm.findClass RX0 = some m.cls) (hts : ∀ w ∈ wsX0_wayToBall, w.before args s = true) (hK : va_K D vwCl (TYS cy) s) (hE : EV t A s s.heap) (hA : ∀ q, s.heap.size ≤ q → A q) (hP : va_P D vwCl (wd_X0_wayToBall cy o_t x_now) H) (hD : va_D A (wd_X0_wayToBall cy o_t x_now)) (hS : va_S A s.heap H locs) (hl : lv_has ls 3 [(0, .ref (o_t 0)), (1, .int p1)]) (hR : ∀ (H : Heap) (locs : List Loc) (ls : Array Slot) (pc : Nat), va_P D vwCl (wd_X0_wayToBall cy o_t x_now) H → va_D A (wd_X0_wayToBall cy o_t x_now) → va_S A s.heap H locs → decode cX0_wayToBall pc = .ok (.ireturn, 1) → W p l e (rmm 0 0) s m args below meth c H locs 0 0 Q (F0 m pc ls [.int out])) : W p l e (rmm 0 0) s m args below meth c H locs 0 0 Q (F0 m 0 ls []) := by
  have k0 := hts (.fieldLink RX0 9 "SeaGames$Board" "now" "[I") (List.mem_cons_of_mem _ (List.mem_append_left _ (List.mem_of_getElem? (i := 0) rfl)))
  have k1 : ∀ w ∈ u_ws RX0 TX0 1, w ∈ wsX0_wayToBall := fun _ h => List.mem_cons_of_mem _ (List.mem_append_right _ h)
  rw [X0_wayToBall] at hf
  have h2 : ∀ (n2 : Nat) (l1 : Int32) (l2 : Int32) (H : Heap) (locs : List Loc) (ls : Array Slot), X0_wayToBall_L2 x_now n2 l1 l2 = some out → va_P D vwCl (wd_X0_wayToBall cy o_t x_now) H → va_D A (wd_X0_wayToBall cy o_t x_now) → va_S A s.heap H locs → lv_has ls 3 [(0, .ref (o_t 0)), (1, .int l1), (2, .int l2)] → W p l e (rmm 0 0) s m args below meth c H locs 0 0 Q (F0 m 2 ls []) := by
    intro n2
    induction n2 with
    | zero =>
      intro _ _ _ _ _ hf
      exact nomatch (show (none : Option _) = some out from hf)
    | succ n2 ih2 =>
      intro l1 l2 H locs ls hf hP hD hS hl
      have hf : X0_wayToBall_L2_B x_now (X0_wayToBall_L2 x_now n2) l1 l2 = some out := hf
      rw [X0_wayToBall_L2_B] at hf
      refine lv_iload_n hx hb dX0_wayToBall_2 rfl (lv_at hl 2 rfl) ?_
      refine lv_iconst (v := (4 : Int32)) hx hb dX0_wayToBall_3 (by decide) ?_
      refine lv_icmp_gt (tgt := 37) hx hb dX0_wayToBall_4 (by decide) (fun c4 => ?_) (fun c4 => ?_)
      · have hf := ifp c4 hf
        refine lv_iconst (v := (0 : Int32)) hx hb dX0_wayToBall_37 (by decide) ?_
        obtain rfl := Option.some.inj hf
        exact hR _ _ _ _ hP hD hS dX0_wayToBall_38
      · have hf := ifn c4 hf
        refine lv_aload_n hx hb dX0_wayToBall_7 rfl (lv_at hl 0 rfl) ?_
        refine va_get (D := D) (ci := 0) (v := .ref (o_t 1)) (C := RX0) (T := TX0) (N := 1) hx hb hts k1 hown hK hP 0 rfl rfl 0 (by decide) k0 (fun _ h9 => h9) rfl dX0_wayToBall_8 ?_
        refine lv_iload_n hx hb dX0_wayToBall_11 rfl (lv_at hl 1 rfl) ?_
        obtain ⟨v12, b12, ev12, hf⟩ := rd_s hf
        refine my_iald hx hb hK hP 1 rfl b12 ev12 dX0_wayToBall_12 ?_
        refine va_getsN hx hb hE.1.1.1 hS hown (va_Nw.use rfl hE.2.1) (fun _ h9 => h9) dX0_wayToBall_13 ?_
        refine lv_iload_n hx hb dX0_wayToBall_16 rfl (lv_at hl 2 rfl) ?_
        obtain ⟨v17, b17, ev17, hf⟩ := rd_s hf
        refine my_tald hx hb hE.1.1.2 hS b17 ev17 dX0_wayToBall_17 ?_
        refine lv_iadd hx hb dX0_wayToBall_18 ?_
        refine lv_aload_n hx hb dX0_wayToBall_19 rfl (lv_at hl 0 rfl) ?_
        refine va_get (D := D) (ci := 0) (v := .ref (o_t 1)) (C := RX0) (T := TX0) (N := 1) hx hb hts k1 hown hK hP 0 rfl rfl 0 (by decide) k0 (fun _ h9 => h9) rfl dX0_wayToBall_20 ?_
        refine lv_bipush (v := (6 : Int32)) hx hb dX0_wayToBall_23 (by decide) ?_
        obtain ⟨v25, b25, ev25, hf⟩ := rd_s hf
        refine my_iald hx hb hK hP 1 rfl b25 ev25 dX0_wayToBall_25 ?_
        refine lv_icmp_ne (tgt := 31) hx hb dX0_wayToBall_26 (by decide) (fun c26 => ?_) (fun c26 => ?_)
        · have hf := ifn c26 hf
          obtain ⟨v31, ev31, hf⟩ := nm_s hf
          refine lv_iinc (v := v31) (lv' := [(2, .int v31), (0, .ref (o_t 0)), (1, .int l1)]) hx hb dX0_wayToBall_31 hl (k := 2) rfl (by rw [ev31]; rfl) (by decide) rfl (fun ls hl => ?_)
          refine lv_goto (tgt := 2) hx hb dX0_wayToBall_34 (by decide) ?_
          exact ih2 _ _ _ _ _ hf hP hD hS (lv_sub hl [1, 2, 0] rfl)
        · have hf := ifp c26 hf
          refine lv_iload_n hx hb dX0_wayToBall_29 rfl (lv_at hl 2 rfl) ?_
          obtain rfl := Option.some.inj hf
          exact hR _ _ _ _ hP hD hS dX0_wayToBall_30
  refine lv_iconst (v := (1 : Int32)) hx hb dX0_wayToBall_0 (by decide) ?_
  refine lv_istore_n (lv' := [(2, .int (1 : Int32)), (0, .ref (o_t 0)), (1, .int p1)]) hx hb dX0_wayToBall_1 rfl hl (by decide) rfl (fun ls hl => ?_)
  exact h2 FU _ _ _ _ _ hf hP hD hS (lv_sub hl [1, 2, 0] rfl)
theorem hd_X0_wayToBall : yX0_wayToBall.cls ≠ "java/lang/invoke/MethodHandle" ∧ yX0_wayToBall.cls ≠ "java/lang/invoke/VarHandle" ∧ (parseMethodDescriptor yX0_wayToBall.desc).map (fun d => d.parameters.length) = some 1 := by decide +kernel
set_option maxRecDepth 100000 in
theorem c_X0_wayToBall (l : Launch) (D : va_G) (cy : Nat → ClassId) (t : Nat → Nat) (o_t : Nat → Nat) (x_now : Nat → Int32) (p1 : Int32) {out : Int32} (hf : X0_wayToBall x_now p1 = some out) : ctI l yX0_wayToBall wsX0_wayToBall 0 0 D cy t [.ref (o_t 0), .int p1] (wd_X0_wayToBall cy o_t x_now) (wd_X0_wayToBall cy o_t x_now) out := by
  refine ⟨rfl, ?_⟩
  intro sz
  refine Met.ofW (cc := cX0_wayToBall) (maxL := 3) (ret := (some .int)) (by decide) rfl ?_
  intro p e s m args below meth c s₁ B hml hv
  obtain ⟨rfl, hsz, hP, hK, hD0, hE⟩ := hv
  have hts := atoms_spec (ws := wsX0_wayToBall) B.pre
  have hown : s.vm.findClass RX0 = some m.cls := findClass_of_methodNamed B.named
  have hlocks := B.notSynchronized
  subst hsz
  have hD := hD0.self (sz := s.heap.size)
  have hl := lv_entry ([.ref (o_t 0), .int p1]) (n := 3) (Nat.le_of_ble_eq_true rfl)
  rw [lg_entry_eq]
  generalize (lg_sl ([.ref (o_t 0), .int p1]) ++ List.replicate (3 - (lg_sl ([.ref (o_t 0), .int p1])).length) Slot.unset).toArray = ls at hl ⊢
  exact w_X0_wayToBall D cy t o_t x_now p1 hf B.exec B.bytes hml hown hts hK hE (fun q h => Or.inr h) hP hD va_S.rf hl (fun H locs ls pc hP hD hS hdg => W.iret B.exec B.bytes B.returns (fun t ht hW => ⟨⟨_, (), rfl, rfl, ctB_of ht hP⟩, hS.F ht⟩) hS.2.2 hdg)

noncomputable def X0_machinePress (x_now : Nat → Int32) (p1 : Int32) : Option (Int32) :=
  bd (X0_wayToBall x_now p1) fun r2 => if r2 ≤ (0 : Int32) then (rd x_now 13 (6 : Int32) fun v16 => bd (X7_xOf v16) fun r17 => rd x_now 13 p1 fun v25 => bd (X7_xOf v25) fun r26 => nm (r17 - r26) fun v30 => rd x_now 13 (6 : Int32) fun v37 => bd (X7_yOf v37) fun r38 => rd x_now 13 p1 fun v46 => bd (X7_yOf v46) fun r47 => nm (r38 - r47) fun v51 => if (if (0 : Int32) ≤ v30 then v30 else (0 : Int32) - v30) < (if (0 : Int32) ≤ v51 then v51 else (0 : Int32) - v51) then (if v51 ≤ (0 : Int32) then (some (4 : Int32)) else (some (2 : Int32))) else (if v30 ≤ (0 : Int32) then (some (3 : Int32)) else (some (1 : Int32)))) else (some (5 : Int32))
abbrev wd_X0_machinePress (cy : Nat → ClassId) (o_t : Nat → Nat) (x_now : Nat → Int32) : va_W := [(o_t 0, .inr (0, [.ref (o_t 1)])), (o_t 1, .inl (cy 0, 13, .inl x_now))]
set_option maxHeartbeats 4000000 in
set_option maxRecDepth 100000 in
theorem w_X0_machinePress {p : Program} {l : Launch} {e : Env} {s : State} {m : MethodId} {args : Array Value} {below : List Frame} {meth : Method} {c : Code} {Q : State → Prop} {A : Nat → Prop} {H : Heap} {locs : List Loc} {ls : Array Slot} (D : va_G) (cy : Nat → ClassId) (t : Nat → Nat) (o_t : Nat → Nat) (x_now : Nat → Int32) (p1 : Int32) {out : Int32} (hf : X0_machinePress x_now p1 = some out) (hx : p.tables.exec = Jvm.exec) (hb : c.code = cX0_machinePress) (hml : c.maxLocals = 4) (hown : s.vm.findClass RX0 = some m.cls) (hts : ∀ w ∈ wsX0_machinePress, w.before args s = true) (hK : va_K D vwCl (TYS cy) s) (hE : EV t A s s.heap) (hA : ∀ q, s.heap.size ≤ q → A q) (hP : va_P D vwCl (wd_X0_machinePress cy o_t x_now) H) (hD : va_D A (wd_X0_machinePress cy o_t x_now)) (hS : va_S A s.heap H locs) (hl : lv_has ls 4 [(0, .ref (o_t 0)), (1, .int p1)]) (hR : ∀ (H : Heap) (locs : List Loc) (ls : Array Slot) (pc : Nat), va_P D vwCl (wd_X0_machinePress cy o_t x_now) H → va_D A (wd_X0_machinePress cy o_t x_now) → va_S A s.heap H locs → decode cX0_machinePress pc = .ok (.ireturn, 1) → W p l e (rmm 1 22) s m args below meth c H locs 0 0 Q (F0 m pc ls [.int out])) : W p l e (rmm 1 22) s m args below meth c H locs 0 0 Q (F0 m 0 ls []) := by
  have k0 := hts (.fieldLink RX0 9 "SeaGames$Board" "now" "[I") (List.mem_cons_of_mem _ (List.mem_append_left _ (List.mem_of_getElem? (i := 0) rfl)))
  have k1 : ∀ w ∈ u_ws RX0 TX0 1, w ∈ wsX0_machinePress := fun _ h => List.mem_cons_of_mem _ (List.mem_append_right _ h)
  have k2 := hts (.initialized RX7) (List.mem_cons_of_mem _ (List.mem_append_left _ (List.mem_of_getElem? (i := 11) rfl)))
  have k3 := hts (.static yX7_xOf) (List.mem_cons_of_mem _ (List.mem_append_left _ (List.mem_of_getElem? (i := 10) rfl)))
  have k4 := hts (.static yX7_yOf) (List.mem_cons_of_mem _ (List.mem_append_left _ (List.mem_of_getElem? (i := 13) rfl)))
  have k5 := hts (.methodLink RX0 69 Lib.Math.abs.name) (List.mem_cons_of_mem _ (List.mem_append_left _ (List.mem_of_getElem? (i := 1) rfl)))
  have k6 := hts (.static Lib.Math.abs.name) (List.mem_cons_of_mem _ (List.mem_append_left _ (List.mem_of_getElem? (i := 2) rfl)))
  have k7 := hts (.initialized "java/lang/Math") (List.mem_cons_of_mem _ (List.mem_append_left _ (List.mem_of_getElem? (i := 3) rfl)))
  have k8 := hts (.code Lib.Math.abs.name Lib.Math.abs.code 1 (some .int)) (List.mem_cons_of_mem _ (List.mem_append_left _ (List.mem_of_getElem? (i := 4) rfl)))
  rw [X0_machinePress] at hf
  refine lv_aload_n hx hb dX0_machinePress_0 rfl (lv_at hl 0 rfl) ?_
  refine lv_iload_n hx hb dX0_machinePress_1 rfl (lv_at hl 1 rfl) ?_
  obtain ⟨r2, hr2, hf⟩ := bd_s hf
  refine my_Vi (WS2 := (wd_X0_machinePress cy o_t x_now)) ⟨hx, hb, hml, hown, hts⟩ (c_X0_wayToBall l D cy t o_t x_now p1 hr2) (cwV 1 hts gX0_machinePress_X0_wayToBall rfl rfl rfl ⟨rfl, hd_X0_wayToBall⟩ ⟨Nat.le_of_ble_eq_true rfl, Nat.le_of_ble_eq_true rfl⟩) hK hE hP hD hS hA [0, 1] 2 0 0 rfl rfl rfl rfl (by decide +kernel) rfl rfl hl.1 rfl (Nat.le_of_ble_eq_true rfl) dX0_machinePress_2 ⟨Nat.le_of_ble_eq_true rfl, Nat.le_of_ble_eq_true rfl⟩ (fun H locs hP hD hS => ?_)
  refine lv_if_le (tgt := 10) hx hb dX0_machinePress_5 (by decide) (fun c5 => ?_) (fun c5 => ?_)
  · have hf := ifp c5 hf
    refine lv_aload_n hx hb dX0_machinePress_10 rfl (lv_at hl 0 rfl) ?_
    refine va_get (D := D) (ci := 0) (v := .ref (o_t 1)) (C := RX0) (T := TX0) (N := 1) hx hb hts k1 hown hK hP 0 rfl rfl 0 (by decide) k0 (fun _ h9 => h9) rfl dX0_machinePress_11 ?_
    refine lv_bipush (v := (6 : Int32)) hx hb dX0_machinePress_14 (by decide) ?_
    obtain ⟨v16, b16, ev16, hf⟩ := rd_s hf
    refine my_iald hx hb hK hP 1 rfl b16 ev16 dX0_machinePress_16 ?_
    obtain ⟨r17, hr17, hf⟩ := bd_s hf
    refine my_Ni (WS2 := (wd_X0_machinePress cy o_t x_now)) (host := RX7) ⟨hx, hb, hml, hown, hts⟩ (c_X7_xOf l D cy t v16 hr17) (va_cnB 1 hts gX0_machinePress_X7_xOf_n63 rfl rfl rfl (ev_n7 hE) k2 hd_X7_xOf ⟨Nat.le_of_ble_eq_true rfl, Nat.le_of_ble_eq_true rfl⟩) k3 hK hE hP hD hS hA [] 2 rfl rfl (by decide +kernel) rfl rfl hl.1 rfl (Nat.le_of_ble_eq_true rfl) dX0_machinePress_17 ⟨Nat.le_of_ble_eq_true rfl, Nat.le_of_ble_eq_true rfl⟩ (fun H locs hP hD hS => ?_)
    refine lv_aload_n hx hb dX0_machinePress_20 rfl (lv_at hl 0 rfl) ?_
    refine va_get (D := D) (ci := 0) (v := .ref (o_t 1)) (C := RX0) (T := TX0) (N := 1) hx hb hts k1 hown hK hP 0 rfl rfl 0 (by decide) k0 (fun _ h9 => h9) rfl dX0_machinePress_21 ?_
    refine lv_iload_n hx hb dX0_machinePress_24 rfl (lv_at hl 1 rfl) ?_
    obtain ⟨v25, b25, ev25, hf⟩ := rd_s hf
    refine my_iald hx hb hK hP 1 rfl b25 ev25 dX0_machinePress_25 ?_
    obtain ⟨r26, hr26, hf⟩ := bd_s hf
    refine my_Ni (WS2 := (wd_X0_machinePress cy o_t x_now)) (host := RX7) ⟨hx, hb, hml, hown, hts⟩ (c_X7_xOf l D cy t v25 hr26) (va_cnB 1 hts gX0_machinePress_X7_xOf_n63 rfl rfl rfl (ev_n7 hE) k2 hd_X7_xOf ⟨Nat.le_of_ble_eq_true rfl, Nat.le_of_ble_eq_true rfl⟩) k3 hK hE hP hD hS hA [] 2 rfl rfl (by decide +kernel) rfl rfl hl.1 rfl (Nat.le_of_ble_eq_true rfl) dX0_machinePress_26 ⟨Nat.le_of_ble_eq_true rfl, Nat.le_of_ble_eq_true rfl⟩ (fun H locs hP hD hS => ?_)
    refine lv_isub hx hb dX0_machinePress_29 ?_
    obtain ⟨v30, ev30, hf⟩ := nm_s hf
    refine my_topi ev30 ?_
    refine lv_istore_n (lv' := [(2, .int v30), (0, .ref (o_t 0)), (1, .int p1)]) hx hb dX0_machinePress_30 rfl hl (by decide) rfl (fun ls hl => ?_)
    refine lv_aload_n hx hb dX0_machinePress_31 rfl (lv_at hl 1 rfl) ?_
    refine va_get (D := D) (ci := 0) (v := .ref (o_t 1)) (C := RX0) (T := TX0) (N := 1) hx hb hts k1 hown hK hP 0 rfl rfl 0 (by decide) k0 (fun _ h9 => h9) rfl dX0_machinePress_32 ?_
    refine lv_bipush (v := (6 : Int32)) hx hb dX0_machinePress_35 (by decide) ?_
    obtain ⟨v37, b37, ev37, hf⟩ := rd_s hf
    refine my_iald hx hb hK hP 1 rfl b37 ev37 dX0_machinePress_37 ?_
    obtain ⟨r38, hr38, hf⟩ := bd_s hf
    refine my_Ni (WS2 := (wd_X0_machinePress cy o_t x_now)) (host := RX7) ⟨hx, hb, hml, hown, hts⟩ (c_X7_yOf l D cy t v37 hr38) (va_cnB 1 hts gX0_machinePress_X7_yOf_n66 rfl rfl rfl (ev_n8 hE) k2 hd_X7_yOf ⟨Nat.le_of_ble_eq_true rfl, Nat.le_of_ble_eq_true rfl⟩) k4 hK hE hP hD hS hA [] 2 rfl rfl (by decide +kernel) rfl rfl hl.1 rfl (Nat.le_of_ble_eq_true rfl) dX0_machinePress_38 ⟨Nat.le_of_ble_eq_true rfl, Nat.le_of_ble_eq_true rfl⟩ (fun H locs hP hD hS => ?_)
    refine lv_aload_n hx hb dX0_machinePress_41 rfl (lv_at hl 1 rfl) ?_
    refine va_get (D := D) (ci := 0) (v := .ref (o_t 1)) (C := RX0) (T := TX0) (N := 1) hx hb hts k1 hown hK hP 0 rfl rfl 0 (by decide) k0 (fun _ h9 => h9) rfl dX0_machinePress_42 ?_
    refine lv_iload_n hx hb dX0_machinePress_45 rfl (lv_at hl 2 rfl) ?_
    obtain ⟨v46, b46, ev46, hf⟩ := rd_s hf
    refine my_iald hx hb hK hP 1 rfl b46 ev46 dX0_machinePress_46 ?_
    obtain ⟨r47, hr47, hf⟩ := bd_s hf
    refine my_Ni (WS2 := (wd_X0_machinePress cy o_t x_now)) (host := RX7) ⟨hx, hb, hml, hown, hts⟩ (c_X7_yOf l D cy t v46 hr47) (va_cnB 1 hts gX0_machinePress_X7_yOf_n66 rfl rfl rfl (ev_n8 hE) k2 hd_X7_yOf ⟨Nat.le_of_ble_eq_true rfl, Nat.le_of_ble_eq_true rfl⟩) k4 hK hE hP hD hS hA [] 2 rfl rfl (by decide +kernel) rfl rfl hl.1 rfl (Nat.le_of_ble_eq_true rfl) dX0_machinePress_47 ⟨Nat.le_of_ble_eq_true rfl, Nat.le_of_ble_eq_true rfl⟩ (fun H locs hP hD hS => ?_)
    refine lv_isub hx hb dX0_machinePress_50 ?_
    obtain ⟨v51, ev51, hf⟩ := nm_s hf
    refine my_topi ev51 ?_
    refine lv_istore_n (lv' := [(3, .int v51), (2, .int v30), (0, .ref (o_t 0)), (1, .int p1)]) hx hb dX0_machinePress_51 rfl hl (by decide) rfl (fun ls hl => ?_)
    refine lv_iload_n hx hb dX0_machinePress_52 rfl (lv_at hl 1 rfl) ?_
    refine va_mabs hx hb (hml.trans hl.1.symm) hown k5 k6 k7 k8 (Nat.le_of_ble_eq_true rfl) (Nat.le_of_ble_eq_true rfl) (Nat.le_of_ble_eq_true rfl) (Nat.le_of_ble_eq_true rfl) dX0_machinePress_53 ?_
    refine lv_iload_n hx hb dX0_machinePress_56 rfl (lv_at hl 0 rfl) ?_
    refine va_mabs hx hb (hml.trans hl.1.symm) hown k5 k6 k7 k8 (Nat.le_of_ble_eq_true rfl) (Nat.le_of_ble_eq_true rfl) (Nat.le_of_ble_eq_true rfl) (Nat.le_of_ble_eq_true rfl) dX0_machinePress_57 ?_
    refine lv_icmp_lt (tgt := 73) hx hb dX0_machinePress_60 (by decide) (fun c60 => ?_) (fun c60 => ?_)
    · have hf := ifp c60 hf
      refine lv_iload_n hx hb dX0_machinePress_73 rfl (lv_at hl 0 rfl) ?_
      refine lv_if_le (tgt := 81) hx hb dX0_machinePress_74 (by decide) (fun c74 => ?_) (fun c74 => ?_)
      · have hf := ifp c74 hf
        refine lv_iconst (v := (4 : Int32)) hx hb dX0_machinePress_81 (by decide) ?_
        obtain rfl := Option.some.inj hf
        exact hR _ _ _ _ hP hD hS dX0_machinePress_82
      · have hf := ifn c74 hf
        refine lv_iconst (v := (2 : Int32)) hx hb dX0_machinePress_77 (by decide) ?_
        refine lv_goto (tgt := 82) hx hb dX0_machinePress_78 (by decide) ?_
        obtain rfl := Option.some.inj hf
        exact hR _ _ _ _ hP hD hS dX0_machinePress_82
    · have hf := ifn c60 hf
      refine lv_iload_n hx hb dX0_machinePress_63 rfl (lv_at hl 1 rfl) ?_
      refine lv_if_le (tgt := 71) hx hb dX0_machinePress_64 (by decide) (fun c64 => ?_) (fun c64 => ?_)
      · have hf := ifp c64 hf
        refine lv_iconst (v := (3 : Int32)) hx hb dX0_machinePress_71 (by decide) ?_
        obtain rfl := Option.some.inj hf
        exact hR _ _ _ _ hP hD hS dX0_machinePress_72
      · have hf := ifn c64 hf
        refine lv_iconst (v := (1 : Int32)) hx hb dX0_machinePress_67 (by decide) ?_
        refine lv_goto (tgt := 72) hx hb dX0_machinePress_68 (by decide) ?_
        obtain rfl := Option.some.inj hf
        exact hR _ _ _ _ hP hD hS dX0_machinePress_72
  · have hf := ifn c5 hf
    refine lv_iconst (v := (5 : Int32)) hx hb dX0_machinePress_8 (by decide) ?_
    obtain rfl := Option.some.inj hf
    exact hR _ _ _ _ hP hD hS dX0_machinePress_9
theorem hd_X0_machinePress : yX0_machinePress.cls ≠ "java/lang/invoke/MethodHandle" ∧ yX0_machinePress.cls ≠ "java/lang/invoke/VarHandle" ∧ (parseMethodDescriptor yX0_machinePress.desc).map (fun d => d.parameters.length) = some 1 := by decide +kernel
set_option maxRecDepth 100000 in
theorem c_X0_machinePress (l : Launch) (D : va_G) (cy : Nat → ClassId) (t : Nat → Nat) (o_t : Nat → Nat) (x_now : Nat → Int32) (p1 : Int32) {out : Int32} (hf : X0_machinePress x_now p1 = some out) : ctI l yX0_machinePress wsX0_machinePress 1 22 D cy t [.ref (o_t 0), .int p1] (wd_X0_machinePress cy o_t x_now) (wd_X0_machinePress cy o_t x_now) out := by
  refine ⟨rfl, ?_⟩
  intro sz
  refine Met.ofW (cc := cX0_machinePress) (maxL := 4) (ret := (some .int)) (by decide) rfl ?_
  intro p e s m args below meth c s₁ B hml hv
  obtain ⟨rfl, hsz, hP, hK, hD0, hE⟩ := hv
  have hts := atoms_spec (ws := wsX0_machinePress) B.pre
  have hown : s.vm.findClass RX0 = some m.cls := findClass_of_methodNamed B.named
  have hlocks := B.notSynchronized
  subst hsz
  have hD := hD0.self (sz := s.heap.size)
  have hl := lv_entry ([.ref (o_t 0), .int p1]) (n := 4) (Nat.le_of_ble_eq_true rfl)
  rw [lg_entry_eq]
  generalize (lg_sl ([.ref (o_t 0), .int p1]) ++ List.replicate (4 - (lg_sl ([.ref (o_t 0), .int p1])).length) Slot.unset).toArray = ls at hl ⊢
  exact w_X0_machinePress D cy t o_t x_now p1 hf B.exec B.bytes hml hown hts hK hE (fun q h => Or.inr h) hP hD va_S.rf hl (fun H locs ls pc hP hD hS hdg => W.iret B.exec B.bytes B.returns (fun t ht hW => ⟨⟨_, (), rfl, rfl, ctB_of ht hP⟩, hS.F ht⟩) hS.2.2 hdg)

noncomputable def X0_isFree_L30_B (x_now : Nat → Int32) (x_a1_w : Int32) (x_a1_h : Int32) (x_a1_hands : Int32) (rec30 : Int32 → Int32 → Option (Int32)) (l2 : Int32) (l3 : Int32) : Option (Int32) :=
  if x_a1_hands ≤ l3 then (zb (1 : Int32) <| some (1 : Int32)) else (rd x_now 13 l3 fun v43 => if v43 = l2 then (zb (0 : Int32) <| some (0 : Int32)) else (nm (l3 + (1 : Int32)) fun v50 => rec30  l2 v50))
noncomputable def X0_isFree_L30 (x_now : Nat → Int32) (x_a1_w : Int32) (x_a1_h : Int32) (x_a1_hands : Int32) : Nat → Int32 → Int32 → Option (Int32)
  | 0, _, _ => none
  | n + 1, y0, y1 => X0_isFree_L30_B x_now x_a1_w x_a1_h x_a1_hands  (X0_isFree_L30 x_now x_a1_w x_a1_h x_a1_hands  n) y0 y1
noncomputable def X0_isFree (x_now : Nat → Int32) (x_a1_w : Int32) (x_a1_h : Int32) (x_a1_hands : Int32) (p2 : Int32) : Option (Int32) :=
  if p2 < (0 : Int32) then (zb (0 : Int32) <| some (0 : Int32)) else (bd (X7_xOf p2) fun r5 => if x_a1_w ≤ r5 then (zb (0 : Int32) <| some (0 : Int32)) else (bd (X7_yOf p2) fun r16 => if r16 < x_a1_h then (X0_isFree_L30 x_now x_a1_w x_a1_h x_a1_hands  FU  p2 (0 : Int32)) else (zb (0 : Int32) <| some (0 : Int32))))
abbrev wd_X0_isFree (cy : Nat → ClassId) (o_t o_a1 : Nat → Nat) (x_now : Nat → Int32) (x_a1_w : Int32) (x_a1_h : Int32) (x_a1_hands : Int32) : va_W := [(o_t 0, .inr (0, [.ref (o_t 1)])), (o_t 1, .inl (cy 0, 13, .inl x_now)), (o_a1 0, .inr (5, [.int x_a1_w, .int x_a1_h, .int x_a1_hands, .ref (o_a1 4), .ref (o_a1 5), .ref (o_a1 6), .ref (o_a1 7)]))]
set_option maxHeartbeats 4000000 in
set_option maxRecDepth 100000 in
theorem w_X0_isFree {p : Program} {l : Launch} {e : Env} {s : State} {m : MethodId} {args : Array Value} {below : List Frame} {meth : Method} {c : Code} {Q : State → Prop} {A : Nat → Prop} {H : Heap} {locs : List Loc} {ls : Array Slot} (D : va_G) (cy : Nat → ClassId) (t : Nat → Nat) (o_t o_a1 : Nat → Nat) (x_now : Nat → Int32) (x_a1_w : Int32) (x_a1_h : Int32) (x_a1_hands : Int32) (p2 : Int32) {out : Int32} (hf : X0_isFree x_now x_a1_w x_a1_h x_a1_hands p2 = some out) (hx : p.tables.exec = Jvm.exec) (hb : c.code = cX0_isFree) (hml : c.maxLocals = 4) (hown : s.vm.findClass RX0 = some m.cls) (hts : ∀ w ∈ wsX0_isFree, w.before args s = true) (hK : va_K D vwCl (TYS cy) s) (hE : EV t A s s.heap) (hA : ∀ q, s.heap.size ≤ q → A q) (hP : va_P D vwCl (wd_X0_isFree cy o_t o_a1 x_now x_a1_w x_a1_h x_a1_hands) H) (hD : va_D A (wd_X0_isFree cy o_t o_a1 x_now x_a1_w x_a1_h x_a1_hands)) (hS : va_S A s.heap H locs) (hl : lv_has ls 4 [(0, .ref (o_t 0)), (1, .ref (o_a1 0)), (2, .int p2)]) (hR : ∀ (H : Heap) (locs : List Loc) (ls : Array Slot) (pc : Nat), va_P D vwCl (wd_X0_isFree cy o_t o_a1 x_now x_a1_w x_a1_h x_a1_hands) H → va_D A (wd_X0_isFree cy o_t o_a1 x_now x_a1_w x_a1_h x_a1_hands) → va_S A s.heap H locs → narrow .boolean (.int out) = .int out → decode cX0_isFree pc = .ok (.ireturn, 1) → W p l e (rmm 1 20) s m args below meth c H locs 0 0 Q (F0 m pc ls [.int out])) : W p l e (rmm 1 20) s m args below meth c H locs 0 0 Q (F0 m 0 ls []) := by
  have k0 := hts (.initialized RX7) (List.mem_cons_of_mem _ (List.mem_append_left _ (List.mem_append_left _ (List.mem_of_getElem? (i := 5) rfl))))
  have k1 := hts (.static yX7_xOf) (List.mem_cons_of_mem _ (List.mem_append_left _ (List.mem_append_left _ (List.mem_of_getElem? (i := 4) rfl))))
  have k2 := hts (.fieldLink RX0 27 "SeaGames$Play" "w" "I") (List.mem_cons_of_mem _ (List.mem_append_left _ (List.mem_append_left _ (List.mem_of_getElem? (i := 0) rfl))))
  have k3 : ∀ w ∈ u_ws RX5 TX5 7, w ∈ wsX0_isFree := fun _ h => List.mem_cons_of_mem _ (List.mem_append_left _ (List.mem_append_right _ h))
  have k4 := hts (.static yX7_yOf) (List.mem_cons_of_mem _ (List.mem_append_left _ (List.mem_append_left _ (List.mem_of_getElem? (i := 7) rfl))))
  have k5 := hts (.fieldLink RX0 34 "SeaGames$Play" "h" "I") (List.mem_cons_of_mem _ (List.mem_append_left _ (List.mem_append_left _ (List.mem_of_getElem? (i := 1) rfl))))
  have k6 := hts (.fieldLink RX0 21 "SeaGames$Play" "hands" "I") (List.mem_cons_of_mem _ (List.mem_append_left _ (List.mem_append_left _ (List.mem_of_getElem? (i := 2) rfl))))
  have k7 := hts (.fieldLink RX0 9 "SeaGames$Board" "now" "[I") (List.mem_cons_of_mem _ (List.mem_append_left _ (List.mem_append_left _ (List.mem_of_getElem? (i := 3) rfl))))
  have k8 : ∀ w ∈ u_ws RX0 TX0 1, w ∈ wsX0_isFree := fun _ h => List.mem_cons_of_mem _ (List.mem_append_right _ h)
  rw [X0_isFree] at hf
  refine lv_iload_n hx hb dX0_isFree_0 rfl (lv_at hl 2 rfl) ?_
  refine lv_if_lt (tgt := 26) hx hb dX0_isFree_1 (by decide) (fun c1 => ?_) (fun c1 => ?_)
  · have hf := ifp c1 hf
    refine lv_iconst (v := (0 : Int32)) hx hb dX0_isFree_26 (by decide) ?_
    obtain ⟨z27, hf⟩ := zb_s hf
    obtain rfl := Option.some.inj hf
    exact hR _ _ _ _ hP hD hS z27 dX0_isFree_27
  · have hf := ifn c1 hf
    refine lv_iload_n hx hb dX0_isFree_4 rfl (lv_at hl 2 rfl) ?_
    obtain ⟨r5, hr5, hf⟩ := bd_s hf
    refine my_Ni (WS2 := (wd_X0_isFree cy o_t o_a1 x_now x_a1_w x_a1_h x_a1_hands)) (host := RX7) ⟨hx, hb, hml, hown, hts⟩ (c_X7_xOf l D cy t p2 hr5) (va_cnB 1 hts gX0_isFree_X7_xOf_n63 rfl rfl rfl (ev_n7 hE) k0 hd_X7_xOf ⟨Nat.le_of_ble_eq_true rfl, Nat.le_of_ble_eq_true rfl⟩) k1 hK hE hP hD hS hA [] 3 rfl rfl (by decide +kernel) rfl rfl hl.1 rfl (Nat.le_of_ble_eq_true rfl) dX0_isFree_5 ⟨Nat.le_of_ble_eq_true rfl, Nat.le_of_ble_eq_true rfl⟩ (fun H locs hP hD hS => ?_)
    refine lv_aload_n hx hb dX0_isFree_8 rfl (lv_at hl 1 rfl) ?_
    refine va_get (D := D) (ci := 5) (v := .int x_a1_w) (C := RX5) (T := TX5) (N := 7) hx hb hts k3 hown hK hP 2 rfl rfl 0 (by decide) k2 (fun _ h9 => h9) rfl dX0_isFree_9 ?_
    refine lv_icmp_ge (tgt := 26) hx hb dX0_isFree_12 (by decide) (fun c12 => ?_) (fun c12 => ?_)
    · have hf := ifp c12 hf
      refine lv_iconst (v := (0 : Int32)) hx hb dX0_isFree_26 (by decide) ?_
      obtain ⟨z27, hf⟩ := zb_s hf
      obtain rfl := Option.some.inj hf
      exact hR _ _ _ _ hP hD hS z27 dX0_isFree_27
    · have hf := ifn c12 hf
      refine lv_iload_n hx hb dX0_isFree_15 rfl (lv_at hl 2 rfl) ?_
      obtain ⟨r16, hr16, hf⟩ := bd_s hf
      refine my_Ni (WS2 := (wd_X0_isFree cy o_t o_a1 x_now x_a1_w x_a1_h x_a1_hands)) (host := RX7) ⟨hx, hb, hml, hown, hts⟩ (c_X7_yOf l D cy t p2 hr16) (va_cnB 1 hts gX0_isFree_X7_yOf_n66 rfl rfl rfl (ev_n8 hE) k0 hd_X7_yOf ⟨Nat.le_of_ble_eq_true rfl, Nat.le_of_ble_eq_true rfl⟩) k4 hK hE hP hD hS hA [] 3 rfl rfl (by decide +kernel) rfl rfl hl.1 rfl (Nat.le_of_ble_eq_true rfl) dX0_isFree_16 ⟨Nat.le_of_ble_eq_true rfl, Nat.le_of_ble_eq_true rfl⟩ (fun H locs hP hD hS => ?_)
      refine lv_aload_n hx hb dX0_isFree_19 rfl (lv_at hl 1 rfl) ?_
      refine va_get (D := D) (ci := 5) (v := .int x_a1_h) (C := RX5) (T := TX5) (N := 7) hx hb hts k3 hown hK hP 2 rfl rfl 1 (by decide) k5 (fun _ h9 => h9) rfl dX0_isFree_20 ?_
      refine lv_icmp_lt (tgt := 28) hx hb dX0_isFree_23 (by decide) (fun c23 => ?_) (fun c23 => ?_)
      · have hf := ifp c23 hf
        have h30 : ∀ (n30 : Nat) (l2 : Int32) (l3 : Int32) (H : Heap) (locs : List Loc) (ls : Array Slot), X0_isFree_L30 x_now x_a1_w x_a1_h x_a1_hands n30 l2 l3 = some out → va_P D vwCl (wd_X0_isFree cy o_t o_a1 x_now x_a1_w x_a1_h x_a1_hands) H → va_D A (wd_X0_isFree cy o_t o_a1 x_now x_a1_w x_a1_h x_a1_hands) → va_S A s.heap H locs → lv_has ls 4 [(0, .ref (o_t 0)), (1, .ref (o_a1 0)), (2, .int l2), (3, .int l3)] → W p l e (rmm 1 20) s m args below meth c H locs 0 0 Q (F0 m 30 ls []) := by
          intro n30
          induction n30 with
          | zero =>
            intro _ _ _ _ _ hf
            exact nomatch (show (none : Option _) = some out from hf)
          | succ n30 ih30 =>
            intro l2 l3 H locs ls hf hP hD hS hl
            have hf : X0_isFree_L30_B x_now x_a1_w x_a1_h x_a1_hands (X0_isFree_L30 x_now x_a1_w x_a1_h x_a1_hands n30) l2 l3 = some out := hf
            rw [X0_isFree_L30_B] at hf
            refine lv_iload_n hx hb dX0_isFree_30 rfl (lv_at hl 3 rfl) ?_
            refine lv_aload_n hx hb dX0_isFree_31 rfl (lv_at hl 1 rfl) ?_
            refine va_get (D := D) (ci := 5) (v := .int x_a1_hands) (C := RX5) (T := TX5) (N := 7) hx hb hts k3 hown hK hP 2 rfl rfl 2 (by decide) k6 (fun _ h9 => h9) rfl dX0_isFree_32 ?_
            refine lv_icmp_ge (tgt := 56) hx hb dX0_isFree_35 (by decide) (fun c35 => ?_) (fun c35 => ?_)
            · have hf := ifp c35 hf
              refine lv_iconst (v := (1 : Int32)) hx hb dX0_isFree_56 (by decide) ?_
              obtain ⟨z57, hf⟩ := zb_s hf
              obtain rfl := Option.some.inj hf
              exact hR _ _ _ _ hP hD hS z57 dX0_isFree_57
            · have hf := ifn c35 hf
              refine lv_aload_n hx hb dX0_isFree_38 rfl (lv_at hl 0 rfl) ?_
              refine va_get (D := D) (ci := 0) (v := .ref (o_t 1)) (C := RX0) (T := TX0) (N := 1) hx hb hts k8 hown hK hP 0 rfl rfl 0 (by decide) k7 (fun _ h9 => h9) rfl dX0_isFree_39 ?_
              refine lv_iload_n hx hb dX0_isFree_42 rfl (lv_at hl 3 rfl) ?_
              obtain ⟨v43, b43, ev43, hf⟩ := rd_s hf
              refine my_iald hx hb hK hP 1 rfl b43 ev43 dX0_isFree_43 ?_
              refine lv_iload_n hx hb dX0_isFree_44 rfl (lv_at hl 2 rfl) ?_
              refine lv_icmp_ne (tgt := 50) hx hb dX0_isFree_45 (by decide) (fun c45 => ?_) (fun c45 => ?_)
              · have hf := ifn c45 hf
                obtain ⟨v50, ev50, hf⟩ := nm_s hf
                refine lv_iinc (v := v50) (lv' := [(3, .int v50), (0, .ref (o_t 0)), (1, .ref (o_a1 0)), (2, .int l2)]) hx hb dX0_isFree_50 hl (k := 3) rfl (by rw [ev50]; rfl) (by decide) rfl (fun ls hl => ?_)
                refine lv_goto (tgt := 30) hx hb dX0_isFree_53 (by decide) ?_
                exact ih30 _ _ _ _ _ hf hP hD hS (lv_sub hl [1, 2, 3, 0] rfl)
              · have hf := ifp c45 hf
                refine lv_iconst (v := (0 : Int32)) hx hb dX0_isFree_48 (by decide) ?_
                obtain ⟨z49, hf⟩ := zb_s hf
                obtain rfl := Option.some.inj hf
                exact hR _ _ _ _ hP hD hS z49 dX0_isFree_49
        refine lv_iconst (v := (0 : Int32)) hx hb dX0_isFree_28 (by decide) ?_
        refine lv_istore_n (lv' := [(3, .int (0 : Int32)), (0, .ref (o_t 0)), (1, .ref (o_a1 0)), (2, .int p2)]) hx hb dX0_isFree_29 rfl hl (by decide) rfl (fun ls hl => ?_)
        exact h30 FU _ _ _ _ _ hf hP hD hS (lv_sub hl [1, 2, 3, 0] rfl)
      · have hf := ifn c23 hf
        refine lv_iconst (v := (0 : Int32)) hx hb dX0_isFree_26 (by decide) ?_
        obtain ⟨z27, hf⟩ := zb_s hf
        obtain rfl := Option.some.inj hf
        exact hR _ _ _ _ hP hD hS z27 dX0_isFree_27
theorem hd_X0_isFree : yX0_isFree.cls ≠ "java/lang/invoke/MethodHandle" ∧ yX0_isFree.cls ≠ "java/lang/invoke/VarHandle" ∧ (parseMethodDescriptor yX0_isFree.desc).map (fun d => d.parameters.length) = some 2 := by decide +kernel
set_option maxRecDepth 100000 in
theorem c_X0_isFree (l : Launch) (D : va_G) (cy : Nat → ClassId) (t : Nat → Nat) (o_t o_a1 : Nat → Nat) (x_now : Nat → Int32) (x_a1_w : Int32) (x_a1_h : Int32) (x_a1_hands : Int32) (p2 : Int32) {out : Int32} (hf : X0_isFree x_now x_a1_w x_a1_h x_a1_hands p2 = some out) : ctI l yX0_isFree wsX0_isFree 1 20 D cy t [.ref (o_t 0), .ref (o_a1 0), .int p2] (wd_X0_isFree cy o_t o_a1 x_now x_a1_w x_a1_h x_a1_hands) (wd_X0_isFree cy o_t o_a1 x_now x_a1_w x_a1_h x_a1_hands) out := by
  refine ⟨rfl, ?_⟩
  intro sz
  refine Met.ofW (cc := cX0_isFree) (maxL := 4) (ret := (some .boolean)) (by decide) rfl ?_
  intro p e s m args below meth c s₁ B hml hv
  obtain ⟨rfl, hsz, hP, hK, hD0, hE⟩ := hv
  have hts := atoms_spec (ws := wsX0_isFree) B.pre
  have hown : s.vm.findClass RX0 = some m.cls := findClass_of_methodNamed B.named
  have hlocks := B.notSynchronized
  subst hsz
  have hD := hD0.self (sz := s.heap.size)
  have hl := lv_entry ([.ref (o_t 0), .ref (o_a1 0), .int p2]) (n := 4) (Nat.le_of_ble_eq_true rfl)
  rw [lg_entry_eq]
  generalize (lg_sl ([.ref (o_t 0), .ref (o_a1 0), .int p2]) ++ List.replicate (4 - (lg_sl ([.ref (o_t 0), .ref (o_a1 0), .int p2])).length) Slot.unset).toArray = ls at hl ⊢
  exact w_X0_isFree D cy t o_t o_a1 x_now x_a1_w x_a1_h x_a1_hands p2 hf B.exec B.bytes hml hown hts hK hE (fun q h => Or.inr h) hP hD va_S.rf hl (fun H locs ls pc hP hD hS z hdg => W.zret B.exec B.bytes B.returns z (fun t ht hW => ⟨⟨_, (), rfl, rfl, ctB_of ht hP⟩, hS.F ht⟩) hS.2.2 hdg)

noncomputable def X0_moveBall (x_a1_w : Int32) (x_a1_h : Int32) (x_a1_hands : Int32) (x_now : Nat → Int32) (p2 : Int32) : Option (Int32 × (Nat → Int32)) :=
  rd x_now 13 (6 : Int32) fun v6 => rd st_step 5 p2 fun v11 => nm (v6 + v11) fun v13 => bd (X0_isFree x_now x_a1_w x_a1_h x_a1_hands v13) fun r17 => if r17 = (0 : Int32) then (zb (0 : Int32) <| some ((0 : Int32), x_now)) else (wrI x_now 13 (6 : Int32) v13 fun w32 => zb (1 : Int32) <| some ((1 : Int32), w32))
abbrev wd_X0_moveBall (cy : Nat → ClassId) (o_t o_a1 : Nat → Nat) (x_now : Nat → Int32) (x_a1_w : Int32) (x_a1_h : Int32) (x_a1_hands : Int32) : va_W := [(o_t 0, .inr (0, [.ref (o_t 1)])), (o_t 1, .inl (cy 0, 13, .inl x_now)), (o_a1 0, .inr (5, [.int x_a1_w, .int x_a1_h, .int x_a1_hands, .ref (o_a1 4), .ref (o_a1 5), .ref (o_a1 6), .ref (o_a1 7)]))]
set_option maxHeartbeats 4000000 in
set_option maxRecDepth 100000 in
theorem w_X0_moveBall {p : Program} {l : Launch} {e : Env} {s : State} {m : MethodId} {args : Array Value} {below : List Frame} {meth : Method} {c : Code} {Q : State → Prop} {A : Nat → Prop} {H : Heap} {locs : List Loc} {ls : Array Slot} (D : va_G) (cy : Nat → ClassId) (t : Nat → Nat) (o_t o_a1 : Nat → Nat) (x_now : Nat → Int32) (x_a1_w : Int32) (x_a1_h : Int32) (x_a1_hands : Int32) (p2 : Int32) {out : Int32 × (Nat → Int32)} (hf : X0_moveBall x_a1_w x_a1_h x_a1_hands x_now p2 = some out) (hx : p.tables.exec = Jvm.exec) (hb : c.code = cX0_moveBall) (hml : c.maxLocals = 4) (hown : s.vm.findClass RX0 = some m.cls) (hts : ∀ w ∈ wsX0_moveBall, w.before args s = true) (hK : va_K D vwCl (TYS cy) s) (hE : EV t A s s.heap) (hA : ∀ q, s.heap.size ≤ q → A q) (hP : va_P D vwCl (wd_X0_moveBall cy o_t o_a1 x_now x_a1_w x_a1_h x_a1_hands) H) (hD : va_D A (wd_X0_moveBall cy o_t o_a1 x_now x_a1_w x_a1_h x_a1_hands)) (hS : va_S A s.heap H locs) (hl : lv_has ls 4 [(0, .ref (o_t 0)), (1, .ref (o_a1 0)), (2, .int p2)]) (hR : ∀ (H : Heap) (locs : List Loc) (ls : Array Slot) (pc : Nat), va_P D vwCl (wd_X0_moveBall cy o_t o_a1 out.2 x_a1_w x_a1_h x_a1_hands) H → va_D A (wd_X0_moveBall cy o_t o_a1 out.2 x_a1_w x_a1_h x_a1_hands) → va_S A s.heap H locs → narrow .boolean (.int out.1) = .int out.1 → decode cX0_moveBall pc = .ok (.ireturn, 1) → W p l e (rmm 2 43) s m args below meth c H locs 0 0 Q (F0 m pc ls [.int out.1])) : W p l e (rmm 2 43) s m args below meth c H locs 0 0 Q (F0 m 0 ls []) := by
  have k0 := hts (.fieldLink RX0 9 "SeaGames$Board" "now" "[I") (List.mem_cons_of_mem _ (List.mem_append_left _ (List.mem_append_left _ (List.mem_of_getElem? (i := 0) rfl))))
  have k1 : ∀ w ∈ u_ws RX0 TX0 1, w ∈ wsX0_moveBall := fun _ h => List.mem_cons_of_mem _ (List.mem_append_left _ (List.mem_append_right _ h))
  rw [X0_moveBall] at hf
  refine lv_aload_n hx hb dX0_moveBall_0 rfl (lv_at hl 0 rfl) ?_
  refine va_get (D := D) (ci := 0) (v := .ref (o_t 1)) (C := RX0) (T := TX0) (N := 1) hx hb hts k1 hown hK hP 0 rfl rfl 0 (by decide) k0 (fun _ h9 => h9) rfl dX0_moveBall_1 ?_
  refine lv_bipush (v := (6 : Int32)) hx hb dX0_moveBall_4 (by decide) ?_
  obtain ⟨v6, b6, ev6, hf⟩ := rd_s hf
  refine my_iald hx hb hK hP 1 rfl b6 ev6 dX0_moveBall_6 ?_
  refine va_getsN hx hb hE.1.1.1 hS hown (va_Nw.use rfl hE.2.1) (fun _ h9 => h9) dX0_moveBall_7 ?_
  refine lv_iload_n hx hb dX0_moveBall_10 rfl (lv_at hl 2 rfl) ?_
  obtain ⟨v11, b11, ev11, hf⟩ := rd_s hf
  refine my_tald hx hb hE.1.1.2 hS b11 ev11 dX0_moveBall_11 ?_
  refine lv_iadd hx hb dX0_moveBall_12 ?_
  obtain ⟨v13, ev13, hf⟩ := nm_s hf
  refine my_topi ev13 ?_
  refine lv_istore_n (lv' := [(3, .int v13), (0, .ref (o_t 0)), (1, .ref (o_a1 0)), (2, .int p2)]) hx hb dX0_moveBall_13 rfl hl (by decide) rfl (fun ls hl => ?_)
  refine lv_aload_n hx hb dX0_moveBall_14 rfl (lv_at hl 1 rfl) ?_
  refine lv_aload_n hx hb dX0_moveBall_15 rfl (lv_at hl 2 rfl) ?_
  refine lv_iload_n hx hb dX0_moveBall_16 rfl (lv_at hl 0 rfl) ?_
  obtain ⟨r17, hr17, hf⟩ := bd_s hf
  refine my_Vi (WS2 := (wd_X0_moveBall cy o_t o_a1 x_now x_a1_w x_a1_h x_a1_hands)) ⟨hx, hb, hml, hown, hts⟩ (c_X0_isFree l D cy t o_t o_a1 x_now x_a1_w x_a1_h x_a1_hands v13 hr17) (cwV 2 hts gX0_moveBall_X0_isFree rfl rfl rfl ⟨rfl, hd_X0_isFree⟩ ⟨Nat.le_of_ble_eq_true rfl, Nat.le_of_ble_eq_true rfl⟩) hK hE hP hD hS hA [0, 1, 2] 3 0 0 rfl rfl rfl rfl (by decide +kernel) rfl rfl hl.1 rfl (Nat.le_of_ble_eq_true rfl) dX0_moveBall_17 ⟨Nat.le_of_ble_eq_true rfl, Nat.le_of_ble_eq_true rfl⟩ (fun H locs hP hD hS => ?_)
  refine lv_if_ne (tgt := 25) hx hb dX0_moveBall_20 (by decide) (fun c20 => ?_) (fun c20 => ?_)
  · have hf := ifn c20 hf
    refine lv_aload_n hx hb dX0_moveBall_25 rfl (lv_at hl 1 rfl) ?_
    refine va_get (D := D) (ci := 0) (v := .ref (o_t 1)) (C := RX0) (T := TX0) (N := 1) hx hb hts k1 hown hK hP 0 rfl rfl 0 (by decide) k0 (fun _ h9 => h9) rfl dX0_moveBall_26 ?_
    refine lv_bipush (v := (6 : Int32)) hx hb dX0_moveBall_29 (by decide) ?_
    refine lv_iload_n hx hb dX0_moveBall_31 rfl (lv_at hl 0 rfl) ?_
    obtain ⟨w32, b32, ew32, hf⟩ := wrI_s hf
    refine my_iast (ws2 := (wd_X0_moveBall cy o_t o_a1 w32 x_a1_w x_a1_h x_a1_hands)) hx hb hK hP hD hS 1 rfl b32 ew32 rfl dX0_moveBall_32 (fun H locs hP hD hS => ?_)
    refine lv_iconst (v := (1 : Int32)) hx hb dX0_moveBall_33 (by decide) ?_
    obtain ⟨z34, hf⟩ := zb_s hf
    obtain rfl := Option.some.inj hf
    exact hR _ _ _ _ hP hD hS z34 dX0_moveBall_34
  · have hf := ifp c20 hf
    refine lv_iconst (v := (0 : Int32)) hx hb dX0_moveBall_23 (by decide) ?_
    obtain ⟨z24, hf⟩ := zb_s hf
    obtain rfl := Option.some.inj hf
    exact hR _ _ _ _ hP hD hS z24 dX0_moveBall_24
theorem hd_X0_moveBall : yX0_moveBall.cls ≠ "java/lang/invoke/MethodHandle" ∧ yX0_moveBall.cls ≠ "java/lang/invoke/VarHandle" ∧ (parseMethodDescriptor yX0_moveBall.desc).map (fun d => d.parameters.length) = some 2 := by decide +kernel
set_option maxRecDepth 100000 in
theorem c_X0_moveBall (l : Launch) (D : va_G) (cy : Nat → ClassId) (t : Nat → Nat) (o_t o_a1 : Nat → Nat) (x_now : Nat → Int32) (x_a1_w : Int32) (x_a1_h : Int32) (x_a1_hands : Int32) (p2 : Int32) {out : Int32 × (Nat → Int32)} (hf : X0_moveBall x_a1_w x_a1_h x_a1_hands x_now p2 = some out) : ctI l yX0_moveBall wsX0_moveBall 2 43 D cy t [.ref (o_t 0), .ref (o_a1 0), .int p2] (wd_X0_moveBall cy o_t o_a1 x_now x_a1_w x_a1_h x_a1_hands) (wd_X0_moveBall cy o_t o_a1 out.2 x_a1_w x_a1_h x_a1_hands) out.1 := by
  refine ⟨rfl, ?_⟩
  intro sz
  refine Met.ofW (cc := cX0_moveBall) (maxL := 4) (ret := (some .boolean)) (by decide) rfl ?_
  intro p e s m args below meth c s₁ B hml hv
  obtain ⟨rfl, hsz, hP, hK, hD0, hE⟩ := hv
  have hts := atoms_spec (ws := wsX0_moveBall) B.pre
  have hown : s.vm.findClass RX0 = some m.cls := findClass_of_methodNamed B.named
  have hlocks := B.notSynchronized
  subst hsz
  have hD := hD0.self (sz := s.heap.size)
  have hl := lv_entry ([.ref (o_t 0), .ref (o_a1 0), .int p2]) (n := 4) (Nat.le_of_ble_eq_true rfl)
  rw [lg_entry_eq]
  generalize (lg_sl ([.ref (o_t 0), .ref (o_a1 0), .int p2]) ++ List.replicate (4 - (lg_sl ([.ref (o_t 0), .ref (o_a1 0), .int p2])).length) Slot.unset).toArray = ls at hl ⊢
  exact w_X0_moveBall D cy t o_t o_a1 x_now x_a1_w x_a1_h x_a1_hands p2 hf B.exec B.bytes hml hown hts hK hE (fun q h => Or.inr h) hP hD va_S.rf hl (fun H locs ls pc hP hD hS z hdg => W.zret B.exec B.bytes B.returns z (fun t ht hW => ⟨⟨_, (), rfl, rfl, ctB_of ht hP⟩, hS.F ht⟩) hS.2.2 hdg)

noncomputable def X0_kick_L22_B (x_a1_w : Int32) (x_a1_h : Int32) (x_a1_hands : Int32) (rec22 : (Nat → Int32) → Int32 → Int32 → Int32 → Int32 → Option ((Nat → Int32))) (x_now : Nat → Int32) (l3 : Int32) (l4 : Int32) (l5 : Int32) (l6 : Int32) : Option ((Nat → Int32)) :=
  if l3 ≤ l6 then (some x_now) else (if l5 = (0 : Int32) then (some x_now) else (bd (X0_moveBall x_a1_w x_a1_h x_a1_hands x_now l4) fun r37 => nm (l6 + (1 : Int32)) fun v42 => rec22 r37.2 l3 l4 r37.1 v42))
noncomputable def X0_kick_L22 (x_a1_w : Int32) (x_a1_h : Int32) (x_a1_hands : Int32) : Nat → (Nat → Int32) → Int32 → Int32 → Int32 → Int32 → Option ((Nat → Int32))
  | 0, _, _, _, _, _ => none
  | n + 1, y0, y1, y2, y3, y4 => X0_kick_L22_B x_a1_w x_a1_h x_a1_hands  (X0_kick_L22 x_a1_w x_a1_h x_a1_hands  n) y0 y1 y2 y3 y4
noncomputable def X0_kick_J17 (x_a1_w : Int32) (x_a1_h : Int32) (x_a1_hands : Int32) (x_now : Nat → Int32) (l3 : Int32) (l4 : Int32) (s0 : Int32) : Option ((Nat → Int32)) :=
  X0_kick_L22 x_a1_w x_a1_h x_a1_hands  FU x_now l3 l4 s0 (0 : Int32)
noncomputable def X0_kick (x_a1_w : Int32) (x_a1_h : Int32) (x_a1_hands : Int32) (x_now : Nat → Int32) (p2 : Int32) (p3 : Int32) : Option ((Nat → Int32)) :=
  bd (X0_wayToBall x_now p2) fun r2 => if r2 ≤ (0 : Int32) then (X0_kick_J17 x_a1_w x_a1_h x_a1_hands  x_now p3 r2 (0 : Int32)) else (X0_kick_J17 x_a1_w x_a1_h x_a1_hands  x_now p3 r2 (1 : Int32))
abbrev wd_X0_kick (cy : Nat → ClassId) (o_t o_a1 : Nat → Nat) (x_now : Nat → Int32) (x_a1_w : Int32) (x_a1_h : Int32) (x_a1_hands : Int32) : va_W := [(o_t 0, .inr (0, [.ref (o_t 1)])), (o_t 1, .inl (cy 0, 13, .inl x_now)), (o_a1 0, .inr (5, [.int x_a1_w, .int x_a1_h, .int x_a1_hands, .ref (o_a1 4), .ref (o_a1 5), .ref (o_a1 6), .ref (o_a1 7)]))]
set_option maxHeartbeats 4000000 in
set_option maxRecDepth 100000 in
theorem w_X0_kick {p : Program} {l : Launch} {e : Env} {s : State} {m : MethodId} {args : Array Value} {below : List Frame} {meth : Method} {c : Code} {Q : State → Prop} {A : Nat → Prop} {H : Heap} {locs : List Loc} {ls : Array Slot} (D : va_G) (cy : Nat → ClassId) (t : Nat → Nat) (o_t o_a1 : Nat → Nat) (x_now : Nat → Int32) (x_a1_w : Int32) (x_a1_h : Int32) (x_a1_hands : Int32) (p2 : Int32) (p3 : Int32) {out : (Nat → Int32)} (hf : X0_kick x_a1_w x_a1_h x_a1_hands x_now p2 p3 = some out) (hx : p.tables.exec = Jvm.exec) (hb : c.code = cX0_kick) (hml : c.maxLocals = 7) (hown : s.vm.findClass RX0 = some m.cls) (hts : ∀ w ∈ wsX0_kick, w.before args s = true) (hK : va_K D vwCl (TYS cy) s) (hE : EV t A s s.heap) (hA : ∀ q, s.heap.size ≤ q → A q) (hP : va_P D vwCl (wd_X0_kick cy o_t o_a1 x_now x_a1_w x_a1_h x_a1_hands) H) (hD : va_D A (wd_X0_kick cy o_t o_a1 x_now x_a1_w x_a1_h x_a1_hands)) (hS : va_S A s.heap H locs) (hl : lv_has ls 7 [(0, .ref (o_t 0)), (1, .ref (o_a1 0)), (2, .int p2), (3, .int p3)]) (hR : ∀ (H : Heap) (locs : List Loc) (ls : Array Slot) (pc : Nat), va_P D vwCl (wd_X0_kick cy o_t o_a1 out x_a1_w x_a1_h x_a1_hands) H → va_D A (wd_X0_kick cy o_t o_a1 out x_a1_w x_a1_h x_a1_hands) → va_S A s.heap H locs → decode cX0_kick pc = .ok (.return_, 1) → W p l e (rmm 3 66) s m args below meth c H locs 0 0 Q (F0 m pc ls [])) : W p l e (rmm 3 66) s m args below meth c H locs 0 0 Q (F0 m 0 ls []) := by
  rw [X0_kick] at hf
  have h17 : ∀ (x_now : Nat → Int32) (l3 : Int32) (l4 : Int32) (s0 : Int32) (H : Heap) (locs : List Loc) (ls : Array Slot), X0_kick_J17 x_a1_w x_a1_h x_a1_hands x_now l3 l4 s0 = some out → va_P D vwCl (wd_X0_kick cy o_t o_a1 x_now x_a1_w x_a1_h x_a1_hands) H → va_D A (wd_X0_kick cy o_t o_a1 x_now x_a1_w x_a1_h x_a1_hands) → va_S A s.heap H locs → lv_has ls 7 [(0, .ref (o_t 0)), (1, .ref (o_a1 0)), (3, .int l3), (4, .int l4)] → W p l e (rmm 3 66) s m args below meth c H locs 0 0 Q (F0 m 17 ls [.int s0]) := by
    intro x_now l3 l4 s0 H locs ls hf hP hD hS hl
    rw [X0_kick_J17] at hf
    have h22 : ∀ (n22 : Nat) (x_now : Nat → Int32) (l3 : Int32) (l4 : Int32) (l5 : Int32) (l6 : Int32) (H : Heap) (locs : List Loc) (ls : Array Slot), X0_kick_L22 x_a1_w x_a1_h x_a1_hands n22 x_now l3 l4 l5 l6 = some out → va_P D vwCl (wd_X0_kick cy o_t o_a1 x_now x_a1_w x_a1_h x_a1_hands) H → va_D A (wd_X0_kick cy o_t o_a1 x_now x_a1_w x_a1_h x_a1_hands) → va_S A s.heap H locs → lv_has ls 7 [(0, .ref (o_t 0)), (1, .ref (o_a1 0)), (3, .int l3), (4, .int l4), (5, .int l5), (6, .int l6)] → W p l e (rmm 3 66) s m args below meth c H locs 0 0 Q (F0 m 22 ls []) := by
      intro n22
      induction n22 with
      | zero =>
        intro _ _ _ _ _ _ _ _ hf
        exact nomatch (show (none : Option _) = some out from hf)
      | succ n22 ih22 =>
        intro x_now l3 l4 l5 l6 H locs ls hf hP hD hS hl
        have hf : X0_kick_L22_B x_a1_w x_a1_h x_a1_hands (X0_kick_L22 x_a1_w x_a1_h x_a1_hands n22) x_now l3 l4 l5 l6 = some out := hf
        rw [X0_kick_L22_B] at hf
        refine lv_iload hx hb dX0_kick_22 (lv_at hl 5 rfl) ?_
        refine lv_iload_n hx hb dX0_kick_24 rfl (lv_at hl 2 rfl) ?_
        refine lv_icmp_ge (tgt := 48) hx hb dX0_kick_25 (by decide) (fun c25 => ?_) (fun c25 => ?_)
        · have hf := ifp c25 hf
          obtain rfl := Option.some.inj hf
          exact hR _ _ _ _ hP hD hS dX0_kick_48
        · have hf := ifn c25 hf
          refine lv_iload hx hb dX0_kick_28 (lv_at hl 4 rfl) ?_
          refine lv_if_eq (tgt := 48) hx hb dX0_kick_30 (by decide) (fun c30 => ?_) (fun c30 => ?_)
          · have hf := ifp c30 hf
            obtain rfl := Option.some.inj hf
            exact hR _ _ _ _ hP hD hS dX0_kick_48
          · have hf := ifn c30 hf
            refine lv_aload_n hx hb dX0_kick_33 rfl (lv_at hl 0 rfl) ?_
            refine lv_aload_n hx hb dX0_kick_34 rfl (lv_at hl 1 rfl) ?_
            refine lv_iload hx hb dX0_kick_35 (lv_at hl 3 rfl) ?_
            obtain ⟨r37, hr37, hf⟩ := bd_s hf
            refine my_Vi (WS2 := (wd_X0_kick cy o_t o_a1 r37.2 x_a1_w x_a1_h x_a1_hands)) ⟨hx, hb, hml, hown, hts⟩ (c_X0_moveBall l D cy t o_t o_a1 x_now x_a1_w x_a1_h x_a1_hands l4 hr37) (cwV 2 hts gX0_kick_X0_moveBall rfl rfl rfl ⟨rfl, hd_X0_moveBall⟩ ⟨Nat.le_of_ble_eq_true rfl, Nat.le_of_ble_eq_true rfl⟩) hK hE hP hD hS hA [0, 1, 2] 3 0 0 rfl rfl rfl rfl (by decide +kernel) rfl rfl hl.1 rfl (Nat.le_of_ble_eq_true rfl) dX0_kick_37 ⟨Nat.le_of_ble_eq_true rfl, Nat.le_of_ble_eq_true rfl⟩ (fun H locs hP hD hS => ?_)
            refine lv_istore (lv' := [(5, .int r37.1), (0, .ref (o_t 0)), (1, .ref (o_a1 0)), (3, .int l3), (4, .int l4), (6, .int l6)]) hx hb dX0_kick_40 hl (by decide) rfl (fun ls hl => ?_)
            obtain ⟨v42, ev42, hf⟩ := nm_s hf
            refine lv_iinc (v := v42) (lv' := [(6, .int v42), (5, .int r37.1), (0, .ref (o_t 0)), (1, .ref (o_a1 0)), (3, .int l3), (4, .int l4)]) hx hb dX0_kick_42 hl (k := 5) rfl (by rw [ev42]; rfl) (by decide) rfl (fun ls hl => ?_)
            refine lv_goto (tgt := 22) hx hb dX0_kick_45 (by decide) ?_
            exact ih22 _ _ _ _ _ _ _ _ hf hP hD hS (lv_sub hl [2, 3, 4, 5, 1, 0] rfl)
    refine lv_istore (lv' := [(5, .int s0), (0, .ref (o_t 0)), (1, .ref (o_a1 0)), (3, .int l3), (4, .int l4)]) hx hb dX0_kick_17 hl (by decide) rfl (fun ls hl => ?_)
    refine lv_iconst (v := (0 : Int32)) hx hb dX0_kick_19 (by decide) ?_
    refine lv_istore (lv' := [(6, .int (0 : Int32)), (5, .int s0), (0, .ref (o_t 0)), (1, .ref (o_a1 0)), (3, .int l3), (4, .int l4)]) hx hb dX0_kick_20 hl (by decide) rfl (fun ls hl => ?_)
    exact h22 FU _ _ _ _ _ _ _ _ hf hP hD hS (lv_sub hl [2, 3, 4, 5, 1, 0] rfl)
  refine lv_aload_n hx hb dX0_kick_0 rfl (lv_at hl 0 rfl) ?_
  refine lv_iload_n hx hb dX0_kick_1 rfl (lv_at hl 2 rfl) ?_
  obtain ⟨r2, hr2, hf⟩ := bd_s hf
  refine my_Vi (WS2 := (wd_X0_kick cy o_t o_a1 x_now x_a1_w x_a1_h x_a1_hands)) ⟨hx, hb, hml, hown, hts⟩ (c_X0_wayToBall l D cy t o_t x_now p2 hr2) (cwV 1 hts gX0_kick_X0_wayToBall rfl rfl rfl ⟨rfl, hd_X0_wayToBall⟩ ⟨Nat.le_of_ble_eq_true rfl, Nat.le_of_ble_eq_true rfl⟩) hK hE hP hD hS hA [0, 1] 3 0 0 rfl rfl rfl rfl (by decide +kernel) rfl rfl hl.1 rfl (Nat.le_of_ble_eq_true rfl) dX0_kick_2 ⟨Nat.le_of_ble_eq_true rfl, Nat.le_of_ble_eq_true rfl⟩ (fun H locs hP hD hS => ?_)
  refine lv_istore (lv' := [(4, .int r2), (0, .ref (o_t 0)), (1, .ref (o_a1 0)), (2, .int p2), (3, .int p3)]) hx hb dX0_kick_5 hl (by decide) rfl (fun ls hl => ?_)
  refine lv_iload hx hb dX0_kick_7 (lv_at hl 0 rfl) ?_
  refine lv_if_le (tgt := 16) hx hb dX0_kick_9 (by decide) (fun c9 => ?_) (fun c9 => ?_)
  · have hf := ifp c9 hf
    refine lv_iconst (v := (0 : Int32)) hx hb dX0_kick_16 (by decide) ?_
    exact h17 _ _ _ _ _ _ _ hf hP hD hS (lv_sub hl [1, 2, 4, 0] rfl)
  · have hf := ifn c9 hf
    refine lv_iconst (v := (1 : Int32)) hx hb dX0_kick_12 (by decide) ?_
    refine lv_goto (tgt := 17) hx hb dX0_kick_13 (by decide) ?_
    exact h17 _ _ _ _ _ _ _ hf hP hD hS (lv_sub hl [1, 2, 4, 0] rfl)
theorem hd_X0_kick : yX0_kick.cls ≠ "java/lang/invoke/MethodHandle" ∧ yX0_kick.cls ≠ "java/lang/invoke/VarHandle" ∧ (parseMethodDescriptor yX0_kick.desc).map (fun d => d.parameters.length) = some 3 := by decide +kernel
set_option maxRecDepth 100000 in
theorem c_X0_kick (l : Launch) (D : va_G) (cy : Nat → ClassId) (t : Nat → Nat) (o_t o_a1 : Nat → Nat) (x_now : Nat → Int32) (x_a1_w : Int32) (x_a1_h : Int32) (x_a1_hands : Int32) (p2 : Int32) (p3 : Int32) {out : (Nat → Int32)} (hf : X0_kick x_a1_w x_a1_h x_a1_hands x_now p2 p3 = some out) : ctV l yX0_kick wsX0_kick 3 66 D cy t [.ref (o_t 0), .ref (o_a1 0), .int p2, .int p3] (wd_X0_kick cy o_t o_a1 x_now x_a1_w x_a1_h x_a1_hands) (wd_X0_kick cy o_t o_a1 out x_a1_w x_a1_h x_a1_hands) := by
  refine ⟨rfl, ?_⟩
  intro sz
  refine Met.ofW (cc := cX0_kick) (maxL := 7) (ret := none) (by decide) rfl ?_
  intro p e s m args below meth c s₁ B hml hv
  obtain ⟨rfl, hsz, hP, hK, hD0, hE⟩ := hv
  have hts := atoms_spec (ws := wsX0_kick) B.pre
  have hown : s.vm.findClass RX0 = some m.cls := findClass_of_methodNamed B.named
  have hlocks := B.notSynchronized
  subst hsz
  have hD := hD0.self (sz := s.heap.size)
  have hl := lv_entry ([.ref (o_t 0), .ref (o_a1 0), .int p2, .int p3]) (n := 7) (Nat.le_of_ble_eq_true rfl)
  rw [lg_entry_eq]
  generalize (lg_sl ([.ref (o_t 0), .ref (o_a1 0), .int p2, .int p3]) ++ List.replicate (7 - (lg_sl ([.ref (o_t 0), .ref (o_a1 0), .int p2, .int p3])).length) Slot.unset).toArray = ls at hl ⊢
  exact w_X0_kick D cy t o_t o_a1 x_now x_a1_w x_a1_h x_a1_hands p2 p3 hf B.exec B.bytes hml hown hts hK hE (fun q h => Or.inr h) hP hD va_S.rf hl (fun H locs ls pc hP hD hS hdg => W.vret B.exec B.bytes B.returns (fun t ht hW => ⟨⟨(), rfl, trivial, ctB_of ht hP⟩, hS.F ht⟩) hS.2.2 hdg)

noncomputable def X0_go_J47 (x_a1_w : Int32) (x_a1_h : Int32) (x_a1_hands : Int32) (x_now : Nat → Int32) (l2 : Int32) (l4 : Int32) : Option ((Nat → Int32)) :=
  wrI x_now 13 l2 l4 fun w54 => some w54
noncomputable def X0_go (x_a1_w : Int32) (x_a1_h : Int32) (x_a1_hands : Int32) (x_now : Nat → Int32) (p2 : Int32) (p3 : Int32) : Option ((Nat → Int32)) :=
  rd x_now 13 p2 fun v5 => rd st_step 5 p3 fun v10 => nm (v5 + v10) fun v12 => bd (X0_isFree x_now x_a1_w x_a1_h x_a1_hands v12) fun r18 => if r18 = (0 : Int32) then (some x_now) else (rd x_now 13 (6 : Int32) fun v33 => if v12 = v33 then (bd (X0_moveBall x_a1_w x_a1_h x_a1_hands x_now p3) fun r40 => if r40.1 = (0 : Int32) then (some r40.2) else (X0_go_J47 x_a1_w x_a1_h x_a1_hands  r40.2 p2 v12)) else (X0_go_J47 x_a1_w x_a1_h x_a1_hands  x_now p2 v12))
abbrev wd_X0_go (cy : Nat → ClassId) (o_t o_a1 : Nat → Nat) (x_now : Nat → Int32) (x_a1_w : Int32) (x_a1_h : Int32) (x_a1_hands : Int32) : va_W := [(o_t 0, .inr (0, [.ref (o_t 1)])), (o_t 1, .inl (cy 0, 13, .inl x_now)), (o_a1 0, .inr (5, [.int x_a1_w, .int x_a1_h, .int x_a1_hands, .ref (o_a1 4), .ref (o_a1 5), .ref (o_a1 6), .ref (o_a1 7)]))]
set_option maxHeartbeats 4000000 in
set_option maxRecDepth 100000 in
theorem w_X0_go {p : Program} {l : Launch} {e : Env} {s : State} {m : MethodId} {args : Array Value} {below : List Frame} {meth : Method} {c : Code} {Q : State → Prop} {A : Nat → Prop} {H : Heap} {locs : List Loc} {ls : Array Slot} (D : va_G) (cy : Nat → ClassId) (t : Nat → Nat) (o_t o_a1 : Nat → Nat) (x_now : Nat → Int32) (x_a1_w : Int32) (x_a1_h : Int32) (x_a1_hands : Int32) (p2 : Int32) (p3 : Int32) {out : (Nat → Int32)} (hf : X0_go x_a1_w x_a1_h x_a1_hands x_now p2 p3 = some out) (hx : p.tables.exec = Jvm.exec) (hb : c.code = cX0_go) (hml : c.maxLocals = 5) (hown : s.vm.findClass RX0 = some m.cls) (hts : ∀ w ∈ wsX0_go, w.before args s = true) (hK : va_K D vwCl (TYS cy) s) (hE : EV t A s s.heap) (hA : ∀ q, s.heap.size ≤ q → A q) (hP : va_P D vwCl (wd_X0_go cy o_t o_a1 x_now x_a1_w x_a1_h x_a1_hands) H) (hD : va_D A (wd_X0_go cy o_t o_a1 x_now x_a1_w x_a1_h x_a1_hands)) (hS : va_S A s.heap H locs) (hl : lv_has ls 5 [(0, .ref (o_t 0)), (1, .ref (o_a1 0)), (2, .int p2), (3, .int p3)]) (hR : ∀ (H : Heap) (locs : List Loc) (ls : Array Slot) (pc : Nat), va_P D vwCl (wd_X0_go cy o_t o_a1 out x_a1_w x_a1_h x_a1_hands) H → va_D A (wd_X0_go cy o_t o_a1 out x_a1_w x_a1_h x_a1_hands) → va_S A s.heap H locs → decode cX0_go pc = .ok (.return_, 1) → W p l e (rmm 3 66) s m args below meth c H locs 0 0 Q (F0 m pc ls [])) : W p l e (rmm 3 66) s m args below meth c H locs 0 0 Q (F0 m 0 ls []) := by
  have k0 := hts (.fieldLink RX0 9 "SeaGames$Board" "now" "[I") (List.mem_cons_of_mem _ (List.mem_append_left _ (List.mem_append_left _ (List.mem_of_getElem? (i := 0) rfl))))
  have k1 : ∀ w ∈ u_ws RX0 TX0 1, w ∈ wsX0_go := fun _ h => List.mem_cons_of_mem _ (List.mem_append_left _ (List.mem_append_right _ h))
  rw [X0_go] at hf
  refine lv_aload_n hx hb dX0_go_0 rfl (lv_at hl 0 rfl) ?_
  refine va_get (D := D) (ci := 0) (v := .ref (o_t 1)) (C := RX0) (T := TX0) (N := 1) hx hb hts k1 hown hK hP 0 rfl rfl 0 (by decide) k0 (fun _ h9 => h9) rfl dX0_go_1 ?_
  refine lv_iload_n hx hb dX0_go_4 rfl (lv_at hl 2 rfl) ?_
  obtain ⟨v5, b5, ev5, hf⟩ := rd_s hf
  refine my_iald hx hb hK hP 1 rfl b5 ev5 dX0_go_5 ?_
  refine va_getsN hx hb hE.1.1.1 hS hown (va_Nw.use rfl hE.2.1) (fun _ h9 => h9) dX0_go_6 ?_
  refine lv_iload_n hx hb dX0_go_9 rfl (lv_at hl 3 rfl) ?_
  obtain ⟨v10, b10, ev10, hf⟩ := rd_s hf
  refine my_tald hx hb hE.1.1.2 hS b10 ev10 dX0_go_10 ?_
  refine lv_iadd hx hb dX0_go_11 ?_
  obtain ⟨v12, ev12, hf⟩ := nm_s hf
  refine my_topi ev12 ?_
  refine lv_istore (lv' := [(4, .int v12), (0, .ref (o_t 0)), (1, .ref (o_a1 0)), (2, .int p2), (3, .int p3)]) hx hb dX0_go_12 hl (by decide) rfl (fun ls hl => ?_)
  refine lv_aload_n hx hb dX0_go_14 rfl (lv_at hl 1 rfl) ?_
  refine lv_aload_n hx hb dX0_go_15 rfl (lv_at hl 2 rfl) ?_
  refine lv_iload hx hb dX0_go_16 (lv_at hl 0 rfl) ?_
  obtain ⟨r18, hr18, hf⟩ := bd_s hf
  refine my_Vi (WS2 := (wd_X0_go cy o_t o_a1 x_now x_a1_w x_a1_h x_a1_hands)) ⟨hx, hb, hml, hown, hts⟩ (c_X0_isFree l D cy t o_t o_a1 x_now x_a1_w x_a1_h x_a1_hands v12 hr18) (cwV 2 hts gX0_go_X0_isFree rfl rfl rfl ⟨rfl, hd_X0_isFree⟩ ⟨Nat.le_of_ble_eq_true rfl, Nat.le_of_ble_eq_true rfl⟩) hK hE hP hD hS hA [0, 1, 2] 3 0 0 rfl rfl rfl rfl (by decide +kernel) rfl rfl hl.1 rfl (Nat.le_of_ble_eq_true rfl) dX0_go_18 ⟨Nat.le_of_ble_eq_true rfl, Nat.le_of_ble_eq_true rfl⟩ (fun H locs hP hD hS => ?_)
  refine lv_if_ne (tgt := 25) hx hb dX0_go_21 (by decide) (fun c21 => ?_) (fun c21 => ?_)
  · have hf := ifn c21 hf
    have h47 : ∀ (x_now : Nat → Int32) (l2 : Int32) (l4 : Int32) (H : Heap) (locs : List Loc) (ls : Array Slot), X0_go_J47 x_a1_w x_a1_h x_a1_hands x_now l2 l4 = some out → va_P D vwCl (wd_X0_go cy o_t o_a1 x_now x_a1_w x_a1_h x_a1_hands) H → va_D A (wd_X0_go cy o_t o_a1 x_now x_a1_w x_a1_h x_a1_hands) → va_S A s.heap H locs → lv_has ls 5 [(0, .ref (o_t 0)), (2, .int l2), (4, .int l4)] → W p l e (rmm 3 66) s m args below meth c H locs 0 0 Q (F0 m 47 ls []) := by
      intro x_now l2 l4 H locs ls hf hP hD hS hl
      rw [X0_go_J47] at hf
      refine lv_aload_n hx hb dX0_go_47 rfl (lv_at hl 0 rfl) ?_
      refine va_get (D := D) (ci := 0) (v := .ref (o_t 1)) (C := RX0) (T := TX0) (N := 1) hx hb hts k1 hown hK hP 0 rfl rfl 0 (by decide) k0 (fun _ h9 => h9) rfl dX0_go_48 ?_
      refine lv_iload_n hx hb dX0_go_51 rfl (lv_at hl 1 rfl) ?_
      refine lv_iload hx hb dX0_go_52 (lv_at hl 2 rfl) ?_
      obtain ⟨w54, b54, ew54, hf⟩ := wrI_s hf
      refine my_iast (ws2 := (wd_X0_go cy o_t o_a1 w54 x_a1_w x_a1_h x_a1_hands)) hx hb hK hP hD hS 1 rfl b54 ew54 rfl dX0_go_54 (fun H locs hP hD hS => ?_)
      obtain rfl := Option.some.inj hf
      exact hR _ _ _ _ hP hD hS dX0_go_55
    refine lv_iload hx hb dX0_go_25 (lv_at hl 0 rfl) ?_
    refine lv_aload_n hx hb dX0_go_27 rfl (lv_at hl 1 rfl) ?_
    refine va_get (D := D) (ci := 0) (v := .ref (o_t 1)) (C := RX0) (T := TX0) (N := 1) hx hb hts k1 hown hK hP 0 rfl rfl 0 (by decide) k0 (fun _ h9 => h9) rfl dX0_go_28 ?_
    refine lv_bipush (v := (6 : Int32)) hx hb dX0_go_31 (by decide) ?_
    obtain ⟨v33, b33, ev33, hf⟩ := rd_s hf
    refine my_iald hx hb hK hP 1 rfl b33 ev33 dX0_go_33 ?_
    refine lv_icmp_ne (tgt := 47) hx hb dX0_go_34 (by decide) (fun c34 => ?_) (fun c34 => ?_)
    · have hf := ifn c34 hf
      exact h47 _ _ _ _ _ _ hf hP hD hS (lv_sub hl [1, 3, 0] rfl)
    · have hf := ifp c34 hf
      refine lv_aload_n hx hb dX0_go_37 rfl (lv_at hl 1 rfl) ?_
      refine lv_aload_n hx hb dX0_go_38 rfl (lv_at hl 2 rfl) ?_
      refine lv_iload_n hx hb dX0_go_39 rfl (lv_at hl 4 rfl) ?_
      obtain ⟨r40, hr40, hf⟩ := bd_s hf
      refine my_Vi (WS2 := (wd_X0_go cy o_t o_a1 r40.2 x_a1_w x_a1_h x_a1_hands)) ⟨hx, hb, hml, hown, hts⟩ (c_X0_moveBall l D cy t o_t o_a1 x_now x_a1_w x_a1_h x_a1_hands p3 hr40) (cwV 2 hts gX0_go_X0_moveBall rfl rfl rfl ⟨rfl, hd_X0_moveBall⟩ ⟨Nat.le_of_ble_eq_true rfl, Nat.le_of_ble_eq_true rfl⟩) hK hE hP hD hS hA [0, 1, 2] 3 0 0 rfl rfl rfl rfl (by decide +kernel) rfl rfl hl.1 rfl (Nat.le_of_ble_eq_true rfl) dX0_go_40 ⟨Nat.le_of_ble_eq_true rfl, Nat.le_of_ble_eq_true rfl⟩ (fun H locs hP hD hS => ?_)
      refine lv_if_ne (tgt := 47) hx hb dX0_go_43 (by decide) (fun c43 => ?_) (fun c43 => ?_)
      · have hf := ifn c43 hf
        exact h47 _ _ _ _ _ _ hf hP hD hS (lv_sub hl [1, 3, 0] rfl)
      · have hf := ifp c43 hf
        obtain rfl := Option.some.inj hf
        exact hR _ _ _ _ hP hD hS dX0_go_46
  · have hf := ifp c21 hf
    obtain rfl := Option.some.inj hf
    exact hR _ _ _ _ hP hD hS dX0_go_24
theorem hd_X0_go : yX0_go.cls ≠ "java/lang/invoke/MethodHandle" ∧ yX0_go.cls ≠ "java/lang/invoke/VarHandle" ∧ (parseMethodDescriptor yX0_go.desc).map (fun d => d.parameters.length) = some 3 := by decide +kernel
set_option maxRecDepth 100000 in
theorem c_X0_go (l : Launch) (D : va_G) (cy : Nat → ClassId) (t : Nat → Nat) (o_t o_a1 : Nat → Nat) (x_now : Nat → Int32) (x_a1_w : Int32) (x_a1_h : Int32) (x_a1_hands : Int32) (p2 : Int32) (p3 : Int32) {out : (Nat → Int32)} (hf : X0_go x_a1_w x_a1_h x_a1_hands x_now p2 p3 = some out) : ctV l yX0_go wsX0_go 3 66 D cy t [.ref (o_t 0), .ref (o_a1 0), .int p2, .int p3] (wd_X0_go cy o_t o_a1 x_now x_a1_w x_a1_h x_a1_hands) (wd_X0_go cy o_t o_a1 out x_a1_w x_a1_h x_a1_hands) := by
  refine ⟨rfl, ?_⟩
  intro sz
  refine Met.ofW (cc := cX0_go) (maxL := 5) (ret := none) (by decide) rfl ?_
  intro p e s m args below meth c s₁ B hml hv
  obtain ⟨rfl, hsz, hP, hK, hD0, hE⟩ := hv
  have hts := atoms_spec (ws := wsX0_go) B.pre
  have hown : s.vm.findClass RX0 = some m.cls := findClass_of_methodNamed B.named
  have hlocks := B.notSynchronized
  subst hsz
  have hD := hD0.self (sz := s.heap.size)
  have hl := lv_entry ([.ref (o_t 0), .ref (o_a1 0), .int p2, .int p3]) (n := 5) (Nat.le_of_ble_eq_true rfl)
  rw [lg_entry_eq]
  generalize (lg_sl ([.ref (o_t 0), .ref (o_a1 0), .int p2, .int p3]) ++ List.replicate (5 - (lg_sl ([.ref (o_t 0), .ref (o_a1 0), .int p2, .int p3])).length) Slot.unset).toArray = ls at hl ⊢
  exact w_X0_go D cy t o_t o_a1 x_now x_a1_w x_a1_h x_a1_hands p2 p3 hf B.exec B.bytes hml hown hts hK hE (fun q h => Or.inr h) hP hD va_S.rf hl (fun H locs ls pc hP hD hS hdg => W.vret B.exec B.bytes B.returns (fun t ht hW => ⟨⟨(), rfl, trivial, ctB_of ht hP⟩, hS.F ht⟩) hS.2.2 hdg)

noncomputable def X0_spinBall (x_a1_w : Int32) (x_a1_h : Int32) (x_a1_hands : Int32) (x_a1_rules : Nat → Int32) (x_now : Nat → Int32) (p2 : Int32) : Option ((Nat → Int32)) :=
  rd x_a1_rules 7 (1 : Int32) fun v5 => if v5 ≤ (0 : Int32) then (some x_now) else (dvI v5 <| if ((p2 + (1 : Int32)) - (p2 + (1 : Int32)) / v5 * v5) = (0 : Int32) then (rd x_a1_rules 7 (2 : Int32) fun v28 => dvI (4 : Int32) <| bd (X0_moveBall x_a1_w x_a1_h x_a1_hands x_now (((((31 : Int32) * v28) + ((17 : Int32) * p2)) - (((31 : Int32) * v28) + ((17 : Int32) * p2)) / (4 : Int32) * (4 : Int32)) + (1 : Int32))) fun r39 => some r39.2) else (some x_now))
abbrev wd_X0_spinBall (cy : Nat → ClassId) (o_t o_a1 : Nat → Nat) (x_now : Nat → Int32) (x_a1_w : Int32) (x_a1_h : Int32) (x_a1_hands : Int32) (x_a1_rules : Nat → Int32) : va_W := [(o_t 0, .inr (0, [.ref (o_t 1)])), (o_t 1, .inl (cy 0, 13, .inl x_now)), (o_a1 0, .inr (5, [.int x_a1_w, .int x_a1_h, .int x_a1_hands, .ref (o_a1 4), .ref (o_a1 5), .ref (o_a1 6), .ref (o_a1 7)])), (o_a1 4, .inl (cy 0, 7, .inl x_a1_rules))]
set_option maxHeartbeats 4000000 in
set_option maxRecDepth 100000 in
theorem w_X0_spinBall {p : Program} {l : Launch} {e : Env} {s : State} {m : MethodId} {args : Array Value} {below : List Frame} {meth : Method} {c : Code} {Q : State → Prop} {A : Nat → Prop} {H : Heap} {locs : List Loc} {ls : Array Slot} (D : va_G) (cy : Nat → ClassId) (t : Nat → Nat) (o_t o_a1 : Nat → Nat) (x_now : Nat → Int32) (x_a1_w : Int32) (x_a1_h : Int32) (x_a1_hands : Int32) (x_a1_rules : Nat → Int32) (p2 : Int32) {out : (Nat → Int32)} (hf : X0_spinBall x_a1_w x_a1_h x_a1_hands x_a1_rules x_now p2 = some out) (hx : p.tables.exec = Jvm.exec) (hb : c.code = cX0_spinBall) (hml : c.maxLocals = 4) (hown : s.vm.findClass RX0 = some m.cls) (hts : ∀ w ∈ wsX0_spinBall, w.before args s = true) (hK : va_K D vwCl (TYS cy) s) (hE : EV t A s s.heap) (hA : ∀ q, s.heap.size ≤ q → A q) (hP : va_P D vwCl (wd_X0_spinBall cy o_t o_a1 x_now x_a1_w x_a1_h x_a1_hands x_a1_rules) H) (hD : va_D A (wd_X0_spinBall cy o_t o_a1 x_now x_a1_w x_a1_h x_a1_hands x_a1_rules)) (hS : va_S A s.heap H locs) (hl : lv_has ls 4 [(0, .ref (o_t 0)), (1, .ref (o_a1 0)), (2, .int p2)]) (hR : ∀ (H : Heap) (locs : List Loc) (ls : Array Slot) (pc : Nat), va_P D vwCl (wd_X0_spinBall cy o_t o_a1 out x_a1_w x_a1_h x_a1_hands x_a1_rules) H → va_D A (wd_X0_spinBall cy o_t o_a1 out x_a1_w x_a1_h x_a1_hands x_a1_rules) → va_S A s.heap H locs → decode cX0_spinBall pc = .ok (.return_, 1) → W p l e (rmm 3 66) s m args below meth c H locs 0 0 Q (F0 m pc ls [])) : W p l e (rmm 3 66) s m args below meth c H locs 0 0 Q (F0 m 0 ls []) := by
  have k0 := hts (.fieldLink RX0 84 "SeaGames$Play" "rules" "[I") (List.mem_cons_of_mem _ (List.mem_append_left _ (List.mem_append_left _ (List.mem_of_getElem? (i := 0) rfl))))
  have k1 : ∀ w ∈ u_ws RX5 TX5 7, w ∈ wsX0_spinBall := fun _ h => List.mem_cons_of_mem _ (List.mem_append_left _ (List.mem_append_right _ h))
  rw [X0_spinBall] at hf
  refine lv_aload_n hx hb dX0_spinBall_0 rfl (lv_at hl 1 rfl) ?_
  refine va_get (D := D) (ci := 5) (v := .ref (o_a1 4)) (C := RX5) (T := TX5) (N := 7) hx hb hts k1 hown hK hP 2 rfl rfl 3 (by decide) k0 (fun _ h9 => h9) rfl dX0_spinBall_1 ?_
  refine lv_iconst (v := (1 : Int32)) hx hb dX0_spinBall_4 (by decide) ?_
  obtain ⟨v5, b5, ev5, hf⟩ := rd_s hf
  refine my_iald hx hb hK hP 3 rfl b5 ev5 dX0_spinBall_5 ?_
  refine lv_istore_n (lv' := [(3, .int v5), (0, .ref (o_t 0)), (1, .ref (o_a1 0)), (2, .int p2)]) hx hb dX0_spinBall_6 rfl hl (by decide) rfl (fun ls hl => ?_)
  refine lv_iload_n hx hb dX0_spinBall_7 rfl (lv_at hl 0 rfl) ?_
  refine lv_if_le (tgt := 43) hx hb dX0_spinBall_8 (by decide) (fun c8 => ?_) (fun c8 => ?_)
  · have hf := ifp c8 hf
    obtain rfl := Option.some.inj hf
    exact hR _ _ _ _ hP hD hS dX0_spinBall_43
  · have hf := ifn c8 hf
    refine lv_iload_n hx hb dX0_spinBall_11 rfl (lv_at hl 3 rfl) ?_
    refine lv_iconst (v := (1 : Int32)) hx hb dX0_spinBall_12 (by decide) ?_
    refine lv_iadd hx hb dX0_spinBall_13 ?_
    refine lv_iload_n hx hb dX0_spinBall_14 rfl (lv_at hl 0 rfl) ?_
    obtain ⟨z15, hf⟩ := dvI_s hf
    refine lv_irem hx hb dX0_spinBall_15 z15 ?_
    refine lv_if_ne (tgt := 43) hx hb dX0_spinBall_16 (by decide) (fun c16 => ?_) (fun c16 => ?_)
    · have hf := ifn c16 hf
      obtain rfl := Option.some.inj hf
      exact hR _ _ _ _ hP hD hS dX0_spinBall_43
    · have hf := ifp c16 hf
      refine lv_aload_n hx hb dX0_spinBall_19 rfl (lv_at hl 1 rfl) ?_
      refine lv_aload_n hx hb dX0_spinBall_20 rfl (lv_at hl 2 rfl) ?_
      refine lv_bipush (v := (31 : Int32)) hx hb dX0_spinBall_21 (by decide) ?_
      refine lv_aload_n hx hb dX0_spinBall_23 rfl (lv_at hl 2 rfl) ?_
      refine va_get (D := D) (ci := 5) (v := .ref (o_a1 4)) (C := RX5) (T := TX5) (N := 7) hx hb hts k1 hown hK hP 2 rfl rfl 3 (by decide) k0 (fun _ h9 => h9) rfl dX0_spinBall_24 ?_
      refine lv_iconst (v := (2 : Int32)) hx hb dX0_spinBall_27 (by decide) ?_
      obtain ⟨v28, b28, ev28, hf⟩ := rd_s hf
      refine my_iald hx hb hK hP 3 rfl b28 ev28 dX0_spinBall_28 ?_
      refine lv_imul hx hb dX0_spinBall_29 ?_
      refine lv_bipush (v := (17 : Int32)) hx hb dX0_spinBall_30 (by decide) ?_
      refine lv_iload_n hx hb dX0_spinBall_32 rfl (lv_at hl 3 rfl) ?_
      refine lv_imul hx hb dX0_spinBall_33 ?_
      refine lv_iadd hx hb dX0_spinBall_34 ?_
      refine lv_iconst (v := (4 : Int32)) hx hb dX0_spinBall_35 (by decide) ?_
      obtain ⟨z36, hf⟩ := dvI_s hf
      refine lv_irem hx hb dX0_spinBall_36 z36 ?_
      refine lv_iconst (v := (1 : Int32)) hx hb dX0_spinBall_37 (by decide) ?_
      refine lv_iadd hx hb dX0_spinBall_38 ?_
      obtain ⟨r39, hr39, hf⟩ := bd_s hf
      refine my_Vi (WS2 := (wd_X0_spinBall cy o_t o_a1 r39.2 x_a1_w x_a1_h x_a1_hands x_a1_rules)) ⟨hx, hb, hml, hown, hts⟩ (c_X0_moveBall l D cy t o_t o_a1 x_now x_a1_w x_a1_h x_a1_hands (((((31 : Int32) * v28) + ((17 : Int32) * p2)) - (((31 : Int32) * v28) + ((17 : Int32) * p2)) / (4 : Int32) * (4 : Int32)) + (1 : Int32)) hr39) (cwV 2 hts gX0_spinBall_X0_moveBall rfl rfl rfl ⟨rfl, hd_X0_moveBall⟩ ⟨Nat.le_of_ble_eq_true rfl, Nat.le_of_ble_eq_true rfl⟩) hK hE hP hD hS hA [0, 1, 2] 4 0 0 rfl rfl rfl rfl (by decide +kernel) rfl rfl hl.1 rfl (Nat.le_of_ble_eq_true rfl) dX0_spinBall_39 ⟨Nat.le_of_ble_eq_true rfl, Nat.le_of_ble_eq_true rfl⟩ (fun H locs hP hD hS => ?_)
      refine lv_pop hx hb dX0_spinBall_42 rfl ?_
      obtain rfl := Option.some.inj hf
      exact hR _ _ _ _ hP hD hS dX0_spinBall_43
theorem hd_X0_spinBall : yX0_spinBall.cls ≠ "java/lang/invoke/MethodHandle" ∧ yX0_spinBall.cls ≠ "java/lang/invoke/VarHandle" ∧ (parseMethodDescriptor yX0_spinBall.desc).map (fun d => d.parameters.length) = some 2 := by decide +kernel
set_option maxRecDepth 100000 in
theorem c_X0_spinBall (l : Launch) (D : va_G) (cy : Nat → ClassId) (t : Nat → Nat) (o_t o_a1 : Nat → Nat) (x_now : Nat → Int32) (x_a1_w : Int32) (x_a1_h : Int32) (x_a1_hands : Int32) (x_a1_rules : Nat → Int32) (p2 : Int32) {out : (Nat → Int32)} (hf : X0_spinBall x_a1_w x_a1_h x_a1_hands x_a1_rules x_now p2 = some out) : ctV l yX0_spinBall wsX0_spinBall 3 66 D cy t [.ref (o_t 0), .ref (o_a1 0), .int p2] (wd_X0_spinBall cy o_t o_a1 x_now x_a1_w x_a1_h x_a1_hands x_a1_rules) (wd_X0_spinBall cy o_t o_a1 out x_a1_w x_a1_h x_a1_hands x_a1_rules) := by
  refine ⟨rfl, ?_⟩
  intro sz
  refine Met.ofW (cc := cX0_spinBall) (maxL := 4) (ret := none) (by decide) rfl ?_
  intro p e s m args below meth c s₁ B hml hv
  obtain ⟨rfl, hsz, hP, hK, hD0, hE⟩ := hv
  have hts := atoms_spec (ws := wsX0_spinBall) B.pre
  have hown : s.vm.findClass RX0 = some m.cls := findClass_of_methodNamed B.named
  have hlocks := B.notSynchronized
  subst hsz
  have hD := hD0.self (sz := s.heap.size)
  have hl := lv_entry ([.ref (o_t 0), .ref (o_a1 0), .int p2]) (n := 4) (Nat.le_of_ble_eq_true rfl)
  rw [lg_entry_eq]
  generalize (lg_sl ([.ref (o_t 0), .ref (o_a1 0), .int p2]) ++ List.replicate (4 - (lg_sl ([.ref (o_t 0), .ref (o_a1 0), .int p2])).length) Slot.unset).toArray = ls at hl ⊢
  exact w_X0_spinBall D cy t o_t o_a1 x_now x_a1_w x_a1_h x_a1_hands x_a1_rules p2 hf B.exec B.bytes hml hown hts hK hE (fun q h => Or.inr h) hP hD va_S.rf hl (fun H locs ls pc hP hD hS hdg => W.vret B.exec B.bytes B.returns (fun t ht hW => ⟨⟨(), rfl, trivial, ctB_of ht hP⟩, hS.F ht⟩) hS.2.2 hdg)

noncomputable def X0_givePoint_J86 (x_a1_hands : Int32) (x_now : Nat → Int32) (l2 : Int32) (l4 : Int32) : Option ((Nat → Int32)) :=
  if l4 = (0 : Int32) then (some x_now) else (rd x_now 13 ((7 : Int32) + l2) fun v100 => wrI x_now 13 ((7 : Int32) + l2) (v100 + (1 : Int32)) fun w103 => some w103)
noncomputable def X0_givePoint_J80 (x_a1_hands : Int32) (rec25 : (Nat → Int32) → Int32 → Int32 → Int32 → Int32 → Option ((Nat → Int32))) (x_now : Nat → Int32) (l2 : Int32) (l3 : Int32) (l4 : Int32) (l5 : Int32) : Option ((Nat → Int32)) :=
  nm (l5 + (1 : Int32)) fun v80 => rec25 x_now l2 l3 l4 v80
noncomputable def X0_givePoint_L25_B (x_a1_hands : Int32) (rec25 : (Nat → Int32) → Int32 → Int32 → Int32 → Int32 → Option ((Nat → Int32))) (x_now : Nat → Int32) (l2 : Int32) (l3 : Int32) (l4 : Int32) (l5 : Int32) : Option ((Nat → Int32)) :=
  if x_a1_hands ≤ l5 then (X0_givePoint_J86 x_a1_hands  x_now l2 l4) else (rd x_now 13 l5 fun v40 => rd x_now 13 (6 : Int32) fun v47 => bd (X7_distance v40 v47) fun r48 => if l3 ≤ r48 then (if r48 = l3 then (X0_givePoint_J80 x_a1_hands rec25 x_now l2 l3 (0 : Int32) l5) else (X0_givePoint_J80 x_a1_hands rec25 x_now l2 l3 l4 l5)) else (X0_givePoint_J80 x_a1_hands rec25 x_now l5 r48 (1 : Int32) l5))
noncomputable def X0_givePoint_L25 (x_a1_hands : Int32) : Nat → (Nat → Int32) → Int32 → Int32 → Int32 → Int32 → Option ((Nat → Int32))
  | 0, _, _, _, _, _ => none
  | n + 1, y0, y1, y2, y3, y4 => X0_givePoint_L25_B x_a1_hands  (X0_givePoint_L25 x_a1_hands  n) y0 y1 y2 y3 y4
noncomputable def X0_givePoint (x_a1_hands : Int32) (x_now : Nat → Int32) : Option ((Nat → Int32)) :=
  rd x_now 13 (0 : Int32) fun v7 => rd x_now 13 (6 : Int32) fun v14 => bd (X7_distance v7 v14) fun r15 => X0_givePoint_L25 x_a1_hands  FU x_now (0 : Int32) r15 (1 : Int32) (1 : Int32)
abbrev wd_X0_givePoint (cy : Nat → ClassId) (o_t o_a1 : Nat → Nat) (x_now : Nat → Int32) (x_a1_w : Int32) (x_a1_h : Int32) (x_a1_hands : Int32) : va_W := [(o_t 0, .inr (0, [.ref (o_t 1)])), (o_t 1, .inl (cy 0, 13, .inl x_now)), (o_a1 0, .inr (5, [.int x_a1_w, .int x_a1_h, .int x_a1_hands, .ref (o_a1 4), .ref (o_a1 5), .ref (o_a1 6), .ref (o_a1 7)]))]
set_option maxHeartbeats 4000000 in
set_option maxRecDepth 100000 in
theorem w_X0_givePoint {p : Program} {l : Launch} {e : Env} {s : State} {m : MethodId} {args : Array Value} {below : List Frame} {meth : Method} {c : Code} {Q : State → Prop} {A : Nat → Prop} {H : Heap} {locs : List Loc} {ls : Array Slot} (D : va_G) (cy : Nat → ClassId) (t : Nat → Nat) (o_t o_a1 : Nat → Nat) (x_now : Nat → Int32) (x_a1_w : Int32) (x_a1_h : Int32) (x_a1_hands : Int32) {out : (Nat → Int32)} (hf : X0_givePoint x_a1_hands x_now = some out) (hx : p.tables.exec = Jvm.exec) (hb : c.code = cX0_givePoint) (hml : c.maxLocals = 7) (hown : s.vm.findClass RX0 = some m.cls) (hts : ∀ w ∈ wsX0_givePoint, w.before args s = true) (hK : va_K D vwCl (TYS cy) s) (hE : EV t A s s.heap) (hA : ∀ q, s.heap.size ≤ q → A q) (hP : va_P D vwCl (wd_X0_givePoint cy o_t o_a1 x_now x_a1_w x_a1_h x_a1_hands) H) (hD : va_D A (wd_X0_givePoint cy o_t o_a1 x_now x_a1_w x_a1_h x_a1_hands)) (hS : va_S A s.heap H locs) (hl : lv_has ls 7 [(0, .ref (o_t 0)), (1, .ref (o_a1 0))]) (hR : ∀ (H : Heap) (locs : List Loc) (ls : Array Slot) (pc : Nat), va_P D vwCl (wd_X0_givePoint cy o_t o_a1 out x_a1_w x_a1_h x_a1_hands) H → va_D A (wd_X0_givePoint cy o_t o_a1 out x_a1_w x_a1_h x_a1_hands) → va_S A s.heap H locs → decode cX0_givePoint pc = .ok (.return_, 1) → W p l e (rmm 2 42) s m args below meth c H locs 0 0 Q (F0 m pc ls [])) : W p l e (rmm 2 42) s m args below meth c H locs 0 0 Q (F0 m 0 ls []) := by
  have k0 := hts (.fieldLink RX0 9 "SeaGames$Board" "now" "[I") (List.mem_cons_of_mem _ (List.mem_append_left _ (List.mem_append_left _ (List.mem_of_getElem? (i := 0) rfl))))
  have k1 : ∀ w ∈ u_ws RX0 TX0 1, w ∈ wsX0_givePoint := fun _ h => List.mem_cons_of_mem _ (List.mem_append_left _ (List.mem_append_right _ h))
  have k2 := hts (.initialized RX7) (List.mem_cons_of_mem _ (List.mem_append_left _ (List.mem_append_left _ (List.mem_of_getElem? (i := 3) rfl))))
  have k3 := hts (.static yX7_distance) (List.mem_cons_of_mem _ (List.mem_append_left _ (List.mem_append_left _ (List.mem_of_getElem? (i := 2) rfl))))
  have k4 := hts (.fieldLink RX0 21 "SeaGames$Play" "hands" "I") (List.mem_cons_of_mem _ (List.mem_append_left _ (List.mem_append_left _ (List.mem_of_getElem? (i := 1) rfl))))
  have k5 : ∀ w ∈ u_ws RX5 TX5 7, w ∈ wsX0_givePoint := fun _ h => List.mem_cons_of_mem _ (List.mem_append_right _ h)
  rw [X0_givePoint] at hf
  have h25 : ∀ (n25 : Nat) (x_now : Nat → Int32) (l2 : Int32) (l3 : Int32) (l4 : Int32) (l5 : Int32) (H : Heap) (locs : List Loc) (ls : Array Slot), X0_givePoint_L25 x_a1_hands n25 x_now l2 l3 l4 l5 = some out → va_P D vwCl (wd_X0_givePoint cy o_t o_a1 x_now x_a1_w x_a1_h x_a1_hands) H → va_D A (wd_X0_givePoint cy o_t o_a1 x_now x_a1_w x_a1_h x_a1_hands) → va_S A s.heap H locs → lv_has ls 7 [(0, .ref (o_t 0)), (1, .ref (o_a1 0)), (2, .int l2), (3, .int l3), (4, .int l4), (5, .int l5)] → W p l e (rmm 2 42) s m args below meth c H locs 0 0 Q (F0 m 25 ls []) := by
    intro n25
    induction n25 with
    | zero =>
      intro _ _ _ _ _ _ _ _ hf
      exact nomatch (show (none : Option _) = some out from hf)
    | succ n25 ih25 =>
      intro x_now l2 l3 l4 l5 H locs ls hf hP hD hS hl
      have hf : X0_givePoint_L25_B x_a1_hands (X0_givePoint_L25 x_a1_hands n25) x_now l2 l3 l4 l5 = some out := hf
      rw [X0_givePoint_L25_B] at hf
      have h86 : ∀ (x_now : Nat → Int32) (l2 : Int32) (l4 : Int32) (H : Heap) (locs : List Loc) (ls : Array Slot), X0_givePoint_J86 x_a1_hands x_now l2 l4 = some out → va_P D vwCl (wd_X0_givePoint cy o_t o_a1 x_now x_a1_w x_a1_h x_a1_hands) H → va_D A (wd_X0_givePoint cy o_t o_a1 x_now x_a1_w x_a1_h x_a1_hands) → va_S A s.heap H locs → lv_has ls 7 [(0, .ref (o_t 0)), (2, .int l2), (4, .int l4)] → W p l e (rmm 2 42) s m args below meth c H locs 0 0 Q (F0 m 86 ls []) := by
        intro x_now l2 l4 H locs ls hf hP hD hS hl
        rw [X0_givePoint_J86] at hf
        refine lv_iload hx hb dX0_givePoint_86 (lv_at hl 2 rfl) ?_
        refine lv_if_eq (tgt := 104) hx hb dX0_givePoint_88 (by decide) (fun c88 => ?_) (fun c88 => ?_)
        · have hf := ifp c88 hf
          obtain rfl := Option.some.inj hf
          exact hR _ _ _ _ hP hD hS dX0_givePoint_104
        · have hf := ifn c88 hf
          refine lv_aload_n hx hb dX0_givePoint_91 rfl (lv_at hl 0 rfl) ?_
          refine va_get (D := D) (ci := 0) (v := .ref (o_t 1)) (C := RX0) (T := TX0) (N := 1) hx hb hts k1 hown hK hP 0 rfl rfl 0 (by decide) k0 (fun _ h9 => h9) rfl dX0_givePoint_92 ?_
          refine lv_bipush (v := (7 : Int32)) hx hb dX0_givePoint_95 (by decide) ?_
          refine lv_iload_n hx hb dX0_givePoint_97 rfl (lv_at hl 1 rfl) ?_
          refine lv_iadd hx hb dX0_givePoint_98 ?_
          refine lv_dup2_11 hx hb dX0_givePoint_99 rfl rfl ?_
          obtain ⟨v100, b100, ev100, hf⟩ := rd_s hf
          refine my_iald hx hb hK hP 1 rfl b100 ev100 dX0_givePoint_100 ?_
          refine lv_iconst (v := (1 : Int32)) hx hb dX0_givePoint_101 (by decide) ?_
          refine lv_iadd hx hb dX0_givePoint_102 ?_
          obtain ⟨w103, b103, ew103, hf⟩ := wrI_s hf
          refine my_iast (ws2 := (wd_X0_givePoint cy o_t o_a1 w103 x_a1_w x_a1_h x_a1_hands)) hx hb hK hP hD hS 1 rfl b103 ew103 rfl dX0_givePoint_103 (fun H locs hP hD hS => ?_)
          obtain rfl := Option.some.inj hf
          exact hR _ _ _ _ hP hD hS dX0_givePoint_104
      refine lv_iload hx hb dX0_givePoint_25 (lv_at hl 5 rfl) ?_
      refine lv_aload_n hx hb dX0_givePoint_27 rfl (lv_at hl 1 rfl) ?_
      refine va_get (D := D) (ci := 5) (v := .int x_a1_hands) (C := RX5) (T := TX5) (N := 7) hx hb hts k5 hown hK hP 2 rfl rfl 2 (by decide) k4 (fun _ h9 => h9) rfl dX0_givePoint_28 ?_
      refine lv_icmp_ge (tgt := 86) hx hb dX0_givePoint_31 (by decide) (fun c31 => ?_) (fun c31 => ?_)
      · have hf := ifp c31 hf
        exact h86 _ _ _ _ _ _ hf hP hD hS (lv_sub hl [0, 2, 4] rfl)
      · have hf := ifn c31 hf
        have h80 : ∀ (x_now : Nat → Int32) (l2 : Int32) (l3 : Int32) (l4 : Int32) (l5 : Int32) (H : Heap) (locs : List Loc) (ls : Array Slot), X0_givePoint_J80 x_a1_hands (X0_givePoint_L25 x_a1_hands n25) x_now l2 l3 l4 l5 = some out → va_P D vwCl (wd_X0_givePoint cy o_t o_a1 x_now x_a1_w x_a1_h x_a1_hands) H → va_D A (wd_X0_givePoint cy o_t o_a1 x_now x_a1_w x_a1_h x_a1_hands) → va_S A s.heap H locs → lv_has ls 7 [(0, .ref (o_t 0)), (1, .ref (o_a1 0)), (2, .int l2), (3, .int l3), (4, .int l4), (5, .int l5)] → W p l e (rmm 2 42) s m args below meth c H locs 0 0 Q (F0 m 80 ls []) := by
          intro x_now l2 l3 l4 l5 H locs ls hf hP hD hS hl
          rw [X0_givePoint_J80] at hf
          obtain ⟨v80, ev80, hf⟩ := nm_s hf
          refine lv_iinc (v := v80) (lv' := [(5, .int v80), (0, .ref (o_t 0)), (1, .ref (o_a1 0)), (2, .int l2), (3, .int l3), (4, .int l4)]) hx hb dX0_givePoint_80 hl (k := 5) rfl (by rw [ev80]; rfl) (by decide) rfl (fun ls hl => ?_)
          refine lv_goto (tgt := 25) hx hb dX0_givePoint_83 (by decide) ?_
          exact ih25 _ _ _ _ _ _ _ _ hf hP hD hS (lv_sub hl [1, 2, 3, 4, 5, 0] rfl)
        refine lv_aload_n hx hb dX0_givePoint_34 rfl (lv_at hl 0 rfl) ?_
        refine va_get (D := D) (ci := 0) (v := .ref (o_t 1)) (C := RX0) (T := TX0) (N := 1) hx hb hts k1 hown hK hP 0 rfl rfl 0 (by decide) k0 (fun _ h9 => h9) rfl dX0_givePoint_35 ?_
        refine lv_iload hx hb dX0_givePoint_38 (lv_at hl 5 rfl) ?_
        obtain ⟨v40, b40, ev40, hf⟩ := rd_s hf
        refine my_iald hx hb hK hP 1 rfl b40 ev40 dX0_givePoint_40 ?_
        refine lv_aload_n hx hb dX0_givePoint_41 rfl (lv_at hl 0 rfl) ?_
        refine va_get (D := D) (ci := 0) (v := .ref (o_t 1)) (C := RX0) (T := TX0) (N := 1) hx hb hts k1 hown hK hP 0 rfl rfl 0 (by decide) k0 (fun _ h9 => h9) rfl dX0_givePoint_42 ?_
        refine lv_bipush (v := (6 : Int32)) hx hb dX0_givePoint_45 (by decide) ?_
        obtain ⟨v47, b47, ev47, hf⟩ := rd_s hf
        refine my_iald hx hb hK hP 1 rfl b47 ev47 dX0_givePoint_47 ?_
        obtain ⟨r48, hr48, hf⟩ := bd_s hf
        refine my_Ni (WS2 := (wd_X0_givePoint cy o_t o_a1 x_now x_a1_w x_a1_h x_a1_hands)) (host := RX7) ⟨hx, hb, hml, hown, hts⟩ (c_X7_distance l D cy t v40 v47 hr48) (va_cnB 2 hts gX0_givePoint_X7_distance_n87 rfl rfl rfl (ev_n9 hE) k2 hd_X7_distance ⟨Nat.le_of_ble_eq_true rfl, Nat.le_of_ble_eq_true rfl⟩) k3 hK hE hP hD hS hA [] 3 rfl rfl (by decide +kernel) rfl rfl hl.1 rfl (Nat.le_of_ble_eq_true rfl) dX0_givePoint_48 ⟨Nat.le_of_ble_eq_true rfl, Nat.le_of_ble_eq_true rfl⟩ (fun H locs hP hD hS => ?_)
        refine lv_istore (lv' := [(6, .int r48), (0, .ref (o_t 0)), (1, .ref (o_a1 0)), (2, .int l2), (3, .int l3), (4, .int l4), (5, .int l5)]) hx hb dX0_givePoint_51 hl (by decide) rfl (fun ls hl => ?_)
        refine lv_iload hx hb dX0_givePoint_53 (lv_at hl 0 rfl) ?_
        refine lv_iload_n hx hb dX0_givePoint_55 rfl (lv_at hl 4 rfl) ?_
        refine lv_icmp_ge (tgt := 71) hx hb dX0_givePoint_56 (by decide) (fun c56 => ?_) (fun c56 => ?_)
        · have hf := ifp c56 hf
          refine lv_iload hx hb dX0_givePoint_71 (lv_at hl 0 rfl) ?_
          refine lv_iload_n hx hb dX0_givePoint_73 rfl (lv_at hl 4 rfl) ?_
          refine lv_icmp_ne (tgt := 80) hx hb dX0_givePoint_74 (by decide) (fun c74 => ?_) (fun c74 => ?_)
          · have hf := ifn c74 hf
            exact h80 _ _ _ _ _ _ _ _ hf hP hD hS (lv_sub hl [1, 2, 3, 4, 5, 6] rfl)
          · have hf := ifp c74 hf
            refine lv_iconst (v := (0 : Int32)) hx hb dX0_givePoint_77 (by decide) ?_
            refine lv_istore (lv' := [(4, .int (0 : Int32)), (6, .int r48), (0, .ref (o_t 0)), (1, .ref (o_a1 0)), (2, .int l2), (3, .int l3), (5, .int l5)]) hx hb dX0_givePoint_78 hl (by decide) rfl (fun ls hl => ?_)
            exact h80 _ _ _ _ _ _ _ _ hf hP hD hS (lv_sub hl [2, 3, 4, 5, 0, 6] rfl)
        · have hf := ifn c56 hf
          refine lv_iload hx hb dX0_givePoint_59 (lv_at hl 6 rfl) ?_
          refine lv_istore_n (lv' := [(2, .int l5), (6, .int r48), (0, .ref (o_t 0)), (1, .ref (o_a1 0)), (3, .int l3), (4, .int l4), (5, .int l5)]) hx hb dX0_givePoint_61 rfl hl (by decide) rfl (fun ls hl => ?_)
          refine lv_iload hx hb dX0_givePoint_62 (lv_at hl 1 rfl) ?_
          refine lv_istore_n (lv' := [(3, .int r48), (2, .int l5), (6, .int r48), (0, .ref (o_t 0)), (1, .ref (o_a1 0)), (4, .int l4), (5, .int l5)]) hx hb dX0_givePoint_64 rfl hl (by decide) rfl (fun ls hl => ?_)
          refine lv_iconst (v := (1 : Int32)) hx hb dX0_givePoint_65 (by decide) ?_
          refine lv_istore (lv' := [(4, .int (1 : Int32)), (3, .int r48), (2, .int l5), (6, .int r48), (0, .ref (o_t 0)), (1, .ref (o_a1 0)), (5, .int l5)]) hx hb dX0_givePoint_66 hl (by decide) rfl (fun ls hl => ?_)
          refine lv_goto (tgt := 80) hx hb dX0_givePoint_68 (by decide) ?_
          exact h80 _ _ _ _ _ _ _ _ hf hP hD hS (lv_sub hl [4, 5, 2, 1, 0, 6] rfl)
  refine lv_iconst (v := (0 : Int32)) hx hb dX0_givePoint_0 (by decide) ?_
  refine lv_istore_n (lv' := [(2, .int (0 : Int32)), (0, .ref (o_t 0)), (1, .ref (o_a1 0))]) hx hb dX0_givePoint_1 rfl hl (by decide) rfl (fun ls hl => ?_)
  refine lv_aload_n hx hb dX0_givePoint_2 rfl (lv_at hl 1 rfl) ?_
  refine va_get (D := D) (ci := 0) (v := .ref (o_t 1)) (C := RX0) (T := TX0) (N := 1) hx hb hts k1 hown hK hP 0 rfl rfl 0 (by decide) k0 (fun _ h9 => h9) rfl dX0_givePoint_3 ?_
  refine lv_iconst (v := (0 : Int32)) hx hb dX0_givePoint_6 (by decide) ?_
  obtain ⟨v7, b7, ev7, hf⟩ := rd_s hf
  refine my_iald hx hb hK hP 1 rfl b7 ev7 dX0_givePoint_7 ?_
  refine lv_aload_n hx hb dX0_givePoint_8 rfl (lv_at hl 1 rfl) ?_
  refine va_get (D := D) (ci := 0) (v := .ref (o_t 1)) (C := RX0) (T := TX0) (N := 1) hx hb hts k1 hown hK hP 0 rfl rfl 0 (by decide) k0 (fun _ h9 => h9) rfl dX0_givePoint_9 ?_
  refine lv_bipush (v := (6 : Int32)) hx hb dX0_givePoint_12 (by decide) ?_
  obtain ⟨v14, b14, ev14, hf⟩ := rd_s hf
  refine my_iald hx hb hK hP 1 rfl b14 ev14 dX0_givePoint_14 ?_
  obtain ⟨r15, hr15, hf⟩ := bd_s hf
  refine my_Ni (WS2 := (wd_X0_givePoint cy o_t o_a1 x_now x_a1_w x_a1_h x_a1_hands)) (host := RX7) ⟨hx, hb, hml, hown, hts⟩ (c_X7_distance l D cy t v7 v14 hr15) (va_cnB 2 hts gX0_givePoint_X7_distance_n87 rfl rfl rfl (ev_n9 hE) k2 hd_X7_distance ⟨Nat.le_of_ble_eq_true rfl, Nat.le_of_ble_eq_true rfl⟩) k3 hK hE hP hD hS hA [] 3 rfl rfl (by decide +kernel) rfl rfl hl.1 rfl (Nat.le_of_ble_eq_true rfl) dX0_givePoint_15 ⟨Nat.le_of_ble_eq_true rfl, Nat.le_of_ble_eq_true rfl⟩ (fun H locs hP hD hS => ?_)
  refine lv_istore_n (lv' := [(3, .int r15), (2, .int (0 : Int32)), (0, .ref (o_t 0)), (1, .ref (o_a1 0))]) hx hb dX0_givePoint_18 rfl hl (by decide) rfl (fun ls hl => ?_)
  refine lv_iconst (v := (1 : Int32)) hx hb dX0_givePoint_19 (by decide) ?_
  refine lv_istore (lv' := [(4, .int (1 : Int32)), (3, .int r15), (2, .int (0 : Int32)), (0, .ref (o_t 0)), (1, .ref (o_a1 0))]) hx hb dX0_givePoint_20 hl (by decide) rfl (fun ls hl => ?_)
  refine lv_iconst (v := (1 : Int32)) hx hb dX0_givePoint_22 (by decide) ?_
  refine lv_istore (lv' := [(5, .int (1 : Int32)), (4, .int (1 : Int32)), (3, .int r15), (2, .int (0 : Int32)), (0, .ref (o_t 0)), (1, .ref (o_a1 0))]) hx hb dX0_givePoint_23 hl (by decide) rfl (fun ls hl => ?_)
  exact h25 FU _ _ _ _ _ _ _ _ hf hP hD hS (lv_sub hl [4, 5, 3, 2, 1, 0] rfl)
theorem hd_X0_givePoint : yX0_givePoint.cls ≠ "java/lang/invoke/MethodHandle" ∧ yX0_givePoint.cls ≠ "java/lang/invoke/VarHandle" ∧ (parseMethodDescriptor yX0_givePoint.desc).map (fun d => d.parameters.length) = some 1 := by decide +kernel
set_option maxRecDepth 100000 in
theorem c_X0_givePoint (l : Launch) (D : va_G) (cy : Nat → ClassId) (t : Nat → Nat) (o_t o_a1 : Nat → Nat) (x_now : Nat → Int32) (x_a1_w : Int32) (x_a1_h : Int32) (x_a1_hands : Int32) {out : (Nat → Int32)} (hf : X0_givePoint x_a1_hands x_now = some out) : ctV l yX0_givePoint wsX0_givePoint 2 42 D cy t [.ref (o_t 0), .ref (o_a1 0)] (wd_X0_givePoint cy o_t o_a1 x_now x_a1_w x_a1_h x_a1_hands) (wd_X0_givePoint cy o_t o_a1 out x_a1_w x_a1_h x_a1_hands) := by
  refine ⟨rfl, ?_⟩
  intro sz
  refine Met.ofW (cc := cX0_givePoint) (maxL := 7) (ret := none) (by decide) rfl ?_
  intro p e s m args below meth c s₁ B hml hv
  obtain ⟨rfl, hsz, hP, hK, hD0, hE⟩ := hv
  have hts := atoms_spec (ws := wsX0_givePoint) B.pre
  have hown : s.vm.findClass RX0 = some m.cls := findClass_of_methodNamed B.named
  have hlocks := B.notSynchronized
  subst hsz
  have hD := hD0.self (sz := s.heap.size)
  have hl := lv_entry ([.ref (o_t 0), .ref (o_a1 0)]) (n := 7) (Nat.le_of_ble_eq_true rfl)
  rw [lg_entry_eq]
  generalize (lg_sl ([.ref (o_t 0), .ref (o_a1 0)]) ++ List.replicate (7 - (lg_sl ([.ref (o_t 0), .ref (o_a1 0)])).length) Slot.unset).toArray = ls at hl ⊢
  exact w_X0_givePoint D cy t o_t o_a1 x_now x_a1_w x_a1_h x_a1_hands hf B.exec B.bytes hml hown hts hK hE (fun q h => Or.inr h) hP hD va_S.rf hl (fun H locs ls pc hP hD hS hdg => W.vret B.exec B.bytes B.returns (fun t ht hW => ⟨⟨(), rfl, trivial, ctB_of ht hP⟩, hS.F ht⟩) hS.2.2 hdg)

noncomputable def X0_advance_J75 (n_a4 : Nat) (x_a1_w : Int32) (x_a1_h : Int32) (x_a1_hands : Int32) (x_a1_rules : Nat → Int32) (x_a1_leftFrom : Nat → Int32) (x_a1_leftTo : Nat → Int32) (x_a4 : Nat → Int32) (x_now : Nat → Int32) (l3 : Int32) : Option ((Nat → Int32)) :=
  bd (X0_spinBall x_a1_w x_a1_h x_a1_hands x_a1_rules x_now l3) fun r78 => bd (X0_givePoint x_a1_hands r78) fun r83 => some r83
noncomputable def X0_advance_J69 (n_a4 : Nat) (x_a1_w : Int32) (x_a1_h : Int32) (x_a1_hands : Int32) (x_a1_rules : Nat → Int32) (x_a1_leftFrom : Nat → Int32) (x_a1_leftTo : Nat → Int32) (x_a4 : Nat → Int32) (rec3 : (Nat → Int32) → Int32 → Int32 → Int32 → Option ((Nat → Int32))) (x_now : Nat → Int32) (l2 : Int32) (l3 : Int32) (l5 : Int32) : Option ((Nat → Int32)) :=
  nm (l5 + (1 : Int32)) fun v69 => rec3 x_now l2 l3 v69
noncomputable def X0_advance_J36 (n_a4 : Nat) (x_a1_w : Int32) (x_a1_h : Int32) (x_a1_hands : Int32) (x_a1_rules : Nat → Int32) (x_a1_leftFrom : Nat → Int32) (x_a1_leftTo : Nat → Int32) (x_a4 : Nat → Int32) (rec3 : (Nat → Int32) → Int32 → Int32 → Int32 → Option ((Nat → Int32))) (x_now : Nat → Int32) (l2 : Int32) (l3 : Int32) (l5 : Int32) (s0 : Int32) : Option ((Nat → Int32)) :=
  if s0 = (5 : Int32) then (bd (X0_kick x_a1_w x_a1_h x_a1_hands x_now l5 l2) fun r49 => X0_advance_J69 n_a4 x_a1_w x_a1_h x_a1_hands x_a1_rules x_a1_leftFrom x_a1_leftTo x_a4 rec3 r49 l2 l3 l5) else (if s0 ≤ (0 : Int32) then (X0_advance_J69 n_a4 x_a1_w x_a1_h x_a1_hands x_a1_rules x_a1_leftFrom x_a1_leftTo x_a4 rec3 x_now l2 l3 l5) else (bd (X0_go x_a1_w x_a1_h x_a1_hands x_now l5 s0) fun r66 => X0_advance_J69 n_a4 x_a1_w x_a1_h x_a1_hands x_a1_rules x_a1_leftFrom x_a1_leftTo x_a4 rec3 r66 l2 l3 l5))
noncomputable def X0_advance_L3_B (n_a4 : Nat) (x_a1_w : Int32) (x_a1_h : Int32) (x_a1_hands : Int32) (x_a1_rules : Nat → Int32) (x_a1_leftFrom : Nat → Int32) (x_a1_leftTo : Nat → Int32) (x_a4 : Nat → Int32) (rec3 : (Nat → Int32) → Int32 → Int32 → Int32 → Option ((Nat → Int32))) (x_now : Nat → Int32) (l2 : Int32) (l3 : Int32) (l5 : Int32) : Option ((Nat → Int32)) :=
  if x_a1_hands ≤ l5 then (X0_advance_J75 n_a4 x_a1_w x_a1_h x_a1_hands x_a1_rules x_a1_leftFrom x_a1_leftTo x_a4  x_now l3) else (bd (X5_isLeft x_a1_leftFrom x_a1_leftTo l5 l3) fun r16 => if r16 = (0 : Int32) then (rd x_a4 n_a4 l5 fun v35 => X0_advance_J36 n_a4 x_a1_w x_a1_h x_a1_hands x_a1_rules x_a1_leftFrom x_a1_leftTo x_a4 rec3 x_now l2 l3 l5 v35) else (bd (X0_machinePress x_now l5) fun r25 => X0_advance_J36 n_a4 x_a1_w x_a1_h x_a1_hands x_a1_rules x_a1_leftFrom x_a1_leftTo x_a4 rec3 x_now l2 l3 l5 r25))
noncomputable def X0_advance_L3 (n_a4 : Nat) (x_a1_w : Int32) (x_a1_h : Int32) (x_a1_hands : Int32) (x_a1_rules : Nat → Int32) (x_a1_leftFrom : Nat → Int32) (x_a1_leftTo : Nat → Int32) (x_a4 : Nat → Int32) : Nat → (Nat → Int32) → Int32 → Int32 → Int32 → Option ((Nat → Int32))
  | 0, _, _, _, _ => none
  | n + 1, y0, y1, y2, y3 => X0_advance_L3_B n_a4 x_a1_w x_a1_h x_a1_hands x_a1_rules x_a1_leftFrom x_a1_leftTo x_a4  (X0_advance_L3 n_a4 x_a1_w x_a1_h x_a1_hands x_a1_rules x_a1_leftFrom x_a1_leftTo x_a4  n) y0 y1 y2 y3
noncomputable def X0_advance (n_a4 : Nat) (x_a1_w : Int32) (x_a1_h : Int32) (x_a1_hands : Int32) (x_a1_rules : Nat → Int32) (x_a1_leftFrom : Nat → Int32) (x_a1_leftTo : Nat → Int32) (x_a4 : Nat → Int32) (x_now : Nat → Int32) (p2 : Int32) (p3 : Int32) : Option ((Nat → Int32)) :=
  X0_advance_L3 n_a4 x_a1_w x_a1_h x_a1_hands x_a1_rules x_a1_leftFrom x_a1_leftTo x_a4  FU x_now p2 p3 (0 : Int32)
abbrev wd_X0_advance (cy : Nat → ClassId) (o_t o_a1 : Nat → Nat) (r_a4 n_a4 : Nat) (x_now : Nat → Int32) (x_a1_w : Int32) (x_a1_h : Int32) (x_a1_hands : Int32) (x_a1_rules : Nat → Int32) (x_a1_leftFrom : Nat → Int32) (x_a1_leftTo : Nat → Int32) (x_a4 : Nat → Int32) : va_W := [(o_t 0, .inr (0, [.ref (o_t 1)])), (o_t 1, .inl (cy 0, 13, .inl x_now)), (o_a1 0, .inr (5, [.int x_a1_w, .int x_a1_h, .int x_a1_hands, .ref (o_a1 4), .ref (o_a1 5), .ref (o_a1 6), .ref (o_a1 7)])), (o_a1 4, .inl (cy 0, 7, .inl x_a1_rules)), (o_a1 6, .inl (cy 0, 6, .inl x_a1_leftFrom)), (o_a1 7, .inl (cy 0, 6, .inl x_a1_leftTo)), (r_a4, .inl (cy 0, n_a4, .inl x_a4))]
set_option maxHeartbeats 4000000 in
set_option maxRecDepth 100000 in
theorem w_X0_advance {p : Program} {l : Launch} {e : Env} {s : State} {m : MethodId} {args : Array Value} {below : List Frame} {meth : Method} {c : Code} {Q : State → Prop} {A : Nat → Prop} {H : Heap} {locs : List Loc} {ls : Array Slot} (D : va_G) (cy : Nat → ClassId) (t : Nat → Nat) (o_t o_a1 : Nat → Nat) (r_a4 n_a4 : Nat) (x_now : Nat → Int32) (x_a1_w : Int32) (x_a1_h : Int32) (x_a1_hands : Int32) (x_a1_rules : Nat → Int32) (x_a1_leftFrom : Nat → Int32) (x_a1_leftTo : Nat → Int32) (x_a4 : Nat → Int32) (p2 : Int32) (p3 : Int32) {out : (Nat → Int32)} (hf : X0_advance n_a4 x_a1_w x_a1_h x_a1_hands x_a1_rules x_a1_leftFrom x_a1_leftTo x_a4 x_now p2 p3 = some out) (hx : p.tables.exec = Jvm.exec) (hb : c.code = cX0_advance) (hml : c.maxLocals = 7) (hown : s.vm.findClass RX0 = some m.cls) (hts : ∀ w ∈ wsX0_advance, w.before args s = true) (hK : va_K D vwCl (TYS cy) s) (hE : EV t A s s.heap) (hA : ∀ q, s.heap.size ≤ q → A q) (hP : va_P D vwCl (wd_X0_advance cy o_t o_a1 r_a4 n_a4 x_now x_a1_w x_a1_h x_a1_hands x_a1_rules x_a1_leftFrom x_a1_leftTo x_a4) H) (hD : va_D A (wd_X0_advance cy o_t o_a1 r_a4 n_a4 x_now x_a1_w x_a1_h x_a1_hands x_a1_rules x_a1_leftFrom x_a1_leftTo x_a4)) (hS : va_S A s.heap H locs) (hl : lv_has ls 7 [(0, .ref (o_t 0)), (1, .ref (o_a1 0)), (2, .int p2), (3, .int p3), (4, .ref r_a4)]) (hR : ∀ (H : Heap) (locs : List Loc) (ls : Array Slot) (pc : Nat), va_P D vwCl (wd_X0_advance cy o_t o_a1 r_a4 n_a4 out x_a1_w x_a1_h x_a1_hands x_a1_rules x_a1_leftFrom x_a1_leftTo x_a4) H → va_D A (wd_X0_advance cy o_t o_a1 r_a4 n_a4 out x_a1_w x_a1_h x_a1_hands x_a1_rules x_a1_leftFrom x_a1_leftTo x_a4) → va_S A s.heap H locs → decode cX0_advance pc = .ok (.return_, 1) → W p l e (rmm 4 92) s m args below meth c H locs 0 0 Q (F0 m pc ls [])) : W p l e (rmm 4 92) s m args below meth c H locs 0 0 Q (F0 m 0 ls []) := by
  have k0 := hts (.fieldLink RX0 21 "SeaGames$Play" "hands" "I") (List.mem_cons_of_mem _ (List.mem_append_left _ (List.mem_append_left _ (List.mem_append_left _ (List.mem_of_getElem? (i := 0) rfl)))))
  have k1 : ∀ w ∈ u_ws RX5 TX5 7, w ∈ wsX0_advance := fun _ h => List.mem_cons_of_mem _ (List.mem_append_left _ (List.mem_append_right _ h))
  rw [X0_advance] at hf
  have h3 : ∀ (n3 : Nat) (x_now : Nat → Int32) (l2 : Int32) (l3 : Int32) (l5 : Int32) (H : Heap) (locs : List Loc) (ls : Array Slot), X0_advance_L3 n_a4 x_a1_w x_a1_h x_a1_hands x_a1_rules x_a1_leftFrom x_a1_leftTo x_a4 n3 x_now l2 l3 l5 = some out → va_P D vwCl (wd_X0_advance cy o_t o_a1 r_a4 n_a4 x_now x_a1_w x_a1_h x_a1_hands x_a1_rules x_a1_leftFrom x_a1_leftTo x_a4) H → va_D A (wd_X0_advance cy o_t o_a1 r_a4 n_a4 x_now x_a1_w x_a1_h x_a1_hands x_a1_rules x_a1_leftFrom x_a1_leftTo x_a4) → va_S A s.heap H locs → lv_has ls 7 [(0, .ref (o_t 0)), (1, .ref (o_a1 0)), (2, .int l2), (3, .int l3), (4, .ref r_a4), (5, .int l5)] → W p l e (rmm 4 92) s m args below meth c H locs 0 0 Q (F0 m 3 ls []) := by
    intro n3
    induction n3 with
    | zero =>
      intro _ _ _ _ _ _ _ hf
      exact nomatch (show (none : Option _) = some out from hf)
    | succ n3 ih3 =>
      intro x_now l2 l3 l5 H locs ls hf hP hD hS hl
      have hf : X0_advance_L3_B n_a4 x_a1_w x_a1_h x_a1_hands x_a1_rules x_a1_leftFrom x_a1_leftTo x_a4 (X0_advance_L3 n_a4 x_a1_w x_a1_h x_a1_hands x_a1_rules x_a1_leftFrom x_a1_leftTo x_a4 n3) x_now l2 l3 l5 = some out := hf
      rw [X0_advance_L3_B] at hf
      have h75 : ∀ (x_now : Nat → Int32) (l3 : Int32) (H : Heap) (locs : List Loc) (ls : Array Slot), X0_advance_J75 n_a4 x_a1_w x_a1_h x_a1_hands x_a1_rules x_a1_leftFrom x_a1_leftTo x_a4 x_now l3 = some out → va_P D vwCl (wd_X0_advance cy o_t o_a1 r_a4 n_a4 x_now x_a1_w x_a1_h x_a1_hands x_a1_rules x_a1_leftFrom x_a1_leftTo x_a4) H → va_D A (wd_X0_advance cy o_t o_a1 r_a4 n_a4 x_now x_a1_w x_a1_h x_a1_hands x_a1_rules x_a1_leftFrom x_a1_leftTo x_a4) → va_S A s.heap H locs → lv_has ls 7 [(0, .ref (o_t 0)), (1, .ref (o_a1 0)), (3, .int l3)] → W p l e (rmm 4 92) s m args below meth c H locs 0 0 Q (F0 m 75 ls []) := by
        intro x_now l3 H locs ls hf hP hD hS hl
        rw [X0_advance_J75] at hf
        refine lv_aload_n hx hb dX0_advance_75 rfl (lv_at hl 0 rfl) ?_
        refine lv_aload_n hx hb dX0_advance_76 rfl (lv_at hl 1 rfl) ?_
        refine lv_iload_n hx hb dX0_advance_77 rfl (lv_at hl 2 rfl) ?_
        obtain ⟨r78, hr78, hf⟩ := bd_s hf
        refine my_Vv (WS2 := (wd_X0_advance cy o_t o_a1 r_a4 n_a4 r78 x_a1_w x_a1_h x_a1_hands x_a1_rules x_a1_leftFrom x_a1_leftTo x_a4)) ⟨hx, hb, hml, hown, hts⟩ (c_X0_spinBall l D cy t o_t o_a1 x_now x_a1_w x_a1_h x_a1_hands x_a1_rules l3 hr78) (cwV 2 hts gX0_advance_X0_spinBall rfl rfl rfl ⟨rfl, hd_X0_spinBall⟩ ⟨Nat.le_of_ble_eq_true rfl, Nat.le_of_ble_eq_true rfl⟩) hK hE hP hD hS hA [0, 1, 2, 3] 7 0 0 rfl rfl rfl rfl (by decide +kernel) rfl rfl hl.1 rfl (Nat.le_of_ble_eq_true rfl) dX0_advance_78 ⟨Nat.le_of_ble_eq_true rfl, Nat.le_of_ble_eq_true rfl⟩ (fun H locs hP hD hS => ?_)
        refine lv_aload_n hx hb dX0_advance_81 rfl (lv_at hl 0 rfl) ?_
        refine lv_aload_n hx hb dX0_advance_82 rfl (lv_at hl 1 rfl) ?_
        obtain ⟨r83, hr83, hf⟩ := bd_s hf
        refine my_Vv (WS2 := (wd_X0_advance cy o_t o_a1 r_a4 n_a4 r83 x_a1_w x_a1_h x_a1_hands x_a1_rules x_a1_leftFrom x_a1_leftTo x_a4)) ⟨hx, hb, hml, hown, hts⟩ (c_X0_givePoint l D cy t o_t o_a1 r78 x_a1_w x_a1_h x_a1_hands hr83) (cwV 1 hts gX0_advance_X0_givePoint rfl rfl rfl ⟨rfl, hd_X0_givePoint⟩ ⟨Nat.le_of_ble_eq_true rfl, Nat.le_of_ble_eq_true rfl⟩) hK hE hP hD hS hA [0, 1, 2] 7 0 0 rfl rfl rfl rfl (by decide +kernel) rfl rfl hl.1 rfl (Nat.le_of_ble_eq_true rfl) dX0_advance_83 ⟨Nat.le_of_ble_eq_true rfl, Nat.le_of_ble_eq_true rfl⟩ (fun H locs hP hD hS => ?_)
        obtain rfl := Option.some.inj hf
        exact hR _ _ _ _ hP hD hS dX0_advance_86
      refine lv_iload hx hb dX0_advance_3 (lv_at hl 5 rfl) ?_
      refine lv_aload_n hx hb dX0_advance_5 rfl (lv_at hl 1 rfl) ?_
      refine va_get (D := D) (ci := 5) (v := .int x_a1_hands) (C := RX5) (T := TX5) (N := 7) hx hb hts k1 hown hK hP 2 rfl rfl 2 (by decide) k0 (fun _ h9 => h9) rfl dX0_advance_6 ?_
      refine lv_icmp_ge (tgt := 75) hx hb dX0_advance_9 (by decide) (fun c9 => ?_) (fun c9 => ?_)
      · have hf := ifp c9 hf
        exact h75 _ _ _ _ _ hf hP hD hS (lv_sub hl [0, 1, 3] rfl)
      · have hf := ifn c9 hf
        have h36 : ∀ (x_now : Nat → Int32) (l2 : Int32) (l3 : Int32) (l5 : Int32) (s0 : Int32) (H : Heap) (locs : List Loc) (ls : Array Slot), X0_advance_J36 n_a4 x_a1_w x_a1_h x_a1_hands x_a1_rules x_a1_leftFrom x_a1_leftTo x_a4 (X0_advance_L3 n_a4 x_a1_w x_a1_h x_a1_hands x_a1_rules x_a1_leftFrom x_a1_leftTo x_a4 n3) x_now l2 l3 l5 s0 = some out → va_P D vwCl (wd_X0_advance cy o_t o_a1 r_a4 n_a4 x_now x_a1_w x_a1_h x_a1_hands x_a1_rules x_a1_leftFrom x_a1_leftTo x_a4) H → va_D A (wd_X0_advance cy o_t o_a1 r_a4 n_a4 x_now x_a1_w x_a1_h x_a1_hands x_a1_rules x_a1_leftFrom x_a1_leftTo x_a4) → va_S A s.heap H locs → lv_has ls 7 [(0, .ref (o_t 0)), (1, .ref (o_a1 0)), (2, .int l2), (3, .int l3), (4, .ref r_a4), (5, .int l5)] → W p l e (rmm 4 92) s m args below meth c H locs 0 0 Q (F0 m 36 ls [.int s0]) := by
          intro x_now l2 l3 l5 s0 H locs ls hf hP hD hS hl
          rw [X0_advance_J36] at hf
          have h69 : ∀ (x_now : Nat → Int32) (l2 : Int32) (l3 : Int32) (l5 : Int32) (H : Heap) (locs : List Loc) (ls : Array Slot), X0_advance_J69 n_a4 x_a1_w x_a1_h x_a1_hands x_a1_rules x_a1_leftFrom x_a1_leftTo x_a4 (X0_advance_L3 n_a4 x_a1_w x_a1_h x_a1_hands x_a1_rules x_a1_leftFrom x_a1_leftTo x_a4 n3) x_now l2 l3 l5 = some out → va_P D vwCl (wd_X0_advance cy o_t o_a1 r_a4 n_a4 x_now x_a1_w x_a1_h x_a1_hands x_a1_rules x_a1_leftFrom x_a1_leftTo x_a4) H → va_D A (wd_X0_advance cy o_t o_a1 r_a4 n_a4 x_now x_a1_w x_a1_h x_a1_hands x_a1_rules x_a1_leftFrom x_a1_leftTo x_a4) → va_S A s.heap H locs → lv_has ls 7 [(0, .ref (o_t 0)), (1, .ref (o_a1 0)), (2, .int l2), (3, .int l3), (4, .ref r_a4), (5, .int l5)] → W p l e (rmm 4 92) s m args below meth c H locs 0 0 Q (F0 m 69 ls []) := by
            intro x_now l2 l3 l5 H locs ls hf hP hD hS hl
            rw [X0_advance_J69] at hf
            obtain ⟨v69, ev69, hf⟩ := nm_s hf
            refine lv_iinc (v := v69) (lv' := [(5, .int v69), (0, .ref (o_t 0)), (1, .ref (o_a1 0)), (2, .int l2), (3, .int l3), (4, .ref r_a4)]) hx hb dX0_advance_69 hl (k := 5) rfl (by rw [ev69]; rfl) (by decide) rfl (fun ls hl => ?_)
            refine lv_goto (tgt := 3) hx hb dX0_advance_72 (by decide) ?_
            exact ih3 _ _ _ _ _ _ _ hf hP hD hS (lv_sub hl [1, 2, 3, 4, 5, 0] rfl)
          refine lv_istore (lv' := [(6, .int s0), (0, .ref (o_t 0)), (1, .ref (o_a1 0)), (2, .int l2), (3, .int l3), (4, .ref r_a4), (5, .int l5)]) hx hb dX0_advance_36 hl (by decide) rfl (fun ls hl => ?_)
          refine lv_iload hx hb dX0_advance_38 (lv_at hl 0 rfl) ?_
          refine lv_iconst (v := (5 : Int32)) hx hb dX0_advance_40 (by decide) ?_
          refine lv_icmp_ne (tgt := 55) hx hb dX0_advance_41 (by decide) (fun c41 => ?_) (fun c41 => ?_)
          · have hf := ifn c41 hf
            refine lv_iload hx hb dX0_advance_55 (lv_at hl 0 rfl) ?_
            refine lv_if_le (tgt := 69) hx hb dX0_advance_57 (by decide) (fun c57 => ?_) (fun c57 => ?_)
            · have hf := ifp c57 hf
              exact h69 _ _ _ _ _ _ _ hf hP hD hS (lv_sub hl [1, 2, 3, 4, 5, 6] rfl)
            · have hf := ifn c57 hf
              refine lv_aload_n hx hb dX0_advance_60 rfl (lv_at hl 1 rfl) ?_
              refine lv_aload_n hx hb dX0_advance_61 rfl (lv_at hl 2 rfl) ?_
              refine lv_iload hx hb dX0_advance_62 (lv_at hl 6 rfl) ?_
              refine lv_iload hx hb dX0_advance_64 (lv_at hl 0 rfl) ?_
              obtain ⟨r66, hr66, hf⟩ := bd_s hf
              refine my_Vv (WS2 := (wd_X0_advance cy o_t o_a1 r_a4 n_a4 r66 x_a1_w x_a1_h x_a1_hands x_a1_rules x_a1_leftFrom x_a1_leftTo x_a4)) ⟨hx, hb, hml, hown, hts⟩ (c_X0_go l D cy t o_t o_a1 x_now x_a1_w x_a1_h x_a1_hands l5 s0 hr66) (cwV 3 hts gX0_advance_X0_go rfl rfl rfl ⟨rfl, hd_X0_go⟩ ⟨Nat.le_of_ble_eq_true rfl, Nat.le_of_ble_eq_true rfl⟩) hK hE hP hD hS hA [0, 1, 2] 7 0 0 rfl rfl rfl rfl (by decide +kernel) rfl rfl hl.1 rfl (Nat.le_of_ble_eq_true rfl) dX0_advance_66 ⟨Nat.le_of_ble_eq_true rfl, Nat.le_of_ble_eq_true rfl⟩ (fun H locs hP hD hS => ?_)
              exact h69 _ _ _ _ _ _ _ hf hP hD hS (lv_sub hl [1, 2, 3, 4, 5, 6] rfl)
          · have hf := ifp c41 hf
            refine lv_aload_n hx hb dX0_advance_44 rfl (lv_at hl 1 rfl) ?_
            refine lv_aload_n hx hb dX0_advance_45 rfl (lv_at hl 2 rfl) ?_
            refine lv_iload hx hb dX0_advance_46 (lv_at hl 6 rfl) ?_
            refine lv_iload_n hx hb dX0_advance_48 rfl (lv_at hl 3 rfl) ?_
            obtain ⟨r49, hr49, hf⟩ := bd_s hf
            refine my_Vv (WS2 := (wd_X0_advance cy o_t o_a1 r_a4 n_a4 r49 x_a1_w x_a1_h x_a1_hands x_a1_rules x_a1_leftFrom x_a1_leftTo x_a4)) ⟨hx, hb, hml, hown, hts⟩ (c_X0_kick l D cy t o_t o_a1 x_now x_a1_w x_a1_h x_a1_hands l5 l2 hr49) (cwV 3 hts gX0_advance_X0_kick rfl rfl rfl ⟨rfl, hd_X0_kick⟩ ⟨Nat.le_of_ble_eq_true rfl, Nat.le_of_ble_eq_true rfl⟩) hK hE hP hD hS hA [0, 1, 2] 7 0 0 rfl rfl rfl rfl (by decide +kernel) rfl rfl hl.1 rfl (Nat.le_of_ble_eq_true rfl) dX0_advance_49 ⟨Nat.le_of_ble_eq_true rfl, Nat.le_of_ble_eq_true rfl⟩ (fun H locs hP hD hS => ?_)
            refine lv_goto (tgt := 69) hx hb dX0_advance_52 (by decide) ?_
            exact h69 _ _ _ _ _ _ _ hf hP hD hS (lv_sub hl [1, 2, 3, 4, 5, 6] rfl)
        refine lv_aload_n hx hb dX0_advance_12 rfl (lv_at hl 1 rfl) ?_
        refine lv_iload hx hb dX0_advance_13 (lv_at hl 5 rfl) ?_
        refine lv_iload_n hx hb dX0_advance_15 rfl (lv_at hl 3 rfl) ?_
        obtain ⟨r16, hr16, hf⟩ := bd_s hf
        refine my_Vi (WS2 := (wd_X0_advance cy o_t o_a1 r_a4 n_a4 x_now x_a1_w x_a1_h x_a1_hands x_a1_rules x_a1_leftFrom x_a1_leftTo x_a4)) ⟨hx, hb, hml, hown, hts⟩ (c_X5_isLeft l D cy t o_a1 x_a1_w x_a1_h x_a1_hands x_a1_leftFrom x_a1_leftTo l5 l3 hr16) (cwV 2 hts gX0_advance_X5_isLeft rfl rfl rfl ⟨rfl, hd_X5_isLeft⟩ ⟨Nat.le_of_ble_eq_true rfl, Nat.le_of_ble_eq_true rfl⟩) hK hE hP hD hS hA [2, 4, 5] 7 5 0 rfl rfl rfl rfl (by decide +kernel) rfl rfl hl.1 rfl (Nat.le_of_ble_eq_true rfl) dX0_advance_16 ⟨Nat.le_of_ble_eq_true rfl, Nat.le_of_ble_eq_true rfl⟩ (fun H locs hP hD hS => ?_)
        refine lv_if_eq (tgt := 31) hx hb dX0_advance_19 (by decide) (fun c19 => ?_) (fun c19 => ?_)
        · have hf := ifp c19 hf
          refine lv_aload hx hb dX0_advance_31 (lv_at hl 4 rfl) ?_
          refine lv_iload hx hb dX0_advance_33 (lv_at hl 5 rfl) ?_
          obtain ⟨v35, b35, ev35, hf⟩ := rd_s hf
          refine my_iald hx hb hK hP 6 rfl b35 ev35 dX0_advance_35 ?_
          exact h36 _ _ _ _ _ _ _ _ hf hP hD hS (lv_sub hl [0, 1, 2, 3, 4, 5] rfl)
        · have hf := ifn c19 hf
          refine lv_aload_n hx hb dX0_advance_22 rfl (lv_at hl 0 rfl) ?_
          refine lv_iload hx hb dX0_advance_23 (lv_at hl 5 rfl) ?_
          obtain ⟨r25, hr25, hf⟩ := bd_s hf
          refine my_Vi (WS2 := (wd_X0_advance cy o_t o_a1 r_a4 n_a4 x_now x_a1_w x_a1_h x_a1_hands x_a1_rules x_a1_leftFrom x_a1_leftTo x_a4)) ⟨hx, hb, hml, hown, hts⟩ (c_X0_machinePress l D cy t o_t x_now l5 hr25) (cwV 1 hts gX0_advance_X0_machinePress rfl rfl rfl ⟨rfl, hd_X0_machinePress⟩ ⟨Nat.le_of_ble_eq_true rfl, Nat.le_of_ble_eq_true rfl⟩) hK hE hP hD hS hA [0, 1] 7 0 0 rfl rfl rfl rfl (by decide +kernel) rfl rfl hl.1 rfl (Nat.le_of_ble_eq_true rfl) dX0_advance_25 ⟨Nat.le_of_ble_eq_true rfl, Nat.le_of_ble_eq_true rfl⟩ (fun H locs hP hD hS => ?_)
          refine lv_goto (tgt := 36) hx hb dX0_advance_28 (by decide) ?_
          exact h36 _ _ _ _ _ _ _ _ hf hP hD hS (lv_sub hl [0, 1, 2, 3, 4, 5] rfl)
  refine lv_iconst (v := (0 : Int32)) hx hb dX0_advance_0 (by decide) ?_
  refine lv_istore (lv' := [(5, .int (0 : Int32)), (0, .ref (o_t 0)), (1, .ref (o_a1 0)), (2, .int p2), (3, .int p3), (4, .ref r_a4)]) hx hb dX0_advance_1 hl (by decide) rfl (fun ls hl => ?_)
  exact h3 FU _ _ _ _ _ _ _ hf hP hD hS (lv_sub hl [1, 2, 3, 4, 5, 0] rfl)
theorem hd_X0_advance : yX0_advance.cls ≠ "java/lang/invoke/MethodHandle" ∧ yX0_advance.cls ≠ "java/lang/invoke/VarHandle" ∧ (parseMethodDescriptor yX0_advance.desc).map (fun d => d.parameters.length) = some 4 := by decide +kernel
set_option maxRecDepth 100000 in
theorem c_X0_advance (l : Launch) (D : va_G) (cy : Nat → ClassId) (t : Nat → Nat) (o_t o_a1 : Nat → Nat) (r_a4 n_a4 : Nat) (x_now : Nat → Int32) (x_a1_w : Int32) (x_a1_h : Int32) (x_a1_hands : Int32) (x_a1_rules : Nat → Int32) (x_a1_leftFrom : Nat → Int32) (x_a1_leftTo : Nat → Int32) (x_a4 : Nat → Int32) (p2 : Int32) (p3 : Int32) {out : (Nat → Int32)} (hf : X0_advance n_a4 x_a1_w x_a1_h x_a1_hands x_a1_rules x_a1_leftFrom x_a1_leftTo x_a4 x_now p2 p3 = some out) : ctV l yX0_advance wsX0_advance 4 92 D cy t [.ref (o_t 0), .ref (o_a1 0), .int p2, .int p3, .ref r_a4] (wd_X0_advance cy o_t o_a1 r_a4 n_a4 x_now x_a1_w x_a1_h x_a1_hands x_a1_rules x_a1_leftFrom x_a1_leftTo x_a4) (wd_X0_advance cy o_t o_a1 r_a4 n_a4 out x_a1_w x_a1_h x_a1_hands x_a1_rules x_a1_leftFrom x_a1_leftTo x_a4) := by
  refine ⟨rfl, ?_⟩
  intro sz
  refine Met.ofW (cc := cX0_advance) (maxL := 7) (ret := none) (by decide) rfl ?_
  intro p e s m args below meth c s₁ B hml hv
  obtain ⟨rfl, hsz, hP, hK, hD0, hE⟩ := hv
  have hts := atoms_spec (ws := wsX0_advance) B.pre
  have hown : s.vm.findClass RX0 = some m.cls := findClass_of_methodNamed B.named
  have hlocks := B.notSynchronized
  subst hsz
  have hD := hD0.self (sz := s.heap.size)
  have hl := lv_entry ([.ref (o_t 0), .ref (o_a1 0), .int p2, .int p3, .ref r_a4]) (n := 7) (Nat.le_of_ble_eq_true rfl)
  rw [lg_entry_eq]
  generalize (lg_sl ([.ref (o_t 0), .ref (o_a1 0), .int p2, .int p3, .ref r_a4]) ++ List.replicate (7 - (lg_sl ([.ref (o_t 0), .ref (o_a1 0), .int p2, .int p3, .ref r_a4])).length) Slot.unset).toArray = ls at hl ⊢
  exact w_X0_advance D cy t o_t o_a1 r_a4 n_a4 x_now x_a1_w x_a1_h x_a1_hands x_a1_rules x_a1_leftFrom x_a1_leftTo x_a4 p2 p3 hf B.exec B.bytes hml hown hts hK hE (fun q h => Or.inr h) hP hD va_S.rf hl (fun H locs ls pc hP hD hS hdg => W.vret B.exec B.bytes B.returns (fun t ht hW => ⟨⟨(), rfl, trivial, ctB_of ht hP⟩, hS.F ht⟩) hS.2.2 hdg)

noncomputable def X0_isLike_L2_B (x_now : Nat → Int32) (x_a1_now : Nat → Int32) (rec2 : Int32 → Option (Int32)) (l2 : Int32) : Option (Int32) :=
  if (13 : Int32) ≤ l2 then (zb (1 : Int32) <| some (1 : Int32)) else (rd x_now 13 l2 fun v13 => rd x_a1_now 13 l2 fun v19 => if v13 = v19 then (nm (l2 + (1 : Int32)) fun v25 => rec2  v25) else (zb (0 : Int32) <| some (0 : Int32)))
noncomputable def X0_isLike_L2 (x_now : Nat → Int32) (x_a1_now : Nat → Int32) : Nat → Int32 → Option (Int32)
  | 0, _ => none
  | n + 1, y0 => X0_isLike_L2_B x_now x_a1_now  (X0_isLike_L2 x_now x_a1_now  n) y0
noncomputable def X0_isLike (x_now : Nat → Int32) (x_a1_now : Nat → Int32) : Option (Int32) :=
  X0_isLike_L2 x_now x_a1_now  FU  (0 : Int32)
abbrev wd_X0_isLike (cy : Nat → ClassId) (o_t o_a1 : Nat → Nat) (x_now : Nat → Int32) (x_a1_now : Nat → Int32) : va_W := [(o_t 0, .inr (0, [.ref (o_t 1)])), (o_t 1, .inl (cy 0, 13, .inl x_now)), (o_a1 0, .inr (0, [.ref (o_a1 1)])), (o_a1 1, .inl (cy 0, 13, .inl x_a1_now))]
set_option maxHeartbeats 4000000 in
set_option maxRecDepth 100000 in
theorem w_X0_isLike {p : Program} {l : Launch} {e : Env} {s : State} {m : MethodId} {args : Array Value} {below : List Frame} {meth : Method} {c : Code} {Q : State → Prop} {A : Nat → Prop} {H : Heap} {locs : List Loc} {ls : Array Slot} (D : va_G) (cy : Nat → ClassId) (t : Nat → Nat) (o_t o_a1 : Nat → Nat) (x_now : Nat → Int32) (x_a1_now : Nat → Int32) {out : Int32} (hf : X0_isLike x_now x_a1_now = some out) (hx : p.tables.exec = Jvm.exec) (hb : c.code = cX0_isLike) (hml : c.maxLocals = 3) (hown : s.vm.findClass RX0 = some m.cls) (hts : ∀ w ∈ wsX0_isLike, w.before args s = true) (hK : va_K D vwCl (TYS cy) s) (hE : EV t A s s.heap) (hA : ∀ q, s.heap.size ≤ q → A q) (hP : va_P D vwCl (wd_X0_isLike cy o_t o_a1 x_now x_a1_now) H) (hD : va_D A (wd_X0_isLike cy o_t o_a1 x_now x_a1_now)) (hS : va_S A s.heap H locs) (hl : lv_has ls 3 [(0, .ref (o_t 0)), (1, .ref (o_a1 0))]) (hR : ∀ (H : Heap) (locs : List Loc) (ls : Array Slot) (pc : Nat), va_P D vwCl (wd_X0_isLike cy o_t o_a1 x_now x_a1_now) H → va_D A (wd_X0_isLike cy o_t o_a1 x_now x_a1_now) → va_S A s.heap H locs → narrow .boolean (.int out) = .int out → decode cX0_isLike pc = .ok (.ireturn, 1) → W p l e (rmm 0 0) s m args below meth c H locs 0 0 Q (F0 m pc ls [.int out])) : W p l e (rmm 0 0) s m args below meth c H locs 0 0 Q (F0 m 0 ls []) := by
  have k0 := hts (.fieldLink RX0 9 "SeaGames$Board" "now" "[I") (List.mem_cons_of_mem _ (List.mem_append_left _ (List.mem_of_getElem? (i := 0) rfl)))
  have k1 : ∀ w ∈ u_ws RX0 TX0 1, w ∈ wsX0_isLike := fun _ h => List.mem_cons_of_mem _ (List.mem_append_right _ h)
  rw [X0_isLike] at hf
  have h2 : ∀ (n2 : Nat) (l2 : Int32) (H : Heap) (locs : List Loc) (ls : Array Slot), X0_isLike_L2 x_now x_a1_now n2 l2 = some out → va_P D vwCl (wd_X0_isLike cy o_t o_a1 x_now x_a1_now) H → va_D A (wd_X0_isLike cy o_t o_a1 x_now x_a1_now) → va_S A s.heap H locs → lv_has ls 3 [(0, .ref (o_t 0)), (1, .ref (o_a1 0)), (2, .int l2)] → W p l e (rmm 0 0) s m args below meth c H locs 0 0 Q (F0 m 2 ls []) := by
    intro n2
    induction n2 with
    | zero =>
      intro _ _ _ _ hf
      exact nomatch (show (none : Option _) = some out from hf)
    | succ n2 ih2 =>
      intro l2 H locs ls hf hP hD hS hl
      have hf : X0_isLike_L2_B x_now x_a1_now (X0_isLike_L2 x_now x_a1_now n2) l2 = some out := hf
      rw [X0_isLike_L2_B] at hf
      refine lv_iload_n hx hb dX0_isLike_2 rfl (lv_at hl 2 rfl) ?_
      refine lv_bipush (v := (13 : Int32)) hx hb dX0_isLike_3 (by decide) ?_
      refine lv_icmp_ge (tgt := 31) hx hb dX0_isLike_5 (by decide) (fun c5 => ?_) (fun c5 => ?_)
      · have hf := ifp c5 hf
        refine lv_iconst (v := (1 : Int32)) hx hb dX0_isLike_31 (by decide) ?_
        obtain ⟨z32, hf⟩ := zb_s hf
        obtain rfl := Option.some.inj hf
        exact hR _ _ _ _ hP hD hS z32 dX0_isLike_32
      · have hf := ifn c5 hf
        refine lv_aload_n hx hb dX0_isLike_8 rfl (lv_at hl 0 rfl) ?_
        refine va_get (D := D) (ci := 0) (v := .ref (o_t 1)) (C := RX0) (T := TX0) (N := 1) hx hb hts k1 hown hK hP 0 rfl rfl 0 (by decide) k0 (fun _ h9 => h9) rfl dX0_isLike_9 ?_
        refine lv_iload_n hx hb dX0_isLike_12 rfl (lv_at hl 2 rfl) ?_
        obtain ⟨v13, b13, ev13, hf⟩ := rd_s hf
        refine my_iald hx hb hK hP 1 rfl b13 ev13 dX0_isLike_13 ?_
        refine lv_aload_n hx hb dX0_isLike_14 rfl (lv_at hl 1 rfl) ?_
        refine va_get (D := D) (ci := 0) (v := .ref (o_a1 1)) (C := RX0) (T := TX0) (N := 1) hx hb hts k1 hown hK hP 2 rfl rfl 0 (by decide) k0 (fun _ h9 => h9) rfl dX0_isLike_15 ?_
        refine lv_iload_n hx hb dX0_isLike_18 rfl (lv_at hl 2 rfl) ?_
        obtain ⟨v19, b19, ev19, hf⟩ := rd_s hf
        refine my_iald hx hb hK hP 3 rfl b19 ev19 dX0_isLike_19 ?_
        refine lv_icmp_eq (tgt := 25) hx hb dX0_isLike_20 (by decide) (fun c20 => ?_) (fun c20 => ?_)
        · have hf := ifp c20 hf
          obtain ⟨v25, ev25, hf⟩ := nm_s hf
          refine lv_iinc (v := v25) (lv' := [(2, .int v25), (0, .ref (o_t 0)), (1, .ref (o_a1 0))]) hx hb dX0_isLike_25 hl (k := 2) rfl (by rw [ev25]; rfl) (by decide) rfl (fun ls hl => ?_)
          refine lv_goto (tgt := 2) hx hb dX0_isLike_28 (by decide) ?_
          exact ih2 _ _ _ _ hf hP hD hS (lv_sub hl [1, 2, 0] rfl)
        · have hf := ifn c20 hf
          refine lv_iconst (v := (0 : Int32)) hx hb dX0_isLike_23 (by decide) ?_
          obtain ⟨z24, hf⟩ := zb_s hf
          obtain rfl := Option.some.inj hf
          exact hR _ _ _ _ hP hD hS z24 dX0_isLike_24
  refine lv_iconst (v := (0 : Int32)) hx hb dX0_isLike_0 (by decide) ?_
  refine lv_istore_n (lv' := [(2, .int (0 : Int32)), (0, .ref (o_t 0)), (1, .ref (o_a1 0))]) hx hb dX0_isLike_1 rfl hl (by decide) rfl (fun ls hl => ?_)
  exact h2 FU _ _ _ _ hf hP hD hS (lv_sub hl [1, 2, 0] rfl)
theorem hd_X0_isLike : yX0_isLike.cls ≠ "java/lang/invoke/MethodHandle" ∧ yX0_isLike.cls ≠ "java/lang/invoke/VarHandle" ∧ (parseMethodDescriptor yX0_isLike.desc).map (fun d => d.parameters.length) = some 1 := by decide +kernel
set_option maxRecDepth 100000 in
theorem c_X0_isLike (l : Launch) (D : va_G) (cy : Nat → ClassId) (t : Nat → Nat) (o_t o_a1 : Nat → Nat) (x_now : Nat → Int32) (x_a1_now : Nat → Int32) {out : Int32} (hf : X0_isLike x_now x_a1_now = some out) : ctI l yX0_isLike wsX0_isLike 0 0 D cy t [.ref (o_t 0), .ref (o_a1 0)] (wd_X0_isLike cy o_t o_a1 x_now x_a1_now) (wd_X0_isLike cy o_t o_a1 x_now x_a1_now) out := by
  refine ⟨rfl, ?_⟩
  intro sz
  refine Met.ofW (cc := cX0_isLike) (maxL := 3) (ret := (some .boolean)) (by decide) rfl ?_
  intro p e s m args below meth c s₁ B hml hv
  obtain ⟨rfl, hsz, hP, hK, hD0, hE⟩ := hv
  have hts := atoms_spec (ws := wsX0_isLike) B.pre
  have hown : s.vm.findClass RX0 = some m.cls := findClass_of_methodNamed B.named
  have hlocks := B.notSynchronized
  subst hsz
  have hD := hD0.self (sz := s.heap.size)
  have hl := lv_entry ([.ref (o_t 0), .ref (o_a1 0)]) (n := 3) (Nat.le_of_ble_eq_true rfl)
  rw [lg_entry_eq]
  generalize (lg_sl ([.ref (o_t 0), .ref (o_a1 0)]) ++ List.replicate (3 - (lg_sl ([.ref (o_t 0), .ref (o_a1 0)])).length) Slot.unset).toArray = ls at hl ⊢
  exact w_X0_isLike D cy t o_t o_a1 x_now x_a1_now hf B.exec B.bytes hml hown hts hK hE (fun q h => Or.inr h) hP hD va_S.rf hl (fun H locs ls pc hP hD hS z hdg => W.zret B.exec B.bytes B.returns z (fun t ht hW => ⟨⟨_, (), rfl, rfl, ctB_of ht hP⟩, hS.F ht⟩) hS.2.2 hdg)
