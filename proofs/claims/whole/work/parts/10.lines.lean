noncomputable def X4_clear_L10_B (rec10 : (Nat → Int32) → (Nat → Int32) → Int32 → Option ((Nat → Int32) × (Nat → Int32))) (x_waits : Nat → Int32) (x_lostRow : Nat → Int32) (l1 : Int32) : Option ((Nat → Int32) × (Nat → Int32)) :=
  if (Int32.ofNat 600) ≤ l1 then (some (x_waits, x_lostRow)) else (wrZ x_lostRow 600 l1 (0 : Int32) fun w25 => nm (l1 + (1 : Int32)) fun v26 => rec10 x_waits w25 v26)
noncomputable def X4_clear_L10 : Nat → (Nat → Int32) → (Nat → Int32) → Int32 → Option ((Nat → Int32) × (Nat → Int32))
  | 0, _, _, _ => none
  | n + 1, y0, y1, y2 => X4_clear_L10_B  (X4_clear_L10  n) y0 y1 y2
noncomputable def X4_clear (x_waits : Nat → Int32) (x_lostRow : Nat → Int32) : Option ((Nat → Int32) × (Nat → Int32)) :=
  bd (J7_fill_53178 36 x_waits (0 : Int32)) fun r5 => X4_clear_L10  FU r5 x_lostRow (0 : Int32)
abbrev wd_X4_clear (cy : Nat → ClassId) (o_t o_t_play : Nat → Nat) (x_waits : Nat → Int32) (x_lostRow : Nat → Int32) : va_W := [(o_t 0, .inr (4, [.ref (o_t_play 0), .ref (o_t 2), .ref (o_t 3)])), (o_t 2, .inl (cy 0, 36, .inl x_waits)), (o_t 3, .inl (cy 1, 600, .inl x_lostRow))]
set_option maxHeartbeats 4000000 in
set_option maxRecDepth 100000 in
theorem w_X4_clear {p : Program} {l : Launch} {e : Env} {s : State} {m : MethodId} {args : Array Value} {below : List Frame} {meth : Method} {c : Code} {Q : State → Prop} {A : Nat → Prop} {H : Heap} {locs : List Loc} {ls : Array Slot} (D : va_G) (cy : Nat → ClassId) (t : Nat → Nat) (o_t o_t_play : Nat → Nat) (x_waits : Nat → Int32) (x_lostRow : Nat → Int32) {out : (Nat → Int32) × (Nat → Int32)} (hf : X4_clear x_waits x_lostRow = some out) (hx : p.tables.exec = Jvm.exec) (hb : c.code = cX4_clear) (hml : c.maxLocals = 2) (hown : s.vm.findClass RX4 = some m.cls) (hts : ∀ w ∈ wsX4_clear, w.before args s = true) (hK : va_K D vwCl (TYS cy) s) (hE : EV t A s s.heap) (hA : ∀ q, s.heap.size ≤ q → A q) (hP : va_P D vwCl (wd_X4_clear cy o_t o_t_play x_waits x_lostRow) H) (hD : va_D A (wd_X4_clear cy o_t o_t_play x_waits x_lostRow)) (hS : va_S A s.heap H locs) (hl : lv_has ls 2 [(0, .ref (o_t 0))]) (hR : ∀ (H : Heap) (locs : List Loc) (ls : Array Slot) (pc : Nat), va_P D vwCl (wd_X4_clear cy o_t o_t_play out.1 out.2) H → va_D A (wd_X4_clear cy o_t o_t_play out.1 out.2) → va_S A s.heap H locs → decode cX4_clear pc = .ok (.return_, 1) → W p l e (rmm 1 23) s m args below meth c H locs 0 0 Q (F0 m pc ls [])) : W p l e (rmm 1 23) s m args below meth c H locs 0 0 Q (F0 m 0 ls []) := by
  have k0 := hts (.fieldLink RX4 9 "SeaGames$Lines" "waits" "[I") (List.mem_cons_of_mem _ (List.mem_append_left _ (List.mem_of_getElem? (i := 0) rfl)))
  have k1 : ∀ w ∈ u_ws RX4 TX4 3, w ∈ wsX4_clear := fun _ h => List.mem_cons_of_mem _ (List.mem_append_right _ h)
  have k2 := hts (.fieldLink RX4 15 "SeaGames$Lines" "lostRow" "[Z") (List.mem_cons_of_mem _ (List.mem_append_left _ (List.mem_of_getElem? (i := 1) rfl)))
  rw [X4_clear] at hf
  have h10 : ∀ (n10 : Nat) (x_waits : Nat → Int32) (x_lostRow : Nat → Int32) (l1 : Int32) (H : Heap) (locs : List Loc) (ls : Array Slot), X4_clear_L10 n10 x_waits x_lostRow l1 = some out → va_P D vwCl (wd_X4_clear cy o_t o_t_play x_waits x_lostRow) H → va_D A (wd_X4_clear cy o_t o_t_play x_waits x_lostRow) → va_S A s.heap H locs → lv_has ls 2 [(0, .ref (o_t 0)), (1, .int l1)] → W p l e (rmm 1 23) s m args below meth c H locs 0 0 Q (F0 m 10 ls []) := by
    intro n10
    induction n10 with
    | zero =>
      intro _ _ _ _ _ _ hf
      exact nomatch (show (none : Option _) = some out from hf)
    | succ n10 ih10 =>
      intro x_waits x_lostRow l1 H locs ls hf hP hD hS hl
      have hf : X4_clear_L10_B (X4_clear_L10 n10) x_waits x_lostRow l1 = some out := hf
      rw [X4_clear_L10_B] at hf
      refine lv_iload_n hx hb dX4_clear_10 rfl (lv_at hl 1 rfl) ?_
      refine lv_aload_n hx hb dX4_clear_11 rfl (lv_at hl 0 rfl) ?_
      refine va_get (D := D) (ci := 4) (v := .ref (o_t 3)) (C := RX4) (T := TX4) (N := 3) hx hb hts k1 hown hK hP 0 rfl rfl 2 (by decide) k2 (fun _ h9 => h9) rfl dX4_clear_12 ?_
      refine va_alen hx hb hK hP 2 1 rfl rfl (v := (Int32.ofNat 600)) rfl dX4_clear_15 ?_
      refine lv_icmp_ge (tgt := 32) hx hb dX4_clear_16 (by decide) (fun c16 => ?_) (fun c16 => ?_)
      · have hf := ifp c16 hf
        obtain rfl := Option.some.inj hf
        exact hR _ _ _ _ hP hD hS dX4_clear_32
      · have hf := ifn c16 hf
        refine lv_aload_n hx hb dX4_clear_19 rfl (lv_at hl 0 rfl) ?_
        refine va_get (D := D) (ci := 4) (v := .ref (o_t 3)) (C := RX4) (T := TX4) (N := 3) hx hb hts k1 hown hK hP 0 rfl rfl 2 (by decide) k2 (fun _ h9 => h9) rfl dX4_clear_20 ?_
        refine lv_iload_n hx hb dX4_clear_23 rfl (lv_at hl 1 rfl) ?_
        refine lv_iconst (v := (0 : Int32)) hx hb dX4_clear_24 (by decide) ?_
        obtain ⟨w25, b25, ew25, hf⟩ := wrZ_s hf
        refine my_zast (ws2 := (wd_X4_clear cy o_t o_t_play x_waits w25)) hx hb hK hP hD hS 2 rfl b25 ew25 rfl dX4_clear_25 (fun H locs hP hD hS => ?_)
        obtain ⟨v26, ev26, hf⟩ := nm_s hf
        refine lv_iinc (v := v26) (lv' := [(1, .int v26), (0, .ref (o_t 0))]) hx hb dX4_clear_26 hl (k := 1) rfl (by rw [ev26]; rfl) (by decide) rfl (fun ls hl => ?_)
        refine lv_goto (tgt := 10) hx hb dX4_clear_29 (by decide) ?_
        exact ih10 _ _ _ _ _ _ hf hP hD hS (lv_sub hl [1, 0] rfl)
  refine lv_aload_n hx hb dX4_clear_0 rfl (lv_at hl 0 rfl) ?_
  refine va_get (D := D) (ci := 4) (v := .ref (o_t 2)) (C := RX4) (T := TX4) (N := 3) hx hb hts k1 hown hK hP 0 rfl rfl 1 (by decide) k0 (fun _ h9 => h9) rfl dX4_clear_1 ?_
  refine lv_iconst (v := (0 : Int32)) hx hb dX4_clear_4 (by decide) ?_
  obtain ⟨r5, hr5, hf⟩ := bd_s hf
  refine my_Sv (WS2 := (wd_X4_clear cy o_t o_t_play r5 x_lostRow)) ⟨hx, hb, hml, hown, hts⟩ (c_J7_fill_53178 l D cy t (o_t 2) 36 x_waits (0 : Int32) hr5) (va_cwS 2 hts gX4_clear_J7_fill_53178 rfl rfl rfl hd_J7_fill_53178 ⟨Nat.le_of_ble_eq_true rfl, Nat.le_of_ble_eq_true rfl⟩) hK hE hP hD hS hA [1] 3 rfl rfl (by decide +kernel) rfl rfl hl.1 rfl (Nat.le_of_ble_eq_true rfl) dX4_clear_5 ⟨Nat.le_of_ble_eq_true rfl, Nat.le_of_ble_eq_true rfl⟩ (fun H locs hP hD hS => ?_)
  refine lv_iconst (v := (0 : Int32)) hx hb dX4_clear_8 (by decide) ?_
  refine lv_istore_n (lv' := [(1, .int (0 : Int32)), (0, .ref (o_t 0))]) hx hb dX4_clear_9 rfl hl (by decide) rfl (fun ls hl => ?_)
  exact h10 FU _ _ _ _ _ _ hf hP hD hS (lv_sub hl [1, 0] rfl)
theorem hd_X4_clear : yX4_clear.cls ≠ "java/lang/invoke/MethodHandle" ∧ yX4_clear.cls ≠ "java/lang/invoke/VarHandle" ∧ (parseMethodDescriptor yX4_clear.desc).map (fun d => d.parameters.length) = some 0 := by decide +kernel
set_option maxRecDepth 100000 in
theorem c_X4_clear (l : Launch) (D : va_G) (cy : Nat → ClassId) (t : Nat → Nat) (o_t o_t_play : Nat → Nat) (x_waits : Nat → Int32) (x_lostRow : Nat → Int32) {out : (Nat → Int32) × (Nat → Int32)} (hf : X4_clear x_waits x_lostRow = some out) : ctV l yX4_clear wsX4_clear 1 23 D cy t [.ref (o_t 0)] (wd_X4_clear cy o_t o_t_play x_waits x_lostRow) (wd_X4_clear cy o_t o_t_play out.1 out.2) := by
  refine ⟨rfl, ?_⟩
  intro sz
  refine Met.ofW (cc := cX4_clear) (maxL := 2) (ret := none) (by decide) rfl ?_
  intro p e s m args below meth c s₁ B hml hv
  obtain ⟨rfl, hsz, hP, hK, hD0, hE⟩ := hv
  have hts := atoms_spec (ws := wsX4_clear) B.pre
  have hown : s.vm.findClass RX4 = some m.cls := findClass_of_methodNamed B.named
  have hlocks := B.notSynchronized
  subst hsz
  have hD := hD0.self (sz := s.heap.size)
  have hl := lv_entry ([.ref (o_t 0)]) (n := 2) (Nat.le_of_ble_eq_true rfl)
  rw [lg_entry_eq]
  generalize (lg_sl ([.ref (o_t 0)]) ++ List.replicate (2 - (lg_sl ([.ref (o_t 0)])).length) Slot.unset).toArray = ls at hl ⊢
  exact w_X4_clear D cy t o_t o_t_play x_waits x_lostRow hf B.exec B.bytes hml hown hts hK hE (fun q h => Or.inr h) hP hD va_S.rf hl (fun H locs ls pc hP hD hS hdg => W.vret B.exec B.bytes B.returns (fun t ht hW => ⟨⟨(), rfl, trivial, ctB_of ht hP⟩, hS.F ht⟩) hS.2.2 hdg)

noncomputable def X4_waitOf (x_waits : Nat → Int32) (p1 : Int32) (p2 : Int32) : Option (Int32) :=
  rd x_waits 36 ((p1 * (6 : Int32)) + p2) fun v10 => some v10
abbrev wd_X4_waitOf (cy : Nat → ClassId) (o_t o_t_play : Nat → Nat) (x_waits : Nat → Int32) : va_W := [(o_t 0, .inr (4, [.ref (o_t_play 0), .ref (o_t 2), .ref (o_t 3)])), (o_t 2, .inl (cy 0, 36, .inl x_waits))]
set_option maxHeartbeats 4000000 in
set_option maxRecDepth 100000 in
theorem w_X4_waitOf {p : Program} {l : Launch} {e : Env} {s : State} {m : MethodId} {args : Array Value} {below : List Frame} {meth : Method} {c : Code} {Q : State → Prop} {A : Nat → Prop} {H : Heap} {locs : List Loc} {ls : Array Slot} (D : va_G) (cy : Nat → ClassId) (t : Nat → Nat) (o_t o_t_play : Nat → Nat) (x_waits : Nat → Int32) (p1 : Int32) (p2 : Int32) {out : Int32} (hf : X4_waitOf x_waits p1 p2 = some out) (hx : p.tables.exec = Jvm.exec) (hb : c.code = cX4_waitOf) (hml : c.maxLocals = 3) (hown : s.vm.findClass RX4 = some m.cls) (hts : ∀ w ∈ wsX4_waitOf, w.before args s = true) (hK : va_K D vwCl (TYS cy) s) (hE : EV t A s s.heap) (hA : ∀ q, s.heap.size ≤ q → A q) (hP : va_P D vwCl (wd_X4_waitOf cy o_t o_t_play x_waits) H) (hD : va_D A (wd_X4_waitOf cy o_t o_t_play x_waits)) (hS : va_S A s.heap H locs) (hl : lv_has ls 3 [(0, .ref (o_t 0)), (1, .int p1), (2, .int p2)]) (hR : ∀ (H : Heap) (locs : List Loc) (ls : Array Slot) (pc : Nat), va_P D vwCl (wd_X4_waitOf cy o_t o_t_play x_waits) H → va_D A (wd_X4_waitOf cy o_t o_t_play x_waits) → va_S A s.heap H locs → decode cX4_waitOf pc = .ok (.ireturn, 1) → W p l e (rmm 0 0) s m args below meth c H locs 0 0 Q (F0 m pc ls [.int out])) : W p l e (rmm 0 0) s m args below meth c H locs 0 0 Q (F0 m 0 ls []) := by
  have k0 := hts (.fieldLink RX4 9 "SeaGames$Lines" "waits" "[I") (List.mem_cons_of_mem _ (List.mem_append_left _ (List.mem_of_getElem? (i := 0) rfl)))
  have k1 : ∀ w ∈ u_ws RX4 TX4 3, w ∈ wsX4_waitOf := fun _ h => List.mem_cons_of_mem _ (List.mem_append_right _ h)
  rw [X4_waitOf] at hf
  refine lv_aload_n hx hb dX4_waitOf_0 rfl (lv_at hl 0 rfl) ?_
  refine va_get (D := D) (ci := 4) (v := .ref (o_t 2)) (C := RX4) (T := TX4) (N := 3) hx hb hts k1 hown hK hP 0 rfl rfl 1 (by decide) k0 (fun _ h9 => h9) rfl dX4_waitOf_1 ?_
  refine lv_iload_n hx hb dX4_waitOf_4 rfl (lv_at hl 1 rfl) ?_
  refine lv_bipush (v := (6 : Int32)) hx hb dX4_waitOf_5 (by decide) ?_
  refine lv_imul hx hb dX4_waitOf_7 ?_
  refine lv_iload_n hx hb dX4_waitOf_8 rfl (lv_at hl 2 rfl) ?_
  refine lv_iadd hx hb dX4_waitOf_9 ?_
  obtain ⟨v10, b10, ev10, hf⟩ := rd_s hf
  refine my_iald hx hb hK hP 1 rfl b10 ev10 dX4_waitOf_10 ?_
  obtain rfl := Option.some.inj hf
  exact hR _ _ _ _ hP hD hS dX4_waitOf_11
theorem hd_X4_waitOf : yX4_waitOf.cls ≠ "java/lang/invoke/MethodHandle" ∧ yX4_waitOf.cls ≠ "java/lang/invoke/VarHandle" ∧ (parseMethodDescriptor yX4_waitOf.desc).map (fun d => d.parameters.length) = some 2 := by decide +kernel
set_option maxRecDepth 100000 in
theorem c_X4_waitOf (l : Launch) (D : va_G) (cy : Nat → ClassId) (t : Nat → Nat) (o_t o_t_play : Nat → Nat) (x_waits : Nat → Int32) (p1 : Int32) (p2 : Int32) {out : Int32} (hf : X4_waitOf x_waits p1 p2 = some out) : ctI l yX4_waitOf wsX4_waitOf 0 0 D cy t [.ref (o_t 0), .int p1, .int p2] (wd_X4_waitOf cy o_t o_t_play x_waits) (wd_X4_waitOf cy o_t o_t_play x_waits) out := by
  refine ⟨rfl, ?_⟩
  intro sz
  refine Met.ofW (cc := cX4_waitOf) (maxL := 3) (ret := (some .int)) (by decide) rfl ?_
  intro p e s m args below meth c s₁ B hml hv
  obtain ⟨rfl, hsz, hP, hK, hD0, hE⟩ := hv
  have hts := atoms_spec (ws := wsX4_waitOf) B.pre
  have hown : s.vm.findClass RX4 = some m.cls := findClass_of_methodNamed B.named
  have hlocks := B.notSynchronized
  subst hsz
  have hD := hD0.self (sz := s.heap.size)
  have hl := lv_entry ([.ref (o_t 0), .int p1, .int p2]) (n := 3) (Nat.le_of_ble_eq_true rfl)
  rw [lg_entry_eq]
  generalize (lg_sl ([.ref (o_t 0), .int p1, .int p2]) ++ List.replicate (3 - (lg_sl ([.ref (o_t 0), .int p1, .int p2])).length) Slot.unset).toArray = ls at hl ⊢
  exact w_X4_waitOf D cy t o_t o_t_play x_waits p1 p2 hf B.exec B.bytes hml hown hts hK hE (fun q h => Or.inr h) hP hD va_S.rf hl (fun H locs ls pc hP hD hS hdg => W.iret B.exec B.bytes B.returns (fun t ht hW => ⟨⟨_, (), rfl, rfl, ctB_of ht hP⟩, hS.F ht⟩) hS.2.2 hdg)

noncomputable def X4_setWait (x_waits : Nat → Int32) (p1 : Int32) (p2 : Int32) (p3 : Int32) : Option ((Nat → Int32)) :=
  wrI x_waits 36 ((p1 * (6 : Int32)) + p2) p3 fun w11 => wrI w11 36 ((p2 * (6 : Int32)) + p1) p3 fun w23 => some w23
abbrev wd_X4_setWait (cy : Nat → ClassId) (o_t o_t_play : Nat → Nat) (x_waits : Nat → Int32) : va_W := [(o_t 0, .inr (4, [.ref (o_t_play 0), .ref (o_t 2), .ref (o_t 3)])), (o_t 2, .inl (cy 0, 36, .inl x_waits))]
set_option maxHeartbeats 4000000 in
set_option maxRecDepth 100000 in
theorem w_X4_setWait {p : Program} {l : Launch} {e : Env} {s : State} {m : MethodId} {args : Array Value} {below : List Frame} {meth : Method} {c : Code} {Q : State → Prop} {A : Nat → Prop} {H : Heap} {locs : List Loc} {ls : Array Slot} (D : va_G) (cy : Nat → ClassId) (t : Nat → Nat) (o_t o_t_play : Nat → Nat) (x_waits : Nat → Int32) (p1 : Int32) (p2 : Int32) (p3 : Int32) {out : (Nat → Int32)} (hf : X4_setWait x_waits p1 p2 p3 = some out) (hx : p.tables.exec = Jvm.exec) (hb : c.code = cX4_setWait) (hml : c.maxLocals = 4) (hown : s.vm.findClass RX4 = some m.cls) (hts : ∀ w ∈ wsX4_setWait, w.before args s = true) (hK : va_K D vwCl (TYS cy) s) (hE : EV t A s s.heap) (hA : ∀ q, s.heap.size ≤ q → A q) (hP : va_P D vwCl (wd_X4_setWait cy o_t o_t_play x_waits) H) (hD : va_D A (wd_X4_setWait cy o_t o_t_play x_waits)) (hS : va_S A s.heap H locs) (hl : lv_has ls 4 [(0, .ref (o_t 0)), (1, .int p1), (2, .int p2), (3, .int p3)]) (hR : ∀ (H : Heap) (locs : List Loc) (ls : Array Slot) (pc : Nat), va_P D vwCl (wd_X4_setWait cy o_t o_t_play out) H → va_D A (wd_X4_setWait cy o_t o_t_play out) → va_S A s.heap H locs → decode cX4_setWait pc = .ok (.return_, 1) → W p l e (rmm 0 0) s m args below meth c H locs 0 0 Q (F0 m pc ls [])) : W p l e (rmm 0 0) s m args below meth c H locs 0 0 Q (F0 m 0 ls []) := by
  have k0 := hts (.fieldLink RX4 9 "SeaGames$Lines" "waits" "[I") (List.mem_cons_of_mem _ (List.mem_append_left _ (List.mem_of_getElem? (i := 0) rfl)))
  have k1 : ∀ w ∈ u_ws RX4 TX4 3, w ∈ wsX4_setWait := fun _ h => List.mem_cons_of_mem _ (List.mem_append_right _ h)
  rw [X4_setWait] at hf
  refine lv_aload_n hx hb dX4_setWait_0 rfl (lv_at hl 0 rfl) ?_
  refine va_get (D := D) (ci := 4) (v := .ref (o_t 2)) (C := RX4) (T := TX4) (N := 3) hx hb hts k1 hown hK hP 0 rfl rfl 1 (by decide) k0 (fun _ h9 => h9) rfl dX4_setWait_1 ?_
  refine lv_iload_n hx hb dX4_setWait_4 rfl (lv_at hl 1 rfl) ?_
  refine lv_bipush (v := (6 : Int32)) hx hb dX4_setWait_5 (by decide) ?_
  refine lv_imul hx hb dX4_setWait_7 ?_
  refine lv_iload_n hx hb dX4_setWait_8 rfl (lv_at hl 2 rfl) ?_
  refine lv_iadd hx hb dX4_setWait_9 ?_
  refine lv_iload_n hx hb dX4_setWait_10 rfl (lv_at hl 3 rfl) ?_
  obtain ⟨w11, b11, ew11, hf⟩ := wrI_s hf
  refine my_iast (ws2 := (wd_X4_setWait cy o_t o_t_play w11)) hx hb hK hP hD hS 1 rfl b11 ew11 rfl dX4_setWait_11 (fun H locs hP hD hS => ?_)
  refine lv_aload_n hx hb dX4_setWait_12 rfl (lv_at hl 0 rfl) ?_
  refine va_get (D := D) (ci := 4) (v := .ref (o_t 2)) (C := RX4) (T := TX4) (N := 3) hx hb hts k1 hown hK hP 0 rfl rfl 1 (by decide) k0 (fun _ h9 => h9) rfl dX4_setWait_13 ?_
  refine lv_iload_n hx hb dX4_setWait_16 rfl (lv_at hl 2 rfl) ?_
  refine lv_bipush (v := (6 : Int32)) hx hb dX4_setWait_17 (by decide) ?_
  refine lv_imul hx hb dX4_setWait_19 ?_
  refine lv_iload_n hx hb dX4_setWait_20 rfl (lv_at hl 1 rfl) ?_
  refine lv_iadd hx hb dX4_setWait_21 ?_
  refine lv_iload_n hx hb dX4_setWait_22 rfl (lv_at hl 3 rfl) ?_
  obtain ⟨w23, b23, ew23, hf⟩ := wrI_s hf
  refine my_iast (ws2 := (wd_X4_setWait cy o_t o_t_play w23)) hx hb hK hP hD hS 1 rfl b23 ew23 rfl dX4_setWait_23 (fun H locs hP hD hS => ?_)
  obtain rfl := Option.some.inj hf
  exact hR _ _ _ _ hP hD hS dX4_setWait_24
theorem hd_X4_setWait : yX4_setWait.cls ≠ "java/lang/invoke/MethodHandle" ∧ yX4_setWait.cls ≠ "java/lang/invoke/VarHandle" ∧ (parseMethodDescriptor yX4_setWait.desc).map (fun d => d.parameters.length) = some 3 := by decide +kernel
set_option maxRecDepth 100000 in
theorem c_X4_setWait (l : Launch) (D : va_G) (cy : Nat → ClassId) (t : Nat → Nat) (o_t o_t_play : Nat → Nat) (x_waits : Nat → Int32) (p1 : Int32) (p2 : Int32) (p3 : Int32) {out : (Nat → Int32)} (hf : X4_setWait x_waits p1 p2 p3 = some out) : ctV l yX4_setWait wsX4_setWait 0 0 D cy t [.ref (o_t 0), .int p1, .int p2, .int p3] (wd_X4_setWait cy o_t o_t_play x_waits) (wd_X4_setWait cy o_t o_t_play out) := by
  refine ⟨rfl, ?_⟩
  intro sz
  refine Met.ofW (cc := cX4_setWait) (maxL := 4) (ret := none) (by decide) rfl ?_
  intro p e s m args below meth c s₁ B hml hv
  obtain ⟨rfl, hsz, hP, hK, hD0, hE⟩ := hv
  have hts := atoms_spec (ws := wsX4_setWait) B.pre
  have hown : s.vm.findClass RX4 = some m.cls := findClass_of_methodNamed B.named
  have hlocks := B.notSynchronized
  subst hsz
  have hD := hD0.self (sz := s.heap.size)
  have hl := lv_entry ([.ref (o_t 0), .int p1, .int p2, .int p3]) (n := 4) (Nat.le_of_ble_eq_true rfl)
  rw [lg_entry_eq]
  generalize (lg_sl ([.ref (o_t 0), .int p1, .int p2, .int p3]) ++ List.replicate (4 - (lg_sl ([.ref (o_t 0), .int p1, .int p2, .int p3])).length) Slot.unset).toArray = ls at hl ⊢
  exact w_X4_setWait D cy t o_t o_t_play x_waits p1 p2 p3 hf B.exec B.bytes hml hown hts hK hE (fun q h => Or.inr h) hP hD va_S.rf hl (fun H locs ls pc hP hD hS hdg => W.vret B.exec B.bytes B.returns (fun t ht hW => ⟨⟨(), rfl, trivial, ctB_of ht hP⟩, hS.F ht⟩) hS.2.2 hdg)

noncomputable def X4_isLost (x_lostRow : Nat → Int32) (p1 : Int32) (p2 : Int32) : Option (Int32) :=
  rd x_lostRow 600 ((p1 * (100 : Int32)) + p2) fun v10 => zb v10 <| some v10
abbrev wd_X4_isLost (cy : Nat → ClassId) (o_t o_t_play : Nat → Nat) (x_lostRow : Nat → Int32) : va_W := [(o_t 0, .inr (4, [.ref (o_t_play 0), .ref (o_t 2), .ref (o_t 3)])), (o_t 3, .inl (cy 1, 600, .inl x_lostRow))]
set_option maxHeartbeats 4000000 in
set_option maxRecDepth 100000 in
theorem w_X4_isLost {p : Program} {l : Launch} {e : Env} {s : State} {m : MethodId} {args : Array Value} {below : List Frame} {meth : Method} {c : Code} {Q : State → Prop} {A : Nat → Prop} {H : Heap} {locs : List Loc} {ls : Array Slot} (D : va_G) (cy : Nat → ClassId) (t : Nat → Nat) (o_t o_t_play : Nat → Nat) (x_lostRow : Nat → Int32) (p1 : Int32) (p2 : Int32) {out : Int32} (hf : X4_isLost x_lostRow p1 p2 = some out) (hx : p.tables.exec = Jvm.exec) (hb : c.code = cX4_isLost) (hml : c.maxLocals = 3) (hown : s.vm.findClass RX4 = some m.cls) (hts : ∀ w ∈ wsX4_isLost, w.before args s = true) (hK : va_K D vwCl (TYS cy) s) (hE : EV t A s s.heap) (hA : ∀ q, s.heap.size ≤ q → A q) (hP : va_P D vwCl (wd_X4_isLost cy o_t o_t_play x_lostRow) H) (hD : va_D A (wd_X4_isLost cy o_t o_t_play x_lostRow)) (hS : va_S A s.heap H locs) (hl : lv_has ls 3 [(0, .ref (o_t 0)), (1, .int p1), (2, .int p2)]) (hR : ∀ (H : Heap) (locs : List Loc) (ls : Array Slot) (pc : Nat), va_P D vwCl (wd_X4_isLost cy o_t o_t_play x_lostRow) H → va_D A (wd_X4_isLost cy o_t o_t_play x_lostRow) → va_S A s.heap H locs → narrow .boolean (.int out) = .int out → decode cX4_isLost pc = .ok (.ireturn, 1) → W p l e (rmm 0 0) s m args below meth c H locs 0 0 Q (F0 m pc ls [.int out])) : W p l e (rmm 0 0) s m args below meth c H locs 0 0 Q (F0 m 0 ls []) := by
  have k0 := hts (.fieldLink RX4 15 "SeaGames$Lines" "lostRow" "[Z") (List.mem_cons_of_mem _ (List.mem_append_left _ (List.mem_of_getElem? (i := 0) rfl)))
  have k1 : ∀ w ∈ u_ws RX4 TX4 3, w ∈ wsX4_isLost := fun _ h => List.mem_cons_of_mem _ (List.mem_append_right _ h)
  rw [X4_isLost] at hf
  refine lv_aload_n hx hb dX4_isLost_0 rfl (lv_at hl 0 rfl) ?_
  refine va_get (D := D) (ci := 4) (v := .ref (o_t 3)) (C := RX4) (T := TX4) (N := 3) hx hb hts k1 hown hK hP 0 rfl rfl 2 (by decide) k0 (fun _ h9 => h9) rfl dX4_isLost_1 ?_
  refine lv_iload_n hx hb dX4_isLost_4 rfl (lv_at hl 1 rfl) ?_
  refine lv_bipush (v := (100 : Int32)) hx hb dX4_isLost_5 (by decide) ?_
  refine lv_imul hx hb dX4_isLost_7 ?_
  refine lv_iload_n hx hb dX4_isLost_8 rfl (lv_at hl 2 rfl) ?_
  refine lv_iadd hx hb dX4_isLost_9 ?_
  obtain ⟨v10, b10, ev10, hf⟩ := rd_s hf
  refine my_zald hx hb hK hP 1 rfl b10 ev10 dX4_isLost_10 ?_
  obtain ⟨z11, hf⟩ := zb_s hf
  obtain rfl := Option.some.inj hf
  exact hR _ _ _ _ hP hD hS z11 dX4_isLost_11
theorem hd_X4_isLost : yX4_isLost.cls ≠ "java/lang/invoke/MethodHandle" ∧ yX4_isLost.cls ≠ "java/lang/invoke/VarHandle" ∧ (parseMethodDescriptor yX4_isLost.desc).map (fun d => d.parameters.length) = some 2 := by decide +kernel
set_option maxRecDepth 100000 in
theorem c_X4_isLost (l : Launch) (D : va_G) (cy : Nat → ClassId) (t : Nat → Nat) (o_t o_t_play : Nat → Nat) (x_lostRow : Nat → Int32) (p1 : Int32) (p2 : Int32) {out : Int32} (hf : X4_isLost x_lostRow p1 p2 = some out) : ctI l yX4_isLost wsX4_isLost 0 0 D cy t [.ref (o_t 0), .int p1, .int p2] (wd_X4_isLost cy o_t o_t_play x_lostRow) (wd_X4_isLost cy o_t o_t_play x_lostRow) out := by
  refine ⟨rfl, ?_⟩
  intro sz
  refine Met.ofW (cc := cX4_isLost) (maxL := 3) (ret := (some .boolean)) (by decide) rfl ?_
  intro p e s m args below meth c s₁ B hml hv
  obtain ⟨rfl, hsz, hP, hK, hD0, hE⟩ := hv
  have hts := atoms_spec (ws := wsX4_isLost) B.pre
  have hown : s.vm.findClass RX4 = some m.cls := findClass_of_methodNamed B.named
  have hlocks := B.notSynchronized
  subst hsz
  have hD := hD0.self (sz := s.heap.size)
  have hl := lv_entry ([.ref (o_t 0), .int p1, .int p2]) (n := 3) (Nat.le_of_ble_eq_true rfl)
  rw [lg_entry_eq]
  generalize (lg_sl ([.ref (o_t 0), .int p1, .int p2]) ++ List.replicate (3 - (lg_sl ([.ref (o_t 0), .int p1, .int p2])).length) Slot.unset).toArray = ls at hl ⊢
  exact w_X4_isLost D cy t o_t o_t_play x_lostRow p1 p2 hf B.exec B.bytes hml hown hts hK hE (fun q h => Or.inr h) hP hD va_S.rf hl (fun H locs ls pc hP hD hS z hdg => W.zret B.exec B.bytes B.returns z (fun t ht hW => ⟨⟨_, (), rfl, rfl, ctB_of ht hP⟩, hS.F ht⟩) hS.2.2 hdg)

noncomputable def X4_setLost (x_lostRow : Nat → Int32) (p1 : Int32) (p2 : Int32) (p3 : Int32) : Option ((Nat → Int32)) :=
  wrZ x_lostRow 600 ((p1 * (100 : Int32)) + p2) p3 fun w11 => some w11
abbrev wd_X4_setLost (cy : Nat → ClassId) (o_t o_t_play : Nat → Nat) (x_lostRow : Nat → Int32) : va_W := [(o_t 0, .inr (4, [.ref (o_t_play 0), .ref (o_t 2), .ref (o_t 3)])), (o_t 3, .inl (cy 1, 600, .inl x_lostRow))]
set_option maxHeartbeats 4000000 in
set_option maxRecDepth 100000 in
theorem w_X4_setLost {p : Program} {l : Launch} {e : Env} {s : State} {m : MethodId} {args : Array Value} {below : List Frame} {meth : Method} {c : Code} {Q : State → Prop} {A : Nat → Prop} {H : Heap} {locs : List Loc} {ls : Array Slot} (D : va_G) (cy : Nat → ClassId) (t : Nat → Nat) (o_t o_t_play : Nat → Nat) (x_lostRow : Nat → Int32) (p1 : Int32) (p2 : Int32) (p3 : Int32) {out : (Nat → Int32)} (hf : X4_setLost x_lostRow p1 p2 p3 = some out) (hx : p.tables.exec = Jvm.exec) (hb : c.code = cX4_setLost) (hml : c.maxLocals = 4) (hown : s.vm.findClass RX4 = some m.cls) (hts : ∀ w ∈ wsX4_setLost, w.before args s = true) (hK : va_K D vwCl (TYS cy) s) (hE : EV t A s s.heap) (hA : ∀ q, s.heap.size ≤ q → A q) (hP : va_P D vwCl (wd_X4_setLost cy o_t o_t_play x_lostRow) H) (hD : va_D A (wd_X4_setLost cy o_t o_t_play x_lostRow)) (hS : va_S A s.heap H locs) (hl : lv_has ls 4 [(0, .ref (o_t 0)), (1, .int p1), (2, .int p2), (3, .int p3)]) (hR : ∀ (H : Heap) (locs : List Loc) (ls : Array Slot) (pc : Nat), va_P D vwCl (wd_X4_setLost cy o_t o_t_play out) H → va_D A (wd_X4_setLost cy o_t o_t_play out) → va_S A s.heap H locs → decode cX4_setLost pc = .ok (.return_, 1) → W p l e (rmm 0 0) s m args below meth c H locs 0 0 Q (F0 m pc ls [])) : W p l e (rmm 0 0) s m args below meth c H locs 0 0 Q (F0 m 0 ls []) := by
  have k0 := hts (.fieldLink RX4 15 "SeaGames$Lines" "lostRow" "[Z") (List.mem_cons_of_mem _ (List.mem_append_left _ (List.mem_of_getElem? (i := 0) rfl)))
  have k1 : ∀ w ∈ u_ws RX4 TX4 3, w ∈ wsX4_setLost := fun _ h => List.mem_cons_of_mem _ (List.mem_append_right _ h)
  rw [X4_setLost] at hf
  refine lv_aload_n hx hb dX4_setLost_0 rfl (lv_at hl 0 rfl) ?_
  refine va_get (D := D) (ci := 4) (v := .ref (o_t 3)) (C := RX4) (T := TX4) (N := 3) hx hb hts k1 hown hK hP 0 rfl rfl 2 (by decide) k0 (fun _ h9 => h9) rfl dX4_setLost_1 ?_
  refine lv_iload_n hx hb dX4_setLost_4 rfl (lv_at hl 1 rfl) ?_
  refine lv_bipush (v := (100 : Int32)) hx hb dX4_setLost_5 (by decide) ?_
  refine lv_imul hx hb dX4_setLost_7 ?_
  refine lv_iload_n hx hb dX4_setLost_8 rfl (lv_at hl 2 rfl) ?_
  refine lv_iadd hx hb dX4_setLost_9 ?_
  refine lv_iload_n hx hb dX4_setLost_10 rfl (lv_at hl 3 rfl) ?_
  obtain ⟨w11, b11, ew11, hf⟩ := wrZ_s hf
  refine my_zast (ws2 := (wd_X4_setLost cy o_t o_t_play w11)) hx hb hK hP hD hS 1 rfl b11 ew11 rfl dX4_setLost_11 (fun H locs hP hD hS => ?_)
  obtain rfl := Option.some.inj hf
  exact hR _ _ _ _ hP hD hS dX4_setLost_12
theorem hd_X4_setLost : yX4_setLost.cls ≠ "java/lang/invoke/MethodHandle" ∧ yX4_setLost.cls ≠ "java/lang/invoke/VarHandle" ∧ (parseMethodDescriptor yX4_setLost.desc).map (fun d => d.parameters.length) = some 3 := by decide +kernel
set_option maxRecDepth 100000 in
theorem c_X4_setLost (l : Launch) (D : va_G) (cy : Nat → ClassId) (t : Nat → Nat) (o_t o_t_play : Nat → Nat) (x_lostRow : Nat → Int32) (p1 : Int32) (p2 : Int32) (p3 : Int32) {out : (Nat → Int32)} (hf : X4_setLost x_lostRow p1 p2 p3 = some out) : ctV l yX4_setLost wsX4_setLost 0 0 D cy t [.ref (o_t 0), .int p1, .int p2, .int p3] (wd_X4_setLost cy o_t o_t_play x_lostRow) (wd_X4_setLost cy o_t o_t_play out) := by
  refine ⟨rfl, ?_⟩
  intro sz
  refine Met.ofW (cc := cX4_setLost) (maxL := 4) (ret := none) (by decide) rfl ?_
  intro p e s m args below meth c s₁ B hml hv
  obtain ⟨rfl, hsz, hP, hK, hD0, hE⟩ := hv
  have hts := atoms_spec (ws := wsX4_setLost) B.pre
  have hown : s.vm.findClass RX4 = some m.cls := findClass_of_methodNamed B.named
  have hlocks := B.notSynchronized
  subst hsz
  have hD := hD0.self (sz := s.heap.size)
  have hl := lv_entry ([.ref (o_t 0), .int p1, .int p2, .int p3]) (n := 4) (Nat.le_of_ble_eq_true rfl)
  rw [lg_entry_eq]
  generalize (lg_sl ([.ref (o_t 0), .int p1, .int p2, .int p3]) ++ List.replicate (4 - (lg_sl ([.ref (o_t 0), .int p1, .int p2, .int p3])).length) Slot.unset).toArray = ls at hl ⊢
  exact w_X4_setLost D cy t o_t o_t_play x_lostRow p1 p2 p3 hf B.exec B.bytes hml hown hts hK hE (fun q h => Or.inr h) hP hD va_S.rf hl (fun H locs ls pc hP hD hS hdg => W.vret B.exec B.bytes B.returns (fun t ht hW => ⟨⟨(), rfl, trivial, ctB_of ht hP⟩, hS.F ht⟩) hS.2.2 hdg)

noncomputable def X4_lostOnes_J30 (x_play_hands : Int32) (x_lostRow : Nat → Int32) (rec4 : Int32 → Int32 → Option (Int32)) (l1 : Int32) (l2 : Int32) : Option (Int32) :=
  nm (l2 + (1 : Int32)) fun v30 => rec4  l1 v30
noncomputable def X4_lostOnes_L4_B (x_play_hands : Int32) (x_lostRow : Nat → Int32) (rec4 : Int32 → Int32 → Option (Int32)) (l1 : Int32) (l2 : Int32) : Option (Int32) :=
  if (x_play_hands * (100 : Int32)) ≤ l2 then (some l1) else (rd x_lostRow 600 l2 fun v23 => if v23 = (0 : Int32) then (X4_lostOnes_J30 x_play_hands x_lostRow rec4  l1 l2) else (nm (l1 + (1 : Int32)) fun v27 => X4_lostOnes_J30 x_play_hands x_lostRow rec4  v27 l2))
noncomputable def X4_lostOnes_L4 (x_play_hands : Int32) (x_lostRow : Nat → Int32) : Nat → Int32 → Int32 → Option (Int32)
  | 0, _, _ => none
  | n + 1, y0, y1 => X4_lostOnes_L4_B x_play_hands x_lostRow  (X4_lostOnes_L4 x_play_hands x_lostRow  n) y0 y1
noncomputable def X4_lostOnes (x_play_hands : Int32) (x_lostRow : Nat → Int32) : Option (Int32) :=
  X4_lostOnes_L4 x_play_hands x_lostRow  FU  (0 : Int32) (0 : Int32)
abbrev wd_X4_lostOnes (cy : Nat → ClassId) (o_t o_t_play : Nat → Nat) (x_play_w : Int32) (x_play_h : Int32) (x_play_hands : Int32) (x_lostRow : Nat → Int32) : va_W := [(o_t 0, .inr (4, [.ref (o_t_play 0), .ref (o_t 2), .ref (o_t 3)])), (o_t_play 0, .inr (5, [.int x_play_w, .int x_play_h, .int x_play_hands, .ref (o_t_play 4), .ref (o_t_play 5), .ref (o_t_play 6), .ref (o_t_play 7)])), (o_t 3, .inl (cy 1, 600, .inl x_lostRow))]
set_option maxHeartbeats 4000000 in
set_option maxRecDepth 100000 in
theorem w_X4_lostOnes {p : Program} {l : Launch} {e : Env} {s : State} {m : MethodId} {args : Array Value} {below : List Frame} {meth : Method} {c : Code} {Q : State → Prop} {A : Nat → Prop} {H : Heap} {locs : List Loc} {ls : Array Slot} (D : va_G) (cy : Nat → ClassId) (t : Nat → Nat) (o_t o_t_play : Nat → Nat) (x_play_w : Int32) (x_play_h : Int32) (x_play_hands : Int32) (x_lostRow : Nat → Int32) {out : Int32} (hf : X4_lostOnes x_play_hands x_lostRow = some out) (hx : p.tables.exec = Jvm.exec) (hb : c.code = cX4_lostOnes) (hml : c.maxLocals = 3) (hown : s.vm.findClass RX4 = some m.cls) (hts : ∀ w ∈ wsX4_lostOnes, w.before args s = true) (hK : va_K D vwCl (TYS cy) s) (hE : EV t A s s.heap) (hA : ∀ q, s.heap.size ≤ q → A q) (hP : va_P D vwCl (wd_X4_lostOnes cy o_t o_t_play x_play_w x_play_h x_play_hands x_lostRow) H) (hD : va_D A (wd_X4_lostOnes cy o_t o_t_play x_play_w x_play_h x_play_hands x_lostRow)) (hS : va_S A s.heap H locs) (hl : lv_has ls 3 [(0, .ref (o_t 0))]) (hR : ∀ (H : Heap) (locs : List Loc) (ls : Array Slot) (pc : Nat), va_P D vwCl (wd_X4_lostOnes cy o_t o_t_play x_play_w x_play_h x_play_hands x_lostRow) H → va_D A (wd_X4_lostOnes cy o_t o_t_play x_play_w x_play_h x_play_hands x_lostRow) → va_S A s.heap H locs → decode cX4_lostOnes pc = .ok (.ireturn, 1) → W p l e (rmm 0 0) s m args below meth c H locs 0 0 Q (F0 m pc ls [.int out])) : W p l e (rmm 0 0) s m args below meth c H locs 0 0 Q (F0 m 0 ls []) := by
  have k0 := hts (.fieldLink RX4 19 "SeaGames$Lines" "play" "LSeaGames$Play;") (List.mem_cons_of_mem _ (List.mem_append_left _ (List.mem_append_left _ (List.mem_of_getElem? (i := 0) rfl))))
  have k1 : ∀ w ∈ u_ws RX4 TX4 3, w ∈ wsX4_lostOnes := fun _ h => List.mem_cons_of_mem _ (List.mem_append_left _ (List.mem_append_right _ h))
  have k2 := hts (.fieldLink RX4 29 "SeaGames$Play" "hands" "I") (List.mem_cons_of_mem _ (List.mem_append_left _ (List.mem_append_left _ (List.mem_of_getElem? (i := 1) rfl))))
  have k3 : ∀ w ∈ u_ws RX5 TX5 7, w ∈ wsX4_lostOnes := fun _ h => List.mem_cons_of_mem _ (List.mem_append_right _ h)
  have k4 := hts (.fieldLink RX4 15 "SeaGames$Lines" "lostRow" "[Z") (List.mem_cons_of_mem _ (List.mem_append_left _ (List.mem_append_left _ (List.mem_of_getElem? (i := 2) rfl))))
  rw [X4_lostOnes] at hf
  have h4 : ∀ (n4 : Nat) (l1 : Int32) (l2 : Int32) (H : Heap) (locs : List Loc) (ls : Array Slot), X4_lostOnes_L4 x_play_hands x_lostRow n4 l1 l2 = some out → va_P D vwCl (wd_X4_lostOnes cy o_t o_t_play x_play_w x_play_h x_play_hands x_lostRow) H → va_D A (wd_X4_lostOnes cy o_t o_t_play x_play_w x_play_h x_play_hands x_lostRow) → va_S A s.heap H locs → lv_has ls 3 [(0, .ref (o_t 0)), (1, .int l1), (2, .int l2)] → W p l e (rmm 0 0) s m args below meth c H locs 0 0 Q (F0 m 4 ls []) := by
    intro n4
    induction n4 with
    | zero =>
      intro _ _ _ _ _ hf
      exact nomatch (show (none : Option _) = some out from hf)
    | succ n4 ih4 =>
      intro l1 l2 H locs ls hf hP hD hS hl
      have hf : X4_lostOnes_L4_B x_play_hands x_lostRow (X4_lostOnes_L4 x_play_hands x_lostRow n4) l1 l2 = some out := hf
      rw [X4_lostOnes_L4_B] at hf
      refine lv_iload_n hx hb dX4_lostOnes_4 rfl (lv_at hl 2 rfl) ?_
      refine lv_aload_n hx hb dX4_lostOnes_5 rfl (lv_at hl 0 rfl) ?_
      refine va_get (D := D) (ci := 4) (v := .ref (o_t_play 0)) (C := RX4) (T := TX4) (N := 3) hx hb hts k1 hown hK hP 0 rfl rfl 0 (by decide) k0 (fun _ h9 => h9) rfl dX4_lostOnes_6 ?_
      refine va_get (D := D) (ci := 5) (v := .int x_play_hands) (C := RX5) (T := TX5) (N := 7) hx hb hts k3 hown hK hP 1 rfl rfl 2 (by decide) k2 (fun _ h9 => h9) rfl dX4_lostOnes_9 ?_
      refine lv_bipush (v := (100 : Int32)) hx hb dX4_lostOnes_12 (by decide) ?_
      refine lv_imul hx hb dX4_lostOnes_14 ?_
      refine lv_icmp_ge (tgt := 36) hx hb dX4_lostOnes_15 (by decide) (fun c15 => ?_) (fun c15 => ?_)
      · have hf := ifp c15 hf
        refine lv_iload_n hx hb dX4_lostOnes_36 rfl (lv_at hl 1 rfl) ?_
        obtain rfl := Option.some.inj hf
        exact hR _ _ _ _ hP hD hS dX4_lostOnes_37
      · have hf := ifn c15 hf
        have h30 : ∀ (l1 : Int32) (l2 : Int32) (H : Heap) (locs : List Loc) (ls : Array Slot), X4_lostOnes_J30 x_play_hands x_lostRow (X4_lostOnes_L4 x_play_hands x_lostRow n4) l1 l2 = some out → va_P D vwCl (wd_X4_lostOnes cy o_t o_t_play x_play_w x_play_h x_play_hands x_lostRow) H → va_D A (wd_X4_lostOnes cy o_t o_t_play x_play_w x_play_h x_play_hands x_lostRow) → va_S A s.heap H locs → lv_has ls 3 [(0, .ref (o_t 0)), (1, .int l1), (2, .int l2)] → W p l e (rmm 0 0) s m args below meth c H locs 0 0 Q (F0 m 30 ls []) := by
          intro l1 l2 H locs ls hf hP hD hS hl
          rw [X4_lostOnes_J30] at hf
          obtain ⟨v30, ev30, hf⟩ := nm_s hf
          refine lv_iinc (v := v30) (lv' := [(2, .int v30), (0, .ref (o_t 0)), (1, .int l1)]) hx hb dX4_lostOnes_30 hl (k := 2) rfl (by rw [ev30]; rfl) (by decide) rfl (fun ls hl => ?_)
          refine lv_goto (tgt := 4) hx hb dX4_lostOnes_33 (by decide) ?_
          exact ih4 _ _ _ _ _ hf hP hD hS (lv_sub hl [1, 2, 0] rfl)
        refine lv_aload_n hx hb dX4_lostOnes_18 rfl (lv_at hl 0 rfl) ?_
        refine va_get (D := D) (ci := 4) (v := .ref (o_t 3)) (C := RX4) (T := TX4) (N := 3) hx hb hts k1 hown hK hP 0 rfl rfl 2 (by decide) k4 (fun _ h9 => h9) rfl dX4_lostOnes_19 ?_
        refine lv_iload_n hx hb dX4_lostOnes_22 rfl (lv_at hl 2 rfl) ?_
        obtain ⟨v23, b23, ev23, hf⟩ := rd_s hf
        refine my_zald hx hb hK hP 2 rfl b23 ev23 dX4_lostOnes_23 ?_
        refine lv_if_eq (tgt := 30) hx hb dX4_lostOnes_24 (by decide) (fun c24 => ?_) (fun c24 => ?_)
        · have hf := ifp c24 hf
          exact h30 _ _ _ _ _ hf hP hD hS (lv_sub hl [0, 1, 2] rfl)
        · have hf := ifn c24 hf
          obtain ⟨v27, ev27, hf⟩ := nm_s hf
          refine lv_iinc (v := v27) (lv' := [(1, .int v27), (0, .ref (o_t 0)), (2, .int l2)]) hx hb dX4_lostOnes_27 hl (k := 1) rfl (by rw [ev27]; rfl) (by decide) rfl (fun ls hl => ?_)
          exact h30 _ _ _ _ _ hf hP hD hS (lv_sub hl [1, 0, 2] rfl)
  refine lv_iconst (v := (0 : Int32)) hx hb dX4_lostOnes_0 (by decide) ?_
  refine lv_istore_n (lv' := [(1, .int (0 : Int32)), (0, .ref (o_t 0))]) hx hb dX4_lostOnes_1 rfl hl (by decide) rfl (fun ls hl => ?_)
  refine lv_iconst (v := (0 : Int32)) hx hb dX4_lostOnes_2 (by decide) ?_
  refine lv_istore_n (lv' := [(2, .int (0 : Int32)), (1, .int (0 : Int32)), (0, .ref (o_t 0))]) hx hb dX4_lostOnes_3 rfl hl (by decide) rfl (fun ls hl => ?_)
  exact h4 FU _ _ _ _ _ hf hP hD hS (lv_sub hl [2, 1, 0] rfl)
theorem hd_X4_lostOnes : yX4_lostOnes.cls ≠ "java/lang/invoke/MethodHandle" ∧ yX4_lostOnes.cls ≠ "java/lang/invoke/VarHandle" ∧ (parseMethodDescriptor yX4_lostOnes.desc).map (fun d => d.parameters.length) = some 0 := by decide +kernel
set_option maxRecDepth 100000 in
theorem c_X4_lostOnes (l : Launch) (D : va_G) (cy : Nat → ClassId) (t : Nat → Nat) (o_t o_t_play : Nat → Nat) (x_play_w : Int32) (x_play_h : Int32) (x_play_hands : Int32) (x_lostRow : Nat → Int32) {out : Int32} (hf : X4_lostOnes x_play_hands x_lostRow = some out) : ctI l yX4_lostOnes wsX4_lostOnes 0 0 D cy t [.ref (o_t 0)] (wd_X4_lostOnes cy o_t o_t_play x_play_w x_play_h x_play_hands x_lostRow) (wd_X4_lostOnes cy o_t o_t_play x_play_w x_play_h x_play_hands x_lostRow) out := by
  refine ⟨rfl, ?_⟩
  intro sz
  refine Met.ofW (cc := cX4_lostOnes) (maxL := 3) (ret := (some .int)) (by decide) rfl ?_
  intro p e s m args below meth c s₁ B hml hv
  obtain ⟨rfl, hsz, hP, hK, hD0, hE⟩ := hv
  have hts := atoms_spec (ws := wsX4_lostOnes) B.pre
  have hown : s.vm.findClass RX4 = some m.cls := findClass_of_methodNamed B.named
  have hlocks := B.notSynchronized
  subst hsz
  have hD := hD0.self (sz := s.heap.size)
  have hl := lv_entry ([.ref (o_t 0)]) (n := 3) (Nat.le_of_ble_eq_true rfl)
  rw [lg_entry_eq]
  generalize (lg_sl ([.ref (o_t 0)]) ++ List.replicate (3 - (lg_sl ([.ref (o_t 0)])).length) Slot.unset).toArray = ls at hl ⊢
  exact w_X4_lostOnes D cy t o_t o_t_play x_play_w x_play_h x_play_hands x_lostRow hf B.exec B.bytes hml hown hts hK hE (fun q h => Or.inr h) hP hD va_S.rf hl (fun H locs ls pc hP hD hS hdg => W.iret B.exec B.bytes B.returns (fun t ht hW => ⟨⟨_, (), rfl, rfl, ctB_of ht hP⟩, hS.F ht⟩) hS.2.2 hdg)

noncomputable def X4_clockOf_J55 (x_waits : Nat → Int32) (x_lostRow : Nat → Int32) (s0 : Int32) (s1 : Int32) : Option (Int32) :=
  some (s0 + s1)
noncomputable def X4_clockOf (x_waits : Nat → Int32) (x_lostRow : Nat → Int32) (p1 : Int32) (p2 : Int32) (p3 : Int32) (p4 : Int32) : Option (Int32) :=
  nm (p4 - p1) fun v4 => if p2 = p3 then (some v4) else (rd x_waits 36 ((p2 * (6 : Int32)) + p3) fun v24 => rd x_lostRow 600 ((p3 * (100 : Int32)) + p4) fun v40 => if v40 = (0 : Int32) then (X4_clockOf_J55 x_waits x_lostRow   v4 v24) else (X4_clockOf_J55 x_waits x_lostRow   v4 (((3 : Int32) * v24) + (1 : Int32))))
abbrev wd_X4_clockOf (cy : Nat → ClassId) (o_t o_t_play : Nat → Nat) (x_waits : Nat → Int32) (x_lostRow : Nat → Int32) : va_W := [(o_t 0, .inr (4, [.ref (o_t_play 0), .ref (o_t 2), .ref (o_t 3)])), (o_t 2, .inl (cy 0, 36, .inl x_waits)), (o_t 3, .inl (cy 1, 600, .inl x_lostRow))]
set_option maxHeartbeats 4000000 in
set_option maxRecDepth 100000 in
theorem w_X4_clockOf {p : Program} {l : Launch} {e : Env} {s : State} {m : MethodId} {args : Array Value} {below : List Frame} {meth : Method} {c : Code} {Q : State → Prop} {A : Nat → Prop} {H : Heap} {locs : List Loc} {ls : Array Slot} (D : va_G) (cy : Nat → ClassId) (t : Nat → Nat) (o_t o_t_play : Nat → Nat) (x_waits : Nat → Int32) (x_lostRow : Nat → Int32) (p1 : Int32) (p2 : Int32) (p3 : Int32) (p4 : Int32) {out : Int32} (hf : X4_clockOf x_waits x_lostRow p1 p2 p3 p4 = some out) (hx : p.tables.exec = Jvm.exec) (hb : c.code = cX4_clockOf) (hml : c.maxLocals = 7) (hown : s.vm.findClass RX4 = some m.cls) (hts : ∀ w ∈ wsX4_clockOf, w.before args s = true) (hK : va_K D vwCl (TYS cy) s) (hE : EV t A s s.heap) (hA : ∀ q, s.heap.size ≤ q → A q) (hP : va_P D vwCl (wd_X4_clockOf cy o_t o_t_play x_waits x_lostRow) H) (hD : va_D A (wd_X4_clockOf cy o_t o_t_play x_waits x_lostRow)) (hS : va_S A s.heap H locs) (hl : lv_has ls 7 [(0, .ref (o_t 0)), (1, .int p1), (2, .int p2), (3, .int p3), (4, .int p4)]) (hR : ∀ (H : Heap) (locs : List Loc) (ls : Array Slot) (pc : Nat), va_P D vwCl (wd_X4_clockOf cy o_t o_t_play x_waits x_lostRow) H → va_D A (wd_X4_clockOf cy o_t o_t_play x_waits x_lostRow) → va_S A s.heap H locs → decode cX4_clockOf pc = .ok (.ireturn, 1) → W p l e (rmm 0 0) s m args below meth c H locs 0 0 Q (F0 m pc ls [.int out])) : W p l e (rmm 0 0) s m args below meth c H locs 0 0 Q (F0 m 0 ls []) := by
  have k0 := hts (.fieldLink RX4 9 "SeaGames$Lines" "waits" "[I") (List.mem_cons_of_mem _ (List.mem_append_left _ (List.mem_of_getElem? (i := 0) rfl)))
  have k1 : ∀ w ∈ u_ws RX4 TX4 3, w ∈ wsX4_clockOf := fun _ h => List.mem_cons_of_mem _ (List.mem_append_right _ h)
  have k2 := hts (.fieldLink RX4 15 "SeaGames$Lines" "lostRow" "[Z") (List.mem_cons_of_mem _ (List.mem_append_left _ (List.mem_of_getElem? (i := 1) rfl)))
  rw [X4_clockOf] at hf
  refine lv_iload hx hb dX4_clockOf_0 (lv_at hl 4 rfl) ?_
  refine lv_iload_n hx hb dX4_clockOf_2 rfl (lv_at hl 1 rfl) ?_
  refine lv_isub hx hb dX4_clockOf_3 ?_
  obtain ⟨v4, ev4, hf⟩ := nm_s hf
  refine my_topi ev4 ?_
  refine lv_istore (lv' := [(5, .int v4), (0, .ref (o_t 0)), (1, .int p1), (2, .int p2), (3, .int p3), (4, .int p4)]) hx hb dX4_clockOf_4 hl (by decide) rfl (fun ls hl => ?_)
  refine lv_iload_n hx hb dX4_clockOf_6 rfl (lv_at hl 3 rfl) ?_
  refine lv_iload_n hx hb dX4_clockOf_7 rfl (lv_at hl 4 rfl) ?_
  refine lv_icmp_ne (tgt := 14) hx hb dX4_clockOf_8 (by decide) (fun c8 => ?_) (fun c8 => ?_)
  · have hf := ifn c8 hf
    have h55 : ∀ (s0 : Int32) (s1 : Int32) (H : Heap) (locs : List Loc) (ls : Array Slot), X4_clockOf_J55 x_waits x_lostRow s0 s1 = some out → va_P D vwCl (wd_X4_clockOf cy o_t o_t_play x_waits x_lostRow) H → va_D A (wd_X4_clockOf cy o_t o_t_play x_waits x_lostRow) → va_S A s.heap H locs → lv_has ls 7 [] → W p l e (rmm 0 0) s m args below meth c H locs 0 0 Q (F0 m 55 ls [.int s1, .int s0]) := by
      intro s0 s1 H locs ls hf hP hD hS hl
      rw [X4_clockOf_J55] at hf
      refine lv_iadd hx hb dX4_clockOf_55 ?_
      obtain rfl := Option.some.inj hf
      exact hR _ _ _ _ hP hD hS dX4_clockOf_56
    refine lv_aload_n hx hb dX4_clockOf_14 rfl (lv_at hl 1 rfl) ?_
    refine va_get (D := D) (ci := 4) (v := .ref (o_t 2)) (C := RX4) (T := TX4) (N := 3) hx hb hts k1 hown hK hP 0 rfl rfl 1 (by decide) k0 (fun _ h9 => h9) rfl dX4_clockOf_15 ?_
    refine lv_iload_n hx hb dX4_clockOf_18 rfl (lv_at hl 3 rfl) ?_
    refine lv_bipush (v := (6 : Int32)) hx hb dX4_clockOf_19 (by decide) ?_
    refine lv_imul hx hb dX4_clockOf_21 ?_
    refine lv_iload_n hx hb dX4_clockOf_22 rfl (lv_at hl 4 rfl) ?_
    refine lv_iadd hx hb dX4_clockOf_23 ?_
    obtain ⟨v24, b24, ev24, hf⟩ := rd_s hf
    refine my_iald hx hb hK hP 1 rfl b24 ev24 dX4_clockOf_24 ?_
    refine lv_istore (lv' := [(6, .int v24), (5, .int v4), (0, .ref (o_t 0)), (1, .int p1), (2, .int p2), (3, .int p3), (4, .int p4)]) hx hb dX4_clockOf_25 hl (by decide) rfl (fun ls hl => ?_)
    refine lv_iload hx hb dX4_clockOf_27 (lv_at hl 1 rfl) ?_
    refine lv_aload_n hx hb dX4_clockOf_29 rfl (lv_at hl 2 rfl) ?_
    refine va_get (D := D) (ci := 4) (v := .ref (o_t 3)) (C := RX4) (T := TX4) (N := 3) hx hb hts k1 hown hK hP 0 rfl rfl 2 (by decide) k2 (fun _ h9 => h9) rfl dX4_clockOf_30 ?_
    refine lv_iload_n hx hb dX4_clockOf_33 rfl (lv_at hl 5 rfl) ?_
    refine lv_bipush (v := (100 : Int32)) hx hb dX4_clockOf_34 (by decide) ?_
    refine lv_imul hx hb dX4_clockOf_36 ?_
    refine lv_iload hx hb dX4_clockOf_37 (lv_at hl 6 rfl) ?_
    refine lv_iadd hx hb dX4_clockOf_39 ?_
    obtain ⟨v40, b40, ev40, hf⟩ := rd_s hf
    refine my_zald hx hb hK hP 2 rfl b40 ev40 dX4_clockOf_40 ?_
    refine lv_if_eq (tgt := 53) hx hb dX4_clockOf_41 (by decide) (fun c41 => ?_) (fun c41 => ?_)
    · have hf := ifp c41 hf
      refine lv_iload hx hb dX4_clockOf_53 (lv_at hl 0 rfl) ?_
      exact h55 _ _ _ _ _ hf hP hD hS (lv_sub hl [] rfl)
    · have hf := ifn c41 hf
      refine lv_iconst (v := (3 : Int32)) hx hb dX4_clockOf_44 (by decide) ?_
      refine lv_iload hx hb dX4_clockOf_45 (lv_at hl 0 rfl) ?_
      refine lv_imul hx hb dX4_clockOf_47 ?_
      refine lv_iconst (v := (1 : Int32)) hx hb dX4_clockOf_48 (by decide) ?_
      refine lv_iadd hx hb dX4_clockOf_49 ?_
      refine lv_goto (tgt := 55) hx hb dX4_clockOf_50 (by decide) ?_
      exact h55 _ _ _ _ _ hf hP hD hS (lv_sub hl [] rfl)
  · have hf := ifp c8 hf
    refine lv_iload hx hb dX4_clockOf_11 (lv_at hl 0 rfl) ?_
    obtain rfl := Option.some.inj hf
    exact hR _ _ _ _ hP hD hS dX4_clockOf_13
theorem hd_X4_clockOf : yX4_clockOf.cls ≠ "java/lang/invoke/MethodHandle" ∧ yX4_clockOf.cls ≠ "java/lang/invoke/VarHandle" ∧ (parseMethodDescriptor yX4_clockOf.desc).map (fun d => d.parameters.length) = some 4 := by decide +kernel
set_option maxRecDepth 100000 in
theorem c_X4_clockOf (l : Launch) (D : va_G) (cy : Nat → ClassId) (t : Nat → Nat) (o_t o_t_play : Nat → Nat) (x_waits : Nat → Int32) (x_lostRow : Nat → Int32) (p1 : Int32) (p2 : Int32) (p3 : Int32) (p4 : Int32) {out : Int32} (hf : X4_clockOf x_waits x_lostRow p1 p2 p3 p4 = some out) : ctI l yX4_clockOf wsX4_clockOf 0 0 D cy t [.ref (o_t 0), .int p1, .int p2, .int p3, .int p4] (wd_X4_clockOf cy o_t o_t_play x_waits x_lostRow) (wd_X4_clockOf cy o_t o_t_play x_waits x_lostRow) out := by
  refine ⟨rfl, ?_⟩
  intro sz
  refine Met.ofW (cc := cX4_clockOf) (maxL := 7) (ret := (some .int)) (by decide) rfl ?_
  intro p e s m args below meth c s₁ B hml hv
  obtain ⟨rfl, hsz, hP, hK, hD0, hE⟩ := hv
  have hts := atoms_spec (ws := wsX4_clockOf) B.pre
  have hown : s.vm.findClass RX4 = some m.cls := findClass_of_methodNamed B.named
  have hlocks := B.notSynchronized
  subst hsz
  have hD := hD0.self (sz := s.heap.size)
  have hl := lv_entry ([.ref (o_t 0), .int p1, .int p2, .int p3, .int p4]) (n := 7) (Nat.le_of_ble_eq_true rfl)
  rw [lg_entry_eq]
  generalize (lg_sl ([.ref (o_t 0), .int p1, .int p2, .int p3, .int p4]) ++ List.replicate (7 - (lg_sl ([.ref (o_t 0), .int p1, .int p2, .int p3, .int p4])).length) Slot.unset).toArray = ls at hl ⊢
  exact w_X4_clockOf D cy t o_t o_t_play x_waits x_lostRow p1 p2 p3 p4 hf B.exec B.bytes hml hown hts hK hE (fun q h => Or.inr h) hP hD va_S.rf hl (fun H locs ls pc hP hD hS hdg => W.iret B.exec B.bytes B.returns (fun t ht hW => ⟨⟨_, (), rfl, rfl, ctB_of ht hP⟩, hS.F ht⟩) hS.2.2 hdg)

noncomputable def X4_isKnown (x_play_leftFrom : Nat → Int32) (x_play_leftTo : Nat → Int32) (x_waits : Nat → Int32) (x_lostRow : Nat → Int32) (p1 : Int32) (p2 : Int32) (p3 : Int32) (p4 : Int32) (p5 : Int32) : Option (Int32) :=
  bd (X5_isLeft x_play_leftFrom x_play_leftTo p4 p5) fun r8 => if r8 = (0 : Int32) then (bd (X4_clockOf x_waits x_lostRow p1 p2 p4 p5) fun r21 => if p3 < r21 then (zb (0 : Int32) <| some (0 : Int32)) else (zb (1 : Int32) <| some (1 : Int32))) else (zb (1 : Int32) <| some (1 : Int32))
abbrev wd_X4_isKnown (cy : Nat → ClassId) (o_t o_t_play : Nat → Nat) (x_play_w : Int32) (x_play_h : Int32) (x_play_hands : Int32) (x_play_leftFrom : Nat → Int32) (x_play_leftTo : Nat → Int32) (x_waits : Nat → Int32) (x_lostRow : Nat → Int32) : va_W := [(o_t 0, .inr (4, [.ref (o_t_play 0), .ref (o_t 2), .ref (o_t 3)])), (o_t_play 0, .inr (5, [.int x_play_w, .int x_play_h, .int x_play_hands, .ref (o_t_play 4), .ref (o_t_play 5), .ref (o_t_play 6), .ref (o_t_play 7)])), (o_t_play 6, .inl (cy 0, 6, .inl x_play_leftFrom)), (o_t_play 7, .inl (cy 0, 6, .inl x_play_leftTo)), (o_t 2, .inl (cy 0, 36, .inl x_waits)), (o_t 3, .inl (cy 1, 600, .inl x_lostRow))]
set_option maxHeartbeats 4000000 in
set_option maxRecDepth 100000 in
theorem w_X4_isKnown {p : Program} {l : Launch} {e : Env} {s : State} {m : MethodId} {args : Array Value} {below : List Frame} {meth : Method} {c : Code} {Q : State → Prop} {A : Nat → Prop} {H : Heap} {locs : List Loc} {ls : Array Slot} (D : va_G) (cy : Nat → ClassId) (t : Nat → Nat) (o_t o_t_play : Nat → Nat) (x_play_w : Int32) (x_play_h : Int32) (x_play_hands : Int32) (x_play_leftFrom : Nat → Int32) (x_play_leftTo : Nat → Int32) (x_waits : Nat → Int32) (x_lostRow : Nat → Int32) (p1 : Int32) (p2 : Int32) (p3 : Int32) (p4 : Int32) (p5 : Int32) {out : Int32} (hf : X4_isKnown x_play_leftFrom x_play_leftTo x_waits x_lostRow p1 p2 p3 p4 p5 = some out) (hx : p.tables.exec = Jvm.exec) (hb : c.code = cX4_isKnown) (hml : c.maxLocals = 6) (hown : s.vm.findClass RX4 = some m.cls) (hts : ∀ w ∈ wsX4_isKnown, w.before args s = true) (hK : va_K D vwCl (TYS cy) s) (hE : EV t A s s.heap) (hA : ∀ q, s.heap.size ≤ q → A q) (hP : va_P D vwCl (wd_X4_isKnown cy o_t o_t_play x_play_w x_play_h x_play_hands x_play_leftFrom x_play_leftTo x_waits x_lostRow) H) (hD : va_D A (wd_X4_isKnown cy o_t o_t_play x_play_w x_play_h x_play_hands x_play_leftFrom x_play_leftTo x_waits x_lostRow)) (hS : va_S A s.heap H locs) (hl : lv_has ls 6 [(0, .ref (o_t 0)), (1, .int p1), (2, .int p2), (3, .int p3), (4, .int p4), (5, .int p5)]) (hR : ∀ (H : Heap) (locs : List Loc) (ls : Array Slot) (pc : Nat), va_P D vwCl (wd_X4_isKnown cy o_t o_t_play x_play_w x_play_h x_play_hands x_play_leftFrom x_play_leftTo x_waits x_lostRow) H → va_D A (wd_X4_isKnown cy o_t o_t_play x_play_w x_play_h x_play_hands x_play_leftFrom x_play_leftTo x_waits x_lostRow) → va_S A s.heap H locs → narrow .boolean (.int out) = .int out → decode cX4_isKnown pc = .ok (.ireturn, 1) → W p l e (rmm 1 26) s m args below meth c H locs 0 0 Q (F0 m pc ls [.int out])) : W p l e (rmm 1 26) s m args below meth c H locs 0 0 Q (F0 m 0 ls []) := by
  have k0 := hts (.fieldLink RX4 19 "SeaGames$Lines" "play" "LSeaGames$Play;") (List.mem_cons_of_mem _ (List.mem_append_left _ (List.mem_append_left _ (List.mem_of_getElem? (i := 0) rfl))))
  have k1 : ∀ w ∈ u_ws RX4 TX4 3, w ∈ wsX4_isKnown := fun _ h => List.mem_cons_of_mem _ (List.mem_append_left _ (List.mem_append_right _ h))
  rw [X4_isKnown] at hf
  refine lv_aload_n hx hb dX4_isKnown_0 rfl (lv_at hl 0 rfl) ?_
  refine va_get (D := D) (ci := 4) (v := .ref (o_t_play 0)) (C := RX4) (T := TX4) (N := 3) hx hb hts k1 hown hK hP 0 rfl rfl 0 (by decide) k0 (fun _ h9 => h9) rfl dX4_isKnown_1 ?_
  refine lv_iload hx hb dX4_isKnown_4 (lv_at hl 4 rfl) ?_
  refine lv_iload hx hb dX4_isKnown_6 (lv_at hl 5 rfl) ?_
  obtain ⟨r8, hr8, hf⟩ := bd_s hf
  refine my_Vi (WS2 := (wd_X4_isKnown cy o_t o_t_play x_play_w x_play_h x_play_hands x_play_leftFrom x_play_leftTo x_waits x_lostRow)) ⟨hx, hb, hml, hown, hts⟩ (c_X5_isLeft l D cy t o_t_play x_play_w x_play_h x_play_hands x_play_leftFrom x_play_leftTo p4 p5 hr8) (cwV 2 hts gX4_isKnown_X5_isLeft rfl rfl rfl ⟨rfl, hd_X5_isLeft⟩ ⟨Nat.le_of_ble_eq_true rfl, Nat.le_of_ble_eq_true rfl⟩) hK hE hP hD hS hA [1, 2, 3] 6 5 0 rfl rfl rfl rfl (by decide +kernel) rfl rfl hl.1 rfl (Nat.le_of_ble_eq_true rfl) dX4_isKnown_8 ⟨Nat.le_of_ble_eq_true rfl, Nat.le_of_ble_eq_true rfl⟩ (fun H locs hP hD hS => ?_)
  refine lv_if_ne (tgt := 28) hx hb dX4_isKnown_11 (by decide) (fun c11 => ?_) (fun c11 => ?_)
  · have hf := ifn c11 hf
    refine lv_iconst (v := (1 : Int32)) hx hb dX4_isKnown_28 (by decide) ?_
    refine lv_goto (tgt := 33) hx hb dX4_isKnown_29 (by decide) ?_
    obtain ⟨z33, hf⟩ := zb_s hf
    obtain rfl := Option.some.inj hf
    exact hR _ _ _ _ hP hD hS z33 dX4_isKnown_33
  · have hf := ifp c11 hf
    refine lv_aload_n hx hb dX4_isKnown_14 rfl (lv_at hl 0 rfl) ?_
    refine lv_iload_n hx hb dX4_isKnown_15 rfl (lv_at hl 1 rfl) ?_
    refine lv_iload_n hx hb dX4_isKnown_16 rfl (lv_at hl 2 rfl) ?_
    refine lv_iload hx hb dX4_isKnown_17 (lv_at hl 4 rfl) ?_
    refine lv_iload hx hb dX4_isKnown_19 (lv_at hl 5 rfl) ?_
    obtain ⟨r21, hr21, hf⟩ := bd_s hf
    refine my_Vi (WS2 := (wd_X4_isKnown cy o_t o_t_play x_play_w x_play_h x_play_hands x_play_leftFrom x_play_leftTo x_waits x_lostRow)) ⟨hx, hb, hml, hown, hts⟩ (c_X4_clockOf l D cy t o_t o_t_play x_waits x_lostRow p1 p2 p4 p5 hr21) (cwV 4 hts gX4_isKnown_X4_clockOf rfl rfl rfl ⟨rfl, hd_X4_clockOf⟩ ⟨Nat.le_of_ble_eq_true rfl, Nat.le_of_ble_eq_true rfl⟩) hK hE hP hD hS hA [0, 4, 5] 6 4 0 rfl rfl rfl rfl (by decide +kernel) rfl rfl hl.1 rfl (Nat.le_of_ble_eq_true rfl) dX4_isKnown_21 ⟨Nat.le_of_ble_eq_true rfl, Nat.le_of_ble_eq_true rfl⟩ (fun H locs hP hD hS => ?_)
    refine lv_iload_n hx hb dX4_isKnown_24 rfl (lv_at hl 3 rfl) ?_
    refine lv_icmp_gt (tgt := 32) hx hb dX4_isKnown_25 (by decide) (fun c25 => ?_) (fun c25 => ?_)
    · have hf := ifp c25 hf
      refine lv_iconst (v := (0 : Int32)) hx hb dX4_isKnown_32 (by decide) ?_
      obtain ⟨z33, hf⟩ := zb_s hf
      obtain rfl := Option.some.inj hf
      exact hR _ _ _ _ hP hD hS z33 dX4_isKnown_33
    · have hf := ifn c25 hf
      refine lv_iconst (v := (1 : Int32)) hx hb dX4_isKnown_28 (by decide) ?_
      refine lv_goto (tgt := 33) hx hb dX4_isKnown_29 (by decide) ?_
      obtain ⟨z33, hf⟩ := zb_s hf
      obtain rfl := Option.some.inj hf
      exact hR _ _ _ _ hP hD hS z33 dX4_isKnown_33
theorem hd_X4_isKnown : yX4_isKnown.cls ≠ "java/lang/invoke/MethodHandle" ∧ yX4_isKnown.cls ≠ "java/lang/invoke/VarHandle" ∧ (parseMethodDescriptor yX4_isKnown.desc).map (fun d => d.parameters.length) = some 5 := by decide +kernel
set_option maxRecDepth 100000 in
theorem c_X4_isKnown (l : Launch) (D : va_G) (cy : Nat → ClassId) (t : Nat → Nat) (o_t o_t_play : Nat → Nat) (x_play_w : Int32) (x_play_h : Int32) (x_play_hands : Int32) (x_play_leftFrom : Nat → Int32) (x_play_leftTo : Nat → Int32) (x_waits : Nat → Int32) (x_lostRow : Nat → Int32) (p1 : Int32) (p2 : Int32) (p3 : Int32) (p4 : Int32) (p5 : Int32) {out : Int32} (hf : X4_isKnown x_play_leftFrom x_play_leftTo x_waits x_lostRow p1 p2 p3 p4 p5 = some out) : ctI l yX4_isKnown wsX4_isKnown 1 26 D cy t [.ref (o_t 0), .int p1, .int p2, .int p3, .int p4, .int p5] (wd_X4_isKnown cy o_t o_t_play x_play_w x_play_h x_play_hands x_play_leftFrom x_play_leftTo x_waits x_lostRow) (wd_X4_isKnown cy o_t o_t_play x_play_w x_play_h x_play_hands x_play_leftFrom x_play_leftTo x_waits x_lostRow) out := by
  refine ⟨rfl, ?_⟩
  intro sz
  refine Met.ofW (cc := cX4_isKnown) (maxL := 6) (ret := (some .boolean)) (by decide) rfl ?_
  intro p e s m args below meth c s₁ B hml hv
  obtain ⟨rfl, hsz, hP, hK, hD0, hE⟩ := hv
  have hts := atoms_spec (ws := wsX4_isKnown) B.pre
  have hown : s.vm.findClass RX4 = some m.cls := findClass_of_methodNamed B.named
  have hlocks := B.notSynchronized
  subst hsz
  have hD := hD0.self (sz := s.heap.size)
  have hl := lv_entry ([.ref (o_t 0), .int p1, .int p2, .int p3, .int p4, .int p5]) (n := 6) (Nat.le_of_ble_eq_true rfl)
  rw [lg_entry_eq]
  generalize (lg_sl ([.ref (o_t 0), .int p1, .int p2, .int p3, .int p4, .int p5]) ++ List.replicate (6 - (lg_sl ([.ref (o_t 0), .int p1, .int p2, .int p3, .int p4, .int p5])).length) Slot.unset).toArray = ls at hl ⊢
  exact w_X4_isKnown D cy t o_t o_t_play x_play_w x_play_h x_play_hands x_play_leftFrom x_play_leftTo x_waits x_lostRow p1 p2 p3 p4 p5 hf B.exec B.bytes hml hown hts hK hE (fun q h => Or.inr h) hP hD va_S.rf hl (fun H locs ls pc hP hD hS z hdg => W.zret B.exec B.bytes B.returns z (fun t ht hW => ⟨⟨_, (), rfl, rfl, ctB_of ht hP⟩, hS.F ht⟩) hS.2.2 hdg)

noncomputable def X4_allKnown_L3_B (x_play_hands : Int32) (x_play_leftFrom : Nat → Int32) (x_play_leftTo : Nat → Int32) (x_waits : Nat → Int32) (x_lostRow : Nat → Int32) (rec3 : Int32 → Int32 → Int32 → Int32 → Int32 → Option (Int32)) (l1 : Int32) (l2 : Int32) (l3 : Int32) (l4 : Int32) (l5 : Int32) : Option (Int32) :=
  if x_play_hands ≤ l5 then (zb (1 : Int32) <| some (1 : Int32)) else (bd (X4_isKnown x_play_leftFrom x_play_leftTo x_waits x_lostRow l1 l2 l3 l5 l4) fun r23 => if r23 = (0 : Int32) then (zb (0 : Int32) <| some (0 : Int32)) else (nm (l5 + (1 : Int32)) fun v31 => rec3  l1 l2 l3 l4 v31))
noncomputable def X4_allKnown_L3 (x_play_hands : Int32) (x_play_leftFrom : Nat → Int32) (x_play_leftTo : Nat → Int32) (x_waits : Nat → Int32) (x_lostRow : Nat → Int32) : Nat → Int32 → Int32 → Int32 → Int32 → Int32 → Option (Int32)
  | 0, _, _, _, _, _ => none
  | n + 1, y0, y1, y2, y3, y4 => X4_allKnown_L3_B x_play_hands x_play_leftFrom x_play_leftTo x_waits x_lostRow  (X4_allKnown_L3 x_play_hands x_play_leftFrom x_play_leftTo x_waits x_lostRow  n) y0 y1 y2 y3 y4
noncomputable def X4_allKnown (x_play_hands : Int32) (x_play_leftFrom : Nat → Int32) (x_play_leftTo : Nat → Int32) (x_waits : Nat → Int32) (x_lostRow : Nat → Int32) (p1 : Int32) (p2 : Int32) (p3 : Int32) (p4 : Int32) : Option (Int32) :=
  X4_allKnown_L3 x_play_hands x_play_leftFrom x_play_leftTo x_waits x_lostRow  FU  p1 p2 p3 p4 (0 : Int32)
abbrev wd_X4_allKnown (cy : Nat → ClassId) (o_t o_t_play : Nat → Nat) (x_play_w : Int32) (x_play_h : Int32) (x_play_hands : Int32) (x_play_leftFrom : Nat → Int32) (x_play_leftTo : Nat → Int32) (x_waits : Nat → Int32) (x_lostRow : Nat → Int32) : va_W := [(o_t 0, .inr (4, [.ref (o_t_play 0), .ref (o_t 2), .ref (o_t 3)])), (o_t_play 0, .inr (5, [.int x_play_w, .int x_play_h, .int x_play_hands, .ref (o_t_play 4), .ref (o_t_play 5), .ref (o_t_play 6), .ref (o_t_play 7)])), (o_t_play 6, .inl (cy 0, 6, .inl x_play_leftFrom)), (o_t_play 7, .inl (cy 0, 6, .inl x_play_leftTo)), (o_t 2, .inl (cy 0, 36, .inl x_waits)), (o_t 3, .inl (cy 1, 600, .inl x_lostRow))]
set_option maxHeartbeats 4000000 in
set_option maxRecDepth 100000 in
theorem w_X4_allKnown {p : Program} {l : Launch} {e : Env} {s : State} {m : MethodId} {args : Array Value} {below : List Frame} {meth : Method} {c : Code} {Q : State → Prop} {A : Nat → Prop} {H : Heap} {locs : List Loc} {ls : Array Slot} (D : va_G) (cy : Nat → ClassId) (t : Nat → Nat) (o_t o_t_play : Nat → Nat) (x_play_w : Int32) (x_play_h : Int32) (x_play_hands : Int32) (x_play_leftFrom : Nat → Int32) (x_play_leftTo : Nat → Int32) (x_waits : Nat → Int32) (x_lostRow : Nat → Int32) (p1 : Int32) (p2 : Int32) (p3 : Int32) (p4 : Int32) {out : Int32} (hf : X4_allKnown x_play_hands x_play_leftFrom x_play_leftTo x_waits x_lostRow p1 p2 p3 p4 = some out) (hx : p.tables.exec = Jvm.exec) (hb : c.code = cX4_allKnown) (hml : c.maxLocals = 6) (hown : s.vm.findClass RX4 = some m.cls) (hts : ∀ w ∈ wsX4_allKnown, w.before args s = true) (hK : va_K D vwCl (TYS cy) s) (hE : EV t A s s.heap) (hA : ∀ q, s.heap.size ≤ q → A q) (hP : va_P D vwCl (wd_X4_allKnown cy o_t o_t_play x_play_w x_play_h x_play_hands x_play_leftFrom x_play_leftTo x_waits x_lostRow) H) (hD : va_D A (wd_X4_allKnown cy o_t o_t_play x_play_w x_play_h x_play_hands x_play_leftFrom x_play_leftTo x_waits x_lostRow)) (hS : va_S A s.heap H locs) (hl : lv_has ls 6 [(0, .ref (o_t 0)), (1, .int p1), (2, .int p2), (3, .int p3), (4, .int p4)]) (hR : ∀ (H : Heap) (locs : List Loc) (ls : Array Slot) (pc : Nat), va_P D vwCl (wd_X4_allKnown cy o_t o_t_play x_play_w x_play_h x_play_hands x_play_leftFrom x_play_leftTo x_waits x_lostRow) H → va_D A (wd_X4_allKnown cy o_t o_t_play x_play_w x_play_h x_play_hands x_play_leftFrom x_play_leftTo x_waits x_lostRow) → va_S A s.heap H locs → narrow .boolean (.int out) = .int out → decode cX4_allKnown pc = .ok (.ireturn, 1) → W p l e (rmm 2 51) s m args below meth c H locs 0 0 Q (F0 m pc ls [.int out])) : W p l e (rmm 2 51) s m args below meth c H locs 0 0 Q (F0 m 0 ls []) := by
  have k0 := hts (.fieldLink RX4 19 "SeaGames$Lines" "play" "LSeaGames$Play;") (List.mem_cons_of_mem _ (List.mem_append_left _ (List.mem_append_left _ (List.mem_of_getElem? (i := 0) rfl))))
  have k1 : ∀ w ∈ u_ws RX4 TX4 3, w ∈ wsX4_allKnown := fun _ h => List.mem_cons_of_mem _ (List.mem_append_left _ (List.mem_append_right _ h))
  have k2 := hts (.fieldLink RX4 29 "SeaGames$Play" "hands" "I") (List.mem_cons_of_mem _ (List.mem_append_left _ (List.mem_append_left _ (List.mem_of_getElem? (i := 1) rfl))))
  have k3 : ∀ w ∈ u_ws RX5 TX5 7, w ∈ wsX4_allKnown := fun _ h => List.mem_cons_of_mem _ (List.mem_append_right _ h)
  rw [X4_allKnown] at hf
  have h3 : ∀ (n3 : Nat) (l1 : Int32) (l2 : Int32) (l3 : Int32) (l4 : Int32) (l5 : Int32) (H : Heap) (locs : List Loc) (ls : Array Slot), X4_allKnown_L3 x_play_hands x_play_leftFrom x_play_leftTo x_waits x_lostRow n3 l1 l2 l3 l4 l5 = some out → va_P D vwCl (wd_X4_allKnown cy o_t o_t_play x_play_w x_play_h x_play_hands x_play_leftFrom x_play_leftTo x_waits x_lostRow) H → va_D A (wd_X4_allKnown cy o_t o_t_play x_play_w x_play_h x_play_hands x_play_leftFrom x_play_leftTo x_waits x_lostRow) → va_S A s.heap H locs → lv_has ls 6 [(0, .ref (o_t 0)), (1, .int l1), (2, .int l2), (3, .int l3), (4, .int l4), (5, .int l5)] → W p l e (rmm 2 51) s m args below meth c H locs 0 0 Q (F0 m 3 ls []) := by
    intro n3
    induction n3 with
    | zero =>
      intro _ _ _ _ _ _ _ _ hf
      exact nomatch (show (none : Option _) = some out from hf)
    | succ n3 ih3 =>
      intro l1 l2 l3 l4 l5 H locs ls hf hP hD hS hl
      have hf : X4_allKnown_L3_B x_play_hands x_play_leftFrom x_play_leftTo x_waits x_lostRow (X4_allKnown_L3 x_play_hands x_play_leftFrom x_play_leftTo x_waits x_lostRow n3) l1 l2 l3 l4 l5 = some out := hf
      rw [X4_allKnown_L3_B] at hf
      refine lv_iload hx hb dX4_allKnown_3 (lv_at hl 5 rfl) ?_
      refine lv_aload_n hx hb dX4_allKnown_5 rfl (lv_at hl 0 rfl) ?_
      refine va_get (D := D) (ci := 4) (v := .ref (o_t_play 0)) (C := RX4) (T := TX4) (N := 3) hx hb hts k1 hown hK hP 0 rfl rfl 0 (by decide) k0 (fun _ h9 => h9) rfl dX4_allKnown_6 ?_
      refine va_get (D := D) (ci := 5) (v := .int x_play_hands) (C := RX5) (T := TX5) (N := 7) hx hb hts k3 hown hK hP 1 rfl rfl 2 (by decide) k2 (fun _ h9 => h9) rfl dX4_allKnown_9 ?_
      refine lv_icmp_ge (tgt := 37) hx hb dX4_allKnown_12 (by decide) (fun c12 => ?_) (fun c12 => ?_)
      · have hf := ifp c12 hf
        refine lv_iconst (v := (1 : Int32)) hx hb dX4_allKnown_37 (by decide) ?_
        obtain ⟨z38, hf⟩ := zb_s hf
        obtain rfl := Option.some.inj hf
        exact hR _ _ _ _ hP hD hS z38 dX4_allKnown_38
      · have hf := ifn c12 hf
        refine lv_aload_n hx hb dX4_allKnown_15 rfl (lv_at hl 0 rfl) ?_
        refine lv_iload_n hx hb dX4_allKnown_16 rfl (lv_at hl 1 rfl) ?_
        refine lv_iload_n hx hb dX4_allKnown_17 rfl (lv_at hl 2 rfl) ?_
        refine lv_iload_n hx hb dX4_allKnown_18 rfl (lv_at hl 3 rfl) ?_
        refine lv_iload hx hb dX4_allKnown_19 (lv_at hl 5 rfl) ?_
        refine lv_iload hx hb dX4_allKnown_21 (lv_at hl 4 rfl) ?_
        obtain ⟨r23, hr23, hf⟩ := bd_s hf
        refine my_Vi (WS2 := (wd_X4_allKnown cy o_t o_t_play x_play_w x_play_h x_play_hands x_play_leftFrom x_play_leftTo x_waits x_lostRow)) ⟨hx, hb, hml, hown, hts⟩ (c_X4_isKnown l D cy t o_t o_t_play x_play_w x_play_h x_play_hands x_play_leftFrom x_play_leftTo x_waits x_lostRow l1 l2 l3 l5 l4 hr23) (cwV 5 hts gX4_allKnown_X4_isKnown rfl rfl rfl ⟨rfl, hd_X4_isKnown⟩ ⟨Nat.le_of_ble_eq_true rfl, Nat.le_of_ble_eq_true rfl⟩) hK hE hP hD hS hA [0, 1, 2, 3, 4, 5] 6 4 0 rfl rfl rfl rfl (by decide +kernel) rfl rfl hl.1 rfl (Nat.le_of_ble_eq_true rfl) dX4_allKnown_23 ⟨Nat.le_of_ble_eq_true rfl, Nat.le_of_ble_eq_true rfl⟩ (fun H locs hP hD hS => ?_)
        refine lv_if_ne (tgt := 31) hx hb dX4_allKnown_26 (by decide) (fun c26 => ?_) (fun c26 => ?_)
        · have hf := ifn c26 hf
          obtain ⟨v31, ev31, hf⟩ := nm_s hf
          refine lv_iinc (v := v31) (lv' := [(5, .int v31), (0, .ref (o_t 0)), (1, .int l1), (2, .int l2), (3, .int l3), (4, .int l4)]) hx hb dX4_allKnown_31 hl (k := 5) rfl (by rw [ev31]; rfl) (by decide) rfl (fun ls hl => ?_)
          refine lv_goto (tgt := 3) hx hb dX4_allKnown_34 (by decide) ?_
          exact ih3 _ _ _ _ _ _ _ _ hf hP hD hS (lv_sub hl [1, 2, 3, 4, 5, 0] rfl)
        · have hf := ifp c26 hf
          refine lv_iconst (v := (0 : Int32)) hx hb dX4_allKnown_29 (by decide) ?_
          obtain ⟨z30, hf⟩ := zb_s hf
          obtain rfl := Option.some.inj hf
          exact hR _ _ _ _ hP hD hS z30 dX4_allKnown_30
  refine lv_iconst (v := (0 : Int32)) hx hb dX4_allKnown_0 (by decide) ?_
  refine lv_istore (lv' := [(5, .int (0 : Int32)), (0, .ref (o_t 0)), (1, .int p1), (2, .int p2), (3, .int p3), (4, .int p4)]) hx hb dX4_allKnown_1 hl (by decide) rfl (fun ls hl => ?_)
  exact h3 FU _ _ _ _ _ _ _ _ hf hP hD hS (lv_sub hl [1, 2, 3, 4, 5, 0] rfl)
theorem hd_X4_allKnown : yX4_allKnown.cls ≠ "java/lang/invoke/MethodHandle" ∧ yX4_allKnown.cls ≠ "java/lang/invoke/VarHandle" ∧ (parseMethodDescriptor yX4_allKnown.desc).map (fun d => d.parameters.length) = some 4 := by decide +kernel
set_option maxRecDepth 100000 in
theorem c_X4_allKnown (l : Launch) (D : va_G) (cy : Nat → ClassId) (t : Nat → Nat) (o_t o_t_play : Nat → Nat) (x_play_w : Int32) (x_play_h : Int32) (x_play_hands : Int32) (x_play_leftFrom : Nat → Int32) (x_play_leftTo : Nat → Int32) (x_waits : Nat → Int32) (x_lostRow : Nat → Int32) (p1 : Int32) (p2 : Int32) (p3 : Int32) (p4 : Int32) {out : Int32} (hf : X4_allKnown x_play_hands x_play_leftFrom x_play_leftTo x_waits x_lostRow p1 p2 p3 p4 = some out) : ctI l yX4_allKnown wsX4_allKnown 2 51 D cy t [.ref (o_t 0), .int p1, .int p2, .int p3, .int p4] (wd_X4_allKnown cy o_t o_t_play x_play_w x_play_h x_play_hands x_play_leftFrom x_play_leftTo x_waits x_lostRow) (wd_X4_allKnown cy o_t o_t_play x_play_w x_play_h x_play_hands x_play_leftFrom x_play_leftTo x_waits x_lostRow) out := by
  refine ⟨rfl, ?_⟩
  intro sz
  refine Met.ofW (cc := cX4_allKnown) (maxL := 6) (ret := (some .boolean)) (by decide) rfl ?_
  intro p e s m args below meth c s₁ B hml hv
  obtain ⟨rfl, hsz, hP, hK, hD0, hE⟩ := hv
  have hts := atoms_spec (ws := wsX4_allKnown) B.pre
  have hown : s.vm.findClass RX4 = some m.cls := findClass_of_methodNamed B.named
  have hlocks := B.notSynchronized
  subst hsz
  have hD := hD0.self (sz := s.heap.size)
  have hl := lv_entry ([.ref (o_t 0), .int p1, .int p2, .int p3, .int p4]) (n := 6) (Nat.le_of_ble_eq_true rfl)
  rw [lg_entry_eq]
  generalize (lg_sl ([.ref (o_t 0), .int p1, .int p2, .int p3, .int p4]) ++ List.replicate (6 - (lg_sl ([.ref (o_t 0), .int p1, .int p2, .int p3, .int p4])).length) Slot.unset).toArray = ls at hl ⊢
  exact w_X4_allKnown D cy t o_t o_t_play x_play_w x_play_h x_play_hands x_play_leftFrom x_play_leftTo x_waits x_lostRow p1 p2 p3 p4 hf B.exec B.bytes hml hown hts hK hE (fun q h => Or.inr h) hP hD va_S.rf hl (fun H locs ls pc hP hD hS z hdg => W.zret B.exec B.bytes B.returns z (fun t ht hW => ⟨⟨_, (), rfl, rfl, ctB_of ht hP⟩, hS.F ht⟩) hS.2.2 hdg)

noncomputable def X4_guessed_J25 (x_play_pressRow : Nat → Int32) (x_play_leftFrom : Nat → Int32) (x_play_leftTo : Nat → Int32) (x_waits : Nat → Int32) (x_lostRow : Nat → Int32) (l4 : Int32) (l6 : Int32) : Option (Int32) :=
  bd (X5_isLeft x_play_leftFrom x_play_leftTo l4 l6) fun r33 => if r33 = (0 : Int32) then (bd (X5_pressOf x_play_pressRow l4 l6) fun r51 => some r51) else (some (0 : Int32))
noncomputable def X4_guessed_L6_B (x_play_pressRow : Nat → Int32) (x_play_leftFrom : Nat → Int32) (x_play_leftTo : Nat → Int32) (x_waits : Nat → Int32) (x_lostRow : Nat → Int32) (rec6 : Int32 → Int32 → Int32 → Int32 → Int32 → Option (Int32)) (l1 : Int32) (l2 : Int32) (l3 : Int32) (l4 : Int32) (l6 : Int32) : Option (Int32) :=
  if l6 < (0 : Int32) then (some (0 : Int32)) else (bd (X4_isKnown x_play_leftFrom x_play_leftTo x_waits x_lostRow l1 l2 l3 l4 l6) fun r19 => if r19 = (0 : Int32) then (nm (l6 + (-1 : Int32)) fun v55 => rec6  l1 l2 l3 l4 v55) else (X4_guessed_J25 x_play_pressRow x_play_leftFrom x_play_leftTo x_waits x_lostRow   l4 l6))
noncomputable def X4_guessed_L6 (x_play_pressRow : Nat → Int32) (x_play_leftFrom : Nat → Int32) (x_play_leftTo : Nat → Int32) (x_waits : Nat → Int32) (x_lostRow : Nat → Int32) : Nat → Int32 → Int32 → Int32 → Int32 → Int32 → Option (Int32)
  | 0, _, _, _, _, _ => none
  | n + 1, y0, y1, y2, y3, y4 => X4_guessed_L6_B x_play_pressRow x_play_leftFrom x_play_leftTo x_waits x_lostRow  (X4_guessed_L6 x_play_pressRow x_play_leftFrom x_play_leftTo x_waits x_lostRow  n) y0 y1 y2 y3 y4
noncomputable def X4_guessed (x_play_pressRow : Nat → Int32) (x_play_leftFrom : Nat → Int32) (x_play_leftTo : Nat → Int32) (x_waits : Nat → Int32) (x_lostRow : Nat → Int32) (p1 : Int32) (p2 : Int32) (p3 : Int32) (p4 : Int32) (p5 : Int32) : Option (Int32) :=
  nm (p5 - (1 : Int32)) fun v4 => X4_guessed_L6 x_play_pressRow x_play_leftFrom x_play_leftTo x_waits x_lostRow  FU  p1 p2 p3 p4 v4
abbrev wd_X4_guessed (cy : Nat → ClassId) (o_t o_t_play : Nat → Nat) (x_play_w : Int32) (x_play_h : Int32) (x_play_hands : Int32) (x_play_pressRow : Nat → Int32) (x_play_leftFrom : Nat → Int32) (x_play_leftTo : Nat → Int32) (x_waits : Nat → Int32) (x_lostRow : Nat → Int32) : va_W := [(o_t 0, .inr (4, [.ref (o_t_play 0), .ref (o_t 2), .ref (o_t 3)])), (o_t_play 0, .inr (5, [.int x_play_w, .int x_play_h, .int x_play_hands, .ref (o_t_play 4), .ref (o_t_play 5), .ref (o_t_play 6), .ref (o_t_play 7)])), (o_t_play 5, .inl (cy 0, 600, .inl x_play_pressRow)), (o_t_play 6, .inl (cy 0, 6, .inl x_play_leftFrom)), (o_t_play 7, .inl (cy 0, 6, .inl x_play_leftTo)), (o_t 2, .inl (cy 0, 36, .inl x_waits)), (o_t 3, .inl (cy 1, 600, .inl x_lostRow))]
set_option maxHeartbeats 4000000 in
set_option maxRecDepth 100000 in
theorem w_X4_guessed {p : Program} {l : Launch} {e : Env} {s : State} {m : MethodId} {args : Array Value} {below : List Frame} {meth : Method} {c : Code} {Q : State → Prop} {A : Nat → Prop} {H : Heap} {locs : List Loc} {ls : Array Slot} (D : va_G) (cy : Nat → ClassId) (t : Nat → Nat) (o_t o_t_play : Nat → Nat) (x_play_w : Int32) (x_play_h : Int32) (x_play_hands : Int32) (x_play_pressRow : Nat → Int32) (x_play_leftFrom : Nat → Int32) (x_play_leftTo : Nat → Int32) (x_waits : Nat → Int32) (x_lostRow : Nat → Int32) (p1 : Int32) (p2 : Int32) (p3 : Int32) (p4 : Int32) (p5 : Int32) {out : Int32} (hf : X4_guessed x_play_pressRow x_play_leftFrom x_play_leftTo x_waits x_lostRow p1 p2 p3 p4 p5 = some out) (hx : p.tables.exec = Jvm.exec) (hb : c.code = cX4_guessed) (hml : c.maxLocals = 7) (hown : s.vm.findClass RX4 = some m.cls) (hts : ∀ w ∈ wsX4_guessed, w.before args s = true) (hK : va_K D vwCl (TYS cy) s) (hE : EV t A s s.heap) (hA : ∀ q, s.heap.size ≤ q → A q) (hP : va_P D vwCl (wd_X4_guessed cy o_t o_t_play x_play_w x_play_h x_play_hands x_play_pressRow x_play_leftFrom x_play_leftTo x_waits x_lostRow) H) (hD : va_D A (wd_X4_guessed cy o_t o_t_play x_play_w x_play_h x_play_hands x_play_pressRow x_play_leftFrom x_play_leftTo x_waits x_lostRow)) (hS : va_S A s.heap H locs) (hl : lv_has ls 7 [(0, .ref (o_t 0)), (1, .int p1), (2, .int p2), (3, .int p3), (4, .int p4), (5, .int p5)]) (hR : ∀ (H : Heap) (locs : List Loc) (ls : Array Slot) (pc : Nat), va_P D vwCl (wd_X4_guessed cy o_t o_t_play x_play_w x_play_h x_play_hands x_play_pressRow x_play_leftFrom x_play_leftTo x_waits x_lostRow) H → va_D A (wd_X4_guessed cy o_t o_t_play x_play_w x_play_h x_play_hands x_play_pressRow x_play_leftFrom x_play_leftTo x_waits x_lostRow) → va_S A s.heap H locs → decode cX4_guessed pc = .ok (.ireturn, 1) → W p l e (rmm 2 51) s m args below meth c H locs 0 0 Q (F0 m pc ls [.int out])) : W p l e (rmm 2 51) s m args below meth c H locs 0 0 Q (F0 m 0 ls []) := by
  have k0 := hts (.fieldLink RX4 19 "SeaGames$Lines" "play" "LSeaGames$Play;") (List.mem_cons_of_mem _ (List.mem_append_left _ (List.mem_append_left _ (List.mem_of_getElem? (i := 0) rfl))))
  have k1 : ∀ w ∈ u_ws RX4 TX4 3, w ∈ wsX4_guessed := fun _ h => List.mem_cons_of_mem _ (List.mem_append_left _ (List.mem_append_right _ h))
  rw [X4_guessed] at hf
  have h6 : ∀ (n6 : Nat) (l1 : Int32) (l2 : Int32) (l3 : Int32) (l4 : Int32) (l6 : Int32) (H : Heap) (locs : List Loc) (ls : Array Slot), X4_guessed_L6 x_play_pressRow x_play_leftFrom x_play_leftTo x_waits x_lostRow n6 l1 l2 l3 l4 l6 = some out → va_P D vwCl (wd_X4_guessed cy o_t o_t_play x_play_w x_play_h x_play_hands x_play_pressRow x_play_leftFrom x_play_leftTo x_waits x_lostRow) H → va_D A (wd_X4_guessed cy o_t o_t_play x_play_w x_play_h x_play_hands x_play_pressRow x_play_leftFrom x_play_leftTo x_waits x_lostRow) → va_S A s.heap H locs → lv_has ls 7 [(0, .ref (o_t 0)), (1, .int l1), (2, .int l2), (3, .int l3), (4, .int l4), (6, .int l6)] → W p l e (rmm 2 51) s m args below meth c H locs 0 0 Q (F0 m 6 ls []) := by
    intro n6
    induction n6 with
    | zero =>
      intro _ _ _ _ _ _ _ _ hf
      exact nomatch (show (none : Option _) = some out from hf)
    | succ n6 ih6 =>
      intro l1 l2 l3 l4 l6 H locs ls hf hP hD hS hl
      have hf : X4_guessed_L6_B x_play_pressRow x_play_leftFrom x_play_leftTo x_waits x_lostRow (X4_guessed_L6 x_play_pressRow x_play_leftFrom x_play_leftTo x_waits x_lostRow n6) l1 l2 l3 l4 l6 = some out := hf
      rw [X4_guessed_L6_B] at hf
      refine lv_iload hx hb dX4_guessed_6 (lv_at hl 5 rfl) ?_
      refine lv_if_lt (tgt := 61) hx hb dX4_guessed_8 (by decide) (fun c8 => ?_) (fun c8 => ?_)
      · have hf := ifp c8 hf
        refine lv_iconst (v := (0 : Int32)) hx hb dX4_guessed_61 (by decide) ?_
        obtain rfl := Option.some.inj hf
        exact hR _ _ _ _ hP hD hS dX4_guessed_62
      · have hf := ifn c8 hf
        have h25 : ∀ (l4 : Int32) (l6 : Int32) (H : Heap) (locs : List Loc) (ls : Array Slot), X4_guessed_J25 x_play_pressRow x_play_leftFrom x_play_leftTo x_waits x_lostRow l4 l6 = some out → va_P D vwCl (wd_X4_guessed cy o_t o_t_play x_play_w x_play_h x_play_hands x_play_pressRow x_play_leftFrom x_play_leftTo x_waits x_lostRow) H → va_D A (wd_X4_guessed cy o_t o_t_play x_play_w x_play_h x_play_hands x_play_pressRow x_play_leftFrom x_play_leftTo x_waits x_lostRow) → va_S A s.heap H locs → lv_has ls 7 [(0, .ref (o_t 0)), (4, .int l4), (6, .int l6)] → W p l e (rmm 2 51) s m args below meth c H locs 0 0 Q (F0 m 25 ls []) := by
          intro l4 l6 H locs ls hf hP hD hS hl
          rw [X4_guessed_J25] at hf
          refine lv_aload_n hx hb dX4_guessed_25 rfl (lv_at hl 0 rfl) ?_
          refine va_get (D := D) (ci := 4) (v := .ref (o_t_play 0)) (C := RX4) (T := TX4) (N := 3) hx hb hts k1 hown hK hP 0 rfl rfl 0 (by decide) k0 (fun _ h9 => h9) rfl dX4_guessed_26 ?_
          refine lv_iload hx hb dX4_guessed_29 (lv_at hl 1 rfl) ?_
          refine lv_iload hx hb dX4_guessed_31 (lv_at hl 2 rfl) ?_
          obtain ⟨r33, hr33, hf⟩ := bd_s hf
          refine my_Vi (WS2 := (wd_X4_guessed cy o_t o_t_play x_play_w x_play_h x_play_hands x_play_pressRow x_play_leftFrom x_play_leftTo x_waits x_lostRow)) ⟨hx, hb, hml, hown, hts⟩ (c_X5_isLeft l D cy t o_t_play x_play_w x_play_h x_play_hands x_play_leftFrom x_play_leftTo l4 l6 hr33) (cwV 2 hts gX4_guessed_X5_isLeft rfl rfl rfl ⟨rfl, hd_X5_isLeft⟩ ⟨Nat.le_of_ble_eq_true rfl, Nat.le_of_ble_eq_true rfl⟩) hK hE hP hD hS hA [1, 3, 4] 7 5 0 rfl rfl rfl rfl (by decide +kernel) rfl rfl hl.1 rfl (Nat.le_of_ble_eq_true rfl) dX4_guessed_33 ⟨Nat.le_of_ble_eq_true rfl, Nat.le_of_ble_eq_true rfl⟩ (fun H locs hP hD hS => ?_)
          refine lv_if_eq (tgt := 43) hx hb dX4_guessed_36 (by decide) (fun c36 => ?_) (fun c36 => ?_)
          · have hf := ifp c36 hf
            refine lv_aload_n hx hb dX4_guessed_43 rfl (lv_at hl 0 rfl) ?_
            refine va_get (D := D) (ci := 4) (v := .ref (o_t_play 0)) (C := RX4) (T := TX4) (N := 3) hx hb hts k1 hown hK hP 0 rfl rfl 0 (by decide) k0 (fun _ h9 => h9) rfl dX4_guessed_44 ?_
            refine lv_iload hx hb dX4_guessed_47 (lv_at hl 1 rfl) ?_
            refine lv_iload hx hb dX4_guessed_49 (lv_at hl 2 rfl) ?_
            obtain ⟨r51, hr51, hf⟩ := bd_s hf
            refine my_Vi (WS2 := (wd_X4_guessed cy o_t o_t_play x_play_w x_play_h x_play_hands x_play_pressRow x_play_leftFrom x_play_leftTo x_waits x_lostRow)) ⟨hx, hb, hml, hown, hts⟩ (c_X5_pressOf l D cy t o_t_play x_play_w x_play_h x_play_hands x_play_pressRow l4 l6 hr51) (cwV 2 hts gX4_guessed_X5_pressOf rfl rfl rfl ⟨rfl, hd_X5_pressOf⟩ ⟨Nat.le_of_ble_eq_true rfl, Nat.le_of_ble_eq_true rfl⟩) hK hE hP hD hS hA [1, 2] 7 5 0 rfl rfl rfl rfl (by decide +kernel) rfl rfl hl.1 rfl (Nat.le_of_ble_eq_true rfl) dX4_guessed_51 ⟨Nat.le_of_ble_eq_true rfl, Nat.le_of_ble_eq_true rfl⟩ (fun H locs hP hD hS => ?_)
            obtain rfl := Option.some.inj hf
            exact hR _ _ _ _ hP hD hS dX4_guessed_54
          · have hf := ifn c36 hf
            refine lv_iconst (v := (0 : Int32)) hx hb dX4_guessed_39 (by decide) ?_
            refine lv_goto (tgt := 54) hx hb dX4_guessed_40 (by decide) ?_
            obtain rfl := Option.some.inj hf
            exact hR _ _ _ _ hP hD hS dX4_guessed_54
        refine lv_aload_n hx hb dX4_guessed_11 rfl (lv_at hl 0 rfl) ?_
        refine lv_iload_n hx hb dX4_guessed_12 rfl (lv_at hl 1 rfl) ?_
        refine lv_iload_n hx hb dX4_guessed_13 rfl (lv_at hl 2 rfl) ?_
        refine lv_iload_n hx hb dX4_guessed_14 rfl (lv_at hl 3 rfl) ?_
        refine lv_iload hx hb dX4_guessed_15 (lv_at hl 4 rfl) ?_
        refine lv_iload hx hb dX4_guessed_17 (lv_at hl 5 rfl) ?_
        obtain ⟨r19, hr19, hf⟩ := bd_s hf
        refine my_Vi (WS2 := (wd_X4_guessed cy o_t o_t_play x_play_w x_play_h x_play_hands x_play_pressRow x_play_leftFrom x_play_leftTo x_waits x_lostRow)) ⟨hx, hb, hml, hown, hts⟩ (c_X4_isKnown l D cy t o_t o_t_play x_play_w x_play_h x_play_hands x_play_leftFrom x_play_leftTo x_waits x_lostRow l1 l2 l3 l4 l6 hr19) (cwV 5 hts gX4_guessed_X4_isKnown rfl rfl rfl ⟨rfl, hd_X4_isKnown⟩ ⟨Nat.le_of_ble_eq_true rfl, Nat.le_of_ble_eq_true rfl⟩) hK hE hP hD hS hA [0, 1, 3, 4, 5, 6] 7 4 0 rfl rfl rfl rfl (by decide +kernel) rfl rfl hl.1 rfl (Nat.le_of_ble_eq_true rfl) dX4_guessed_19 ⟨Nat.le_of_ble_eq_true rfl, Nat.le_of_ble_eq_true rfl⟩ (fun H locs hP hD hS => ?_)
        refine lv_if_eq (tgt := 55) hx hb dX4_guessed_22 (by decide) (fun c22 => ?_) (fun c22 => ?_)
        · have hf := ifp c22 hf
          obtain ⟨v55, ev55, hf⟩ := nm_s hf
          refine lv_iinc (v := v55) (lv' := [(6, .int v55), (0, .ref (o_t 0)), (1, .int l1), (2, .int l2), (3, .int l3), (4, .int l4)]) hx hb dX4_guessed_55 hl (k := 5) rfl (by rw [ev55]; rfl) (by decide) rfl (fun ls hl => ?_)
          refine lv_goto (tgt := 6) hx hb dX4_guessed_58 (by decide) ?_
          exact ih6 _ _ _ _ _ _ _ _ hf hP hD hS (lv_sub hl [1, 2, 3, 4, 5, 0] rfl)
        · have hf := ifn c22 hf
          exact h25 _ _ _ _ _ hf hP hD hS (lv_sub hl [0, 4, 5] rfl)
  refine lv_iload hx hb dX4_guessed_0 (lv_at hl 5 rfl) ?_
  refine lv_iconst (v := (1 : Int32)) hx hb dX4_guessed_2 (by decide) ?_
  refine lv_isub hx hb dX4_guessed_3 ?_
  obtain ⟨v4, ev4, hf⟩ := nm_s hf
  refine my_topi ev4 ?_
  refine lv_istore (lv' := [(6, .int v4), (0, .ref (o_t 0)), (1, .int p1), (2, .int p2), (3, .int p3), (4, .int p4), (5, .int p5)]) hx hb dX4_guessed_4 hl (by decide) rfl (fun ls hl => ?_)
  exact h6 FU _ _ _ _ _ _ _ _ hf hP hD hS (lv_sub hl [1, 2, 3, 4, 5, 0] rfl)
theorem hd_X4_guessed : yX4_guessed.cls ≠ "java/lang/invoke/MethodHandle" ∧ yX4_guessed.cls ≠ "java/lang/invoke/VarHandle" ∧ (parseMethodDescriptor yX4_guessed.desc).map (fun d => d.parameters.length) = some 5 := by decide +kernel
set_option maxRecDepth 100000 in
theorem c_X4_guessed (l : Launch) (D : va_G) (cy : Nat → ClassId) (t : Nat → Nat) (o_t o_t_play : Nat → Nat) (x_play_w : Int32) (x_play_h : Int32) (x_play_hands : Int32) (x_play_pressRow : Nat → Int32) (x_play_leftFrom : Nat → Int32) (x_play_leftTo : Nat → Int32) (x_waits : Nat → Int32) (x_lostRow : Nat → Int32) (p1 : Int32) (p2 : Int32) (p3 : Int32) (p4 : Int32) (p5 : Int32) {out : Int32} (hf : X4_guessed x_play_pressRow x_play_leftFrom x_play_leftTo x_waits x_lostRow p1 p2 p3 p4 p5 = some out) : ctI l yX4_guessed wsX4_guessed 2 51 D cy t [.ref (o_t 0), .int p1, .int p2, .int p3, .int p4, .int p5] (wd_X4_guessed cy o_t o_t_play x_play_w x_play_h x_play_hands x_play_pressRow x_play_leftFrom x_play_leftTo x_waits x_lostRow) (wd_X4_guessed cy o_t o_t_play x_play_w x_play_h x_play_hands x_play_pressRow x_play_leftFrom x_play_leftTo x_waits x_lostRow) out := by
  refine ⟨rfl, ?_⟩
  intro sz
  refine Met.ofW (cc := cX4_guessed) (maxL := 7) (ret := (some .int)) (by decide) rfl ?_
  intro p e s m args below meth c s₁ B hml hv
  obtain ⟨rfl, hsz, hP, hK, hD0, hE⟩ := hv
  have hts := atoms_spec (ws := wsX4_guessed) B.pre
  have hown : s.vm.findClass RX4 = some m.cls := findClass_of_methodNamed B.named
  have hlocks := B.notSynchronized
  subst hsz
  have hD := hD0.self (sz := s.heap.size)
  have hl := lv_entry ([.ref (o_t 0), .int p1, .int p2, .int p3, .int p4, .int p5]) (n := 7) (Nat.le_of_ble_eq_true rfl)
  rw [lg_entry_eq]
  generalize (lg_sl ([.ref (o_t 0), .int p1, .int p2, .int p3, .int p4, .int p5]) ++ List.replicate (7 - (lg_sl ([.ref (o_t 0), .int p1, .int p2, .int p3, .int p4, .int p5])).length) Slot.unset).toArray = ls at hl ⊢
  exact w_X4_guessed D cy t o_t o_t_play x_play_w x_play_h x_play_hands x_play_pressRow x_play_leftFrom x_play_leftTo x_waits x_lostRow p1 p2 p3 p4 p5 hf B.exec B.bytes hml hown hts hK hE (fun q h => Or.inr h) hP hD va_S.rf hl (fun H locs ls pc hP hD hS hdg => W.iret B.exec B.bytes B.returns (fun t ht hW => ⟨⟨_, (), rfl, rfl, ctB_of ht hP⟩, hS.F ht⟩) hS.2.2 hdg)

noncomputable def X4_taken (x_play_pressRow : Nat → Int32) (x_play_leftFrom : Nat → Int32) (x_play_leftTo : Nat → Int32) (x_waits : Nat → Int32) (x_lostRow : Nat → Int32) (p1 : Int32) (p2 : Int32) (p3 : Int32) (p4 : Int32) (p5 : Int32) : Option (Int32) :=
  bd (X4_isKnown x_play_leftFrom x_play_leftTo x_waits x_lostRow p1 p2 p3 p4 p5) fun r8 => if r8 = (0 : Int32) then (bd (X4_guessed x_play_pressRow x_play_leftFrom x_play_leftTo x_waits x_lostRow p1 p2 p3 p4 p5) fun r34 => some r34) else (bd (X5_pressOf x_play_pressRow p4 p5) fun r22 => some r22)
abbrev wd_X4_taken (cy : Nat → ClassId) (o_t o_t_play : Nat → Nat) (x_play_w : Int32) (x_play_h : Int32) (x_play_hands : Int32) (x_play_pressRow : Nat → Int32) (x_play_leftFrom : Nat → Int32) (x_play_leftTo : Nat → Int32) (x_waits : Nat → Int32) (x_lostRow : Nat → Int32) : va_W := [(o_t 0, .inr (4, [.ref (o_t_play 0), .ref (o_t 2), .ref (o_t 3)])), (o_t_play 0, .inr (5, [.int x_play_w, .int x_play_h, .int x_play_hands, .ref (o_t_play 4), .ref (o_t_play 5), .ref (o_t_play 6), .ref (o_t_play 7)])), (o_t_play 5, .inl (cy 0, 600, .inl x_play_pressRow)), (o_t_play 6, .inl (cy 0, 6, .inl x_play_leftFrom)), (o_t_play 7, .inl (cy 0, 6, .inl x_play_leftTo)), (o_t 2, .inl (cy 0, 36, .inl x_waits)), (o_t 3, .inl (cy 1, 600, .inl x_lostRow))]
set_option maxHeartbeats 4000000 in
set_option maxRecDepth 100000 in
theorem w_X4_taken {p : Program} {l : Launch} {e : Env} {s : State} {m : MethodId} {args : Array Value} {below : List Frame} {meth : Method} {c : Code} {Q : State → Prop} {A : Nat → Prop} {H : Heap} {locs : List Loc} {ls : Array Slot} (D : va_G) (cy : Nat → ClassId) (t : Nat → Nat) (o_t o_t_play : Nat → Nat) (x_play_w : Int32) (x_play_h : Int32) (x_play_hands : Int32) (x_play_pressRow : Nat → Int32) (x_play_leftFrom : Nat → Int32) (x_play_leftTo : Nat → Int32) (x_waits : Nat → Int32) (x_lostRow : Nat → Int32) (p1 : Int32) (p2 : Int32) (p3 : Int32) (p4 : Int32) (p5 : Int32) {out : Int32} (hf : X4_taken x_play_pressRow x_play_leftFrom x_play_leftTo x_waits x_lostRow p1 p2 p3 p4 p5 = some out) (hx : p.tables.exec = Jvm.exec) (hb : c.code = cX4_taken) (hml : c.maxLocals = 6) (hown : s.vm.findClass RX4 = some m.cls) (hts : ∀ w ∈ wsX4_taken, w.before args s = true) (hK : va_K D vwCl (TYS cy) s) (hE : EV t A s s.heap) (hA : ∀ q, s.heap.size ≤ q → A q) (hP : va_P D vwCl (wd_X4_taken cy o_t o_t_play x_play_w x_play_h x_play_hands x_play_pressRow x_play_leftFrom x_play_leftTo x_waits x_lostRow) H) (hD : va_D A (wd_X4_taken cy o_t o_t_play x_play_w x_play_h x_play_hands x_play_pressRow x_play_leftFrom x_play_leftTo x_waits x_lostRow)) (hS : va_S A s.heap H locs) (hl : lv_has ls 6 [(0, .ref (o_t 0)), (1, .int p1), (2, .int p2), (3, .int p3), (4, .int p4), (5, .int p5)]) (hR : ∀ (H : Heap) (locs : List Loc) (ls : Array Slot) (pc : Nat), va_P D vwCl (wd_X4_taken cy o_t o_t_play x_play_w x_play_h x_play_hands x_play_pressRow x_play_leftFrom x_play_leftTo x_waits x_lostRow) H → va_D A (wd_X4_taken cy o_t o_t_play x_play_w x_play_h x_play_hands x_play_pressRow x_play_leftFrom x_play_leftTo x_waits x_lostRow) → va_S A s.heap H locs → decode cX4_taken pc = .ok (.ireturn, 1) → W p l e (rmm 3 77) s m args below meth c H locs 0 0 Q (F0 m pc ls [.int out])) : W p l e (rmm 3 77) s m args below meth c H locs 0 0 Q (F0 m 0 ls []) := by
  have k0 := hts (.fieldLink RX4 19 "SeaGames$Lines" "play" "LSeaGames$Play;") (List.mem_cons_of_mem _ (List.mem_append_left _ (List.mem_append_left _ (List.mem_append_left _ (List.mem_of_getElem? (i := 0) rfl)))))
  have k1 : ∀ w ∈ u_ws RX4 TX4 3, w ∈ wsX4_taken := fun _ h => List.mem_cons_of_mem _ (List.mem_append_left _ (List.mem_append_right _ h))
  rw [X4_taken] at hf
  refine lv_aload_n hx hb dX4_taken_0 rfl (lv_at hl 0 rfl) ?_
  refine lv_iload_n hx hb dX4_taken_1 rfl (lv_at hl 1 rfl) ?_
  refine lv_iload_n hx hb dX4_taken_2 rfl (lv_at hl 2 rfl) ?_
  refine lv_iload_n hx hb dX4_taken_3 rfl (lv_at hl 3 rfl) ?_
  refine lv_iload hx hb dX4_taken_4 (lv_at hl 4 rfl) ?_
  refine lv_iload hx hb dX4_taken_6 (lv_at hl 5 rfl) ?_
  obtain ⟨r8, hr8, hf⟩ := bd_s hf
  refine my_Vi (WS2 := (wd_X4_taken cy o_t o_t_play x_play_w x_play_h x_play_hands x_play_pressRow x_play_leftFrom x_play_leftTo x_waits x_lostRow)) ⟨hx, hb, hml, hown, hts⟩ (c_X4_isKnown l D cy t o_t o_t_play x_play_w x_play_h x_play_hands x_play_leftFrom x_play_leftTo x_waits x_lostRow p1 p2 p3 p4 p5 hr8) (cwV 5 hts gX4_taken_X4_isKnown rfl rfl rfl ⟨rfl, hd_X4_isKnown⟩ ⟨Nat.le_of_ble_eq_true rfl, Nat.le_of_ble_eq_true rfl⟩) hK hE hP hD hS hA [0, 1, 3, 4, 5, 6] 7 4 0 rfl rfl rfl rfl (by decide +kernel) rfl rfl hl.1 rfl (Nat.le_of_ble_eq_true rfl) dX4_taken_8 ⟨Nat.le_of_ble_eq_true rfl, Nat.le_of_ble_eq_true rfl⟩ (fun H locs hP hD hS => ?_)
  refine lv_if_eq (tgt := 26) hx hb dX4_taken_11 (by decide) (fun c11 => ?_) (fun c11 => ?_)
  · have hf := ifp c11 hf
    refine lv_aload_n hx hb dX4_taken_26 rfl (lv_at hl 0 rfl) ?_
    refine lv_iload_n hx hb dX4_taken_27 rfl (lv_at hl 1 rfl) ?_
    refine lv_iload_n hx hb dX4_taken_28 rfl (lv_at hl 2 rfl) ?_
    refine lv_iload_n hx hb dX4_taken_29 rfl (lv_at hl 3 rfl) ?_
    refine lv_iload hx hb dX4_taken_30 (lv_at hl 4 rfl) ?_
    refine lv_iload hx hb dX4_taken_32 (lv_at hl 5 rfl) ?_
    obtain ⟨r34, hr34, hf⟩ := bd_s hf
    refine my_Vi (WS2 := (wd_X4_taken cy o_t o_t_play x_play_w x_play_h x_play_hands x_play_pressRow x_play_leftFrom x_play_leftTo x_waits x_lostRow)) ⟨hx, hb, hml, hown, hts⟩ (c_X4_guessed l D cy t o_t o_t_play x_play_w x_play_h x_play_hands x_play_pressRow x_play_leftFrom x_play_leftTo x_waits x_lostRow p1 p2 p3 p4 p5 hr34) (cwV 5 hts gX4_taken_X4_guessed rfl rfl rfl ⟨rfl, hd_X4_guessed⟩ ⟨Nat.le_of_ble_eq_true rfl, Nat.le_of_ble_eq_true rfl⟩) hK hE hP hD hS hA [0, 1, 2, 3, 4, 5, 6] 7 4 0 rfl rfl rfl rfl (by decide +kernel) rfl rfl hl.1 rfl (Nat.le_of_ble_eq_true rfl) dX4_taken_34 ⟨Nat.le_of_ble_eq_true rfl, Nat.le_of_ble_eq_true rfl⟩ (fun H locs hP hD hS => ?_)
    obtain rfl := Option.some.inj hf
    exact hR _ _ _ _ hP hD hS dX4_taken_37
  · have hf := ifn c11 hf
    refine lv_aload_n hx hb dX4_taken_14 rfl (lv_at hl 0 rfl) ?_
    refine va_get (D := D) (ci := 4) (v := .ref (o_t_play 0)) (C := RX4) (T := TX4) (N := 3) hx hb hts k1 hown hK hP 0 rfl rfl 0 (by decide) k0 (fun _ h9 => h9) rfl dX4_taken_15 ?_
    refine lv_iload hx hb dX4_taken_18 (lv_at hl 4 rfl) ?_
    refine lv_iload hx hb dX4_taken_20 (lv_at hl 5 rfl) ?_
    obtain ⟨r22, hr22, hf⟩ := bd_s hf
    refine my_Vi (WS2 := (wd_X4_taken cy o_t o_t_play x_play_w x_play_h x_play_hands x_play_pressRow x_play_leftFrom x_play_leftTo x_waits x_lostRow)) ⟨hx, hb, hml, hown, hts⟩ (c_X5_pressOf l D cy t o_t_play x_play_w x_play_h x_play_hands x_play_pressRow p4 p5 hr22) (cwV 2 hts gX4_taken_X5_pressOf rfl rfl rfl ⟨rfl, hd_X5_pressOf⟩ ⟨Nat.le_of_ble_eq_true rfl, Nat.le_of_ble_eq_true rfl⟩) hK hE hP hD hS hA [1, 2] 7 5 0 rfl rfl rfl rfl (by decide +kernel) rfl rfl hl.1 rfl (Nat.le_of_ble_eq_true rfl) dX4_taken_22 ⟨Nat.le_of_ble_eq_true rfl, Nat.le_of_ble_eq_true rfl⟩ (fun H locs hP hD hS => ?_)
    obtain rfl := Option.some.inj hf
    exact hR _ _ _ _ hP hD hS dX4_taken_25
theorem hd_X4_taken : yX4_taken.cls ≠ "java/lang/invoke/MethodHandle" ∧ yX4_taken.cls ≠ "java/lang/invoke/VarHandle" ∧ (parseMethodDescriptor yX4_taken.desc).map (fun d => d.parameters.length) = some 5 := by decide +kernel
set_option maxRecDepth 100000 in
theorem c_X4_taken (l : Launch) (D : va_G) (cy : Nat → ClassId) (t : Nat → Nat) (o_t o_t_play : Nat → Nat) (x_play_w : Int32) (x_play_h : Int32) (x_play_hands : Int32) (x_play_pressRow : Nat → Int32) (x_play_leftFrom : Nat → Int32) (x_play_leftTo : Nat → Int32) (x_waits : Nat → Int32) (x_lostRow : Nat → Int32) (p1 : Int32) (p2 : Int32) (p3 : Int32) (p4 : Int32) (p5 : Int32) {out : Int32} (hf : X4_taken x_play_pressRow x_play_leftFrom x_play_leftTo x_waits x_lostRow p1 p2 p3 p4 p5 = some out) : ctI l yX4_taken wsX4_taken 3 77 D cy t [.ref (o_t 0), .int p1, .int p2, .int p3, .int p4, .int p5] (wd_X4_taken cy o_t o_t_play x_play_w x_play_h x_play_hands x_play_pressRow x_play_leftFrom x_play_leftTo x_waits x_lostRow) (wd_X4_taken cy o_t o_t_play x_play_w x_play_h x_play_hands x_play_pressRow x_play_leftFrom x_play_leftTo x_waits x_lostRow) out := by
  refine ⟨rfl, ?_⟩
  intro sz
  refine Met.ofW (cc := cX4_taken) (maxL := 6) (ret := (some .int)) (by decide) rfl ?_
  intro p e s m args below meth c s₁ B hml hv
  obtain ⟨rfl, hsz, hP, hK, hD0, hE⟩ := hv
  have hts := atoms_spec (ws := wsX4_taken) B.pre
  have hown : s.vm.findClass RX4 = some m.cls := findClass_of_methodNamed B.named
  have hlocks := B.notSynchronized
  subst hsz
  have hD := hD0.self (sz := s.heap.size)
  have hl := lv_entry ([.ref (o_t 0), .int p1, .int p2, .int p3, .int p4, .int p5]) (n := 6) (Nat.le_of_ble_eq_true rfl)
  rw [lg_entry_eq]
  generalize (lg_sl ([.ref (o_t 0), .int p1, .int p2, .int p3, .int p4, .int p5]) ++ List.replicate (6 - (lg_sl ([.ref (o_t 0), .int p1, .int p2, .int p3, .int p4, .int p5])).length) Slot.unset).toArray = ls at hl ⊢
  exact w_X4_taken D cy t o_t o_t_play x_play_w x_play_h x_play_hands x_play_pressRow x_play_leftFrom x_play_leftTo x_waits x_lostRow p1 p2 p3 p4 p5 hf B.exec B.bytes hml hown hts hK hE (fun q h => Or.inr h) hP hD va_S.rf hl (fun H locs ls pc hP hD hS hdg => W.iret B.exec B.bytes B.returns (fun t ht hW => ⟨⟨_, (), rfl, rfl, ctB_of ht hP⟩, hS.F ht⟩) hS.2.2 hdg)

noncomputable def X4_backBy (x_play_pressRow : Nat → Int32) (x_play_leftFrom : Nat → Int32) (x_play_leftTo : Nat → Int32) (x_waits : Nat → Int32) (x_lostRow : Nat → Int32) (p1 : Int32) (p2 : Int32) (p3 : Int32) (p4 : Int32) (p5 : Int32) : Option (Int32) :=
  if p5 < (0 : Int32) then (some (0 : Int32)) else (if p3 ≤ p5 then (some (0 : Int32)) else (bd (X5_isLeft x_play_leftFrom x_play_leftTo p4 p5) fun r19 => if r19 = (0 : Int32) then (bd (X4_clockOf x_waits x_lostRow p1 p2 p4 p5) fun r34 => if r34 = p3 then (bd (X4_guessed x_play_pressRow x_play_leftFrom x_play_leftTo x_waits x_lostRow p1 p2 (p3 - (1 : Int32)) p4 p5) fun r53 => bd (X5_pressOf x_play_pressRow p4 p5) fun r68 => if r53 = r68 then (some (0 : Int32)) else (some (p3 - p5))) else (some (0 : Int32))) else (some (0 : Int32))))
abbrev wd_X4_backBy (cy : Nat → ClassId) (o_t o_t_play : Nat → Nat) (x_play_w : Int32) (x_play_h : Int32) (x_play_hands : Int32) (x_play_pressRow : Nat → Int32) (x_play_leftFrom : Nat → Int32) (x_play_leftTo : Nat → Int32) (x_waits : Nat → Int32) (x_lostRow : Nat → Int32) : va_W := [(o_t 0, .inr (4, [.ref (o_t_play 0), .ref (o_t 2), .ref (o_t 3)])), (o_t_play 0, .inr (5, [.int x_play_w, .int x_play_h, .int x_play_hands, .ref (o_t_play 4), .ref (o_t_play 5), .ref (o_t_play 6), .ref (o_t_play 7)])), (o_t_play 5, .inl (cy 0, 600, .inl x_play_pressRow)), (o_t_play 6, .inl (cy 0, 6, .inl x_play_leftFrom)), (o_t_play 7, .inl (cy 0, 6, .inl x_play_leftTo)), (o_t 2, .inl (cy 0, 36, .inl x_waits)), (o_t 3, .inl (cy 1, 600, .inl x_lostRow))]
set_option maxHeartbeats 4000000 in
set_option maxRecDepth 100000 in
theorem w_X4_backBy {p : Program} {l : Launch} {e : Env} {s : State} {m : MethodId} {args : Array Value} {below : List Frame} {meth : Method} {c : Code} {Q : State → Prop} {A : Nat → Prop} {H : Heap} {locs : List Loc} {ls : Array Slot} (D : va_G) (cy : Nat → ClassId) (t : Nat → Nat) (o_t o_t_play : Nat → Nat) (x_play_w : Int32) (x_play_h : Int32) (x_play_hands : Int32) (x_play_pressRow : Nat → Int32) (x_play_leftFrom : Nat → Int32) (x_play_leftTo : Nat → Int32) (x_waits : Nat → Int32) (x_lostRow : Nat → Int32) (p1 : Int32) (p2 : Int32) (p3 : Int32) (p4 : Int32) (p5 : Int32) {out : Int32} (hf : X4_backBy x_play_pressRow x_play_leftFrom x_play_leftTo x_waits x_lostRow p1 p2 p3 p4 p5 = some out) (hx : p.tables.exec = Jvm.exec) (hb : c.code = cX4_backBy) (hml : c.maxLocals = 7) (hown : s.vm.findClass RX4 = some m.cls) (hts : ∀ w ∈ wsX4_backBy, w.before args s = true) (hK : va_K D vwCl (TYS cy) s) (hE : EV t A s s.heap) (hA : ∀ q, s.heap.size ≤ q → A q) (hP : va_P D vwCl (wd_X4_backBy cy o_t o_t_play x_play_w x_play_h x_play_hands x_play_pressRow x_play_leftFrom x_play_leftTo x_waits x_lostRow) H) (hD : va_D A (wd_X4_backBy cy o_t o_t_play x_play_w x_play_h x_play_hands x_play_pressRow x_play_leftFrom x_play_leftTo x_waits x_lostRow)) (hS : va_S A s.heap H locs) (hl : lv_has ls 7 [(0, .ref (o_t 0)), (1, .int p1), (2, .int p2), (3, .int p3), (4, .int p4), (5, .int p5)]) (hR : ∀ (H : Heap) (locs : List Loc) (ls : Array Slot) (pc : Nat), va_P D vwCl (wd_X4_backBy cy o_t o_t_play x_play_w x_play_h x_play_hands x_play_pressRow x_play_leftFrom x_play_leftTo x_waits x_lostRow) H → va_D A (wd_X4_backBy cy o_t o_t_play x_play_w x_play_h x_play_hands x_play_pressRow x_play_leftFrom x_play_leftTo x_waits x_lostRow) → va_S A s.heap H locs → decode cX4_backBy pc = .ok (.ireturn, 1) → W p l e (rmm 3 77) s m args below meth c H locs 0 0 Q (F0 m pc ls [.int out])) : W p l e (rmm 3 77) s m args below meth c H locs 0 0 Q (F0 m 0 ls []) := by
  have k0 := hts (.fieldLink RX4 19 "SeaGames$Lines" "play" "LSeaGames$Play;") (List.mem_cons_of_mem _ (List.mem_append_left _ (List.mem_append_left _ (List.mem_append_left _ (List.mem_of_getElem? (i := 0) rfl)))))
  have k1 : ∀ w ∈ u_ws RX4 TX4 3, w ∈ wsX4_backBy := fun _ h => List.mem_cons_of_mem _ (List.mem_append_left _ (List.mem_append_right _ h))
  rw [X4_backBy] at hf
  refine lv_iload hx hb dX4_backBy_0 (lv_at hl 5 rfl) ?_
  refine lv_if_lt (tgt := 25) hx hb dX4_backBy_2 (by decide) (fun c2 => ?_) (fun c2 => ?_)
  · have hf := ifp c2 hf
    refine lv_iconst (v := (0 : Int32)) hx hb dX4_backBy_25 (by decide) ?_
    obtain rfl := Option.some.inj hf
    exact hR _ _ _ _ hP hD hS dX4_backBy_26
  · have hf := ifn c2 hf
    refine lv_iload hx hb dX4_backBy_5 (lv_at hl 5 rfl) ?_
    refine lv_iload_n hx hb dX4_backBy_7 rfl (lv_at hl 3 rfl) ?_
    refine lv_icmp_ge (tgt := 25) hx hb dX4_backBy_8 (by decide) (fun c8 => ?_) (fun c8 => ?_)
    · have hf := ifp c8 hf
      refine lv_iconst (v := (0 : Int32)) hx hb dX4_backBy_25 (by decide) ?_
      obtain rfl := Option.some.inj hf
      exact hR _ _ _ _ hP hD hS dX4_backBy_26
    · have hf := ifn c8 hf
      refine lv_aload_n hx hb dX4_backBy_11 rfl (lv_at hl 0 rfl) ?_
      refine va_get (D := D) (ci := 4) (v := .ref (o_t_play 0)) (C := RX4) (T := TX4) (N := 3) hx hb hts k1 hown hK hP 0 rfl rfl 0 (by decide) k0 (fun _ h9 => h9) rfl dX4_backBy_12 ?_
      refine lv_iload hx hb dX4_backBy_15 (lv_at hl 4 rfl) ?_
      refine lv_iload hx hb dX4_backBy_17 (lv_at hl 5 rfl) ?_
      obtain ⟨r19, hr19, hf⟩ := bd_s hf
      refine my_Vi (WS2 := (wd_X4_backBy cy o_t o_t_play x_play_w x_play_h x_play_hands x_play_pressRow x_play_leftFrom x_play_leftTo x_waits x_lostRow)) ⟨hx, hb, hml, hown, hts⟩ (c_X5_isLeft l D cy t o_t_play x_play_w x_play_h x_play_hands x_play_leftFrom x_play_leftTo p4 p5 hr19) (cwV 2 hts gX4_backBy_X5_isLeft rfl rfl rfl ⟨rfl, hd_X5_isLeft⟩ ⟨Nat.le_of_ble_eq_true rfl, Nat.le_of_ble_eq_true rfl⟩) hK hE hP hD hS hA [1, 3, 4] 7 5 0 rfl rfl rfl rfl (by decide +kernel) rfl rfl hl.1 rfl (Nat.le_of_ble_eq_true rfl) dX4_backBy_19 ⟨Nat.le_of_ble_eq_true rfl, Nat.le_of_ble_eq_true rfl⟩ (fun H locs hP hD hS => ?_)
      refine lv_if_eq (tgt := 27) hx hb dX4_backBy_22 (by decide) (fun c22 => ?_) (fun c22 => ?_)
      · have hf := ifp c22 hf
        refine lv_aload_n hx hb dX4_backBy_27 rfl (lv_at hl 0 rfl) ?_
        refine lv_iload_n hx hb dX4_backBy_28 rfl (lv_at hl 1 rfl) ?_
        refine lv_iload_n hx hb dX4_backBy_29 rfl (lv_at hl 2 rfl) ?_
        refine lv_iload hx hb dX4_backBy_30 (lv_at hl 4 rfl) ?_
        refine lv_iload hx hb dX4_backBy_32 (lv_at hl 5 rfl) ?_
        obtain ⟨r34, hr34, hf⟩ := bd_s hf
        refine my_Vi (WS2 := (wd_X4_backBy cy o_t o_t_play x_play_w x_play_h x_play_hands x_play_pressRow x_play_leftFrom x_play_leftTo x_waits x_lostRow)) ⟨hx, hb, hml, hown, hts⟩ (c_X4_clockOf l D cy t o_t o_t_play x_waits x_lostRow p1 p2 p4 p5 hr34) (cwV 4 hts gX4_backBy_X4_clockOf rfl rfl rfl ⟨rfl, hd_X4_clockOf⟩ ⟨Nat.le_of_ble_eq_true rfl, Nat.le_of_ble_eq_true rfl⟩) hK hE hP hD hS hA [0, 5, 6] 7 4 0 rfl rfl rfl rfl (by decide +kernel) rfl rfl hl.1 rfl (Nat.le_of_ble_eq_true rfl) dX4_backBy_34 ⟨Nat.le_of_ble_eq_true rfl, Nat.le_of_ble_eq_true rfl⟩ (fun H locs hP hD hS => ?_)
        refine lv_iload_n hx hb dX4_backBy_37 rfl (lv_at hl 3 rfl) ?_
        refine lv_icmp_eq (tgt := 43) hx hb dX4_backBy_38 (by decide) (fun c38 => ?_) (fun c38 => ?_)
        · have hf := ifp c38 hf
          refine lv_aload_n hx hb dX4_backBy_43 rfl (lv_at hl 0 rfl) ?_
          refine lv_iload_n hx hb dX4_backBy_44 rfl (lv_at hl 1 rfl) ?_
          refine lv_iload_n hx hb dX4_backBy_45 rfl (lv_at hl 2 rfl) ?_
          refine lv_iload_n hx hb dX4_backBy_46 rfl (lv_at hl 3 rfl) ?_
          refine lv_iconst (v := (1 : Int32)) hx hb dX4_backBy_47 (by decide) ?_
          refine lv_isub hx hb dX4_backBy_48 ?_
          refine lv_iload hx hb dX4_backBy_49 (lv_at hl 4 rfl) ?_
          refine lv_iload hx hb dX4_backBy_51 (lv_at hl 5 rfl) ?_
          obtain ⟨r53, hr53, hf⟩ := bd_s hf
          refine my_Vi (WS2 := (wd_X4_backBy cy o_t o_t_play x_play_w x_play_h x_play_hands x_play_pressRow x_play_leftFrom x_play_leftTo x_waits x_lostRow)) ⟨hx, hb, hml, hown, hts⟩ (c_X4_guessed l D cy t o_t o_t_play x_play_w x_play_h x_play_hands x_play_pressRow x_play_leftFrom x_play_leftTo x_waits x_lostRow p1 p2 (p3 - (1 : Int32)) p4 p5 hr53) (cwV 5 hts gX4_backBy_X4_guessed rfl rfl rfl ⟨rfl, hd_X4_guessed⟩ ⟨Nat.le_of_ble_eq_true rfl, Nat.le_of_ble_eq_true rfl⟩) hK hE hP hD hS hA [0, 1, 2, 3, 4, 5, 6] 7 4 0 rfl rfl rfl rfl (by decide +kernel) rfl rfl hl.1 rfl (Nat.le_of_ble_eq_true rfl) dX4_backBy_53 ⟨Nat.le_of_ble_eq_true rfl, Nat.le_of_ble_eq_true rfl⟩ (fun H locs hP hD hS => ?_)
          refine lv_istore (lv' := [(6, .int r53), (0, .ref (o_t 0)), (1, .int p1), (2, .int p2), (3, .int p3), (4, .int p4), (5, .int p5)]) hx hb dX4_backBy_56 hl (by decide) rfl (fun ls hl => ?_)
          refine lv_iload hx hb dX4_backBy_58 (lv_at hl 0 rfl) ?_
          refine lv_aload_n hx hb dX4_backBy_60 rfl (lv_at hl 1 rfl) ?_
          refine va_get (D := D) (ci := 4) (v := .ref (o_t_play 0)) (C := RX4) (T := TX4) (N := 3) hx hb hts k1 hown hK hP 0 rfl rfl 0 (by decide) k0 (fun _ h9 => h9) rfl dX4_backBy_61 ?_
          refine lv_iload hx hb dX4_backBy_64 (lv_at hl 5 rfl) ?_
          refine lv_iload hx hb dX4_backBy_66 (lv_at hl 6 rfl) ?_
          obtain ⟨r68, hr68, hf⟩ := bd_s hf
          refine my_Vi (WS2 := (wd_X4_backBy cy o_t o_t_play x_play_w x_play_h x_play_hands x_play_pressRow x_play_leftFrom x_play_leftTo x_waits x_lostRow)) ⟨hx, hb, hml, hown, hts⟩ (c_X5_pressOf l D cy t o_t_play x_play_w x_play_h x_play_hands x_play_pressRow p4 p5 hr68) (cwV 2 hts gX4_backBy_X5_pressOf rfl rfl rfl ⟨rfl, hd_X5_pressOf⟩ ⟨Nat.le_of_ble_eq_true rfl, Nat.le_of_ble_eq_true rfl⟩) hK hE hP hD hS hA [1, 2] 7 5 0 rfl rfl rfl rfl (by decide +kernel) rfl rfl hl.1 rfl (Nat.le_of_ble_eq_true rfl) dX4_backBy_68 ⟨Nat.le_of_ble_eq_true rfl, Nat.le_of_ble_eq_true rfl⟩ (fun H locs hP hD hS => ?_)
          refine lv_icmp_ne (tgt := 78) hx hb dX4_backBy_71 (by decide) (fun c71 => ?_) (fun c71 => ?_)
          · have hf := ifn c71 hf
            refine lv_iload_n hx hb dX4_backBy_78 rfl (lv_at hl 4 rfl) ?_
            refine lv_iload hx hb dX4_backBy_79 (lv_at hl 6 rfl) ?_
            refine lv_isub hx hb dX4_backBy_81 ?_
            obtain rfl := Option.some.inj hf
            exact hR _ _ _ _ hP hD hS dX4_backBy_82
          · have hf := ifp c71 hf
            refine lv_iconst (v := (0 : Int32)) hx hb dX4_backBy_74 (by decide) ?_
            refine lv_goto (tgt := 82) hx hb dX4_backBy_75 (by decide) ?_
            obtain rfl := Option.some.inj hf
            exact hR _ _ _ _ hP hD hS dX4_backBy_82
        · have hf := ifn c38 hf
          refine lv_iconst (v := (0 : Int32)) hx hb dX4_backBy_41 (by decide) ?_
          obtain rfl := Option.some.inj hf
          exact hR _ _ _ _ hP hD hS dX4_backBy_42
      · have hf := ifn c22 hf
        refine lv_iconst (v := (0 : Int32)) hx hb dX4_backBy_25 (by decide) ?_
        obtain rfl := Option.some.inj hf
        exact hR _ _ _ _ hP hD hS dX4_backBy_26
theorem hd_X4_backBy : yX4_backBy.cls ≠ "java/lang/invoke/MethodHandle" ∧ yX4_backBy.cls ≠ "java/lang/invoke/VarHandle" ∧ (parseMethodDescriptor yX4_backBy.desc).map (fun d => d.parameters.length) = some 5 := by decide +kernel
set_option maxRecDepth 100000 in
theorem c_X4_backBy (l : Launch) (D : va_G) (cy : Nat → ClassId) (t : Nat → Nat) (o_t o_t_play : Nat → Nat) (x_play_w : Int32) (x_play_h : Int32) (x_play_hands : Int32) (x_play_pressRow : Nat → Int32) (x_play_leftFrom : Nat → Int32) (x_play_leftTo : Nat → Int32) (x_waits : Nat → Int32) (x_lostRow : Nat → Int32) (p1 : Int32) (p2 : Int32) (p3 : Int32) (p4 : Int32) (p5 : Int32) {out : Int32} (hf : X4_backBy x_play_pressRow x_play_leftFrom x_play_leftTo x_waits x_lostRow p1 p2 p3 p4 p5 = some out) : ctI l yX4_backBy wsX4_backBy 3 77 D cy t [.ref (o_t 0), .int p1, .int p2, .int p3, .int p4, .int p5] (wd_X4_backBy cy o_t o_t_play x_play_w x_play_h x_play_hands x_play_pressRow x_play_leftFrom x_play_leftTo x_waits x_lostRow) (wd_X4_backBy cy o_t o_t_play x_play_w x_play_h x_play_hands x_play_pressRow x_play_leftFrom x_play_leftTo x_waits x_lostRow) out := by
  refine ⟨rfl, ?_⟩
  intro sz
  refine Met.ofW (cc := cX4_backBy) (maxL := 7) (ret := (some .int)) (by decide) rfl ?_
  intro p e s m args below meth c s₁ B hml hv
  obtain ⟨rfl, hsz, hP, hK, hD0, hE⟩ := hv
  have hts := atoms_spec (ws := wsX4_backBy) B.pre
  have hown : s.vm.findClass RX4 = some m.cls := findClass_of_methodNamed B.named
  have hlocks := B.notSynchronized
  subst hsz
  have hD := hD0.self (sz := s.heap.size)
  have hl := lv_entry ([.ref (o_t 0), .int p1, .int p2, .int p3, .int p4, .int p5]) (n := 7) (Nat.le_of_ble_eq_true rfl)
  rw [lg_entry_eq]
  generalize (lg_sl ([.ref (o_t 0), .int p1, .int p2, .int p3, .int p4, .int p5]) ++ List.replicate (7 - (lg_sl ([.ref (o_t 0), .int p1, .int p2, .int p3, .int p4, .int p5])).length) Slot.unset).toArray = ls at hl ⊢
  exact w_X4_backBy D cy t o_t o_t_play x_play_w x_play_h x_play_hands x_play_pressRow x_play_leftFrom x_play_leftTo x_waits x_lostRow p1 p2 p3 p4 p5 hf B.exec B.bytes hml hown hts hK hE (fun q h => Or.inr h) hP hD va_S.rf hl (fun H locs ls pc hP hD hS hdg => W.iret B.exec B.bytes B.returns (fun t ht hW => ⟨⟨_, (), rfl, rfl, ctB_of ht hP⟩, hS.F ht⟩) hS.2.2 hdg)

noncomputable def X4_goneBack_L6_B (x_play_hands : Int32) (x_play_pressRow : Nat → Int32) (x_play_leftFrom : Nat → Int32) (x_play_leftTo : Nat → Int32) (x_waits : Nat → Int32) (x_lostRow : Nat → Int32) (rec6 : Int32 → Int32 → Int32 → Int32 → Int32 → Option (Int32)) (l1 : Int32) (l2 : Int32) (l3 : Int32) (l4 : Int32) (l5 : Int32) : Option (Int32) :=
  if x_play_hands ≤ l5 then (some l4) else (bd (X4_waitOf x_waits l2 l5) fun r22 => nm (l3 + l1) fun v30 => bd (X4_backBy x_play_pressRow x_play_leftFrom x_play_leftTo x_waits x_lostRow l1 l2 l3 l5 (v30 - r22)) fun r45 => nm (if l4 < r45 then r45 else l4) fun v51 => bd (X4_backBy x_play_pressRow x_play_leftFrom x_play_leftTo x_waits x_lostRow l1 l2 l3 l5 ((v30 - ((3 : Int32) * r22)) - (1 : Int32))) fun r70 => nm (if v51 < r70 then r70 else v51) fun v76 => nm (l5 + (1 : Int32)) fun v78 => rec6  l1 l2 l3 v76 v78)
noncomputable def X4_goneBack_L6 (x_play_hands : Int32) (x_play_pressRow : Nat → Int32) (x_play_leftFrom : Nat → Int32) (x_play_leftTo : Nat → Int32) (x_waits : Nat → Int32) (x_lostRow : Nat → Int32) : Nat → Int32 → Int32 → Int32 → Int32 → Int32 → Option (Int32)
  | 0, _, _, _, _, _ => none
  | n + 1, y0, y1, y2, y3, y4 => X4_goneBack_L6_B x_play_hands x_play_pressRow x_play_leftFrom x_play_leftTo x_waits x_lostRow  (X4_goneBack_L6 x_play_hands x_play_pressRow x_play_leftFrom x_play_leftTo x_waits x_lostRow  n) y0 y1 y2 y3 y4
noncomputable def X4_goneBack (x_play_hands : Int32) (x_play_pressRow : Nat → Int32) (x_play_leftFrom : Nat → Int32) (x_play_leftTo : Nat → Int32) (x_waits : Nat → Int32) (x_lostRow : Nat → Int32) (p1 : Int32) (p2 : Int32) (p3 : Int32) : Option (Int32) :=
  X4_goneBack_L6 x_play_hands x_play_pressRow x_play_leftFrom x_play_leftTo x_waits x_lostRow  FU  p1 p2 p3 (0 : Int32) (0 : Int32)
abbrev wd_X4_goneBack (cy : Nat → ClassId) (o_t o_t_play : Nat → Nat) (x_play_w : Int32) (x_play_h : Int32) (x_play_hands : Int32) (x_play_pressRow : Nat → Int32) (x_play_leftFrom : Nat → Int32) (x_play_leftTo : Nat → Int32) (x_waits : Nat → Int32) (x_lostRow : Nat → Int32) : va_W := [(o_t 0, .inr (4, [.ref (o_t_play 0), .ref (o_t 2), .ref (o_t 3)])), (o_t_play 0, .inr (5, [.int x_play_w, .int x_play_h, .int x_play_hands, .ref (o_t_play 4), .ref (o_t_play 5), .ref (o_t_play 6), .ref (o_t_play 7)])), (o_t_play 5, .inl (cy 0, 600, .inl x_play_pressRow)), (o_t_play 6, .inl (cy 0, 6, .inl x_play_leftFrom)), (o_t_play 7, .inl (cy 0, 6, .inl x_play_leftTo)), (o_t 2, .inl (cy 0, 36, .inl x_waits)), (o_t 3, .inl (cy 1, 600, .inl x_lostRow))]
set_option maxHeartbeats 4000000 in
set_option maxRecDepth 100000 in
theorem w_X4_goneBack {p : Program} {l : Launch} {e : Env} {s : State} {m : MethodId} {args : Array Value} {below : List Frame} {meth : Method} {c : Code} {Q : State → Prop} {A : Nat → Prop} {H : Heap} {locs : List Loc} {ls : Array Slot} (D : va_G) (cy : Nat → ClassId) (t : Nat → Nat) (o_t o_t_play : Nat → Nat) (x_play_w : Int32) (x_play_h : Int32) (x_play_hands : Int32) (x_play_pressRow : Nat → Int32) (x_play_leftFrom : Nat → Int32) (x_play_leftTo : Nat → Int32) (x_waits : Nat → Int32) (x_lostRow : Nat → Int32) (p1 : Int32) (p2 : Int32) (p3 : Int32) {out : Int32} (hf : X4_goneBack x_play_hands x_play_pressRow x_play_leftFrom x_play_leftTo x_waits x_lostRow p1 p2 p3 = some out) (hx : p.tables.exec = Jvm.exec) (hb : c.code = cX4_goneBack) (hml : c.maxLocals = 8) (hown : s.vm.findClass RX4 = some m.cls) (hts : ∀ w ∈ wsX4_goneBack, w.before args s = true) (hK : va_K D vwCl (TYS cy) s) (hE : EV t A s s.heap) (hA : ∀ q, s.heap.size ≤ q → A q) (hP : va_P D vwCl (wd_X4_goneBack cy o_t o_t_play x_play_w x_play_h x_play_hands x_play_pressRow x_play_leftFrom x_play_leftTo x_waits x_lostRow) H) (hD : va_D A (wd_X4_goneBack cy o_t o_t_play x_play_w x_play_h x_play_hands x_play_pressRow x_play_leftFrom x_play_leftTo x_waits x_lostRow)) (hS : va_S A s.heap H locs) (hl : lv_has ls 8 [(0, .ref (o_t 0)), (1, .int p1), (2, .int p2), (3, .int p3)]) (hR : ∀ (H : Heap) (locs : List Loc) (ls : Array Slot) (pc : Nat), va_P D vwCl (wd_X4_goneBack cy o_t o_t_play x_play_w x_play_h x_play_hands x_play_pressRow x_play_leftFrom x_play_leftTo x_waits x_lostRow) H → va_D A (wd_X4_goneBack cy o_t o_t_play x_play_w x_play_h x_play_hands x_play_pressRow x_play_leftFrom x_play_leftTo x_waits x_lostRow) → va_S A s.heap H locs → decode cX4_goneBack pc = .ok (.ireturn, 1) → W p l e (rmm 4 103) s m args below meth c H locs 0 0 Q (F0 m pc ls [.int out])) : W p l e (rmm 4 103) s m args below meth c H locs 0 0 Q (F0 m 0 ls []) := by
  have k0 := hts (.fieldLink RX4 19 "SeaGames$Lines" "play" "LSeaGames$Play;") (List.mem_cons_of_mem _ (List.mem_append_left _ (List.mem_append_left _ (List.mem_append_left _ (List.mem_of_getElem? (i := 0) rfl)))))
  have k1 : ∀ w ∈ u_ws RX4 TX4 3, w ∈ wsX4_goneBack := fun _ h => List.mem_cons_of_mem _ (List.mem_append_left _ (List.mem_append_right _ h))
  have k2 := hts (.fieldLink RX4 29 "SeaGames$Play" "hands" "I") (List.mem_cons_of_mem _ (List.mem_append_left _ (List.mem_append_left _ (List.mem_append_left _ (List.mem_of_getElem? (i := 1) rfl)))))
  have k3 : ∀ w ∈ u_ws RX5 TX5 7, w ∈ wsX4_goneBack := fun _ h => List.mem_cons_of_mem _ (List.mem_append_right _ h)
  have k4 := hts (.methodLink RX4 53 Lib.Math.max.name) (List.mem_cons_of_mem _ (List.mem_append_left _ (List.mem_append_left _ (List.mem_append_left _ (List.mem_of_getElem? (i := 2) rfl)))))
  have k5 := hts (.static Lib.Math.max.name) (List.mem_cons_of_mem _ (List.mem_append_left _ (List.mem_append_left _ (List.mem_append_left _ (List.mem_of_getElem? (i := 3) rfl)))))
  have k6 := hts (.initialized "java/lang/Math") (List.mem_cons_of_mem _ (List.mem_append_left _ (List.mem_append_left _ (List.mem_append_left _ (List.mem_of_getElem? (i := 4) rfl)))))
  have k7 := hts (.code Lib.Math.max.name Lib.Math.max.code 2 (some .int)) (List.mem_cons_of_mem _ (List.mem_append_left _ (List.mem_append_left _ (List.mem_append_left _ (List.mem_of_getElem? (i := 5) rfl)))))
  rw [X4_goneBack] at hf
  have h6 : ∀ (n6 : Nat) (l1 : Int32) (l2 : Int32) (l3 : Int32) (l4 : Int32) (l5 : Int32) (H : Heap) (locs : List Loc) (ls : Array Slot), X4_goneBack_L6 x_play_hands x_play_pressRow x_play_leftFrom x_play_leftTo x_waits x_lostRow n6 l1 l2 l3 l4 l5 = some out → va_P D vwCl (wd_X4_goneBack cy o_t o_t_play x_play_w x_play_h x_play_hands x_play_pressRow x_play_leftFrom x_play_leftTo x_waits x_lostRow) H → va_D A (wd_X4_goneBack cy o_t o_t_play x_play_w x_play_h x_play_hands x_play_pressRow x_play_leftFrom x_play_leftTo x_waits x_lostRow) → va_S A s.heap H locs → lv_has ls 8 [(0, .ref (o_t 0)), (1, .int l1), (2, .int l2), (3, .int l3), (4, .int l4), (5, .int l5)] → W p l e (rmm 4 103) s m args below meth c H locs 0 0 Q (F0 m 6 ls []) := by
    intro n6
    induction n6 with
    | zero =>
      intro _ _ _ _ _ _ _ _ hf
      exact nomatch (show (none : Option _) = some out from hf)
    | succ n6 ih6 =>
      intro l1 l2 l3 l4 l5 H locs ls hf hP hD hS hl
      have hf : X4_goneBack_L6_B x_play_hands x_play_pressRow x_play_leftFrom x_play_leftTo x_waits x_lostRow (X4_goneBack_L6 x_play_hands x_play_pressRow x_play_leftFrom x_play_leftTo x_waits x_lostRow n6) l1 l2 l3 l4 l5 = some out := hf
      rw [X4_goneBack_L6_B] at hf
      refine lv_iload hx hb dX4_goneBack_6 (lv_at hl 5 rfl) ?_
      refine lv_aload_n hx hb dX4_goneBack_8 rfl (lv_at hl 0 rfl) ?_
      refine va_get (D := D) (ci := 4) (v := .ref (o_t_play 0)) (C := RX4) (T := TX4) (N := 3) hx hb hts k1 hown hK hP 0 rfl rfl 0 (by decide) k0 (fun _ h9 => h9) rfl dX4_goneBack_9 ?_
      refine va_get (D := D) (ci := 5) (v := .int x_play_hands) (C := RX5) (T := TX5) (N := 7) hx hb hts k3 hown hK hP 1 rfl rfl 2 (by decide) k2 (fun _ h9 => h9) rfl dX4_goneBack_12 ?_
      refine lv_icmp_ge (tgt := 84) hx hb dX4_goneBack_15 (by decide) (fun c15 => ?_) (fun c15 => ?_)
      · have hf := ifp c15 hf
        refine lv_iload hx hb dX4_goneBack_84 (lv_at hl 4 rfl) ?_
        obtain rfl := Option.some.inj hf
        exact hR _ _ _ _ hP hD hS dX4_goneBack_86
      · have hf := ifn c15 hf
        refine lv_aload_n hx hb dX4_goneBack_18 rfl (lv_at hl 0 rfl) ?_
        refine lv_iload_n hx hb dX4_goneBack_19 rfl (lv_at hl 2 rfl) ?_
        refine lv_iload hx hb dX4_goneBack_20 (lv_at hl 5 rfl) ?_
        obtain ⟨r22, hr22, hf⟩ := bd_s hf
        refine my_Vi (WS2 := (wd_X4_goneBack cy o_t o_t_play x_play_w x_play_h x_play_hands x_play_pressRow x_play_leftFrom x_play_leftTo x_waits x_lostRow)) ⟨hx, hb, hml, hown, hts⟩ (c_X4_waitOf l D cy t o_t o_t_play x_waits l2 l5 hr22) (cwV 2 hts gX4_goneBack_X4_waitOf rfl rfl rfl ⟨rfl, hd_X4_waitOf⟩ ⟨Nat.le_of_ble_eq_true rfl, Nat.le_of_ble_eq_true rfl⟩) hK hE hP hD hS hA [0, 5] 7 4 0 rfl rfl rfl rfl (by decide +kernel) rfl rfl hl.1 rfl (Nat.le_of_ble_eq_true rfl) dX4_goneBack_22 ⟨Nat.le_of_ble_eq_true rfl, Nat.le_of_ble_eq_true rfl⟩ (fun H locs hP hD hS => ?_)
        refine lv_istore (lv' := [(6, .int r22), (0, .ref (o_t 0)), (1, .int l1), (2, .int l2), (3, .int l3), (4, .int l4), (5, .int l5)]) hx hb dX4_goneBack_25 hl (by decide) rfl (fun ls hl => ?_)
        refine lv_iload_n hx hb dX4_goneBack_27 rfl (lv_at hl 4 rfl) ?_
        refine lv_iload_n hx hb dX4_goneBack_28 rfl (lv_at hl 2 rfl) ?_
        refine lv_iadd hx hb dX4_goneBack_29 ?_
        obtain ⟨v30, ev30, hf⟩ := nm_s hf
        refine my_topi ev30 ?_
        refine lv_istore (lv' := [(7, .int v30), (6, .int r22), (0, .ref (o_t 0)), (1, .int l1), (2, .int l2), (3, .int l3), (4, .int l4), (5, .int l5)]) hx hb dX4_goneBack_30 hl (by decide) rfl (fun ls hl => ?_)
        refine lv_iload hx hb dX4_goneBack_32 (lv_at hl 6 rfl) ?_
        refine lv_aload_n hx hb dX4_goneBack_34 rfl (lv_at hl 2 rfl) ?_
        refine lv_iload_n hx hb dX4_goneBack_35 rfl (lv_at hl 3 rfl) ?_
        refine lv_iload_n hx hb dX4_goneBack_36 rfl (lv_at hl 4 rfl) ?_
        refine lv_iload_n hx hb dX4_goneBack_37 rfl (lv_at hl 5 rfl) ?_
        refine lv_iload hx hb dX4_goneBack_38 (lv_at hl 7 rfl) ?_
        refine lv_iload hx hb dX4_goneBack_40 (lv_at hl 0 rfl) ?_
        refine lv_iload hx hb dX4_goneBack_42 (lv_at hl 1 rfl) ?_
        refine lv_isub hx hb dX4_goneBack_44 ?_
        obtain ⟨r45, hr45, hf⟩ := bd_s hf
        refine my_Vi (WS2 := (wd_X4_goneBack cy o_t o_t_play x_play_w x_play_h x_play_hands x_play_pressRow x_play_leftFrom x_play_leftTo x_waits x_lostRow)) ⟨hx, hb, hml, hown, hts⟩ (c_X4_backBy l D cy t o_t o_t_play x_play_w x_play_h x_play_hands x_play_pressRow x_play_leftFrom x_play_leftTo x_waits x_lostRow l1 l2 l3 l5 (v30 - r22) hr45) (cwV 5 hts gX4_goneBack_X4_backBy rfl rfl rfl ⟨rfl, hd_X4_backBy⟩ ⟨Nat.le_of_ble_eq_true rfl, Nat.le_of_ble_eq_true rfl⟩) hK hE hP hD hS hA [0, 1, 2, 3, 4, 5, 6] 7 4 0 rfl rfl rfl rfl (by decide +kernel) rfl rfl hl.1 rfl (Nat.le_of_ble_eq_true rfl) dX4_goneBack_45 ⟨Nat.le_of_ble_eq_true rfl, Nat.le_of_ble_eq_true rfl⟩ (fun H locs hP hD hS => ?_)
        refine va_mmax hx hb (hml.trans hl.1.symm) hown k4 k5 k6 k7 (Nat.le_of_ble_eq_true rfl) (Nat.le_of_ble_eq_true rfl) (Nat.le_of_ble_eq_true rfl) (Nat.le_of_ble_eq_true rfl) dX4_goneBack_48 ?_
        obtain ⟨v51, ev51, hf⟩ := nm_s hf
        refine my_topi ev51 ?_
        refine lv_istore (lv' := [(4, .int v51), (7, .int v30), (6, .int r22), (0, .ref (o_t 0)), (1, .int l1), (2, .int l2), (3, .int l3), (5, .int l5)]) hx hb dX4_goneBack_51 hl (by decide) rfl (fun ls hl => ?_)
        refine lv_iload hx hb dX4_goneBack_53 (lv_at hl 0 rfl) ?_
        refine lv_aload_n hx hb dX4_goneBack_55 rfl (lv_at hl 3 rfl) ?_
        refine lv_iload_n hx hb dX4_goneBack_56 rfl (lv_at hl 4 rfl) ?_
        refine lv_iload_n hx hb dX4_goneBack_57 rfl (lv_at hl 5 rfl) ?_
        refine lv_iload_n hx hb dX4_goneBack_58 rfl (lv_at hl 6 rfl) ?_
        refine lv_iload hx hb dX4_goneBack_59 (lv_at hl 7 rfl) ?_
        refine lv_iload hx hb dX4_goneBack_61 (lv_at hl 1 rfl) ?_
        refine lv_iconst (v := (3 : Int32)) hx hb dX4_goneBack_63 (by decide) ?_
        refine lv_iload hx hb dX4_goneBack_64 (lv_at hl 2 rfl) ?_
        refine lv_imul hx hb dX4_goneBack_66 ?_
        refine lv_isub hx hb dX4_goneBack_67 ?_
        refine lv_iconst (v := (1 : Int32)) hx hb dX4_goneBack_68 (by decide) ?_
        refine lv_isub hx hb dX4_goneBack_69 ?_
        obtain ⟨r70, hr70, hf⟩ := bd_s hf
        refine my_Vi (WS2 := (wd_X4_goneBack cy o_t o_t_play x_play_w x_play_h x_play_hands x_play_pressRow x_play_leftFrom x_play_leftTo x_waits x_lostRow)) ⟨hx, hb, hml, hown, hts⟩ (c_X4_backBy l D cy t o_t o_t_play x_play_w x_play_h x_play_hands x_play_pressRow x_play_leftFrom x_play_leftTo x_waits x_lostRow l1 l2 l3 l5 ((v30 - ((3 : Int32) * r22)) - (1 : Int32)) hr70) (cwV 5 hts gX4_goneBack_X4_backBy rfl rfl rfl ⟨rfl, hd_X4_backBy⟩ ⟨Nat.le_of_ble_eq_true rfl, Nat.le_of_ble_eq_true rfl⟩) hK hE hP hD hS hA [0, 1, 2, 3, 4, 5, 6] 7 4 0 rfl rfl rfl rfl (by decide +kernel) rfl rfl hl.1 rfl (Nat.le_of_ble_eq_true rfl) dX4_goneBack_70 ⟨Nat.le_of_ble_eq_true rfl, Nat.le_of_ble_eq_true rfl⟩ (fun H locs hP hD hS => ?_)
        refine va_mmax hx hb (hml.trans hl.1.symm) hown k4 k5 k6 k7 (Nat.le_of_ble_eq_true rfl) (Nat.le_of_ble_eq_true rfl) (Nat.le_of_ble_eq_true rfl) (Nat.le_of_ble_eq_true rfl) dX4_goneBack_73 ?_
        obtain ⟨v76, ev76, hf⟩ := nm_s hf
        refine my_topi ev76 ?_
        refine lv_istore (lv' := [(4, .int v76), (7, .int v30), (6, .int r22), (0, .ref (o_t 0)), (1, .int l1), (2, .int l2), (3, .int l3), (5, .int l5)]) hx hb dX4_goneBack_76 hl (by decide) rfl (fun ls hl => ?_)
        obtain ⟨v78, ev78, hf⟩ := nm_s hf
        refine lv_iinc (v := v78) (lv' := [(5, .int v78), (4, .int v76), (7, .int v30), (6, .int r22), (0, .ref (o_t 0)), (1, .int l1), (2, .int l2), (3, .int l3)]) hx hb dX4_goneBack_78 hl (k := 7) rfl (by rw [ev78]; rfl) (by decide) rfl (fun ls hl => ?_)
        refine lv_goto (tgt := 6) hx hb dX4_goneBack_81 (by decide) ?_
        exact ih6 _ _ _ _ _ _ _ _ hf hP hD hS (lv_sub hl [4, 5, 6, 7, 1, 0] rfl)
  refine lv_iconst (v := (0 : Int32)) hx hb dX4_goneBack_0 (by decide) ?_
  refine lv_istore (lv' := [(4, .int (0 : Int32)), (0, .ref (o_t 0)), (1, .int p1), (2, .int p2), (3, .int p3)]) hx hb dX4_goneBack_1 hl (by decide) rfl (fun ls hl => ?_)
  refine lv_iconst (v := (0 : Int32)) hx hb dX4_goneBack_3 (by decide) ?_
  refine lv_istore (lv' := [(5, .int (0 : Int32)), (4, .int (0 : Int32)), (0, .ref (o_t 0)), (1, .int p1), (2, .int p2), (3, .int p3)]) hx hb dX4_goneBack_4 hl (by decide) rfl (fun ls hl => ?_)
  exact h6 FU _ _ _ _ _ _ _ _ hf hP hD hS (lv_sub hl [2, 3, 4, 5, 1, 0] rfl)
theorem hd_X4_goneBack : yX4_goneBack.cls ≠ "java/lang/invoke/MethodHandle" ∧ yX4_goneBack.cls ≠ "java/lang/invoke/VarHandle" ∧ (parseMethodDescriptor yX4_goneBack.desc).map (fun d => d.parameters.length) = some 3 := by decide +kernel
set_option maxRecDepth 100000 in
theorem c_X4_goneBack (l : Launch) (D : va_G) (cy : Nat → ClassId) (t : Nat → Nat) (o_t o_t_play : Nat → Nat) (x_play_w : Int32) (x_play_h : Int32) (x_play_hands : Int32) (x_play_pressRow : Nat → Int32) (x_play_leftFrom : Nat → Int32) (x_play_leftTo : Nat → Int32) (x_waits : Nat → Int32) (x_lostRow : Nat → Int32) (p1 : Int32) (p2 : Int32) (p3 : Int32) {out : Int32} (hf : X4_goneBack x_play_hands x_play_pressRow x_play_leftFrom x_play_leftTo x_waits x_lostRow p1 p2 p3 = some out) : ctI l yX4_goneBack wsX4_goneBack 4 103 D cy t [.ref (o_t 0), .int p1, .int p2, .int p3] (wd_X4_goneBack cy o_t o_t_play x_play_w x_play_h x_play_hands x_play_pressRow x_play_leftFrom x_play_leftTo x_waits x_lostRow) (wd_X4_goneBack cy o_t o_t_play x_play_w x_play_h x_play_hands x_play_pressRow x_play_leftFrom x_play_leftTo x_waits x_lostRow) out := by
  refine ⟨rfl, ?_⟩
  intro sz
  refine Met.ofW (cc := cX4_goneBack) (maxL := 8) (ret := (some .int)) (by decide) rfl ?_
  intro p e s m args below meth c s₁ B hml hv
  obtain ⟨rfl, hsz, hP, hK, hD0, hE⟩ := hv
  have hts := atoms_spec (ws := wsX4_goneBack) B.pre
  have hown : s.vm.findClass RX4 = some m.cls := findClass_of_methodNamed B.named
  have hlocks := B.notSynchronized
  subst hsz
  have hD := hD0.self (sz := s.heap.size)
  have hl := lv_entry ([.ref (o_t 0), .int p1, .int p2, .int p3]) (n := 8) (Nat.le_of_ble_eq_true rfl)
  rw [lg_entry_eq]
  generalize (lg_sl ([.ref (o_t 0), .int p1, .int p2, .int p3]) ++ List.replicate (8 - (lg_sl ([.ref (o_t 0), .int p1, .int p2, .int p3])).length) Slot.unset).toArray = ls at hl ⊢
  exact w_X4_goneBack D cy t o_t o_t_play x_play_w x_play_h x_play_hands x_play_pressRow x_play_leftFrom x_play_leftTo x_waits x_lostRow p1 p2 p3 hf B.exec B.bytes hml hown hts hK hE (fun q h => Or.inr h) hP hD va_S.rf hl (fun H locs ls pc hP hD hS hdg => W.iret B.exec B.bytes B.returns (fun t ht hW => ⟨⟨_, (), rfl, rfl, ctB_of ht hP⟩, hS.F ht⟩) hS.2.2 hdg)

noncomputable def X3_setOnly (x_masks : Nat → Int32) (p1 : Int32) : Option ((Nat → Int32)) :=
  bd (J7_fill_53178 9 x_masks (0 : Int32)) fun r5 => bd (X7_yOf p1) fun r13 => bd (X7_xOf p1) fun r18 => wrI r5 9 r13 ((1 : Int32) <<< (r18 &&& (31 : Int32))) fun w22 => some w22
abbrev wd_X3_setOnly (cy : Nat → ClassId) (o_t : Nat → Nat) (x_masks : Nat → Int32) : va_W := [(o_t 0, .inr (3, [.ref (o_t 1)])), (o_t 1, .inl (cy 0, 9, .inl x_masks))]
set_option maxHeartbeats 4000000 in
set_option maxRecDepth 100000 in
theorem w_X3_setOnly {p : Program} {l : Launch} {e : Env} {s : State} {m : MethodId} {args : Array Value} {below : List Frame} {meth : Method} {c : Code} {Q : State → Prop} {A : Nat → Prop} {H : Heap} {locs : List Loc} {ls : Array Slot} (D : va_G) (cy : Nat → ClassId) (t : Nat → Nat) (o_t : Nat → Nat) (x_masks : Nat → Int32) (p1 : Int32) {out : (Nat → Int32)} (hf : X3_setOnly x_masks p1 = some out) (hx : p.tables.exec = Jvm.exec) (hb : c.code = cX3_setOnly) (hml : c.maxLocals = 2) (hown : s.vm.findClass RX3 = some m.cls) (hts : ∀ w ∈ wsX3_setOnly, w.before args s = true) (hK : va_K D vwCl (TYS cy) s) (hE : EV t A s s.heap) (hA : ∀ q, s.heap.size ≤ q → A q) (hP : va_P D vwCl (wd_X3_setOnly cy o_t x_masks) H) (hD : va_D A (wd_X3_setOnly cy o_t x_masks)) (hS : va_S A s.heap H locs) (hl : lv_has ls 2 [(0, .ref (o_t 0)), (1, .int p1)]) (hR : ∀ (H : Heap) (locs : List Loc) (ls : Array Slot) (pc : Nat), va_P D vwCl (wd_X3_setOnly cy o_t out) H → va_D A (wd_X3_setOnly cy o_t out) → va_S A s.heap H locs → decode cX3_setOnly pc = .ok (.return_, 1) → W p l e (rmm 1 23) s m args below meth c H locs 0 0 Q (F0 m pc ls [])) : W p l e (rmm 1 23) s m args below meth c H locs 0 0 Q (F0 m 0 ls []) := by
  have k0 := hts (.fieldLink RX3 9 "SeaGames$Fog" "masks" "[I") (List.mem_cons_of_mem _ (List.mem_append_left _ (List.mem_of_getElem? (i := 0) rfl)))
  have k1 : ∀ w ∈ u_ws RX3 TX3 1, w ∈ wsX3_setOnly := fun _ h => List.mem_cons_of_mem _ (List.mem_append_right _ h)
  have k2 := hts (.initialized RX7) (List.mem_cons_of_mem _ (List.mem_append_left _ (List.mem_of_getElem? (i := 6) rfl)))
  have k3 := hts (.static yX7_yOf) (List.mem_cons_of_mem _ (List.mem_append_left _ (List.mem_of_getElem? (i := 5) rfl)))
  have k4 := hts (.static yX7_xOf) (List.mem_cons_of_mem _ (List.mem_append_left _ (List.mem_of_getElem? (i := 8) rfl)))
  rw [X3_setOnly] at hf
  refine lv_aload_n hx hb dX3_setOnly_0 rfl (lv_at hl 0 rfl) ?_
  refine va_get (D := D) (ci := 3) (v := .ref (o_t 1)) (C := RX3) (T := TX3) (N := 1) hx hb hts k1 hown hK hP 0 rfl rfl 0 (by decide) k0 (fun _ h9 => h9) rfl dX3_setOnly_1 ?_
  refine lv_iconst (v := (0 : Int32)) hx hb dX3_setOnly_4 (by decide) ?_
  obtain ⟨r5, hr5, hf⟩ := bd_s hf
  refine my_Sv (WS2 := (wd_X3_setOnly cy o_t r5)) ⟨hx, hb, hml, hown, hts⟩ (c_J7_fill_53178 l D cy t (o_t 1) 9 x_masks (0 : Int32) hr5) (va_cwS 2 hts gX3_setOnly_J7_fill_53178 rfl rfl rfl hd_J7_fill_53178 ⟨Nat.le_of_ble_eq_true rfl, Nat.le_of_ble_eq_true rfl⟩) hK hE hP hD hS hA [1] 2 rfl rfl (by decide +kernel) rfl rfl hl.1 rfl (Nat.le_of_ble_eq_true rfl) dX3_setOnly_5 ⟨Nat.le_of_ble_eq_true rfl, Nat.le_of_ble_eq_true rfl⟩ (fun H locs hP hD hS => ?_)
  refine lv_aload_n hx hb dX3_setOnly_8 rfl (lv_at hl 0 rfl) ?_
  refine va_get (D := D) (ci := 3) (v := .ref (o_t 1)) (C := RX3) (T := TX3) (N := 1) hx hb hts k1 hown hK hP 0 rfl rfl 0 (by decide) k0 (fun _ h9 => h9) rfl dX3_setOnly_9 ?_
  refine lv_iload_n hx hb dX3_setOnly_12 rfl (lv_at hl 1 rfl) ?_
  obtain ⟨r13, hr13, hf⟩ := bd_s hf
  refine my_Ni (WS2 := (wd_X3_setOnly cy o_t r5)) (host := RX7) ⟨hx, hb, hml, hown, hts⟩ (c_X7_yOf l D cy t p1 hr13) (va_cnB 1 hts gX3_setOnly_X7_yOf_n21 rfl rfl rfl (ev_n10 hE) k2 hd_X7_yOf ⟨Nat.le_of_ble_eq_true rfl, Nat.le_of_ble_eq_true rfl⟩) k3 hK hE hP hD hS hA [] 2 rfl rfl (by decide +kernel) rfl rfl hl.1 rfl (Nat.le_of_ble_eq_true rfl) dX3_setOnly_13 ⟨Nat.le_of_ble_eq_true rfl, Nat.le_of_ble_eq_true rfl⟩ (fun H locs hP hD hS => ?_)
  refine lv_iconst (v := (1 : Int32)) hx hb dX3_setOnly_16 (by decide) ?_
  refine lv_iload_n hx hb dX3_setOnly_17 rfl (lv_at hl 1 rfl) ?_
  obtain ⟨r18, hr18, hf⟩ := bd_s hf
  refine my_Ni (WS2 := (wd_X3_setOnly cy o_t r5)) (host := RX7) ⟨hx, hb, hml, hown, hts⟩ (c_X7_xOf l D cy t p1 hr18) (va_cnB 1 hts gX3_setOnly_X7_xOf_n25 rfl rfl rfl (ev_n11 hE) k2 hd_X7_xOf ⟨Nat.le_of_ble_eq_true rfl, Nat.le_of_ble_eq_true rfl⟩) k4 hK hE hP hD hS hA [] 2 rfl rfl (by decide +kernel) rfl rfl hl.1 rfl (Nat.le_of_ble_eq_true rfl) dX3_setOnly_18 ⟨Nat.le_of_ble_eq_true rfl, Nat.le_of_ble_eq_true rfl⟩ (fun H locs hP hD hS => ?_)
  refine lv_ishl hx hb dX3_setOnly_21 ?_
  obtain ⟨w22, b22, ew22, hf⟩ := wrI_s hf
  refine my_iast (ws2 := (wd_X3_setOnly cy o_t w22)) hx hb hK hP hD hS 1 rfl b22 ew22 rfl dX3_setOnly_22 (fun H locs hP hD hS => ?_)
  obtain rfl := Option.some.inj hf
  exact hR _ _ _ _ hP hD hS dX3_setOnly_23
theorem hd_X3_setOnly : yX3_setOnly.cls ≠ "java/lang/invoke/MethodHandle" ∧ yX3_setOnly.cls ≠ "java/lang/invoke/VarHandle" ∧ (parseMethodDescriptor yX3_setOnly.desc).map (fun d => d.parameters.length) = some 1 := by decide +kernel
set_option maxRecDepth 100000 in
theorem c_X3_setOnly (l : Launch) (D : va_G) (cy : Nat → ClassId) (t : Nat → Nat) (o_t : Nat → Nat) (x_masks : Nat → Int32) (p1 : Int32) {out : (Nat → Int32)} (hf : X3_setOnly x_masks p1 = some out) : ctV l yX3_setOnly wsX3_setOnly 1 23 D cy t [.ref (o_t 0), .int p1] (wd_X3_setOnly cy o_t x_masks) (wd_X3_setOnly cy o_t out) := by
  refine ⟨rfl, ?_⟩
  intro sz
  refine Met.ofW (cc := cX3_setOnly) (maxL := 2) (ret := none) (by decide) rfl ?_
  intro p e s m args below meth c s₁ B hml hv
  obtain ⟨rfl, hsz, hP, hK, hD0, hE⟩ := hv
  have hts := atoms_spec (ws := wsX3_setOnly) B.pre
  have hown : s.vm.findClass RX3 = some m.cls := findClass_of_methodNamed B.named
  have hlocks := B.notSynchronized
  subst hsz
  have hD := hD0.self (sz := s.heap.size)
  have hl := lv_entry ([.ref (o_t 0), .int p1]) (n := 2) (Nat.le_of_ble_eq_true rfl)
  rw [lg_entry_eq]
  generalize (lg_sl ([.ref (o_t 0), .int p1]) ++ List.replicate (2 - (lg_sl ([.ref (o_t 0), .int p1])).length) Slot.unset).toArray = ls at hl ⊢
  exact w_X3_setOnly D cy t o_t x_masks p1 hf B.exec B.bytes hml hown hts hK hE (fun q h => Or.inr h) hP hD va_S.rf hl (fun H locs ls pc hP hD hS hdg => W.vret B.exec B.bytes B.returns (fun t ht hW => ⟨⟨(), rfl, trivial, ctB_of ht hP⟩, hS.F ht⟩) hS.2.2 hdg)

noncomputable def X3_has (x_masks : Nat → Int32) (p1 : Int32) : Option (Int32) :=
  bd (X7_yOf p1) fun r5 => rd x_masks 9 r5 fun v8 => bd (X7_xOf p1) fun r10 => if ((v8 >>> (r10 &&& (31 : Int32))) &&& (1 : Int32)) = (1 : Int32) then (zb (1 : Int32) <| some (1 : Int32)) else (zb (0 : Int32) <| some (0 : Int32))
abbrev wd_X3_has (cy : Nat → ClassId) (o_t : Nat → Nat) (x_masks : Nat → Int32) : va_W := [(o_t 0, .inr (3, [.ref (o_t 1)])), (o_t 1, .inl (cy 0, 9, .inl x_masks))]
set_option maxHeartbeats 4000000 in
set_option maxRecDepth 100000 in
theorem w_X3_has {p : Program} {l : Launch} {e : Env} {s : State} {m : MethodId} {args : Array Value} {below : List Frame} {meth : Method} {c : Code} {Q : State → Prop} {A : Nat → Prop} {H : Heap} {locs : List Loc} {ls : Array Slot} (D : va_G) (cy : Nat → ClassId) (t : Nat → Nat) (o_t : Nat → Nat) (x_masks : Nat → Int32) (p1 : Int32) {out : Int32} (hf : X3_has x_masks p1 = some out) (hx : p.tables.exec = Jvm.exec) (hb : c.code = cX3_has) (hml : c.maxLocals = 2) (hown : s.vm.findClass RX3 = some m.cls) (hts : ∀ w ∈ wsX3_has, w.before args s = true) (hK : va_K D vwCl (TYS cy) s) (hE : EV t A s s.heap) (hA : ∀ q, s.heap.size ≤ q → A q) (hP : va_P D vwCl (wd_X3_has cy o_t x_masks) H) (hD : va_D A (wd_X3_has cy o_t x_masks)) (hS : va_S A s.heap H locs) (hl : lv_has ls 2 [(0, .ref (o_t 0)), (1, .int p1)]) (hR : ∀ (H : Heap) (locs : List Loc) (ls : Array Slot) (pc : Nat), va_P D vwCl (wd_X3_has cy o_t x_masks) H → va_D A (wd_X3_has cy o_t x_masks) → va_S A s.heap H locs → narrow .boolean (.int out) = .int out → decode cX3_has pc = .ok (.ireturn, 1) → W p l e (rmm 1 20) s m args below meth c H locs 0 0 Q (F0 m pc ls [.int out])) : W p l e (rmm 1 20) s m args below meth c H locs 0 0 Q (F0 m 0 ls []) := by
  have k0 := hts (.fieldLink RX3 9 "SeaGames$Fog" "masks" "[I") (List.mem_cons_of_mem _ (List.mem_append_left _ (List.mem_of_getElem? (i := 0) rfl)))
  have k1 : ∀ w ∈ u_ws RX3 TX3 1, w ∈ wsX3_has := fun _ h => List.mem_cons_of_mem _ (List.mem_append_right _ h)
  have k2 := hts (.initialized RX7) (List.mem_cons_of_mem _ (List.mem_append_left _ (List.mem_of_getElem? (i := 2) rfl)))
  have k3 := hts (.static yX7_yOf) (List.mem_cons_of_mem _ (List.mem_append_left _ (List.mem_of_getElem? (i := 1) rfl)))
  have k4 := hts (.static yX7_xOf) (List.mem_cons_of_mem _ (List.mem_append_left _ (List.mem_of_getElem? (i := 4) rfl)))
  rw [X3_has] at hf
  refine lv_aload_n hx hb dX3_has_0 rfl (lv_at hl 0 rfl) ?_
  refine va_get (D := D) (ci := 3) (v := .ref (o_t 1)) (C := RX3) (T := TX3) (N := 1) hx hb hts k1 hown hK hP 0 rfl rfl 0 (by decide) k0 (fun _ h9 => h9) rfl dX3_has_1 ?_
  refine lv_iload_n hx hb dX3_has_4 rfl (lv_at hl 1 rfl) ?_
  obtain ⟨r5, hr5, hf⟩ := bd_s hf
  refine my_Ni (WS2 := (wd_X3_has cy o_t x_masks)) (host := RX7) ⟨hx, hb, hml, hown, hts⟩ (c_X7_yOf l D cy t p1 hr5) (va_cnB 1 hts gX3_has_X7_yOf_n21 rfl rfl rfl (ev_n10 hE) k2 hd_X7_yOf ⟨Nat.le_of_ble_eq_true rfl, Nat.le_of_ble_eq_true rfl⟩) k3 hK hE hP hD hS hA [] 2 rfl rfl (by decide +kernel) rfl rfl hl.1 rfl (Nat.le_of_ble_eq_true rfl) dX3_has_5 ⟨Nat.le_of_ble_eq_true rfl, Nat.le_of_ble_eq_true rfl⟩ (fun H locs hP hD hS => ?_)
  obtain ⟨v8, b8, ev8, hf⟩ := rd_s hf
  refine my_iald hx hb hK hP 1 rfl b8 ev8 dX3_has_8 ?_
  refine lv_iload_n hx hb dX3_has_9 rfl (lv_at hl 1 rfl) ?_
  obtain ⟨r10, hr10, hf⟩ := bd_s hf
  refine my_Ni (WS2 := (wd_X3_has cy o_t x_masks)) (host := RX7) ⟨hx, hb, hml, hown, hts⟩ (c_X7_xOf l D cy t p1 hr10) (va_cnB 1 hts gX3_has_X7_xOf_n25 rfl rfl rfl (ev_n11 hE) k2 hd_X7_xOf ⟨Nat.le_of_ble_eq_true rfl, Nat.le_of_ble_eq_true rfl⟩) k4 hK hE hP hD hS hA [] 2 rfl rfl (by decide +kernel) rfl rfl hl.1 rfl (Nat.le_of_ble_eq_true rfl) dX3_has_10 ⟨Nat.le_of_ble_eq_true rfl, Nat.le_of_ble_eq_true rfl⟩ (fun H locs hP hD hS => ?_)
  refine lv_ishr hx hb dX3_has_13 ?_
  refine lv_iconst (v := (1 : Int32)) hx hb dX3_has_14 (by decide) ?_
  refine lv_iand hx hb dX3_has_15 ?_
  refine lv_iconst (v := (1 : Int32)) hx hb dX3_has_16 (by decide) ?_
  refine lv_icmp_ne (tgt := 24) hx hb dX3_has_17 (by decide) (fun c17 => ?_) (fun c17 => ?_)
  · have hf := ifn c17 hf
    refine lv_iconst (v := (0 : Int32)) hx hb dX3_has_24 (by decide) ?_
    obtain ⟨z25, hf⟩ := zb_s hf
    obtain rfl := Option.some.inj hf
    exact hR _ _ _ _ hP hD hS z25 dX3_has_25
  · have hf := ifp c17 hf
    refine lv_iconst (v := (1 : Int32)) hx hb dX3_has_20 (by decide) ?_
    refine lv_goto (tgt := 25) hx hb dX3_has_21 (by decide) ?_
    obtain ⟨z25, hf⟩ := zb_s hf
    obtain rfl := Option.some.inj hf
    exact hR _ _ _ _ hP hD hS z25 dX3_has_25
theorem hd_X3_has : yX3_has.cls ≠ "java/lang/invoke/MethodHandle" ∧ yX3_has.cls ≠ "java/lang/invoke/VarHandle" ∧ (parseMethodDescriptor yX3_has.desc).map (fun d => d.parameters.length) = some 1 := by decide +kernel
set_option maxRecDepth 100000 in
theorem c_X3_has (l : Launch) (D : va_G) (cy : Nat → ClassId) (t : Nat → Nat) (o_t : Nat → Nat) (x_masks : Nat → Int32) (p1 : Int32) {out : Int32} (hf : X3_has x_masks p1 = some out) : ctI l yX3_has wsX3_has 1 20 D cy t [.ref (o_t 0), .int p1] (wd_X3_has cy o_t x_masks) (wd_X3_has cy o_t x_masks) out := by
  refine ⟨rfl, ?_⟩
  intro sz
  refine Met.ofW (cc := cX3_has) (maxL := 2) (ret := (some .boolean)) (by decide) rfl ?_
  intro p e s m args below meth c s₁ B hml hv
  obtain ⟨rfl, hsz, hP, hK, hD0, hE⟩ := hv
  have hts := atoms_spec (ws := wsX3_has) B.pre
  have hown : s.vm.findClass RX3 = some m.cls := findClass_of_methodNamed B.named
  have hlocks := B.notSynchronized
  subst hsz
  have hD := hD0.self (sz := s.heap.size)
  have hl := lv_entry ([.ref (o_t 0), .int p1]) (n := 2) (Nat.le_of_ble_eq_true rfl)
  rw [lg_entry_eq]
  generalize (lg_sl ([.ref (o_t 0), .int p1]) ++ List.replicate (2 - (lg_sl ([.ref (o_t 0), .int p1])).length) Slot.unset).toArray = ls at hl ⊢
  exact w_X3_has D cy t o_t x_masks p1 hf B.exec B.bytes hml hown hts hK hE (fun q h => Or.inr h) hP hD va_S.rf hl (fun H locs ls pc hP hD hS z hdg => W.zret B.exec B.bytes B.returns z (fun t ht hW => ⟨⟨_, (), rfl, rfl, ctB_of ht hP⟩, hS.F ht⟩) hS.2.2 hdg)

noncomputable def X3_size_L4_B (x_masks : Nat → Int32) (rec4 : Int32 → Int32 → Int32 → Option (Int32)) (l1 : Int32) (l2 : Int32) (l3 : Int32) : Option (Int32) :=
  if l1 ≤ l3 then (some l2) else (rd x_masks 9 l3 fun v15 => bd (J6_bitCount_0f7a4 v15) fun r16 => nm (l2 + r16) fun v20 => nm (l3 + (1 : Int32)) fun v21 => rec4  l1 v20 v21)
noncomputable def X3_size_L4 (x_masks : Nat → Int32) : Nat → Int32 → Int32 → Int32 → Option (Int32)
  | 0, _, _, _ => none
  | n + 1, y0, y1, y2 => X3_size_L4_B x_masks  (X3_size_L4 x_masks  n) y0 y1 y2
noncomputable def X3_size (x_masks : Nat → Int32) (p1 : Int32) : Option (Int32) :=
  X3_size_L4 x_masks  FU  p1 (0 : Int32) (0 : Int32)
abbrev wd_X3_size (cy : Nat → ClassId) (o_t : Nat → Nat) (x_masks : Nat → Int32) : va_W := [(o_t 0, .inr (3, [.ref (o_t 1)])), (o_t 1, .inl (cy 0, 9, .inl x_masks))]
set_option maxHeartbeats 4000000 in
set_option maxRecDepth 100000 in
theorem w_X3_size {p : Program} {l : Launch} {e : Env} {s : State} {m : MethodId} {args : Array Value} {below : List Frame} {meth : Method} {c : Code} {Q : State → Prop} {A : Nat → Prop} {H : Heap} {locs : List Loc} {ls : Array Slot} (D : va_G) (cy : Nat → ClassId) (t : Nat → Nat) (o_t : Nat → Nat) (x_masks : Nat → Int32) (p1 : Int32) {out : Int32} (hf : X3_size x_masks p1 = some out) (hx : p.tables.exec = Jvm.exec) (hb : c.code = cX3_size) (hml : c.maxLocals = 4) (hown : s.vm.findClass RX3 = some m.cls) (hts : ∀ w ∈ wsX3_size, w.before args s = true) (hK : va_K D vwCl (TYS cy) s) (hE : EV t A s s.heap) (hA : ∀ q, s.heap.size ≤ q → A q) (hP : va_P D vwCl (wd_X3_size cy o_t x_masks) H) (hD : va_D A (wd_X3_size cy o_t x_masks)) (hS : va_S A s.heap H locs) (hl : lv_has ls 4 [(0, .ref (o_t 0)), (1, .int p1)]) (hR : ∀ (H : Heap) (locs : List Loc) (ls : Array Slot) (pc : Nat), va_P D vwCl (wd_X3_size cy o_t x_masks) H → va_D A (wd_X3_size cy o_t x_masks) → va_S A s.heap H locs → decode cX3_size pc = .ok (.ireturn, 1) → W p l e (rmm 1 20) s m args below meth c H locs 0 0 Q (F0 m pc ls [.int out])) : W p l e (rmm 1 20) s m args below meth c H locs 0 0 Q (F0 m 0 ls []) := by
  have k0 := hts (.fieldLink RX3 9 "SeaGames$Fog" "masks" "[I") (List.mem_cons_of_mem _ (List.mem_append_left _ (List.mem_of_getElem? (i := 0) rfl)))
  have k1 : ∀ w ∈ u_ws RX3 TX3 1, w ∈ wsX3_size := fun _ h => List.mem_cons_of_mem _ (List.mem_append_right _ h)
  rw [X3_size] at hf
  have h4 : ∀ (n4 : Nat) (l1 : Int32) (l2 : Int32) (l3 : Int32) (H : Heap) (locs : List Loc) (ls : Array Slot), X3_size_L4 x_masks n4 l1 l2 l3 = some out → va_P D vwCl (wd_X3_size cy o_t x_masks) H → va_D A (wd_X3_size cy o_t x_masks) → va_S A s.heap H locs → lv_has ls 4 [(0, .ref (o_t 0)), (1, .int l1), (2, .int l2), (3, .int l3)] → W p l e (rmm 1 20) s m args below meth c H locs 0 0 Q (F0 m 4 ls []) := by
    intro n4
    induction n4 with
    | zero =>
      intro _ _ _ _ _ _ hf
      exact nomatch (show (none : Option _) = some out from hf)
    | succ n4 ih4 =>
      intro l1 l2 l3 H locs ls hf hP hD hS hl
      have hf : X3_size_L4_B x_masks (X3_size_L4 x_masks n4) l1 l2 l3 = some out := hf
      rw [X3_size_L4_B] at hf
      refine lv_iload_n hx hb dX3_size_4 rfl (lv_at hl 3 rfl) ?_
      refine lv_iload_n hx hb dX3_size_5 rfl (lv_at hl 1 rfl) ?_
      refine lv_icmp_ge (tgt := 27) hx hb dX3_size_6 (by decide) (fun c6 => ?_) (fun c6 => ?_)
      · have hf := ifp c6 hf
        refine lv_iload_n hx hb dX3_size_27 rfl (lv_at hl 2 rfl) ?_
        obtain rfl := Option.some.inj hf
        exact hR _ _ _ _ hP hD hS dX3_size_28
      · have hf := ifn c6 hf
        refine lv_iload_n hx hb dX3_size_9 rfl (lv_at hl 2 rfl) ?_
        refine lv_aload_n hx hb dX3_size_10 rfl (lv_at hl 0 rfl) ?_
        refine va_get (D := D) (ci := 3) (v := .ref (o_t 1)) (C := RX3) (T := TX3) (N := 1) hx hb hts k1 hown hK hP 0 rfl rfl 0 (by decide) k0 (fun _ h9 => h9) rfl dX3_size_11 ?_
        refine lv_iload_n hx hb dX3_size_14 rfl (lv_at hl 3 rfl) ?_
        obtain ⟨v15, b15, ev15, hf⟩ := rd_s hf
        refine my_iald hx hb hK hP 1 rfl b15 ev15 dX3_size_15 ?_
        obtain ⟨r16, hr16, hf⟩ := bd_s hf
        refine my_Si (WS2 := (wd_X3_size cy o_t x_masks)) ⟨hx, hb, hml, hown, hts⟩ (c_J6_bitCount_0f7a4 l D cy t v15 hr16) (va_cwS 1 hts gX3_size_J6_bitCount_0f7a4 rfl rfl rfl hd_J6_bitCount_0f7a4 ⟨Nat.le_of_ble_eq_true rfl, Nat.le_of_ble_eq_true rfl⟩) hK hE hP hD hS hA [] 2 rfl rfl (by decide +kernel) rfl rfl hl.1 rfl (Nat.le_of_ble_eq_true rfl) dX3_size_16 ⟨Nat.le_of_ble_eq_true rfl, Nat.le_of_ble_eq_true rfl⟩ (fun H locs hP hD hS => ?_)
        refine lv_iadd hx hb dX3_size_19 ?_
        obtain ⟨v20, ev20, hf⟩ := nm_s hf
        refine my_topi ev20 ?_
        refine lv_istore_n (lv' := [(2, .int v20), (0, .ref (o_t 0)), (1, .int l1), (3, .int l3)]) hx hb dX3_size_20 rfl hl (by decide) rfl (fun ls hl => ?_)
        obtain ⟨v21, ev21, hf⟩ := nm_s hf
        refine lv_iinc (v := v21) (lv' := [(3, .int v21), (2, .int v20), (0, .ref (o_t 0)), (1, .int l1)]) hx hb dX3_size_21 hl (k := 3) rfl (by rw [ev21]; rfl) (by decide) rfl (fun ls hl => ?_)
        refine lv_goto (tgt := 4) hx hb dX3_size_24 (by decide) ?_
        exact ih4 _ _ _ _ _ _ hf hP hD hS (lv_sub hl [2, 3, 1, 0] rfl)
  refine lv_iconst (v := (0 : Int32)) hx hb dX3_size_0 (by decide) ?_
  refine lv_istore_n (lv' := [(2, .int (0 : Int32)), (0, .ref (o_t 0)), (1, .int p1)]) hx hb dX3_size_1 rfl hl (by decide) rfl (fun ls hl => ?_)
  refine lv_iconst (v := (0 : Int32)) hx hb dX3_size_2 (by decide) ?_
  refine lv_istore_n (lv' := [(3, .int (0 : Int32)), (2, .int (0 : Int32)), (0, .ref (o_t 0)), (1, .int p1)]) hx hb dX3_size_3 rfl hl (by decide) rfl (fun ls hl => ?_)
  exact h4 FU _ _ _ _ _ _ hf hP hD hS (lv_sub hl [2, 3, 1, 0] rfl)
theorem hd_X3_size : yX3_size.cls ≠ "java/lang/invoke/MethodHandle" ∧ yX3_size.cls ≠ "java/lang/invoke/VarHandle" ∧ (parseMethodDescriptor yX3_size.desc).map (fun d => d.parameters.length) = some 1 := by decide +kernel
set_option maxRecDepth 100000 in
theorem c_X3_size (l : Launch) (D : va_G) (cy : Nat → ClassId) (t : Nat → Nat) (o_t : Nat → Nat) (x_masks : Nat → Int32) (p1 : Int32) {out : Int32} (hf : X3_size x_masks p1 = some out) : ctI l yX3_size wsX3_size 1 20 D cy t [.ref (o_t 0), .int p1] (wd_X3_size cy o_t x_masks) (wd_X3_size cy o_t x_masks) out := by
  refine ⟨rfl, ?_⟩
  intro sz
  refine Met.ofW (cc := cX3_size) (maxL := 4) (ret := (some .int)) (by decide) rfl ?_
  intro p e s m args below meth c s₁ B hml hv
  obtain ⟨rfl, hsz, hP, hK, hD0, hE⟩ := hv
  have hts := atoms_spec (ws := wsX3_size) B.pre
  have hown : s.vm.findClass RX3 = some m.cls := findClass_of_methodNamed B.named
  have hlocks := B.notSynchronized
  subst hsz
  have hD := hD0.self (sz := s.heap.size)
  have hl := lv_entry ([.ref (o_t 0), .int p1]) (n := 4) (Nat.le_of_ble_eq_true rfl)
  rw [lg_entry_eq]
  generalize (lg_sl ([.ref (o_t 0), .int p1]) ++ List.replicate (4 - (lg_sl ([.ref (o_t 0), .int p1])).length) Slot.unset).toArray = ls at hl ⊢
  exact w_X3_size D cy t o_t x_masks p1 hf B.exec B.bytes hml hown hts hK hE (fun q h => Or.inr h) hP hD va_S.rf hl (fun H locs ls pc hP hD hS hdg => W.iret B.exec B.bytes B.returns (fun t ht hW => ⟨⟨_, (), rfl, rfl, ctB_of ht hP⟩, hS.F ht⟩) hS.2.2 hdg)

noncomputable def X3_spread_J48 (rec12 : (Nat → Int32) → Int32 → Int32 → Int32 → Int32 → Option ((Nat → Int32))) (x_masks : Nat → Int32) (l2 : Int32) (l3 : Int32) (l4 : Int32) (l5 : Int32) (l6 : Int32) (s0 : Int32) : Option ((Nat → Int32)) :=
  wrI x_masks 9 l5 (((((l6 ||| (l6 <<< ((1 : Int32) &&& (31 : Int32)))) ||| (l6 >>> ((1 : Int32) &&& (31 : Int32)))) ||| l4) ||| s0) &&& l3) fun w76 => nm (l5 + (1 : Int32)) fun v81 => rec12 w76 l2 l3 l6 v81
noncomputable def X3_spread_L12_B (rec12 : (Nat → Int32) → Int32 → Int32 → Int32 → Int32 → Option ((Nat → Int32))) (x_masks : Nat → Int32) (l2 : Int32) (l3 : Int32) (l4 : Int32) (l5 : Int32) : Option ((Nat → Int32)) :=
  if l2 ≤ l5 then (some x_masks) else (rd x_masks 9 l5 fun v24 => if l2 ≤ (l5 + (1 : Int32)) then (X3_spread_J48 rec12 x_masks l2 l3 l4 l5 v24 (0 : Int32)) else (rd x_masks 9 (l5 + (1 : Int32)) fun v43 => X3_spread_J48 rec12 x_masks l2 l3 l4 l5 v24 v43))
noncomputable def X3_spread_L12 : Nat → (Nat → Int32) → Int32 → Int32 → Int32 → Int32 → Option ((Nat → Int32))
  | 0, _, _, _, _, _ => none
  | n + 1, y0, y1, y2, y3, y4 => X3_spread_L12_B  (X3_spread_L12  n) y0 y1 y2 y3 y4
noncomputable def X3_spread (x_masks : Nat → Int32) (p1 : Int32) (p2 : Int32) : Option ((Nat → Int32)) :=
  nm (((1 : Int32) <<< (p1 &&& (31 : Int32))) - (1 : Int32)) fun v5 => X3_spread_L12  FU x_masks p2 v5 (0 : Int32) (0 : Int32)
abbrev wd_X3_spread (cy : Nat → ClassId) (o_t : Nat → Nat) (x_masks : Nat → Int32) : va_W := [(o_t 0, .inr (3, [.ref (o_t 1)])), (o_t 1, .inl (cy 0, 9, .inl x_masks))]
set_option maxHeartbeats 4000000 in
set_option maxRecDepth 100000 in
theorem w_X3_spread {p : Program} {l : Launch} {e : Env} {s : State} {m : MethodId} {args : Array Value} {below : List Frame} {meth : Method} {c : Code} {Q : State → Prop} {A : Nat → Prop} {H : Heap} {locs : List Loc} {ls : Array Slot} (D : va_G) (cy : Nat → ClassId) (t : Nat → Nat) (o_t : Nat → Nat) (x_masks : Nat → Int32) (p1 : Int32) (p2 : Int32) {out : (Nat → Int32)} (hf : X3_spread x_masks p1 p2 = some out) (hx : p.tables.exec = Jvm.exec) (hb : c.code = cX3_spread) (hml : c.maxLocals = 8) (hown : s.vm.findClass RX3 = some m.cls) (hts : ∀ w ∈ wsX3_spread, w.before args s = true) (hK : va_K D vwCl (TYS cy) s) (hE : EV t A s s.heap) (hA : ∀ q, s.heap.size ≤ q → A q) (hP : va_P D vwCl (wd_X3_spread cy o_t x_masks) H) (hD : va_D A (wd_X3_spread cy o_t x_masks)) (hS : va_S A s.heap H locs) (hl : lv_has ls 8 [(0, .ref (o_t 0)), (1, .int p1), (2, .int p2)]) (hR : ∀ (H : Heap) (locs : List Loc) (ls : Array Slot) (pc : Nat), va_P D vwCl (wd_X3_spread cy o_t out) H → va_D A (wd_X3_spread cy o_t out) → va_S A s.heap H locs → decode cX3_spread pc = .ok (.return_, 1) → W p l e (rmm 0 0) s m args below meth c H locs 0 0 Q (F0 m pc ls [])) : W p l e (rmm 0 0) s m args below meth c H locs 0 0 Q (F0 m 0 ls []) := by
  have k0 := hts (.fieldLink RX3 9 "SeaGames$Fog" "masks" "[I") (List.mem_cons_of_mem _ (List.mem_append_left _ (List.mem_of_getElem? (i := 0) rfl)))
  have k1 : ∀ w ∈ u_ws RX3 TX3 1, w ∈ wsX3_spread := fun _ h => List.mem_cons_of_mem _ (List.mem_append_right _ h)
  rw [X3_spread] at hf
  have h12 : ∀ (n12 : Nat) (x_masks : Nat → Int32) (l2 : Int32) (l3 : Int32) (l4 : Int32) (l5 : Int32) (H : Heap) (locs : List Loc) (ls : Array Slot), X3_spread_L12 n12 x_masks l2 l3 l4 l5 = some out → va_P D vwCl (wd_X3_spread cy o_t x_masks) H → va_D A (wd_X3_spread cy o_t x_masks) → va_S A s.heap H locs → lv_has ls 8 [(0, .ref (o_t 0)), (2, .int l2), (3, .int l3), (4, .int l4), (5, .int l5)] → W p l e (rmm 0 0) s m args below meth c H locs 0 0 Q (F0 m 12 ls []) := by
    intro n12
    induction n12 with
    | zero =>
      intro _ _ _ _ _ _ _ _ hf
      exact nomatch (show (none : Option _) = some out from hf)
    | succ n12 ih12 =>
      intro x_masks l2 l3 l4 l5 H locs ls hf hP hD hS hl
      have hf : X3_spread_L12_B (X3_spread_L12 n12) x_masks l2 l3 l4 l5 = some out := hf
      rw [X3_spread_L12_B] at hf
      refine lv_iload hx hb dX3_spread_12 (lv_at hl 4 rfl) ?_
      refine lv_iload_n hx hb dX3_spread_14 rfl (lv_at hl 1 rfl) ?_
      refine lv_icmp_ge (tgt := 87) hx hb dX3_spread_15 (by decide) (fun c15 => ?_) (fun c15 => ?_)
      · have hf := ifp c15 hf
        obtain rfl := Option.some.inj hf
        exact hR _ _ _ _ hP hD hS dX3_spread_87
      · have hf := ifn c15 hf
        have h48 : ∀ (x_masks : Nat → Int32) (l2 : Int32) (l3 : Int32) (l4 : Int32) (l5 : Int32) (l6 : Int32) (s0 : Int32) (H : Heap) (locs : List Loc) (ls : Array Slot), X3_spread_J48 (X3_spread_L12 n12) x_masks l2 l3 l4 l5 l6 s0 = some out → va_P D vwCl (wd_X3_spread cy o_t x_masks) H → va_D A (wd_X3_spread cy o_t x_masks) → va_S A s.heap H locs → lv_has ls 8 [(0, .ref (o_t 0)), (2, .int l2), (3, .int l3), (4, .int l4), (5, .int l5), (6, .int l6)] → W p l e (rmm 0 0) s m args below meth c H locs 0 0 Q (F0 m 48 ls [.int s0]) := by
          intro x_masks l2 l3 l4 l5 l6 s0 H locs ls hf hP hD hS hl
          rw [X3_spread_J48] at hf
          refine lv_istore (lv' := [(7, .int s0), (0, .ref (o_t 0)), (2, .int l2), (3, .int l3), (4, .int l4), (5, .int l5), (6, .int l6)]) hx hb dX3_spread_48 hl (by decide) rfl (fun ls hl => ?_)
          refine lv_aload_n hx hb dX3_spread_50 rfl (lv_at hl 1 rfl) ?_
          refine va_get (D := D) (ci := 3) (v := .ref (o_t 1)) (C := RX3) (T := TX3) (N := 1) hx hb hts k1 hown hK hP 0 rfl rfl 0 (by decide) k0 (fun _ h9 => h9) rfl dX3_spread_51 ?_
          refine lv_iload hx hb dX3_spread_54 (lv_at hl 5 rfl) ?_
          refine lv_iload hx hb dX3_spread_56 (lv_at hl 6 rfl) ?_
          refine lv_iload hx hb dX3_spread_58 (lv_at hl 6 rfl) ?_
          refine lv_iconst (v := (1 : Int32)) hx hb dX3_spread_60 (by decide) ?_
          refine lv_ishl hx hb dX3_spread_61 ?_
          refine lv_ior hx hb dX3_spread_62 ?_
          refine lv_iload hx hb dX3_spread_63 (lv_at hl 6 rfl) ?_
          refine lv_iconst (v := (1 : Int32)) hx hb dX3_spread_65 (by decide) ?_
          refine lv_ishr hx hb dX3_spread_66 ?_
          refine lv_ior hx hb dX3_spread_67 ?_
          refine lv_iload hx hb dX3_spread_68 (lv_at hl 4 rfl) ?_
          refine lv_ior hx hb dX3_spread_70 ?_
          refine lv_iload hx hb dX3_spread_71 (lv_at hl 0 rfl) ?_
          refine lv_ior hx hb dX3_spread_73 ?_
          refine lv_iload_n hx hb dX3_spread_74 rfl (lv_at hl 3 rfl) ?_
          refine lv_iand hx hb dX3_spread_75 ?_
          obtain ⟨w76, b76, ew76, hf⟩ := wrI_s hf
          refine my_iast (ws2 := (wd_X3_spread cy o_t w76)) hx hb hK hP hD hS 1 rfl b76 ew76 rfl dX3_spread_76 (fun H locs hP hD hS => ?_)
          refine lv_iload hx hb dX3_spread_77 (lv_at hl 6 rfl) ?_
          refine lv_istore (lv' := [(4, .int l6), (7, .int s0), (0, .ref (o_t 0)), (2, .int l2), (3, .int l3), (5, .int l5), (6, .int l6)]) hx hb dX3_spread_79 hl (by decide) rfl (fun ls hl => ?_)
          obtain ⟨v81, ev81, hf⟩ := nm_s hf
          refine lv_iinc (v := v81) (lv' := [(5, .int v81), (4, .int l6), (7, .int s0), (0, .ref (o_t 0)), (2, .int l2), (3, .int l3), (6, .int l6)]) hx hb dX3_spread_81 hl (k := 5) rfl (by rw [ev81]; rfl) (by decide) rfl (fun ls hl => ?_)
          refine lv_goto (tgt := 12) hx hb dX3_spread_84 (by decide) ?_
          exact ih12 _ _ _ _ _ _ _ _ hf hP hD hS (lv_sub hl [3, 4, 5, 1, 0] rfl)
        refine lv_aload_n hx hb dX3_spread_18 rfl (lv_at hl 0 rfl) ?_
        refine va_get (D := D) (ci := 3) (v := .ref (o_t 1)) (C := RX3) (T := TX3) (N := 1) hx hb hts k1 hown hK hP 0 rfl rfl 0 (by decide) k0 (fun _ h9 => h9) rfl dX3_spread_19 ?_
        refine lv_iload hx hb dX3_spread_22 (lv_at hl 4 rfl) ?_
        obtain ⟨v24, b24, ev24, hf⟩ := rd_s hf
        refine my_iald hx hb hK hP 1 rfl b24 ev24 dX3_spread_24 ?_
        refine lv_istore (lv' := [(6, .int v24), (0, .ref (o_t 0)), (2, .int l2), (3, .int l3), (4, .int l4), (5, .int l5)]) hx hb dX3_spread_25 hl (by decide) rfl (fun ls hl => ?_)
        refine lv_iload hx hb dX3_spread_27 (lv_at hl 5 rfl) ?_
        refine lv_iconst (v := (1 : Int32)) hx hb dX3_spread_29 (by decide) ?_
        refine lv_iadd hx hb dX3_spread_30 ?_
        refine lv_iload_n hx hb dX3_spread_31 rfl (lv_at hl 2 rfl) ?_
        refine lv_icmp_ge (tgt := 47) hx hb dX3_spread_32 (by decide) (fun c32 => ?_) (fun c32 => ?_)
        · have hf := ifp c32 hf
          refine lv_iconst (v := (0 : Int32)) hx hb dX3_spread_47 (by decide) ?_
          exact h48 _ _ _ _ _ _ _ _ _ _ hf hP hD hS (lv_sub hl [1, 2, 3, 4, 5, 0] rfl)
        · have hf := ifn c32 hf
          refine lv_aload_n hx hb dX3_spread_35 rfl (lv_at hl 1 rfl) ?_
          refine va_get (D := D) (ci := 3) (v := .ref (o_t 1)) (C := RX3) (T := TX3) (N := 1) hx hb hts k1 hown hK hP 0 rfl rfl 0 (by decide) k0 (fun _ h9 => h9) rfl dX3_spread_36 ?_
          refine lv_iload hx hb dX3_spread_39 (lv_at hl 5 rfl) ?_
          refine lv_iconst (v := (1 : Int32)) hx hb dX3_spread_41 (by decide) ?_
          refine lv_iadd hx hb dX3_spread_42 ?_
          obtain ⟨v43, b43, ev43, hf⟩ := rd_s hf
          refine my_iald hx hb hK hP 1 rfl b43 ev43 dX3_spread_43 ?_
          refine lv_goto (tgt := 48) hx hb dX3_spread_44 (by decide) ?_
          exact h48 _ _ _ _ _ _ _ _ _ _ hf hP hD hS (lv_sub hl [1, 2, 3, 4, 5, 0] rfl)
  refine lv_iconst (v := (1 : Int32)) hx hb dX3_spread_0 (by decide) ?_
  refine lv_iload_n hx hb dX3_spread_1 rfl (lv_at hl 1 rfl) ?_
  refine lv_ishl hx hb dX3_spread_2 ?_
  refine lv_iconst (v := (1 : Int32)) hx hb dX3_spread_3 (by decide) ?_
  refine lv_isub hx hb dX3_spread_4 ?_
  obtain ⟨v5, ev5, hf⟩ := nm_s hf
  refine my_topi ev5 ?_
  refine lv_istore_n (lv' := [(3, .int v5), (0, .ref (o_t 0)), (1, .int p1), (2, .int p2)]) hx hb dX3_spread_5 rfl hl (by decide) rfl (fun ls hl => ?_)
  refine lv_iconst (v := (0 : Int32)) hx hb dX3_spread_6 (by decide) ?_
  refine lv_istore (lv' := [(4, .int (0 : Int32)), (3, .int v5), (0, .ref (o_t 0)), (1, .int p1), (2, .int p2)]) hx hb dX3_spread_7 hl (by decide) rfl (fun ls hl => ?_)
  refine lv_iconst (v := (0 : Int32)) hx hb dX3_spread_9 (by decide) ?_
  refine lv_istore (lv' := [(5, .int (0 : Int32)), (4, .int (0 : Int32)), (3, .int v5), (0, .ref (o_t 0)), (1, .int p1), (2, .int p2)]) hx hb dX3_spread_10 hl (by decide) rfl (fun ls hl => ?_)
  exact h12 FU _ _ _ _ _ _ _ _ hf hP hD hS (lv_sub hl [3, 5, 2, 1, 0] rfl)
theorem hd_X3_spread : yX3_spread.cls ≠ "java/lang/invoke/MethodHandle" ∧ yX3_spread.cls ≠ "java/lang/invoke/VarHandle" ∧ (parseMethodDescriptor yX3_spread.desc).map (fun d => d.parameters.length) = some 2 := by decide +kernel
set_option maxRecDepth 100000 in
theorem c_X3_spread (l : Launch) (D : va_G) (cy : Nat → ClassId) (t : Nat → Nat) (o_t : Nat → Nat) (x_masks : Nat → Int32) (p1 : Int32) (p2 : Int32) {out : (Nat → Int32)} (hf : X3_spread x_masks p1 p2 = some out) : ctV l yX3_spread wsX3_spread 0 0 D cy t [.ref (o_t 0), .int p1, .int p2] (wd_X3_spread cy o_t x_masks) (wd_X3_spread cy o_t out) := by
  refine ⟨rfl, ?_⟩
  intro sz
  refine Met.ofW (cc := cX3_spread) (maxL := 8) (ret := none) (by decide) rfl ?_
  intro p e s m args below meth c s₁ B hml hv
  obtain ⟨rfl, hsz, hP, hK, hD0, hE⟩ := hv
  have hts := atoms_spec (ws := wsX3_spread) B.pre
  have hown : s.vm.findClass RX3 = some m.cls := findClass_of_methodNamed B.named
  have hlocks := B.notSynchronized
  subst hsz
  have hD := hD0.self (sz := s.heap.size)
  have hl := lv_entry ([.ref (o_t 0), .int p1, .int p2]) (n := 8) (Nat.le_of_ble_eq_true rfl)
  rw [lg_entry_eq]
  generalize (lg_sl ([.ref (o_t 0), .int p1, .int p2]) ++ List.replicate (8 - (lg_sl ([.ref (o_t 0), .int p1, .int p2])).length) Slot.unset).toArray = ls at hl ⊢
  exact w_X3_spread D cy t o_t x_masks p1 p2 hf B.exec B.bytes hml hown hts hK hE (fun q h => Or.inr h) hP hD va_S.rf hl (fun H locs ls pc hP hD hS hdg => W.vret B.exec B.bytes B.returns (fun t ht hW => ⟨⟨(), rfl, trivial, ctB_of ht hP⟩, hS.F ht⟩) hS.2.2 hdg)

noncomputable def X3_removeSeen_J73 (rec3 : (Nat → Int32) → Int32 → Int32 → Int32 → Int32 → Option ((Nat → Int32))) (x_masks : Nat → Int32) (l1 : Int32) (l2 : Int32) (l3 : Int32) (l4 : Int32) : Option ((Nat → Int32)) :=
  nm (l4 + (1 : Int32)) fun v73 => rec3 x_masks l1 l2 l3 v73
noncomputable def X3_removeSeen_L3_B (rec3 : (Nat → Int32) → Int32 → Int32 → Int32 → Int32 → Option ((Nat → Int32))) (x_masks : Nat → Int32) (l1 : Int32) (l2 : Int32) (l3 : Int32) (l4 : Int32) : Option ((Nat → Int32)) :=
  if l3 ≤ l4 then (some x_masks) else (bd (X7_yOf l1) fun r13 => nm (l2 - (if (0 : Int32) ≤ (l4 - r13) then (l4 - r13) else (0 : Int32) - (l4 - r13))) fun v21 => if v21 < (0 : Int32) then (X3_removeSeen_J73 rec3 x_masks l1 l2 l3 l4) else (bd (X7_xOf l1) fun r30 => nm (if (0 : Int32) < (r30 - v21) then (r30 - v21) else (0 : Int32)) fun v39 => bd (X7_xOf l1) fun r42 => nm ((r42 + v21) + (1 : Int32)) fun v50 => rd x_masks 9 l4 fun v59 => wrI x_masks 9 l4 (v59 &&& ((((1 : Int32) <<< (v50 &&& (31 : Int32))) - ((1 : Int32) <<< (v39 &&& (31 : Int32)))) ^^^ (-1 : Int32))) fun w72 => X3_removeSeen_J73 rec3 w72 l1 l2 l3 l4))
noncomputable def X3_removeSeen_L3 : Nat → (Nat → Int32) → Int32 → Int32 → Int32 → Int32 → Option ((Nat → Int32))
  | 0, _, _, _, _, _ => none
  | n + 1, y0, y1, y2, y3, y4 => X3_removeSeen_L3_B  (X3_removeSeen_L3  n) y0 y1 y2 y3 y4
noncomputable def X3_removeSeen (x_masks : Nat → Int32) (p1 : Int32) (p2 : Int32) (p3 : Int32) : Option ((Nat → Int32)) :=
  X3_removeSeen_L3  FU x_masks p1 p2 p3 (0 : Int32)
abbrev wd_X3_removeSeen (cy : Nat → ClassId) (o_t : Nat → Nat) (x_masks : Nat → Int32) : va_W := [(o_t 0, .inr (3, [.ref (o_t 1)])), (o_t 1, .inl (cy 0, 9, .inl x_masks))]
set_option maxHeartbeats 4000000 in
set_option maxRecDepth 100000 in
theorem w_X3_removeSeen {p : Program} {l : Launch} {e : Env} {s : State} {m : MethodId} {args : Array Value} {below : List Frame} {meth : Method} {c : Code} {Q : State → Prop} {A : Nat → Prop} {H : Heap} {locs : List Loc} {ls : Array Slot} (D : va_G) (cy : Nat → ClassId) (t : Nat → Nat) (o_t : Nat → Nat) (x_masks : Nat → Int32) (p1 : Int32) (p2 : Int32) (p3 : Int32) {out : (Nat → Int32)} (hf : X3_removeSeen x_masks p1 p2 p3 = some out) (hx : p.tables.exec = Jvm.exec) (hb : c.code = cX3_removeSeen) (hml : c.maxLocals = 8) (hown : s.vm.findClass RX3 = some m.cls) (hts : ∀ w ∈ wsX3_removeSeen, w.before args s = true) (hK : va_K D vwCl (TYS cy) s) (hE : EV t A s s.heap) (hA : ∀ q, s.heap.size ≤ q → A q) (hP : va_P D vwCl (wd_X3_removeSeen cy o_t x_masks) H) (hD : va_D A (wd_X3_removeSeen cy o_t x_masks)) (hS : va_S A s.heap H locs) (hl : lv_has ls 8 [(0, .ref (o_t 0)), (1, .int p1), (2, .int p2), (3, .int p3)]) (hR : ∀ (H : Heap) (locs : List Loc) (ls : Array Slot) (pc : Nat), va_P D vwCl (wd_X3_removeSeen cy o_t out) H → va_D A (wd_X3_removeSeen cy o_t out) → va_S A s.heap H locs → decode cX3_removeSeen pc = .ok (.return_, 1) → W p l e (rmm 1 21) s m args below meth c H locs 0 0 Q (F0 m pc ls [])) : W p l e (rmm 1 21) s m args below meth c H locs 0 0 Q (F0 m 0 ls []) := by
  have k0 := hts (.initialized RX7) (List.mem_cons_of_mem _ (List.mem_append_left _ (List.mem_of_getElem? (i := 9) rfl)))
  have k1 := hts (.static yX7_yOf) (List.mem_cons_of_mem _ (List.mem_append_left _ (List.mem_of_getElem? (i := 8) rfl)))
  have k2 := hts (.methodLink RX3 33 Lib.Math.abs.name) (List.mem_cons_of_mem _ (List.mem_append_left _ (List.mem_of_getElem? (i := 0) rfl)))
  have k3 := hts (.static Lib.Math.abs.name) (List.mem_cons_of_mem _ (List.mem_append_left _ (List.mem_of_getElem? (i := 1) rfl)))
  have k4 := hts (.initialized "java/lang/Math") (List.mem_cons_of_mem _ (List.mem_append_left _ (List.mem_of_getElem? (i := 2) rfl)))
  have k5 := hts (.code Lib.Math.abs.name Lib.Math.abs.code 1 (some .int)) (List.mem_cons_of_mem _ (List.mem_append_left _ (List.mem_of_getElem? (i := 3) rfl)))
  have k6 := hts (.static yX7_xOf) (List.mem_cons_of_mem _ (List.mem_append_left _ (List.mem_of_getElem? (i := 11) rfl)))
  have k7 := hts (.methodLink RX3 38 Lib.Math.max.name) (List.mem_cons_of_mem _ (List.mem_append_left _ (List.mem_of_getElem? (i := 4) rfl)))
  have k8 := hts (.static Lib.Math.max.name) (List.mem_cons_of_mem _ (List.mem_append_left _ (List.mem_of_getElem? (i := 5) rfl)))
  have k9 := hts (.code Lib.Math.max.name Lib.Math.max.code 2 (some .int)) (List.mem_cons_of_mem _ (List.mem_append_left _ (List.mem_of_getElem? (i := 6) rfl)))
  have k10 := hts (.fieldLink RX3 9 "SeaGames$Fog" "masks" "[I") (List.mem_cons_of_mem _ (List.mem_append_left _ (List.mem_of_getElem? (i := 7) rfl)))
  have k11 : ∀ w ∈ u_ws RX3 TX3 1, w ∈ wsX3_removeSeen := fun _ h => List.mem_cons_of_mem _ (List.mem_append_right _ h)
  rw [X3_removeSeen] at hf
  have h3 : ∀ (n3 : Nat) (x_masks : Nat → Int32) (l1 : Int32) (l2 : Int32) (l3 : Int32) (l4 : Int32) (H : Heap) (locs : List Loc) (ls : Array Slot), X3_removeSeen_L3 n3 x_masks l1 l2 l3 l4 = some out → va_P D vwCl (wd_X3_removeSeen cy o_t x_masks) H → va_D A (wd_X3_removeSeen cy o_t x_masks) → va_S A s.heap H locs → lv_has ls 8 [(0, .ref (o_t 0)), (1, .int l1), (2, .int l2), (3, .int l3), (4, .int l4)] → W p l e (rmm 1 21) s m args below meth c H locs 0 0 Q (F0 m 3 ls []) := by
    intro n3
    induction n3 with
    | zero =>
      intro _ _ _ _ _ _ _ _ hf
      exact nomatch (show (none : Option _) = some out from hf)
    | succ n3 ih3 =>
      intro x_masks l1 l2 l3 l4 H locs ls hf hP hD hS hl
      have hf : X3_removeSeen_L3_B (X3_removeSeen_L3 n3) x_masks l1 l2 l3 l4 = some out := hf
      rw [X3_removeSeen_L3_B] at hf
      refine lv_iload hx hb dX3_removeSeen_3 (lv_at hl 4 rfl) ?_
      refine lv_iload_n hx hb dX3_removeSeen_5 rfl (lv_at hl 3 rfl) ?_
      refine lv_icmp_ge (tgt := 79) hx hb dX3_removeSeen_6 (by decide) (fun c6 => ?_) (fun c6 => ?_)
      · have hf := ifp c6 hf
        obtain rfl := Option.some.inj hf
        exact hR _ _ _ _ hP hD hS dX3_removeSeen_79
      · have hf := ifn c6 hf
        have h73 : ∀ (x_masks : Nat → Int32) (l1 : Int32) (l2 : Int32) (l3 : Int32) (l4 : Int32) (H : Heap) (locs : List Loc) (ls : Array Slot), X3_removeSeen_J73 (X3_removeSeen_L3 n3) x_masks l1 l2 l3 l4 = some out → va_P D vwCl (wd_X3_removeSeen cy o_t x_masks) H → va_D A (wd_X3_removeSeen cy o_t x_masks) → va_S A s.heap H locs → lv_has ls 8 [(0, .ref (o_t 0)), (1, .int l1), (2, .int l2), (3, .int l3), (4, .int l4)] → W p l e (rmm 1 21) s m args below meth c H locs 0 0 Q (F0 m 73 ls []) := by
          intro x_masks l1 l2 l3 l4 H locs ls hf hP hD hS hl
          rw [X3_removeSeen_J73] at hf
          obtain ⟨v73, ev73, hf⟩ := nm_s hf
          refine lv_iinc (v := v73) (lv' := [(4, .int v73), (0, .ref (o_t 0)), (1, .int l1), (2, .int l2), (3, .int l3)]) hx hb dX3_removeSeen_73 hl (k := 4) rfl (by rw [ev73]; rfl) (by decide) rfl (fun ls hl => ?_)
          refine lv_goto (tgt := 3) hx hb dX3_removeSeen_76 (by decide) ?_
          exact ih3 _ _ _ _ _ _ _ _ hf hP hD hS (lv_sub hl [1, 2, 3, 4, 0] rfl)
        refine lv_iload_n hx hb dX3_removeSeen_9 rfl (lv_at hl 2 rfl) ?_
        refine lv_iload hx hb dX3_removeSeen_10 (lv_at hl 4 rfl) ?_
        refine lv_iload_n hx hb dX3_removeSeen_12 rfl (lv_at hl 1 rfl) ?_
        obtain ⟨r13, hr13, hf⟩ := bd_s hf
        refine my_Ni (WS2 := (wd_X3_removeSeen cy o_t x_masks)) (host := RX7) ⟨hx, hb, hml, hown, hts⟩ (c_X7_yOf l D cy t l1 hr13) (va_cnB 1 hts gX3_removeSeen_X7_yOf_n21 rfl rfl rfl (ev_n10 hE) k0 hd_X7_yOf ⟨Nat.le_of_ble_eq_true rfl, Nat.le_of_ble_eq_true rfl⟩) k1 hK hE hP hD hS hA [] 2 rfl rfl (by decide +kernel) rfl rfl hl.1 rfl (Nat.le_of_ble_eq_true rfl) dX3_removeSeen_13 ⟨Nat.le_of_ble_eq_true rfl, Nat.le_of_ble_eq_true rfl⟩ (fun H locs hP hD hS => ?_)
        refine lv_isub hx hb dX3_removeSeen_16 ?_
        refine va_mabs hx hb (hml.trans hl.1.symm) hown k2 k3 k4 k5 (Nat.le_of_ble_eq_true rfl) (Nat.le_of_ble_eq_true rfl) (Nat.le_of_ble_eq_true rfl) (Nat.le_of_ble_eq_true rfl) dX3_removeSeen_17 ?_
        refine lv_isub hx hb dX3_removeSeen_20 ?_
        obtain ⟨v21, ev21, hf⟩ := nm_s hf
        refine my_topi ev21 ?_
        refine lv_istore (lv' := [(5, .int v21), (0, .ref (o_t 0)), (1, .int l1), (2, .int l2), (3, .int l3), (4, .int l4)]) hx hb dX3_removeSeen_21 hl (by decide) rfl (fun ls hl => ?_)
        refine lv_iload hx hb dX3_removeSeen_23 (lv_at hl 0 rfl) ?_
        refine lv_if_lt (tgt := 73) hx hb dX3_removeSeen_25 (by decide) (fun c25 => ?_) (fun c25 => ?_)
        · have hf := ifp c25 hf
          exact h73 _ _ _ _ _ _ _ _ hf hP hD hS (lv_sub hl [1, 2, 3, 4, 5] rfl)
        · have hf := ifn c25 hf
          refine lv_iconst (v := (0 : Int32)) hx hb dX3_removeSeen_28 (by decide) ?_
          refine lv_iload_n hx hb dX3_removeSeen_29 rfl (lv_at hl 2 rfl) ?_
          obtain ⟨r30, hr30, hf⟩ := bd_s hf
          refine my_Ni (WS2 := (wd_X3_removeSeen cy o_t x_masks)) (host := RX7) ⟨hx, hb, hml, hown, hts⟩ (c_X7_xOf l D cy t l1 hr30) (va_cnB 1 hts gX3_removeSeen_X7_xOf_n25 rfl rfl rfl (ev_n11 hE) k0 hd_X7_xOf ⟨Nat.le_of_ble_eq_true rfl, Nat.le_of_ble_eq_true rfl⟩) k6 hK hE hP hD hS hA [] 2 rfl rfl (by decide +kernel) rfl rfl hl.1 rfl (Nat.le_of_ble_eq_true rfl) dX3_removeSeen_30 ⟨Nat.le_of_ble_eq_true rfl, Nat.le_of_ble_eq_true rfl⟩ (fun H locs hP hD hS => ?_)
          refine lv_iload hx hb dX3_removeSeen_33 (lv_at hl 0 rfl) ?_
          refine lv_isub hx hb dX3_removeSeen_35 ?_
          refine va_mmax hx hb (hml.trans hl.1.symm) hown k7 k8 k4 k9 (Nat.le_of_ble_eq_true rfl) (Nat.le_of_ble_eq_true rfl) (Nat.le_of_ble_eq_true rfl) (Nat.le_of_ble_eq_true rfl) dX3_removeSeen_36 ?_
          obtain ⟨v39, ev39, hf⟩ := nm_s hf
          refine my_topi ev39 ?_
          refine lv_istore (lv' := [(6, .int v39), (5, .int v21), (0, .ref (o_t 0)), (1, .int l1), (2, .int l2), (3, .int l3), (4, .int l4)]) hx hb dX3_removeSeen_39 hl (by decide) rfl (fun ls hl => ?_)
          refine lv_iload_n hx hb dX3_removeSeen_41 rfl (lv_at hl 3 rfl) ?_
          obtain ⟨r42, hr42, hf⟩ := bd_s hf
          refine my_Ni (WS2 := (wd_X3_removeSeen cy o_t x_masks)) (host := RX7) ⟨hx, hb, hml, hown, hts⟩ (c_X7_xOf l D cy t l1 hr42) (va_cnB 1 hts gX3_removeSeen_X7_xOf_n25 rfl rfl rfl (ev_n11 hE) k0 hd_X7_xOf ⟨Nat.le_of_ble_eq_true rfl, Nat.le_of_ble_eq_true rfl⟩) k6 hK hE hP hD hS hA [] 2 rfl rfl (by decide +kernel) rfl rfl hl.1 rfl (Nat.le_of_ble_eq_true rfl) dX3_removeSeen_42 ⟨Nat.le_of_ble_eq_true rfl, Nat.le_of_ble_eq_true rfl⟩ (fun H locs hP hD hS => ?_)
          refine lv_iload hx hb dX3_removeSeen_45 (lv_at hl 1 rfl) ?_
          refine lv_iadd hx hb dX3_removeSeen_47 ?_
          refine lv_iconst (v := (1 : Int32)) hx hb dX3_removeSeen_48 (by decide) ?_
          refine lv_iadd hx hb dX3_removeSeen_49 ?_
          obtain ⟨v50, ev50, hf⟩ := nm_s hf
          refine my_topi ev50 ?_
          refine lv_istore (lv' := [(7, .int v50), (6, .int v39), (5, .int v21), (0, .ref (o_t 0)), (1, .int l1), (2, .int l2), (3, .int l3), (4, .int l4)]) hx hb dX3_removeSeen_50 hl (by decide) rfl (fun ls hl => ?_)
          refine lv_aload_n hx hb dX3_removeSeen_52 rfl (lv_at hl 3 rfl) ?_
          refine va_get (D := D) (ci := 3) (v := .ref (o_t 1)) (C := RX3) (T := TX3) (N := 1) hx hb hts k11 hown hK hP 0 rfl rfl 0 (by decide) k10 (fun _ h9 => h9) rfl dX3_removeSeen_53 ?_
          refine lv_iload hx hb dX3_removeSeen_56 (lv_at hl 7 rfl) ?_
          refine lv_dup2_11 hx hb dX3_removeSeen_58 rfl rfl ?_
          obtain ⟨v59, b59, ev59, hf⟩ := rd_s hf
          refine my_iald hx hb hK hP 1 rfl b59 ev59 dX3_removeSeen_59 ?_
          refine lv_iconst (v := (1 : Int32)) hx hb dX3_removeSeen_60 (by decide) ?_
          refine lv_iload hx hb dX3_removeSeen_61 (lv_at hl 0 rfl) ?_
          refine lv_ishl hx hb dX3_removeSeen_63 ?_
          refine lv_iconst (v := (1 : Int32)) hx hb dX3_removeSeen_64 (by decide) ?_
          refine lv_iload hx hb dX3_removeSeen_65 (lv_at hl 1 rfl) ?_
          refine lv_ishl hx hb dX3_removeSeen_67 ?_
          refine lv_isub hx hb dX3_removeSeen_68 ?_
          refine lv_iconst (v := (-1 : Int32)) hx hb dX3_removeSeen_69 (by decide) ?_
          refine lv_ixor hx hb dX3_removeSeen_70 ?_
          refine lv_iand hx hb dX3_removeSeen_71 ?_
          obtain ⟨w72, b72, ew72, hf⟩ := wrI_s hf
          refine my_iast (ws2 := (wd_X3_removeSeen cy o_t w72)) hx hb hK hP hD hS 1 rfl b72 ew72 rfl dX3_removeSeen_72 (fun H locs hP hD hS => ?_)
          exact h73 _ _ _ _ _ _ _ _ hf hP hD hS (lv_sub hl [3, 4, 5, 6, 7] rfl)
  refine lv_iconst (v := (0 : Int32)) hx hb dX3_removeSeen_0 (by decide) ?_
  refine lv_istore (lv' := [(4, .int (0 : Int32)), (0, .ref (o_t 0)), (1, .int p1), (2, .int p2), (3, .int p3)]) hx hb dX3_removeSeen_1 hl (by decide) rfl (fun ls hl => ?_)
  exact h3 FU _ _ _ _ _ _ _ _ hf hP hD hS (lv_sub hl [1, 2, 3, 4, 0] rfl)
theorem hd_X3_removeSeen : yX3_removeSeen.cls ≠ "java/lang/invoke/MethodHandle" ∧ yX3_removeSeen.cls ≠ "java/lang/invoke/VarHandle" ∧ (parseMethodDescriptor yX3_removeSeen.desc).map (fun d => d.parameters.length) = some 3 := by decide +kernel
set_option maxRecDepth 100000 in
theorem c_X3_removeSeen (l : Launch) (D : va_G) (cy : Nat → ClassId) (t : Nat → Nat) (o_t : Nat → Nat) (x_masks : Nat → Int32) (p1 : Int32) (p2 : Int32) (p3 : Int32) {out : (Nat → Int32)} (hf : X3_removeSeen x_masks p1 p2 p3 = some out) : ctV l yX3_removeSeen wsX3_removeSeen 1 21 D cy t [.ref (o_t 0), .int p1, .int p2, .int p3] (wd_X3_removeSeen cy o_t x_masks) (wd_X3_removeSeen cy o_t out) := by
  refine ⟨rfl, ?_⟩
  intro sz
  refine Met.ofW (cc := cX3_removeSeen) (maxL := 8) (ret := none) (by decide) rfl ?_
  intro p e s m args below meth c s₁ B hml hv
  obtain ⟨rfl, hsz, hP, hK, hD0, hE⟩ := hv
  have hts := atoms_spec (ws := wsX3_removeSeen) B.pre
  have hown : s.vm.findClass RX3 = some m.cls := findClass_of_methodNamed B.named
  have hlocks := B.notSynchronized
  subst hsz
  have hD := hD0.self (sz := s.heap.size)
  have hl := lv_entry ([.ref (o_t 0), .int p1, .int p2, .int p3]) (n := 8) (Nat.le_of_ble_eq_true rfl)
  rw [lg_entry_eq]
  generalize (lg_sl ([.ref (o_t 0), .int p1, .int p2, .int p3]) ++ List.replicate (8 - (lg_sl ([.ref (o_t 0), .int p1, .int p2, .int p3])).length) Slot.unset).toArray = ls at hl ⊢
  exact w_X3_removeSeen D cy t o_t x_masks p1 p2 p3 hf B.exec B.bytes hml hown hts hK hE (fun q h => Or.inr h) hP hD va_S.rf hl (fun H locs ls pc hP hD hS hdg => W.vret B.exec B.bytes B.returns (fun t ht hW => ⟨⟨(), rfl, trivial, ctB_of ht hP⟩, hS.F ht⟩) hS.2.2 hdg)
