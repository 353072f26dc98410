noncomputable def X1_join (x_size : Int32) (x_paired : Int32) (x_skills : Nat → Int32) (x_shores : Nat → Int32) (p1 : Int32) (p2 : Int32) : Option (Int32 × Int32 × Int32 × (Nat → Int32) × (Nat → Int32)) :=
  wrI x_skills 10 x_size p1 fun w9 => wrI x_shores 10 x_size p2 fun w19 => some (((x_size + (1 : Int32)) - (1 : Int32)), (x_size + (1 : Int32)), (0 : Int32), w9, w19)
abbrev wd_X1_join (cy : Nat → ClassId) (o_t : Nat → Nat) (x_size : Int32) (x_paired : Int32) (x_skills : Nat → Int32) (x_shores : Nat → Int32) : va_W := [(o_t 0, .inr (1, [.int x_size, .ref (o_t 2), .ref (o_t 3), .ref (o_t 4), .ref (o_t 5), .ref (o_t 6), .int x_paired])), (o_t 3, .inl (cy 0, 10, .inl x_skills)), (o_t 4, .inl (cy 0, 10, .inl x_shores))]
set_option maxHeartbeats 4000000 in
set_option maxRecDepth 100000 in
theorem w_X1_join {p : Program} {l : Launch} {e : Env} {s : State} {m : MethodId} {args : Array Value} {below : List Frame} {meth : Method} {c : Code} {Q : State → Prop} {A : Nat → Prop} {H : Heap} {locs : List Loc} {ls : Array Slot} (D : va_G) (cy : Nat → ClassId) (t : Nat → Nat) (o_t : Nat → Nat) (x_size : Int32) (x_paired : Int32) (x_skills : Nat → Int32) (x_shores : Nat → Int32) (p1 : Int32) (p2 : Int32) {out : Int32 × Int32 × Int32 × (Nat → Int32) × (Nat → Int32)} (hf : X1_join x_size x_paired x_skills x_shores p1 p2 = some out) (hx : p.tables.exec = Jvm.exec) (hb : c.code = cX1_join) (hml : c.maxLocals = 3) (hown : s.vm.findClass RX1 = some m.cls) (hts : ∀ w ∈ wsX1_join, w.before args s = true) (hK : va_K D vwCl (TYS cy) s) (hE : EV t A s s.heap) (hA : ∀ q, s.heap.size ≤ q → A q) (hP : va_P D vwCl (wd_X1_join cy o_t x_size x_paired x_skills x_shores) H) (hD : va_D A (wd_X1_join cy o_t x_size x_paired x_skills x_shores)) (hS : va_S A s.heap H locs) (hl : lv_has ls 3 [(0, .ref (o_t 0)), (1, .int p1), (2, .int p2)]) (hR : ∀ (H : Heap) (locs : List Loc) (ls : Array Slot) (pc : Nat), va_P D vwCl (wd_X1_join cy o_t out.2.1 out.2.2.1 out.2.2.2.1 out.2.2.2.2) H → va_D A (wd_X1_join cy o_t out.2.1 out.2.2.1 out.2.2.2.1 out.2.2.2.2) → va_S A s.heap H locs → decode cX1_join pc = .ok (.ireturn, 1) → W p l e (rmm 0 0) s m args below meth c H locs 0 0 Q (F0 m pc ls [.int out.1])) : W p l e (rmm 0 0) s m args below meth c H locs 0 0 Q (F0 m 0 ls []) := by
  have k0 := hts (.fieldLink RX1 19 "SeaGames$Crowd" "skills" "[I") (List.mem_cons_of_mem _ (List.mem_append_left _ (List.mem_of_getElem? (i := 0) rfl)))
  have k1 : ∀ w ∈ u_ws RX1 TX1 7, w ∈ wsX1_join := fun _ h => List.mem_cons_of_mem _ (List.mem_append_right _ h)
  have k2 := hts (.fieldLink RX1 9 "SeaGames$Crowd" "size" "I") (List.mem_cons_of_mem _ (List.mem_append_left _ (List.mem_of_getElem? (i := 1) rfl)))
  have k3 := hts (.fieldLink RX1 22 "SeaGames$Crowd" "shores" "[I") (List.mem_cons_of_mem _ (List.mem_append_left _ (List.mem_of_getElem? (i := 2) rfl)))
  have k4 := hts (.fieldLink RX1 31 "SeaGames$Crowd" "paired" "Z") (List.mem_cons_of_mem _ (List.mem_append_left _ (List.mem_of_getElem? (i := 3) rfl)))
  rw [X1_join] at hf
  refine lv_aload_n hx hb dX1_join_0 rfl (lv_at hl 0 rfl) ?_
  refine va_get (D := D) (ci := 1) (v := .ref (o_t 3)) (C := RX1) (T := TX1) (N := 7) hx hb hts k1 hown hK hP 0 rfl rfl 2 (by decide) k0 (fun _ h9 => h9) rfl dX1_join_1 ?_
  refine lv_aload_n hx hb dX1_join_4 rfl (lv_at hl 0 rfl) ?_
  refine va_get (D := D) (ci := 1) (v := .int x_size) (C := RX1) (T := TX1) (N := 7) hx hb hts k1 hown hK hP 0 rfl rfl 0 (by decide) k2 (fun _ h9 => h9) rfl dX1_join_5 ?_
  refine lv_iload_n hx hb dX1_join_8 rfl (lv_at hl 1 rfl) ?_
  obtain ⟨w9, b9, ew9, hf⟩ := wrI_s hf
  refine my_iast (ws2 := (wd_X1_join cy o_t x_size x_paired w9 x_shores)) hx hb hK hP hD hS 1 rfl b9 ew9 rfl dX1_join_9 (fun H locs hP hD hS => ?_)
  refine lv_aload_n hx hb dX1_join_10 rfl (lv_at hl 0 rfl) ?_
  refine va_get (D := D) (ci := 1) (v := .ref (o_t 4)) (C := RX1) (T := TX1) (N := 7) hx hb hts k1 hown hK hP 0 rfl rfl 3 (by decide) k3 (fun _ h9 => h9) rfl dX1_join_11 ?_
  refine lv_aload_n hx hb dX1_join_14 rfl (lv_at hl 0 rfl) ?_
  refine va_get (D := D) (ci := 1) (v := .int x_size) (C := RX1) (T := TX1) (N := 7) hx hb hts k1 hown hK hP 0 rfl rfl 0 (by decide) k2 (fun _ h9 => h9) rfl dX1_join_15 ?_
  refine lv_iload_n hx hb dX1_join_18 rfl (lv_at hl 2 rfl) ?_
  obtain ⟨w19, b19, ew19, hf⟩ := wrI_s hf
  refine my_iast (ws2 := (wd_X1_join cy o_t x_size x_paired w9 w19)) hx hb hK hP hD hS 2 rfl b19 ew19 rfl dX1_join_19 (fun H locs hP hD hS => ?_)
  refine lv_aload_n hx hb dX1_join_20 rfl (lv_at hl 0 rfl) ?_
  refine lv_dup hx hb dX1_join_21 rfl ?_
  refine va_get (D := D) (ci := 1) (v := .int x_size) (C := RX1) (T := TX1) (N := 7) hx hb hts k1 hown hK hP 0 rfl rfl 0 (by decide) k2 (fun _ h9 => h9) rfl dX1_join_22 ?_
  refine lv_iconst (v := (1 : Int32)) hx hb dX1_join_25 (by decide) ?_
  refine lv_iadd hx hb dX1_join_26 ?_
  refine va_put (D := D) (ci := 1) (v := .int (x_size + (1 : Int32))) (ty := .int) (C := RX1) (T := TX1) (N := 7) hx hb hts k1 tyX1 tyX1_ok nmX1 hown hK hP hD hS 0 rfl rfl 0 (by decide) k2 (fun _ h9 => h9) rfl (by decide +kernel) rfl rfl (Nat.le_of_ble_eq_true rfl) dX1_join_27 (fun H locs hP hD hS => ?_)
  have hP : va_P D vwCl (wd_X1_join cy o_t (x_size + (1 : Int32)) x_paired w9 w19) H := hP
  have hD : va_D A (wd_X1_join cy o_t (x_size + (1 : Int32)) x_paired w9 w19) := hD
  refine lv_aload_n hx hb dX1_join_30 rfl (lv_at hl 0 rfl) ?_
  refine lv_iconst (v := (0 : Int32)) hx hb dX1_join_31 (by decide) ?_
  refine va_put (D := D) (ci := 1) (v := .int (0 : Int32)) (ty := .boolean) (C := RX1) (T := TX1) (N := 7) hx hb hts k1 tyX1 tyX1_ok nmX1 hown hK hP hD hS 0 rfl rfl 6 (by decide) k4 (fun _ h9 => h9) rfl (by decide +kernel) rfl rfl (Nat.le_of_ble_eq_true rfl) dX1_join_32 (fun H locs hP hD hS => ?_)
  have hP : va_P D vwCl (wd_X1_join cy o_t (x_size + (1 : Int32)) (0 : Int32) w9 w19) H := hP
  have hD : va_D A (wd_X1_join cy o_t (x_size + (1 : Int32)) (0 : Int32) w9 w19) := hD
  refine lv_aload_n hx hb dX1_join_35 rfl (lv_at hl 0 rfl) ?_
  refine va_get (D := D) (ci := 1) (v := .int (x_size + (1 : Int32))) (C := RX1) (T := TX1) (N := 7) hx hb hts k1 hown hK hP 0 rfl rfl 0 (by decide) k2 (fun _ h9 => h9) rfl dX1_join_36 ?_
  refine lv_iconst (v := (1 : Int32)) hx hb dX1_join_39 (by decide) ?_
  refine lv_isub hx hb dX1_join_40 ?_
  obtain rfl := Option.some.inj hf
  exact hR _ _ _ _ hP hD hS dX1_join_41
theorem hd_X1_join : yX1_join.cls ≠ "java/lang/invoke/MethodHandle" ∧ yX1_join.cls ≠ "java/lang/invoke/VarHandle" ∧ (parseMethodDescriptor yX1_join.desc).map (fun d => d.parameters.length) = some 2 := by decide +kernel
set_option maxRecDepth 100000 in
theorem c_X1_join (l : Launch) (D : va_G) (cy : Nat → ClassId) (t : Nat → Nat) (o_t : Nat → Nat) (x_size : Int32) (x_paired : Int32) (x_skills : Nat → Int32) (x_shores : Nat → Int32) (p1 : Int32) (p2 : Int32) {out : Int32 × Int32 × Int32 × (Nat → Int32) × (Nat → Int32)} (hf : X1_join x_size x_paired x_skills x_shores p1 p2 = some out) : ctI l yX1_join wsX1_join 0 0 D cy t [.ref (o_t 0), .int p1, .int p2] (wd_X1_join cy o_t x_size x_paired x_skills x_shores) (wd_X1_join cy o_t out.2.1 out.2.2.1 out.2.2.2.1 out.2.2.2.2) out.1 := by
  refine ⟨rfl, ?_⟩
  intro sz
  refine Met.ofW (cc := cX1_join) (maxL := 3) (ret := (some .int)) (by decide) rfl ?_
  intro p e s m args below meth c s₁ B hml hv
  obtain ⟨rfl, hsz, hP, hK, hD0, hE⟩ := hv
  have hts := atoms_spec (ws := wsX1_join) B.pre
  have hown : s.vm.findClass RX1 = some m.cls := findClass_of_methodNamed B.named
  have hlocks := B.notSynchronized
  subst hsz
  have hD := hD0.self (sz := s.heap.size)
  have hl := lv_entry ([.ref (o_t 0), .int p1, .int p2]) (n := 3) (Nat.le_of_ble_eq_true rfl)
  rw [lg_entry_eq]
  generalize (lg_sl ([.ref (o_t 0), .int p1, .int p2]) ++ List.replicate (3 - (lg_sl ([.ref (o_t 0), .int p1, .int p2])).length) Slot.unset).toArray = ls at hl ⊢
  exact w_X1_join D cy t o_t x_size x_paired x_skills x_shores p1 p2 hf B.exec B.bytes hml hown hts hK hE (fun q h => Or.inr h) hP hD va_S.rf hl (fun H locs ls pc hP hD hS hdg => W.iret B.exec B.bytes B.returns (fun t ht hW => ⟨⟨_, (), rfl, rfl, ctB_of ht hP⟩, hS.F ht⟩) hS.2.2 hdg)

noncomputable def X1_setFar (x_paired : Int32) (x_fars : Nat → Int32) (p1 : Int32) (p2 : Int32) (p3 : Int32) : Option (Int32 × Int32 × (Nat → Int32)) :=
  rd x_fars 16 ((p1 * (4 : Int32)) + p2) fun v9 => wrI x_fars 16 ((p1 * (4 : Int32)) + p2) p3 fun w22 => wrI w22 16 ((p2 * (4 : Int32)) + p1) p3 fun w33 => some (v9, (0 : Int32), w33)
abbrev wd_X1_setFar (cy : Nat → ClassId) (o_t : Nat → Nat) (x_size : Int32) (x_paired : Int32) (x_fars : Nat → Int32) : va_W := [(o_t 0, .inr (1, [.int x_size, .ref (o_t 2), .ref (o_t 3), .ref (o_t 4), .ref (o_t 5), .ref (o_t 6), .int x_paired])), (o_t 5, .inl (cy 0, 16, .inl x_fars))]
set_option maxHeartbeats 4000000 in
set_option maxRecDepth 100000 in
theorem w_X1_setFar {p : Program} {l : Launch} {e : Env} {s : State} {m : MethodId} {args : Array Value} {below : List Frame} {meth : Method} {c : Code} {Q : State → Prop} {A : Nat → Prop} {H : Heap} {locs : List Loc} {ls : Array Slot} (D : va_G) (cy : Nat → ClassId) (t : Nat → Nat) (o_t : Nat → Nat) (x_size : Int32) (x_paired : Int32) (x_fars : Nat → Int32) (p1 : Int32) (p2 : Int32) (p3 : Int32) {out : Int32 × Int32 × (Nat → Int32)} (hf : X1_setFar x_paired x_fars p1 p2 p3 = some out) (hx : p.tables.exec = Jvm.exec) (hb : c.code = cX1_setFar) (hml : c.maxLocals = 5) (hown : s.vm.findClass RX1 = some m.cls) (hts : ∀ w ∈ wsX1_setFar, w.before args s = true) (hK : va_K D vwCl (TYS cy) s) (hE : EV t A s s.heap) (hA : ∀ q, s.heap.size ≤ q → A q) (hP : va_P D vwCl (wd_X1_setFar cy o_t x_size x_paired x_fars) H) (hD : va_D A (wd_X1_setFar cy o_t x_size x_paired x_fars)) (hS : va_S A s.heap H locs) (hl : lv_has ls 5 [(0, .ref (o_t 0)), (1, .int p1), (2, .int p2), (3, .int p3)]) (hR : ∀ (H : Heap) (locs : List Loc) (ls : Array Slot) (pc : Nat), va_P D vwCl (wd_X1_setFar cy o_t x_size out.2.1 out.2.2) H → va_D A (wd_X1_setFar cy o_t x_size out.2.1 out.2.2) → va_S A s.heap H locs → decode cX1_setFar pc = .ok (.ireturn, 1) → W p l e (rmm 0 0) s m args below meth c H locs 0 0 Q (F0 m pc ls [.int out.1])) : W p l e (rmm 0 0) s m args below meth c H locs 0 0 Q (F0 m 0 ls []) := by
  have k0 := hts (.fieldLink RX1 25 "SeaGames$Crowd" "fars" "[I") (List.mem_cons_of_mem _ (List.mem_append_left _ (List.mem_of_getElem? (i := 0) rfl)))
  have k1 : ∀ w ∈ u_ws RX1 TX1 7, w ∈ wsX1_setFar := fun _ h => List.mem_cons_of_mem _ (List.mem_append_right _ h)
  have k2 := hts (.fieldLink RX1 31 "SeaGames$Crowd" "paired" "Z") (List.mem_cons_of_mem _ (List.mem_append_left _ (List.mem_of_getElem? (i := 1) rfl)))
  rw [X1_setFar] at hf
  refine lv_aload_n hx hb dX1_setFar_0 rfl (lv_at hl 0 rfl) ?_
  refine va_get (D := D) (ci := 1) (v := .ref (o_t 5)) (C := RX1) (T := TX1) (N := 7) hx hb hts k1 hown hK hP 0 rfl rfl 4 (by decide) k0 (fun _ h9 => h9) rfl dX1_setFar_1 ?_
  refine lv_iload_n hx hb dX1_setFar_4 rfl (lv_at hl 1 rfl) ?_
  refine lv_iconst (v := (4 : Int32)) hx hb dX1_setFar_5 (by decide) ?_
  refine lv_imul hx hb dX1_setFar_6 ?_
  refine lv_iload_n hx hb dX1_setFar_7 rfl (lv_at hl 2 rfl) ?_
  refine lv_iadd hx hb dX1_setFar_8 ?_
  obtain ⟨v9, b9, ev9, hf⟩ := rd_s hf
  refine my_iald hx hb hK hP 1 rfl b9 ev9 dX1_setFar_9 ?_
  refine lv_istore (lv' := [(4, .int v9), (0, .ref (o_t 0)), (1, .int p1), (2, .int p2), (3, .int p3)]) hx hb dX1_setFar_10 hl (by decide) rfl (fun ls hl => ?_)
  refine lv_aload_n hx hb dX1_setFar_12 rfl (lv_at hl 1 rfl) ?_
  refine va_get (D := D) (ci := 1) (v := .ref (o_t 5)) (C := RX1) (T := TX1) (N := 7) hx hb hts k1 hown hK hP 0 rfl rfl 4 (by decide) k0 (fun _ h9 => h9) rfl dX1_setFar_13 ?_
  refine lv_iload_n hx hb dX1_setFar_16 rfl (lv_at hl 2 rfl) ?_
  refine lv_iconst (v := (4 : Int32)) hx hb dX1_setFar_17 (by decide) ?_
  refine lv_imul hx hb dX1_setFar_18 ?_
  refine lv_iload_n hx hb dX1_setFar_19 rfl (lv_at hl 3 rfl) ?_
  refine lv_iadd hx hb dX1_setFar_20 ?_
  refine lv_iload_n hx hb dX1_setFar_21 rfl (lv_at hl 4 rfl) ?_
  obtain ⟨w22, b22, ew22, hf⟩ := wrI_s hf
  refine my_iast (ws2 := (wd_X1_setFar cy o_t x_size x_paired w22)) hx hb hK hP hD hS 1 rfl b22 ew22 rfl dX1_setFar_22 (fun H locs hP hD hS => ?_)
  refine lv_aload_n hx hb dX1_setFar_23 rfl (lv_at hl 1 rfl) ?_
  refine va_get (D := D) (ci := 1) (v := .ref (o_t 5)) (C := RX1) (T := TX1) (N := 7) hx hb hts k1 hown hK hP 0 rfl rfl 4 (by decide) k0 (fun _ h9 => h9) rfl dX1_setFar_24 ?_
  refine lv_iload_n hx hb dX1_setFar_27 rfl (lv_at hl 3 rfl) ?_
  refine lv_iconst (v := (4 : Int32)) hx hb dX1_setFar_28 (by decide) ?_
  refine lv_imul hx hb dX1_setFar_29 ?_
  refine lv_iload_n hx hb dX1_setFar_30 rfl (lv_at hl 2 rfl) ?_
  refine lv_iadd hx hb dX1_setFar_31 ?_
  refine lv_iload_n hx hb dX1_setFar_32 rfl (lv_at hl 4 rfl) ?_
  obtain ⟨w33, b33, ew33, hf⟩ := wrI_s hf
  refine my_iast (ws2 := (wd_X1_setFar cy o_t x_size x_paired w33)) hx hb hK hP hD hS 1 rfl b33 ew33 rfl dX1_setFar_33 (fun H locs hP hD hS => ?_)
  refine lv_aload_n hx hb dX1_setFar_34 rfl (lv_at hl 1 rfl) ?_
  refine lv_iconst (v := (0 : Int32)) hx hb dX1_setFar_35 (by decide) ?_
  refine va_put (D := D) (ci := 1) (v := .int (0 : Int32)) (ty := .boolean) (C := RX1) (T := TX1) (N := 7) hx hb hts k1 tyX1 tyX1_ok nmX1 hown hK hP hD hS 0 rfl rfl 6 (by decide) k2 (fun _ h9 => h9) rfl (by decide +kernel) rfl rfl (Nat.le_of_ble_eq_true rfl) dX1_setFar_36 (fun H locs hP hD hS => ?_)
  have hP : va_P D vwCl (wd_X1_setFar cy o_t x_size (0 : Int32) w33) H := hP
  have hD : va_D A (wd_X1_setFar cy o_t x_size (0 : Int32) w33) := hD
  refine lv_iload hx hb dX1_setFar_39 (lv_at hl 0 rfl) ?_
  obtain rfl := Option.some.inj hf
  exact hR _ _ _ _ hP hD hS dX1_setFar_41
theorem hd_X1_setFar : yX1_setFar.cls ≠ "java/lang/invoke/MethodHandle" ∧ yX1_setFar.cls ≠ "java/lang/invoke/VarHandle" ∧ (parseMethodDescriptor yX1_setFar.desc).map (fun d => d.parameters.length) = some 3 := by decide +kernel
set_option maxRecDepth 100000 in
theorem c_X1_setFar (l : Launch) (D : va_G) (cy : Nat → ClassId) (t : Nat → Nat) (o_t : Nat → Nat) (x_size : Int32) (x_paired : Int32) (x_fars : Nat → Int32) (p1 : Int32) (p2 : Int32) (p3 : Int32) {out : Int32 × Int32 × (Nat → Int32)} (hf : X1_setFar x_paired x_fars p1 p2 p3 = some out) : ctI l yX1_setFar wsX1_setFar 0 0 D cy t [.ref (o_t 0), .int p1, .int p2, .int p3] (wd_X1_setFar cy o_t x_size x_paired x_fars) (wd_X1_setFar cy o_t x_size out.2.1 out.2.2) out.1 := by
  refine ⟨rfl, ?_⟩
  intro sz
  refine Met.ofW (cc := cX1_setFar) (maxL := 5) (ret := (some .int)) (by decide) rfl ?_
  intro p e s m args below meth c s₁ B hml hv
  obtain ⟨rfl, hsz, hP, hK, hD0, hE⟩ := hv
  have hts := atoms_spec (ws := wsX1_setFar) B.pre
  have hown : s.vm.findClass RX1 = some m.cls := findClass_of_methodNamed B.named
  have hlocks := B.notSynchronized
  subst hsz
  have hD := hD0.self (sz := s.heap.size)
  have hl := lv_entry ([.ref (o_t 0), .int p1, .int p2, .int p3]) (n := 5) (Nat.le_of_ble_eq_true rfl)
  rw [lg_entry_eq]
  generalize (lg_sl ([.ref (o_t 0), .int p1, .int p2, .int p3]) ++ List.replicate (5 - (lg_sl ([.ref (o_t 0), .int p1, .int p2, .int p3])).length) Slot.unset).toArray = ls at hl ⊢
  exact w_X1_setFar D cy t o_t x_size x_paired x_fars p1 p2 p3 hf B.exec B.bytes hml hown hts hK hE (fun q h => Or.inr h) hP hD va_S.rf hl (fun H locs ls pc hP hD hS hdg => W.iret B.exec B.bytes B.returns (fun t ht hW => ⟨⟨_, (), rfl, rfl, ctB_of ht hP⟩, hS.F ht⟩) hS.2.2 hdg)

noncomputable def X1_leastCost (x_size : Int32) (x_least : Nat → Int32) : Option (Int32) :=
  rd x_least 1024 (((1 : Int32) <<< (x_size &&& (31 : Int32))) - (1 : Int32)) fun v12 => some v12
abbrev wd_X1_leastCost (cy : Nat → ClassId) (o_t : Nat → Nat) (x_size : Int32) (x_paired : Int32) (x_least : Nat → Int32) : va_W := [(o_t 0, .inr (1, [.int x_size, .ref (o_t 2), .ref (o_t 3), .ref (o_t 4), .ref (o_t 5), .ref (o_t 6), .int x_paired])), (o_t 6, .inl (cy 0, 1024, .inl x_least))]
set_option maxHeartbeats 4000000 in
set_option maxRecDepth 100000 in
theorem w_X1_leastCost {p : Program} {l : Launch} {e : Env} {s : State} {m : MethodId} {args : Array Value} {below : List Frame} {meth : Method} {c : Code} {Q : State → Prop} {A : Nat → Prop} {H : Heap} {locs : List Loc} {ls : Array Slot} (D : va_G) (cy : Nat → ClassId) (t : Nat → Nat) (o_t : Nat → Nat) (x_size : Int32) (x_paired : Int32) (x_least : Nat → Int32) {out : Int32} (hf : X1_leastCost x_size x_least = some out) (hx : p.tables.exec = Jvm.exec) (hb : c.code = cX1_leastCost) (hml : c.maxLocals = 1) (hown : s.vm.findClass RX1 = some m.cls) (hts : ∀ w ∈ wsX1_leastCost, w.before args s = true) (hK : va_K D vwCl (TYS cy) s) (hE : EV t A s s.heap) (hA : ∀ q, s.heap.size ≤ q → A q) (hP : va_P D vwCl (wd_X1_leastCost cy o_t x_size x_paired x_least) H) (hD : va_D A (wd_X1_leastCost cy o_t x_size x_paired x_least)) (hS : va_S A s.heap H locs) (hl : lv_has ls 1 [(0, .ref (o_t 0))]) (hR : ∀ (H : Heap) (locs : List Loc) (ls : Array Slot) (pc : Nat), va_P D vwCl (wd_X1_leastCost cy o_t x_size x_paired x_least) H → va_D A (wd_X1_leastCost cy o_t x_size x_paired x_least) → va_S A s.heap H locs → decode cX1_leastCost pc = .ok (.ireturn, 1) → W p l e (rmm 0 0) s m args below meth c H locs 0 0 Q (F0 m pc ls [.int out])) : W p l e (rmm 0 0) s m args below meth c H locs 0 0 Q (F0 m 0 ls []) := by
  have k0 := hts (.fieldLink RX1 28 "SeaGames$Crowd" "least" "[I") (List.mem_cons_of_mem _ (List.mem_append_left _ (List.mem_of_getElem? (i := 0) rfl)))
  have k1 : ∀ w ∈ u_ws RX1 TX1 7, w ∈ wsX1_leastCost := fun _ h => List.mem_cons_of_mem _ (List.mem_append_right _ h)
  have k2 := hts (.fieldLink RX1 9 "SeaGames$Crowd" "size" "I") (List.mem_cons_of_mem _ (List.mem_append_left _ (List.mem_of_getElem? (i := 1) rfl)))
  rw [X1_leastCost] at hf
  refine lv_aload_n hx hb dX1_leastCost_0 rfl (lv_at hl 0 rfl) ?_
  refine va_get (D := D) (ci := 1) (v := .ref (o_t 6)) (C := RX1) (T := TX1) (N := 7) hx hb hts k1 hown hK hP 0 rfl rfl 5 (by decide) k0 (fun _ h9 => h9) rfl dX1_leastCost_1 ?_
  refine lv_iconst (v := (1 : Int32)) hx hb dX1_leastCost_4 (by decide) ?_
  refine lv_aload_n hx hb dX1_leastCost_5 rfl (lv_at hl 0 rfl) ?_
  refine va_get (D := D) (ci := 1) (v := .int x_size) (C := RX1) (T := TX1) (N := 7) hx hb hts k1 hown hK hP 0 rfl rfl 0 (by decide) k2 (fun _ h9 => h9) rfl dX1_leastCost_6 ?_
  refine lv_ishl hx hb dX1_leastCost_9 ?_
  refine lv_iconst (v := (1 : Int32)) hx hb dX1_leastCost_10 (by decide) ?_
  refine lv_isub hx hb dX1_leastCost_11 ?_
  obtain ⟨v12, b12, ev12, hf⟩ := rd_s hf
  refine my_iald hx hb hK hP 1 rfl b12 ev12 dX1_leastCost_12 ?_
  obtain rfl := Option.some.inj hf
  exact hR _ _ _ _ hP hD hS dX1_leastCost_13
theorem hd_X1_leastCost : yX1_leastCost.cls ≠ "java/lang/invoke/MethodHandle" ∧ yX1_leastCost.cls ≠ "java/lang/invoke/VarHandle" ∧ (parseMethodDescriptor yX1_leastCost.desc).map (fun d => d.parameters.length) = some 0 := by decide +kernel
set_option maxRecDepth 100000 in
theorem c_X1_leastCost (l : Launch) (D : va_G) (cy : Nat → ClassId) (t : Nat → Nat) (o_t : Nat → Nat) (x_size : Int32) (x_paired : Int32) (x_least : Nat → Int32) {out : Int32} (hf : X1_leastCost x_size x_least = some out) : ctI l yX1_leastCost wsX1_leastCost 0 0 D cy t [.ref (o_t 0)] (wd_X1_leastCost cy o_t x_size x_paired x_least) (wd_X1_leastCost cy o_t x_size x_paired x_least) out := by
  refine ⟨rfl, ?_⟩
  intro sz
  refine Met.ofW (cc := cX1_leastCost) (maxL := 1) (ret := (some .int)) (by decide) rfl ?_
  intro p e s m args below meth c s₁ B hml hv
  obtain ⟨rfl, hsz, hP, hK, hD0, hE⟩ := hv
  have hts := atoms_spec (ws := wsX1_leastCost) B.pre
  have hown : s.vm.findClass RX1 = some m.cls := findClass_of_methodNamed B.named
  have hlocks := B.notSynchronized
  subst hsz
  have hD := hD0.self (sz := s.heap.size)
  have hl := lv_entry ([.ref (o_t 0)]) (n := 1) (Nat.le_of_ble_eq_true rfl)
  rw [lg_entry_eq]
  generalize (lg_sl ([.ref (o_t 0)]) ++ List.replicate (1 - (lg_sl ([.ref (o_t 0)])).length) Slot.unset).toArray = ls at hl ⊢
  exact w_X1_leastCost D cy t o_t x_size x_paired x_least hf B.exec B.bytes hml hown hts hK hE (fun q h => Or.inr h) hP hD va_S.rf hl (fun H locs ls pc hP hD hS hdg => W.iret B.exec B.bytes B.returns (fun t ht hW => ⟨⟨_, (), rfl, rfl, ctB_of ht hP⟩, hS.F ht⟩) hS.2.2 hdg)

noncomputable def X1_firstOf_L2_B (rec2 : Int32 → Int32 → Option (Int32)) (l1 : Int32) (l2 : Int32) : Option (Int32) :=
  if (10 : Int32) ≤ l2 then (some (0 : Int32)) else (if ((l1 >>> (l2 &&& (31 : Int32))) &&& (1 : Int32)) = (1 : Int32) then (some l2) else (nm (l2 + (1 : Int32)) fun v19 => rec2  l1 v19))
noncomputable def X1_firstOf_L2 : Nat → Int32 → Int32 → Option (Int32)
  | 0, _, _ => none
  | n + 1, y0, y1 => X1_firstOf_L2_B  (X1_firstOf_L2  n) y0 y1
noncomputable def X1_firstOf (p1 : Int32) : Option (Int32) :=
  X1_firstOf_L2  FU  p1 (0 : Int32)
abbrev wd_X1_firstOf (cy : Nat → ClassId) (o_t : Nat → Nat) (x_size : Int32) (x_paired : Int32) : va_W := [(o_t 0, .inr (1, [.int x_size, .ref (o_t 2), .ref (o_t 3), .ref (o_t 4), .ref (o_t 5), .ref (o_t 6), .int x_paired]))]
set_option maxHeartbeats 4000000 in
set_option maxRecDepth 100000 in
theorem w_X1_firstOf {p : Program} {l : Launch} {e : Env} {s : State} {m : MethodId} {args : Array Value} {below : List Frame} {meth : Method} {c : Code} {Q : State → Prop} {A : Nat → Prop} {H : Heap} {locs : List Loc} {ls : Array Slot} (D : va_G) (cy : Nat → ClassId) (t : Nat → Nat) (o_t : Nat → Nat) (x_size : Int32) (x_paired : Int32) (p1 : Int32) {out : Int32} (hf : X1_firstOf p1 = some out) (hx : p.tables.exec = Jvm.exec) (hb : c.code = cX1_firstOf) (hml : c.maxLocals = 3) (hown : s.vm.findClass RX1 = some m.cls) (hts : ∀ w ∈ wsX1_firstOf, w.before args s = true) (hK : va_K D vwCl (TYS cy) s) (hE : EV t A s s.heap) (hA : ∀ q, s.heap.size ≤ q → A q) (hP : va_P D vwCl (wd_X1_firstOf cy o_t x_size x_paired) H) (hD : va_D A (wd_X1_firstOf cy o_t x_size x_paired)) (hS : va_S A s.heap H locs) (hl : lv_has ls 3 [(0, .ref (o_t 0)), (1, .int p1)]) (hR : ∀ (H : Heap) (locs : List Loc) (ls : Array Slot) (pc : Nat), va_P D vwCl (wd_X1_firstOf cy o_t x_size x_paired) H → va_D A (wd_X1_firstOf cy o_t x_size x_paired) → va_S A s.heap H locs → decode cX1_firstOf pc = .ok (.ireturn, 1) → W p l e (rmm 0 0) s m args below meth c H locs 0 0 Q (F0 m pc ls [.int out])) : W p l e (rmm 0 0) s m args below meth c H locs 0 0 Q (F0 m 0 ls []) := by
  rw [X1_firstOf] at hf
  have h2 : ∀ (n2 : Nat) (l1 : Int32) (l2 : Int32) (H : Heap) (locs : List Loc) (ls : Array Slot), X1_firstOf_L2 n2 l1 l2 = some out → va_P D vwCl (wd_X1_firstOf cy o_t x_size x_paired) H → va_D A (wd_X1_firstOf cy o_t x_size x_paired) → va_S A s.heap H locs → lv_has ls 3 [(1, .int l1), (2, .int l2)] → W p l e (rmm 0 0) s m args below meth c H locs 0 0 Q (F0 m 2 ls []) := by
    intro n2
    induction n2 with
    | zero =>
      intro _ _ _ _ _ hf
      exact nomatch (show (none : Option _) = some out from hf)
    | succ n2 ih2 =>
      intro l1 l2 H locs ls hf hP hD hS hl
      have hf : X1_firstOf_L2_B (X1_firstOf_L2 n2) l1 l2 = some out := hf
      rw [X1_firstOf_L2_B] at hf
      refine lv_iload_n hx hb dX1_firstOf_2 rfl (lv_at hl 1 rfl) ?_
      refine lv_bipush (v := (10 : Int32)) hx hb dX1_firstOf_3 (by decide) ?_
      refine lv_icmp_ge (tgt := 25) hx hb dX1_firstOf_5 (by decide) (fun c5 => ?_) (fun c5 => ?_)
      · have hf := ifp c5 hf
        refine lv_iconst (v := (0 : Int32)) hx hb dX1_firstOf_25 (by decide) ?_
        obtain rfl := Option.some.inj hf
        exact hR _ _ _ _ hP hD hS dX1_firstOf_26
      · have hf := ifn c5 hf
        refine lv_iload_n hx hb dX1_firstOf_8 rfl (lv_at hl 0 rfl) ?_
        refine lv_iload_n hx hb dX1_firstOf_9 rfl (lv_at hl 1 rfl) ?_
        refine lv_ishr hx hb dX1_firstOf_10 ?_
        refine lv_iconst (v := (1 : Int32)) hx hb dX1_firstOf_11 (by decide) ?_
        refine lv_iand hx hb dX1_firstOf_12 ?_
        refine lv_iconst (v := (1 : Int32)) hx hb dX1_firstOf_13 (by decide) ?_
        refine lv_icmp_ne (tgt := 19) hx hb dX1_firstOf_14 (by decide) (fun c14 => ?_) (fun c14 => ?_)
        · have hf := ifn c14 hf
          obtain ⟨v19, ev19, hf⟩ := nm_s hf
          refine lv_iinc (v := v19) (lv' := [(2, .int v19), (1, .int l1)]) hx hb dX1_firstOf_19 hl (k := 1) rfl (by rw [ev19]; rfl) (by decide) rfl (fun ls hl => ?_)
          refine lv_goto (tgt := 2) hx hb dX1_firstOf_22 (by decide) ?_
          exact ih2 _ _ _ _ _ hf hP hD hS (lv_sub hl [1, 0] rfl)
        · have hf := ifp c14 hf
          refine lv_iload_n hx hb dX1_firstOf_17 rfl (lv_at hl 1 rfl) ?_
          obtain rfl := Option.some.inj hf
          exact hR _ _ _ _ hP hD hS dX1_firstOf_18
  refine lv_iconst (v := (0 : Int32)) hx hb dX1_firstOf_0 (by decide) ?_
  refine lv_istore_n (lv' := [(2, .int (0 : Int32)), (0, .ref (o_t 0)), (1, .int p1)]) hx hb dX1_firstOf_1 rfl hl (by decide) rfl (fun ls hl => ?_)
  exact h2 FU _ _ _ _ _ hf hP hD hS (lv_sub hl [2, 0] rfl)
theorem hd_X1_firstOf : yX1_firstOf.cls ≠ "java/lang/invoke/MethodHandle" ∧ yX1_firstOf.cls ≠ "java/lang/invoke/VarHandle" ∧ (parseMethodDescriptor yX1_firstOf.desc).map (fun d => d.parameters.length) = some 1 := by decide +kernel
set_option maxRecDepth 100000 in
theorem c_X1_firstOf (l : Launch) (D : va_G) (cy : Nat → ClassId) (t : Nat → Nat) (o_t : Nat → Nat) (x_size : Int32) (x_paired : Int32) (p1 : Int32) {out : Int32} (hf : X1_firstOf p1 = some out) : ctI l yX1_firstOf wsX1_firstOf 0 0 D cy t [.ref (o_t 0), .int p1] (wd_X1_firstOf cy o_t x_size x_paired) (wd_X1_firstOf cy o_t x_size x_paired) out := by
  refine ⟨rfl, ?_⟩
  intro sz
  refine Met.ofW (cc := cX1_firstOf) (maxL := 3) (ret := (some .int)) (by decide) rfl ?_
  intro p e s m args below meth c s₁ B hml hv
  obtain ⟨rfl, hsz, hP, hK, hD0, hE⟩ := hv
  have hts := atoms_spec (ws := wsX1_firstOf) B.pre
  have hown : s.vm.findClass RX1 = some m.cls := findClass_of_methodNamed B.named
  have hlocks := B.notSynchronized
  subst hsz
  have hD := hD0.self (sz := s.heap.size)
  have hl := lv_entry ([.ref (o_t 0), .int p1]) (n := 3) (Nat.le_of_ble_eq_true rfl)
  rw [lg_entry_eq]
  generalize (lg_sl ([.ref (o_t 0), .int p1]) ++ List.replicate (3 - (lg_sl ([.ref (o_t 0), .int p1])).length) Slot.unset).toArray = ls at hl ⊢
  exact w_X1_firstOf D cy t o_t x_size x_paired p1 hf B.exec B.bytes hml hown hts hK hE (fun q h => Or.inr h) hP hD va_S.rf hl (fun H locs ls pc hP hD hS hdg => W.iret B.exec B.bytes B.returns (fun t ht hW => ⟨⟨_, (), rfl, rfl, ctB_of ht hP⟩, hS.F ht⟩) hS.2.2 hdg)

noncomputable def X1_costOfPair (x_skills : Nat → Int32) (x_shores : Nat → Int32) (x_fars : Nat → Int32) (p1 : Int32) (p2 : Int32) : Option (Int32) :=
  rd x_skills 10 p1 fun v5 => rd x_skills 10 p2 fun v11 => rd x_shores 10 p1 fun v25 => rd x_shores 10 p2 fun v33 => rd x_fars 16 ((v25 * (4 : Int32)) + v33) fun v35 => some ((if (0 : Int32) ≤ (v5 - v11) then (v5 - v11) else (0 : Int32) - (v5 - v11)) + v35)
abbrev wd_X1_costOfPair (cy : Nat → ClassId) (o_t : Nat → Nat) (x_size : Int32) (x_paired : Int32) (x_skills : Nat → Int32) (x_shores : Nat → Int32) (x_fars : Nat → Int32) : va_W := [(o_t 0, .inr (1, [.int x_size, .ref (o_t 2), .ref (o_t 3), .ref (o_t 4), .ref (o_t 5), .ref (o_t 6), .int x_paired])), (o_t 3, .inl (cy 0, 10, .inl x_skills)), (o_t 4, .inl (cy 0, 10, .inl x_shores)), (o_t 5, .inl (cy 0, 16, .inl x_fars))]
set_option maxHeartbeats 4000000 in
set_option maxRecDepth 100000 in
theorem w_X1_costOfPair {p : Program} {l : Launch} {e : Env} {s : State} {m : MethodId} {args : Array Value} {below : List Frame} {meth : Method} {c : Code} {Q : State → Prop} {A : Nat → Prop} {H : Heap} {locs : List Loc} {ls : Array Slot} (D : va_G) (cy : Nat → ClassId) (t : Nat → Nat) (o_t : Nat → Nat) (x_size : Int32) (x_paired : Int32) (x_skills : Nat → Int32) (x_shores : Nat → Int32) (x_fars : Nat → Int32) (p1 : Int32) (p2 : Int32) {out : Int32} (hf : X1_costOfPair x_skills x_shores x_fars p1 p2 = some out) (hx : p.tables.exec = Jvm.exec) (hb : c.code = cX1_costOfPair) (hml : c.maxLocals = 3) (hown : s.vm.findClass RX1 = some m.cls) (hts : ∀ w ∈ wsX1_costOfPair, w.before args s = true) (hK : va_K D vwCl (TYS cy) s) (hE : EV t A s s.heap) (hA : ∀ q, s.heap.size ≤ q → A q) (hP : va_P D vwCl (wd_X1_costOfPair cy o_t x_size x_paired x_skills x_shores x_fars) H) (hD : va_D A (wd_X1_costOfPair cy o_t x_size x_paired x_skills x_shores x_fars)) (hS : va_S A s.heap H locs) (hl : lv_has ls 3 [(0, .ref (o_t 0)), (1, .int p1), (2, .int p2)]) (hR : ∀ (H : Heap) (locs : List Loc) (ls : Array Slot) (pc : Nat), va_P D vwCl (wd_X1_costOfPair cy o_t x_size x_paired x_skills x_shores x_fars) H → va_D A (wd_X1_costOfPair cy o_t x_size x_paired x_skills x_shores x_fars) → va_S A s.heap H locs → decode cX1_costOfPair pc = .ok (.ireturn, 1) → W p l e (rmm 1 21) s m args below meth c H locs 0 0 Q (F0 m pc ls [.int out])) : W p l e (rmm 1 21) s m args below meth c H locs 0 0 Q (F0 m 0 ls []) := by
  have k0 := hts (.fieldLink RX1 19 "SeaGames$Crowd" "skills" "[I") (List.mem_cons_of_mem _ (List.mem_append_left _ (List.mem_of_getElem? (i := 0) rfl)))
  have k1 : ∀ w ∈ u_ws RX1 TX1 7, w ∈ wsX1_costOfPair := fun _ h => List.mem_cons_of_mem _ (List.mem_append_right _ h)
  have k2 := hts (.methodLink RX1 43 Lib.Math.abs.name) (List.mem_cons_of_mem _ (List.mem_append_left _ (List.mem_of_getElem? (i := 1) rfl)))
  have k3 := hts (.static Lib.Math.abs.name) (List.mem_cons_of_mem _ (List.mem_append_left _ (List.mem_of_getElem? (i := 2) rfl)))
  have k4 := hts (.initialized "java/lang/Math") (List.mem_cons_of_mem _ (List.mem_append_left _ (List.mem_of_getElem? (i := 3) rfl)))
  have k5 := hts (.code Lib.Math.abs.name Lib.Math.abs.code 1 (some .int)) (List.mem_cons_of_mem _ (List.mem_append_left _ (List.mem_of_getElem? (i := 4) rfl)))
  have k6 := hts (.fieldLink RX1 25 "SeaGames$Crowd" "fars" "[I") (List.mem_cons_of_mem _ (List.mem_append_left _ (List.mem_of_getElem? (i := 5) rfl)))
  have k7 := hts (.fieldLink RX1 22 "SeaGames$Crowd" "shores" "[I") (List.mem_cons_of_mem _ (List.mem_append_left _ (List.mem_of_getElem? (i := 6) rfl)))
  rw [X1_costOfPair] at hf
  refine lv_aload_n hx hb dX1_costOfPair_0 rfl (lv_at hl 0 rfl) ?_
  refine va_get (D := D) (ci := 1) (v := .ref (o_t 3)) (C := RX1) (T := TX1) (N := 7) hx hb hts k1 hown hK hP 0 rfl rfl 2 (by decide) k0 (fun _ h9 => h9) rfl dX1_costOfPair_1 ?_
  refine lv_iload_n hx hb dX1_costOfPair_4 rfl (lv_at hl 1 rfl) ?_
  obtain ⟨v5, b5, ev5, hf⟩ := rd_s hf
  refine my_iald hx hb hK hP 1 rfl b5 ev5 dX1_costOfPair_5 ?_
  refine lv_aload_n hx hb dX1_costOfPair_6 rfl (lv_at hl 0 rfl) ?_
  refine va_get (D := D) (ci := 1) (v := .ref (o_t 3)) (C := RX1) (T := TX1) (N := 7) hx hb hts k1 hown hK hP 0 rfl rfl 2 (by decide) k0 (fun _ h9 => h9) rfl dX1_costOfPair_7 ?_
  refine lv_iload_n hx hb dX1_costOfPair_10 rfl (lv_at hl 2 rfl) ?_
  obtain ⟨v11, b11, ev11, hf⟩ := rd_s hf
  refine my_iald hx hb hK hP 1 rfl b11 ev11 dX1_costOfPair_11 ?_
  refine lv_isub hx hb dX1_costOfPair_12 ?_
  refine va_mabs hx hb (hml.trans hl.1.symm) hown k2 k3 k4 k5 (Nat.le_of_ble_eq_true rfl) (Nat.le_of_ble_eq_true rfl) (Nat.le_of_ble_eq_true rfl) (Nat.le_of_ble_eq_true rfl) dX1_costOfPair_13 ?_
  refine lv_aload_n hx hb dX1_costOfPair_16 rfl (lv_at hl 0 rfl) ?_
  refine va_get (D := D) (ci := 1) (v := .ref (o_t 5)) (C := RX1) (T := TX1) (N := 7) hx hb hts k1 hown hK hP 0 rfl rfl 4 (by decide) k6 (fun _ h9 => h9) rfl dX1_costOfPair_17 ?_
  refine lv_aload_n hx hb dX1_costOfPair_20 rfl (lv_at hl 0 rfl) ?_
  refine va_get (D := D) (ci := 1) (v := .ref (o_t 4)) (C := RX1) (T := TX1) (N := 7) hx hb hts k1 hown hK hP 0 rfl rfl 3 (by decide) k7 (fun _ h9 => h9) rfl dX1_costOfPair_21 ?_
  refine lv_iload_n hx hb dX1_costOfPair_24 rfl (lv_at hl 1 rfl) ?_
  obtain ⟨v25, b25, ev25, hf⟩ := rd_s hf
  refine my_iald hx hb hK hP 2 rfl b25 ev25 dX1_costOfPair_25 ?_
  refine lv_iconst (v := (4 : Int32)) hx hb dX1_costOfPair_26 (by decide) ?_
  refine lv_imul hx hb dX1_costOfPair_27 ?_
  refine lv_aload_n hx hb dX1_costOfPair_28 rfl (lv_at hl 0 rfl) ?_
  refine va_get (D := D) (ci := 1) (v := .ref (o_t 4)) (C := RX1) (T := TX1) (N := 7) hx hb hts k1 hown hK hP 0 rfl rfl 3 (by decide) k7 (fun _ h9 => h9) rfl dX1_costOfPair_29 ?_
  refine lv_iload_n hx hb dX1_costOfPair_32 rfl (lv_at hl 2 rfl) ?_
  obtain ⟨v33, b33, ev33, hf⟩ := rd_s hf
  refine my_iald hx hb hK hP 2 rfl b33 ev33 dX1_costOfPair_33 ?_
  refine lv_iadd hx hb dX1_costOfPair_34 ?_
  obtain ⟨v35, b35, ev35, hf⟩ := rd_s hf
  refine my_iald hx hb hK hP 3 rfl b35 ev35 dX1_costOfPair_35 ?_
  refine lv_iadd hx hb dX1_costOfPair_36 ?_
  obtain rfl := Option.some.inj hf
  exact hR _ _ _ _ hP hD hS dX1_costOfPair_37
theorem hd_X1_costOfPair : yX1_costOfPair.cls ≠ "java/lang/invoke/MethodHandle" ∧ yX1_costOfPair.cls ≠ "java/lang/invoke/VarHandle" ∧ (parseMethodDescriptor yX1_costOfPair.desc).map (fun d => d.parameters.length) = some 2 := by decide +kernel
set_option maxRecDepth 100000 in
theorem c_X1_costOfPair (l : Launch) (D : va_G) (cy : Nat → ClassId) (t : Nat → Nat) (o_t : Nat → Nat) (x_size : Int32) (x_paired : Int32) (x_skills : Nat → Int32) (x_shores : Nat → Int32) (x_fars : Nat → Int32) (p1 : Int32) (p2 : Int32) {out : Int32} (hf : X1_costOfPair x_skills x_shores x_fars p1 p2 = some out) : ctI l yX1_costOfPair wsX1_costOfPair 1 21 D cy t [.ref (o_t 0), .int p1, .int p2] (wd_X1_costOfPair cy o_t x_size x_paired x_skills x_shores x_fars) (wd_X1_costOfPair cy o_t x_size x_paired x_skills x_shores x_fars) out := by
  refine ⟨rfl, ?_⟩
  intro sz
  refine Met.ofW (cc := cX1_costOfPair) (maxL := 3) (ret := (some .int)) (by decide) rfl ?_
  intro p e s m args below meth c s₁ B hml hv
  obtain ⟨rfl, hsz, hP, hK, hD0, hE⟩ := hv
  have hts := atoms_spec (ws := wsX1_costOfPair) B.pre
  have hown : s.vm.findClass RX1 = some m.cls := findClass_of_methodNamed B.named
  have hlocks := B.notSynchronized
  subst hsz
  have hD := hD0.self (sz := s.heap.size)
  have hl := lv_entry ([.ref (o_t 0), .int p1, .int p2]) (n := 3) (Nat.le_of_ble_eq_true rfl)
  rw [lg_entry_eq]
  generalize (lg_sl ([.ref (o_t 0), .int p1, .int p2]) ++ List.replicate (3 - (lg_sl ([.ref (o_t 0), .int p1, .int p2])).length) Slot.unset).toArray = ls at hl ⊢
  exact w_X1_costOfPair D cy t o_t x_size x_paired x_skills x_shores x_fars p1 p2 hf B.exec B.bytes hml hown hts hK hE (fun q h => Or.inr h) hP hD va_S.rf hl (fun H locs ls pc hP hD hS hdg => W.iret B.exec B.bytes B.returns (fun t ht hW => ⟨⟨_, (), rfl, rfl, ctB_of ht hP⟩, hS.F ht⟩) hS.2.2 hdg)

noncomputable def X1_leastOf_J97 (x_size : Int32) (x_skills : Nat → Int32) (x_shores : Nat → Int32) (x_fars : Nat → Int32) (x_least : Nat → Int32) (rec52 : Int32 → Int32 → Int32 → Int32 → Option (Int32)) (l2 : Int32) (l3 : Int32) (l5 : Int32) (l6 : Int32) : Option (Int32) :=
  nm (l6 + (1 : Int32)) fun v97 => rec52  l2 l3 l5 v97
noncomputable def X1_leastOf_L52_B (x_size : Int32) (x_skills : Nat → Int32) (x_shores : Nat → Int32) (x_fars : Nat → Int32) (x_least : Nat → Int32) (rec52 : Int32 → Int32 → Int32 → Int32 → Option (Int32)) (l2 : Int32) (l3 : Int32) (l5 : Int32) (l6 : Int32) : Option (Int32) :=
  if x_size ≤ l6 then (some l5) else (if ((l3 >>> (l6 &&& (31 : Int32))) &&& (1 : Int32)) = (1 : Int32) then (bd (X1_costOfPair x_skills x_shores x_fars l2 l6) fun r77 => rd x_least 1024 (l3 ^^^ ((1 : Int32) <<< (l6 &&& (31 : Int32)))) fun v90 => nm (if (r77 + v90) < l5 then (r77 + v90) else l5) fun v95 => X1_leastOf_J97 x_size x_skills x_shores x_fars x_least rec52  l2 l3 v95 l6) else (X1_leastOf_J97 x_size x_skills x_shores x_fars x_least rec52  l2 l3 l5 l6))
noncomputable def X1_leastOf_L52 (x_size : Int32) (x_skills : Nat → Int32) (x_shores : Nat → Int32) (x_fars : Nat → Int32) (x_least : Nat → Int32) : Nat → Int32 → Int32 → Int32 → Int32 → Option (Int32)
  | 0, _, _, _, _ => none
  | n + 1, y0, y1, y2, y3 => X1_leastOf_L52_B x_size x_skills x_shores x_fars x_least  (X1_leastOf_L52 x_size x_skills x_shores x_fars x_least  n) y0 y1 y2 y3
noncomputable def X1_leastOf_J45 (x_size : Int32) (x_skills : Nat → Int32) (x_shores : Nat → Int32) (x_fars : Nat → Int32) (x_least : Nat → Int32) (l2 : Int32) (l3 : Int32) (s0 : Int32) : Option (Int32) :=
  nm (l2 + (1 : Int32)) fun v50 => X1_leastOf_L52 x_size x_skills x_shores x_fars x_least  FU  l2 l3 s0 v50
noncomputable def X1_leastOf_J27 (x_size : Int32) (x_skills : Nat → Int32) (x_shores : Nat → Int32) (x_fars : Nat → Int32) (x_least : Nat → Int32) (l2 : Int32) (l3 : Int32) (s0 : Int32) : Option (Int32) :=
  if s0 = (0 : Int32) then (X1_leastOf_J45 x_size x_skills x_shores x_fars x_least   l2 l3 (2147483647 : Int32)) else (rd x_least 1024 l3 fun v39 => X1_leastOf_J45 x_size x_skills x_shores x_fars x_least   l2 l3 v39)
noncomputable def X1_leastOf (x_size : Int32) (x_skills : Nat → Int32) (x_shores : Nat → Int32) (x_fars : Nat → Int32) (x_least : Nat → Int32) (p1 : Int32) : Option (Int32) :=
  bd (X1_firstOf p1) fun r2 => nm (p1 ^^^ ((1 : Int32) <<< (r2 &&& (31 : Int32)))) fun v11 => bd (J6_bitCount_0f7a4 p1) fun r13 => if (r13 &&& (1 : Int32)) = (1 : Int32) then (X1_leastOf_J27 x_size x_skills x_shores x_fars x_least   r2 v11 (1 : Int32)) else (X1_leastOf_J27 x_size x_skills x_shores x_fars x_least   r2 v11 (0 : Int32))
abbrev wd_X1_leastOf (cy : Nat → ClassId) (o_t : Nat → Nat) (x_size : Int32) (x_paired : Int32) (x_skills : Nat → Int32) (x_shores : Nat → Int32) (x_fars : Nat → Int32) (x_least : Nat → Int32) : va_W := [(o_t 0, .inr (1, [.int x_size, .ref (o_t 2), .ref (o_t 3), .ref (o_t 4), .ref (o_t 5), .ref (o_t 6), .int x_paired])), (o_t 3, .inl (cy 0, 10, .inl x_skills)), (o_t 4, .inl (cy 0, 10, .inl x_shores)), (o_t 5, .inl (cy 0, 16, .inl x_fars)), (o_t 6, .inl (cy 0, 1024, .inl x_least))]
set_option maxHeartbeats 4000000 in
set_option maxRecDepth 100000 in
theorem w_X1_leastOf {p : Program} {l : Launch} {e : Env} {s : State} {m : MethodId} {args : Array Value} {below : List Frame} {meth : Method} {c : Code} {Q : State → Prop} {A : Nat → Prop} {H : Heap} {locs : List Loc} {ls : Array Slot} (D : va_G) (cy : Nat → ClassId) (t : Nat → Nat) (o_t : Nat → Nat) (x_size : Int32) (x_paired : Int32) (x_skills : Nat → Int32) (x_shores : Nat → Int32) (x_fars : Nat → Int32) (x_least : Nat → Int32) (p1 : Int32) {out : Int32} (hf : X1_leastOf x_size x_skills x_shores x_fars x_least p1 = some out) (hx : p.tables.exec = Jvm.exec) (hb : c.code = cX1_leastOf) (hml : c.maxLocals = 7) (hown : s.vm.findClass RX1 = some m.cls) (hts : ∀ w ∈ wsX1_leastOf, w.before args s = true) (hK : va_K D vwCl (TYS cy) s) (hE : EV t A s s.heap) (hA : ∀ q, s.heap.size ≤ q → A q) (hP : va_P D vwCl (wd_X1_leastOf cy o_t x_size x_paired x_skills x_shores x_fars x_least) H) (hD : va_D A (wd_X1_leastOf cy o_t x_size x_paired x_skills x_shores x_fars x_least)) (hS : va_S A s.heap H locs) (hl : lv_has ls 7 [(0, .ref (o_t 0)), (1, .int p1)]) (hR : ∀ (H : Heap) (locs : List Loc) (ls : Array Slot) (pc : Nat), va_P D vwCl (wd_X1_leastOf cy o_t x_size x_paired x_skills x_shores x_fars x_least) H → va_D A (wd_X1_leastOf cy o_t x_size x_paired x_skills x_shores x_fars x_least) → va_S A s.heap H locs → decode cX1_leastOf pc = .ok (.ireturn, 1) → W p l e (rmm 2 43) s m args below meth c H locs 0 0 Q (F0 m pc ls [.int out])) : W p l e (rmm 2 43) s m args below meth c H locs 0 0 Q (F0 m 0 ls []) := by
  have k0 := hts (.constant RX1 56 (2147483647)) (List.mem_cons_of_mem _ (List.mem_append_left _ (List.mem_append_left _ (List.mem_of_getElem? (i := 1) rfl))))
  have k1 := hts (.fieldLink RX1 9 "SeaGames$Crowd" "size" "I") (List.mem_cons_of_mem _ (List.mem_append_left _ (List.mem_append_left _ (List.mem_of_getElem? (i := 2) rfl))))
  have k2 : ∀ w ∈ u_ws RX1 TX1 7, w ∈ wsX1_leastOf := fun _ h => List.mem_cons_of_mem _ (List.mem_append_right _ h)
  have k3 := hts (.fieldLink RX1 28 "SeaGames$Crowd" "least" "[I") (List.mem_cons_of_mem _ (List.mem_append_left _ (List.mem_append_left _ (List.mem_of_getElem? (i := 0) rfl))))
  have k4 := hts (.methodLink RX1 60 Lib.Math.min.name) (List.mem_cons_of_mem _ (List.mem_append_left _ (List.mem_append_left _ (List.mem_of_getElem? (i := 3) rfl))))
  have k5 := hts (.static Lib.Math.min.name) (List.mem_cons_of_mem _ (List.mem_append_left _ (List.mem_append_left _ (List.mem_of_getElem? (i := 4) rfl))))
  have k6 := hts (.initialized "java/lang/Math") (List.mem_cons_of_mem _ (List.mem_append_left _ (List.mem_append_left _ (List.mem_of_getElem? (i := 5) rfl))))
  have k7 := hts (.code Lib.Math.min.name Lib.Math.min.code 2 (some .int)) (List.mem_cons_of_mem _ (List.mem_append_left _ (List.mem_append_left _ (List.mem_of_getElem? (i := 6) rfl))))
  rw [X1_leastOf] at hf
  have h27 : ∀ (l2 : Int32) (l3 : Int32) (s0 : Int32) (H : Heap) (locs : List Loc) (ls : Array Slot), X1_leastOf_J27 x_size x_skills x_shores x_fars x_least l2 l3 s0 = some out → va_P D vwCl (wd_X1_leastOf cy o_t x_size x_paired x_skills x_shores x_fars x_least) H → va_D A (wd_X1_leastOf cy o_t x_size x_paired x_skills x_shores x_fars x_least) → va_S A s.heap H locs → lv_has ls 7 [(0, .ref (o_t 0)), (2, .int l2), (3, .int l3)] → W p l e (rmm 2 43) s m args below meth c H locs 0 0 Q (F0 m 27 ls [.int s0]) := by
    intro l2 l3 s0 H locs ls hf hP hD hS hl
    rw [X1_leastOf_J27] at hf
    have h45 : ∀ (l2 : Int32) (l3 : Int32) (s0 : Int32) (H : Heap) (locs : List Loc) (ls : Array Slot), X1_leastOf_J45 x_size x_skills x_shores x_fars x_least l2 l3 s0 = some out → va_P D vwCl (wd_X1_leastOf cy o_t x_size x_paired x_skills x_shores x_fars x_least) H → va_D A (wd_X1_leastOf cy o_t x_size x_paired x_skills x_shores x_fars x_least) → va_S A s.heap H locs → lv_has ls 7 [(0, .ref (o_t 0)), (2, .int l2), (3, .int l3)] → W p l e (rmm 2 43) s m args below meth c H locs 0 0 Q (F0 m 45 ls [.int s0]) := by
      intro l2 l3 s0 H locs ls hf hP hD hS hl
      rw [X1_leastOf_J45] at hf
      have h52 : ∀ (n52 : Nat) (l2 : Int32) (l3 : Int32) (l5 : Int32) (l6 : Int32) (H : Heap) (locs : List Loc) (ls : Array Slot), X1_leastOf_L52 x_size x_skills x_shores x_fars x_least n52 l2 l3 l5 l6 = some out → va_P D vwCl (wd_X1_leastOf cy o_t x_size x_paired x_skills x_shores x_fars x_least) H → va_D A (wd_X1_leastOf cy o_t x_size x_paired x_skills x_shores x_fars x_least) → va_S A s.heap H locs → lv_has ls 7 [(0, .ref (o_t 0)), (2, .int l2), (3, .int l3), (5, .int l5), (6, .int l6)] → W p l e (rmm 2 43) s m args below meth c H locs 0 0 Q (F0 m 52 ls []) := by
        intro n52
        induction n52 with
        | zero =>
          intro _ _ _ _ _ _ _ hf
          exact nomatch (show (none : Option _) = some out from hf)
        | succ n52 ih52 =>
          intro l2 l3 l5 l6 H locs ls hf hP hD hS hl
          have hf : X1_leastOf_L52_B x_size x_skills x_shores x_fars x_least (X1_leastOf_L52 x_size x_skills x_shores x_fars x_least n52) l2 l3 l5 l6 = some out := hf
          rw [X1_leastOf_L52_B] at hf
          refine lv_iload hx hb dX1_leastOf_52 (lv_at hl 4 rfl) ?_
          refine lv_aload_n hx hb dX1_leastOf_54 rfl (lv_at hl 0 rfl) ?_
          refine va_get (D := D) (ci := 1) (v := .int x_size) (C := RX1) (T := TX1) (N := 7) hx hb hts k2 hown hK hP 0 rfl rfl 0 (by decide) k1 (fun _ h9 => h9) rfl dX1_leastOf_55 ?_
          refine lv_icmp_ge (tgt := 103) hx hb dX1_leastOf_58 (by decide) (fun c58 => ?_) (fun c58 => ?_)
          · have hf := ifp c58 hf
            refine lv_iload hx hb dX1_leastOf_103 (lv_at hl 3 rfl) ?_
            obtain rfl := Option.some.inj hf
            exact hR _ _ _ _ hP hD hS dX1_leastOf_105
          · have hf := ifn c58 hf
            have h97 : ∀ (l2 : Int32) (l3 : Int32) (l5 : Int32) (l6 : Int32) (H : Heap) (locs : List Loc) (ls : Array Slot), X1_leastOf_J97 x_size x_skills x_shores x_fars x_least (X1_leastOf_L52 x_size x_skills x_shores x_fars x_least n52) l2 l3 l5 l6 = some out → va_P D vwCl (wd_X1_leastOf cy o_t x_size x_paired x_skills x_shores x_fars x_least) H → va_D A (wd_X1_leastOf cy o_t x_size x_paired x_skills x_shores x_fars x_least) → va_S A s.heap H locs → lv_has ls 7 [(0, .ref (o_t 0)), (2, .int l2), (3, .int l3), (5, .int l5), (6, .int l6)] → W p l e (rmm 2 43) s m args below meth c H locs 0 0 Q (F0 m 97 ls []) := by
              intro l2 l3 l5 l6 H locs ls hf hP hD hS hl
              rw [X1_leastOf_J97] at hf
              obtain ⟨v97, ev97, hf⟩ := nm_s hf
              refine lv_iinc (v := v97) (lv' := [(6, .int v97), (0, .ref (o_t 0)), (2, .int l2), (3, .int l3), (5, .int l5)]) hx hb dX1_leastOf_97 hl (k := 4) rfl (by rw [ev97]; rfl) (by decide) rfl (fun ls hl => ?_)
              refine lv_goto (tgt := 52) hx hb dX1_leastOf_100 (by decide) ?_
              exact ih52 _ _ _ _ _ _ _ hf hP hD hS (lv_sub hl [1, 2, 3, 4, 0] rfl)
            refine lv_iload_n hx hb dX1_leastOf_61 rfl (lv_at hl 2 rfl) ?_
            refine lv_iload hx hb dX1_leastOf_62 (lv_at hl 4 rfl) ?_
            refine lv_ishr hx hb dX1_leastOf_64 ?_
            refine lv_iconst (v := (1 : Int32)) hx hb dX1_leastOf_65 (by decide) ?_
            refine lv_iand hx hb dX1_leastOf_66 ?_
            refine lv_iconst (v := (1 : Int32)) hx hb dX1_leastOf_67 (by decide) ?_
            refine lv_icmp_ne (tgt := 97) hx hb dX1_leastOf_68 (by decide) (fun c68 => ?_) (fun c68 => ?_)
            · have hf := ifn c68 hf
              exact h97 _ _ _ _ _ _ _ hf hP hD hS (lv_sub hl [0, 1, 2, 3, 4] rfl)
            · have hf := ifp c68 hf
              refine lv_iload hx hb dX1_leastOf_71 (lv_at hl 3 rfl) ?_
              refine lv_aload_n hx hb dX1_leastOf_73 rfl (lv_at hl 0 rfl) ?_
              refine lv_iload_n hx hb dX1_leastOf_74 rfl (lv_at hl 1 rfl) ?_
              refine lv_iload hx hb dX1_leastOf_75 (lv_at hl 4 rfl) ?_
              obtain ⟨r77, hr77, hf⟩ := bd_s hf
              refine my_Vi (WS2 := (wd_X1_leastOf cy o_t x_size x_paired x_skills x_shores x_fars x_least)) ⟨hx, hb, hml, hown, hts⟩ (c_X1_costOfPair l D cy t o_t x_size x_paired x_skills x_shores x_fars l2 l6 hr77) (cwV 2 hts gX1_leastOf_X1_costOfPair rfl rfl rfl ⟨rfl, hd_X1_costOfPair⟩ ⟨Nat.le_of_ble_eq_true rfl, Nat.le_of_ble_eq_true rfl⟩) hK hE hP hD hS hA [0, 1, 2, 3] 5 1 0 rfl rfl rfl rfl (by decide +kernel) rfl rfl hl.1 rfl (Nat.le_of_ble_eq_true rfl) dX1_leastOf_77 ⟨Nat.le_of_ble_eq_true rfl, Nat.le_of_ble_eq_true rfl⟩ (fun H locs hP hD hS => ?_)
              refine lv_aload_n hx hb dX1_leastOf_80 rfl (lv_at hl 0 rfl) ?_
              refine va_get (D := D) (ci := 1) (v := .ref (o_t 6)) (C := RX1) (T := TX1) (N := 7) hx hb hts k2 hown hK hP 0 rfl rfl 5 (by decide) k3 (fun _ h9 => h9) rfl dX1_leastOf_81 ?_
              refine lv_iload_n hx hb dX1_leastOf_84 rfl (lv_at hl 2 rfl) ?_
              refine lv_iconst (v := (1 : Int32)) hx hb dX1_leastOf_85 (by decide) ?_
              refine lv_iload hx hb dX1_leastOf_86 (lv_at hl 4 rfl) ?_
              refine lv_ishl hx hb dX1_leastOf_88 ?_
              refine lv_ixor hx hb dX1_leastOf_89 ?_
              obtain ⟨v90, b90, ev90, hf⟩ := rd_s hf
              refine my_iald hx hb hK hP 4 rfl b90 ev90 dX1_leastOf_90 ?_
              refine lv_iadd hx hb dX1_leastOf_91 ?_
              refine va_mmin hx hb (hml.trans hl.1.symm) hown k4 k5 k6 k7 (Nat.le_of_ble_eq_true rfl) (Nat.le_of_ble_eq_true rfl) (Nat.le_of_ble_eq_true rfl) (Nat.le_of_ble_eq_true rfl) dX1_leastOf_92 ?_
              obtain ⟨v95, ev95, hf⟩ := nm_s hf
              refine my_topi ev95 ?_
              refine lv_istore (lv' := [(5, .int v95), (0, .ref (o_t 0)), (2, .int l2), (3, .int l3), (6, .int l6)]) hx hb dX1_leastOf_95 hl (by decide) rfl (fun ls hl => ?_)
              exact h97 _ _ _ _ _ _ _ hf hP hD hS (lv_sub hl [1, 2, 3, 0, 4] rfl)
      refine lv_istore (lv' := [(5, .int s0), (0, .ref (o_t 0)), (2, .int l2), (3, .int l3)]) hx hb dX1_leastOf_45 hl (by decide) rfl (fun ls hl => ?_)
      refine lv_iload_n hx hb dX1_leastOf_47 rfl (lv_at hl 2 rfl) ?_
      refine lv_iconst (v := (1 : Int32)) hx hb dX1_leastOf_48 (by decide) ?_
      refine lv_iadd hx hb dX1_leastOf_49 ?_
      obtain ⟨v50, ev50, hf⟩ := nm_s hf
      refine my_topi ev50 ?_
      refine lv_istore (lv' := [(6, .int v50), (5, .int s0), (0, .ref (o_t 0)), (2, .int l2), (3, .int l3)]) hx hb dX1_leastOf_50 hl (by decide) rfl (fun ls hl => ?_)
      exact h52 FU _ _ _ _ _ _ _ hf hP hD hS (lv_sub hl [2, 3, 4, 1, 0] rfl)
    refine lv_istore (lv' := [(4, .int s0), (0, .ref (o_t 0)), (2, .int l2), (3, .int l3)]) hx hb dX1_leastOf_27 hl (by decide) rfl (fun ls hl => ?_)
    refine lv_iload hx hb dX1_leastOf_29 (lv_at hl 0 rfl) ?_
    refine lv_if_eq (tgt := 43) hx hb dX1_leastOf_31 (by decide) (fun c31 => ?_) (fun c31 => ?_)
    · have hf := ifp c31 hf
      refine lv_ldc (v := (2147483647 : Int32)) hx hb hown k0 dX1_leastOf_43 ?_
      exact h45 _ _ _ _ _ _ hf hP hD hS (lv_sub hl [1, 2, 3] rfl)
    · have hf := ifn c31 hf
      refine lv_aload_n hx hb dX1_leastOf_34 rfl (lv_at hl 1 rfl) ?_
      refine va_get (D := D) (ci := 1) (v := .ref (o_t 6)) (C := RX1) (T := TX1) (N := 7) hx hb hts k2 hown hK hP 0 rfl rfl 5 (by decide) k3 (fun _ h9 => h9) rfl dX1_leastOf_35 ?_
      refine lv_iload_n hx hb dX1_leastOf_38 rfl (lv_at hl 3 rfl) ?_
      obtain ⟨v39, b39, ev39, hf⟩ := rd_s hf
      refine my_iald hx hb hK hP 4 rfl b39 ev39 dX1_leastOf_39 ?_
      refine lv_goto (tgt := 45) hx hb dX1_leastOf_40 (by decide) ?_
      exact h45 _ _ _ _ _ _ hf hP hD hS (lv_sub hl [1, 2, 3] rfl)
  refine lv_aload_n hx hb dX1_leastOf_0 rfl (lv_at hl 0 rfl) ?_
  refine lv_iload_n hx hb dX1_leastOf_1 rfl (lv_at hl 1 rfl) ?_
  obtain ⟨r2, hr2, hf⟩ := bd_s hf
  refine my_Vi (WS2 := (wd_X1_leastOf cy o_t x_size x_paired x_skills x_shores x_fars x_least)) ⟨hx, hb, hml, hown, hts⟩ (c_X1_firstOf l D cy t o_t x_size x_paired p1 hr2) (cwV 1 hts gX1_leastOf_X1_firstOf rfl rfl rfl ⟨rfl, hd_X1_firstOf⟩ ⟨Nat.le_of_ble_eq_true rfl, Nat.le_of_ble_eq_true rfl⟩) hK hE hP hD hS hA [0] 5 1 0 rfl rfl rfl rfl (by decide +kernel) rfl rfl hl.1 rfl (Nat.le_of_ble_eq_true rfl) dX1_leastOf_2 ⟨Nat.le_of_ble_eq_true rfl, Nat.le_of_ble_eq_true rfl⟩ (fun H locs hP hD hS => ?_)
  refine lv_istore_n (lv' := [(2, .int r2), (0, .ref (o_t 0)), (1, .int p1)]) hx hb dX1_leastOf_5 rfl hl (by decide) rfl (fun ls hl => ?_)
  refine lv_iload_n hx hb dX1_leastOf_6 rfl (lv_at hl 2 rfl) ?_
  refine lv_iconst (v := (1 : Int32)) hx hb dX1_leastOf_7 (by decide) ?_
  refine lv_iload_n hx hb dX1_leastOf_8 rfl (lv_at hl 0 rfl) ?_
  refine lv_ishl hx hb dX1_leastOf_9 ?_
  refine lv_ixor hx hb dX1_leastOf_10 ?_
  obtain ⟨v11, ev11, hf⟩ := nm_s hf
  refine my_topi ev11 ?_
  refine lv_istore_n (lv' := [(3, .int v11), (2, .int r2), (0, .ref (o_t 0)), (1, .int p1)]) hx hb dX1_leastOf_11 rfl hl (by decide) rfl (fun ls hl => ?_)
  refine lv_iload_n hx hb dX1_leastOf_12 rfl (lv_at hl 3 rfl) ?_
  obtain ⟨r13, hr13, hf⟩ := bd_s hf
  refine my_Si (WS2 := (wd_X1_leastOf cy o_t x_size x_paired x_skills x_shores x_fars x_least)) ⟨hx, hb, hml, hown, hts⟩ (c_J6_bitCount_0f7a4 l D cy t p1 hr13) (va_cwS 1 hts gX1_leastOf_J6_bitCount_0f7a4 rfl rfl rfl hd_J6_bitCount_0f7a4 ⟨Nat.le_of_ble_eq_true rfl, Nat.le_of_ble_eq_true rfl⟩) hK hE hP hD hS hA [] 5 rfl rfl (by decide +kernel) rfl rfl hl.1 rfl (Nat.le_of_ble_eq_true rfl) dX1_leastOf_13 ⟨Nat.le_of_ble_eq_true rfl, Nat.le_of_ble_eq_true rfl⟩ (fun H locs hP hD hS => ?_)
  refine lv_iconst (v := (1 : Int32)) hx hb dX1_leastOf_16 (by decide) ?_
  refine lv_iand hx hb dX1_leastOf_17 ?_
  refine lv_iconst (v := (1 : Int32)) hx hb dX1_leastOf_18 (by decide) ?_
  refine lv_icmp_ne (tgt := 26) hx hb dX1_leastOf_19 (by decide) (fun c19 => ?_) (fun c19 => ?_)
  · have hf := ifn c19 hf
    refine lv_iconst (v := (0 : Int32)) hx hb dX1_leastOf_26 (by decide) ?_
    exact h27 _ _ _ _ _ _ hf hP hD hS (lv_sub hl [2, 1, 0] rfl)
  · have hf := ifp c19 hf
    refine lv_iconst (v := (1 : Int32)) hx hb dX1_leastOf_22 (by decide) ?_
    refine lv_goto (tgt := 27) hx hb dX1_leastOf_23 (by decide) ?_
    exact h27 _ _ _ _ _ _ hf hP hD hS (lv_sub hl [2, 1, 0] rfl)
theorem hd_X1_leastOf : yX1_leastOf.cls ≠ "java/lang/invoke/MethodHandle" ∧ yX1_leastOf.cls ≠ "java/lang/invoke/VarHandle" ∧ (parseMethodDescriptor yX1_leastOf.desc).map (fun d => d.parameters.length) = some 1 := by decide +kernel
set_option maxRecDepth 100000 in
theorem c_X1_leastOf (l : Launch) (D : va_G) (cy : Nat → ClassId) (t : Nat → Nat) (o_t : Nat → Nat) (x_size : Int32) (x_paired : Int32) (x_skills : Nat → Int32) (x_shores : Nat → Int32) (x_fars : Nat → Int32) (x_least : Nat → Int32) (p1 : Int32) {out : Int32} (hf : X1_leastOf x_size x_skills x_shores x_fars x_least p1 = some out) : ctI l yX1_leastOf wsX1_leastOf 2 43 D cy t [.ref (o_t 0), .int p1] (wd_X1_leastOf cy o_t x_size x_paired x_skills x_shores x_fars x_least) (wd_X1_leastOf cy o_t x_size x_paired x_skills x_shores x_fars x_least) out := by
  refine ⟨rfl, ?_⟩
  intro sz
  refine Met.ofW (cc := cX1_leastOf) (maxL := 7) (ret := (some .int)) (by decide) rfl ?_
  intro p e s m args below meth c s₁ B hml hv
  obtain ⟨rfl, hsz, hP, hK, hD0, hE⟩ := hv
  have hts := atoms_spec (ws := wsX1_leastOf) B.pre
  have hown : s.vm.findClass RX1 = some m.cls := findClass_of_methodNamed B.named
  have hlocks := B.notSynchronized
  subst hsz
  have hD := hD0.self (sz := s.heap.size)
  have hl := lv_entry ([.ref (o_t 0), .int p1]) (n := 7) (Nat.le_of_ble_eq_true rfl)
  rw [lg_entry_eq]
  generalize (lg_sl ([.ref (o_t 0), .int p1]) ++ List.replicate (7 - (lg_sl ([.ref (o_t 0), .int p1])).length) Slot.unset).toArray = ls at hl ⊢
  exact w_X1_leastOf D cy t o_t x_size x_paired x_skills x_shores x_fars x_least p1 hf B.exec B.bytes hml hown hts hK hE (fun q h => Or.inr h) hP hD va_S.rf hl (fun H locs ls pc hP hD hS hdg => W.iret B.exec B.bytes B.returns (fun t ht hW => ⟨⟨_, (), rfl, rfl, ctB_of ht hP⟩, hS.F ht⟩) hS.2.2 hdg)

noncomputable def X1_leastMate_J61 (x_size : Int32) (x_skills : Nat → Int32) (x_shores : Nat → Int32) (x_fars : Nat → Int32) (x_least : Nat → Int32) (rec11 : Int32 → Int32 → Int32 → Int32 → Option (Int32)) (l1 : Int32) (l2 : Int32) (l3 : Int32) (l4 : Int32) : Option (Int32) :=
  nm (l4 + (1 : Int32)) fun v61 => rec11  l1 l2 l3 v61
noncomputable def X1_leastMate_L11_B (x_size : Int32) (x_skills : Nat → Int32) (x_shores : Nat → Int32) (x_fars : Nat → Int32) (x_least : Nat → Int32) (rec11 : Int32 → Int32 → Int32 → Int32 → Option (Int32)) (l1 : Int32) (l2 : Int32) (l3 : Int32) (l4 : Int32) : Option (Int32) :=
  if x_size ≤ l4 then (some (-9 : Int32)) else (if ((l3 >>> (l4 &&& (31 : Int32))) &&& (1 : Int32)) = (1 : Int32) then (bd (X1_costOfPair x_skills x_shores x_fars l2 l4) fun r34 => rd x_least 1024 (l3 ^^^ ((1 : Int32) <<< (l4 &&& (31 : Int32)))) fun v47 => rd x_least 1024 l1 fun v54 => if (r34 + v47) = v54 then (some l4) else (X1_leastMate_J61 x_size x_skills x_shores x_fars x_least rec11  l1 l2 l3 l4)) else (X1_leastMate_J61 x_size x_skills x_shores x_fars x_least rec11  l1 l2 l3 l4))
noncomputable def X1_leastMate_L11 (x_size : Int32) (x_skills : Nat → Int32) (x_shores : Nat → Int32) (x_fars : Nat → Int32) (x_least : Nat → Int32) : Nat → Int32 → Int32 → Int32 → Int32 → Option (Int32)
  | 0, _, _, _, _ => none
  | n + 1, y0, y1, y2, y3 => X1_leastMate_L11_B x_size x_skills x_shores x_fars x_least  (X1_leastMate_L11 x_size x_skills x_shores x_fars x_least  n) y0 y1 y2 y3
noncomputable def X1_leastMate (x_size : Int32) (x_skills : Nat → Int32) (x_shores : Nat → Int32) (x_fars : Nat → Int32) (x_least : Nat → Int32) (p1 : Int32) (p2 : Int32) : Option (Int32) :=
  nm (p1 ^^^ ((1 : Int32) <<< (p2 &&& (31 : Int32)))) fun v5 => nm (p2 + (1 : Int32)) fun v9 => X1_leastMate_L11 x_size x_skills x_shores x_fars x_least  FU  p1 p2 v5 v9
abbrev wd_X1_leastMate (cy : Nat → ClassId) (o_t : Nat → Nat) (x_size : Int32) (x_paired : Int32) (x_skills : Nat → Int32) (x_shores : Nat → Int32) (x_fars : Nat → Int32) (x_least : Nat → Int32) : va_W := [(o_t 0, .inr (1, [.int x_size, .ref (o_t 2), .ref (o_t 3), .ref (o_t 4), .ref (o_t 5), .ref (o_t 6), .int x_paired])), (o_t 3, .inl (cy 0, 10, .inl x_skills)), (o_t 4, .inl (cy 0, 10, .inl x_shores)), (o_t 5, .inl (cy 0, 16, .inl x_fars)), (o_t 6, .inl (cy 0, 1024, .inl x_least))]
set_option maxHeartbeats 4000000 in
set_option maxRecDepth 100000 in
theorem w_X1_leastMate {p : Program} {l : Launch} {e : Env} {s : State} {m : MethodId} {args : Array Value} {below : List Frame} {meth : Method} {c : Code} {Q : State → Prop} {A : Nat → Prop} {H : Heap} {locs : List Loc} {ls : Array Slot} (D : va_G) (cy : Nat → ClassId) (t : Nat → Nat) (o_t : Nat → Nat) (x_size : Int32) (x_paired : Int32) (x_skills : Nat → Int32) (x_shores : Nat → Int32) (x_fars : Nat → Int32) (x_least : Nat → Int32) (p1 : Int32) (p2 : Int32) {out : Int32} (hf : X1_leastMate x_size x_skills x_shores x_fars x_least p1 p2 = some out) (hx : p.tables.exec = Jvm.exec) (hb : c.code = cX1_leastMate) (hml : c.maxLocals = 5) (hown : s.vm.findClass RX1 = some m.cls) (hts : ∀ w ∈ wsX1_leastMate, w.before args s = true) (hK : va_K D vwCl (TYS cy) s) (hE : EV t A s s.heap) (hA : ∀ q, s.heap.size ≤ q → A q) (hP : va_P D vwCl (wd_X1_leastMate cy o_t x_size x_paired x_skills x_shores x_fars x_least) H) (hD : va_D A (wd_X1_leastMate cy o_t x_size x_paired x_skills x_shores x_fars x_least)) (hS : va_S A s.heap H locs) (hl : lv_has ls 5 [(0, .ref (o_t 0)), (1, .int p1), (2, .int p2)]) (hR : ∀ (H : Heap) (locs : List Loc) (ls : Array Slot) (pc : Nat), va_P D vwCl (wd_X1_leastMate cy o_t x_size x_paired x_skills x_shores x_fars x_least) H → va_D A (wd_X1_leastMate cy o_t x_size x_paired x_skills x_shores x_fars x_least) → va_S A s.heap H locs → decode cX1_leastMate pc = .ok (.ireturn, 1) → W p l e (rmm 2 43) s m args below meth c H locs 0 0 Q (F0 m pc ls [.int out])) : W p l e (rmm 2 43) s m args below meth c H locs 0 0 Q (F0 m 0 ls []) := by
  have k0 := hts (.fieldLink RX1 9 "SeaGames$Crowd" "size" "I") (List.mem_cons_of_mem _ (List.mem_append_left _ (List.mem_of_getElem? (i := 0) rfl)))
  have k1 : ∀ w ∈ u_ws RX1 TX1 7, w ∈ wsX1_leastMate := fun _ h => List.mem_cons_of_mem _ (List.mem_append_right _ h)
  have k2 := hts (.fieldLink RX1 28 "SeaGames$Crowd" "least" "[I") (List.mem_cons_of_mem _ (List.mem_append_left _ (List.mem_of_getElem? (i := 1) rfl)))
  rw [X1_leastMate] at hf
  have h11 : ∀ (n11 : Nat) (l1 : Int32) (l2 : Int32) (l3 : Int32) (l4 : Int32) (H : Heap) (locs : List Loc) (ls : Array Slot), X1_leastMate_L11 x_size x_skills x_shores x_fars x_least n11 l1 l2 l3 l4 = some out → va_P D vwCl (wd_X1_leastMate cy o_t x_size x_paired x_skills x_shores x_fars x_least) H → va_D A (wd_X1_leastMate cy o_t x_size x_paired x_skills x_shores x_fars x_least) → va_S A s.heap H locs → lv_has ls 5 [(0, .ref (o_t 0)), (1, .int l1), (2, .int l2), (3, .int l3), (4, .int l4)] → W p l e (rmm 2 43) s m args below meth c H locs 0 0 Q (F0 m 11 ls []) := by
    intro n11
    induction n11 with
    | zero =>
      intro _ _ _ _ _ _ _ hf
      exact nomatch (show (none : Option _) = some out from hf)
    | succ n11 ih11 =>
      intro l1 l2 l3 l4 H locs ls hf hP hD hS hl
      have hf : X1_leastMate_L11_B x_size x_skills x_shores x_fars x_least (X1_leastMate_L11 x_size x_skills x_shores x_fars x_least n11) l1 l2 l3 l4 = some out := hf
      rw [X1_leastMate_L11_B] at hf
      refine lv_iload hx hb dX1_leastMate_11 (lv_at hl 4 rfl) ?_
      refine lv_aload_n hx hb dX1_leastMate_13 rfl (lv_at hl 0 rfl) ?_
      refine va_get (D := D) (ci := 1) (v := .int x_size) (C := RX1) (T := TX1) (N := 7) hx hb hts k1 hown hK hP 0 rfl rfl 0 (by decide) k0 (fun _ h9 => h9) rfl dX1_leastMate_14 ?_
      refine lv_icmp_ge (tgt := 67) hx hb dX1_leastMate_17 (by decide) (fun c17 => ?_) (fun c17 => ?_)
      · have hf := ifp c17 hf
        refine lv_bipush (v := (-9 : Int32)) hx hb dX1_leastMate_67 (by decide) ?_
        obtain rfl := Option.some.inj hf
        exact hR _ _ _ _ hP hD hS dX1_leastMate_69
      · have hf := ifn c17 hf
        have h61 : ∀ (l1 : Int32) (l2 : Int32) (l3 : Int32) (l4 : Int32) (H : Heap) (locs : List Loc) (ls : Array Slot), X1_leastMate_J61 x_size x_skills x_shores x_fars x_least (X1_leastMate_L11 x_size x_skills x_shores x_fars x_least n11) l1 l2 l3 l4 = some out → va_P D vwCl (wd_X1_leastMate cy o_t x_size x_paired x_skills x_shores x_fars x_least) H → va_D A (wd_X1_leastMate cy o_t x_size x_paired x_skills x_shores x_fars x_least) → va_S A s.heap H locs → lv_has ls 5 [(0, .ref (o_t 0)), (1, .int l1), (2, .int l2), (3, .int l3), (4, .int l4)] → W p l e (rmm 2 43) s m args below meth c H locs 0 0 Q (F0 m 61 ls []) := by
          intro l1 l2 l3 l4 H locs ls hf hP hD hS hl
          rw [X1_leastMate_J61] at hf
          obtain ⟨v61, ev61, hf⟩ := nm_s hf
          refine lv_iinc (v := v61) (lv' := [(4, .int v61), (0, .ref (o_t 0)), (1, .int l1), (2, .int l2), (3, .int l3)]) hx hb dX1_leastMate_61 hl (k := 4) rfl (by rw [ev61]; rfl) (by decide) rfl (fun ls hl => ?_)
          refine lv_goto (tgt := 11) hx hb dX1_leastMate_64 (by decide) ?_
          exact ih11 _ _ _ _ _ _ _ hf hP hD hS (lv_sub hl [1, 2, 3, 4, 0] rfl)
        refine lv_iload_n hx hb dX1_leastMate_20 rfl (lv_at hl 3 rfl) ?_
        refine lv_iload hx hb dX1_leastMate_21 (lv_at hl 4 rfl) ?_
        refine lv_ishr hx hb dX1_leastMate_23 ?_
        refine lv_iconst (v := (1 : Int32)) hx hb dX1_leastMate_24 (by decide) ?_
        refine lv_iand hx hb dX1_leastMate_25 ?_
        refine lv_iconst (v := (1 : Int32)) hx hb dX1_leastMate_26 (by decide) ?_
        refine lv_icmp_ne (tgt := 61) hx hb dX1_leastMate_27 (by decide) (fun c27 => ?_) (fun c27 => ?_)
        · have hf := ifn c27 hf
          exact h61 _ _ _ _ _ _ _ hf hP hD hS (lv_sub hl [0, 1, 2, 3, 4] rfl)
        · have hf := ifp c27 hf
          refine lv_aload_n hx hb dX1_leastMate_30 rfl (lv_at hl 0 rfl) ?_
          refine lv_iload_n hx hb dX1_leastMate_31 rfl (lv_at hl 2 rfl) ?_
          refine lv_iload hx hb dX1_leastMate_32 (lv_at hl 4 rfl) ?_
          obtain ⟨r34, hr34, hf⟩ := bd_s hf
          refine my_Vi (WS2 := (wd_X1_leastMate cy o_t x_size x_paired x_skills x_shores x_fars x_least)) ⟨hx, hb, hml, hown, hts⟩ (c_X1_costOfPair l D cy t o_t x_size x_paired x_skills x_shores x_fars l2 l4 hr34) (cwV 2 hts gX1_leastMate_X1_costOfPair rfl rfl rfl ⟨rfl, hd_X1_costOfPair⟩ ⟨Nat.le_of_ble_eq_true rfl, Nat.le_of_ble_eq_true rfl⟩) hK hE hP hD hS hA [0, 1, 2, 3] 5 1 0 rfl rfl rfl rfl (by decide +kernel) rfl rfl hl.1 rfl (Nat.le_of_ble_eq_true rfl) dX1_leastMate_34 ⟨Nat.le_of_ble_eq_true rfl, Nat.le_of_ble_eq_true rfl⟩ (fun H locs hP hD hS => ?_)
          refine lv_aload_n hx hb dX1_leastMate_37 rfl (lv_at hl 0 rfl) ?_
          refine va_get (D := D) (ci := 1) (v := .ref (o_t 6)) (C := RX1) (T := TX1) (N := 7) hx hb hts k1 hown hK hP 0 rfl rfl 5 (by decide) k2 (fun _ h9 => h9) rfl dX1_leastMate_38 ?_
          refine lv_iload_n hx hb dX1_leastMate_41 rfl (lv_at hl 3 rfl) ?_
          refine lv_iconst (v := (1 : Int32)) hx hb dX1_leastMate_42 (by decide) ?_
          refine lv_iload hx hb dX1_leastMate_43 (lv_at hl 4 rfl) ?_
          refine lv_ishl hx hb dX1_leastMate_45 ?_
          refine lv_ixor hx hb dX1_leastMate_46 ?_
          obtain ⟨v47, b47, ev47, hf⟩ := rd_s hf
          refine my_iald hx hb hK hP 4 rfl b47 ev47 dX1_leastMate_47 ?_
          refine lv_iadd hx hb dX1_leastMate_48 ?_
          refine lv_aload_n hx hb dX1_leastMate_49 rfl (lv_at hl 0 rfl) ?_
          refine va_get (D := D) (ci := 1) (v := .ref (o_t 6)) (C := RX1) (T := TX1) (N := 7) hx hb hts k1 hown hK hP 0 rfl rfl 5 (by decide) k2 (fun _ h9 => h9) rfl dX1_leastMate_50 ?_
          refine lv_iload_n hx hb dX1_leastMate_53 rfl (lv_at hl 1 rfl) ?_
          obtain ⟨v54, b54, ev54, hf⟩ := rd_s hf
          refine my_iald hx hb hK hP 4 rfl b54 ev54 dX1_leastMate_54 ?_
          refine lv_icmp_ne (tgt := 61) hx hb dX1_leastMate_55 (by decide) (fun c55 => ?_) (fun c55 => ?_)
          · have hf := ifn c55 hf
            exact h61 _ _ _ _ _ _ _ hf hP hD hS (lv_sub hl [0, 1, 2, 3, 4] rfl)
          · have hf := ifp c55 hf
            refine lv_iload hx hb dX1_leastMate_58 (lv_at hl 4 rfl) ?_
            obtain rfl := Option.some.inj hf
            exact hR _ _ _ _ hP hD hS dX1_leastMate_60
  refine lv_iload_n hx hb dX1_leastMate_0 rfl (lv_at hl 1 rfl) ?_
  refine lv_iconst (v := (1 : Int32)) hx hb dX1_leastMate_1 (by decide) ?_
  refine lv_iload_n hx hb dX1_leastMate_2 rfl (lv_at hl 2 rfl) ?_
  refine lv_ishl hx hb dX1_leastMate_3 ?_
  refine lv_ixor hx hb dX1_leastMate_4 ?_
  obtain ⟨v5, ev5, hf⟩ := nm_s hf
  refine my_topi ev5 ?_
  refine lv_istore_n (lv' := [(3, .int v5), (0, .ref (o_t 0)), (1, .int p1), (2, .int p2)]) hx hb dX1_leastMate_5 rfl hl (by decide) rfl (fun ls hl => ?_)
  refine lv_iload_n hx hb dX1_leastMate_6 rfl (lv_at hl 3 rfl) ?_
  refine lv_iconst (v := (1 : Int32)) hx hb dX1_leastMate_7 (by decide) ?_
  refine lv_iadd hx hb dX1_leastMate_8 ?_
  obtain ⟨v9, ev9, hf⟩ := nm_s hf
  refine my_topi ev9 ?_
  refine lv_istore (lv' := [(4, .int v9), (3, .int v5), (0, .ref (o_t 0)), (1, .int p1), (2, .int p2)]) hx hb dX1_leastMate_9 hl (by decide) rfl (fun ls hl => ?_)
  exact h11 FU _ _ _ _ _ _ _ hf hP hD hS (lv_sub hl [2, 3, 4, 1, 0] rfl)
theorem hd_X1_leastMate : yX1_leastMate.cls ≠ "java/lang/invoke/MethodHandle" ∧ yX1_leastMate.cls ≠ "java/lang/invoke/VarHandle" ∧ (parseMethodDescriptor yX1_leastMate.desc).map (fun d => d.parameters.length) = some 2 := by decide +kernel
set_option maxRecDepth 100000 in
theorem c_X1_leastMate (l : Launch) (D : va_G) (cy : Nat → ClassId) (t : Nat → Nat) (o_t : Nat → Nat) (x_size : Int32) (x_paired : Int32) (x_skills : Nat → Int32) (x_shores : Nat → Int32) (x_fars : Nat → Int32) (x_least : Nat → Int32) (p1 : Int32) (p2 : Int32) {out : Int32} (hf : X1_leastMate x_size x_skills x_shores x_fars x_least p1 p2 = some out) : ctI l yX1_leastMate wsX1_leastMate 2 43 D cy t [.ref (o_t 0), .int p1, .int p2] (wd_X1_leastMate cy o_t x_size x_paired x_skills x_shores x_fars x_least) (wd_X1_leastMate cy o_t x_size x_paired x_skills x_shores x_fars x_least) out := by
  refine ⟨rfl, ?_⟩
  intro sz
  refine Met.ofW (cc := cX1_leastMate) (maxL := 5) (ret := (some .int)) (by decide) rfl ?_
  intro p e s m args below meth c s₁ B hml hv
  obtain ⟨rfl, hsz, hP, hK, hD0, hE⟩ := hv
  have hts := atoms_spec (ws := wsX1_leastMate) B.pre
  have hown : s.vm.findClass RX1 = some m.cls := findClass_of_methodNamed B.named
  have hlocks := B.notSynchronized
  subst hsz
  have hD := hD0.self (sz := s.heap.size)
  have hl := lv_entry ([.ref (o_t 0), .int p1, .int p2]) (n := 5) (Nat.le_of_ble_eq_true rfl)
  rw [lg_entry_eq]
  generalize (lg_sl ([.ref (o_t 0), .int p1, .int p2]) ++ List.replicate (5 - (lg_sl ([.ref (o_t 0), .int p1, .int p2])).length) Slot.unset).toArray = ls at hl ⊢
  exact w_X1_leastMate D cy t o_t x_size x_paired x_skills x_shores x_fars x_least p1 p2 hf B.exec B.bytes hml hown hts hK hE (fun q h => Or.inr h) hP hD va_S.rf hl (fun H locs ls pc hP hD hS hdg => W.iret B.exec B.bytes B.returns (fun t ht hW => ⟨⟨_, (), rfl, rfl, ctB_of ht hP⟩, hS.F ht⟩) hS.2.2 hdg)

noncomputable def X1_pairUp_J110 (x_size : Int32) (x_skills : Nat → Int32) (x_shores : Nat → Int32) (x_fars : Nat → Int32) (x_paired : Int32) (x_mates : Nat → Int32) (x_least : Nat → Int32) : Option (Int32 × (Nat → Int32) × (Nat → Int32)) :=
  some ((1 : Int32), x_mates, x_least)
noncomputable def X1_pairUp_J104 (x_size : Int32) (x_skills : Nat → Int32) (x_shores : Nat → Int32) (x_fars : Nat → Int32) (rec48 : Int32 → (Nat → Int32) → (Nat → Int32) → Int32 → Int32 → Option (Int32 × (Nat → Int32) × (Nat → Int32))) (x_paired : Int32) (x_mates : Nat → Int32) (x_least : Nat → Int32) (l1 : Int32) (l2 : Int32) : Option (Int32 × (Nat → Int32) × (Nat → Int32)) :=
  nm (l2 + (1 : Int32)) fun v104 => rec48 x_paired x_mates x_least l1 v104
noncomputable def X1_pairUp_L48_B (x_size : Int32) (x_skills : Nat → Int32) (x_shores : Nat → Int32) (x_fars : Nat → Int32) (rec48 : Int32 → (Nat → Int32) → (Nat → Int32) → Int32 → Int32 → Option (Int32 × (Nat → Int32) × (Nat → Int32))) (x_paired : Int32) (x_mates : Nat → Int32) (x_least : Nat → Int32) (l1 : Int32) (l2 : Int32) : Option (Int32 × (Nat → Int32) × (Nat → Int32)) :=
  if x_size ≤ l2 then (X1_pairUp_J110 x_size x_skills x_shores x_fars  x_paired x_mates x_least ) else (if ((l1 >>> (l2 &&& (31 : Int32))) &&& (1 : Int32)) = (1 : Int32) then (bd (X1_leastMate x_size x_skills x_shores x_fars x_least l1 l2) fun r68 => wrI x_mates 10 l2 r68 fun w78 => nm (l1 ^^^ ((1 : Int32) <<< (l2 &&& (31 : Int32)))) fun v84 => if r68 = (-9 : Int32) then (X1_pairUp_J104 x_size x_skills x_shores x_fars rec48 x_paired w78 x_least v84 l2) else (wrI w78 10 r68 l2 fun w97 => nm (v84 ^^^ ((1 : Int32) <<< (r68 &&& (31 : Int32)))) fun v103 => X1_pairUp_J104 x_size x_skills x_shores x_fars rec48 x_paired w97 x_least v103 l2)) else (X1_pairUp_J104 x_size x_skills x_shores x_fars rec48 x_paired x_mates x_least l1 l2))
noncomputable def X1_pairUp_L48 (x_size : Int32) (x_skills : Nat → Int32) (x_shores : Nat → Int32) (x_fars : Nat → Int32) : Nat → Int32 → (Nat → Int32) → (Nat → Int32) → Int32 → Int32 → Option (Int32 × (Nat → Int32) × (Nat → Int32))
  | 0, _, _, _, _, _ => none
  | n + 1, y0, y1, y2, y3, y4 => X1_pairUp_L48_B x_size x_skills x_shores x_fars  (X1_pairUp_L48 x_size x_skills x_shores x_fars  n) y0 y1 y2 y3 y4
noncomputable def X1_pairUp_J37 (x_size : Int32) (x_skills : Nat → Int32) (x_shores : Nat → Int32) (x_fars : Nat → Int32) (x_paired : Int32) (x_mates : Nat → Int32) (x_least : Nat → Int32) : Option (Int32 × (Nat → Int32) × (Nat → Int32)) :=
  nm (((1 : Int32) <<< (x_size &&& (31 : Int32))) - (1 : Int32)) fun v45 => X1_pairUp_L48 x_size x_skills x_shores x_fars  FU x_paired x_mates x_least v45 (0 : Int32)
noncomputable def X1_pairUp_L10_B (x_size : Int32) (x_skills : Nat → Int32) (x_shores : Nat → Int32) (x_fars : Nat → Int32) (rec10 : Int32 → (Nat → Int32) → (Nat → Int32) → Int32 → Option (Int32 × (Nat → Int32) × (Nat → Int32))) (x_paired : Int32) (x_mates : Nat → Int32) (x_least : Nat → Int32) (l1 : Int32) : Option (Int32 × (Nat → Int32) × (Nat → Int32)) :=
  if ((1 : Int32) <<< (x_size &&& (31 : Int32))) ≤ l1 then (X1_pairUp_J37 x_size x_skills x_shores x_fars  x_paired x_mates x_least ) else (bd (X1_leastOf x_size x_skills x_shores x_fars x_least l1) fun r27 => wrI x_least 1024 l1 r27 fun w30 => nm (l1 + (1 : Int32)) fun v31 => rec10 x_paired x_mates w30 v31)
noncomputable def X1_pairUp_L10 (x_size : Int32) (x_skills : Nat → Int32) (x_shores : Nat → Int32) (x_fars : Nat → Int32) : Nat → Int32 → (Nat → Int32) → (Nat → Int32) → Int32 → Option (Int32 × (Nat → Int32) × (Nat → Int32))
  | 0, _, _, _, _ => none
  | n + 1, y0, y1, y2, y3 => X1_pairUp_L10_B x_size x_skills x_shores x_fars  (X1_pairUp_L10 x_size x_skills x_shores x_fars  n) y0 y1 y2 y3
noncomputable def X1_pairUp (x_size : Int32) (x_skills : Nat → Int32) (x_shores : Nat → Int32) (x_fars : Nat → Int32) (x_paired : Int32) (x_mates : Nat → Int32) (x_least : Nat → Int32) : Option (Int32 × (Nat → Int32) × (Nat → Int32)) :=
  if x_paired = (0 : Int32) then (X1_pairUp_L10 x_size x_skills x_shores x_fars  FU x_paired x_mates x_least (1 : Int32)) else (some (x_paired, x_mates, x_least))
abbrev wd_X1_pairUp (cy : Nat → ClassId) (o_t : Nat → Nat) (x_size : Int32) (x_paired : Int32) (x_mates : Nat → Int32) (x_skills : Nat → Int32) (x_shores : Nat → Int32) (x_fars : Nat → Int32) (x_least : Nat → Int32) : va_W := [(o_t 0, .inr (1, [.int x_size, .ref (o_t 2), .ref (o_t 3), .ref (o_t 4), .ref (o_t 5), .ref (o_t 6), .int x_paired])), (o_t 2, .inl (cy 0, 10, .inl x_mates)), (o_t 3, .inl (cy 0, 10, .inl x_skills)), (o_t 4, .inl (cy 0, 10, .inl x_shores)), (o_t 5, .inl (cy 0, 16, .inl x_fars)), (o_t 6, .inl (cy 0, 1024, .inl x_least))]
set_option maxHeartbeats 4000000 in
set_option maxRecDepth 100000 in
theorem w_X1_pairUp {p : Program} {l : Launch} {e : Env} {s : State} {m : MethodId} {args : Array Value} {below : List Frame} {meth : Method} {c : Code} {Q : State → Prop} {A : Nat → Prop} {H : Heap} {locs : List Loc} {ls : Array Slot} (D : va_G) (cy : Nat → ClassId) (t : Nat → Nat) (o_t : Nat → Nat) (x_size : Int32) (x_paired : Int32) (x_mates : Nat → Int32) (x_skills : Nat → Int32) (x_shores : Nat → Int32) (x_fars : Nat → Int32) (x_least : Nat → Int32) {out : Int32 × (Nat → Int32) × (Nat → Int32)} (hf : X1_pairUp x_size x_skills x_shores x_fars x_paired x_mates x_least = some out) (hx : p.tables.exec = Jvm.exec) (hb : c.code = cX1_pairUp) (hml : c.maxLocals = 4) (hown : s.vm.findClass RX1 = some m.cls) (hts : ∀ w ∈ wsX1_pairUp, w.before args s = true) (hK : va_K D vwCl (TYS cy) s) (hE : EV t A s s.heap) (hA : ∀ q, s.heap.size ≤ q → A q) (hP : va_P D vwCl (wd_X1_pairUp cy o_t x_size x_paired x_mates x_skills x_shores x_fars x_least) H) (hD : va_D A (wd_X1_pairUp cy o_t x_size x_paired x_mates x_skills x_shores x_fars x_least)) (hS : va_S A s.heap H locs) (hl : lv_has ls 4 [(0, .ref (o_t 0))]) (hR : ∀ (H : Heap) (locs : List Loc) (ls : Array Slot) (pc : Nat), va_P D vwCl (wd_X1_pairUp cy o_t x_size out.1 out.2.1 x_skills x_shores x_fars out.2.2) H → va_D A (wd_X1_pairUp cy o_t x_size out.1 out.2.1 x_skills x_shores x_fars out.2.2) → va_S A s.heap H locs → decode cX1_pairUp pc = .ok (.return_, 1) → W p l e (rmm 3 69) s m args below meth c H locs 0 0 Q (F0 m pc ls [])) : W p l e (rmm 3 69) s m args below meth c H locs 0 0 Q (F0 m 0 ls []) := by
  have k0 := hts (.fieldLink RX1 31 "SeaGames$Crowd" "paired" "Z") (List.mem_cons_of_mem _ (List.mem_append_left _ (List.mem_append_left _ (List.mem_of_getElem? (i := 0) rfl))))
  have k1 : ∀ w ∈ u_ws RX1 TX1 7, w ∈ wsX1_pairUp := fun _ h => List.mem_cons_of_mem _ (List.mem_append_right _ h)
  have k2 := hts (.fieldLink RX1 9 "SeaGames$Crowd" "size" "I") (List.mem_cons_of_mem _ (List.mem_append_left _ (List.mem_append_left _ (List.mem_of_getElem? (i := 1) rfl))))
  have k3 := hts (.fieldLink RX1 15 "SeaGames$Crowd" "mates" "[I") (List.mem_cons_of_mem _ (List.mem_append_left _ (List.mem_append_left _ (List.mem_of_getElem? (i := 3) rfl))))
  have k4 := hts (.fieldLink RX1 28 "SeaGames$Crowd" "least" "[I") (List.mem_cons_of_mem _ (List.mem_append_left _ (List.mem_append_left _ (List.mem_of_getElem? (i := 2) rfl))))
  rw [X1_pairUp] at hf
  refine lv_aload_n hx hb dX1_pairUp_0 rfl (lv_at hl 0 rfl) ?_
  refine va_get (D := D) (ci := 1) (v := .int x_paired) (C := RX1) (T := TX1) (N := 7) hx hb hts k1 hown hK hP 0 rfl rfl 6 (by decide) k0 (fun _ h9 => h9) rfl dX1_pairUp_1 ?_
  refine lv_if_eq (tgt := 8) hx hb dX1_pairUp_4 (by decide) (fun c4 => ?_) (fun c4 => ?_)
  · have hf := ifp c4 hf
    have h10 : ∀ (n10 : Nat) (x_paired : Int32) (x_mates : Nat → Int32) (x_least : Nat → Int32) (l1 : Int32) (H : Heap) (locs : List Loc) (ls : Array Slot), X1_pairUp_L10 x_size x_skills x_shores x_fars n10 x_paired x_mates x_least l1 = some out → va_P D vwCl (wd_X1_pairUp cy o_t x_size x_paired x_mates x_skills x_shores x_fars x_least) H → va_D A (wd_X1_pairUp cy o_t x_size x_paired x_mates x_skills x_shores x_fars x_least) → va_S A s.heap H locs → lv_has ls 4 [(0, .ref (o_t 0)), (1, .int l1)] → W p l e (rmm 3 69) s m args below meth c H locs 0 0 Q (F0 m 10 ls []) := by
      intro n10
      induction n10 with
      | zero =>
        intro _ _ _ _ _ _ _ hf
        exact nomatch (show (none : Option _) = some out from hf)
      | succ n10 ih10 =>
        intro x_paired x_mates x_least l1 H locs ls hf hP hD hS hl
        have hf : X1_pairUp_L10_B x_size x_skills x_shores x_fars (X1_pairUp_L10 x_size x_skills x_shores x_fars n10) x_paired x_mates x_least l1 = some out := hf
        rw [X1_pairUp_L10_B] at hf
        have h37 : ∀ (x_paired : Int32) (x_mates : Nat → Int32) (x_least : Nat → Int32) (H : Heap) (locs : List Loc) (ls : Array Slot), X1_pairUp_J37 x_size x_skills x_shores x_fars x_paired x_mates x_least = some out → va_P D vwCl (wd_X1_pairUp cy o_t x_size x_paired x_mates x_skills x_shores x_fars x_least) H → va_D A (wd_X1_pairUp cy o_t x_size x_paired x_mates x_skills x_shores x_fars x_least) → va_S A s.heap H locs → lv_has ls 4 [(0, .ref (o_t 0))] → W p l e (rmm 3 69) s m args below meth c H locs 0 0 Q (F0 m 37 ls []) := by
          intro x_paired x_mates x_least H locs ls hf hP hD hS hl
          rw [X1_pairUp_J37] at hf
          have h48 : ∀ (n48 : Nat) (x_paired : Int32) (x_mates : Nat → Int32) (x_least : Nat → Int32) (l1 : Int32) (l2 : Int32) (H : Heap) (locs : List Loc) (ls : Array Slot), X1_pairUp_L48 x_size x_skills x_shores x_fars n48 x_paired x_mates x_least l1 l2 = some out → va_P D vwCl (wd_X1_pairUp cy o_t x_size x_paired x_mates x_skills x_shores x_fars x_least) H → va_D A (wd_X1_pairUp cy o_t x_size x_paired x_mates x_skills x_shores x_fars x_least) → va_S A s.heap H locs → lv_has ls 4 [(0, .ref (o_t 0)), (1, .int l1), (2, .int l2)] → W p l e (rmm 3 69) s m args below meth c H locs 0 0 Q (F0 m 48 ls []) := by
            intro n48
            induction n48 with
            | zero =>
              intro _ _ _ _ _ _ _ _ hf
              exact nomatch (show (none : Option _) = some out from hf)
            | succ n48 ih48 =>
              intro x_paired x_mates x_least l1 l2 H locs ls hf hP hD hS hl
              have hf : X1_pairUp_L48_B x_size x_skills x_shores x_fars (X1_pairUp_L48 x_size x_skills x_shores x_fars n48) x_paired x_mates x_least l1 l2 = some out := hf
              rw [X1_pairUp_L48_B] at hf
              have h110 : ∀ (x_paired : Int32) (x_mates : Nat → Int32) (x_least : Nat → Int32) (H : Heap) (locs : List Loc) (ls : Array Slot), X1_pairUp_J110 x_size x_skills x_shores x_fars x_paired x_mates x_least = some out → va_P D vwCl (wd_X1_pairUp cy o_t x_size x_paired x_mates x_skills x_shores x_fars x_least) H → va_D A (wd_X1_pairUp cy o_t x_size x_paired x_mates x_skills x_shores x_fars x_least) → va_S A s.heap H locs → lv_has ls 4 [(0, .ref (o_t 0))] → W p l e (rmm 3 69) s m args below meth c H locs 0 0 Q (F0 m 110 ls []) := by
                intro x_paired x_mates x_least H locs ls hf hP hD hS hl
                rw [X1_pairUp_J110] at hf
                refine lv_aload_n hx hb dX1_pairUp_110 rfl (lv_at hl 0 rfl) ?_
                refine lv_iconst (v := (1 : Int32)) hx hb dX1_pairUp_111 (by decide) ?_
                refine va_put (D := D) (ci := 1) (v := .int (1 : Int32)) (ty := .boolean) (C := RX1) (T := TX1) (N := 7) hx hb hts k1 tyX1 tyX1_ok nmX1 hown hK hP hD hS 0 rfl rfl 6 (by decide) k0 (fun _ h9 => h9) rfl (by decide +kernel) rfl rfl (Nat.le_of_ble_eq_true rfl) dX1_pairUp_112 (fun H locs hP hD hS => ?_)
                have hP : va_P D vwCl (wd_X1_pairUp cy o_t x_size (1 : Int32) x_mates x_skills x_shores x_fars x_least) H := hP
                have hD : va_D A (wd_X1_pairUp cy o_t x_size (1 : Int32) x_mates x_skills x_shores x_fars x_least) := hD
                obtain rfl := Option.some.inj hf
                exact hR _ _ _ _ hP hD hS dX1_pairUp_115
              refine lv_iload_n hx hb dX1_pairUp_48 rfl (lv_at hl 2 rfl) ?_
              refine lv_aload_n hx hb dX1_pairUp_49 rfl (lv_at hl 0 rfl) ?_
              refine va_get (D := D) (ci := 1) (v := .int x_size) (C := RX1) (T := TX1) (N := 7) hx hb hts k1 hown hK hP 0 rfl rfl 0 (by decide) k2 (fun _ h9 => h9) rfl dX1_pairUp_50 ?_
              refine lv_icmp_ge (tgt := 110) hx hb dX1_pairUp_53 (by decide) (fun c53 => ?_) (fun c53 => ?_)
              · have hf := ifp c53 hf
                exact h110 _ _ _ _ _ _ hf hP hD hS (lv_sub hl [0] rfl)
              · have hf := ifn c53 hf
                have h104 : ∀ (x_paired : Int32) (x_mates : Nat → Int32) (x_least : Nat → Int32) (l1 : Int32) (l2 : Int32) (H : Heap) (locs : List Loc) (ls : Array Slot), X1_pairUp_J104 x_size x_skills x_shores x_fars (X1_pairUp_L48 x_size x_skills x_shores x_fars n48) x_paired x_mates x_least l1 l2 = some out → va_P D vwCl (wd_X1_pairUp cy o_t x_size x_paired x_mates x_skills x_shores x_fars x_least) H → va_D A (wd_X1_pairUp cy o_t x_size x_paired x_mates x_skills x_shores x_fars x_least) → va_S A s.heap H locs → lv_has ls 4 [(0, .ref (o_t 0)), (1, .int l1), (2, .int l2)] → W p l e (rmm 3 69) s m args below meth c H locs 0 0 Q (F0 m 104 ls []) := by
                  intro x_paired x_mates x_least l1 l2 H locs ls hf hP hD hS hl
                  rw [X1_pairUp_J104] at hf
                  obtain ⟨v104, ev104, hf⟩ := nm_s hf
                  refine lv_iinc (v := v104) (lv' := [(2, .int v104), (0, .ref (o_t 0)), (1, .int l1)]) hx hb dX1_pairUp_104 hl (k := 2) rfl (by rw [ev104]; rfl) (by decide) rfl (fun ls hl => ?_)
                  refine lv_goto (tgt := 48) hx hb dX1_pairUp_107 (by decide) ?_
                  exact ih48 _ _ _ _ _ _ _ _ hf hP hD hS (lv_sub hl [1, 2, 0] rfl)
                refine lv_iload_n hx hb dX1_pairUp_56 rfl (lv_at hl 1 rfl) ?_
                refine lv_iload_n hx hb dX1_pairUp_57 rfl (lv_at hl 2 rfl) ?_
                refine lv_ishr hx hb dX1_pairUp_58 ?_
                refine lv_iconst (v := (1 : Int32)) hx hb dX1_pairUp_59 (by decide) ?_
                refine lv_iand hx hb dX1_pairUp_60 ?_
                refine lv_iconst (v := (1 : Int32)) hx hb dX1_pairUp_61 (by decide) ?_
                refine lv_icmp_ne (tgt := 104) hx hb dX1_pairUp_62 (by decide) (fun c62 => ?_) (fun c62 => ?_)
                · have hf := ifn c62 hf
                  exact h104 _ _ _ _ _ _ _ _ hf hP hD hS (lv_sub hl [0, 1, 2] rfl)
                · have hf := ifp c62 hf
                  refine lv_aload_n hx hb dX1_pairUp_65 rfl (lv_at hl 0 rfl) ?_
                  refine lv_iload_n hx hb dX1_pairUp_66 rfl (lv_at hl 1 rfl) ?_
                  refine lv_iload_n hx hb dX1_pairUp_67 rfl (lv_at hl 2 rfl) ?_
                  obtain ⟨r68, hr68, hf⟩ := bd_s hf
                  refine my_Vi (WS2 := (wd_X1_pairUp cy o_t x_size x_paired x_mates x_skills x_shores x_fars x_least)) ⟨hx, hb, hml, hown, hts⟩ (c_X1_leastMate l D cy t o_t x_size x_paired x_skills x_shores x_fars x_least l1 l2 hr68) (cwV 2 hts gX1_pairUp_X1_leastMate rfl rfl rfl ⟨rfl, hd_X1_leastMate⟩ ⟨Nat.le_of_ble_eq_true rfl, Nat.le_of_ble_eq_true rfl⟩) hK hE hP hD hS hA [0, 2, 3, 4, 5] 6 1 0 rfl rfl rfl rfl (by decide +kernel) rfl rfl hl.1 rfl (Nat.le_of_ble_eq_true rfl) dX1_pairUp_68 ⟨Nat.le_of_ble_eq_true rfl, Nat.le_of_ble_eq_true rfl⟩ (fun H locs hP hD hS => ?_)
                  refine lv_istore_n (lv' := [(3, .int r68), (0, .ref (o_t 0)), (1, .int l1), (2, .int l2)]) hx hb dX1_pairUp_71 rfl hl (by decide) rfl (fun ls hl => ?_)
                  refine lv_aload_n hx hb dX1_pairUp_72 rfl (lv_at hl 1 rfl) ?_
                  refine va_get (D := D) (ci := 1) (v := .ref (o_t 2)) (C := RX1) (T := TX1) (N := 7) hx hb hts k1 hown hK hP 0 rfl rfl 1 (by decide) k3 (fun _ h9 => h9) rfl dX1_pairUp_73 ?_
                  refine lv_iload_n hx hb dX1_pairUp_76 rfl (lv_at hl 3 rfl) ?_
                  refine lv_iload_n hx hb dX1_pairUp_77 rfl (lv_at hl 0 rfl) ?_
                  obtain ⟨w78, b78, ew78, hf⟩ := wrI_s hf
                  refine my_iast (ws2 := (wd_X1_pairUp cy o_t x_size x_paired w78 x_skills x_shores x_fars x_least)) hx hb hK hP hD hS 1 rfl b78 ew78 rfl dX1_pairUp_78 (fun H locs hP hD hS => ?_)
                  refine lv_iload_n hx hb dX1_pairUp_79 rfl (lv_at hl 2 rfl) ?_
                  refine lv_iconst (v := (1 : Int32)) hx hb dX1_pairUp_80 (by decide) ?_
                  refine lv_iload_n hx hb dX1_pairUp_81 rfl (lv_at hl 3 rfl) ?_
                  refine lv_ishl hx hb dX1_pairUp_82 ?_
                  refine lv_ixor hx hb dX1_pairUp_83 ?_
                  obtain ⟨v84, ev84, hf⟩ := nm_s hf
                  refine my_topi ev84 ?_
                  refine lv_istore_n (lv' := [(1, .int v84), (3, .int r68), (0, .ref (o_t 0)), (2, .int l2)]) hx hb dX1_pairUp_84 rfl hl (by decide) rfl (fun ls hl => ?_)
                  refine lv_iload_n hx hb dX1_pairUp_85 rfl (lv_at hl 1 rfl) ?_
                  refine lv_bipush (v := (-9 : Int32)) hx hb dX1_pairUp_86 (by decide) ?_
                  refine lv_icmp_eq (tgt := 104) hx hb dX1_pairUp_88 (by decide) (fun c88 => ?_) (fun c88 => ?_)
                  · have hf := ifp c88 hf
                    exact h104 _ _ _ _ _ _ _ _ hf hP hD hS (lv_sub hl [2, 0, 3] rfl)
                  · have hf := ifn c88 hf
                    refine lv_aload_n hx hb dX1_pairUp_91 rfl (lv_at hl 2 rfl) ?_
                    refine va_get (D := D) (ci := 1) (v := .ref (o_t 2)) (C := RX1) (T := TX1) (N := 7) hx hb hts k1 hown hK hP 0 rfl rfl 1 (by decide) k3 (fun _ h9 => h9) rfl dX1_pairUp_92 ?_
                    refine lv_iload_n hx hb dX1_pairUp_95 rfl (lv_at hl 1 rfl) ?_
                    refine lv_iload_n hx hb dX1_pairUp_96 rfl (lv_at hl 3 rfl) ?_
                    obtain ⟨w97, b97, ew97, hf⟩ := wrI_s hf
                    refine my_iast (ws2 := (wd_X1_pairUp cy o_t x_size x_paired w97 x_skills x_shores x_fars x_least)) hx hb hK hP hD hS 1 rfl b97 ew97 rfl dX1_pairUp_97 (fun H locs hP hD hS => ?_)
                    refine lv_iload_n hx hb dX1_pairUp_98 rfl (lv_at hl 0 rfl) ?_
                    refine lv_iconst (v := (1 : Int32)) hx hb dX1_pairUp_99 (by decide) ?_
                    refine lv_iload_n hx hb dX1_pairUp_100 rfl (lv_at hl 1 rfl) ?_
                    refine lv_ishl hx hb dX1_pairUp_101 ?_
                    refine lv_ixor hx hb dX1_pairUp_102 ?_
                    obtain ⟨v103, ev103, hf⟩ := nm_s hf
                    refine my_topi ev103 ?_
                    refine lv_istore_n (lv' := [(1, .int v103), (3, .int r68), (0, .ref (o_t 0)), (2, .int l2)]) hx hb dX1_pairUp_103 rfl hl (by decide) rfl (fun ls hl => ?_)
                    exact h104 _ _ _ _ _ _ _ _ hf hP hD hS (lv_sub hl [2, 0, 3] rfl)
          refine lv_iconst (v := (1 : Int32)) hx hb dX1_pairUp_37 (by decide) ?_
          refine lv_aload_n hx hb dX1_pairUp_38 rfl (lv_at hl 0 rfl) ?_
          refine va_get (D := D) (ci := 1) (v := .int x_size) (C := RX1) (T := TX1) (N := 7) hx hb hts k1 hown hK hP 0 rfl rfl 0 (by decide) k2 (fun _ h9 => h9) rfl dX1_pairUp_39 ?_
          refine lv_ishl hx hb dX1_pairUp_42 ?_
          refine lv_iconst (v := (1 : Int32)) hx hb dX1_pairUp_43 (by decide) ?_
          refine lv_isub hx hb dX1_pairUp_44 ?_
          obtain ⟨v45, ev45, hf⟩ := nm_s hf
          refine my_topi ev45 ?_
          refine lv_istore_n (lv' := [(1, .int v45), (0, .ref (o_t 0))]) hx hb dX1_pairUp_45 rfl hl (by decide) rfl (fun ls hl => ?_)
          refine lv_iconst (v := (0 : Int32)) hx hb dX1_pairUp_46 (by decide) ?_
          refine lv_istore_n (lv' := [(2, .int (0 : Int32)), (1, .int v45), (0, .ref (o_t 0))]) hx hb dX1_pairUp_47 rfl hl (by decide) rfl (fun ls hl => ?_)
          exact h48 FU _ _ _ _ _ _ _ _ hf hP hD hS (lv_sub hl [2, 1, 0] rfl)
        refine lv_iload_n hx hb dX1_pairUp_10 rfl (lv_at hl 1 rfl) ?_
        refine lv_iconst (v := (1 : Int32)) hx hb dX1_pairUp_11 (by decide) ?_
        refine lv_aload_n hx hb dX1_pairUp_12 rfl (lv_at hl 0 rfl) ?_
        refine va_get (D := D) (ci := 1) (v := .int x_size) (C := RX1) (T := TX1) (N := 7) hx hb hts k1 hown hK hP 0 rfl rfl 0 (by decide) k2 (fun _ h9 => h9) rfl dX1_pairUp_13 ?_
        refine lv_ishl hx hb dX1_pairUp_16 ?_
        refine lv_icmp_ge (tgt := 37) hx hb dX1_pairUp_17 (by decide) (fun c17 => ?_) (fun c17 => ?_)
        · have hf := ifp c17 hf
          exact h37 _ _ _ _ _ _ hf hP hD hS (lv_sub hl [0] rfl)
        · have hf := ifn c17 hf
          refine lv_aload_n hx hb dX1_pairUp_20 rfl (lv_at hl 0 rfl) ?_
          refine va_get (D := D) (ci := 1) (v := .ref (o_t 6)) (C := RX1) (T := TX1) (N := 7) hx hb hts k1 hown hK hP 0 rfl rfl 5 (by decide) k4 (fun _ h9 => h9) rfl dX1_pairUp_21 ?_
          refine lv_iload_n hx hb dX1_pairUp_24 rfl (lv_at hl 1 rfl) ?_
          refine lv_aload_n hx hb dX1_pairUp_25 rfl (lv_at hl 0 rfl) ?_
          refine lv_iload_n hx hb dX1_pairUp_26 rfl (lv_at hl 1 rfl) ?_
          obtain ⟨r27, hr27, hf⟩ := bd_s hf
          refine my_Vi (WS2 := (wd_X1_pairUp cy o_t x_size x_paired x_mates x_skills x_shores x_fars x_least)) ⟨hx, hb, hml, hown, hts⟩ (c_X1_leastOf l D cy t o_t x_size x_paired x_skills x_shores x_fars x_least l1 hr27) (cwV 1 hts gX1_pairUp_X1_leastOf rfl rfl rfl ⟨rfl, hd_X1_leastOf⟩ ⟨Nat.le_of_ble_eq_true rfl, Nat.le_of_ble_eq_true rfl⟩) hK hE hP hD hS hA [0, 2, 3, 4, 5] 6 1 0 rfl rfl rfl rfl (by decide +kernel) rfl rfl hl.1 rfl (Nat.le_of_ble_eq_true rfl) dX1_pairUp_27 ⟨Nat.le_of_ble_eq_true rfl, Nat.le_of_ble_eq_true rfl⟩ (fun H locs hP hD hS => ?_)
          obtain ⟨w30, b30, ew30, hf⟩ := wrI_s hf
          refine my_iast (ws2 := (wd_X1_pairUp cy o_t x_size x_paired x_mates x_skills x_shores x_fars w30)) hx hb hK hP hD hS 5 rfl b30 ew30 rfl dX1_pairUp_30 (fun H locs hP hD hS => ?_)
          obtain ⟨v31, ev31, hf⟩ := nm_s hf
          refine lv_iinc (v := v31) (lv' := [(1, .int v31), (0, .ref (o_t 0))]) hx hb dX1_pairUp_31 hl (k := 1) rfl (by rw [ev31]; rfl) (by decide) rfl (fun ls hl => ?_)
          refine lv_goto (tgt := 10) hx hb dX1_pairUp_34 (by decide) ?_
          exact ih10 _ _ _ _ _ _ _ hf hP hD hS (lv_sub hl [1, 0] rfl)
    refine lv_iconst (v := (1 : Int32)) hx hb dX1_pairUp_8 (by decide) ?_
    refine lv_istore_n (lv' := [(1, .int (1 : Int32)), (0, .ref (o_t 0))]) hx hb dX1_pairUp_9 rfl hl (by decide) rfl (fun ls hl => ?_)
    exact h10 FU _ _ _ _ _ _ _ hf hP hD hS (lv_sub hl [1, 0] rfl)
  · have hf := ifn c4 hf
    obtain rfl := Option.some.inj hf
    exact hR _ _ _ _ hP hD hS dX1_pairUp_7
theorem hd_X1_pairUp : yX1_pairUp.cls ≠ "java/lang/invoke/MethodHandle" ∧ yX1_pairUp.cls ≠ "java/lang/invoke/VarHandle" ∧ (parseMethodDescriptor yX1_pairUp.desc).map (fun d => d.parameters.length) = some 0 := by decide +kernel
set_option maxRecDepth 100000 in
theorem c_X1_pairUp (l : Launch) (D : va_G) (cy : Nat → ClassId) (t : Nat → Nat) (o_t : Nat → Nat) (x_size : Int32) (x_paired : Int32) (x_mates : Nat → Int32) (x_skills : Nat → Int32) (x_shores : Nat → Int32) (x_fars : Nat → Int32) (x_least : Nat → Int32) {out : Int32 × (Nat → Int32) × (Nat → Int32)} (hf : X1_pairUp x_size x_skills x_shores x_fars x_paired x_mates x_least = some out) : ctV l yX1_pairUp wsX1_pairUp 3 69 D cy t [.ref (o_t 0)] (wd_X1_pairUp cy o_t x_size x_paired x_mates x_skills x_shores x_fars x_least) (wd_X1_pairUp cy o_t x_size out.1 out.2.1 x_skills x_shores x_fars out.2.2) := by
  refine ⟨rfl, ?_⟩
  intro sz
  refine Met.ofW (cc := cX1_pairUp) (maxL := 4) (ret := none) (by decide) rfl ?_
  intro p e s m args below meth c s₁ B hml hv
  obtain ⟨rfl, hsz, hP, hK, hD0, hE⟩ := hv
  have hts := atoms_spec (ws := wsX1_pairUp) B.pre
  have hown : s.vm.findClass RX1 = some m.cls := findClass_of_methodNamed B.named
  have hlocks := B.notSynchronized
  subst hsz
  have hD := hD0.self (sz := s.heap.size)
  have hl := lv_entry ([.ref (o_t 0)]) (n := 4) (Nat.le_of_ble_eq_true rfl)
  rw [lg_entry_eq]
  generalize (lg_sl ([.ref (o_t 0)]) ++ List.replicate (4 - (lg_sl ([.ref (o_t 0)])).length) Slot.unset).toArray = ls at hl ⊢
  exact w_X1_pairUp D cy t o_t x_size x_paired x_mates x_skills x_shores x_fars x_least hf B.exec B.bytes hml hown hts hK hE (fun q h => Or.inr h) hP hD va_S.rf hl (fun H locs ls pc hP hD hS hdg => W.vret B.exec B.bytes B.returns (fun t ht hW => ⟨⟨(), rfl, trivial, ctB_of ht hP⟩, hS.F ht⟩) hS.2.2 hdg)

noncomputable def X2_fillChoices_J39 (n_a1 : Nat) (rec11 : (Nat → Int64) → Int32 → Int32 → Option ((Nat → Int64))) (x_a1 : Nat → Int64) (l1 : Int32) (l2 : Int32) : Option ((Nat → Int64)) :=
  nm (l2 + (1 : Int32)) fun v39 => rec11 x_a1 l1 v39
noncomputable def X2_fillChoices_L18_B (n_a1 : Nat) (rec11 : (Nat → Int64) → Int32 → Int32 → Option ((Nat → Int64))) (rec18 : (Nat → Int64) → Int32 → Int32 → Int32 → Option ((Nat → Int64))) (x_a1 : Nat → Int64) (l1 : Int32) (l2 : Int32) (l3 : Int32) : Option ((Nat → Int64)) :=
  if l3 ≤ (0 : Int32) then (X2_fillChoices_J39 n_a1 rec11 x_a1 l1 l2) else (rd x_a1 n_a1 l3 fun v25 => rd x_a1 n_a1 (l3 - (1 : Int32)) fun v30 => wrJ x_a1 n_a1 l3 (v25 + v30) fun w32 => nm (l3 + (-1 : Int32)) fun v33 => rec18 w32 l1 l2 v33)
noncomputable def X2_fillChoices_L18 (n_a1 : Nat) (rec11 : (Nat → Int64) → Int32 → Int32 → Option ((Nat → Int64))) : Nat → (Nat → Int64) → Int32 → Int32 → Int32 → Option ((Nat → Int64))
  | 0, _, _, _, _ => none
  | n + 1, y0, y1, y2, y3 => X2_fillChoices_L18_B n_a1 rec11 (X2_fillChoices_L18 n_a1 rec11 n) y0 y1 y2 y3
noncomputable def X2_fillChoices_L11_B (n_a1 : Nat) (rec11 : (Nat → Int64) → Int32 → Int32 → Option ((Nat → Int64))) (x_a1 : Nat → Int64) (l1 : Int32) (l2 : Int32) : Option ((Nat → Int64)) :=
  if l1 < l2 then (some x_a1) else (X2_fillChoices_L18 n_a1 rec11 FU x_a1 l1 l2 l2)
noncomputable def X2_fillChoices_L11 (n_a1 : Nat) : Nat → (Nat → Int64) → Int32 → Int32 → Option ((Nat → Int64))
  | 0, _, _, _ => none
  | n + 1, y0, y1, y2 => X2_fillChoices_L11_B n_a1  (X2_fillChoices_L11 n_a1  n) y0 y1 y2
noncomputable def X2_fillChoices (n_a1 : Nat) (x_a1 : Nat → Int64) (p1 : Int32) : Option ((Nat → Int64)) :=
  bd (J7_fill_d0a16 n_a1 x_a1 (0 : Int64)) fun r2 => wrJ r2 n_a1 (0 : Int32) (1 : Int64) fun w8 => X2_fillChoices_L11 n_a1  FU w8 p1 (1 : Int32)
abbrev wd_X2_fillChoices (cy : Nat → ClassId) (r_a1 n_a1 : Nat) (x_a1 : Nat → Int64) : va_W := [(r_a1, .inl (cy 2, n_a1, .inr (.inl x_a1)))]
set_option maxHeartbeats 4000000 in
set_option maxRecDepth 100000 in
theorem w_X2_fillChoices {p : Program} {l : Launch} {e : Env} {s : State} {m : MethodId} {args : Array Value} {below : List Frame} {meth : Method} {c : Code} {Q : State → Prop} {A : Nat → Prop} {H : Heap} {locs : List Loc} {ls : Array Slot} (D : va_G) (cy : Nat → ClassId) (t : Nat → Nat) (r_a1 n_a1 : Nat) (x_a1 : Nat → Int64) (p1 : Int32) {out : (Nat → Int64)} (hf : X2_fillChoices n_a1 x_a1 p1 = some out) (hx : p.tables.exec = Jvm.exec) (hb : c.code = cX2_fillChoices) (hml : c.maxLocals = 4) (hown : s.vm.findClass RX2 = some m.cls) (hts : ∀ w ∈ wsX2_fillChoices, w.before args s = true) (hK : va_K D vwCl (TYS cy) s) (hE : EV t A s s.heap) (hA : ∀ q, s.heap.size ≤ q → A q) (hP : va_P D vwCl (wd_X2_fillChoices cy r_a1 n_a1 x_a1) H) (hD : va_D A (wd_X2_fillChoices cy r_a1 n_a1 x_a1)) (hS : va_S A s.heap H locs) (hl : lv_has ls 4 [(0, .ref r_a1), (1, .int p1)]) (hR : ∀ (H : Heap) (locs : List Loc) (ls : Array Slot) (pc : Nat), va_P D vwCl (wd_X2_fillChoices cy r_a1 n_a1 out) H → va_D A (wd_X2_fillChoices cy r_a1 n_a1 out) → va_S A s.heap H locs → decode cX2_fillChoices pc = .ok (.return_, 1) → W p l e (rmm 1 24) s m args below meth c H locs 0 0 Q (F0 m pc ls [])) : W p l e (rmm 1 24) s m args below meth c H locs 0 0 Q (F0 m 0 ls []) := by
  rw [X2_fillChoices] at hf
  have h11 : ∀ (n11 : Nat) (x_a1 : Nat → Int64) (l1 : Int32) (l2 : Int32) (H : Heap) (locs : List Loc) (ls : Array Slot), X2_fillChoices_L11 n_a1 n11 x_a1 l1 l2 = some out → va_P D vwCl (wd_X2_fillChoices cy r_a1 n_a1 x_a1) H → va_D A (wd_X2_fillChoices cy r_a1 n_a1 x_a1) → va_S A s.heap H locs → lv_has ls 4 [(0, .ref r_a1), (1, .int l1), (2, .int l2)] → W p l e (rmm 1 24) s m args below meth c H locs 0 0 Q (F0 m 11 ls []) := by
    intro n11
    induction n11 with
    | zero =>
      intro _ _ _ _ _ _ hf
      exact nomatch (show (none : Option _) = some out from hf)
    | succ n11 ih11 =>
      intro x_a1 l1 l2 H locs ls hf hP hD hS hl
      have hf : X2_fillChoices_L11_B n_a1 (X2_fillChoices_L11 n_a1 n11) x_a1 l1 l2 = some out := hf
      rw [X2_fillChoices_L11_B] at hf
      refine lv_iload_n hx hb dX2_fillChoices_11 rfl (lv_at hl 2 rfl) ?_
      refine lv_iload_n hx hb dX2_fillChoices_12 rfl (lv_at hl 1 rfl) ?_
      refine lv_icmp_gt (tgt := 45) hx hb dX2_fillChoices_13 (by decide) (fun c13 => ?_) (fun c13 => ?_)
      · have hf := ifp c13 hf
        obtain rfl := Option.some.inj hf
        exact hR _ _ _ _ hP hD hS dX2_fillChoices_45
      · have hf := ifn c13 hf
        have h18 : ∀ (n18 : Nat) (x_a1 : Nat → Int64) (l1 : Int32) (l2 : Int32) (l3 : Int32) (H : Heap) (locs : List Loc) (ls : Array Slot), X2_fillChoices_L18 n_a1 (X2_fillChoices_L11 n_a1 n11) n18 x_a1 l1 l2 l3 = some out → va_P D vwCl (wd_X2_fillChoices cy r_a1 n_a1 x_a1) H → va_D A (wd_X2_fillChoices cy r_a1 n_a1 x_a1) → va_S A s.heap H locs → lv_has ls 4 [(0, .ref r_a1), (1, .int l1), (2, .int l2), (3, .int l3)] → W p l e (rmm 1 24) s m args below meth c H locs 0 0 Q (F0 m 18 ls []) := by
          intro n18
          induction n18 with
          | zero =>
            intro _ _ _ _ _ _ _ hf
            exact nomatch (show (none : Option _) = some out from hf)
          | succ n18 ih18 =>
            intro x_a1 l1 l2 l3 H locs ls hf hP hD hS hl
            have hf : X2_fillChoices_L18_B n_a1 (X2_fillChoices_L11 n_a1 n11) (X2_fillChoices_L18 n_a1 (X2_fillChoices_L11 n_a1 n11) n18) x_a1 l1 l2 l3 = some out := hf
            rw [X2_fillChoices_L18_B] at hf
            have h39 : ∀ (x_a1 : Nat → Int64) (l1 : Int32) (l2 : Int32) (H : Heap) (locs : List Loc) (ls : Array Slot), X2_fillChoices_J39 n_a1 (X2_fillChoices_L11 n_a1 n11) x_a1 l1 l2 = some out → va_P D vwCl (wd_X2_fillChoices cy r_a1 n_a1 x_a1) H → va_D A (wd_X2_fillChoices cy r_a1 n_a1 x_a1) → va_S A s.heap H locs → lv_has ls 4 [(0, .ref r_a1), (1, .int l1), (2, .int l2)] → W p l e (rmm 1 24) s m args below meth c H locs 0 0 Q (F0 m 39 ls []) := by
              intro x_a1 l1 l2 H locs ls hf hP hD hS hl
              rw [X2_fillChoices_J39] at hf
              obtain ⟨v39, ev39, hf⟩ := nm_s hf
              refine lv_iinc (v := v39) (lv' := [(2, .int v39), (0, .ref r_a1), (1, .int l1)]) hx hb dX2_fillChoices_39 hl (k := 2) rfl (by rw [ev39]; rfl) (by decide) rfl (fun ls hl => ?_)
              refine lv_goto (tgt := 11) hx hb dX2_fillChoices_42 (by decide) ?_
              exact ih11 _ _ _ _ _ _ hf hP hD hS (lv_sub hl [1, 2, 0] rfl)
            refine lv_iload_n hx hb dX2_fillChoices_18 rfl (lv_at hl 3 rfl) ?_
            refine lv_if_le (tgt := 39) hx hb dX2_fillChoices_19 (by decide) (fun c19 => ?_) (fun c19 => ?_)
            · have hf := ifp c19 hf
              exact h39 _ _ _ _ _ _ hf hP hD hS (lv_sub hl [0, 1, 2] rfl)
            · have hf := ifn c19 hf
              refine lv_aload_n hx hb dX2_fillChoices_22 rfl (lv_at hl 0 rfl) ?_
              refine lv_iload_n hx hb dX2_fillChoices_23 rfl (lv_at hl 3 rfl) ?_
              refine lv_dup2_11 hx hb dX2_fillChoices_24 rfl rfl ?_
              obtain ⟨v25, b25, ev25, hf⟩ := rd_s hf
              refine my_lald hx hb hK hP 0 rfl b25 ev25 dX2_fillChoices_25 ?_
              refine lv_aload_n hx hb dX2_fillChoices_26 rfl (lv_at hl 0 rfl) ?_
              refine lv_iload_n hx hb dX2_fillChoices_27 rfl (lv_at hl 3 rfl) ?_
              refine lv_iconst (v := (1 : Int32)) hx hb dX2_fillChoices_28 (by decide) ?_
              refine lv_isub hx hb dX2_fillChoices_29 ?_
              obtain ⟨v30, b30, ev30, hf⟩ := rd_s hf
              refine my_lald hx hb hK hP 0 rfl b30 ev30 dX2_fillChoices_30 ?_
              refine lv_ladd hx hb dX2_fillChoices_31 ?_
              obtain ⟨w32, b32, ew32, hf⟩ := wrJ_s hf
              refine my_last (ws2 := (wd_X2_fillChoices cy r_a1 n_a1 w32)) hx hb hK hP hD hS 0 rfl b32 ew32 rfl dX2_fillChoices_32 (fun H locs hP hD hS => ?_)
              obtain ⟨v33, ev33, hf⟩ := nm_s hf
              refine lv_iinc (v := v33) (lv' := [(3, .int v33), (0, .ref r_a1), (1, .int l1), (2, .int l2)]) hx hb dX2_fillChoices_33 hl (k := 3) rfl (by rw [ev33]; rfl) (by decide) rfl (fun ls hl => ?_)
              refine lv_goto (tgt := 18) hx hb dX2_fillChoices_36 (by decide) ?_
              exact ih18 _ _ _ _ _ _ _ hf hP hD hS (lv_sub hl [1, 2, 3, 0] rfl)
        refine lv_iload_n hx hb dX2_fillChoices_16 rfl (lv_at hl 2 rfl) ?_
        refine lv_istore_n (lv' := [(3, .int l2), (0, .ref r_a1), (1, .int l1), (2, .int l2)]) hx hb dX2_fillChoices_17 rfl hl (by decide) rfl (fun ls hl => ?_)
        exact h18 FU _ _ _ _ _ _ _ hf hP hD hS (lv_sub hl [1, 2, 3, 0] rfl)
  refine lv_aload_n hx hb dX2_fillChoices_0 rfl (lv_at hl 0 rfl) ?_
  refine lv_lconst (v := (0 : Int64)) hx hb dX2_fillChoices_1 (by decide) ?_
  obtain ⟨r2, hr2, hf⟩ := bd_s hf
  refine my_Sv (WS2 := (wd_X2_fillChoices cy r_a1 n_a1 r2)) ⟨hx, hb, hml, hown, hts⟩ (c_J7_fill_d0a16 l D cy t r_a1 n_a1 x_a1 (0 : Int64) hr2) (va_cwS 2 hts gX2_fillChoices_J7_fill_d0a16 rfl rfl rfl hd_J7_fill_d0a16 ⟨Nat.le_of_ble_eq_true rfl, Nat.le_of_ble_eq_true rfl⟩) hK hE hP hD hS hA [0] 1 rfl rfl (by decide +kernel) rfl rfl hl.1 rfl (Nat.le_of_ble_eq_true rfl) dX2_fillChoices_2 ⟨Nat.le_of_ble_eq_true rfl, Nat.le_of_ble_eq_true rfl⟩ (fun H locs hP hD hS => ?_)
  refine lv_aload_n hx hb dX2_fillChoices_5 rfl (lv_at hl 0 rfl) ?_
  refine lv_iconst (v := (0 : Int32)) hx hb dX2_fillChoices_6 (by decide) ?_
  refine lv_lconst (v := (1 : Int64)) hx hb dX2_fillChoices_7 (by decide) ?_
  obtain ⟨w8, b8, ew8, hf⟩ := wrJ_s hf
  refine my_last (ws2 := (wd_X2_fillChoices cy r_a1 n_a1 w8)) hx hb hK hP hD hS 0 rfl b8 ew8 rfl dX2_fillChoices_8 (fun H locs hP hD hS => ?_)
  refine lv_iconst (v := (1 : Int32)) hx hb dX2_fillChoices_9 (by decide) ?_
  refine lv_istore_n (lv' := [(2, .int (1 : Int32)), (0, .ref r_a1), (1, .int p1)]) hx hb dX2_fillChoices_10 rfl hl (by decide) rfl (fun ls hl => ?_)
  exact h11 FU _ _ _ _ _ _ hf hP hD hS (lv_sub hl [1, 2, 0] rfl)
theorem hd_X2_fillChoices : yX2_fillChoices.cls ≠ "java/lang/invoke/MethodHandle" ∧ yX2_fillChoices.cls ≠ "java/lang/invoke/VarHandle" ∧ (parseMethodDescriptor yX2_fillChoices.desc).map (fun d => d.parameters.length) = some 2 := by decide +kernel
set_option maxRecDepth 100000 in
theorem c_X2_fillChoices (l : Launch) (D : va_G) (cy : Nat → ClassId) (t : Nat → Nat) (r_a1 n_a1 : Nat) (x_a1 : Nat → Int64) (p1 : Int32) {out : (Nat → Int64)} (hf : X2_fillChoices n_a1 x_a1 p1 = some out) : ctV l yX2_fillChoices wsX2_fillChoices 1 24 D cy t [.ref r_a1, .int p1] (wd_X2_fillChoices cy r_a1 n_a1 x_a1) (wd_X2_fillChoices cy r_a1 n_a1 out) := by
  refine ⟨rfl, ?_⟩
  intro sz
  refine Met.ofW (cc := cX2_fillChoices) (maxL := 4) (ret := none) (by decide) rfl ?_
  intro p e s m args below meth c s₁ B hml hv
  obtain ⟨rfl, hsz, hP, hK, hD0, hE⟩ := hv
  have hts := atoms_spec (ws := wsX2_fillChoices) B.pre
  have hown : s.vm.findClass RX2 = some m.cls := findClass_of_methodNamed B.named
  have hlocks := B.notSynchronized
  subst hsz
  have hD := hD0.self (sz := s.heap.size)
  have hl := lv_entry ([.ref r_a1, .int p1]) (n := 4) (Nat.le_of_ble_eq_true rfl)
  rw [lg_entry_eq]
  generalize (lg_sl ([.ref r_a1, .int p1]) ++ List.replicate (4 - (lg_sl ([.ref r_a1, .int p1])).length) Slot.unset).toArray = ls at hl ⊢
  exact w_X2_fillChoices D cy t  r_a1 n_a1 x_a1 p1 hf B.exec B.bytes hml hown hts hK hE (fun q h => Or.inr h) hP hD va_S.rf hl (fun H locs ls pc hP hD hS hdg => W.vret B.exec B.bytes B.returns (fun t ht hW => ⟨⟨(), rfl, trivial, ctB_of ht hP⟩, hS.F ht⟩) hS.2.2 hdg)

noncomputable def X2_commonOf_J44 (l4 : Int64) : Option (Int64) :=
  some l4
noncomputable def X2_commonOf_L9_B (rec9 : Int64 → Int64 → Int32 → Option (Int64)) (l4 : Int64) (l6 : Int64) (l8 : Int32) : Option (Int64) :=
  if (100 : Int32) ≤ l8 then (X2_commonOf_J44   l4) else (if (lg_cmp l6 (0 : Int64)) = (0 : Int32) then (X2_commonOf_J44   l4) else (dvL l6 <| nm (l4 - l4 / l6 * l6) fun v28 => nm (l8 + (1 : Int32)) fun v38 => rec9  l6 v28 v38))
noncomputable def X2_commonOf_L9 : Nat → Int64 → Int64 → Int32 → Option (Int64)
  | 0, _, _, _ => none
  | n + 1, y0, y1, y2 => X2_commonOf_L9_B  (X2_commonOf_L9  n) y0 y1 y2
noncomputable def X2_commonOf (p0 : Int64) (p2 : Int64) : Option (Int64) :=
  X2_commonOf_L9  FU  p0 p2 (0 : Int32)
abbrev wd_X2_commonOf (cy : Nat → ClassId) : va_W := []
set_option maxHeartbeats 4000000 in
set_option maxRecDepth 100000 in
theorem w_X2_commonOf {p : Program} {l : Launch} {e : Env} {s : State} {m : MethodId} {args : Array Value} {below : List Frame} {meth : Method} {c : Code} {Q : State → Prop} {A : Nat → Prop} {H : Heap} {locs : List Loc} {ls : Array Slot} (D : va_G) (cy : Nat → ClassId) (t : Nat → Nat) (p0 : Int64) (p2 : Int64) {out : Int64} (hf : X2_commonOf p0 p2 = some out) (hx : p.tables.exec = Jvm.exec) (hb : c.code = cX2_commonOf) (hml : c.maxLocals = 11) (hown : s.vm.findClass RX2 = some m.cls) (hts : ∀ w ∈ wsX2_commonOf, w.before args s = true) (hK : va_K D vwCl (TYS cy) s) (hE : EV t A s s.heap) (hA : ∀ q, s.heap.size ≤ q → A q) (hP : va_P D vwCl (wd_X2_commonOf cy) H) (hD : va_D A (wd_X2_commonOf cy)) (hS : va_S A s.heap H locs) (hl : lv_has ls 11 [(0, .long p0), (2, .long p2)]) (hR : ∀ (H : Heap) (locs : List Loc) (ls : Array Slot) (pc : Nat), va_P D vwCl (wd_X2_commonOf cy) H → va_D A (wd_X2_commonOf cy) → va_S A s.heap H locs → decode cX2_commonOf pc = .ok (.lreturn, 1) → W p l e (rmm 0 0) s m args below meth c H locs 0 0 Q (F0 m pc ls [.long out])) : W p l e (rmm 0 0) s m args below meth c H locs 0 0 Q (F0 m 0 ls []) := by
  rw [X2_commonOf] at hf
  have h9 : ∀ (n9 : Nat) (l4 : Int64) (l6 : Int64) (l8 : Int32) (H : Heap) (locs : List Loc) (ls : Array Slot), X2_commonOf_L9 n9 l4 l6 l8 = some out → va_P D vwCl (wd_X2_commonOf cy) H → va_D A (wd_X2_commonOf cy) → va_S A s.heap H locs → lv_has ls 11 [(4, .long l4), (6, .long l6), (8, .int l8)] → W p l e (rmm 0 0) s m args below meth c H locs 0 0 Q (F0 m 9 ls []) := by
    intro n9
    induction n9 with
    | zero =>
      intro _ _ _ _ _ _ hf
      exact nomatch (show (none : Option _) = some out from hf)
    | succ n9 ih9 =>
      intro l4 l6 l8 H locs ls hf hP hD hS hl
      have hf : X2_commonOf_L9_B (X2_commonOf_L9 n9) l4 l6 l8 = some out := hf
      rw [X2_commonOf_L9_B] at hf
      have h44 : ∀ (l4 : Int64) (H : Heap) (locs : List Loc) (ls : Array Slot), X2_commonOf_J44 l4 = some out → va_P D vwCl (wd_X2_commonOf cy) H → va_D A (wd_X2_commonOf cy) → va_S A s.heap H locs → lv_has ls 11 [(4, .long l4)] → W p l e (rmm 0 0) s m args below meth c H locs 0 0 Q (F0 m 44 ls []) := by
        intro l4 H locs ls hf hP hD hS hl
        rw [X2_commonOf_J44] at hf
        refine lv_lload hx hb dX2_commonOf_44 (lv_at hl 0 rfl) ?_
        obtain rfl := Option.some.inj hf
        exact hR _ _ _ _ hP hD hS dX2_commonOf_46
      refine lv_iload hx hb dX2_commonOf_9 (lv_at hl 2 rfl) ?_
      refine lv_bipush (v := (100 : Int32)) hx hb dX2_commonOf_11 (by decide) ?_
      refine lv_icmp_ge (tgt := 44) hx hb dX2_commonOf_13 (by decide) (fun c13 => ?_) (fun c13 => ?_)
      · have hf := ifp c13 hf
        exact h44 _ _ _ _ hf hP hD hS (lv_sub hl [0] rfl)
      · have hf := ifn c13 hf
        refine lv_lload hx hb dX2_commonOf_16 (lv_at hl 1 rfl) ?_
        refine lv_lconst (v := (0 : Int64)) hx hb dX2_commonOf_18 (by decide) ?_
        refine W.lcmp hx hb dX2_commonOf_19 ?_
        refine lv_if_eq (tgt := 44) hx hb dX2_commonOf_20 (by decide) (fun c20 => ?_) (fun c20 => ?_)
        · have hf := ifp c20 hf
          exact h44 _ _ _ _ hf hP hD hS (lv_sub hl [0] rfl)
        · have hf := ifn c20 hf
          refine lv_lload hx hb dX2_commonOf_23 (lv_at hl 0 rfl) ?_
          refine lv_lload hx hb dX2_commonOf_25 (lv_at hl 1 rfl) ?_
          obtain ⟨z27, hf⟩ := dvL_s hf
          refine lv_lrem hx hb dX2_commonOf_27 z27 ?_
          obtain ⟨v28, ev28, hf⟩ := nm_s hf
          refine my_topl ev28 ?_
          refine lv_lstore (lv' := [(9, .long v28), (4, .long l4), (6, .long l6), (8, .int l8)]) hx hb dX2_commonOf_28 hl (by decide) rfl (fun ls hl => ?_)
          refine lv_lload hx hb dX2_commonOf_30 (lv_at hl 2 rfl) ?_
          refine lv_lstore (lv' := [(4, .long l6), (9, .long v28), (6, .long l6), (8, .int l8)]) hx hb dX2_commonOf_32 hl (by decide) rfl (fun ls hl => ?_)
          refine lv_lload hx hb dX2_commonOf_34 (lv_at hl 1 rfl) ?_
          refine lv_lstore (lv' := [(6, .long v28), (4, .long l6), (9, .long v28), (8, .int l8)]) hx hb dX2_commonOf_36 hl (by decide) rfl (fun ls hl => ?_)
          obtain ⟨v38, ev38, hf⟩ := nm_s hf
          refine lv_iinc (v := v38) (lv' := [(8, .int v38), (6, .long v28), (4, .long l6), (9, .long v28)]) hx hb dX2_commonOf_38 hl (k := 3) rfl (by rw [ev38]; rfl) (by decide) rfl (fun ls hl => ?_)
          refine lv_goto (tgt := 9) hx hb dX2_commonOf_41 (by decide) ?_
          exact ih9 _ _ _ _ _ _ hf hP hD hS (lv_sub hl [2, 1, 0] rfl)
  refine lv_lload_n hx hb dX2_commonOf_0 rfl (lv_at hl 0 rfl) ?_
  refine lv_lstore (lv' := [(4, .long p0), (0, .long p0), (2, .long p2)]) hx hb dX2_commonOf_1 hl (by decide) rfl (fun ls hl => ?_)
  refine lv_lload_n hx hb dX2_commonOf_3 rfl (lv_at hl 2 rfl) ?_
  refine lv_lstore (lv' := [(6, .long p2), (4, .long p0), (0, .long p0), (2, .long p2)]) hx hb dX2_commonOf_4 hl (by decide) rfl (fun ls hl => ?_)
  refine lv_iconst (v := (0 : Int32)) hx hb dX2_commonOf_6 (by decide) ?_
  refine lv_istore (lv' := [(8, .int (0 : Int32)), (6, .long p2), (4, .long p0), (0, .long p0), (2, .long p2)]) hx hb dX2_commonOf_7 hl (by decide) rfl (fun ls hl => ?_)
  exact h9 FU _ _ _ _ _ _ hf hP hD hS (lv_sub hl [2, 1, 0] rfl)
theorem hd_X2_commonOf : yX2_commonOf.cls ≠ "java/lang/invoke/MethodHandle" ∧ yX2_commonOf.cls ≠ "java/lang/invoke/VarHandle" ∧ (parseMethodDescriptor yX2_commonOf.desc).map (fun d => d.parameters.length) = some 2 := by decide +kernel
set_option maxRecDepth 100000 in
theorem c_X2_commonOf (l : Launch) (D : va_G) (cy : Nat → ClassId) (t : Nat → Nat) (p0 : Int64) (p2 : Int64) {out : Int64} (hf : X2_commonOf p0 p2 = some out) : ctL l yX2_commonOf wsX2_commonOf 0 0 D cy t [.long p0, .long p2] (wd_X2_commonOf cy) (wd_X2_commonOf cy) out := by
  refine ⟨rfl, ?_⟩
  intro sz
  refine Met.ofW (cc := cX2_commonOf) (maxL := 11) (ret := (some .long)) (by decide) rfl ?_
  intro p e s m args below meth c s₁ B hml hv
  obtain ⟨rfl, hsz, hP, hK, hD0, hE⟩ := hv
  have hts := atoms_spec (ws := wsX2_commonOf) B.pre
  have hown : s.vm.findClass RX2 = some m.cls := findClass_of_methodNamed B.named
  have hlocks := B.notSynchronized
  subst hsz
  have hD := hD0.self (sz := s.heap.size)
  have hl := lv_entry ([.long p0, .long p2]) (n := 11) (Nat.le_of_ble_eq_true rfl)
  rw [lg_entry_eq]
  generalize (lg_sl ([.long p0, .long p2]) ++ List.replicate (11 - (lg_sl ([.long p0, .long p2])).length) Slot.unset).toArray = ls at hl ⊢
  exact w_X2_commonOf D cy t  p0 p2 hf B.exec B.bytes hml hown hts hK hE (fun q h => Or.inr h) hP hD va_S.rf hl (fun H locs ls pc hP hD hS hdg => W.lret B.exec B.bytes B.returns (fun t ht hW => ⟨⟨_, (), rfl, rfl, ctB_of ht hP⟩, hS.F ht⟩) hS.2.2 hdg)

noncomputable def X2_reckon_J91 (x_above : Int64) (x_below : Int64) (x_amongHits : Nat → Int64) (x_amongOthers : Nat → Int64) (l5 : Int64) (l7 : Int64) : Option (Int64 × Int64 × (Nat → Int64) × (Nat → Int64)) :=
  bd (X2_commonOf l7 l5) fun r95 => if (lg_cmp r95 (0 : Int64)) ≤ (0 : Int32) then (some (x_above, x_below, x_amongHits, x_amongOthers)) else (dvL r95 <| dvL r95 <| some ((l5 / r95), (l7 / r95), x_amongHits, x_amongOthers))
noncomputable def X2_reckon_J85 (rec35 : Int64 → Int64 → (Nat → Int64) → (Nat → Int64) → Int32 → Int32 → Int32 → Int64 → Int64 → Int32 → Option (Int64 × Int64 × (Nat → Int64) × (Nat → Int64))) (x_above : Int64) (x_below : Int64) (x_amongHits : Nat → Int64) (x_amongOthers : Nat → Int64) (l2 : Int32) (l3 : Int32) (l4 : Int32) (l5 : Int64) (l7 : Int64) (l9 : Int32) : Option (Int64 × Int64 × (Nat → Int64) × (Nat → Int64)) :=
  nm (l9 + (1 : Int32)) fun v85 => rec35 x_above x_below x_amongHits x_amongOthers l2 l3 l4 l5 l7 v85
noncomputable def X2_reckon_L35_B (rec35 : Int64 → Int64 → (Nat → Int64) → (Nat → Int64) → Int32 → Int32 → Int32 → Int64 → Int64 → Int32 → Option (Int64 × Int64 × (Nat → Int64) × (Nat → Int64))) (x_above : Int64) (x_below : Int64) (x_amongHits : Nat → Int64) (x_amongOthers : Nat → Int64) (l2 : Int32) (l3 : Int32) (l4 : Int32) (l5 : Int64) (l7 : Int64) (l9 : Int32) : Option (Int64 × Int64 × (Nat → Int64) × (Nat → Int64)) :=
  if (if l3 < l2 then l3 else l2) < l9 then (X2_reckon_J91  x_above x_below x_amongHits x_amongOthers l5 l7) else (rd x_amongHits 61 l9 fun v51 => rd x_amongOthers 61 (l2 - l9) fun v60 => nm (v51 * v60) fun v62 => nm (l7 + v62) fun v69 => if l9 < l4 then (X2_reckon_J85 rec35 x_above x_below x_amongHits x_amongOthers l2 l3 l4 l5 v69 l9) else (nm (l5 + v62) fun v83 => X2_reckon_J85 rec35 x_above x_below x_amongHits x_amongOthers l2 l3 l4 v83 v69 l9))
noncomputable def X2_reckon_L35 : Nat → Int64 → Int64 → (Nat → Int64) → (Nat → Int64) → Int32 → Int32 → Int32 → Int64 → Int64 → Int32 → Option (Int64 × Int64 × (Nat → Int64) × (Nat → Int64))
  | 0, _, _, _, _, _, _, _, _, _, _ => none
  | n + 1, y0, y1, y2, y3, y4, y5, y6, y7, y8, y9 => X2_reckon_L35_B  (X2_reckon_L35  n) y0 y1 y2 y3 y4 y5 y6 y7 y8 y9
noncomputable def X2_reckon (x_above : Int64) (x_below : Int64) (x_amongHits : Nat → Int64) (x_amongOthers : Nat → Int64) (p1 : Int32) (p2 : Int32) (p3 : Int32) (p4 : Int32) : Option (Int64 × Int64 × (Nat → Int64) × (Nat → Int64)) :=
  bd (X2_fillChoices 61 x_amongHits p3) fun r5 => bd (X2_fillChoices 61 x_amongOthers (p1 - p3)) fun r15 => nm (if (0 : Int32) < ((p2 + p3) - p1) then ((p2 + p3) - p1) else (0 : Int32)) fun v33 => X2_reckon_L35  FU x_above x_below r5 r15 p2 p3 p4 (0 : Int64) (0 : Int64) v33
abbrev wd_X2_reckon (cy : Nat → ClassId) (o_t : Nat → Nat) (x_above : Int64) (x_below : Int64) (x_amongHits : Nat → Int64) (x_amongOthers : Nat → Int64) : va_W := [(o_t 0, .inr (2, [.long x_above, .long x_below, .ref (o_t 3), .ref (o_t 4)])), (o_t 3, .inl (cy 2, 61, .inr (.inl x_amongHits))), (o_t 4, .inl (cy 2, 61, .inr (.inl x_amongOthers)))]
set_option maxHeartbeats 4000000 in
set_option maxRecDepth 100000 in
theorem w_X2_reckon {p : Program} {l : Launch} {e : Env} {s : State} {m : MethodId} {args : Array Value} {below : List Frame} {meth : Method} {c : Code} {Q : State → Prop} {A : Nat → Prop} {H : Heap} {locs : List Loc} {ls : Array Slot} (D : va_G) (cy : Nat → ClassId) (t : Nat → Nat) (o_t : Nat → Nat) (x_above : Int64) (x_below : Int64) (x_amongHits : Nat → Int64) (x_amongOthers : Nat → Int64) (p1 : Int32) (p2 : Int32) (p3 : Int32) (p4 : Int32) {out : Int64 × Int64 × (Nat → Int64) × (Nat → Int64)} (hf : X2_reckon x_above x_below x_amongHits x_amongOthers p1 p2 p3 p4 = some out) (hx : p.tables.exec = Jvm.exec) (hb : c.code = cX2_reckon) (hml : c.maxLocals = 12) (hown : s.vm.findClass RX2 = some m.cls) (hts : ∀ w ∈ wsX2_reckon, w.before args s = true) (hK : va_K D vwCl (TYS cy) s) (hE : EV t A s s.heap) (hA : ∀ q, s.heap.size ≤ q → A q) (hP : va_P D vwCl (wd_X2_reckon cy o_t x_above x_below x_amongHits x_amongOthers) H) (hD : va_D A (wd_X2_reckon cy o_t x_above x_below x_amongHits x_amongOthers)) (hS : va_S A s.heap H locs) (hl : lv_has ls 12 [(0, .ref (o_t 0)), (1, .int p1), (2, .int p2), (3, .int p3), (4, .int p4)]) (hR : ∀ (H : Heap) (locs : List Loc) (ls : Array Slot) (pc : Nat), va_P D vwCl (wd_X2_reckon cy o_t out.1 out.2.1 out.2.2.1 out.2.2.2) H → va_D A (wd_X2_reckon cy o_t out.1 out.2.1 out.2.2.1 out.2.2.2) → va_S A s.heap H locs → decode cX2_reckon pc = .ok (.return_, 1) → W p l e (rmm 2 47) s m args below meth c H locs 0 0 Q (F0 m pc ls [])) : W p l e (rmm 2 47) s m args below meth c H locs 0 0 Q (F0 m 0 ls []) := by
  have k0 := hts (.fieldLink RX2 18 "SeaGames$Deal" "amongHits" "[J") (List.mem_cons_of_mem _ (List.mem_append_left _ (List.mem_of_getElem? (i := 0) rfl)))
  have k1 : ∀ w ∈ u_ws RX2 TX2 4, w ∈ wsX2_reckon := fun _ h => List.mem_cons_of_mem _ (List.mem_append_right _ h)
  have k2 := hts (.fieldLink RX2 22 "SeaGames$Deal" "amongOthers" "[J") (List.mem_cons_of_mem _ (List.mem_append_left _ (List.mem_of_getElem? (i := 1) rfl)))
  have k3 := hts (.methodLink RX2 29 Lib.Math.max.name) (List.mem_cons_of_mem _ (List.mem_append_left _ (List.mem_of_getElem? (i := 2) rfl)))
  have k4 := hts (.static Lib.Math.max.name) (List.mem_cons_of_mem _ (List.mem_append_left _ (List.mem_of_getElem? (i := 3) rfl)))
  have k5 := hts (.initialized "java/lang/Math") (List.mem_cons_of_mem _ (List.mem_append_left _ (List.mem_of_getElem? (i := 4) rfl)))
  have k6 := hts (.code Lib.Math.max.name Lib.Math.max.code 2 (some .int)) (List.mem_cons_of_mem _ (List.mem_append_left _ (List.mem_of_getElem? (i := 5) rfl)))
  have k7 := hts (.methodLink RX2 35 Lib.Math.min.name) (List.mem_cons_of_mem _ (List.mem_append_left _ (List.mem_of_getElem? (i := 6) rfl)))
  have k8 := hts (.static Lib.Math.min.name) (List.mem_cons_of_mem _ (List.mem_append_left _ (List.mem_of_getElem? (i := 7) rfl)))
  have k9 := hts (.code Lib.Math.min.name Lib.Math.min.code 2 (some .int)) (List.mem_cons_of_mem _ (List.mem_append_left _ (List.mem_of_getElem? (i := 8) rfl)))
  have k10 := hts (.fieldLink RX2 9 "SeaGames$Deal" "above" "J") (List.mem_cons_of_mem _ (List.mem_append_left _ (List.mem_of_getElem? (i := 9) rfl)))
  have k11 := hts (.fieldLink RX2 15 "SeaGames$Deal" "below" "J") (List.mem_cons_of_mem _ (List.mem_append_left _ (List.mem_of_getElem? (i := 10) rfl)))
  rw [X2_reckon] at hf
  have h35 : ∀ (n35 : Nat) (x_above : Int64) (x_below : Int64) (x_amongHits : Nat → Int64) (x_amongOthers : Nat → Int64) (l2 : Int32) (l3 : Int32) (l4 : Int32) (l5 : Int64) (l7 : Int64) (l9 : Int32) (H : Heap) (locs : List Loc) (ls : Array Slot), X2_reckon_L35 n35 x_above x_below x_amongHits x_amongOthers l2 l3 l4 l5 l7 l9 = some out → va_P D vwCl (wd_X2_reckon cy o_t x_above x_below x_amongHits x_amongOthers) H → va_D A (wd_X2_reckon cy o_t x_above x_below x_amongHits x_amongOthers) → va_S A s.heap H locs → lv_has ls 12 [(0, .ref (o_t 0)), (2, .int l2), (3, .int l3), (4, .int l4), (5, .long l5), (7, .long l7), (9, .int l9)] → W p l e (rmm 2 47) s m args below meth c H locs 0 0 Q (F0 m 35 ls []) := by
    intro n35
    induction n35 with
    | zero =>
      intro _ _ _ _ _ _ _ _ _ _ _ _ _ hf
      exact nomatch (show (none : Option _) = some out from hf)
    | succ n35 ih35 =>
      intro x_above x_below x_amongHits x_amongOthers l2 l3 l4 l5 l7 l9 H locs ls hf hP hD hS hl
      have hf : X2_reckon_L35_B (X2_reckon_L35 n35) x_above x_below x_amongHits x_amongOthers l2 l3 l4 l5 l7 l9 = some out := hf
      rw [X2_reckon_L35_B] at hf
      have h91 : ∀ (x_above : Int64) (x_below : Int64) (x_amongHits : Nat → Int64) (x_amongOthers : Nat → Int64) (l5 : Int64) (l7 : Int64) (H : Heap) (locs : List Loc) (ls : Array Slot), X2_reckon_J91 x_above x_below x_amongHits x_amongOthers l5 l7 = some out → va_P D vwCl (wd_X2_reckon cy o_t x_above x_below x_amongHits x_amongOthers) H → va_D A (wd_X2_reckon cy o_t x_above x_below x_amongHits x_amongOthers) → va_S A s.heap H locs → lv_has ls 12 [(0, .ref (o_t 0)), (5, .long l5), (7, .long l7)] → W p l e (rmm 2 47) s m args below meth c H locs 0 0 Q (F0 m 91 ls []) := by
        intro x_above x_below x_amongHits x_amongOthers l5 l7 H locs ls hf hP hD hS hl
        rw [X2_reckon_J91] at hf
        refine lv_lload hx hb dX2_reckon_91 (lv_at hl 2 rfl) ?_
        refine lv_lload hx hb dX2_reckon_93 (lv_at hl 1 rfl) ?_
        obtain ⟨r95, hr95, hf⟩ := bd_s hf
        refine my_Sl (WS2 := (wd_X2_reckon cy o_t x_above x_below x_amongHits x_amongOthers)) ⟨hx, hb, hml, hown, hts⟩ (c_X2_commonOf l D cy t l7 l5 hr95) (va_cwS 2 hts gX2_reckon_X2_commonOf rfl rfl rfl hd_X2_commonOf ⟨Nat.le_of_ble_eq_true rfl, Nat.le_of_ble_eq_true rfl⟩) hK hE hP hD hS hA [] 3 rfl rfl (by decide +kernel) rfl rfl hl.1 rfl (Nat.le_of_ble_eq_true rfl) dX2_reckon_95 ⟨Nat.le_of_ble_eq_true rfl, Nat.le_of_ble_eq_true rfl⟩ (fun H locs hP hD hS => ?_)
        refine lv_lstore (lv' := [(9, .long r95), (0, .ref (o_t 0)), (5, .long l5), (7, .long l7)]) hx hb dX2_reckon_98 hl (by decide) rfl (fun ls hl => ?_)
        refine lv_lload hx hb dX2_reckon_100 (lv_at hl 0 rfl) ?_
        refine lv_lconst (v := (0 : Int64)) hx hb dX2_reckon_102 (by decide) ?_
        refine W.lcmp hx hb dX2_reckon_103 ?_
        refine lv_if_le (tgt := 125) hx hb dX2_reckon_104 (by decide) (fun c104 => ?_) (fun c104 => ?_)
        · have hf := ifp c104 hf
          obtain rfl := Option.some.inj hf
          exact hR _ _ _ _ hP hD hS dX2_reckon_125
        · have hf := ifn c104 hf
          refine lv_aload_n hx hb dX2_reckon_107 rfl (lv_at hl 1 rfl) ?_
          refine lv_lload hx hb dX2_reckon_108 (lv_at hl 2 rfl) ?_
          refine lv_lload hx hb dX2_reckon_110 (lv_at hl 0 rfl) ?_
          obtain ⟨z112, hf⟩ := dvL_s hf
          refine lv_ldiv hx hb dX2_reckon_112 z112 ?_
          refine va_put (D := D) (ci := 2) (v := .long (l5 / r95)) (ty := .long) (C := RX2) (T := TX2) (N := 4) hx hb hts k1 tyX2 tyX2_ok nmX2 hown hK hP hD hS 0 rfl rfl 0 (by decide) k10 (fun _ h9 => h9) rfl (by decide +kernel) rfl rfl (Nat.le_of_ble_eq_true rfl) dX2_reckon_113 (fun H locs hP hD hS => ?_)
          have hP : va_P D vwCl (wd_X2_reckon cy o_t (l5 / r95) x_below x_amongHits x_amongOthers) H := hP
          have hD : va_D A (wd_X2_reckon cy o_t (l5 / r95) x_below x_amongHits x_amongOthers) := hD
          refine lv_aload_n hx hb dX2_reckon_116 rfl (lv_at hl 1 rfl) ?_
          refine lv_lload hx hb dX2_reckon_117 (lv_at hl 3 rfl) ?_
          refine lv_lload hx hb dX2_reckon_119 (lv_at hl 0 rfl) ?_
          obtain ⟨z121, hf⟩ := dvL_s hf
          refine lv_ldiv hx hb dX2_reckon_121 z121 ?_
          refine va_put (D := D) (ci := 2) (v := .long (l7 / r95)) (ty := .long) (C := RX2) (T := TX2) (N := 4) hx hb hts k1 tyX2 tyX2_ok nmX2 hown hK hP hD hS 0 rfl rfl 1 (by decide) k11 (fun _ h9 => h9) rfl (by decide +kernel) rfl rfl (Nat.le_of_ble_eq_true rfl) dX2_reckon_122 (fun H locs hP hD hS => ?_)
          have hP : va_P D vwCl (wd_X2_reckon cy o_t (l5 / r95) (l7 / r95) x_amongHits x_amongOthers) H := hP
          have hD : va_D A (wd_X2_reckon cy o_t (l5 / r95) (l7 / r95) x_amongHits x_amongOthers) := hD
          obtain rfl := Option.some.inj hf
          exact hR _ _ _ _ hP hD hS dX2_reckon_125
      refine lv_iload hx hb dX2_reckon_35 (lv_at hl 6 rfl) ?_
      refine lv_iload_n hx hb dX2_reckon_37 rfl (lv_at hl 1 rfl) ?_
      refine lv_iload_n hx hb dX2_reckon_38 rfl (lv_at hl 2 rfl) ?_
      refine va_mmin hx hb (hml.trans hl.1.symm) hown k7 k8 k5 k9 (Nat.le_of_ble_eq_true rfl) (Nat.le_of_ble_eq_true rfl) (Nat.le_of_ble_eq_true rfl) (Nat.le_of_ble_eq_true rfl) dX2_reckon_39 ?_
      refine lv_icmp_gt (tgt := 91) hx hb dX2_reckon_42 (by decide) (fun c42 => ?_) (fun c42 => ?_)
      · have hf := ifp c42 hf
        exact h91 _ _ _ _ _ _ _ _ _ hf hP hD hS (lv_sub hl [0, 4, 5] rfl)
      · have hf := ifn c42 hf
        have h85 : ∀ (x_above : Int64) (x_below : Int64) (x_amongHits : Nat → Int64) (x_amongOthers : Nat → Int64) (l2 : Int32) (l3 : Int32) (l4 : Int32) (l5 : Int64) (l7 : Int64) (l9 : Int32) (H : Heap) (locs : List Loc) (ls : Array Slot), X2_reckon_J85 (X2_reckon_L35 n35) x_above x_below x_amongHits x_amongOthers l2 l3 l4 l5 l7 l9 = some out → va_P D vwCl (wd_X2_reckon cy o_t x_above x_below x_amongHits x_amongOthers) H → va_D A (wd_X2_reckon cy o_t x_above x_below x_amongHits x_amongOthers) → va_S A s.heap H locs → lv_has ls 12 [(0, .ref (o_t 0)), (2, .int l2), (3, .int l3), (4, .int l4), (5, .long l5), (7, .long l7), (9, .int l9)] → W p l e (rmm 2 47) s m args below meth c H locs 0 0 Q (F0 m 85 ls []) := by
          intro x_above x_below x_amongHits x_amongOthers l2 l3 l4 l5 l7 l9 H locs ls hf hP hD hS hl
          rw [X2_reckon_J85] at hf
          obtain ⟨v85, ev85, hf⟩ := nm_s hf
          refine lv_iinc (v := v85) (lv' := [(9, .int v85), (0, .ref (o_t 0)), (2, .int l2), (3, .int l3), (4, .int l4), (5, .long l5), (7, .long l7)]) hx hb dX2_reckon_85 hl (k := 6) rfl (by rw [ev85]; rfl) (by decide) rfl (fun ls hl => ?_)
          refine lv_goto (tgt := 35) hx hb dX2_reckon_88 (by decide) ?_
          exact ih35 _ _ _ _ _ _ _ _ _ _ _ _ _ hf hP hD hS (lv_sub hl [1, 2, 3, 4, 5, 6, 0] rfl)
        refine lv_aload_n hx hb dX2_reckon_45 rfl (lv_at hl 0 rfl) ?_
        refine va_get (D := D) (ci := 2) (v := .ref (o_t 3)) (C := RX2) (T := TX2) (N := 4) hx hb hts k1 hown hK hP 0 rfl rfl 2 (by decide) k0 (fun _ h9 => h9) rfl dX2_reckon_46 ?_
        refine lv_iload hx hb dX2_reckon_49 (lv_at hl 6 rfl) ?_
        obtain ⟨v51, b51, ev51, hf⟩ := rd_s hf
        refine my_lald hx hb hK hP 1 rfl b51 ev51 dX2_reckon_51 ?_
        refine lv_aload_n hx hb dX2_reckon_52 rfl (lv_at hl 0 rfl) ?_
        refine va_get (D := D) (ci := 2) (v := .ref (o_t 4)) (C := RX2) (T := TX2) (N := 4) hx hb hts k1 hown hK hP 0 rfl rfl 3 (by decide) k2 (fun _ h9 => h9) rfl dX2_reckon_53 ?_
        refine lv_iload_n hx hb dX2_reckon_56 rfl (lv_at hl 1 rfl) ?_
        refine lv_iload hx hb dX2_reckon_57 (lv_at hl 6 rfl) ?_
        refine lv_isub hx hb dX2_reckon_59 ?_
        obtain ⟨v60, b60, ev60, hf⟩ := rd_s hf
        refine my_lald hx hb hK hP 2 rfl b60 ev60 dX2_reckon_60 ?_
        refine lv_lmul hx hb dX2_reckon_61 ?_
        obtain ⟨v62, ev62, hf⟩ := nm_s hf
        refine my_topl ev62 ?_
        refine lv_lstore (lv' := [(10, .long v62), (0, .ref (o_t 0)), (2, .int l2), (3, .int l3), (4, .int l4), (5, .long l5), (7, .long l7), (9, .int l9)]) hx hb dX2_reckon_62 hl (by decide) rfl (fun ls hl => ?_)
        refine lv_lload hx hb dX2_reckon_64 (lv_at hl 6 rfl) ?_
        refine lv_lload hx hb dX2_reckon_66 (lv_at hl 0 rfl) ?_
        refine lv_ladd hx hb dX2_reckon_68 ?_
        obtain ⟨v69, ev69, hf⟩ := nm_s hf
        refine my_topl ev69 ?_
        refine lv_lstore (lv' := [(7, .long v69), (10, .long v62), (0, .ref (o_t 0)), (2, .int l2), (3, .int l3), (4, .int l4), (5, .long l5), (9, .int l9)]) hx hb dX2_reckon_69 hl (by decide) rfl (fun ls hl => ?_)
        refine lv_iload hx hb dX2_reckon_71 (lv_at hl 7 rfl) ?_
        refine lv_iload hx hb dX2_reckon_73 (lv_at hl 5 rfl) ?_
        refine lv_icmp_lt (tgt := 85) hx hb dX2_reckon_75 (by decide) (fun c75 => ?_) (fun c75 => ?_)
        · have hf := ifp c75 hf
          exact h85 _ _ _ _ _ _ _ _ _ _ _ _ _ hf hP hD hS (lv_sub hl [2, 3, 4, 5, 6, 0, 7] rfl)
        · have hf := ifn c75 hf
          refine lv_lload hx hb dX2_reckon_78 (lv_at hl 6 rfl) ?_
          refine lv_lload hx hb dX2_reckon_80 (lv_at hl 1 rfl) ?_
          refine lv_ladd hx hb dX2_reckon_82 ?_
          obtain ⟨v83, ev83, hf⟩ := nm_s hf
          refine my_topl ev83 ?_
          refine lv_lstore (lv' := [(5, .long v83), (7, .long v69), (10, .long v62), (0, .ref (o_t 0)), (2, .int l2), (3, .int l3), (4, .int l4), (9, .int l9)]) hx hb dX2_reckon_83 hl (by decide) rfl (fun ls hl => ?_)
          exact h85 _ _ _ _ _ _ _ _ _ _ _ _ _ hf hP hD hS (lv_sub hl [3, 4, 5, 6, 0, 1, 7] rfl)
  refine lv_aload_n hx hb dX2_reckon_0 rfl (lv_at hl 0 rfl) ?_
  refine va_get (D := D) (ci := 2) (v := .ref (o_t 3)) (C := RX2) (T := TX2) (N := 4) hx hb hts k1 hown hK hP 0 rfl rfl 2 (by decide) k0 (fun _ h9 => h9) rfl dX2_reckon_1 ?_
  refine lv_iload_n hx hb dX2_reckon_4 rfl (lv_at hl 3 rfl) ?_
  obtain ⟨r5, hr5, hf⟩ := bd_s hf
  refine my_Sv (WS2 := (wd_X2_reckon cy o_t x_above x_below r5 x_amongOthers)) ⟨hx, hb, hml, hown, hts⟩ (c_X2_fillChoices l D cy t (o_t 3) 61 x_amongHits p3 hr5) (va_cwS 2 hts gX2_reckon_X2_fillChoices rfl rfl rfl hd_X2_fillChoices ⟨Nat.le_of_ble_eq_true rfl, Nat.le_of_ble_eq_true rfl⟩) hK hE hP hD hS hA [1] 3 rfl rfl (by decide +kernel) rfl rfl hl.1 rfl (Nat.le_of_ble_eq_true rfl) dX2_reckon_5 ⟨Nat.le_of_ble_eq_true rfl, Nat.le_of_ble_eq_true rfl⟩ (fun H locs hP hD hS => ?_)
  refine lv_aload_n hx hb dX2_reckon_8 rfl (lv_at hl 0 rfl) ?_
  refine va_get (D := D) (ci := 2) (v := .ref (o_t 4)) (C := RX2) (T := TX2) (N := 4) hx hb hts k1 hown hK hP 0 rfl rfl 3 (by decide) k2 (fun _ h9 => h9) rfl dX2_reckon_9 ?_
  refine lv_iload_n hx hb dX2_reckon_12 rfl (lv_at hl 1 rfl) ?_
  refine lv_iload_n hx hb dX2_reckon_13 rfl (lv_at hl 3 rfl) ?_
  refine lv_isub hx hb dX2_reckon_14 ?_
  obtain ⟨r15, hr15, hf⟩ := bd_s hf
  refine my_Sv (WS2 := (wd_X2_reckon cy o_t x_above x_below r5 r15)) ⟨hx, hb, hml, hown, hts⟩ (c_X2_fillChoices l D cy t (o_t 4) 61 x_amongOthers (p1 - p3) hr15) (va_cwS 2 hts gX2_reckon_X2_fillChoices rfl rfl rfl hd_X2_fillChoices ⟨Nat.le_of_ble_eq_true rfl, Nat.le_of_ble_eq_true rfl⟩) hK hE hP hD hS hA [2] 3 rfl rfl (by decide +kernel) rfl rfl hl.1 rfl (Nat.le_of_ble_eq_true rfl) dX2_reckon_15 ⟨Nat.le_of_ble_eq_true rfl, Nat.le_of_ble_eq_true rfl⟩ (fun H locs hP hD hS => ?_)
  refine lv_lconst (v := (0 : Int64)) hx hb dX2_reckon_18 (by decide) ?_
  refine lv_lstore (lv' := [(5, .long (0 : Int64)), (0, .ref (o_t 0)), (1, .int p1), (2, .int p2), (3, .int p3), (4, .int p4)]) hx hb dX2_reckon_19 hl (by decide) rfl (fun ls hl => ?_)
  refine lv_lconst (v := (0 : Int64)) hx hb dX2_reckon_21 (by decide) ?_
  refine lv_lstore (lv' := [(7, .long (0 : Int64)), (5, .long (0 : Int64)), (0, .ref (o_t 0)), (1, .int p1), (2, .int p2), (3, .int p3), (4, .int p4)]) hx hb dX2_reckon_22 hl (by decide) rfl (fun ls hl => ?_)
  refine lv_iconst (v := (0 : Int32)) hx hb dX2_reckon_24 (by decide) ?_
  refine lv_iload_n hx hb dX2_reckon_25 rfl (lv_at hl 4 rfl) ?_
  refine lv_iload_n hx hb dX2_reckon_26 rfl (lv_at hl 5 rfl) ?_
  refine lv_iadd hx hb dX2_reckon_27 ?_
  refine lv_iload_n hx hb dX2_reckon_28 rfl (lv_at hl 3 rfl) ?_
  refine lv_isub hx hb dX2_reckon_29 ?_
  refine va_mmax hx hb (hml.trans hl.1.symm) hown k3 k4 k5 k6 (Nat.le_of_ble_eq_true rfl) (Nat.le_of_ble_eq_true rfl) (Nat.le_of_ble_eq_true rfl) (Nat.le_of_ble_eq_true rfl) dX2_reckon_30 ?_
  obtain ⟨v33, ev33, hf⟩ := nm_s hf
  refine my_topi ev33 ?_
  refine lv_istore (lv' := [(9, .int v33), (7, .long (0 : Int64)), (5, .long (0 : Int64)), (0, .ref (o_t 0)), (1, .int p1), (2, .int p2), (3, .int p3), (4, .int p4)]) hx hb dX2_reckon_33 hl (by decide) rfl (fun ls hl => ?_)
  exact h35 FU _ _ _ _ _ _ _ _ _ _ _ _ _ hf hP hD hS (lv_sub hl [3, 5, 6, 7, 2, 1, 0] rfl)
theorem hd_X2_reckon : yX2_reckon.cls ≠ "java/lang/invoke/MethodHandle" ∧ yX2_reckon.cls ≠ "java/lang/invoke/VarHandle" ∧ (parseMethodDescriptor yX2_reckon.desc).map (fun d => d.parameters.length) = some 4 := by decide +kernel
set_option maxRecDepth 100000 in
theorem c_X2_reckon (l : Launch) (D : va_G) (cy : Nat → ClassId) (t : Nat → Nat) (o_t : Nat → Nat) (x_above : Int64) (x_below : Int64) (x_amongHits : Nat → Int64) (x_amongOthers : Nat → Int64) (p1 : Int32) (p2 : Int32) (p3 : Int32) (p4 : Int32) {out : Int64 × Int64 × (Nat → Int64) × (Nat → Int64)} (hf : X2_reckon x_above x_below x_amongHits x_amongOthers p1 p2 p3 p4 = some out) : ctV l yX2_reckon wsX2_reckon 2 47 D cy t [.ref (o_t 0), .int p1, .int p2, .int p3, .int p4] (wd_X2_reckon cy o_t x_above x_below x_amongHits x_amongOthers) (wd_X2_reckon cy o_t out.1 out.2.1 out.2.2.1 out.2.2.2) := by
  refine ⟨rfl, ?_⟩
  intro sz
  refine Met.ofW (cc := cX2_reckon) (maxL := 12) (ret := none) (by decide) rfl ?_
  intro p e s m args below meth c s₁ B hml hv
  obtain ⟨rfl, hsz, hP, hK, hD0, hE⟩ := hv
  have hts := atoms_spec (ws := wsX2_reckon) B.pre
  have hown : s.vm.findClass RX2 = some m.cls := findClass_of_methodNamed B.named
  have hlocks := B.notSynchronized
  subst hsz
  have hD := hD0.self (sz := s.heap.size)
  have hl := lv_entry ([.ref (o_t 0), .int p1, .int p2, .int p3, .int p4]) (n := 12) (Nat.le_of_ble_eq_true rfl)
  rw [lg_entry_eq]
  generalize (lg_sl ([.ref (o_t 0), .int p1, .int p2, .int p3, .int p4]) ++ List.replicate (12 - (lg_sl ([.ref (o_t 0), .int p1, .int p2, .int p3, .int p4])).length) Slot.unset).toArray = ls at hl ⊢
  exact w_X2_reckon D cy t o_t x_above x_below x_amongHits x_amongOthers p1 p2 p3 p4 hf B.exec B.bytes hml hown hts hK hE (fun q h => Or.inr h) hP hD va_S.rf hl (fun H locs ls pc hP hD hS hdg => W.vret B.exec B.bytes B.returns (fun t ht hW => ⟨⟨(), rfl, trivial, ctB_of ht hP⟩, hS.F ht⟩) hS.2.2 hdg)
