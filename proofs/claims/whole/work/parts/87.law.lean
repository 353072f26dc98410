set_option maxHeartbeats 4000000 in
set_option maxRecDepth 100000 in
theorem law_c0 {p : Program} {l : Launch} {e : Env} {s : State} {m : MethodId} {below : List Frame} {meth : Method} {c : Code} {Q : State → Prop} {D : va_G} {cy : Nat → ClassId} {t : Nat → Nat} {O : Nat → Nat → Nat} {M : Nat → Nat} {sf : Nat → Option Nat} {wy : Nat → Int64} {X : Nat → Int32} {Y : Nat → Nat → Int32} {Z : Nat → Nat → Int64} {V : Nat → Int64} {x : Nat → Int32} {y : Nat → Nat → Int32} {b L i : Nat} {xs : Nat → Int32} {x3 : Int32} {H : Heap} {locs : List Loc} {ls : Array Slot} (C0 : lw_At p s m meth c b L xs) (hL : L ≤ 3072) (hi : i + 6 ≤ L) (ex : x3 = nI i) (hsf : sf 0 = some (O 10 0) ∧ sf 1 = some (O 11 0) ∧ sf 2 = some (O 12 0) ∧ sf 3 = some (O 13 0)) (hK : va_K D vwCl (TYS cy) s) (hE : EV t (LA s) s s.heap) (hIW : InvW wy) (hInv : LInv X Y x y) (hP : va_P D vwCl (wdL cy O M sf wy X Y Z V x y) H) (hD : va_D (LA s) (wdL cy O M sf wy X Y Z V x y)) (hS : va_S (LA s) s.heap H locs) (hl : lv_has ls 4 [(0, .ref b), (1, .ref (O 0 0)), (2, .ref (M 0)), (3, .int x3)]) (kk : ∀ (X : Nat → Int32) (Y : Nat → Nat → Int32) (Z : Nat → Nat → Int64) (V : Nat → Int64) (x : Nat → Int32) (y : Nat → Nat → Int32) (H : Heap) (locs : List Loc), LInv X Y x y → va_P D vwCl (wdL cy O M sf wy X Y Z V x y) H → va_D (LA s) (wdL cy O M sf wy X Y Z V x y) → va_S (LA s) s.heap H locs → W p l e room_1 s m #[Value.ref b] below meth c H locs 78 18884 Q (F0 m 1357 ls [])) : W p l e room_1 s m #[Value.ref b] below meth c H locs 78 18884 Q (F0 m 168 ls []) := by
  obtain ⟨hx, hb, hr, hml, hown, hts0, hX, hbl, hlocks, hgv⟩ := C0
  have hts : ∀ w ∈ wsL_law, w.before #[Value.ref b] s = true := fun w h => hts0 w (wsL_in w h)
  have hA : ∀ q : Nat, s.heap.size ≤ q → LA s q := fun _ h => h
  have hbA : ¬ LA s b := Nat.not_le.mpr hbl
  obtain ⟨hIP, hIR, hIL, hIC, k0, k1, k2, k3⟩ := hInv
  have b1 : vp_in (x3 + (1 : Int32)) L := by rw [ex, show nI i + (1 : Int32) = nI (i + 1) from nI_add i 1]; exact vp_in_nI (by omega) (by omega)
  have b2 : vp_in (x3 + (2 : Int32)) L := by rw [ex, show nI i + (2 : Int32) = nI (i + 2) from nI_add i 2]; exact vp_in_nI (by omega) (by omega)
  have b3 : vp_in (x3 + (3 : Int32)) L := by rw [ex, show nI i + (3 : Int32) = nI (i + 3) from nI_add i 3]; exact vp_in_nI (by omega) (by omega)
  obtain ⟨oc, om, h1, h2, h3, hIP, hIL, w1, w2, w3, w6, w7, w8⟩ := op_field hIP hIL (x 0) (xs (x3 + (1 : Int32)).toNatClampNeg) (xs (x3 + (2 : Int32)).toNatClampNeg) (xs (x3 + (3 : Int32)).toNatClampNeg)
  refine lv_aload_n hx hb dL_law_168 rfl (lv_at hl 1 rfl) ?_
  refine lv_aload_n hx hb dL_law_169 rfl (lv_at hl 0 rfl) ?_
  refine lv_iload_n hx hb dL_law_170 rfl (lv_at hl 3 rfl) ?_
  refine lv_iconst (v := (1 : Int32)) hx hb dL_law_171 (by decide) ?_
  refine lv_iadd hx hb dL_law_172 ?_
  refine va_sld hx hb hX hbl hbA hS b1 dL_law_173 ?_
  refine lv_aload_n hx hb dL_law_174 rfl (lv_at hl 0 rfl) ?_
  refine lv_iload_n hx hb dL_law_175 rfl (lv_at hl 3 rfl) ?_
  refine lv_iconst (v := (2 : Int32)) hx hb dL_law_176 (by decide) ?_
  refine lv_iadd hx hb dL_law_177 ?_
  refine va_sld hx hb hX hbl hbA hS b2 dL_law_178 ?_
  refine lv_aload_n hx hb dL_law_179 rfl (lv_at hl 0 rfl) ?_
  refine lv_iload_n hx hb dL_law_180 rfl (lv_at hl 3 rfl) ?_
  refine lv_iconst (v := (3 : Int32)) hx hb dL_law_181 (by decide) ?_
  refine lv_iadd hx hb dL_law_182 ?_
  refine va_sld hx hb hX hbl hbA hS b3 dL_law_183 ?_
  refine my_Vi (WS2 := (wdL cy O M sf wy (sX (sX (sX (sX X 0 oc.2.1) 1 oc.2.2.1) 2 oc.2.2.2.1) 3 oc.2.2.2.2.2.2.2.2.2) (sX (sX (sX (sX (sX Y 1 oc.2.2.2.2.1) 2 oc.2.2.2.2.2.1) 3 oc.2.2.2.2.2.2.1) 4 oc.2.2.2.2.2.2.2.1) 5 oc.2.2.2.2.2.2.2.2.1) Z V x y)) ⟨hx, hb, hml, hown, hts⟩ (c_X7_field l D cy t (O 0) (O 1) (O 2) (O 3) (O 4) (O 5) (O 6) (O 7) (O 8) (O 9) (X 0) (X 1) (X 2) (Y 1) (Y 2) (Y 3) (Y 4) (Y 5) (X 3) (xs (x3 + (1 : Int32)).toNatClampNeg) (xs (x3 + (2 : Int32)).toNatClampNeg) (xs (x3 + (3 : Int32)).toNatClampNeg) h1) (cwV 3 hts gL_law_X7_field rfl rfl rfl ⟨rfl, hd_X7_field⟩ ⟨Nat.le_of_ble_eq_true rfl, Nat.le_of_ble_eq_true rfl⟩) hK hE hP hD hS hA [0, 1, 3, 4, 5, 6, 7, 8, 9] 78 7 0 rfl rfl rfl rfl (by decide +kernel) rfl rfl hl.1 rfl (Nat.le_of_ble_eq_true rfl) dL_law_184 ⟨Nat.le_of_ble_eq_true rfl, Nat.le_of_ble_eq_true rfl⟩ (fun H locs hP hD hS => ?_)
  refine lv_aload_n hx hb dL_law_187 rfl (lv_at hl 2 rfl) ?_
  refine lv_aload_n hx hb dL_law_188 rfl (lv_at hl 0 rfl) ?_
  refine lv_iload_n hx hb dL_law_189 rfl (lv_at hl 3 rfl) ?_
  refine lv_iconst (v := (1 : Int32)) hx hb dL_law_190 (by decide) ?_
  refine lv_iadd hx hb dL_law_191 ?_
  refine va_sld hx hb hX hbl hbA hS b1 dL_law_192 ?_
  refine lv_aload_n hx hb dL_law_193 rfl (lv_at hl 0 rfl) ?_
  refine lv_iload_n hx hb dL_law_194 rfl (lv_at hl 3 rfl) ?_
  refine lv_iconst (v := (2 : Int32)) hx hb dL_law_195 (by decide) ?_
  refine lv_iadd hx hb dL_law_196 ?_
  refine va_sld hx hb hX hbl hbA hS b2 dL_law_197 ?_
  refine lv_aload_n hx hb dL_law_198 rfl (lv_at hl 0 rfl) ?_
  refine lv_iload_n hx hb dL_law_199 rfl (lv_at hl 3 rfl) ?_
  refine lv_iconst (v := (3 : Int32)) hx hb dL_law_200 (by decide) ?_
  refine lv_iadd hx hb dL_law_201 ?_
  refine va_sld hx hb hX hbl hbA hS b3 dL_law_202 ?_
  refine my_Vi (WS2 := (wdL cy O M sf wy (sX (sX (sX (sX X 0 oc.2.1) 1 oc.2.2.1) 2 oc.2.2.2.1) 3 oc.2.2.2.2.2.2.2.2.2) (sX (sX (sX (sX (sX Y 1 oc.2.2.2.2.1) 2 oc.2.2.2.2.2.1) 3 oc.2.2.2.2.2.2.1) 4 oc.2.2.2.2.2.2.2.1) 5 oc.2.2.2.2.2.2.2.2.1) Z V (sX x 0 om.2.1) (sX (sX (sX (sX (sX (sX (sX (sX y 0 om.2.2.1) 1 om.2.2.2.1) 2 om.2.2.2.2.1) 6 om.2.2.2.2.2.1) 7 om.2.2.2.2.2.2.1) 8 om.2.2.2.2.2.2.2.1) 10 om.2.2.2.2.2.2.2.2.1) 11 om.2.2.2.2.2.2.2.2.2))) ⟨hx, hb, hml, hown, hts⟩ (c_X8_field l D cy t M (x 0) (x 1) (x 2) (x 3) (x 4) (x 5) (x 6) (x 7) (x 8) (x 9) (y 0) (y 1) (y 2) (y 6) (y 7) (y 8) (y 10) (y 11) (xs (x3 + (1 : Int32)).toNatClampNeg) (xs (x3 + (2 : Int32)).toNatClampNeg) (xs (x3 + (3 : Int32)).toNatClampNeg) h2) (cwV 3 hts gL_law_X8_field rfl rfl rfl ⟨rfl, hd_X8_field⟩ ⟨Nat.le_of_ble_eq_true rfl, Nat.le_of_ble_eq_true rfl⟩) hK hE hP hD hS hA [51, 52, 53, 54, 58, 59, 60, 62, 63] 78 8 0 rfl rfl rfl rfl (by decide +kernel) rfl rfl hl.1 rfl (Nat.le_of_ble_eq_true rfl) dL_law_203 ⟨Nat.le_of_ble_eq_true rfl, Nat.le_of_ble_eq_true rfl⟩ (fun H locs hP hD hS => ?_)
  refine lv_icmp_eq (tgt := 1357) hx hb dL_law_206 (by decide) (fun cq => ?_) (fun cq => absurd h3 cq)
  exact kk (sX (sX (sX (sX X 0 oc.2.1) 1 oc.2.2.1) 2 oc.2.2.2.1) 3 oc.2.2.2.2.2.2.2.2.2) (sX (sX (sX (sX (sX Y 1 oc.2.2.2.2.1) 2 oc.2.2.2.2.2.1) 3 oc.2.2.2.2.2.2.1) 4 oc.2.2.2.2.2.2.2.1) 5 oc.2.2.2.2.2.2.2.2.1) Z V (sX x 0 om.2.1) (sX (sX (sX (sX (sX (sX (sX (sX y 0 om.2.2.1) 1 om.2.2.2.1) 2 om.2.2.2.2.1) 6 om.2.2.2.2.2.1) 7 om.2.2.2.2.2.2.1) 8 om.2.2.2.2.2.2.2.1) 10 om.2.2.2.2.2.2.2.2.1) 11 om.2.2.2.2.2.2.2.2.2) H locs ⟨hIP, hIR, hIL, hIC, SK_low (by decide) w1 w2 w3 LowEq.rf LowEq.rf LowEq.rf w6 w7 w8 k0, SK_low (by decide) w1 w2 w3 LowEq.rf LowEq.rf LowEq.rf w6 w7 w8 k1, SK_low (by decide) w1 w2 w3 LowEq.rf LowEq.rf LowEq.rf w6 w7 w8 k2, SK_low (by decide) w1 w2 w3 LowEq.rf LowEq.rf LowEq.rf w6 w7 w8 k3⟩ hP hD hS

set_option maxHeartbeats 4000000 in
set_option maxRecDepth 100000 in
theorem law_c1 {p : Program} {l : Launch} {e : Env} {s : State} {m : MethodId} {below : List Frame} {meth : Method} {c : Code} {Q : State → Prop} {D : va_G} {cy : Nat → ClassId} {t : Nat → Nat} {O : Nat → Nat → Nat} {M : Nat → Nat} {sf : Nat → Option Nat} {wy : Nat → Int64} {X : Nat → Int32} {Y : Nat → Nat → Int32} {Z : Nat → Nat → Int64} {V : Nat → Int64} {x : Nat → Int32} {y : Nat → Nat → Int32} {b L i : Nat} {xs : Nat → Int32} {x3 : Int32} {H : Heap} {locs : List Loc} {ls : Array Slot} (C0 : lw_At p s m meth c b L xs) (hL : L ≤ 3072) (hi : i + 6 ≤ L) (ex : x3 = nI i) (hsf : sf 0 = some (O 10 0) ∧ sf 1 = some (O 11 0) ∧ sf 2 = some (O 12 0) ∧ sf 3 = some (O 13 0)) (hK : va_K D vwCl (TYS cy) s) (hE : EV t (LA s) s s.heap) (hIW : InvW wy) (hInv : LInv X Y x y) (hP : va_P D vwCl (wdL cy O M sf wy X Y Z V x y) H) (hD : va_D (LA s) (wdL cy O M sf wy X Y Z V x y)) (hS : va_S (LA s) s.heap H locs) (hl : lv_has ls 4 [(0, .ref b), (1, .ref (O 0 0)), (2, .ref (M 0)), (3, .int x3)]) (kk : ∀ (X : Nat → Int32) (Y : Nat → Nat → Int32) (Z : Nat → Nat → Int64) (V : Nat → Int64) (x : Nat → Int32) (y : Nat → Nat → Int32) (H : Heap) (locs : List Loc), LInv X Y x y → va_P D vwCl (wdL cy O M sf wy X Y Z V x y) H → va_D (LA s) (wdL cy O M sf wy X Y Z V x y) → va_S (LA s) s.heap H locs → W p l e room_1 s m #[Value.ref b] below meth c H locs 78 18884 Q (F0 m 1357 ls [])) : W p l e room_1 s m #[Value.ref b] below meth c H locs 78 18884 Q (F0 m 211 ls []) := by
  obtain ⟨hx, hb, hr, hml, hown, hts0, hX, hbl, hlocks, hgv⟩ := C0
  have hts : ∀ w ∈ wsL_law, w.before #[Value.ref b] s = true := fun w h => hts0 w (wsL_in w h)
  have hA : ∀ q : Nat, s.heap.size ≤ q → LA s q := fun _ h => h
  have hbA : ¬ LA s b := Nat.not_le.mpr hbl
  obtain ⟨hIP, hIR, hIL, hIC, k0, k1, k2, k3⟩ := hInv
  have b1 : vp_in (x3 + (1 : Int32)) L := by rw [ex, show nI i + (1 : Int32) = nI (i + 1) from nI_add i 1]; exact vp_in_nI (by omega) (by omega)
  have b2 : vp_in (x3 + (2 : Int32)) L := by rw [ex, show nI i + (2 : Int32) = nI (i + 2) from nI_add i 2]; exact vp_in_nI (by omega) (by omega)
  obtain ⟨oc, om, h1, h2, h3, ⟨w3, w4, w5⟩, hIP, hIR⟩ := op_rule hIP hIR (x 0) (xs (x3 + (1 : Int32)).toNatClampNeg) (xs (x3 + (2 : Int32)).toNatClampNeg)
  refine lv_aload_n hx hb dL_law_211 rfl (lv_at hl 1 rfl) ?_
  refine lv_aload_n hx hb dL_law_212 rfl (lv_at hl 0 rfl) ?_
  refine lv_iload_n hx hb dL_law_213 rfl (lv_at hl 3 rfl) ?_
  refine lv_iconst (v := (1 : Int32)) hx hb dL_law_214 (by decide) ?_
  refine lv_iadd hx hb dL_law_215 ?_
  refine va_sld hx hb hX hbl hbA hS b1 dL_law_216 ?_
  refine lv_aload_n hx hb dL_law_217 rfl (lv_at hl 0 rfl) ?_
  refine lv_iload_n hx hb dL_law_218 rfl (lv_at hl 3 rfl) ?_
  refine lv_iconst (v := (2 : Int32)) hx hb dL_law_219 (by decide) ?_
  refine lv_iadd hx hb dL_law_220 ?_
  refine va_sld hx hb hX hbl hbA hS b2 dL_law_221 ?_
  refine my_Vi (WS2 := (wdL cy O M sf wy (sX X 3 oc.2.2) (sX Y 0 oc.2.1) Z V x y)) ⟨hx, hb, hml, hown, hts⟩ (c_X7_rule l D cy t (O 0) (O 1) (O 2) (O 3) (O 4) (O 5) (O 6) (O 7) (O 8) (O 9) (X 0) (X 1) (X 2) (Y 0) (X 3) (xs (x3 + (1 : Int32)).toNatClampNeg) (xs (x3 + (2 : Int32)).toNatClampNeg) h1) (cwV 2 hts gL_law_X7_rule rfl rfl rfl ⟨rfl, hd_X7_rule⟩ ⟨Nat.le_of_ble_eq_true rfl, Nat.le_of_ble_eq_true rfl⟩) hK hE hP hD hS hA [0, 1, 2, 9] 78 7 0 rfl rfl rfl rfl (by decide +kernel) rfl rfl hl.1 rfl (Nat.le_of_ble_eq_true rfl) dL_law_222 ⟨Nat.le_of_ble_eq_true rfl, Nat.le_of_ble_eq_true rfl⟩ (fun H locs hP hD hS => ?_)
  refine lv_aload_n hx hb dL_law_225 rfl (lv_at hl 2 rfl) ?_
  refine lv_aload_n hx hb dL_law_226 rfl (lv_at hl 0 rfl) ?_
  refine lv_iload_n hx hb dL_law_227 rfl (lv_at hl 3 rfl) ?_
  refine lv_iconst (v := (1 : Int32)) hx hb dL_law_228 (by decide) ?_
  refine lv_iadd hx hb dL_law_229 ?_
  refine va_sld hx hb hX hbl hbA hS b1 dL_law_230 ?_
  refine lv_aload_n hx hb dL_law_231 rfl (lv_at hl 0 rfl) ?_
  refine lv_iload_n hx hb dL_law_232 rfl (lv_at hl 3 rfl) ?_
  refine lv_iconst (v := (2 : Int32)) hx hb dL_law_233 (by decide) ?_
  refine lv_iadd hx hb dL_law_234 ?_
  refine va_sld hx hb hX hbl hbA hS b2 dL_law_235 ?_
  refine my_Vi (WS2 := (wdL cy O M sf wy (sX X 3 oc.2.2) (sX Y 0 oc.2.1) Z V (sX (sX (sX (sX (sX x 0 om.2.1) 1 om.2.2.1) 2 om.2.2.2.1) 3 om.2.2.2.2.1) 4 om.2.2.2.2.2.1) (sX (sX (sX y 3 om.2.2.2.2.2.2.1) 4 om.2.2.2.2.2.2.2.1) 5 om.2.2.2.2.2.2.2.2))) ⟨hx, hb, hml, hown, hts⟩ (c_X8_rule l D cy t M (x 0) (x 1) (x 2) (x 3) (x 4) (x 5) (x 6) (x 7) (x 8) (x 9) (y 3) (y 4) (y 5) (xs (x3 + (1 : Int32)).toNatClampNeg) (xs (x3 + (2 : Int32)).toNatClampNeg) h2) (cwV 2 hts gL_law_X8_rule rfl rfl rfl ⟨rfl, hd_X8_rule⟩ ⟨Nat.le_of_ble_eq_true rfl, Nat.le_of_ble_eq_true rfl⟩) hK hE hP hD hS hA [51, 55, 56, 57] 78 8 0 rfl rfl rfl rfl (by decide +kernel) rfl rfl hl.1 rfl (Nat.le_of_ble_eq_true rfl) dL_law_236 ⟨Nat.le_of_ble_eq_true rfl, Nat.le_of_ble_eq_true rfl⟩ (fun H locs hP hD hS => ?_)
  refine lv_icmp_eq (tgt := 1357) hx hb dL_law_239 (by decide) (fun cq => ?_) (fun cq => absurd h3 cq)
  exact kk (sX X 3 oc.2.2) (sX Y 0 oc.2.1) Z V (sX (sX (sX (sX (sX x 0 om.2.1) 1 om.2.2.1) 2 om.2.2.2.1) 3 om.2.2.2.2.1) 4 om.2.2.2.2.2.1) (sX (sX (sX y 3 om.2.2.2.2.2.2.1) 4 om.2.2.2.2.2.2.2.1) 5 om.2.2.2.2.2.2.2.2) H locs ⟨hIP, hIR, hIL, hIC, SK_low (by decide) LowEq.rf LowEq.rf LowEq.rf w3 w4 w5 LowEq.rf LowEq.rf LowEq.rf k0, SK_low (by decide) LowEq.rf LowEq.rf LowEq.rf w3 w4 w5 LowEq.rf LowEq.rf LowEq.rf k1, SK_low (by decide) LowEq.rf LowEq.rf LowEq.rf w3 w4 w5 LowEq.rf LowEq.rf LowEq.rf k2, SK_low (by decide) LowEq.rf LowEq.rf LowEq.rf w3 w4 w5 LowEq.rf LowEq.rf LowEq.rf k3⟩ hP hD hS

set_option maxHeartbeats 4000000 in
set_option maxRecDepth 100000 in
theorem law_c2 {p : Program} {l : Launch} {e : Env} {s : State} {m : MethodId} {below : List Frame} {meth : Method} {c : Code} {Q : State → Prop} {D : va_G} {cy : Nat → ClassId} {t : Nat → Nat} {O : Nat → Nat → Nat} {M : Nat → Nat} {sf : Nat → Option Nat} {wy : Nat → Int64} {X : Nat → Int32} {Y : Nat → Nat → Int32} {Z : Nat → Nat → Int64} {V : Nat → Int64} {x : Nat → Int32} {y : Nat → Nat → Int32} {b L i : Nat} {xs : Nat → Int32} {x3 : Int32} {H : Heap} {locs : List Loc} {ls : Array Slot} (C0 : lw_At p s m meth c b L xs) (hL : L ≤ 3072) (hi : i + 6 ≤ L) (ex : x3 = nI i) (hsf : sf 0 = some (O 10 0) ∧ sf 1 = some (O 11 0) ∧ sf 2 = some (O 12 0) ∧ sf 3 = some (O 13 0)) (hK : va_K D vwCl (TYS cy) s) (hE : EV t (LA s) s s.heap) (hIW : InvW wy) (hInv : LInv X Y x y) (hP : va_P D vwCl (wdL cy O M sf wy X Y Z V x y) H) (hD : va_D (LA s) (wdL cy O M sf wy X Y Z V x y)) (hS : va_S (LA s) s.heap H locs) (hl : lv_has ls 4 [(0, .ref b), (1, .ref (O 0 0)), (2, .ref (M 0)), (3, .int x3)]) (kk : ∀ (X : Nat → Int32) (Y : Nat → Nat → Int32) (Z : Nat → Nat → Int64) (V : Nat → Int64) (x : Nat → Int32) (y : Nat → Nat → Int32) (H : Heap) (locs : List Loc), LInv X Y x y → va_P D vwCl (wdL cy O M sf wy X Y Z V x y) H → va_D (LA s) (wdL cy O M sf wy X Y Z V x y) → va_S (LA s) s.heap H locs → W p l e room_1 s m #[Value.ref b] below meth c H locs 78 18884 Q (F0 m 1357 ls [])) : W p l e room_1 s m #[Value.ref b] below meth c H locs 78 18884 Q (F0 m 244 ls []) := by
  obtain ⟨hx, hb, hr, hml, hown, hts0, hX, hbl, hlocks, hgv⟩ := C0
  have hts : ∀ w ∈ wsL_law, w.before #[Value.ref b] s = true := fun w h => hts0 w (wsL_in w h)
  have hA : ∀ q : Nat, s.heap.size ≤ q → LA s q := fun _ h => h
  have hbA : ¬ LA s b := Nat.not_le.mpr hbl
  obtain ⟨hIP, hIR, hIL, hIC, k0, k1, k2, k3⟩ := hInv
  have b1 : vp_in (x3 + (1 : Int32)) L := by rw [ex, show nI i + (1 : Int32) = nI (i + 1) from nI_add i 1]; exact vp_in_nI (by omega) (by omega)
  have b2 : vp_in (x3 + (2 : Int32)) L := by rw [ex, show nI i + (2 : Int32) = nI (i + 2) from nI_add i 2]; exact vp_in_nI (by omega) (by omega)
  have b3 : vp_in (x3 + (3 : Int32)) L := by rw [ex, show nI i + (3 : Int32) = nI (i + 3) from nI_add i 3]; exact vp_in_nI (by omega) (by omega)
  obtain ⟨oc, om, h1, h2, h3, w6, hIP⟩ := op_press hIP (x 0) (xs (x3 + (1 : Int32)).toNatClampNeg) (xs (x3 + (2 : Int32)).toNatClampNeg) (xs (x3 + (3 : Int32)).toNatClampNeg)
  refine lv_aload_n hx hb dL_law_244 rfl (lv_at hl 1 rfl) ?_
  refine lv_aload_n hx hb dL_law_245 rfl (lv_at hl 0 rfl) ?_
  refine lv_iload_n hx hb dL_law_246 rfl (lv_at hl 3 rfl) ?_
  refine lv_iconst (v := (1 : Int32)) hx hb dL_law_247 (by decide) ?_
  refine lv_iadd hx hb dL_law_248 ?_
  refine va_sld hx hb hX hbl hbA hS b1 dL_law_249 ?_
  refine lv_aload_n hx hb dL_law_250 rfl (lv_at hl 0 rfl) ?_
  refine lv_iload_n hx hb dL_law_251 rfl (lv_at hl 3 rfl) ?_
  refine lv_iconst (v := (2 : Int32)) hx hb dL_law_252 (by decide) ?_
  refine lv_iadd hx hb dL_law_253 ?_
  refine va_sld hx hb hX hbl hbA hS b2 dL_law_254 ?_
  refine lv_aload_n hx hb dL_law_255 rfl (lv_at hl 0 rfl) ?_
  refine lv_iload_n hx hb dL_law_256 rfl (lv_at hl 3 rfl) ?_
  refine lv_iconst (v := (3 : Int32)) hx hb dL_law_257 (by decide) ?_
  refine lv_iadd hx hb dL_law_258 ?_
  refine va_sld hx hb hX hbl hbA hS b3 dL_law_259 ?_
  refine my_Vi (WS2 := (wdL cy O M sf wy (sX X 3 oc.2.2) (sX Y 1 oc.2.1) Z V x y)) ⟨hx, hb, hml, hown, hts⟩ (c_X7_press l D cy t (O 0) (O 1) (O 2) (O 3) (O 4) (O 5) (O 6) (O 7) (O 8) (O 9) (X 0) (X 1) (X 2) (Y 1) (X 3) (xs (x3 + (1 : Int32)).toNatClampNeg) (xs (x3 + (2 : Int32)).toNatClampNeg) (xs (x3 + (3 : Int32)).toNatClampNeg) h1) (cwV 3 hts gL_law_X7_press rfl rfl rfl ⟨rfl, hd_X7_press⟩ ⟨Nat.le_of_ble_eq_true rfl, Nat.le_of_ble_eq_true rfl⟩) hK hE hP hD hS hA [0, 1, 3, 9] 78 7 0 rfl rfl rfl rfl (by decide +kernel) rfl rfl hl.1 rfl (Nat.le_of_ble_eq_true rfl) dL_law_260 ⟨Nat.le_of_ble_eq_true rfl, Nat.le_of_ble_eq_true rfl⟩ (fun H locs hP hD hS => ?_)
  refine lv_aload_n hx hb dL_law_263 rfl (lv_at hl 2 rfl) ?_
  refine lv_aload_n hx hb dL_law_264 rfl (lv_at hl 0 rfl) ?_
  refine lv_iload_n hx hb dL_law_265 rfl (lv_at hl 3 rfl) ?_
  refine lv_iconst (v := (1 : Int32)) hx hb dL_law_266 (by decide) ?_
  refine lv_iadd hx hb dL_law_267 ?_
  refine va_sld hx hb hX hbl hbA hS b1 dL_law_268 ?_
  refine lv_aload_n hx hb dL_law_269 rfl (lv_at hl 0 rfl) ?_
  refine lv_iload_n hx hb dL_law_270 rfl (lv_at hl 3 rfl) ?_
  refine lv_iconst (v := (2 : Int32)) hx hb dL_law_271 (by decide) ?_
  refine lv_iadd hx hb dL_law_272 ?_
  refine va_sld hx hb hX hbl hbA hS b2 dL_law_273 ?_
  refine lv_aload_n hx hb dL_law_274 rfl (lv_at hl 0 rfl) ?_
  refine lv_iload_n hx hb dL_law_275 rfl (lv_at hl 3 rfl) ?_
  refine lv_iconst (v := (3 : Int32)) hx hb dL_law_276 (by decide) ?_
  refine lv_iadd hx hb dL_law_277 ?_
  refine va_sld hx hb hX hbl hbA hS b3 dL_law_278 ?_
  refine my_Vi (WS2 := (wdL cy O M sf wy (sX X 3 oc.2.2) (sX Y 1 oc.2.1) Z V (sX x 0 om.2.1) (sX y 6 om.2.2))) ⟨hx, hb, hml, hown, hts⟩ (c_X8_press l D cy t M (x 0) (x 1) (x 2) (x 3) (x 4) (x 5) (x 6) (x 7) (x 8) (x 9) (y 2) (y 6) (xs (x3 + (1 : Int32)).toNatClampNeg) (xs (x3 + (2 : Int32)).toNatClampNeg) (xs (x3 + (3 : Int32)).toNatClampNeg) h2) (cwV 3 hts gL_law_X8_press rfl rfl rfl ⟨rfl, hd_X8_press⟩ ⟨Nat.le_of_ble_eq_true rfl, Nat.le_of_ble_eq_true rfl⟩) hK hE hP hD hS hA [51, 54, 58] 78 8 0 rfl rfl rfl rfl (by decide +kernel) rfl rfl hl.1 rfl (Nat.le_of_ble_eq_true rfl) dL_law_279 ⟨Nat.le_of_ble_eq_true rfl, Nat.le_of_ble_eq_true rfl⟩ (fun H locs hP hD hS => ?_)
  refine lv_icmp_eq (tgt := 1357) hx hb dL_law_282 (by decide) (fun cq => ?_) (fun cq => absurd h3 cq)
  exact kk (sX X 3 oc.2.2) (sX Y 1 oc.2.1) Z V (sX x 0 om.2.1) (sX y 6 om.2.2) H locs ⟨hIP, hIR, hIL, hIC, SK_low (by decide) LowEq.rf LowEq.rf LowEq.rf LowEq.rf LowEq.rf LowEq.rf w6 LowEq.rf LowEq.rf k0, SK_low (by decide) LowEq.rf LowEq.rf LowEq.rf LowEq.rf LowEq.rf LowEq.rf w6 LowEq.rf LowEq.rf k1, SK_low (by decide) LowEq.rf LowEq.rf LowEq.rf LowEq.rf LowEq.rf LowEq.rf w6 LowEq.rf LowEq.rf k2, SK_low (by decide) LowEq.rf LowEq.rf LowEq.rf LowEq.rf LowEq.rf LowEq.rf w6 LowEq.rf LowEq.rf k3⟩ hP hD hS

set_option maxHeartbeats 4000000 in
set_option maxRecDepth 100000 in
theorem law_c3 {p : Program} {l : Launch} {e : Env} {s : State} {m : MethodId} {below : List Frame} {meth : Method} {c : Code} {Q : State → Prop} {D : va_G} {cy : Nat → ClassId} {t : Nat → Nat} {O : Nat → Nat → Nat} {M : Nat → Nat} {sf : Nat → Option Nat} {wy : Nat → Int64} {X : Nat → Int32} {Y : Nat → Nat → Int32} {Z : Nat → Nat → Int64} {V : Nat → Int64} {x : Nat → Int32} {y : Nat → Nat → Int32} {b L i : Nat} {xs : Nat → Int32} {x3 : Int32} {H : Heap} {locs : List Loc} {ls : Array Slot} (C0 : lw_At p s m meth c b L xs) (hL : L ≤ 3072) (hi : i + 6 ≤ L) (ex : x3 = nI i) (hsf : sf 0 = some (O 10 0) ∧ sf 1 = some (O 11 0) ∧ sf 2 = some (O 12 0) ∧ sf 3 = some (O 13 0)) (hK : va_K D vwCl (TYS cy) s) (hE : EV t (LA s) s s.heap) (hIW : InvW wy) (hInv : LInv X Y x y) (hP : va_P D vwCl (wdL cy O M sf wy X Y Z V x y) H) (hD : va_D (LA s) (wdL cy O M sf wy X Y Z V x y)) (hS : va_S (LA s) s.heap H locs) (hl : lv_has ls 4 [(0, .ref b), (1, .ref (O 0 0)), (2, .ref (M 0)), (3, .int x3)]) (kk : ∀ (X : Nat → Int32) (Y : Nat → Nat → Int32) (Z : Nat → Nat → Int64) (V : Nat → Int64) (x : Nat → Int32) (y : Nat → Nat → Int32) (H : Heap) (locs : List Loc), LInv X Y x y → va_P D vwCl (wdL cy O M sf wy X Y Z V x y) H → va_D (LA s) (wdL cy O M sf wy X Y Z V x y) → va_S (LA s) s.heap H locs → W p l e room_1 s m #[Value.ref b] below meth c H locs 78 18884 Q (F0 m 1357 ls [])) : W p l e room_1 s m #[Value.ref b] below meth c H locs 78 18884 Q (F0 m 287 ls []) := by
  obtain ⟨hx, hb, hr, hml, hown, hts0, hX, hbl, hlocks, hgv⟩ := C0
  have hts : ∀ w ∈ wsL_law, w.before #[Value.ref b] s = true := fun w h => hts0 w (wsL_in w h)
  have hA : ∀ q : Nat, s.heap.size ≤ q → LA s q := fun _ h => h
  have hbA : ¬ LA s b := Nat.not_le.mpr hbl
  obtain ⟨hIP, hIR, hIL, hIC, k0, k1, k2, k3⟩ := hInv
  have b1 : vp_in (x3 + (1 : Int32)) L := by rw [ex, show nI i + (1 : Int32) = nI (i + 1) from nI_add i 1]; exact vp_in_nI (by omega) (by omega)
  have b2 : vp_in (x3 + (2 : Int32)) L := by rw [ex, show nI i + (2 : Int32) = nI (i + 2) from nI_add i 2]; exact vp_in_nI (by omega) (by omega)
  have b3 : vp_in (x3 + (3 : Int32)) L := by rw [ex, show nI i + (3 : Int32) = nI (i + 3) from nI_add i 3]; exact vp_in_nI (by omega) (by omega)
  have b4 : vp_in (x3 + (4 : Int32)) L := by rw [ex, show nI i + (4 : Int32) = nI (i + 4) from nI_add i 4]; exact vp_in_nI (by omega) (by omega)
  obtain ⟨oc, om, h1, h2, h3, w6, hIP⟩ := op_hold hIP (x 0) (xs (x3 + (1 : Int32)).toNatClampNeg) (xs (x3 + (2 : Int32)).toNatClampNeg) (xs (x3 + (3 : Int32)).toNatClampNeg) (xs (x3 + (4 : Int32)).toNatClampNeg)
  refine lv_aload_n hx hb dL_law_287 rfl (lv_at hl 1 rfl) ?_
  refine lv_aload_n hx hb dL_law_288 rfl (lv_at hl 0 rfl) ?_
  refine lv_iload_n hx hb dL_law_289 rfl (lv_at hl 3 rfl) ?_
  refine lv_iconst (v := (1 : Int32)) hx hb dL_law_290 (by decide) ?_
  refine lv_iadd hx hb dL_law_291 ?_
  refine va_sld hx hb hX hbl hbA hS b1 dL_law_292 ?_
  refine lv_aload_n hx hb dL_law_293 rfl (lv_at hl 0 rfl) ?_
  refine lv_iload_n hx hb dL_law_294 rfl (lv_at hl 3 rfl) ?_
  refine lv_iconst (v := (2 : Int32)) hx hb dL_law_295 (by decide) ?_
  refine lv_iadd hx hb dL_law_296 ?_
  refine va_sld hx hb hX hbl hbA hS b2 dL_law_297 ?_
  refine lv_aload_n hx hb dL_law_298 rfl (lv_at hl 0 rfl) ?_
  refine lv_iload_n hx hb dL_law_299 rfl (lv_at hl 3 rfl) ?_
  refine lv_iconst (v := (3 : Int32)) hx hb dL_law_300 (by decide) ?_
  refine lv_iadd hx hb dL_law_301 ?_
  refine va_sld hx hb hX hbl hbA hS b3 dL_law_302 ?_
  refine lv_aload_n hx hb dL_law_303 rfl (lv_at hl 0 rfl) ?_
  refine lv_iload_n hx hb dL_law_304 rfl (lv_at hl 3 rfl) ?_
  refine lv_iconst (v := (4 : Int32)) hx hb dL_law_305 (by decide) ?_
  refine lv_iadd hx hb dL_law_306 ?_
  refine va_sld hx hb hX hbl hbA hS b4 dL_law_307 ?_
  refine my_Vi (WS2 := (wdL cy O M sf wy (sX X 3 oc.2.2) (sX Y 1 oc.2.1) Z V x y)) ⟨hx, hb, hml, hown, hts⟩ (c_X7_hold l D cy t (O 0) (O 1) (O 2) (O 3) (O 4) (O 5) (O 6) (O 7) (O 8) (O 9) (X 0) (X 1) (X 2) (Y 1) (X 3) (xs (x3 + (1 : Int32)).toNatClampNeg) (xs (x3 + (2 : Int32)).toNatClampNeg) (xs (x3 + (3 : Int32)).toNatClampNeg) (xs (x3 + (4 : Int32)).toNatClampNeg) h1) (cwV 4 hts gL_law_X7_hold rfl rfl rfl ⟨rfl, hd_X7_hold⟩ ⟨Nat.le_of_ble_eq_true rfl, Nat.le_of_ble_eq_true rfl⟩) hK hE hP hD hS hA [0, 1, 3, 9] 78 7 0 rfl rfl rfl rfl (by decide +kernel) rfl rfl hl.1 rfl (Nat.le_of_ble_eq_true rfl) dL_law_308 ⟨Nat.le_of_ble_eq_true rfl, Nat.le_of_ble_eq_true rfl⟩ (fun H locs hP hD hS => ?_)
  refine lv_aload_n hx hb dL_law_311 rfl (lv_at hl 2 rfl) ?_
  refine lv_aload_n hx hb dL_law_312 rfl (lv_at hl 0 rfl) ?_
  refine lv_iload_n hx hb dL_law_313 rfl (lv_at hl 3 rfl) ?_
  refine lv_iconst (v := (1 : Int32)) hx hb dL_law_314 (by decide) ?_
  refine lv_iadd hx hb dL_law_315 ?_
  refine va_sld hx hb hX hbl hbA hS b1 dL_law_316 ?_
  refine lv_aload_n hx hb dL_law_317 rfl (lv_at hl 0 rfl) ?_
  refine lv_iload_n hx hb dL_law_318 rfl (lv_at hl 3 rfl) ?_
  refine lv_iconst (v := (2 : Int32)) hx hb dL_law_319 (by decide) ?_
  refine lv_iadd hx hb dL_law_320 ?_
  refine va_sld hx hb hX hbl hbA hS b2 dL_law_321 ?_
  refine lv_aload_n hx hb dL_law_322 rfl (lv_at hl 0 rfl) ?_
  refine lv_iload_n hx hb dL_law_323 rfl (lv_at hl 3 rfl) ?_
  refine lv_iconst (v := (3 : Int32)) hx hb dL_law_324 (by decide) ?_
  refine lv_iadd hx hb dL_law_325 ?_
  refine va_sld hx hb hX hbl hbA hS b3 dL_law_326 ?_
  refine lv_aload_n hx hb dL_law_327 rfl (lv_at hl 0 rfl) ?_
  refine lv_iload_n hx hb dL_law_328 rfl (lv_at hl 3 rfl) ?_
  refine lv_iconst (v := (4 : Int32)) hx hb dL_law_329 (by decide) ?_
  refine lv_iadd hx hb dL_law_330 ?_
  refine va_sld hx hb hX hbl hbA hS b4 dL_law_331 ?_
  refine my_Vi (WS2 := (wdL cy O M sf wy (sX X 3 oc.2.2) (sX Y 1 oc.2.1) Z V (sX x 0 om.2.1) (sX y 6 om.2.2))) ⟨hx, hb, hml, hown, hts⟩ (c_X8_hold l D cy t M (x 0) (x 1) (x 2) (x 3) (x 4) (x 5) (x 6) (x 7) (x 8) (x 9) (y 2) (y 6) (xs (x3 + (1 : Int32)).toNatClampNeg) (xs (x3 + (2 : Int32)).toNatClampNeg) (xs (x3 + (3 : Int32)).toNatClampNeg) (xs (x3 + (4 : Int32)).toNatClampNeg) h2) (cwV 4 hts gL_law_X8_hold rfl rfl rfl ⟨rfl, hd_X8_hold⟩ ⟨Nat.le_of_ble_eq_true rfl, Nat.le_of_ble_eq_true rfl⟩) hK hE hP hD hS hA [51, 54, 58] 78 8 0 rfl rfl rfl rfl (by decide +kernel) rfl rfl hl.1 rfl (Nat.le_of_ble_eq_true rfl) dL_law_332 ⟨Nat.le_of_ble_eq_true rfl, Nat.le_of_ble_eq_true rfl⟩ (fun H locs hP hD hS => ?_)
  refine lv_icmp_eq (tgt := 1357) hx hb dL_law_335 (by decide) (fun cq => ?_) (fun cq => absurd h3 cq)
  exact kk (sX X 3 oc.2.2) (sX Y 1 oc.2.1) Z V (sX x 0 om.2.1) (sX y 6 om.2.2) H locs ⟨hIP, hIR, hIL, hIC, SK_low (by decide) LowEq.rf LowEq.rf LowEq.rf LowEq.rf LowEq.rf LowEq.rf w6 LowEq.rf LowEq.rf k0, SK_low (by decide) LowEq.rf LowEq.rf LowEq.rf LowEq.rf LowEq.rf LowEq.rf w6 LowEq.rf LowEq.rf k1, SK_low (by decide) LowEq.rf LowEq.rf LowEq.rf LowEq.rf LowEq.rf LowEq.rf w6 LowEq.rf LowEq.rf k2, SK_low (by decide) LowEq.rf LowEq.rf LowEq.rf LowEq.rf LowEq.rf LowEq.rf w6 LowEq.rf LowEq.rf k3⟩ hP hD hS

set_option maxHeartbeats 4000000 in
set_option maxRecDepth 100000 in
theorem law_c4 {p : Program} {l : Launch} {e : Env} {s : State} {m : MethodId} {below : List Frame} {meth : Method} {c : Code} {Q : State → Prop} {D : va_G} {cy : Nat → ClassId} {t : Nat → Nat} {O : Nat → Nat → Nat} {M : Nat → Nat} {sf : Nat → Option Nat} {wy : Nat → Int64} {X : Nat → Int32} {Y : Nat → Nat → Int32} {Z : Nat → Nat → Int64} {V : Nat → Int64} {x : Nat → Int32} {y : Nat → Nat → Int32} {b L i : Nat} {xs : Nat → Int32} {x3 : Int32} {H : Heap} {locs : List Loc} {ls : Array Slot} (C0 : lw_At p s m meth c b L xs) (hL : L ≤ 3072) (hi : i + 6 ≤ L) (ex : x3 = nI i) (hsf : sf 0 = some (O 10 0) ∧ sf 1 = some (O 11 0) ∧ sf 2 = some (O 12 0) ∧ sf 3 = some (O 13 0)) (hK : va_K D vwCl (TYS cy) s) (hE : EV t (LA s) s s.heap) (hIW : InvW wy) (hInv : LInv X Y x y) (hP : va_P D vwCl (wdL cy O M sf wy X Y Z V x y) H) (hD : va_D (LA s) (wdL cy O M sf wy X Y Z V x y)) (hS : va_S (LA s) s.heap H locs) (hl : lv_has ls 4 [(0, .ref b), (1, .ref (O 0 0)), (2, .ref (M 0)), (3, .int x3)]) (kk : ∀ (X : Nat → Int32) (Y : Nat → Nat → Int32) (Z : Nat → Nat → Int64) (V : Nat → Int64) (x : Nat → Int32) (y : Nat → Nat → Int32) (H : Heap) (locs : List Loc), LInv X Y x y → va_P D vwCl (wdL cy O M sf wy X Y Z V x y) H → va_D (LA s) (wdL cy O M sf wy X Y Z V x y) → va_S (LA s) s.heap H locs → W p l e room_1 s m #[Value.ref b] below meth c H locs 78 18884 Q (F0 m 1357 ls [])) : W p l e room_1 s m #[Value.ref b] below meth c H locs 78 18884 Q (F0 m 340 ls []) := by
  obtain ⟨hx, hb, hr, hml, hown, hts0, hX, hbl, hlocks, hgv⟩ := C0
  have hts : ∀ w ∈ wsL_law, w.before #[Value.ref b] s = true := fun w h => hts0 w (wsL_in w h)
  have hA : ∀ q : Nat, s.heap.size ≤ q → LA s q := fun _ h => h
  have hbA : ¬ LA s b := Nat.not_le.mpr hbl
  obtain ⟨hIP, hIR, hIL, hIC, k0, k1, k2, k3⟩ := hInv
  have b1 : vp_in (x3 + (1 : Int32)) L := by rw [ex, show nI i + (1 : Int32) = nI (i + 1) from nI_add i 1]; exact vp_in_nI (by omega) (by omega)
  have b2 : vp_in (x3 + (2 : Int32)) L := by rw [ex, show nI i + (2 : Int32) = nI (i + 2) from nI_add i 2]; exact vp_in_nI (by omega) (by omega)
  have b3 : vp_in (x3 + (3 : Int32)) L := by rw [ex, show nI i + (3 : Int32) = nI (i + 3) from nI_add i 3]; exact vp_in_nI (by omega) (by omega)
  obtain ⟨oc, om, h1, h2, h3, w7, w8, hIP⟩ := op_leave hIP (x 0) (xs (x3 + (1 : Int32)).toNatClampNeg) (xs (x3 + (2 : Int32)).toNatClampNeg) (xs (x3 + (3 : Int32)).toNatClampNeg)
  refine lv_aload_n hx hb dL_law_340 rfl (lv_at hl 1 rfl) ?_
  refine lv_aload_n hx hb dL_law_341 rfl (lv_at hl 0 rfl) ?_
  refine lv_iload_n hx hb dL_law_342 rfl (lv_at hl 3 rfl) ?_
  refine lv_iconst (v := (1 : Int32)) hx hb dL_law_343 (by decide) ?_
  refine lv_iadd hx hb dL_law_344 ?_
  refine va_sld hx hb hX hbl hbA hS b1 dL_law_345 ?_
  refine lv_aload_n hx hb dL_law_346 rfl (lv_at hl 0 rfl) ?_
  refine lv_iload_n hx hb dL_law_347 rfl (lv_at hl 3 rfl) ?_
  refine lv_iconst (v := (2 : Int32)) hx hb dL_law_348 (by decide) ?_
  refine lv_iadd hx hb dL_law_349 ?_
  refine va_sld hx hb hX hbl hbA hS b2 dL_law_350 ?_
  refine lv_aload_n hx hb dL_law_351 rfl (lv_at hl 0 rfl) ?_
  refine lv_iload_n hx hb dL_law_352 rfl (lv_at hl 3 rfl) ?_
  refine lv_iconst (v := (3 : Int32)) hx hb dL_law_353 (by decide) ?_
  refine lv_iadd hx hb dL_law_354 ?_
  refine va_sld hx hb hX hbl hbA hS b3 dL_law_355 ?_
  refine my_Vi (WS2 := (wdL cy O M sf wy (sX X 3 oc.2.2.2) (sX (sX Y 2 oc.2.1) 3 oc.2.2.1) Z V x y)) ⟨hx, hb, hml, hown, hts⟩ (c_X7_leave l D cy t (O 0) (O 1) (O 2) (O 3) (O 4) (O 5) (O 6) (O 7) (O 8) (O 9) (X 0) (X 1) (X 2) (Y 2) (Y 3) (X 3) (xs (x3 + (1 : Int32)).toNatClampNeg) (xs (x3 + (2 : Int32)).toNatClampNeg) (xs (x3 + (3 : Int32)).toNatClampNeg) h1) (cwV 3 hts gL_law_X7_leave rfl rfl rfl ⟨rfl, hd_X7_leave⟩ ⟨Nat.le_of_ble_eq_true rfl, Nat.le_of_ble_eq_true rfl⟩) hK hE hP hD hS hA [0, 1, 4, 5, 9] 78 7 0 rfl rfl rfl rfl (by decide +kernel) rfl rfl hl.1 rfl (Nat.le_of_ble_eq_true rfl) dL_law_356 ⟨Nat.le_of_ble_eq_true rfl, Nat.le_of_ble_eq_true rfl⟩ (fun H locs hP hD hS => ?_)
  refine lv_aload_n hx hb dL_law_359 rfl (lv_at hl 2 rfl) ?_
  refine lv_aload_n hx hb dL_law_360 rfl (lv_at hl 0 rfl) ?_
  refine lv_iload_n hx hb dL_law_361 rfl (lv_at hl 3 rfl) ?_
  refine lv_iconst (v := (1 : Int32)) hx hb dL_law_362 (by decide) ?_
  refine lv_iadd hx hb dL_law_363 ?_
  refine va_sld hx hb hX hbl hbA hS b1 dL_law_364 ?_
  refine lv_aload_n hx hb dL_law_365 rfl (lv_at hl 0 rfl) ?_
  refine lv_iload_n hx hb dL_law_366 rfl (lv_at hl 3 rfl) ?_
  refine lv_iconst (v := (2 : Int32)) hx hb dL_law_367 (by decide) ?_
  refine lv_iadd hx hb dL_law_368 ?_
  refine va_sld hx hb hX hbl hbA hS b2 dL_law_369 ?_
  refine lv_aload_n hx hb dL_law_370 rfl (lv_at hl 0 rfl) ?_
  refine lv_iload_n hx hb dL_law_371 rfl (lv_at hl 3 rfl) ?_
  refine lv_iconst (v := (3 : Int32)) hx hb dL_law_372 (by decide) ?_
  refine lv_iadd hx hb dL_law_373 ?_
  refine va_sld hx hb hX hbl hbA hS b3 dL_law_374 ?_
  refine my_Vi (WS2 := (wdL cy O M sf wy (sX X 3 oc.2.2.2) (sX (sX Y 2 oc.2.1) 3 oc.2.2.1) Z V (sX x 0 om.2.1) (sX (sX y 7 om.2.2.1) 8 om.2.2.2))) ⟨hx, hb, hml, hown, hts⟩ (c_X8_leave l D cy t M (x 0) (x 1) (x 2) (x 3) (x 4) (x 5) (x 6) (x 7) (x 8) (x 9) (y 2) (y 7) (y 8) (xs (x3 + (1 : Int32)).toNatClampNeg) (xs (x3 + (2 : Int32)).toNatClampNeg) (xs (x3 + (3 : Int32)).toNatClampNeg) h2) (cwV 3 hts gL_law_X8_leave rfl rfl rfl ⟨rfl, hd_X8_leave⟩ ⟨Nat.le_of_ble_eq_true rfl, Nat.le_of_ble_eq_true rfl⟩) hK hE hP hD hS hA [51, 54, 59, 60] 78 8 0 rfl rfl rfl rfl (by decide +kernel) rfl rfl hl.1 rfl (Nat.le_of_ble_eq_true rfl) dL_law_375 ⟨Nat.le_of_ble_eq_true rfl, Nat.le_of_ble_eq_true rfl⟩ (fun H locs hP hD hS => ?_)
  refine lv_icmp_eq (tgt := 1357) hx hb dL_law_378 (by decide) (fun cq => ?_) (fun cq => absurd h3 cq)
  exact kk (sX X 3 oc.2.2.2) (sX (sX Y 2 oc.2.1) 3 oc.2.2.1) Z V (sX x 0 om.2.1) (sX (sX y 7 om.2.2.1) 8 om.2.2.2) H locs ⟨hIP, hIR, hIL, hIC, SK_low (by decide) LowEq.rf LowEq.rf LowEq.rf LowEq.rf LowEq.rf LowEq.rf LowEq.rf w7 w8 k0, SK_low (by decide) LowEq.rf LowEq.rf LowEq.rf LowEq.rf LowEq.rf LowEq.rf LowEq.rf w7 w8 k1, SK_low (by decide) LowEq.rf LowEq.rf LowEq.rf LowEq.rf LowEq.rf LowEq.rf LowEq.rf w7 w8 k2, SK_low (by decide) LowEq.rf LowEq.rf LowEq.rf LowEq.rf LowEq.rf LowEq.rf LowEq.rf w7 w8 k3⟩ hP hD hS
