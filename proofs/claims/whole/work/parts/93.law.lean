set_option maxHeartbeats 4000000 in
set_option maxRecDepth 100000 in
theorem law_c27 {p : Program} {l : Launch} {e : Env} {s : State} {m : MethodId} {below : List Frame} {meth : Method} {c : Code} {Q : State → Prop} {D : va_G} {cy : Nat → ClassId} {t : Nat → Nat} {O : Nat → Nat → Nat} {M : Nat → Nat} {sf : Nat → Option Nat} {wy : Nat → Int64} {X : Nat → Int32} {Y : Nat → Nat → Int32} {Z : Nat → Nat → Int64} {V : Nat → Int64} {x : Nat → Int32} {y : Nat → Nat → Int32} {b L i : Nat} {xs : Nat → Int32} {x3 : Int32} {H : Heap} {locs : List Loc} {ls : Array Slot} (C0 : lw_At p s m meth c b L xs) (hL : L ≤ 3072) (hi : i + 6 ≤ L) (ex : x3 = nI i) (hsf : sf 0 = some (O 10 0) ∧ sf 1 = some (O 11 0) ∧ sf 2 = some (O 12 0) ∧ sf 3 = some (O 13 0)) (hK : va_K D vwCl (TYS cy) s) (hE : EV t (LA s) s s.heap) (hIW : InvW wy) (hInv : LInv X Y x y) (hP : va_P D vwCl (wdL cy O M sf wy X Y Z V x y) H) (hD : va_D (LA s) (wdL cy O M sf wy X Y Z V x y)) (hS : va_S (LA s) s.heap H locs) (hl : lv_has ls 4 [(0, .ref b), (1, .ref (O 0 0)), (2, .ref (M 0)), (3, .int x3)]) (kk : ∀ (X : Nat → Int32) (Y : Nat → Nat → Int32) (Z : Nat → Nat → Int64) (V : Nat → Int64) (x : Nat → Int32) (y : Nat → Nat → Int32) (H : Heap) (locs : List Loc), LInv X Y x y → va_P D vwCl (wdL cy O M sf wy X Y Z V x y) H → va_D (LA s) (wdL cy O M sf wy X Y Z V x y) → va_S (LA s) s.heap H locs → W p l e room_1 s m #[Value.ref b] below meth c H locs 78 18884 Q (F0 m 1357 ls [])) : W p l e room_1 s m #[Value.ref b] below meth c H locs 78 18884 Q (F0 m 1248 ls []) := by
  obtain ⟨hx, hb, hr, hml, hown, hts0, hX, hbl, hlocks, hgv⟩ := C0
  have hts : ∀ w ∈ wsL_law, w.before #[Value.ref b] s = true := fun w h => hts0 w (wsL_in w h)
  have hA : ∀ q : Nat, s.heap.size ≤ q → LA s q := fun _ h => h
  have hbA : ¬ LA s b := Nat.not_le.mpr hbl
  obtain ⟨hIP, hIR, hIL, hIC, k0, k1, k2, k3⟩ := hInv
  have b1 : vp_in (x3 + (1 : Int32)) L := by rw [ex, show nI i + (1 : Int32) = nI (i + 1) from nI_add i 1]; exact vp_in_nI (by omega) (by omega)
  have b2 : vp_in (x3 + (2 : Int32)) L := by rw [ex, show nI i + (2 : Int32) = nI (i + 2) from nI_add i 2]; exact vp_in_nI (by omega) (by omega)
  have b3 : vp_in (x3 + (3 : Int32)) L := by rw [ex, show nI i + (3 : Int32) = nI (i + 3) from nI_add i 3]; exact vp_in_nI (by omega) (by omega)
  have b4 : vp_in (x3 + (4 : Int32)) L := by rw [ex, show nI i + (4 : Int32) = nI (i + 4) from nI_add i 4]; exact vp_in_nI (by omega) (by omega)
  rcases slot_or (xs (x3 + (1 : Int32)).toNatClampNeg) with hn | hn | hn | hn | hn
  · obtain ⟨oc, om, h1, h2, h3⟩ := op_tried (w1 := X 10) (h1 := X 11) (n1 := X 12) (ru1 := Y 20) (pr1 := Y 21) (lf1 := Y 22) (lt1 := Y 23) (kept := Y 17) (isKept := y 9) (wide := y 0) (tall := y 1) (hands := y 2) (power := y 3) (spin := y 4) (seed := y 5) (pressed := y 6) (leftFrom := y 7) (leftTo := y 8) (x 0) (x 5) (x 6) (x 7) (x 8) (Y 8) (Y 10) (y 12) (y 13) (xs (x3 + (1 : Int32)).toNatClampNeg) (xs (x3 + (2 : Int32)).toNatClampNeg) (xs (x3 + (3 : Int32)).toNatClampNeg) (xs (x3 + (4 : Int32)).toNatClampNeg) (fun s9 h9 e9 => absurd (by rw [e9]; exact vp_in_nI h9 (by decide)) hn)
    refine lv_aload_n hx hb dL_law_1248 rfl (lv_at hl 1 rfl) ?_
    refine lv_aload_n hx hb dL_law_1249 rfl (lv_at hl 0 rfl) ?_
    refine lv_iload_n hx hb dL_law_1250 rfl (lv_at hl 3 rfl) ?_
    refine lv_iconst (v := (1 : Int32)) hx hb dL_law_1251 (by decide) ?_
    refine lv_iadd hx hb dL_law_1252 ?_
    refine va_sld hx hb hX hbl hbA hS b1 dL_law_1253 ?_
    refine lv_aload_n hx hb dL_law_1254 rfl (lv_at hl 0 rfl) ?_
    refine lv_iload_n hx hb dL_law_1255 rfl (lv_at hl 3 rfl) ?_
    refine lv_iconst (v := (2 : Int32)) hx hb dL_law_1256 (by decide) ?_
    refine lv_iadd hx hb dL_law_1257 ?_
    refine va_sld hx hb hX hbl hbA hS b2 dL_law_1258 ?_
    refine lv_aload_n hx hb dL_law_1259 rfl (lv_at hl 0 rfl) ?_
    refine lv_iload_n hx hb dL_law_1260 rfl (lv_at hl 3 rfl) ?_
    refine lv_iconst (v := (3 : Int32)) hx hb dL_law_1261 (by decide) ?_
    refine lv_iadd hx hb dL_law_1262 ?_
    refine va_sld hx hb hX hbl hbA hS b3 dL_law_1263 ?_
    refine lv_aload_n hx hb dL_law_1264 rfl (lv_at hl 0 rfl) ?_
    refine lv_iload_n hx hb dL_law_1265 rfl (lv_at hl 3 rfl) ?_
    refine lv_iconst (v := (4 : Int32)) hx hb dL_law_1266 (by decide) ?_
    refine lv_iadd hx hb dL_law_1267 ?_
    refine va_sld hx hb hX hbl hbA hS b4 dL_law_1268 ?_
    refine my_Vi2 (WS2 := (wdL cy O M sf wy X (mkB (Y 0) (Y 1) (Y 2) (Y 3) (Y 4) (Y 5) (Y 6) (Y 7) oc.2.1 (Y 9) oc.2.2 (Y 11) (Y 12) (Y 13) (Y 14) (Y 15) (Y 16) (Y 17) (Y 20) (Y 21) (Y 22) (Y 23) (Y 24) (Y 25) (Y 26) (Y 27) (Y 28) (Y 29) (Y 30) (Y 31) (Y 32) (Y 33) (Y 34) (Y 35)) Z V x y)) ⟨hx, hb, hml, hown, hts⟩ (c_X7_tried l D cy t (O 0) (O 1) (O 2) (O 3) (O 4) (O 5) (O 6) (O 7) (O 8) (O 9) (O 10) sf (Y 8) (Y 10) (X 10) (X 11) (X 12) (Y 20) (Y 21) (Y 22) (Y 23) (Y 17) (xs (x3 + (1 : Int32)).toNatClampNeg) (xs (x3 + (2 : Int32)).toNatClampNeg) (xs (x3 + (3 : Int32)).toNatClampNeg) (xs (x3 + (4 : Int32)).toNatClampNeg) (fun h9 => absurd h9 hn) h1) (cwV 4 hts gL_law_X7_tried rfl rfl rfl ⟨rfl, hd_X7_tried⟩ ⟨Nat.le_of_ble_eq_true rfl, Nat.le_of_ble_eq_true rfl⟩) hK hE hP hD (hD.of_fst wdL_fst) hS hA [0, 13, 14, 17, 29, 30, 31, 32, 33, 34, 50] 78 7 0 rfl rfl rfl rfl (by decide +kernel) rfl rfl rfl hl.1 rfl (Nat.le_of_ble_eq_true rfl) dL_law_1269 ⟨Nat.le_of_ble_eq_true rfl, Nat.le_of_ble_eq_true rfl⟩ (fun H locs hP hD hS => ?_)
    refine lv_aload_n hx hb dL_law_1272 rfl (lv_at hl 2 rfl) ?_
    refine lv_aload_n hx hb dL_law_1273 rfl (lv_at hl 0 rfl) ?_
    refine lv_iload_n hx hb dL_law_1274 rfl (lv_at hl 3 rfl) ?_
    refine lv_iconst (v := (1 : Int32)) hx hb dL_law_1275 (by decide) ?_
    refine lv_iadd hx hb dL_law_1276 ?_
    refine va_sld hx hb hX hbl hbA hS b1 dL_law_1277 ?_
    refine lv_aload_n hx hb dL_law_1278 rfl (lv_at hl 0 rfl) ?_
    refine lv_iload_n hx hb dL_law_1279 rfl (lv_at hl 3 rfl) ?_
    refine lv_iconst (v := (2 : Int32)) hx hb dL_law_1280 (by decide) ?_
    refine lv_iadd hx hb dL_law_1281 ?_
    refine va_sld hx hb hX hbl hbA hS b2 dL_law_1282 ?_
    refine lv_aload_n hx hb dL_law_1283 rfl (lv_at hl 0 rfl) ?_
    refine lv_iload_n hx hb dL_law_1284 rfl (lv_at hl 3 rfl) ?_
    refine lv_iconst (v := (3 : Int32)) hx hb dL_law_1285 (by decide) ?_
    refine lv_iadd hx hb dL_law_1286 ?_
    refine va_sld hx hb hX hbl hbA hS b3 dL_law_1287 ?_
    refine lv_aload_n hx hb dL_law_1288 rfl (lv_at hl 0 rfl) ?_
    refine lv_iload_n hx hb dL_law_1289 rfl (lv_at hl 3 rfl) ?_
    refine lv_iconst (v := (4 : Int32)) hx hb dL_law_1290 (by decide) ?_
    refine lv_iadd hx hb dL_law_1291 ?_
    refine va_sld hx hb hX hbl hbA hS b4 dL_law_1292 ?_
    refine my_Vi2 (WS2 := (wdL cy O M sf wy X (mkB (Y 0) (Y 1) (Y 2) (Y 3) (Y 4) (Y 5) (Y 6) (Y 7) oc.2.1 (Y 9) oc.2.2 (Y 11) (Y 12) (Y 13) (Y 14) (Y 15) (Y 16) (Y 17) (Y 20) (Y 21) (Y 22) (Y 23) (Y 24) (Y 25) (Y 26) (Y 27) (Y 28) (Y 29) (Y 30) (Y 31) (Y 32) (Y 33) (Y 34) (Y 35)) Z V (mka om.2.1 (x 1) (x 2) (x 3) (x 4) om.2.2.1 om.2.2.2.1 om.2.2.2.2.1 om.2.2.2.2.2.1 (x 9)) (mkb (y 0) (y 1) (y 2) (y 3) (y 4) (y 5) (y 6) (y 7) (y 8) (y 9) (y 10) (y 11) om.2.2.2.2.2.2.1 om.2.2.2.2.2.2.2 (y 14) (y 15) (y 16) (y 17) (y 18) (y 19) (y 20) (y 21) (y 22) (y 23) (y 24)))) ⟨hx, hb, hml, hown, hts⟩ (c_X8_tried l D cy t M (x 0) (x 1) (x 2) (x 3) (x 4) (x 5) (x 6) (x 7) (x 8) (x 9) (y 0) (y 1) (y 2) (y 4) (y 5) (y 6) (y 7) (y 8) (y 9) (y 12) (y 13) (xs (x3 + (1 : Int32)).toNatClampNeg) (xs (x3 + (2 : Int32)).toNatClampNeg) (xs (x3 + (3 : Int32)).toNatClampNeg) (xs (x3 + (4 : Int32)).toNatClampNeg) h2) (cwV 4 hts gL_law_X8_tried rfl rfl rfl ⟨rfl, hd_X8_tried⟩ ⟨Nat.le_of_ble_eq_true rfl, Nat.le_of_ble_eq_true rfl⟩) hK hE hP hD (hD.of_fst wdL_fst) hS hA [51, 52, 53, 54, 56, 57, 58, 59, 60, 61, 64, 65] 78 8 0 rfl rfl rfl rfl (by decide +kernel) rfl rfl rfl hl.1 rfl (Nat.le_of_ble_eq_true rfl) dL_law_1293 ⟨Nat.le_of_ble_eq_true rfl, Nat.le_of_ble_eq_true rfl⟩ (fun H locs hP hD hS => ?_)
    refine lv_icmp_eq (tgt := 1357) hx hb dL_law_1296 (by decide) (fun cq => ?_) (fun cq => absurd h3 cq)
    exact kk X (mkB (Y 0) (Y 1) (Y 2) (Y 3) (Y 4) (Y 5) (Y 6) (Y 7) oc.2.1 (Y 9) oc.2.2 (Y 11) (Y 12) (Y 13) (Y 14) (Y 15) (Y 16) (Y 17) (Y 20) (Y 21) (Y 22) (Y 23) (Y 24) (Y 25) (Y 26) (Y 27) (Y 28) (Y 29) (Y 30) (Y 31) (Y 32) (Y 33) (Y 34) (Y 35)) Z V (mka om.2.1 (x 1) (x 2) (x 3) (x 4) om.2.2.1 om.2.2.2.1 om.2.2.2.2.1 om.2.2.2.2.2.1 (x 9)) (mkb (y 0) (y 1) (y 2) (y 3) (y 4) (y 5) (y 6) (y 7) (y 8) (y 9) (y 10) (y 11) om.2.2.2.2.2.2.1 om.2.2.2.2.2.2.2 (y 14) (y 15) (y 16) (y 17) (y 18) (y 19) (y 20) (y 21) (y 22) (y 23) (y 24)) H locs ⟨hIP, hIR, hIL, hIC, k0, k1, k2, k3⟩ hP hD hS
  · obtain ⟨oc, om, h1, h2, h3⟩ := op_tried (w1 := X 10) (h1 := X 11) (n1 := X 12) (ru1 := Y 20) (pr1 := Y 21) (lf1 := Y 22) (lt1 := Y 23) (kept := Y 17) (isKept := y 9) (wide := y 0) (tall := y 1) (hands := y 2) (power := y 3) (spin := y 4) (seed := y 5) (pressed := y 6) (leftFrom := y 7) (leftTo := y 8) (x 0) (x 5) (x 6) (x 7) (x 8) (Y 8) (Y 10) (y 12) (y 13) (xs (x3 + (1 : Int32)).toNatClampNeg) (xs (x3 + (2 : Int32)).toNatClampNeg) (xs (x3 + (3 : Int32)).toNatClampNeg) (xs (x3 + (4 : Int32)).toNatClampNeg) (fun s9 h9 e9 => by obtain rfl := slot_un h9 (by decide) (hn.symm.trans e9); exact k0)
    refine lv_aload_n hx hb dL_law_1248 rfl (lv_at hl 1 rfl) ?_
    refine lv_aload_n hx hb dL_law_1249 rfl (lv_at hl 0 rfl) ?_
    refine lv_iload_n hx hb dL_law_1250 rfl (lv_at hl 3 rfl) ?_
    refine lv_iconst (v := (1 : Int32)) hx hb dL_law_1251 (by decide) ?_
    refine lv_iadd hx hb dL_law_1252 ?_
    refine va_sld hx hb hX hbl hbA hS b1 dL_law_1253 ?_
    refine lv_aload_n hx hb dL_law_1254 rfl (lv_at hl 0 rfl) ?_
    refine lv_iload_n hx hb dL_law_1255 rfl (lv_at hl 3 rfl) ?_
    refine lv_iconst (v := (2 : Int32)) hx hb dL_law_1256 (by decide) ?_
    refine lv_iadd hx hb dL_law_1257 ?_
    refine va_sld hx hb hX hbl hbA hS b2 dL_law_1258 ?_
    refine lv_aload_n hx hb dL_law_1259 rfl (lv_at hl 0 rfl) ?_
    refine lv_iload_n hx hb dL_law_1260 rfl (lv_at hl 3 rfl) ?_
    refine lv_iconst (v := (3 : Int32)) hx hb dL_law_1261 (by decide) ?_
    refine lv_iadd hx hb dL_law_1262 ?_
    refine va_sld hx hb hX hbl hbA hS b3 dL_law_1263 ?_
    refine lv_aload_n hx hb dL_law_1264 rfl (lv_at hl 0 rfl) ?_
    refine lv_iload_n hx hb dL_law_1265 rfl (lv_at hl 3 rfl) ?_
    refine lv_iconst (v := (4 : Int32)) hx hb dL_law_1266 (by decide) ?_
    refine lv_iadd hx hb dL_law_1267 ?_
    refine va_sld hx hb hX hbl hbA hS b4 dL_law_1268 ?_
    refine my_Vi2 (WS2 := (wdL cy O M sf wy X (mkB (Y 0) (Y 1) (Y 2) (Y 3) (Y 4) (Y 5) (Y 6) (Y 7) oc.2.1 (Y 9) oc.2.2 (Y 11) (Y 12) (Y 13) (Y 14) (Y 15) (Y 16) (Y 17) (Y 20) (Y 21) (Y 22) (Y 23) (Y 24) (Y 25) (Y 26) (Y 27) (Y 28) (Y 29) (Y 30) (Y 31) (Y 32) (Y 33) (Y 34) (Y 35)) Z V x y)) ⟨hx, hb, hml, hown, hts⟩ (c_X7_tried l D cy t (O 0) (O 1) (O 2) (O 3) (O 4) (O 5) (O 6) (O 7) (O 8) (O 9) (O 10) sf (Y 8) (Y 10) (X 10) (X 11) (X 12) (Y 20) (Y 21) (Y 22) (Y 23) (Y 17) (xs (x3 + (1 : Int32)).toNatClampNeg) (xs (x3 + (2 : Int32)).toNatClampNeg) (xs (x3 + (3 : Int32)).toNatClampNeg) (xs (x3 + (4 : Int32)).toNatClampNeg) (fun _ => by rw [hn]; exact hsf.1) h1) (cwV 4 hts gL_law_X7_tried rfl rfl rfl ⟨rfl, hd_X7_tried⟩ ⟨Nat.le_of_ble_eq_true rfl, Nat.le_of_ble_eq_true rfl⟩) hK hE hP hD (hD.of_fst wdL_fst) hS hA [0, 13, 14, 17, 29, 30, 31, 32, 33, 34, 50] 78 7 0 rfl rfl rfl rfl (by decide +kernel) rfl rfl rfl hl.1 rfl (Nat.le_of_ble_eq_true rfl) dL_law_1269 ⟨Nat.le_of_ble_eq_true rfl, Nat.le_of_ble_eq_true rfl⟩ (fun H locs hP hD hS => ?_)
    refine lv_aload_n hx hb dL_law_1272 rfl (lv_at hl 2 rfl) ?_
    refine lv_aload_n hx hb dL_law_1273 rfl (lv_at hl 0 rfl) ?_
    refine lv_iload_n hx hb dL_law_1274 rfl (lv_at hl 3 rfl) ?_
    refine lv_iconst (v := (1 : Int32)) hx hb dL_law_1275 (by decide) ?_
    refine lv_iadd hx hb dL_law_1276 ?_
    refine va_sld hx hb hX hbl hbA hS b1 dL_law_1277 ?_
    refine lv_aload_n hx hb dL_law_1278 rfl (lv_at hl 0 rfl) ?_
    refine lv_iload_n hx hb dL_law_1279 rfl (lv_at hl 3 rfl) ?_
    refine lv_iconst (v := (2 : Int32)) hx hb dL_law_1280 (by decide) ?_
    refine lv_iadd hx hb dL_law_1281 ?_
    refine va_sld hx hb hX hbl hbA hS b2 dL_law_1282 ?_
    refine lv_aload_n hx hb dL_law_1283 rfl (lv_at hl 0 rfl) ?_
    refine lv_iload_n hx hb dL_law_1284 rfl (lv_at hl 3 rfl) ?_
    refine lv_iconst (v := (3 : Int32)) hx hb dL_law_1285 (by decide) ?_
    refine lv_iadd hx hb dL_law_1286 ?_
    refine va_sld hx hb hX hbl hbA hS b3 dL_law_1287 ?_
    refine lv_aload_n hx hb dL_law_1288 rfl (lv_at hl 0 rfl) ?_
    refine lv_iload_n hx hb dL_law_1289 rfl (lv_at hl 3 rfl) ?_
    refine lv_iconst (v := (4 : Int32)) hx hb dL_law_1290 (by decide) ?_
    refine lv_iadd hx hb dL_law_1291 ?_
    refine va_sld hx hb hX hbl hbA hS b4 dL_law_1292 ?_
    refine my_Vi2 (WS2 := (wdL cy O M sf wy X (mkB (Y 0) (Y 1) (Y 2) (Y 3) (Y 4) (Y 5) (Y 6) (Y 7) oc.2.1 (Y 9) oc.2.2 (Y 11) (Y 12) (Y 13) (Y 14) (Y 15) (Y 16) (Y 17) (Y 20) (Y 21) (Y 22) (Y 23) (Y 24) (Y 25) (Y 26) (Y 27) (Y 28) (Y 29) (Y 30) (Y 31) (Y 32) (Y 33) (Y 34) (Y 35)) Z V (mka om.2.1 (x 1) (x 2) (x 3) (x 4) om.2.2.1 om.2.2.2.1 om.2.2.2.2.1 om.2.2.2.2.2.1 (x 9)) (mkb (y 0) (y 1) (y 2) (y 3) (y 4) (y 5) (y 6) (y 7) (y 8) (y 9) (y 10) (y 11) om.2.2.2.2.2.2.1 om.2.2.2.2.2.2.2 (y 14) (y 15) (y 16) (y 17) (y 18) (y 19) (y 20) (y 21) (y 22) (y 23) (y 24)))) ⟨hx, hb, hml, hown, hts⟩ (c_X8_tried l D cy t M (x 0) (x 1) (x 2) (x 3) (x 4) (x 5) (x 6) (x 7) (x 8) (x 9) (y 0) (y 1) (y 2) (y 4) (y 5) (y 6) (y 7) (y 8) (y 9) (y 12) (y 13) (xs (x3 + (1 : Int32)).toNatClampNeg) (xs (x3 + (2 : Int32)).toNatClampNeg) (xs (x3 + (3 : Int32)).toNatClampNeg) (xs (x3 + (4 : Int32)).toNatClampNeg) h2) (cwV 4 hts gL_law_X8_tried rfl rfl rfl ⟨rfl, hd_X8_tried⟩ ⟨Nat.le_of_ble_eq_true rfl, Nat.le_of_ble_eq_true rfl⟩) hK hE hP hD (hD.of_fst wdL_fst) hS hA [51, 52, 53, 54, 56, 57, 58, 59, 60, 61, 64, 65] 78 8 0 rfl rfl rfl rfl (by decide +kernel) rfl rfl rfl hl.1 rfl (Nat.le_of_ble_eq_true rfl) dL_law_1293 ⟨Nat.le_of_ble_eq_true rfl, Nat.le_of_ble_eq_true rfl⟩ (fun H locs hP hD hS => ?_)
    refine lv_icmp_eq (tgt := 1357) hx hb dL_law_1296 (by decide) (fun cq => ?_) (fun cq => absurd h3 cq)
    exact kk X (mkB (Y 0) (Y 1) (Y 2) (Y 3) (Y 4) (Y 5) (Y 6) (Y 7) oc.2.1 (Y 9) oc.2.2 (Y 11) (Y 12) (Y 13) (Y 14) (Y 15) (Y 16) (Y 17) (Y 20) (Y 21) (Y 22) (Y 23) (Y 24) (Y 25) (Y 26) (Y 27) (Y 28) (Y 29) (Y 30) (Y 31) (Y 32) (Y 33) (Y 34) (Y 35)) Z V (mka om.2.1 (x 1) (x 2) (x 3) (x 4) om.2.2.1 om.2.2.2.1 om.2.2.2.2.1 om.2.2.2.2.2.1 (x 9)) (mkb (y 0) (y 1) (y 2) (y 3) (y 4) (y 5) (y 6) (y 7) (y 8) (y 9) (y 10) (y 11) om.2.2.2.2.2.2.1 om.2.2.2.2.2.2.2 (y 14) (y 15) (y 16) (y 17) (y 18) (y 19) (y 20) (y 21) (y 22) (y 23) (y 24)) H locs ⟨hIP, hIR, hIL, hIC, k0, k1, k2, k3⟩ hP hD hS
  · obtain ⟨oc, om, h1, h2, h3⟩ := op_tried (w1 := X 13) (h1 := X 14) (n1 := X 15) (ru1 := Y 24) (pr1 := Y 25) (lf1 := Y 26) (lt1 := Y 27) (kept := Y 17) (isKept := y 9) (wide := y 0) (tall := y 1) (hands := y 2) (power := y 3) (spin := y 4) (seed := y 5) (pressed := y 6) (leftFrom := y 7) (leftTo := y 8) (x 0) (x 5) (x 6) (x 7) (x 8) (Y 8) (Y 10) (y 12) (y 13) (xs (x3 + (1 : Int32)).toNatClampNeg) (xs (x3 + (2 : Int32)).toNatClampNeg) (xs (x3 + (3 : Int32)).toNatClampNeg) (xs (x3 + (4 : Int32)).toNatClampNeg) (fun s9 h9 e9 => by obtain rfl := slot_un h9 (by decide) (hn.symm.trans e9); exact k1)
    refine lv_aload_n hx hb dL_law_1248 rfl (lv_at hl 1 rfl) ?_
    refine lv_aload_n hx hb dL_law_1249 rfl (lv_at hl 0 rfl) ?_
    refine lv_iload_n hx hb dL_law_1250 rfl (lv_at hl 3 rfl) ?_
    refine lv_iconst (v := (1 : Int32)) hx hb dL_law_1251 (by decide) ?_
    refine lv_iadd hx hb dL_law_1252 ?_
    refine va_sld hx hb hX hbl hbA hS b1 dL_law_1253 ?_
    refine lv_aload_n hx hb dL_law_1254 rfl (lv_at hl 0 rfl) ?_
    refine lv_iload_n hx hb dL_law_1255 rfl (lv_at hl 3 rfl) ?_
    refine lv_iconst (v := (2 : Int32)) hx hb dL_law_1256 (by decide) ?_
    refine lv_iadd hx hb dL_law_1257 ?_
    refine va_sld hx hb hX hbl hbA hS b2 dL_law_1258 ?_
    refine lv_aload_n hx hb dL_law_1259 rfl (lv_at hl 0 rfl) ?_
    refine lv_iload_n hx hb dL_law_1260 rfl (lv_at hl 3 rfl) ?_
    refine lv_iconst (v := (3 : Int32)) hx hb dL_law_1261 (by decide) ?_
    refine lv_iadd hx hb dL_law_1262 ?_
    refine va_sld hx hb hX hbl hbA hS b3 dL_law_1263 ?_
    refine lv_aload_n hx hb dL_law_1264 rfl (lv_at hl 0 rfl) ?_
    refine lv_iload_n hx hb dL_law_1265 rfl (lv_at hl 3 rfl) ?_
    refine lv_iconst (v := (4 : Int32)) hx hb dL_law_1266 (by decide) ?_
    refine lv_iadd hx hb dL_law_1267 ?_
    refine va_sld hx hb hX hbl hbA hS b4 dL_law_1268 ?_
    refine my_Vi2 (WS2 := (wdL cy O M sf wy X (mkB (Y 0) (Y 1) (Y 2) (Y 3) (Y 4) (Y 5) (Y 6) (Y 7) oc.2.1 (Y 9) oc.2.2 (Y 11) (Y 12) (Y 13) (Y 14) (Y 15) (Y 16) (Y 17) (Y 20) (Y 21) (Y 22) (Y 23) (Y 24) (Y 25) (Y 26) (Y 27) (Y 28) (Y 29) (Y 30) (Y 31) (Y 32) (Y 33) (Y 34) (Y 35)) Z V x y)) ⟨hx, hb, hml, hown, hts⟩ (c_X7_tried l D cy t (O 0) (O 1) (O 2) (O 3) (O 4) (O 5) (O 6) (O 7) (O 8) (O 9) (O 11) sf (Y 8) (Y 10) (X 13) (X 14) (X 15) (Y 24) (Y 25) (Y 26) (Y 27) (Y 17) (xs (x3 + (1 : Int32)).toNatClampNeg) (xs (x3 + (2 : Int32)).toNatClampNeg) (xs (x3 + (3 : Int32)).toNatClampNeg) (xs (x3 + (4 : Int32)).toNatClampNeg) (fun _ => by rw [hn]; exact hsf.2.1) h1) (cwV 4 hts gL_law_X7_tried rfl rfl rfl ⟨rfl, hd_X7_tried⟩ ⟨Nat.le_of_ble_eq_true rfl, Nat.le_of_ble_eq_true rfl⟩) hK hE hP hD (hD.of_fst wdL_fst) hS hA [0, 13, 14, 17, 29, 35, 36, 37, 38, 39, 50] 78 7 0 rfl rfl rfl rfl (by decide +kernel) rfl rfl rfl hl.1 rfl (Nat.le_of_ble_eq_true rfl) dL_law_1269 ⟨Nat.le_of_ble_eq_true rfl, Nat.le_of_ble_eq_true rfl⟩ (fun H locs hP hD hS => ?_)
    refine lv_aload_n hx hb dL_law_1272 rfl (lv_at hl 2 rfl) ?_
    refine lv_aload_n hx hb dL_law_1273 rfl (lv_at hl 0 rfl) ?_
    refine lv_iload_n hx hb dL_law_1274 rfl (lv_at hl 3 rfl) ?_
    refine lv_iconst (v := (1 : Int32)) hx hb dL_law_1275 (by decide) ?_
    refine lv_iadd hx hb dL_law_1276 ?_
    refine va_sld hx hb hX hbl hbA hS b1 dL_law_1277 ?_
    refine lv_aload_n hx hb dL_law_1278 rfl (lv_at hl 0 rfl) ?_
    refine lv_iload_n hx hb dL_law_1279 rfl (lv_at hl 3 rfl) ?_
    refine lv_iconst (v := (2 : Int32)) hx hb dL_law_1280 (by decide) ?_
    refine lv_iadd hx hb dL_law_1281 ?_
    refine va_sld hx hb hX hbl hbA hS b2 dL_law_1282 ?_
    refine lv_aload_n hx hb dL_law_1283 rfl (lv_at hl 0 rfl) ?_
    refine lv_iload_n hx hb dL_law_1284 rfl (lv_at hl 3 rfl) ?_
    refine lv_iconst (v := (3 : Int32)) hx hb dL_law_1285 (by decide) ?_
    refine lv_iadd hx hb dL_law_1286 ?_
    refine va_sld hx hb hX hbl hbA hS b3 dL_law_1287 ?_
    refine lv_aload_n hx hb dL_law_1288 rfl (lv_at hl 0 rfl) ?_
    refine lv_iload_n hx hb dL_law_1289 rfl (lv_at hl 3 rfl) ?_
    refine lv_iconst (v := (4 : Int32)) hx hb dL_law_1290 (by decide) ?_
    refine lv_iadd hx hb dL_law_1291 ?_
    refine va_sld hx hb hX hbl hbA hS b4 dL_law_1292 ?_
    refine my_Vi2 (WS2 := (wdL cy O M sf wy X (mkB (Y 0) (Y 1) (Y 2) (Y 3) (Y 4) (Y 5) (Y 6) (Y 7) oc.2.1 (Y 9) oc.2.2 (Y 11) (Y 12) (Y 13) (Y 14) (Y 15) (Y 16) (Y 17) (Y 20) (Y 21) (Y 22) (Y 23) (Y 24) (Y 25) (Y 26) (Y 27) (Y 28) (Y 29) (Y 30) (Y 31) (Y 32) (Y 33) (Y 34) (Y 35)) Z V (mka om.2.1 (x 1) (x 2) (x 3) (x 4) om.2.2.1 om.2.2.2.1 om.2.2.2.2.1 om.2.2.2.2.2.1 (x 9)) (mkb (y 0) (y 1) (y 2) (y 3) (y 4) (y 5) (y 6) (y 7) (y 8) (y 9) (y 10) (y 11) om.2.2.2.2.2.2.1 om.2.2.2.2.2.2.2 (y 14) (y 15) (y 16) (y 17) (y 18) (y 19) (y 20) (y 21) (y 22) (y 23) (y 24)))) ⟨hx, hb, hml, hown, hts⟩ (c_X8_tried l D cy t M (x 0) (x 1) (x 2) (x 3) (x 4) (x 5) (x 6) (x 7) (x 8) (x 9) (y 0) (y 1) (y 2) (y 4) (y 5) (y 6) (y 7) (y 8) (y 9) (y 12) (y 13) (xs (x3 + (1 : Int32)).toNatClampNeg) (xs (x3 + (2 : Int32)).toNatClampNeg) (xs (x3 + (3 : Int32)).toNatClampNeg) (xs (x3 + (4 : Int32)).toNatClampNeg) h2) (cwV 4 hts gL_law_X8_tried rfl rfl rfl ⟨rfl, hd_X8_tried⟩ ⟨Nat.le_of_ble_eq_true rfl, Nat.le_of_ble_eq_true rfl⟩) hK hE hP hD (hD.of_fst wdL_fst) hS hA [51, 52, 53, 54, 56, 57, 58, 59, 60, 61, 64, 65] 78 8 0 rfl rfl rfl rfl (by decide +kernel) rfl rfl rfl hl.1 rfl (Nat.le_of_ble_eq_true rfl) dL_law_1293 ⟨Nat.le_of_ble_eq_true rfl, Nat.le_of_ble_eq_true rfl⟩ (fun H locs hP hD hS => ?_)
    refine lv_icmp_eq (tgt := 1357) hx hb dL_law_1296 (by decide) (fun cq => ?_) (fun cq => absurd h3 cq)
    exact kk X (mkB (Y 0) (Y 1) (Y 2) (Y 3) (Y 4) (Y 5) (Y 6) (Y 7) oc.2.1 (Y 9) oc.2.2 (Y 11) (Y 12) (Y 13) (Y 14) (Y 15) (Y 16) (Y 17) (Y 20) (Y 21) (Y 22) (Y 23) (Y 24) (Y 25) (Y 26) (Y 27) (Y 28) (Y 29) (Y 30) (Y 31) (Y 32) (Y 33) (Y 34) (Y 35)) Z V (mka om.2.1 (x 1) (x 2) (x 3) (x 4) om.2.2.1 om.2.2.2.1 om.2.2.2.2.1 om.2.2.2.2.2.1 (x 9)) (mkb (y 0) (y 1) (y 2) (y 3) (y 4) (y 5) (y 6) (y 7) (y 8) (y 9) (y 10) (y 11) om.2.2.2.2.2.2.1 om.2.2.2.2.2.2.2 (y 14) (y 15) (y 16) (y 17) (y 18) (y 19) (y 20) (y 21) (y 22) (y 23) (y 24)) H locs ⟨hIP, hIR, hIL, hIC, k0, k1, k2, k3⟩ hP hD hS
  · obtain ⟨oc, om, h1, h2, h3⟩ := op_tried (w1 := X 16) (h1 := X 17) (n1 := X 18) (ru1 := Y 28) (pr1 := Y 29) (lf1 := Y 30) (lt1 := Y 31) (kept := Y 17) (isKept := y 9) (wide := y 0) (tall := y 1) (hands := y 2) (power := y 3) (spin := y 4) (seed := y 5) (pressed := y 6) (leftFrom := y 7) (leftTo := y 8) (x 0) (x 5) (x 6) (x 7) (x 8) (Y 8) (Y 10) (y 12) (y 13) (xs (x3 + (1 : Int32)).toNatClampNeg) (xs (x3 + (2 : Int32)).toNatClampNeg) (xs (x3 + (3 : Int32)).toNatClampNeg) (xs (x3 + (4 : Int32)).toNatClampNeg) (fun s9 h9 e9 => by obtain rfl := slot_un h9 (by decide) (hn.symm.trans e9); exact k2)
    refine lv_aload_n hx hb dL_law_1248 rfl (lv_at hl 1 rfl) ?_
    refine lv_aload_n hx hb dL_law_1249 rfl (lv_at hl 0 rfl) ?_
    refine lv_iload_n hx hb dL_law_1250 rfl (lv_at hl 3 rfl) ?_
    refine lv_iconst (v := (1 : Int32)) hx hb dL_law_1251 (by decide) ?_
    refine lv_iadd hx hb dL_law_1252 ?_
    refine va_sld hx hb hX hbl hbA hS b1 dL_law_1253 ?_
    refine lv_aload_n hx hb dL_law_1254 rfl (lv_at hl 0 rfl) ?_
    refine lv_iload_n hx hb dL_law_1255 rfl (lv_at hl 3 rfl) ?_
    refine lv_iconst (v := (2 : Int32)) hx hb dL_law_1256 (by decide) ?_
    refine lv_iadd hx hb dL_law_1257 ?_
    refine va_sld hx hb hX hbl hbA hS b2 dL_law_1258 ?_
    refine lv_aload_n hx hb dL_law_1259 rfl (lv_at hl 0 rfl) ?_
    refine lv_iload_n hx hb dL_law_1260 rfl (lv_at hl 3 rfl) ?_
    refine lv_iconst (v := (3 : Int32)) hx hb dL_law_1261 (by decide) ?_
    refine lv_iadd hx hb dL_law_1262 ?_
    refine va_sld hx hb hX hbl hbA hS b3 dL_law_1263 ?_
    refine lv_aload_n hx hb dL_law_1264 rfl (lv_at hl 0 rfl) ?_
    refine lv_iload_n hx hb dL_law_1265 rfl (lv_at hl 3 rfl) ?_
    refine lv_iconst (v := (4 : Int32)) hx hb dL_law_1266 (by decide) ?_
    refine lv_iadd hx hb dL_law_1267 ?_
    refine va_sld hx hb hX hbl hbA hS b4 dL_law_1268 ?_
    refine my_Vi2 (WS2 := (wdL cy O M sf wy X (mkB (Y 0) (Y 1) (Y 2) (Y 3) (Y 4) (Y 5) (Y 6) (Y 7) oc.2.1 (Y 9) oc.2.2 (Y 11) (Y 12) (Y 13) (Y 14) (Y 15) (Y 16) (Y 17) (Y 20) (Y 21) (Y 22) (Y 23) (Y 24) (Y 25) (Y 26) (Y 27) (Y 28) (Y 29) (Y 30) (Y 31) (Y 32) (Y 33) (Y 34) (Y 35)) Z V x y)) ⟨hx, hb, hml, hown, hts⟩ (c_X7_tried l D cy t (O 0) (O 1) (O 2) (O 3) (O 4) (O 5) (O 6) (O 7) (O 8) (O 9) (O 12) sf (Y 8) (Y 10) (X 16) (X 17) (X 18) (Y 28) (Y 29) (Y 30) (Y 31) (Y 17) (xs (x3 + (1 : Int32)).toNatClampNeg) (xs (x3 + (2 : Int32)).toNatClampNeg) (xs (x3 + (3 : Int32)).toNatClampNeg) (xs (x3 + (4 : Int32)).toNatClampNeg) (fun _ => by rw [hn]; exact hsf.2.2.1) h1) (cwV 4 hts gL_law_X7_tried rfl rfl rfl ⟨rfl, hd_X7_tried⟩ ⟨Nat.le_of_ble_eq_true rfl, Nat.le_of_ble_eq_true rfl⟩) hK hE hP hD (hD.of_fst wdL_fst) hS hA [0, 13, 14, 17, 29, 40, 41, 42, 43, 44, 50] 78 7 0 rfl rfl rfl rfl (by decide +kernel) rfl rfl rfl hl.1 rfl (Nat.le_of_ble_eq_true rfl) dL_law_1269 ⟨Nat.le_of_ble_eq_true rfl, Nat.le_of_ble_eq_true rfl⟩ (fun H locs hP hD hS => ?_)
    refine lv_aload_n hx hb dL_law_1272 rfl (lv_at hl 2 rfl) ?_
    refine lv_aload_n hx hb dL_law_1273 rfl (lv_at hl 0 rfl) ?_
    refine lv_iload_n hx hb dL_law_1274 rfl (lv_at hl 3 rfl) ?_
    refine lv_iconst (v := (1 : Int32)) hx hb dL_law_1275 (by decide) ?_
    refine lv_iadd hx hb dL_law_1276 ?_
    refine va_sld hx hb hX hbl hbA hS b1 dL_law_1277 ?_
    refine lv_aload_n hx hb dL_law_1278 rfl (lv_at hl 0 rfl) ?_
    refine lv_iload_n hx hb dL_law_1279 rfl (lv_at hl 3 rfl) ?_
    refine lv_iconst (v := (2 : Int32)) hx hb dL_law_1280 (by decide) ?_
    refine lv_iadd hx hb dL_law_1281 ?_
    refine va_sld hx hb hX hbl hbA hS b2 dL_law_1282 ?_
    refine lv_aload_n hx hb dL_law_1283 rfl (lv_at hl 0 rfl) ?_
    refine lv_iload_n hx hb dL_law_1284 rfl (lv_at hl 3 rfl) ?_
    refine lv_iconst (v := (3 : Int32)) hx hb dL_law_1285 (by decide) ?_
    refine lv_iadd hx hb dL_law_1286 ?_
    refine va_sld hx hb hX hbl hbA hS b3 dL_law_1287 ?_
    refine lv_aload_n hx hb dL_law_1288 rfl (lv_at hl 0 rfl) ?_
    refine lv_iload_n hx hb dL_law_1289 rfl (lv_at hl 3 rfl) ?_
    refine lv_iconst (v := (4 : Int32)) hx hb dL_law_1290 (by decide) ?_
    refine lv_iadd hx hb dL_law_1291 ?_
    refine va_sld hx hb hX hbl hbA hS b4 dL_law_1292 ?_
    refine my_Vi2 (WS2 := (wdL cy O M sf wy X (mkB (Y 0) (Y 1) (Y 2) (Y 3) (Y 4) (Y 5) (Y 6) (Y 7) oc.2.1 (Y 9) oc.2.2 (Y 11) (Y 12) (Y 13) (Y 14) (Y 15) (Y 16) (Y 17) (Y 20) (Y 21) (Y 22) (Y 23) (Y 24) (Y 25) (Y 26) (Y 27) (Y 28) (Y 29) (Y 30) (Y 31) (Y 32) (Y 33) (Y 34) (Y 35)) Z V (mka om.2.1 (x 1) (x 2) (x 3) (x 4) om.2.2.1 om.2.2.2.1 om.2.2.2.2.1 om.2.2.2.2.2.1 (x 9)) (mkb (y 0) (y 1) (y 2) (y 3) (y 4) (y 5) (y 6) (y 7) (y 8) (y 9) (y 10) (y 11) om.2.2.2.2.2.2.1 om.2.2.2.2.2.2.2 (y 14) (y 15) (y 16) (y 17) (y 18) (y 19) (y 20) (y 21) (y 22) (y 23) (y 24)))) ⟨hx, hb, hml, hown, hts⟩ (c_X8_tried l D cy t M (x 0) (x 1) (x 2) (x 3) (x 4) (x 5) (x 6) (x 7) (x 8) (x 9) (y 0) (y 1) (y 2) (y 4) (y 5) (y 6) (y 7) (y 8) (y 9) (y 12) (y 13) (xs (x3 + (1 : Int32)).toNatClampNeg) (xs (x3 + (2 : Int32)).toNatClampNeg) (xs (x3 + (3 : Int32)).toNatClampNeg) (xs (x3 + (4 : Int32)).toNatClampNeg) h2) (cwV 4 hts gL_law_X8_tried rfl rfl rfl ⟨rfl, hd_X8_tried⟩ ⟨Nat.le_of_ble_eq_true rfl, Nat.le_of_ble_eq_true rfl⟩) hK hE hP hD (hD.of_fst wdL_fst) hS hA [51, 52, 53, 54, 56, 57, 58, 59, 60, 61, 64, 65] 78 8 0 rfl rfl rfl rfl (by decide +kernel) rfl rfl rfl hl.1 rfl (Nat.le_of_ble_eq_true rfl) dL_law_1293 ⟨Nat.le_of_ble_eq_true rfl, Nat.le_of_ble_eq_true rfl⟩ (fun H locs hP hD hS => ?_)
    refine lv_icmp_eq (tgt := 1357) hx hb dL_law_1296 (by decide) (fun cq => ?_) (fun cq => absurd h3 cq)
    exact kk X (mkB (Y 0) (Y 1) (Y 2) (Y 3) (Y 4) (Y 5) (Y 6) (Y 7) oc.2.1 (Y 9) oc.2.2 (Y 11) (Y 12) (Y 13) (Y 14) (Y 15) (Y 16) (Y 17) (Y 20) (Y 21) (Y 22) (Y 23) (Y 24) (Y 25) (Y 26) (Y 27) (Y 28) (Y 29) (Y 30) (Y 31) (Y 32) (Y 33) (Y 34) (Y 35)) Z V (mka om.2.1 (x 1) (x 2) (x 3) (x 4) om.2.2.1 om.2.2.2.1 om.2.2.2.2.1 om.2.2.2.2.2.1 (x 9)) (mkb (y 0) (y 1) (y 2) (y 3) (y 4) (y 5) (y 6) (y 7) (y 8) (y 9) (y 10) (y 11) om.2.2.2.2.2.2.1 om.2.2.2.2.2.2.2 (y 14) (y 15) (y 16) (y 17) (y 18) (y 19) (y 20) (y 21) (y 22) (y 23) (y 24)) H locs ⟨hIP, hIR, hIL, hIC, k0, k1, k2, k3⟩ hP hD hS
  · obtain ⟨oc, om, h1, h2, h3⟩ := op_tried (w1 := X 19) (h1 := X 20) (n1 := X 21) (ru1 := Y 32) (pr1 := Y 33) (lf1 := Y 34) (lt1 := Y 35) (kept := Y 17) (isKept := y 9) (wide := y 0) (tall := y 1) (hands := y 2) (power := y 3) (spin := y 4) (seed := y 5) (pressed := y 6) (leftFrom := y 7) (leftTo := y 8) (x 0) (x 5) (x 6) (x 7) (x 8) (Y 8) (Y 10) (y 12) (y 13) (xs (x3 + (1 : Int32)).toNatClampNeg) (xs (x3 + (2 : Int32)).toNatClampNeg) (xs (x3 + (3 : Int32)).toNatClampNeg) (xs (x3 + (4 : Int32)).toNatClampNeg) (fun s9 h9 e9 => by obtain rfl := slot_un h9 (by decide) (hn.symm.trans e9); exact k3)
    refine lv_aload_n hx hb dL_law_1248 rfl (lv_at hl 1 rfl) ?_
    refine lv_aload_n hx hb dL_law_1249 rfl (lv_at hl 0 rfl) ?_
    refine lv_iload_n hx hb dL_law_1250 rfl (lv_at hl 3 rfl) ?_
    refine lv_iconst (v := (1 : Int32)) hx hb dL_law_1251 (by decide) ?_
    refine lv_iadd hx hb dL_law_1252 ?_
    refine va_sld hx hb hX hbl hbA hS b1 dL_law_1253 ?_
    refine lv_aload_n hx hb dL_law_1254 rfl (lv_at hl 0 rfl) ?_
    refine lv_iload_n hx hb dL_law_1255 rfl (lv_at hl 3 rfl) ?_
    refine lv_iconst (v := (2 : Int32)) hx hb dL_law_1256 (by decide) ?_
    refine lv_iadd hx hb dL_law_1257 ?_
    refine va_sld hx hb hX hbl hbA hS b2 dL_law_1258 ?_
    refine lv_aload_n hx hb dL_law_1259 rfl (lv_at hl 0 rfl) ?_
    refine lv_iload_n hx hb dL_law_1260 rfl (lv_at hl 3 rfl) ?_
    refine lv_iconst (v := (3 : Int32)) hx hb dL_law_1261 (by decide) ?_
    refine lv_iadd hx hb dL_law_1262 ?_
    refine va_sld hx hb hX hbl hbA hS b3 dL_law_1263 ?_
    refine lv_aload_n hx hb dL_law_1264 rfl (lv_at hl 0 rfl) ?_
    refine lv_iload_n hx hb dL_law_1265 rfl (lv_at hl 3 rfl) ?_
    refine lv_iconst (v := (4 : Int32)) hx hb dL_law_1266 (by decide) ?_
    refine lv_iadd hx hb dL_law_1267 ?_
    refine va_sld hx hb hX hbl hbA hS b4 dL_law_1268 ?_
    refine my_Vi2 (WS2 := (wdL cy O M sf wy X (mkB (Y 0) (Y 1) (Y 2) (Y 3) (Y 4) (Y 5) (Y 6) (Y 7) oc.2.1 (Y 9) oc.2.2 (Y 11) (Y 12) (Y 13) (Y 14) (Y 15) (Y 16) (Y 17) (Y 20) (Y 21) (Y 22) (Y 23) (Y 24) (Y 25) (Y 26) (Y 27) (Y 28) (Y 29) (Y 30) (Y 31) (Y 32) (Y 33) (Y 34) (Y 35)) Z V x y)) ⟨hx, hb, hml, hown, hts⟩ (c_X7_tried l D cy t (O 0) (O 1) (O 2) (O 3) (O 4) (O 5) (O 6) (O 7) (O 8) (O 9) (O 13) sf (Y 8) (Y 10) (X 19) (X 20) (X 21) (Y 32) (Y 33) (Y 34) (Y 35) (Y 17) (xs (x3 + (1 : Int32)).toNatClampNeg) (xs (x3 + (2 : Int32)).toNatClampNeg) (xs (x3 + (3 : Int32)).toNatClampNeg) (xs (x3 + (4 : Int32)).toNatClampNeg) (fun _ => by rw [hn]; exact hsf.2.2.2) h1) (cwV 4 hts gL_law_X7_tried rfl rfl rfl ⟨rfl, hd_X7_tried⟩ ⟨Nat.le_of_ble_eq_true rfl, Nat.le_of_ble_eq_true rfl⟩) hK hE hP hD (hD.of_fst wdL_fst) hS hA [0, 13, 14, 17, 29, 45, 46, 47, 48, 49, 50] 78 7 0 rfl rfl rfl rfl (by decide +kernel) rfl rfl rfl hl.1 rfl (Nat.le_of_ble_eq_true rfl) dL_law_1269 ⟨Nat.le_of_ble_eq_true rfl, Nat.le_of_ble_eq_true rfl⟩ (fun H locs hP hD hS => ?_)
    refine lv_aload_n hx hb dL_law_1272 rfl (lv_at hl 2 rfl) ?_
    refine lv_aload_n hx hb dL_law_1273 rfl (lv_at hl 0 rfl) ?_
    refine lv_iload_n hx hb dL_law_1274 rfl (lv_at hl 3 rfl) ?_
    refine lv_iconst (v := (1 : Int32)) hx hb dL_law_1275 (by decide) ?_
    refine lv_iadd hx hb dL_law_1276 ?_
    refine va_sld hx hb hX hbl hbA hS b1 dL_law_1277 ?_
    refine lv_aload_n hx hb dL_law_1278 rfl (lv_at hl 0 rfl) ?_
    refine lv_iload_n hx hb dL_law_1279 rfl (lv_at hl 3 rfl) ?_
    refine lv_iconst (v := (2 : Int32)) hx hb dL_law_1280 (by decide) ?_
    refine lv_iadd hx hb dL_law_1281 ?_
    refine va_sld hx hb hX hbl hbA hS b2 dL_law_1282 ?_
    refine lv_aload_n hx hb dL_law_1283 rfl (lv_at hl 0 rfl) ?_
    refine lv_iload_n hx hb dL_law_1284 rfl (lv_at hl 3 rfl) ?_
    refine lv_iconst (v := (3 : Int32)) hx hb dL_law_1285 (by decide) ?_
    refine lv_iadd hx hb dL_law_1286 ?_
    refine va_sld hx hb hX hbl hbA hS b3 dL_law_1287 ?_
    refine lv_aload_n hx hb dL_law_1288 rfl (lv_at hl 0 rfl) ?_
    refine lv_iload_n hx hb dL_law_1289 rfl (lv_at hl 3 rfl) ?_
    refine lv_iconst (v := (4 : Int32)) hx hb dL_law_1290 (by decide) ?_
    refine lv_iadd hx hb dL_law_1291 ?_
    refine va_sld hx hb hX hbl hbA hS b4 dL_law_1292 ?_
    refine my_Vi2 (WS2 := (wdL cy O M sf wy X (mkB (Y 0) (Y 1) (Y 2) (Y 3) (Y 4) (Y 5) (Y 6) (Y 7) oc.2.1 (Y 9) oc.2.2 (Y 11) (Y 12) (Y 13) (Y 14) (Y 15) (Y 16) (Y 17) (Y 20) (Y 21) (Y 22) (Y 23) (Y 24) (Y 25) (Y 26) (Y 27) (Y 28) (Y 29) (Y 30) (Y 31) (Y 32) (Y 33) (Y 34) (Y 35)) Z V (mka om.2.1 (x 1) (x 2) (x 3) (x 4) om.2.2.1 om.2.2.2.1 om.2.2.2.2.1 om.2.2.2.2.2.1 (x 9)) (mkb (y 0) (y 1) (y 2) (y 3) (y 4) (y 5) (y 6) (y 7) (y 8) (y 9) (y 10) (y 11) om.2.2.2.2.2.2.1 om.2.2.2.2.2.2.2 (y 14) (y 15) (y 16) (y 17) (y 18) (y 19) (y 20) (y 21) (y 22) (y 23) (y 24)))) ⟨hx, hb, hml, hown, hts⟩ (c_X8_tried l D cy t M (x 0) (x 1) (x 2) (x 3) (x 4) (x 5) (x 6) (x 7) (x 8) (x 9) (y 0) (y 1) (y 2) (y 4) (y 5) (y 6) (y 7) (y 8) (y 9) (y 12) (y 13) (xs (x3 + (1 : Int32)).toNatClampNeg) (xs (x3 + (2 : Int32)).toNatClampNeg) (xs (x3 + (3 : Int32)).toNatClampNeg) (xs (x3 + (4 : Int32)).toNatClampNeg) h2) (cwV 4 hts gL_law_X8_tried rfl rfl rfl ⟨rfl, hd_X8_tried⟩ ⟨Nat.le_of_ble_eq_true rfl, Nat.le_of_ble_eq_true rfl⟩) hK hE hP hD (hD.of_fst wdL_fst) hS hA [51, 52, 53, 54, 56, 57, 58, 59, 60, 61, 64, 65] 78 8 0 rfl rfl rfl rfl (by decide +kernel) rfl rfl rfl hl.1 rfl (Nat.le_of_ble_eq_true rfl) dL_law_1293 ⟨Nat.le_of_ble_eq_true rfl, Nat.le_of_ble_eq_true rfl⟩ (fun H locs hP hD hS => ?_)
    refine lv_icmp_eq (tgt := 1357) hx hb dL_law_1296 (by decide) (fun cq => ?_) (fun cq => absurd h3 cq)
    exact kk X (mkB (Y 0) (Y 1) (Y 2) (Y 3) (Y 4) (Y 5) (Y 6) (Y 7) oc.2.1 (Y 9) oc.2.2 (Y 11) (Y 12) (Y 13) (Y 14) (Y 15) (Y 16) (Y 17) (Y 20) (Y 21) (Y 22) (Y 23) (Y 24) (Y 25) (Y 26) (Y 27) (Y 28) (Y 29) (Y 30) (Y 31) (Y 32) (Y 33) (Y 34) (Y 35)) Z V (mka om.2.1 (x 1) (x 2) (x 3) (x 4) om.2.2.1 om.2.2.2.1 om.2.2.2.2.1 om.2.2.2.2.2.1 (x 9)) (mkb (y 0) (y 1) (y 2) (y 3) (y 4) (y 5) (y 6) (y 7) (y 8) (y 9) (y 10) (y 11) om.2.2.2.2.2.2.1 om.2.2.2.2.2.2.2 (y 14) (y 15) (y 16) (y 17) (y 18) (y 19) (y 20) (y 21) (y 22) (y 23) (y 24)) H locs ⟨hIP, hIR, hIL, hIC, k0, k1, k2, k3⟩ hP hD hS

set_option maxHeartbeats 4000000 in
set_option maxRecDepth 100000 in
theorem law_c28 {p : Program} {l : Launch} {e : Env} {s : State} {m : MethodId} {below : List Frame} {meth : Method} {c : Code} {Q : State → Prop} {D : va_G} {cy : Nat → ClassId} {t : Nat → Nat} {O : Nat → Nat → Nat} {M : Nat → Nat} {sf : Nat → Option Nat} {wy : Nat → Int64} {X : Nat → Int32} {Y : Nat → Nat → Int32} {Z : Nat → Nat → Int64} {V : Nat → Int64} {x : Nat → Int32} {y : Nat → Nat → Int32} {b L i : Nat} {xs : Nat → Int32} {x3 : Int32} {H : Heap} {locs : List Loc} {ls : Array Slot} (C0 : lw_At p s m meth c b L xs) (hL : L ≤ 3072) (hi : i + 6 ≤ L) (ex : x3 = nI i) (hsf : sf 0 = some (O 10 0) ∧ sf 1 = some (O 11 0) ∧ sf 2 = some (O 12 0) ∧ sf 3 = some (O 13 0)) (hK : va_K D vwCl (TYS cy) s) (hE : EV t (LA s) s s.heap) (hIW : InvW wy) (hInv : LInv X Y x y) (hP : va_P D vwCl (wdL cy O M sf wy X Y Z V x y) H) (hD : va_D (LA s) (wdL cy O M sf wy X Y Z V x y)) (hS : va_S (LA s) s.heap H locs) (hl : lv_has ls 4 [(0, .ref b), (1, .ref (O 0 0)), (2, .ref (M 0)), (3, .int x3)]) (kk : ∀ (X : Nat → Int32) (Y : Nat → Nat → Int32) (Z : Nat → Nat → Int64) (V : Nat → Int64) (x : Nat → Int32) (y : Nat → Nat → Int32) (H : Heap) (locs : List Loc), LInv X Y x y → va_P D vwCl (wdL cy O M sf wy X Y Z V x y) H → va_D (LA s) (wdL cy O M sf wy X Y Z V x y) → va_S (LA s) s.heap H locs → W p l e room_1 s m #[Value.ref b] below meth c H locs 78 18884 Q (F0 m 1357 ls [])) : W p l e room_1 s m #[Value.ref b] below meth c H locs 78 18884 Q (F0 m 1301 ls []) := by
  obtain ⟨hx, hb, hr, hml, hown, hts0, hX, hbl, hlocks, hgv⟩ := C0
  have hts : ∀ w ∈ wsL_law, w.before #[Value.ref b] s = true := fun w h => hts0 w (wsL_in w h)
  have hA : ∀ q : Nat, s.heap.size ≤ q → LA s q := fun _ h => h
  have hbA : ¬ LA s b := Nat.not_le.mpr hbl
  obtain ⟨hIP, hIR, hIL, hIC, k0, k1, k2, k3⟩ := hInv
  have b1 : vp_in (x3 + (1 : Int32)) L := by rw [ex, show nI i + (1 : Int32) = nI (i + 1) from nI_add i 1]; exact vp_in_nI (by omega) (by omega)
  have b2 : vp_in (x3 + (2 : Int32)) L := by rw [ex, show nI i + (2 : Int32) = nI (i + 2) from nI_add i 2]; exact vp_in_nI (by omega) (by omega)
  rcases slot_or (xs (x3 + (1 : Int32)).toNatClampNeg) with hn | hn | hn | hn | hn
  · obtain ⟨oc, om, h1, h2, h3⟩ := op_differs (w1 := X 10) (h1 := X 11) (n1 := X 12) (ru1 := Y 20) (pr1 := Y 21) (lf1 := Y 22) (lt1 := Y 23) (kept := Y 17) (isKept := y 9) (wide := y 0) (tall := y 1) (hands := y 2) (power := y 3) (spin := y 4) (seed := y 5) (pressed := y 6) (leftFrom := y 7) (leftTo := y 8) (x 0) (x 5) (x 6) (x 7) (x 8) (Y 8) (Y 9) (Y 10) (y 12) (y 13) (y 14) (y 17) (xs (x3 + (1 : Int32)).toNatClampNeg) (xs (x3 + (2 : Int32)).toNatClampNeg) (fun s9 h9 e9 => absurd (by rw [e9]; exact vp_in_nI h9 (by decide)) hn)
    refine lv_aload_n hx hb dL_law_1301 rfl (lv_at hl 1 rfl) ?_
    refine lv_aload_n hx hb dL_law_1302 rfl (lv_at hl 0 rfl) ?_
    refine lv_iload_n hx hb dL_law_1303 rfl (lv_at hl 3 rfl) ?_
    refine lv_iconst (v := (1 : Int32)) hx hb dL_law_1304 (by decide) ?_
    refine lv_iadd hx hb dL_law_1305 ?_
    refine va_sld hx hb hX hbl hbA hS b1 dL_law_1306 ?_
    refine lv_aload_n hx hb dL_law_1307 rfl (lv_at hl 0 rfl) ?_
    refine lv_iload_n hx hb dL_law_1308 rfl (lv_at hl 3 rfl) ?_
    refine lv_iconst (v := (2 : Int32)) hx hb dL_law_1309 (by decide) ?_
    refine lv_iadd hx hb dL_law_1310 ?_
    refine va_sld hx hb hX hbl hbA hS b2 dL_law_1311 ?_
    refine my_Vi2 (WS2 := (wdL cy O M sf wy X (mkB (Y 0) (Y 1) (Y 2) (Y 3) (Y 4) (Y 5) (Y 6) (Y 7) oc.2.1 oc.2.2.1 oc.2.2.2 (Y 11) (Y 12) (Y 13) (Y 14) (Y 15) (Y 16) (Y 17) (Y 20) (Y 21) (Y 22) (Y 23) (Y 24) (Y 25) (Y 26) (Y 27) (Y 28) (Y 29) (Y 30) (Y 31) (Y 32) (Y 33) (Y 34) (Y 35)) Z V x y)) ⟨hx, hb, hml, hown, hts⟩ (c_X7_differs l D cy t (O 0) (O 1) (O 2) (O 3) (O 4) (O 5) (O 6) (O 7) (O 8) (O 9) (O 10) sf (Y 8) (Y 9) (Y 10) (X 10) (X 11) (X 12) (Y 20) (Y 21) (Y 22) (Y 23) (Y 17) (xs (x3 + (1 : Int32)).toNatClampNeg) (xs (x3 + (2 : Int32)).toNatClampNeg) (fun h9 => absurd h9 hn) h1) (cwV 2 hts gL_law_X7_differs rfl rfl rfl ⟨rfl, hd_X7_differs⟩ ⟨Nat.le_of_ble_eq_true rfl, Nat.le_of_ble_eq_true rfl⟩) hK hE hP hD (hD.of_fst wdL_fst) hS hA [0, 13, 14, 15, 16, 17, 29, 30, 31, 32, 33, 34, 50] 78 7 0 rfl rfl rfl rfl (by decide +kernel) rfl rfl rfl hl.1 rfl (Nat.le_of_ble_eq_true rfl) dL_law_1312 ⟨Nat.le_of_ble_eq_true rfl, Nat.le_of_ble_eq_true rfl⟩ (fun H locs hP hD hS => ?_)
    refine lv_aload_n hx hb dL_law_1315 rfl (lv_at hl 2 rfl) ?_
    refine lv_aload_n hx hb dL_law_1316 rfl (lv_at hl 0 rfl) ?_
    refine lv_iload_n hx hb dL_law_1317 rfl (lv_at hl 3 rfl) ?_
    refine lv_iconst (v := (1 : Int32)) hx hb dL_law_1318 (by decide) ?_
    refine lv_iadd hx hb dL_law_1319 ?_
    refine va_sld hx hb hX hbl hbA hS b1 dL_law_1320 ?_
    refine lv_aload_n hx hb dL_law_1321 rfl (lv_at hl 0 rfl) ?_
    refine lv_iload_n hx hb dL_law_1322 rfl (lv_at hl 3 rfl) ?_
    refine lv_iconst (v := (2 : Int32)) hx hb dL_law_1323 (by decide) ?_
    refine lv_iadd hx hb dL_law_1324 ?_
    refine va_sld hx hb hX hbl hbA hS b2 dL_law_1325 ?_
    refine my_Vi2 (WS2 := (wdL cy O M sf wy X (mkB (Y 0) (Y 1) (Y 2) (Y 3) (Y 4) (Y 5) (Y 6) (Y 7) oc.2.1 oc.2.2.1 oc.2.2.2 (Y 11) (Y 12) (Y 13) (Y 14) (Y 15) (Y 16) (Y 17) (Y 20) (Y 21) (Y 22) (Y 23) (Y 24) (Y 25) (Y 26) (Y 27) (Y 28) (Y 29) (Y 30) (Y 31) (Y 32) (Y 33) (Y 34) (Y 35)) Z V (mka om.2.1 (x 1) (x 2) (x 3) (x 4) om.2.2.1 om.2.2.2.1 om.2.2.2.2.1 om.2.2.2.2.2.1 (x 9)) (mkb (y 0) (y 1) (y 2) (y 3) (y 4) (y 5) (y 6) (y 7) (y 8) (y 9) (y 10) (y 11) om.2.2.2.2.2.2.1 om.2.2.2.2.2.2.2.1 om.2.2.2.2.2.2.2.2.1 (y 15) (y 16) om.2.2.2.2.2.2.2.2.2 (y 18) (y 19) (y 20) (y 21) (y 22) (y 23) (y 24)))) ⟨hx, hb, hml, hown, hts⟩ (c_X8_differs l D cy t M (x 0) (x 1) (x 2) (x 3) (x 4) (x 5) (x 6) (x 7) (x 8) (x 9) (y 0) (y 1) (y 2) (y 3) (y 4) (y 5) (y 6) (y 7) (y 8) (y 9) (y 12) (y 13) (y 14) (y 17) (xs (x3 + (1 : Int32)).toNatClampNeg) (xs (x3 + (2 : Int32)).toNatClampNeg) h2) (cwV 2 hts gL_law_X8_differs rfl rfl rfl ⟨rfl, hd_X8_differs⟩ ⟨Nat.le_of_ble_eq_true rfl, Nat.le_of_ble_eq_true rfl⟩) hK hE hP hD (hD.of_fst wdL_fst) hS hA [51, 52, 53, 54, 55, 56, 57, 58, 59, 60, 61, 64, 65, 66, 69] 78 8 0 rfl rfl rfl rfl (by decide +kernel) rfl rfl rfl hl.1 rfl (Nat.le_of_ble_eq_true rfl) dL_law_1326 ⟨Nat.le_of_ble_eq_true rfl, Nat.le_of_ble_eq_true rfl⟩ (fun H locs hP hD hS => ?_)
    refine lv_icmp_eq (tgt := 1357) hx hb dL_law_1329 (by decide) (fun cq => ?_) (fun cq => absurd h3 cq)
    exact kk X (mkB (Y 0) (Y 1) (Y 2) (Y 3) (Y 4) (Y 5) (Y 6) (Y 7) oc.2.1 oc.2.2.1 oc.2.2.2 (Y 11) (Y 12) (Y 13) (Y 14) (Y 15) (Y 16) (Y 17) (Y 20) (Y 21) (Y 22) (Y 23) (Y 24) (Y 25) (Y 26) (Y 27) (Y 28) (Y 29) (Y 30) (Y 31) (Y 32) (Y 33) (Y 34) (Y 35)) Z V (mka om.2.1 (x 1) (x 2) (x 3) (x 4) om.2.2.1 om.2.2.2.1 om.2.2.2.2.1 om.2.2.2.2.2.1 (x 9)) (mkb (y 0) (y 1) (y 2) (y 3) (y 4) (y 5) (y 6) (y 7) (y 8) (y 9) (y 10) (y 11) om.2.2.2.2.2.2.1 om.2.2.2.2.2.2.2.1 om.2.2.2.2.2.2.2.2.1 (y 15) (y 16) om.2.2.2.2.2.2.2.2.2 (y 18) (y 19) (y 20) (y 21) (y 22) (y 23) (y 24)) H locs ⟨hIP, hIR, hIL, hIC, k0, k1, k2, k3⟩ hP hD hS
  · obtain ⟨oc, om, h1, h2, h3⟩ := op_differs (w1 := X 10) (h1 := X 11) (n1 := X 12) (ru1 := Y 20) (pr1 := Y 21) (lf1 := Y 22) (lt1 := Y 23) (kept := Y 17) (isKept := y 9) (wide := y 0) (tall := y 1) (hands := y 2) (power := y 3) (spin := y 4) (seed := y 5) (pressed := y 6) (leftFrom := y 7) (leftTo := y 8) (x 0) (x 5) (x 6) (x 7) (x 8) (Y 8) (Y 9) (Y 10) (y 12) (y 13) (y 14) (y 17) (xs (x3 + (1 : Int32)).toNatClampNeg) (xs (x3 + (2 : Int32)).toNatClampNeg) (fun s9 h9 e9 => by obtain rfl := slot_un h9 (by decide) (hn.symm.trans e9); exact k0)
    refine lv_aload_n hx hb dL_law_1301 rfl (lv_at hl 1 rfl) ?_
    refine lv_aload_n hx hb dL_law_1302 rfl (lv_at hl 0 rfl) ?_
    refine lv_iload_n hx hb dL_law_1303 rfl (lv_at hl 3 rfl) ?_
    refine lv_iconst (v := (1 : Int32)) hx hb dL_law_1304 (by decide) ?_
    refine lv_iadd hx hb dL_law_1305 ?_
    refine va_sld hx hb hX hbl hbA hS b1 dL_law_1306 ?_
    refine lv_aload_n hx hb dL_law_1307 rfl (lv_at hl 0 rfl) ?_
    refine lv_iload_n hx hb dL_law_1308 rfl (lv_at hl 3 rfl) ?_
    refine lv_iconst (v := (2 : Int32)) hx hb dL_law_1309 (by decide) ?_
    refine lv_iadd hx hb dL_law_1310 ?_
    refine va_sld hx hb hX hbl hbA hS b2 dL_law_1311 ?_
    refine my_Vi2 (WS2 := (wdL cy O M sf wy X (mkB (Y 0) (Y 1) (Y 2) (Y 3) (Y 4) (Y 5) (Y 6) (Y 7) oc.2.1 oc.2.2.1 oc.2.2.2 (Y 11) (Y 12) (Y 13) (Y 14) (Y 15) (Y 16) (Y 17) (Y 20) (Y 21) (Y 22) (Y 23) (Y 24) (Y 25) (Y 26) (Y 27) (Y 28) (Y 29) (Y 30) (Y 31) (Y 32) (Y 33) (Y 34) (Y 35)) Z V x y)) ⟨hx, hb, hml, hown, hts⟩ (c_X7_differs l D cy t (O 0) (O 1) (O 2) (O 3) (O 4) (O 5) (O 6) (O 7) (O 8) (O 9) (O 10) sf (Y 8) (Y 9) (Y 10) (X 10) (X 11) (X 12) (Y 20) (Y 21) (Y 22) (Y 23) (Y 17) (xs (x3 + (1 : Int32)).toNatClampNeg) (xs (x3 + (2 : Int32)).toNatClampNeg) (fun _ => by rw [hn]; exact hsf.1) h1) (cwV 2 hts gL_law_X7_differs rfl rfl rfl ⟨rfl, hd_X7_differs⟩ ⟨Nat.le_of_ble_eq_true rfl, Nat.le_of_ble_eq_true rfl⟩) hK hE hP hD (hD.of_fst wdL_fst) hS hA [0, 13, 14, 15, 16, 17, 29, 30, 31, 32, 33, 34, 50] 78 7 0 rfl rfl rfl rfl (by decide +kernel) rfl rfl rfl hl.1 rfl (Nat.le_of_ble_eq_true rfl) dL_law_1312 ⟨Nat.le_of_ble_eq_true rfl, Nat.le_of_ble_eq_true rfl⟩ (fun H locs hP hD hS => ?_)
    refine lv_aload_n hx hb dL_law_1315 rfl (lv_at hl 2 rfl) ?_
    refine lv_aload_n hx hb dL_law_1316 rfl (lv_at hl 0 rfl) ?_
    refine lv_iload_n hx hb dL_law_1317 rfl (lv_at hl 3 rfl) ?_
    refine lv_iconst (v := (1 : Int32)) hx hb dL_law_1318 (by decide) ?_
    refine lv_iadd hx hb dL_law_1319 ?_
    refine va_sld hx hb hX hbl hbA hS b1 dL_law_1320 ?_
    refine lv_aload_n hx hb dL_law_1321 rfl (lv_at hl 0 rfl) ?_
    refine lv_iload_n hx hb dL_law_1322 rfl (lv_at hl 3 rfl) ?_
    refine lv_iconst (v := (2 : Int32)) hx hb dL_law_1323 (by decide) ?_
    refine lv_iadd hx hb dL_law_1324 ?_
    refine va_sld hx hb hX hbl hbA hS b2 dL_law_1325 ?_
    refine my_Vi2 (WS2 := (wdL cy O M sf wy X (mkB (Y 0) (Y 1) (Y 2) (Y 3) (Y 4) (Y 5) (Y 6) (Y 7) oc.2.1 oc.2.2.1 oc.2.2.2 (Y 11) (Y 12) (Y 13) (Y 14) (Y 15) (Y 16) (Y 17) (Y 20) (Y 21) (Y 22) (Y 23) (Y 24) (Y 25) (Y 26) (Y 27) (Y 28) (Y 29) (Y 30) (Y 31) (Y 32) (Y 33) (Y 34) (Y 35)) Z V (mka om.2.1 (x 1) (x 2) (x 3) (x 4) om.2.2.1 om.2.2.2.1 om.2.2.2.2.1 om.2.2.2.2.2.1 (x 9)) (mkb (y 0) (y 1) (y 2) (y 3) (y 4) (y 5) (y 6) (y 7) (y 8) (y 9) (y 10) (y 11) om.2.2.2.2.2.2.1 om.2.2.2.2.2.2.2.1 om.2.2.2.2.2.2.2.2.1 (y 15) (y 16) om.2.2.2.2.2.2.2.2.2 (y 18) (y 19) (y 20) (y 21) (y 22) (y 23) (y 24)))) ⟨hx, hb, hml, hown, hts⟩ (c_X8_differs l D cy t M (x 0) (x 1) (x 2) (x 3) (x 4) (x 5) (x 6) (x 7) (x 8) (x 9) (y 0) (y 1) (y 2) (y 3) (y 4) (y 5) (y 6) (y 7) (y 8) (y 9) (y 12) (y 13) (y 14) (y 17) (xs (x3 + (1 : Int32)).toNatClampNeg) (xs (x3 + (2 : Int32)).toNatClampNeg) h2) (cwV 2 hts gL_law_X8_differs rfl rfl rfl ⟨rfl, hd_X8_differs⟩ ⟨Nat.le_of_ble_eq_true rfl, Nat.le_of_ble_eq_true rfl⟩) hK hE hP hD (hD.of_fst wdL_fst) hS hA [51, 52, 53, 54, 55, 56, 57, 58, 59, 60, 61, 64, 65, 66, 69] 78 8 0 rfl rfl rfl rfl (by decide +kernel) rfl rfl rfl hl.1 rfl (Nat.le_of_ble_eq_true rfl) dL_law_1326 ⟨Nat.le_of_ble_eq_true rfl, Nat.le_of_ble_eq_true rfl⟩ (fun H locs hP hD hS => ?_)
    refine lv_icmp_eq (tgt := 1357) hx hb dL_law_1329 (by decide) (fun cq => ?_) (fun cq => absurd h3 cq)
    exact kk X (mkB (Y 0) (Y 1) (Y 2) (Y 3) (Y 4) (Y 5) (Y 6) (Y 7) oc.2.1 oc.2.2.1 oc.2.2.2 (Y 11) (Y 12) (Y 13) (Y 14) (Y 15) (Y 16) (Y 17) (Y 20) (Y 21) (Y 22) (Y 23) (Y 24) (Y 25) (Y 26) (Y 27) (Y 28) (Y 29) (Y 30) (Y 31) (Y 32) (Y 33) (Y 34) (Y 35)) Z V (mka om.2.1 (x 1) (x 2) (x 3) (x 4) om.2.2.1 om.2.2.2.1 om.2.2.2.2.1 om.2.2.2.2.2.1 (x 9)) (mkb (y 0) (y 1) (y 2) (y 3) (y 4) (y 5) (y 6) (y 7) (y 8) (y 9) (y 10) (y 11) om.2.2.2.2.2.2.1 om.2.2.2.2.2.2.2.1 om.2.2.2.2.2.2.2.2.1 (y 15) (y 16) om.2.2.2.2.2.2.2.2.2 (y 18) (y 19) (y 20) (y 21) (y 22) (y 23) (y 24)) H locs ⟨hIP, hIR, hIL, hIC, k0, k1, k2, k3⟩ hP hD hS
  · obtain ⟨oc, om, h1, h2, h3⟩ := op_differs (w1 := X 13) (h1 := X 14) (n1 := X 15) (ru1 := Y 24) (pr1 := Y 25) (lf1 := Y 26) (lt1 := Y 27) (kept := Y 17) (isKept := y 9) (wide := y 0) (tall := y 1) (hands := y 2) (power := y 3) (spin := y 4) (seed := y 5) (pressed := y 6) (leftFrom := y 7) (leftTo := y 8) (x 0) (x 5) (x 6) (x 7) (x 8) (Y 8) (Y 9) (Y 10) (y 12) (y 13) (y 14) (y 17) (xs (x3 + (1 : Int32)).toNatClampNeg) (xs (x3 + (2 : Int32)).toNatClampNeg) (fun s9 h9 e9 => by obtain rfl := slot_un h9 (by decide) (hn.symm.trans e9); exact k1)
    refine lv_aload_n hx hb dL_law_1301 rfl (lv_at hl 1 rfl) ?_
    refine lv_aload_n hx hb dL_law_1302 rfl (lv_at hl 0 rfl) ?_
    refine lv_iload_n hx hb dL_law_1303 rfl (lv_at hl 3 rfl) ?_
    refine lv_iconst (v := (1 : Int32)) hx hb dL_law_1304 (by decide) ?_
    refine lv_iadd hx hb dL_law_1305 ?_
    refine va_sld hx hb hX hbl hbA hS b1 dL_law_1306 ?_
    refine lv_aload_n hx hb dL_law_1307 rfl (lv_at hl 0 rfl) ?_
    refine lv_iload_n hx hb dL_law_1308 rfl (lv_at hl 3 rfl) ?_
    refine lv_iconst (v := (2 : Int32)) hx hb dL_law_1309 (by decide) ?_
    refine lv_iadd hx hb dL_law_1310 ?_
    refine va_sld hx hb hX hbl hbA hS b2 dL_law_1311 ?_
    refine my_Vi2 (WS2 := (wdL cy O M sf wy X (mkB (Y 0) (Y 1) (Y 2) (Y 3) (Y 4) (Y 5) (Y 6) (Y 7) oc.2.1 oc.2.2.1 oc.2.2.2 (Y 11) (Y 12) (Y 13) (Y 14) (Y 15) (Y 16) (Y 17) (Y 20) (Y 21) (Y 22) (Y 23) (Y 24) (Y 25) (Y 26) (Y 27) (Y 28) (Y 29) (Y 30) (Y 31) (Y 32) (Y 33) (Y 34) (Y 35)) Z V x y)) ⟨hx, hb, hml, hown, hts⟩ (c_X7_differs l D cy t (O 0) (O 1) (O 2) (O 3) (O 4) (O 5) (O 6) (O 7) (O 8) (O 9) (O 11) sf (Y 8) (Y 9) (Y 10) (X 13) (X 14) (X 15) (Y 24) (Y 25) (Y 26) (Y 27) (Y 17) (xs (x3 + (1 : Int32)).toNatClampNeg) (xs (x3 + (2 : Int32)).toNatClampNeg) (fun _ => by rw [hn]; exact hsf.2.1) h1) (cwV 2 hts gL_law_X7_differs rfl rfl rfl ⟨rfl, hd_X7_differs⟩ ⟨Nat.le_of_ble_eq_true rfl, Nat.le_of_ble_eq_true rfl⟩) hK hE hP hD (hD.of_fst wdL_fst) hS hA [0, 13, 14, 15, 16, 17, 29, 35, 36, 37, 38, 39, 50] 78 7 0 rfl rfl rfl rfl (by decide +kernel) rfl rfl rfl hl.1 rfl (Nat.le_of_ble_eq_true rfl) dL_law_1312 ⟨Nat.le_of_ble_eq_true rfl, Nat.le_of_ble_eq_true rfl⟩ (fun H locs hP hD hS => ?_)
    refine lv_aload_n hx hb dL_law_1315 rfl (lv_at hl 2 rfl) ?_
    refine lv_aload_n hx hb dL_law_1316 rfl (lv_at hl 0 rfl) ?_
    refine lv_iload_n hx hb dL_law_1317 rfl (lv_at hl 3 rfl) ?_
    refine lv_iconst (v := (1 : Int32)) hx hb dL_law_1318 (by decide) ?_
    refine lv_iadd hx hb dL_law_1319 ?_
    refine va_sld hx hb hX hbl hbA hS b1 dL_law_1320 ?_
    refine lv_aload_n hx hb dL_law_1321 rfl (lv_at hl 0 rfl) ?_
    refine lv_iload_n hx hb dL_law_1322 rfl (lv_at hl 3 rfl) ?_
    refine lv_iconst (v := (2 : Int32)) hx hb dL_law_1323 (by decide) ?_
    refine lv_iadd hx hb dL_law_1324 ?_
    refine va_sld hx hb hX hbl hbA hS b2 dL_law_1325 ?_
    refine my_Vi2 (WS2 := (wdL cy O M sf wy X (mkB (Y 0) (Y 1) (Y 2) (Y 3) (Y 4) (Y 5) (Y 6) (Y 7) oc.2.1 oc.2.2.1 oc.2.2.2 (Y 11) (Y 12) (Y 13) (Y 14) (Y 15) (Y 16) (Y 17) (Y 20) (Y 21) (Y 22) (Y 23) (Y 24) (Y 25) (Y 26) (Y 27) (Y 28) (Y 29) (Y 30) (Y 31) (Y 32) (Y 33) (Y 34) (Y 35)) Z V (mka om.2.1 (x 1) (x 2) (x 3) (x 4) om.2.2.1 om.2.2.2.1 om.2.2.2.2.1 om.2.2.2.2.2.1 (x 9)) (mkb (y 0) (y 1) (y 2) (y 3) (y 4) (y 5) (y 6) (y 7) (y 8) (y 9) (y 10) (y 11) om.2.2.2.2.2.2.1 om.2.2.2.2.2.2.2.1 om.2.2.2.2.2.2.2.2.1 (y 15) (y 16) om.2.2.2.2.2.2.2.2.2 (y 18) (y 19) (y 20) (y 21) (y 22) (y 23) (y 24)))) ⟨hx, hb, hml, hown, hts⟩ (c_X8_differs l D cy t M (x 0) (x 1) (x 2) (x 3) (x 4) (x 5) (x 6) (x 7) (x 8) (x 9) (y 0) (y 1) (y 2) (y 3) (y 4) (y 5) (y 6) (y 7) (y 8) (y 9) (y 12) (y 13) (y 14) (y 17) (xs (x3 + (1 : Int32)).toNatClampNeg) (xs (x3 + (2 : Int32)).toNatClampNeg) h2) (cwV 2 hts gL_law_X8_differs rfl rfl rfl ⟨rfl, hd_X8_differs⟩ ⟨Nat.le_of_ble_eq_true rfl, Nat.le_of_ble_eq_true rfl⟩) hK hE hP hD (hD.of_fst wdL_fst) hS hA [51, 52, 53, 54, 55, 56, 57, 58, 59, 60, 61, 64, 65, 66, 69] 78 8 0 rfl rfl rfl rfl (by decide +kernel) rfl rfl rfl hl.1 rfl (Nat.le_of_ble_eq_true rfl) dL_law_1326 ⟨Nat.le_of_ble_eq_true rfl, Nat.le_of_ble_eq_true rfl⟩ (fun H locs hP hD hS => ?_)
    refine lv_icmp_eq (tgt := 1357) hx hb dL_law_1329 (by decide) (fun cq => ?_) (fun cq => absurd h3 cq)
    exact kk X (mkB (Y 0) (Y 1) (Y 2) (Y 3) (Y 4) (Y 5) (Y 6) (Y 7) oc.2.1 oc.2.2.1 oc.2.2.2 (Y 11) (Y 12) (Y 13) (Y 14) (Y 15) (Y 16) (Y 17) (Y 20) (Y 21) (Y 22) (Y 23) (Y 24) (Y 25) (Y 26) (Y 27) (Y 28) (Y 29) (Y 30) (Y 31) (Y 32) (Y 33) (Y 34) (Y 35)) Z V (mka om.2.1 (x 1) (x 2) (x 3) (x 4) om.2.2.1 om.2.2.2.1 om.2.2.2.2.1 om.2.2.2.2.2.1 (x 9)) (mkb (y 0) (y 1) (y 2) (y 3) (y 4) (y 5) (y 6) (y 7) (y 8) (y 9) (y 10) (y 11) om.2.2.2.2.2.2.1 om.2.2.2.2.2.2.2.1 om.2.2.2.2.2.2.2.2.1 (y 15) (y 16) om.2.2.2.2.2.2.2.2.2 (y 18) (y 19) (y 20) (y 21) (y 22) (y 23) (y 24)) H locs ⟨hIP, hIR, hIL, hIC, k0, k1, k2, k3⟩ hP hD hS
  · obtain ⟨oc, om, h1, h2, h3⟩ := op_differs (w1 := X 16) (h1 := X 17) (n1 := X 18) (ru1 := Y 28) (pr1 := Y 29) (lf1 := Y 30) (lt1 := Y 31) (kept := Y 17) (isKept := y 9) (wide := y 0) (tall := y 1) (hands := y 2) (power := y 3) (spin := y 4) (seed := y 5) (pressed := y 6) (leftFrom := y 7) (leftTo := y 8) (x 0) (x 5) (x 6) (x 7) (x 8) (Y 8) (Y 9) (Y 10) (y 12) (y 13) (y 14) (y 17) (xs (x3 + (1 : Int32)).toNatClampNeg) (xs (x3 + (2 : Int32)).toNatClampNeg) (fun s9 h9 e9 => by obtain rfl := slot_un h9 (by decide) (hn.symm.trans e9); exact k2)
    refine lv_aload_n hx hb dL_law_1301 rfl (lv_at hl 1 rfl) ?_
    refine lv_aload_n hx hb dL_law_1302 rfl (lv_at hl 0 rfl) ?_
    refine lv_iload_n hx hb dL_law_1303 rfl (lv_at hl 3 rfl) ?_
    refine lv_iconst (v := (1 : Int32)) hx hb dL_law_1304 (by decide) ?_
    refine lv_iadd hx hb dL_law_1305 ?_
    refine va_sld hx hb hX hbl hbA hS b1 dL_law_1306 ?_
    refine lv_aload_n hx hb dL_law_1307 rfl (lv_at hl 0 rfl) ?_
    refine lv_iload_n hx hb dL_law_1308 rfl (lv_at hl 3 rfl) ?_
    refine lv_iconst (v := (2 : Int32)) hx hb dL_law_1309 (by decide) ?_
    refine lv_iadd hx hb dL_law_1310 ?_
    refine va_sld hx hb hX hbl hbA hS b2 dL_law_1311 ?_
    refine my_Vi2 (WS2 := (wdL cy O M sf wy X (mkB (Y 0) (Y 1) (Y 2) (Y 3) (Y 4) (Y 5) (Y 6) (Y 7) oc.2.1 oc.2.2.1 oc.2.2.2 (Y 11) (Y 12) (Y 13) (Y 14) (Y 15) (Y 16) (Y 17) (Y 20) (Y 21) (Y 22) (Y 23) (Y 24) (Y 25) (Y 26) (Y 27) (Y 28) (Y 29) (Y 30) (Y 31) (Y 32) (Y 33) (Y 34) (Y 35)) Z V x y)) ⟨hx, hb, hml, hown, hts⟩ (c_X7_differs l D cy t (O 0) (O 1) (O 2) (O 3) (O 4) (O 5) (O 6) (O 7) (O 8) (O 9) (O 12) sf (Y 8) (Y 9) (Y 10) (X 16) (X 17) (X 18) (Y 28) (Y 29) (Y 30) (Y 31) (Y 17) (xs (x3 + (1 : Int32)).toNatClampNeg) (xs (x3 + (2 : Int32)).toNatClampNeg) (fun _ => by rw [hn]; exact hsf.2.2.1) h1) (cwV 2 hts gL_law_X7_differs rfl rfl rfl ⟨rfl, hd_X7_differs⟩ ⟨Nat.le_of_ble_eq_true rfl, Nat.le_of_ble_eq_true rfl⟩) hK hE hP hD (hD.of_fst wdL_fst) hS hA [0, 13, 14, 15, 16, 17, 29, 40, 41, 42, 43, 44, 50] 78 7 0 rfl rfl rfl rfl (by decide +kernel) rfl rfl rfl hl.1 rfl (Nat.le_of_ble_eq_true rfl) dL_law_1312 ⟨Nat.le_of_ble_eq_true rfl, Nat.le_of_ble_eq_true rfl⟩ (fun H locs hP hD hS => ?_)
    refine lv_aload_n hx hb dL_law_1315 rfl (lv_at hl 2 rfl) ?_
    refine lv_aload_n hx hb dL_law_1316 rfl (lv_at hl 0 rfl) ?_
    refine lv_iload_n hx hb dL_law_1317 rfl (lv_at hl 3 rfl) ?_
    refine lv_iconst (v := (1 : Int32)) hx hb dL_law_1318 (by decide) ?_
    refine lv_iadd hx hb dL_law_1319 ?_
    refine va_sld hx hb hX hbl hbA hS b1 dL_law_1320 ?_
    refine lv_aload_n hx hb dL_law_1321 rfl (lv_at hl 0 rfl) ?_
    refine lv_iload_n hx hb dL_law_1322 rfl (lv_at hl 3 rfl) ?_
    refine lv_iconst (v := (2 : Int32)) hx hb dL_law_1323 (by decide) ?_
    refine lv_iadd hx hb dL_law_1324 ?_
    refine va_sld hx hb hX hbl hbA hS b2 dL_law_1325 ?_
    refine my_Vi2 (WS2 := (wdL cy O M sf wy X (mkB (Y 0) (Y 1) (Y 2) (Y 3) (Y 4) (Y 5) (Y 6) (Y 7) oc.2.1 oc.2.2.1 oc.2.2.2 (Y 11) (Y 12) (Y 13) (Y 14) (Y 15) (Y 16) (Y 17) (Y 20) (Y 21) (Y 22) (Y 23) (Y 24) (Y 25) (Y 26) (Y 27) (Y 28) (Y 29) (Y 30) (Y 31) (Y 32) (Y 33) (Y 34) (Y 35)) Z V (mka om.2.1 (x 1) (x 2) (x 3) (x 4) om.2.2.1 om.2.2.2.1 om.2.2.2.2.1 om.2.2.2.2.2.1 (x 9)) (mkb (y 0) (y 1) (y 2) (y 3) (y 4) (y 5) (y 6) (y 7) (y 8) (y 9) (y 10) (y 11) om.2.2.2.2.2.2.1 om.2.2.2.2.2.2.2.1 om.2.2.2.2.2.2.2.2.1 (y 15) (y 16) om.2.2.2.2.2.2.2.2.2 (y 18) (y 19) (y 20) (y 21) (y 22) (y 23) (y 24)))) ⟨hx, hb, hml, hown, hts⟩ (c_X8_differs l D cy t M (x 0) (x 1) (x 2) (x 3) (x 4) (x 5) (x 6) (x 7) (x 8) (x 9) (y 0) (y 1) (y 2) (y 3) (y 4) (y 5) (y 6) (y 7) (y 8) (y 9) (y 12) (y 13) (y 14) (y 17) (xs (x3 + (1 : Int32)).toNatClampNeg) (xs (x3 + (2 : Int32)).toNatClampNeg) h2) (cwV 2 hts gL_law_X8_differs rfl rfl rfl ⟨rfl, hd_X8_differs⟩ ⟨Nat.le_of_ble_eq_true rfl, Nat.le_of_ble_eq_true rfl⟩) hK hE hP hD (hD.of_fst wdL_fst) hS hA [51, 52, 53, 54, 55, 56, 57, 58, 59, 60, 61, 64, 65, 66, 69] 78 8 0 rfl rfl rfl rfl (by decide +kernel) rfl rfl rfl hl.1 rfl (Nat.le_of_ble_eq_true rfl) dL_law_1326 ⟨Nat.le_of_ble_eq_true rfl, Nat.le_of_ble_eq_true rfl⟩ (fun H locs hP hD hS => ?_)
    refine lv_icmp_eq (tgt := 1357) hx hb dL_law_1329 (by decide) (fun cq => ?_) (fun cq => absurd h3 cq)
    exact kk X (mkB (Y 0) (Y 1) (Y 2) (Y 3) (Y 4) (Y 5) (Y 6) (Y 7) oc.2.1 oc.2.2.1 oc.2.2.2 (Y 11) (Y 12) (Y 13) (Y 14) (Y 15) (Y 16) (Y 17) (Y 20) (Y 21) (Y 22) (Y 23) (Y 24) (Y 25) (Y 26) (Y 27) (Y 28) (Y 29) (Y 30) (Y 31) (Y 32) (Y 33) (Y 34) (Y 35)) Z V (mka om.2.1 (x 1) (x 2) (x 3) (x 4) om.2.2.1 om.2.2.2.1 om.2.2.2.2.1 om.2.2.2.2.2.1 (x 9)) (mkb (y 0) (y 1) (y 2) (y 3) (y 4) (y 5) (y 6) (y 7) (y 8) (y 9) (y 10) (y 11) om.2.2.2.2.2.2.1 om.2.2.2.2.2.2.2.1 om.2.2.2.2.2.2.2.2.1 (y 15) (y 16) om.2.2.2.2.2.2.2.2.2 (y 18) (y 19) (y 20) (y 21) (y 22) (y 23) (y 24)) H locs ⟨hIP, hIR, hIL, hIC, k0, k1, k2, k3⟩ hP hD hS
  · obtain ⟨oc, om, h1, h2, h3⟩ := op_differs (w1 := X 19) (h1 := X 20) (n1 := X 21) (ru1 := Y 32) (pr1 := Y 33) (lf1 := Y 34) (lt1 := Y 35) (kept := Y 17) (isKept := y 9) (wide := y 0) (tall := y 1) (hands := y 2) (power := y 3) (spin := y 4) (seed := y 5) (pressed := y 6) (leftFrom := y 7) (leftTo := y 8) (x 0) (x 5) (x 6) (x 7) (x 8) (Y 8) (Y 9) (Y 10) (y 12) (y 13) (y 14) (y 17) (xs (x3 + (1 : Int32)).toNatClampNeg) (xs (x3 + (2 : Int32)).toNatClampNeg) (fun s9 h9 e9 => by obtain rfl := slot_un h9 (by decide) (hn.symm.trans e9); exact k3)
    refine lv_aload_n hx hb dL_law_1301 rfl (lv_at hl 1 rfl) ?_
    refine lv_aload_n hx hb dL_law_1302 rfl (lv_at hl 0 rfl) ?_
    refine lv_iload_n hx hb dL_law_1303 rfl (lv_at hl 3 rfl) ?_
    refine lv_iconst (v := (1 : Int32)) hx hb dL_law_1304 (by decide) ?_
    refine lv_iadd hx hb dL_law_1305 ?_
    refine va_sld hx hb hX hbl hbA hS b1 dL_law_1306 ?_
    refine lv_aload_n hx hb dL_law_1307 rfl (lv_at hl 0 rfl) ?_
    refine lv_iload_n hx hb dL_law_1308 rfl (lv_at hl 3 rfl) ?_
    refine lv_iconst (v := (2 : Int32)) hx hb dL_law_1309 (by decide) ?_
    refine lv_iadd hx hb dL_law_1310 ?_
    refine va_sld hx hb hX hbl hbA hS b2 dL_law_1311 ?_
    refine my_Vi2 (WS2 := (wdL cy O M sf wy X (mkB (Y 0) (Y 1) (Y 2) (Y 3) (Y 4) (Y 5) (Y 6) (Y 7) oc.2.1 oc.2.2.1 oc.2.2.2 (Y 11) (Y 12) (Y 13) (Y 14) (Y 15) (Y 16) (Y 17) (Y 20) (Y 21) (Y 22) (Y 23) (Y 24) (Y 25) (Y 26) (Y 27) (Y 28) (Y 29) (Y 30) (Y 31) (Y 32) (Y 33) (Y 34) (Y 35)) Z V x y)) ⟨hx, hb, hml, hown, hts⟩ (c_X7_differs l D cy t (O 0) (O 1) (O 2) (O 3) (O 4) (O 5) (O 6) (O 7) (O 8) (O 9) (O 13) sf (Y 8) (Y 9) (Y 10) (X 19) (X 20) (X 21) (Y 32) (Y 33) (Y 34) (Y 35) (Y 17) (xs (x3 + (1 : Int32)).toNatClampNeg) (xs (x3 + (2 : Int32)).toNatClampNeg) (fun _ => by rw [hn]; exact hsf.2.2.2) h1) (cwV 2 hts gL_law_X7_differs rfl rfl rfl ⟨rfl, hd_X7_differs⟩ ⟨Nat.le_of_ble_eq_true rfl, Nat.le_of_ble_eq_true rfl⟩) hK hE hP hD (hD.of_fst wdL_fst) hS hA [0, 13, 14, 15, 16, 17, 29, 45, 46, 47, 48, 49, 50] 78 7 0 rfl rfl rfl rfl (by decide +kernel) rfl rfl rfl hl.1 rfl (Nat.le_of_ble_eq_true rfl) dL_law_1312 ⟨Nat.le_of_ble_eq_true rfl, Nat.le_of_ble_eq_true rfl⟩ (fun H locs hP hD hS => ?_)
    refine lv_aload_n hx hb dL_law_1315 rfl (lv_at hl 2 rfl) ?_
    refine lv_aload_n hx hb dL_law_1316 rfl (lv_at hl 0 rfl) ?_
    refine lv_iload_n hx hb dL_law_1317 rfl (lv_at hl 3 rfl) ?_
    refine lv_iconst (v := (1 : Int32)) hx hb dL_law_1318 (by decide) ?_
    refine lv_iadd hx hb dL_law_1319 ?_
    refine va_sld hx hb hX hbl hbA hS b1 dL_law_1320 ?_
    refine lv_aload_n hx hb dL_law_1321 rfl (lv_at hl 0 rfl) ?_
    refine lv_iload_n hx hb dL_law_1322 rfl (lv_at hl 3 rfl) ?_
    refine lv_iconst (v := (2 : Int32)) hx hb dL_law_1323 (by decide) ?_
    refine lv_iadd hx hb dL_law_1324 ?_
    refine va_sld hx hb hX hbl hbA hS b2 dL_law_1325 ?_
    refine my_Vi2 (WS2 := (wdL cy O M sf wy X (mkB (Y 0) (Y 1) (Y 2) (Y 3) (Y 4) (Y 5) (Y 6) (Y 7) oc.2.1 oc.2.2.1 oc.2.2.2 (Y 11) (Y 12) (Y 13) (Y 14) (Y 15) (Y 16) (Y 17) (Y 20) (Y 21) (Y 22) (Y 23) (Y 24) (Y 25) (Y 26) (Y 27) (Y 28) (Y 29) (Y 30) (Y 31) (Y 32) (Y 33) (Y 34) (Y 35)) Z V (mka om.2.1 (x 1) (x 2) (x 3) (x 4) om.2.2.1 om.2.2.2.1 om.2.2.2.2.1 om.2.2.2.2.2.1 (x 9)) (mkb (y 0) (y 1) (y 2) (y 3) (y 4) (y 5) (y 6) (y 7) (y 8) (y 9) (y 10) (y 11) om.2.2.2.2.2.2.1 om.2.2.2.2.2.2.2.1 om.2.2.2.2.2.2.2.2.1 (y 15) (y 16) om.2.2.2.2.2.2.2.2.2 (y 18) (y 19) (y 20) (y 21) (y 22) (y 23) (y 24)))) ⟨hx, hb, hml, hown, hts⟩ (c_X8_differs l D cy t M (x 0) (x 1) (x 2) (x 3) (x 4) (x 5) (x 6) (x 7) (x 8) (x 9) (y 0) (y 1) (y 2) (y 3) (y 4) (y 5) (y 6) (y 7) (y 8) (y 9) (y 12) (y 13) (y 14) (y 17) (xs (x3 + (1 : Int32)).toNatClampNeg) (xs (x3 + (2 : Int32)).toNatClampNeg) h2) (cwV 2 hts gL_law_X8_differs rfl rfl rfl ⟨rfl, hd_X8_differs⟩ ⟨Nat.le_of_ble_eq_true rfl, Nat.le_of_ble_eq_true rfl⟩) hK hE hP hD (hD.of_fst wdL_fst) hS hA [51, 52, 53, 54, 55, 56, 57, 58, 59, 60, 61, 64, 65, 66, 69] 78 8 0 rfl rfl rfl rfl (by decide +kernel) rfl rfl rfl hl.1 rfl (Nat.le_of_ble_eq_true rfl) dL_law_1326 ⟨Nat.le_of_ble_eq_true rfl, Nat.le_of_ble_eq_true rfl⟩ (fun H locs hP hD hS => ?_)
    refine lv_icmp_eq (tgt := 1357) hx hb dL_law_1329 (by decide) (fun cq => ?_) (fun cq => absurd h3 cq)
    exact kk X (mkB (Y 0) (Y 1) (Y 2) (Y 3) (Y 4) (Y 5) (Y 6) (Y 7) oc.2.1 oc.2.2.1 oc.2.2.2 (Y 11) (Y 12) (Y 13) (Y 14) (Y 15) (Y 16) (Y 17) (Y 20) (Y 21) (Y 22) (Y 23) (Y 24) (Y 25) (Y 26) (Y 27) (Y 28) (Y 29) (Y 30) (Y 31) (Y 32) (Y 33) (Y 34) (Y 35)) Z V (mka om.2.1 (x 1) (x 2) (x 3) (x 4) om.2.2.1 om.2.2.2.1 om.2.2.2.2.1 om.2.2.2.2.2.1 (x 9)) (mkb (y 0) (y 1) (y 2) (y 3) (y 4) (y 5) (y 6) (y 7) (y 8) (y 9) (y 10) (y 11) om.2.2.2.2.2.2.1 om.2.2.2.2.2.2.2.1 om.2.2.2.2.2.2.2.2.1 (y 15) (y 16) om.2.2.2.2.2.2.2.2.2 (y 18) (y 19) (y 20) (y 21) (y 22) (y 23) (y 24)) H locs ⟨hIP, hIR, hIL, hIC, k0, k1, k2, k3⟩ hP hD hS

set_option maxHeartbeats 4000000 in
set_option maxRecDepth 100000 in
theorem law_c29 {p : Program} {l : Launch} {e : Env} {s : State} {m : MethodId} {below : List Frame} {meth : Method} {c : Code} {Q : State → Prop} {D : va_G} {cy : Nat → ClassId} {t : Nat → Nat} {O : Nat → Nat → Nat} {M : Nat → Nat} {sf : Nat → Option Nat} {wy : Nat → Int64} {X : Nat → Int32} {Y : Nat → Nat → Int32} {Z : Nat → Nat → Int64} {V : Nat → Int64} {x : Nat → Int32} {y : Nat → Nat → Int32} {b L i : Nat} {xs : Nat → Int32} {x3 : Int32} {H : Heap} {locs : List Loc} {ls : Array Slot} (C0 : lw_At p s m meth c b L xs) (hL : L ≤ 3072) (hi : i + 6 ≤ L) (ex : x3 = nI i) (hsf : sf 0 = some (O 10 0) ∧ sf 1 = some (O 11 0) ∧ sf 2 = some (O 12 0) ∧ sf 3 = some (O 13 0)) (hK : va_K D vwCl (TYS cy) s) (hE : EV t (LA s) s s.heap) (hIW : InvW wy) (hInv : LInv X Y x y) (hP : va_P D vwCl (wdL cy O M sf wy X Y Z V x y) H) (hD : va_D (LA s) (wdL cy O M sf wy X Y Z V x y)) (hS : va_S (LA s) s.heap H locs) (hl : lv_has ls 4 [(0, .ref b), (1, .ref (O 0 0)), (2, .ref (M 0)), (3, .int x3)]) (kk : ∀ (X : Nat → Int32) (Y : Nat → Nat → Int32) (Z : Nat → Nat → Int64) (V : Nat → Int64) (x : Nat → Int32) (y : Nat → Nat → Int32) (H : Heap) (locs : List Loc), LInv X Y x y → va_P D vwCl (wdL cy O M sf wy X Y Z V x y) H → va_D (LA s) (wdL cy O M sf wy X Y Z V x y) → va_S (LA s) s.heap H locs → W p l e room_1 s m #[Value.ref b] below meth c H locs 78 18884 Q (F0 m 1357 ls [])) : W p l e room_1 s m #[Value.ref b] below meth c H locs 78 18884 Q (F0 m 1334 ls []) := by
  obtain ⟨hx, hb, hr, hml, hown, hts0, hX, hbl, hlocks, hgv⟩ := C0
  have hts : ∀ w ∈ wsL_law, w.before #[Value.ref b] s = true := fun w h => hts0 w (wsL_in w h)
  have hA : ∀ q : Nat, s.heap.size ≤ q → LA s q := fun _ h => h
  have hbA : ¬ LA s b := Nat.not_le.mpr hbl
  obtain ⟨hIP, hIR, hIL, hIC, k0, k1, k2, k3⟩ := hInv
  have b1 : vp_in (x3 + (1 : Int32)) L := by rw [ex, show nI i + (1 : Int32) = nI (i + 1) from nI_add i 1]; exact vp_in_nI (by omega) (by omega)
  have hCs : X 5 = x 9 := by obtain ⟨n9, _, _, _, e1, e2, _⟩ := hIC; rw [e1, e2]
  have hKs : ∀ s9, s9 < 4 → Y 17 s9 = y 9 s9 := sk_all k0.1 k1.1 k2.1 k3.1
  obtain ⟨oc, om, h1, h2, h3⟩ := op_count hIP hIL hCs hKs (x 0) (xs (x3 + (1 : Int32)).toNatClampNeg)
  refine lv_aload_n hx hb dL_law_1334 rfl (lv_at hl 1 rfl) ?_
  refine lv_aload_n hx hb dL_law_1335 rfl (lv_at hl 0 rfl) ?_
  refine lv_iload_n hx hb dL_law_1336 rfl (lv_at hl 3 rfl) ?_
  refine lv_iconst (v := (1 : Int32)) hx hb dL_law_1337 (by decide) ?_
  refine lv_iadd hx hb dL_law_1338 ?_
  refine va_sld hx hb hX hbl hbA hS b1 dL_law_1339 ?_
  refine my_Vi2 (WS2 := (wdL cy O M sf wy X Y Z V x y)) ⟨hx, hb, hml, hown, hts⟩ (c_X7_count l D cy t (O 0) (O 1) (O 2) (O 3) (O 4) (O 5) (O 6) (O 7) (O 8) (O 9) (X 0) (X 1) (X 2) (Y 1) (Y 2) (Y 3) (Y 5) (X 5) (X 6) (Y 17) (xs (x3 + (1 : Int32)).toNatClampNeg) h1) (cwV 1 hts gL_law_X7_count rfl rfl rfl ⟨rfl, hd_X7_count⟩ ⟨Nat.le_of_ble_eq_true rfl, Nat.le_of_ble_eq_true rfl⟩) hK hE hP hD (hD.of_fst wdL_fst) hS hA [0, 1, 3, 4, 5, 6, 8, 20, 50] 78 7 0 rfl rfl rfl rfl (by decide +kernel) rfl rfl rfl hl.1 rfl (Nat.le_of_ble_eq_true rfl) dL_law_1340 ⟨Nat.le_of_ble_eq_true rfl, Nat.le_of_ble_eq_true rfl⟩ (fun H locs hP hD hS => ?_)
  refine lv_aload_n hx hb dL_law_1343 rfl (lv_at hl 2 rfl) ?_
  refine lv_aload_n hx hb dL_law_1344 rfl (lv_at hl 0 rfl) ?_
  refine lv_iload_n hx hb dL_law_1345 rfl (lv_at hl 3 rfl) ?_
  refine lv_iconst (v := (1 : Int32)) hx hb dL_law_1346 (by decide) ?_
  refine lv_iadd hx hb dL_law_1347 ?_
  refine va_sld hx hb hX hbl hbA hS b1 dL_law_1348 ?_
  refine my_Vi2 (WS2 := (wdL cy O M sf wy X Y Z V (mka om.2 (x 1) (x 2) (x 3) (x 4) (x 5) (x 6) (x 7) (x 8) (x 9)) y)) ⟨hx, hb, hml, hown, hts⟩ (c_X8_count l D cy t M (x 0) (x 1) (x 2) (x 3) (x 4) (x 5) (x 6) (x 7) (x 8) (x 9) (y 0) (y 1) (y 2) (y 6) (y 7) (y 8) (y 9) (y 11) (xs (x3 + (1 : Int32)).toNatClampNeg) h2) (cwV 1 hts gL_law_X8_count rfl rfl rfl ⟨rfl, hd_X8_count⟩ ⟨Nat.le_of_ble_eq_true rfl, Nat.le_of_ble_eq_true rfl⟩) hK hE hP hD (hD.of_fst wdL_fst) hS hA [51, 52, 53, 54, 58, 59, 60, 61, 63] 78 8 0 rfl rfl rfl rfl (by decide +kernel) rfl rfl rfl hl.1 rfl (Nat.le_of_ble_eq_true rfl) dL_law_1349 ⟨Nat.le_of_ble_eq_true rfl, Nat.le_of_ble_eq_true rfl⟩ (fun H locs hP hD hS => ?_)
  refine lv_icmp_eq (tgt := 1357) hx hb dL_law_1352 (by decide) (fun cq => ?_) (fun cq => absurd h3 cq)
  exact kk X Y Z V (mka om.2 (x 1) (x 2) (x 3) (x 4) (x 5) (x 6) (x 7) (x 8) (x 9)) y H locs ⟨hIP, hIR, hIL, hIC, k0, k1, k2, k3⟩ hP hD hS
