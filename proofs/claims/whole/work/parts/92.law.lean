set_option maxHeartbeats 4000000 in
set_option maxRecDepth 100000 in
theorem law_c25 {p : Program} {l : Launch} {e : Env} {s : State} {m : MethodId} {below : List Frame} {meth : Method} {c : Code} {Q : State → Prop} {D : va_G} {cy : Nat → ClassId} {t : Nat → Nat} {O : Nat → Nat → Nat} {M : Nat → Nat} {sf : Nat → Option Nat} {wy : Nat → Int64} {X : Nat → Int32} {Y : Nat → Nat → Int32} {Z : Nat → Nat → Int64} {V : Nat → Int64} {x : Nat → Int32} {y : Nat → Nat → Int32} {b L i : Nat} {xs : Nat → Int32} {x3 : Int32} {H : Heap} {locs : List Loc} {ls : Array Slot} (C0 : lw_At p s m meth c b L xs) (hL : L ≤ 3072) (hi : i + 6 ≤ L) (ex : x3 = nI i) (hsf : sf 0 = some (O 10 0) ∧ sf 1 = some (O 11 0) ∧ sf 2 = some (O 12 0) ∧ sf 3 = some (O 13 0)) (hK : va_K D vwCl (TYS cy) s) (hE : EV t (LA s) s s.heap) (hIW : InvW wy) (hInv : LInv X Y x y) (hP : va_P D vwCl (wdL cy O M sf wy X Y Z V x y) H) (hD : va_D (LA s) (wdL cy O M sf wy X Y Z V x y)) (hS : va_S (LA s) s.heap H locs) (hl : lv_has ls 4 [(0, .ref b), (1, .ref (O 0 0)), (2, .ref (M 0)), (3, .int x3)]) (kk : ∀ (X : Nat → Int32) (Y : Nat → Nat → Int32) (Z : Nat → Nat → Int64) (V : Nat → Int64) (x : Nat → Int32) (y : Nat → Nat → Int32) (H : Heap) (locs : List Loc), LInv X Y x y → va_P D vwCl (wdL cy O M sf wy X Y Z V x y) H → va_D (LA s) (wdL cy O M sf wy X Y Z V x y) → va_S (LA s) s.heap H locs → W p l e room_1 s m #[Value.ref b] below meth c H locs 78 18884 Q (F0 m 1357 ls [])) : W p l e room_1 s m #[Value.ref b] below meth c H locs 78 18884 Q (F0 m 1202 ls []) := by
  obtain ⟨hx, hb, hr, hml, hown, hts0, hX, hbl, hlocks, hgv⟩ := C0
  have hts : ∀ w ∈ wsL_law, w.before #[Value.ref b] s = true := fun w h => hts0 w (wsL_in w h)
  have hA : ∀ q : Nat, s.heap.size ≤ q → LA s q := fun _ h => h
  have hbA : ¬ LA s b := Nat.not_le.mpr hbl
  obtain ⟨hIP, hIR, hIL, hIC, k0, k1, k2, k3⟩ := hInv
  have b1 : vp_in (x3 + (1 : Int32)) L := by rw [ex, show nI i + (1 : Int32) = nI (i + 1) from nI_add i 1]; exact vp_in_nI (by omega) (by omega)
  rcases slot_or (xs (x3 + (1 : Int32)).toNatClampNeg) with hn | hn | hn | hn | hn
  · obtain ⟨oc, om, h1, h2, h3, hIP, hsl⟩ := op_keep hIP (X 10) (X 11) (X 12) (Y 20) (Y 21) (Y 22) (Y 23) (Y 17) (y 9) (x 0) (xs (x3 + (1 : Int32)).toNatClampNeg)
    refine lv_aload_n hx hb dL_law_1202 rfl (lv_at hl 1 rfl) ?_
    refine lv_aload_n hx hb dL_law_1203 rfl (lv_at hl 0 rfl) ?_
    refine lv_iload_n hx hb dL_law_1204 rfl (lv_at hl 3 rfl) ?_
    refine lv_iconst (v := (1 : Int32)) hx hb dL_law_1205 (by decide) ?_
    refine lv_iadd hx hb dL_law_1206 ?_
    refine va_sld hx hb hX hbl hbA hS b1 dL_law_1207 ?_
    refine my_Vi (WS2 := (wdL cy O M sf wy (sX (sX (sX X 10 oc.2.1) 11 oc.2.2.1) 12 oc.2.2.2.1) (sX (sX (sX (sX (sX Y 20 oc.2.2.2.2.1) 21 oc.2.2.2.2.2.1) 22 oc.2.2.2.2.2.2.1) 23 oc.2.2.2.2.2.2.2.1) 17 oc.2.2.2.2.2.2.2.2) Z V x y)) ⟨hx, hb, hml, hown, hts⟩ (c_X7_keep l D cy t (O 0) (O 1) (O 2) (O 3) (O 4) (O 5) (O 6) (O 7) (O 8) (O 9) (O 10) sf (X 0) (X 1) (X 2) (Y 0) (Y 1) (Y 2) (Y 3) (X 10) (X 11) (X 12) (Y 20) (Y 21) (Y 22) (Y 23) (Y 17) (xs (x3 + (1 : Int32)).toNatClampNeg) (fun h9 => absurd h9 hn) h1) (cwV 1 hts gL_law_X7_keep rfl rfl rfl ⟨rfl, hd_X7_keep⟩ ⟨Nat.le_of_ble_eq_true rfl, Nat.le_of_ble_eq_true rfl⟩) hK hE hP hD hS hA [0, 1, 2, 3, 4, 5, 29, 30, 31, 32, 33, 34, 50] 78 7 0 rfl rfl rfl rfl (by decide +kernel) rfl rfl hl.1 rfl (Nat.le_of_ble_eq_true rfl) dL_law_1208 ⟨Nat.le_of_ble_eq_true rfl, Nat.le_of_ble_eq_true rfl⟩ (fun H locs hP hD hS => ?_)
    refine lv_aload_n hx hb dL_law_1211 rfl (lv_at hl 2 rfl) ?_
    refine lv_aload_n hx hb dL_law_1212 rfl (lv_at hl 0 rfl) ?_
    refine lv_iload_n hx hb dL_law_1213 rfl (lv_at hl 3 rfl) ?_
    refine lv_iconst (v := (1 : Int32)) hx hb dL_law_1214 (by decide) ?_
    refine lv_iadd hx hb dL_law_1215 ?_
    refine va_sld hx hb hX hbl hbA hS b1 dL_law_1216 ?_
    refine my_Vi (WS2 := (wdL cy O M sf wy (sX (sX (sX X 10 oc.2.1) 11 oc.2.2.1) 12 oc.2.2.2.1) (sX (sX (sX (sX (sX Y 20 oc.2.2.2.2.1) 21 oc.2.2.2.2.2.1) 22 oc.2.2.2.2.2.2.1) 23 oc.2.2.2.2.2.2.2.1) 17 oc.2.2.2.2.2.2.2.2) Z V (sX x 0 om.2.1) (sX (sX (sX (sX (sX (sX (sX (sX (sX (sX y 0 om.2.2.1) 1 om.2.2.2.1) 2 om.2.2.2.2.1) 3 om.2.2.2.2.2.1) 4 om.2.2.2.2.2.2.1) 5 om.2.2.2.2.2.2.2.1) 6 om.2.2.2.2.2.2.2.2.1) 7 om.2.2.2.2.2.2.2.2.2.1) 8 om.2.2.2.2.2.2.2.2.2.2.1) 9 om.2.2.2.2.2.2.2.2.2.2.2))) ⟨hx, hb, hml, hown, hts⟩ (c_X8_keep l D cy t M (x 0) (x 1) (x 2) (x 3) (x 4) (x 5) (x 6) (x 7) (x 8) (x 9) (y 0) (y 1) (y 2) (y 3) (y 4) (y 5) (y 6) (y 7) (y 8) (y 9) (xs (x3 + (1 : Int32)).toNatClampNeg) h2) (cwV 1 hts gL_law_X8_keep rfl rfl rfl ⟨rfl, hd_X8_keep⟩ ⟨Nat.le_of_ble_eq_true rfl, Nat.le_of_ble_eq_true rfl⟩) hK hE hP hD hS hA [51, 52, 53, 54, 55, 56, 57, 58, 59, 60, 61] 78 8 0 rfl rfl rfl rfl (by decide +kernel) rfl rfl hl.1 rfl (Nat.le_of_ble_eq_true rfl) dL_law_1217 ⟨Nat.le_of_ble_eq_true rfl, Nat.le_of_ble_eq_true rfl⟩ (fun H locs hP hD hS => ?_)
    refine lv_icmp_eq (tgt := 1357) hx hb dL_law_1220 (by decide) (fun cq => ?_) (fun cq => ?_)
    on_goal 2 => exact absurd h3 cq
    obtain ⟨-, eA, eB⟩ | ⟨s9, h9, e9, -⟩ := hsl
    on_goal 2 => exact absurd (by rw [e9]; exact vp_in_nI h9 (by decide)) hn
    refine kk (sX (sX (sX X 10 oc.2.1) 11 oc.2.2.1) 12 oc.2.2.2.1) (sX (sX (sX (sX (sX Y 20 oc.2.2.2.2.1) 21 oc.2.2.2.2.2.1) 22 oc.2.2.2.2.2.2.1) 23 oc.2.2.2.2.2.2.2.1) 17 oc.2.2.2.2.2.2.2.2) Z V (sX x 0 om.2.1) (sX (sX (sX (sX (sX (sX (sX (sX (sX (sX y 0 om.2.2.1) 1 om.2.2.2.1) 2 om.2.2.2.2.1) 3 om.2.2.2.2.2.1) 4 om.2.2.2.2.2.2.1) 5 om.2.2.2.2.2.2.2.1) 6 om.2.2.2.2.2.2.2.2.1) 7 om.2.2.2.2.2.2.2.2.2.1) 8 om.2.2.2.2.2.2.2.2.2.2.1) 9 om.2.2.2.2.2.2.2.2.2.2.2) H locs ?_ hP hD hS
    obtain ⟨oc1, a1, a2, a3, a4, a5, a6, a7, a8⟩ := oc
    obtain ⟨om1, om2, c1, c2, c3, c4, c5, c6, c7, c8, c9, c10⟩ := om
    cases eA
    cases eB
    exact ⟨hIP, hIR, hIL, hIC, k0, k1, k2, k3⟩
  · obtain ⟨oc, om, h1, h2, h3, hIP, hsl⟩ := op_keep hIP (X 10) (X 11) (X 12) (Y 20) (Y 21) (Y 22) (Y 23) (Y 17) (y 9) (x 0) (xs (x3 + (1 : Int32)).toNatClampNeg)
    refine lv_aload_n hx hb dL_law_1202 rfl (lv_at hl 1 rfl) ?_
    refine lv_aload_n hx hb dL_law_1203 rfl (lv_at hl 0 rfl) ?_
    refine lv_iload_n hx hb dL_law_1204 rfl (lv_at hl 3 rfl) ?_
    refine lv_iconst (v := (1 : Int32)) hx hb dL_law_1205 (by decide) ?_
    refine lv_iadd hx hb dL_law_1206 ?_
    refine va_sld hx hb hX hbl hbA hS b1 dL_law_1207 ?_
    refine my_Vi (WS2 := (wdL cy O M sf wy (sX (sX (sX X 10 oc.2.1) 11 oc.2.2.1) 12 oc.2.2.2.1) (sX (sX (sX (sX (sX Y 20 oc.2.2.2.2.1) 21 oc.2.2.2.2.2.1) 22 oc.2.2.2.2.2.2.1) 23 oc.2.2.2.2.2.2.2.1) 17 oc.2.2.2.2.2.2.2.2) Z V x y)) ⟨hx, hb, hml, hown, hts⟩ (c_X7_keep l D cy t (O 0) (O 1) (O 2) (O 3) (O 4) (O 5) (O 6) (O 7) (O 8) (O 9) (O 10) sf (X 0) (X 1) (X 2) (Y 0) (Y 1) (Y 2) (Y 3) (X 10) (X 11) (X 12) (Y 20) (Y 21) (Y 22) (Y 23) (Y 17) (xs (x3 + (1 : Int32)).toNatClampNeg) (fun _ => by rw [hn]; exact hsf.1) h1) (cwV 1 hts gL_law_X7_keep rfl rfl rfl ⟨rfl, hd_X7_keep⟩ ⟨Nat.le_of_ble_eq_true rfl, Nat.le_of_ble_eq_true rfl⟩) hK hE hP hD hS hA [0, 1, 2, 3, 4, 5, 29, 30, 31, 32, 33, 34, 50] 78 7 0 rfl rfl rfl rfl (by decide +kernel) rfl rfl hl.1 rfl (Nat.le_of_ble_eq_true rfl) dL_law_1208 ⟨Nat.le_of_ble_eq_true rfl, Nat.le_of_ble_eq_true rfl⟩ (fun H locs hP hD hS => ?_)
    refine lv_aload_n hx hb dL_law_1211 rfl (lv_at hl 2 rfl) ?_
    refine lv_aload_n hx hb dL_law_1212 rfl (lv_at hl 0 rfl) ?_
    refine lv_iload_n hx hb dL_law_1213 rfl (lv_at hl 3 rfl) ?_
    refine lv_iconst (v := (1 : Int32)) hx hb dL_law_1214 (by decide) ?_
    refine lv_iadd hx hb dL_law_1215 ?_
    refine va_sld hx hb hX hbl hbA hS b1 dL_law_1216 ?_
    refine my_Vi (WS2 := (wdL cy O M sf wy (sX (sX (sX X 10 oc.2.1) 11 oc.2.2.1) 12 oc.2.2.2.1) (sX (sX (sX (sX (sX Y 20 oc.2.2.2.2.1) 21 oc.2.2.2.2.2.1) 22 oc.2.2.2.2.2.2.1) 23 oc.2.2.2.2.2.2.2.1) 17 oc.2.2.2.2.2.2.2.2) Z V (sX x 0 om.2.1) (sX (sX (sX (sX (sX (sX (sX (sX (sX (sX y 0 om.2.2.1) 1 om.2.2.2.1) 2 om.2.2.2.2.1) 3 om.2.2.2.2.2.1) 4 om.2.2.2.2.2.2.1) 5 om.2.2.2.2.2.2.2.1) 6 om.2.2.2.2.2.2.2.2.1) 7 om.2.2.2.2.2.2.2.2.2.1) 8 om.2.2.2.2.2.2.2.2.2.2.1) 9 om.2.2.2.2.2.2.2.2.2.2.2))) ⟨hx, hb, hml, hown, hts⟩ (c_X8_keep l D cy t M (x 0) (x 1) (x 2) (x 3) (x 4) (x 5) (x 6) (x 7) (x 8) (x 9) (y 0) (y 1) (y 2) (y 3) (y 4) (y 5) (y 6) (y 7) (y 8) (y 9) (xs (x3 + (1 : Int32)).toNatClampNeg) h2) (cwV 1 hts gL_law_X8_keep rfl rfl rfl ⟨rfl, hd_X8_keep⟩ ⟨Nat.le_of_ble_eq_true rfl, Nat.le_of_ble_eq_true rfl⟩) hK hE hP hD hS hA [51, 52, 53, 54, 55, 56, 57, 58, 59, 60, 61] 78 8 0 rfl rfl rfl rfl (by decide +kernel) rfl rfl hl.1 rfl (Nat.le_of_ble_eq_true rfl) dL_law_1217 ⟨Nat.le_of_ble_eq_true rfl, Nat.le_of_ble_eq_true rfl⟩ (fun H locs hP hD hS => ?_)
    refine lv_icmp_eq (tgt := 1357) hx hb dL_law_1220 (by decide) (fun cq => ?_) (fun cq => ?_)
    on_goal 2 => exact absurd h3 cq
    obtain ⟨hne, -⟩ | ⟨s9, h9, e9, eA, eB, hkp, hsm⟩ := hsl
    · exact absurd hn (hne 0 (by decide))
    obtain rfl := slot_un h9 (by decide) (hn.symm.trans e9)
    exact kk (sX (sX (sX X 10 oc.2.1) 11 oc.2.2.1) 12 oc.2.2.2.1) (sX (sX (sX (sX (sX Y 20 oc.2.2.2.2.1) 21 oc.2.2.2.2.2.1) 22 oc.2.2.2.2.2.2.1) 23 oc.2.2.2.2.2.2.2.1) 17 oc.2.2.2.2.2.2.2.2) Z V (sX x 0 om.2.1) (sX (sX (sX (sX (sX (sX (sX (sX (sX (sX y 0 om.2.2.1) 1 om.2.2.2.1) 2 om.2.2.2.2.1) 3 om.2.2.2.2.2.1) 4 om.2.2.2.2.2.2.1) 5 om.2.2.2.2.2.2.2.1) 6 om.2.2.2.2.2.2.2.2.1) 7 om.2.2.2.2.2.2.2.2.2.1) 8 om.2.2.2.2.2.2.2.2.2.2.1) 9 om.2.2.2.2.2.2.2.2.2.2.2) H locs ⟨hIP, hIR, hIL, hIC, ⟨(congrFun eA 0).trans (pk_us.trans (pk_us.symm.trans (congrFun eB 0).symm)), Or.inr hkp⟩, SK_same (hsm 1 (by decide) (by decide)) ((congrFun eA 1).trans (pk_un (by decide))) ((congrFun eB 1).trans (pk_un (by decide))) k1, SK_same (hsm 2 (by decide) (by decide)) ((congrFun eA 2).trans (pk_un (by decide))) ((congrFun eB 2).trans (pk_un (by decide))) k2, SK_same (hsm 3 (by decide) (by decide)) ((congrFun eA 3).trans (pk_un (by decide))) ((congrFun eB 3).trans (pk_un (by decide))) k3⟩ hP hD hS
  · obtain ⟨oc, om, h1, h2, h3, hIP, hsl⟩ := op_keep hIP (X 13) (X 14) (X 15) (Y 24) (Y 25) (Y 26) (Y 27) (Y 17) (y 9) (x 0) (xs (x3 + (1 : Int32)).toNatClampNeg)
    refine lv_aload_n hx hb dL_law_1202 rfl (lv_at hl 1 rfl) ?_
    refine lv_aload_n hx hb dL_law_1203 rfl (lv_at hl 0 rfl) ?_
    refine lv_iload_n hx hb dL_law_1204 rfl (lv_at hl 3 rfl) ?_
    refine lv_iconst (v := (1 : Int32)) hx hb dL_law_1205 (by decide) ?_
    refine lv_iadd hx hb dL_law_1206 ?_
    refine va_sld hx hb hX hbl hbA hS b1 dL_law_1207 ?_
    refine my_Vi (WS2 := (wdL cy O M sf wy (sX (sX (sX X 13 oc.2.1) 14 oc.2.2.1) 15 oc.2.2.2.1) (sX (sX (sX (sX (sX Y 24 oc.2.2.2.2.1) 25 oc.2.2.2.2.2.1) 26 oc.2.2.2.2.2.2.1) 27 oc.2.2.2.2.2.2.2.1) 17 oc.2.2.2.2.2.2.2.2) Z V x y)) ⟨hx, hb, hml, hown, hts⟩ (c_X7_keep l D cy t (O 0) (O 1) (O 2) (O 3) (O 4) (O 5) (O 6) (O 7) (O 8) (O 9) (O 11) sf (X 0) (X 1) (X 2) (Y 0) (Y 1) (Y 2) (Y 3) (X 13) (X 14) (X 15) (Y 24) (Y 25) (Y 26) (Y 27) (Y 17) (xs (x3 + (1 : Int32)).toNatClampNeg) (fun _ => by rw [hn]; exact hsf.2.1) h1) (cwV 1 hts gL_law_X7_keep rfl rfl rfl ⟨rfl, hd_X7_keep⟩ ⟨Nat.le_of_ble_eq_true rfl, Nat.le_of_ble_eq_true rfl⟩) hK hE hP hD hS hA [0, 1, 2, 3, 4, 5, 29, 35, 36, 37, 38, 39, 50] 78 7 0 rfl rfl rfl rfl (by decide +kernel) rfl rfl hl.1 rfl (Nat.le_of_ble_eq_true rfl) dL_law_1208 ⟨Nat.le_of_ble_eq_true rfl, Nat.le_of_ble_eq_true rfl⟩ (fun H locs hP hD hS => ?_)
    refine lv_aload_n hx hb dL_law_1211 rfl (lv_at hl 2 rfl) ?_
    refine lv_aload_n hx hb dL_law_1212 rfl (lv_at hl 0 rfl) ?_
    refine lv_iload_n hx hb dL_law_1213 rfl (lv_at hl 3 rfl) ?_
    refine lv_iconst (v := (1 : Int32)) hx hb dL_law_1214 (by decide) ?_
    refine lv_iadd hx hb dL_law_1215 ?_
    refine va_sld hx hb hX hbl hbA hS b1 dL_law_1216 ?_
    refine my_Vi (WS2 := (wdL cy O M sf wy (sX (sX (sX X 13 oc.2.1) 14 oc.2.2.1) 15 oc.2.2.2.1) (sX (sX (sX (sX (sX Y 24 oc.2.2.2.2.1) 25 oc.2.2.2.2.2.1) 26 oc.2.2.2.2.2.2.1) 27 oc.2.2.2.2.2.2.2.1) 17 oc.2.2.2.2.2.2.2.2) Z V (sX x 0 om.2.1) (sX (sX (sX (sX (sX (sX (sX (sX (sX (sX y 0 om.2.2.1) 1 om.2.2.2.1) 2 om.2.2.2.2.1) 3 om.2.2.2.2.2.1) 4 om.2.2.2.2.2.2.1) 5 om.2.2.2.2.2.2.2.1) 6 om.2.2.2.2.2.2.2.2.1) 7 om.2.2.2.2.2.2.2.2.2.1) 8 om.2.2.2.2.2.2.2.2.2.2.1) 9 om.2.2.2.2.2.2.2.2.2.2.2))) ⟨hx, hb, hml, hown, hts⟩ (c_X8_keep l D cy t M (x 0) (x 1) (x 2) (x 3) (x 4) (x 5) (x 6) (x 7) (x 8) (x 9) (y 0) (y 1) (y 2) (y 3) (y 4) (y 5) (y 6) (y 7) (y 8) (y 9) (xs (x3 + (1 : Int32)).toNatClampNeg) h2) (cwV 1 hts gL_law_X8_keep rfl rfl rfl ⟨rfl, hd_X8_keep⟩ ⟨Nat.le_of_ble_eq_true rfl, Nat.le_of_ble_eq_true rfl⟩) hK hE hP hD hS hA [51, 52, 53, 54, 55, 56, 57, 58, 59, 60, 61] 78 8 0 rfl rfl rfl rfl (by decide +kernel) rfl rfl hl.1 rfl (Nat.le_of_ble_eq_true rfl) dL_law_1217 ⟨Nat.le_of_ble_eq_true rfl, Nat.le_of_ble_eq_true rfl⟩ (fun H locs hP hD hS => ?_)
    refine lv_icmp_eq (tgt := 1357) hx hb dL_law_1220 (by decide) (fun cq => ?_) (fun cq => ?_)
    on_goal 2 => exact absurd h3 cq
    obtain ⟨hne, -⟩ | ⟨s9, h9, e9, eA, eB, hkp, hsm⟩ := hsl
    · exact absurd hn (hne 1 (by decide))
    obtain rfl := slot_un h9 (by decide) (hn.symm.trans e9)
    exact kk (sX (sX (sX X 13 oc.2.1) 14 oc.2.2.1) 15 oc.2.2.2.1) (sX (sX (sX (sX (sX Y 24 oc.2.2.2.2.1) 25 oc.2.2.2.2.2.1) 26 oc.2.2.2.2.2.2.1) 27 oc.2.2.2.2.2.2.2.1) 17 oc.2.2.2.2.2.2.2.2) Z V (sX x 0 om.2.1) (sX (sX (sX (sX (sX (sX (sX (sX (sX (sX y 0 om.2.2.1) 1 om.2.2.2.1) 2 om.2.2.2.2.1) 3 om.2.2.2.2.2.1) 4 om.2.2.2.2.2.2.1) 5 om.2.2.2.2.2.2.2.1) 6 om.2.2.2.2.2.2.2.2.1) 7 om.2.2.2.2.2.2.2.2.2.1) 8 om.2.2.2.2.2.2.2.2.2.2.1) 9 om.2.2.2.2.2.2.2.2.2.2.2) H locs ⟨hIP, hIR, hIL, hIC, SK_same (hsm 0 (by decide) (by decide)) ((congrFun eA 0).trans (pk_un (by decide))) ((congrFun eB 0).trans (pk_un (by decide))) k0, ⟨(congrFun eA 1).trans (pk_us.trans (pk_us.symm.trans (congrFun eB 1).symm)), Or.inr hkp⟩, SK_same (hsm 2 (by decide) (by decide)) ((congrFun eA 2).trans (pk_un (by decide))) ((congrFun eB 2).trans (pk_un (by decide))) k2, SK_same (hsm 3 (by decide) (by decide)) ((congrFun eA 3).trans (pk_un (by decide))) ((congrFun eB 3).trans (pk_un (by decide))) k3⟩ hP hD hS
  · obtain ⟨oc, om, h1, h2, h3, hIP, hsl⟩ := op_keep hIP (X 16) (X 17) (X 18) (Y 28) (Y 29) (Y 30) (Y 31) (Y 17) (y 9) (x 0) (xs (x3 + (1 : Int32)).toNatClampNeg)
    refine lv_aload_n hx hb dL_law_1202 rfl (lv_at hl 1 rfl) ?_
    refine lv_aload_n hx hb dL_law_1203 rfl (lv_at hl 0 rfl) ?_
    refine lv_iload_n hx hb dL_law_1204 rfl (lv_at hl 3 rfl) ?_
    refine lv_iconst (v := (1 : Int32)) hx hb dL_law_1205 (by decide) ?_
    refine lv_iadd hx hb dL_law_1206 ?_
    refine va_sld hx hb hX hbl hbA hS b1 dL_law_1207 ?_
    refine my_Vi (WS2 := (wdL cy O M sf wy (sX (sX (sX X 16 oc.2.1) 17 oc.2.2.1) 18 oc.2.2.2.1) (sX (sX (sX (sX (sX Y 28 oc.2.2.2.2.1) 29 oc.2.2.2.2.2.1) 30 oc.2.2.2.2.2.2.1) 31 oc.2.2.2.2.2.2.2.1) 17 oc.2.2.2.2.2.2.2.2) Z V x y)) ⟨hx, hb, hml, hown, hts⟩ (c_X7_keep l D cy t (O 0) (O 1) (O 2) (O 3) (O 4) (O 5) (O 6) (O 7) (O 8) (O 9) (O 12) sf (X 0) (X 1) (X 2) (Y 0) (Y 1) (Y 2) (Y 3) (X 16) (X 17) (X 18) (Y 28) (Y 29) (Y 30) (Y 31) (Y 17) (xs (x3 + (1 : Int32)).toNatClampNeg) (fun _ => by rw [hn]; exact hsf.2.2.1) h1) (cwV 1 hts gL_law_X7_keep rfl rfl rfl ⟨rfl, hd_X7_keep⟩ ⟨Nat.le_of_ble_eq_true rfl, Nat.le_of_ble_eq_true rfl⟩) hK hE hP hD hS hA [0, 1, 2, 3, 4, 5, 29, 40, 41, 42, 43, 44, 50] 78 7 0 rfl rfl rfl rfl (by decide +kernel) rfl rfl hl.1 rfl (Nat.le_of_ble_eq_true rfl) dL_law_1208 ⟨Nat.le_of_ble_eq_true rfl, Nat.le_of_ble_eq_true rfl⟩ (fun H locs hP hD hS => ?_)
    refine lv_aload_n hx hb dL_law_1211 rfl (lv_at hl 2 rfl) ?_
    refine lv_aload_n hx hb dL_law_1212 rfl (lv_at hl 0 rfl) ?_
    refine lv_iload_n hx hb dL_law_1213 rfl (lv_at hl 3 rfl) ?_
    refine lv_iconst (v := (1 : Int32)) hx hb dL_law_1214 (by decide) ?_
    refine lv_iadd hx hb dL_law_1215 ?_
    refine va_sld hx hb hX hbl hbA hS b1 dL_law_1216 ?_
    refine my_Vi (WS2 := (wdL cy O M sf wy (sX (sX (sX X 16 oc.2.1) 17 oc.2.2.1) 18 oc.2.2.2.1) (sX (sX (sX (sX (sX Y 28 oc.2.2.2.2.1) 29 oc.2.2.2.2.2.1) 30 oc.2.2.2.2.2.2.1) 31 oc.2.2.2.2.2.2.2.1) 17 oc.2.2.2.2.2.2.2.2) Z V (sX x 0 om.2.1) (sX (sX (sX (sX (sX (sX (sX (sX (sX (sX y 0 om.2.2.1) 1 om.2.2.2.1) 2 om.2.2.2.2.1) 3 om.2.2.2.2.2.1) 4 om.2.2.2.2.2.2.1) 5 om.2.2.2.2.2.2.2.1) 6 om.2.2.2.2.2.2.2.2.1) 7 om.2.2.2.2.2.2.2.2.2.1) 8 om.2.2.2.2.2.2.2.2.2.2.1) 9 om.2.2.2.2.2.2.2.2.2.2.2))) ⟨hx, hb, hml, hown, hts⟩ (c_X8_keep l D cy t M (x 0) (x 1) (x 2) (x 3) (x 4) (x 5) (x 6) (x 7) (x 8) (x 9) (y 0) (y 1) (y 2) (y 3) (y 4) (y 5) (y 6) (y 7) (y 8) (y 9) (xs (x3 + (1 : Int32)).toNatClampNeg) h2) (cwV 1 hts gL_law_X8_keep rfl rfl rfl ⟨rfl, hd_X8_keep⟩ ⟨Nat.le_of_ble_eq_true rfl, Nat.le_of_ble_eq_true rfl⟩) hK hE hP hD hS hA [51, 52, 53, 54, 55, 56, 57, 58, 59, 60, 61] 78 8 0 rfl rfl rfl rfl (by decide +kernel) rfl rfl hl.1 rfl (Nat.le_of_ble_eq_true rfl) dL_law_1217 ⟨Nat.le_of_ble_eq_true rfl, Nat.le_of_ble_eq_true rfl⟩ (fun H locs hP hD hS => ?_)
    refine lv_icmp_eq (tgt := 1357) hx hb dL_law_1220 (by decide) (fun cq => ?_) (fun cq => ?_)
    on_goal 2 => exact absurd h3 cq
    obtain ⟨hne, -⟩ | ⟨s9, h9, e9, eA, eB, hkp, hsm⟩ := hsl
    · exact absurd hn (hne 2 (by decide))
    obtain rfl := slot_un h9 (by decide) (hn.symm.trans e9)
    exact kk (sX (sX (sX X 16 oc.2.1) 17 oc.2.2.1) 18 oc.2.2.2.1) (sX (sX (sX (sX (sX Y 28 oc.2.2.2.2.1) 29 oc.2.2.2.2.2.1) 30 oc.2.2.2.2.2.2.1) 31 oc.2.2.2.2.2.2.2.1) 17 oc.2.2.2.2.2.2.2.2) Z V (sX x 0 om.2.1) (sX (sX (sX (sX (sX (sX (sX (sX (sX (sX y 0 om.2.2.1) 1 om.2.2.2.1) 2 om.2.2.2.2.1) 3 om.2.2.2.2.2.1) 4 om.2.2.2.2.2.2.1) 5 om.2.2.2.2.2.2.2.1) 6 om.2.2.2.2.2.2.2.2.1) 7 om.2.2.2.2.2.2.2.2.2.1) 8 om.2.2.2.2.2.2.2.2.2.2.1) 9 om.2.2.2.2.2.2.2.2.2.2.2) H locs ⟨hIP, hIR, hIL, hIC, SK_same (hsm 0 (by decide) (by decide)) ((congrFun eA 0).trans (pk_un (by decide))) ((congrFun eB 0).trans (pk_un (by decide))) k0, SK_same (hsm 1 (by decide) (by decide)) ((congrFun eA 1).trans (pk_un (by decide))) ((congrFun eB 1).trans (pk_un (by decide))) k1, ⟨(congrFun eA 2).trans (pk_us.trans (pk_us.symm.trans (congrFun eB 2).symm)), Or.inr hkp⟩, SK_same (hsm 3 (by decide) (by decide)) ((congrFun eA 3).trans (pk_un (by decide))) ((congrFun eB 3).trans (pk_un (by decide))) k3⟩ hP hD hS
  · obtain ⟨oc, om, h1, h2, h3, hIP, hsl⟩ := op_keep hIP (X 19) (X 20) (X 21) (Y 32) (Y 33) (Y 34) (Y 35) (Y 17) (y 9) (x 0) (xs (x3 + (1 : Int32)).toNatClampNeg)
    refine lv_aload_n hx hb dL_law_1202 rfl (lv_at hl 1 rfl) ?_
    refine lv_aload_n hx hb dL_law_1203 rfl (lv_at hl 0 rfl) ?_
    refine lv_iload_n hx hb dL_law_1204 rfl (lv_at hl 3 rfl) ?_
    refine lv_iconst (v := (1 : Int32)) hx hb dL_law_1205 (by decide) ?_
    refine lv_iadd hx hb dL_law_1206 ?_
    refine va_sld hx hb hX hbl hbA hS b1 dL_law_1207 ?_
    refine my_Vi (WS2 := (wdL cy O M sf wy (sX (sX (sX X 19 oc.2.1) 20 oc.2.2.1) 21 oc.2.2.2.1) (sX (sX (sX (sX (sX Y 32 oc.2.2.2.2.1) 33 oc.2.2.2.2.2.1) 34 oc.2.2.2.2.2.2.1) 35 oc.2.2.2.2.2.2.2.1) 17 oc.2.2.2.2.2.2.2.2) Z V x y)) ⟨hx, hb, hml, hown, hts⟩ (c_X7_keep l D cy t (O 0) (O 1) (O 2) (O 3) (O 4) (O 5) (O 6) (O 7) (O 8) (O 9) (O 13) sf (X 0) (X 1) (X 2) (Y 0) (Y 1) (Y 2) (Y 3) (X 19) (X 20) (X 21) (Y 32) (Y 33) (Y 34) (Y 35) (Y 17) (xs (x3 + (1 : Int32)).toNatClampNeg) (fun _ => by rw [hn]; exact hsf.2.2.2) h1) (cwV 1 hts gL_law_X7_keep rfl rfl rfl ⟨rfl, hd_X7_keep⟩ ⟨Nat.le_of_ble_eq_true rfl, Nat.le_of_ble_eq_true rfl⟩) hK hE hP hD hS hA [0, 1, 2, 3, 4, 5, 29, 45, 46, 47, 48, 49, 50] 78 7 0 rfl rfl rfl rfl (by decide +kernel) rfl rfl hl.1 rfl (Nat.le_of_ble_eq_true rfl) dL_law_1208 ⟨Nat.le_of_ble_eq_true rfl, Nat.le_of_ble_eq_true rfl⟩ (fun H locs hP hD hS => ?_)
    refine lv_aload_n hx hb dL_law_1211 rfl (lv_at hl 2 rfl) ?_
    refine lv_aload_n hx hb dL_law_1212 rfl (lv_at hl 0 rfl) ?_
    refine lv_iload_n hx hb dL_law_1213 rfl (lv_at hl 3 rfl) ?_
    refine lv_iconst (v := (1 : Int32)) hx hb dL_law_1214 (by decide) ?_
    refine lv_iadd hx hb dL_law_1215 ?_
    refine va_sld hx hb hX hbl hbA hS b1 dL_law_1216 ?_
    refine my_Vi (WS2 := (wdL cy O M sf wy (sX (sX (sX X 19 oc.2.1) 20 oc.2.2.1) 21 oc.2.2.2.1) (sX (sX (sX (sX (sX Y 32 oc.2.2.2.2.1) 33 oc.2.2.2.2.2.1) 34 oc.2.2.2.2.2.2.1) 35 oc.2.2.2.2.2.2.2.1) 17 oc.2.2.2.2.2.2.2.2) Z V (sX x 0 om.2.1) (sX (sX (sX (sX (sX (sX (sX (sX (sX (sX y 0 om.2.2.1) 1 om.2.2.2.1) 2 om.2.2.2.2.1) 3 om.2.2.2.2.2.1) 4 om.2.2.2.2.2.2.1) 5 om.2.2.2.2.2.2.2.1) 6 om.2.2.2.2.2.2.2.2.1) 7 om.2.2.2.2.2.2.2.2.2.1) 8 om.2.2.2.2.2.2.2.2.2.2.1) 9 om.2.2.2.2.2.2.2.2.2.2.2))) ⟨hx, hb, hml, hown, hts⟩ (c_X8_keep l D cy t M (x 0) (x 1) (x 2) (x 3) (x 4) (x 5) (x 6) (x 7) (x 8) (x 9) (y 0) (y 1) (y 2) (y 3) (y 4) (y 5) (y 6) (y 7) (y 8) (y 9) (xs (x3 + (1 : Int32)).toNatClampNeg) h2) (cwV 1 hts gL_law_X8_keep rfl rfl rfl ⟨rfl, hd_X8_keep⟩ ⟨Nat.le_of_ble_eq_true rfl, Nat.le_of_ble_eq_true rfl⟩) hK hE hP hD hS hA [51, 52, 53, 54, 55, 56, 57, 58, 59, 60, 61] 78 8 0 rfl rfl rfl rfl (by decide +kernel) rfl rfl hl.1 rfl (Nat.le_of_ble_eq_true rfl) dL_law_1217 ⟨Nat.le_of_ble_eq_true rfl, Nat.le_of_ble_eq_true rfl⟩ (fun H locs hP hD hS => ?_)
    refine lv_icmp_eq (tgt := 1357) hx hb dL_law_1220 (by decide) (fun cq => ?_) (fun cq => ?_)
    on_goal 2 => exact absurd h3 cq
    obtain ⟨hne, -⟩ | ⟨s9, h9, e9, eA, eB, hkp, hsm⟩ := hsl
    · exact absurd hn (hne 3 (by decide))
    obtain rfl := slot_un h9 (by decide) (hn.symm.trans e9)
    exact kk (sX (sX (sX X 19 oc.2.1) 20 oc.2.2.1) 21 oc.2.2.2.1) (sX (sX (sX (sX (sX Y 32 oc.2.2.2.2.1) 33 oc.2.2.2.2.2.1) 34 oc.2.2.2.2.2.2.1) 35 oc.2.2.2.2.2.2.2.1) 17 oc.2.2.2.2.2.2.2.2) Z V (sX x 0 om.2.1) (sX (sX (sX (sX (sX (sX (sX (sX (sX (sX y 0 om.2.2.1) 1 om.2.2.2.1) 2 om.2.2.2.2.1) 3 om.2.2.2.2.2.1) 4 om.2.2.2.2.2.2.1) 5 om.2.2.2.2.2.2.2.1) 6 om.2.2.2.2.2.2.2.2.1) 7 om.2.2.2.2.2.2.2.2.2.1) 8 om.2.2.2.2.2.2.2.2.2.2.1) 9 om.2.2.2.2.2.2.2.2.2.2.2) H locs ⟨hIP, hIR, hIL, hIC, SK_same (hsm 0 (by decide) (by decide)) ((congrFun eA 0).trans (pk_un (by decide))) ((congrFun eB 0).trans (pk_un (by decide))) k0, SK_same (hsm 1 (by decide) (by decide)) ((congrFun eA 1).trans (pk_un (by decide))) ((congrFun eB 1).trans (pk_un (by decide))) k1, SK_same (hsm 2 (by decide) (by decide)) ((congrFun eA 2).trans (pk_un (by decide))) ((congrFun eB 2).trans (pk_un (by decide))) k2, ⟨(congrFun eA 3).trans (pk_us.trans (pk_us.symm.trans (congrFun eB 3).symm)), Or.inr hkp⟩⟩ hP hD hS

set_option maxHeartbeats 4000000 in
set_option maxRecDepth 100000 in
theorem law_c26 {p : Program} {l : Launch} {e : Env} {s : State} {m : MethodId} {below : List Frame} {meth : Method} {c : Code} {Q : State → Prop} {D : va_G} {cy : Nat → ClassId} {t : Nat → Nat} {O : Nat → Nat → Nat} {M : Nat → Nat} {sf : Nat → Option Nat} {wy : Nat → Int64} {X : Nat → Int32} {Y : Nat → Nat → Int32} {Z : Nat → Nat → Int64} {V : Nat → Int64} {x : Nat → Int32} {y : Nat → Nat → Int32} {b L i : Nat} {xs : Nat → Int32} {x3 : Int32} {H : Heap} {locs : List Loc} {ls : Array Slot} (C0 : lw_At p s m meth c b L xs) (hL : L ≤ 3072) (hi : i + 6 ≤ L) (ex : x3 = nI i) (hsf : sf 0 = some (O 10 0) ∧ sf 1 = some (O 11 0) ∧ sf 2 = some (O 12 0) ∧ sf 3 = some (O 13 0)) (hK : va_K D vwCl (TYS cy) s) (hE : EV t (LA s) s s.heap) (hIW : InvW wy) (hInv : LInv X Y x y) (hP : va_P D vwCl (wdL cy O M sf wy X Y Z V x y) H) (hD : va_D (LA s) (wdL cy O M sf wy X Y Z V x y)) (hS : va_S (LA s) s.heap H locs) (hl : lv_has ls 4 [(0, .ref b), (1, .ref (O 0 0)), (2, .ref (M 0)), (3, .int x3)]) (kk : ∀ (X : Nat → Int32) (Y : Nat → Nat → Int32) (Z : Nat → Nat → Int64) (V : Nat → Int64) (x : Nat → Int32) (y : Nat → Nat → Int32) (H : Heap) (locs : List Loc), LInv X Y x y → va_P D vwCl (wdL cy O M sf wy X Y Z V x y) H → va_D (LA s) (wdL cy O M sf wy X Y Z V x y) → va_S (LA s) s.heap H locs → W p l e room_1 s m #[Value.ref b] below meth c H locs 78 18884 Q (F0 m 1357 ls [])) : W p l e room_1 s m #[Value.ref b] below meth c H locs 78 18884 Q (F0 m 1225 ls []) := by
  obtain ⟨hx, hb, hr, hml, hown, hts0, hX, hbl, hlocks, hgv⟩ := C0
  have hts : ∀ w ∈ wsL_law, w.before #[Value.ref b] s = true := fun w h => hts0 w (wsL_in w h)
  have hA : ∀ q : Nat, s.heap.size ≤ q → LA s q := fun _ h => h
  have hbA : ¬ LA s b := Nat.not_le.mpr hbl
  obtain ⟨hIP, hIR, hIL, hIC, k0, k1, k2, k3⟩ := hInv
  have b1 : vp_in (x3 + (1 : Int32)) L := by rw [ex, show nI i + (1 : Int32) = nI (i + 1) from nI_add i 1]; exact vp_in_nI (by omega) (by omega)
  rcases slot_or (xs (x3 + (1 : Int32)).toNatClampNeg) with hn | hn | hn | hn | hn
  · obtain ⟨oc, om, h1, h2, h3, hIP, hIR, hsm⟩ := op_again (w1 := X 10) (h1 := X 11) (n1 := X 12) (ru1 := Y 20) (pr1 := Y 21) (lf1 := Y 22) (lt1 := Y 23) (kept := Y 17) (isKept := y 9) hIP hIR (x 0) (xs (x3 + (1 : Int32)).toNatClampNeg) (fun s9 h9 e9 => absurd (by rw [e9]; exact vp_in_nI h9 (by decide)) hn)
    refine lv_aload_n hx hb dL_law_1225 rfl (lv_at hl 1 rfl) ?_
    refine lv_aload_n hx hb dL_law_1226 rfl (lv_at hl 0 rfl) ?_
    refine lv_iload_n hx hb dL_law_1227 rfl (lv_at hl 3 rfl) ?_
    refine lv_iconst (v := (1 : Int32)) hx hb dL_law_1228 (by decide) ?_
    refine lv_iadd hx hb dL_law_1229 ?_
    refine va_sld hx hb hX hbl hbA hS b1 dL_law_1230 ?_
    refine my_Vi (WS2 := (wdL cy O M sf wy (sX (sX (sX (sX X 0 oc.2.1) 1 oc.2.2.1) 2 oc.2.2.2.1) 3 oc.2.2.2.2.2.2.2.2) (sX (sX (sX (sX Y 0 oc.2.2.2.2.1) 1 oc.2.2.2.2.2.1) 2 oc.2.2.2.2.2.2.1) 3 oc.2.2.2.2.2.2.2.1) Z V x y)) ⟨hx, hb, hml, hown, hts⟩ (c_X7_again l D cy t (O 0) (O 1) (O 2) (O 3) (O 4) (O 5) (O 6) (O 7) (O 8) (O 9) (O 10) sf (X 0) (X 1) (X 2) (Y 0) (Y 1) (Y 2) (Y 3) (X 3) (X 10) (X 11) (X 12) (Y 20) (Y 21) (Y 22) (Y 23) (Y 17) (xs (x3 + (1 : Int32)).toNatClampNeg) (fun h9 => absurd h9 hn) h1) (cwV 1 hts gL_law_X7_again rfl rfl rfl ⟨rfl, hd_X7_again⟩ ⟨Nat.le_of_ble_eq_true rfl, Nat.le_of_ble_eq_true rfl⟩) hK hE hP hD hS hA [0, 1, 2, 3, 4, 5, 9, 29, 30, 31, 32, 33, 34, 50] 78 7 0 rfl rfl rfl rfl (by decide +kernel) rfl rfl hl.1 rfl (Nat.le_of_ble_eq_true rfl) dL_law_1231 ⟨Nat.le_of_ble_eq_true rfl, Nat.le_of_ble_eq_true rfl⟩ (fun H locs hP hD hS => ?_)
    refine lv_aload_n hx hb dL_law_1234 rfl (lv_at hl 2 rfl) ?_
    refine lv_aload_n hx hb dL_law_1235 rfl (lv_at hl 0 rfl) ?_
    refine lv_iload_n hx hb dL_law_1236 rfl (lv_at hl 3 rfl) ?_
    refine lv_iconst (v := (1 : Int32)) hx hb dL_law_1237 (by decide) ?_
    refine lv_iadd hx hb dL_law_1238 ?_
    refine va_sld hx hb hX hbl hbA hS b1 dL_law_1239 ?_
    refine my_Vi (WS2 := (wdL cy O M sf wy (sX (sX (sX (sX X 0 oc.2.1) 1 oc.2.2.1) 2 oc.2.2.2.1) 3 oc.2.2.2.2.2.2.2.2) (sX (sX (sX (sX Y 0 oc.2.2.2.2.1) 1 oc.2.2.2.2.2.1) 2 oc.2.2.2.2.2.2.1) 3 oc.2.2.2.2.2.2.2.1) Z V (sX x 0 om.2.1) (sX (sX (sX (sX (sX (sX (sX (sX (sX y 0 om.2.2.1) 1 om.2.2.2.1) 2 om.2.2.2.2.1) 3 om.2.2.2.2.2.1) 4 om.2.2.2.2.2.2.1) 5 om.2.2.2.2.2.2.2.1) 6 om.2.2.2.2.2.2.2.2.1) 7 om.2.2.2.2.2.2.2.2.2.1) 8 om.2.2.2.2.2.2.2.2.2.2))) ⟨hx, hb, hml, hown, hts⟩ (c_X8_again l D cy t M (x 0) (x 1) (x 2) (x 3) (x 4) (x 5) (x 6) (x 7) (x 8) (x 9) (y 0) (y 1) (y 2) (y 3) (y 4) (y 5) (y 6) (y 7) (y 8) (y 9) (xs (x3 + (1 : Int32)).toNatClampNeg) h2) (cwV 1 hts gL_law_X8_again rfl rfl rfl ⟨rfl, hd_X8_again⟩ ⟨Nat.le_of_ble_eq_true rfl, Nat.le_of_ble_eq_true rfl⟩) hK hE hP hD hS hA [51, 52, 53, 54, 55, 56, 57, 58, 59, 60, 61] 78 8 0 rfl rfl rfl rfl (by decide +kernel) rfl rfl hl.1 rfl (Nat.le_of_ble_eq_true rfl) dL_law_1240 ⟨Nat.le_of_ble_eq_true rfl, Nat.le_of_ble_eq_true rfl⟩ (fun H locs hP hD hS => ?_)
    refine lv_icmp_eq (tgt := 1357) hx hb dL_law_1243 (by decide) (fun cq => ?_) (fun cq => ?_)
    on_goal 2 => exact absurd h3 cq
    exact kk (sX (sX (sX (sX X 0 oc.2.1) 1 oc.2.2.1) 2 oc.2.2.2.1) 3 oc.2.2.2.2.2.2.2.2) (sX (sX (sX (sX Y 0 oc.2.2.2.2.1) 1 oc.2.2.2.2.2.1) 2 oc.2.2.2.2.2.2.1) 3 oc.2.2.2.2.2.2.2.1) Z V (sX x 0 om.2.1) (sX (sX (sX (sX (sX (sX (sX (sX (sX y 0 om.2.2.1) 1 om.2.2.2.1) 2 om.2.2.2.2.1) 3 om.2.2.2.2.2.1) 4 om.2.2.2.2.2.2.1) 5 om.2.2.2.2.2.2.2.1) 6 om.2.2.2.2.2.2.2.2.1) 7 om.2.2.2.2.2.2.2.2.2.1) 8 om.2.2.2.2.2.2.2.2.2.2) H locs ⟨hIP, hIR, hIL, hIC, SK_same (hsm 0 (by decide)) rfl rfl k0, SK_same (hsm 1 (by decide)) rfl rfl k1, SK_same (hsm 2 (by decide)) rfl rfl k2, SK_same (hsm 3 (by decide)) rfl rfl k3⟩ hP hD hS
  · obtain ⟨oc, om, h1, h2, h3, hIP, hIR, hsm⟩ := op_again (w1 := X 10) (h1 := X 11) (n1 := X 12) (ru1 := Y 20) (pr1 := Y 21) (lf1 := Y 22) (lt1 := Y 23) (kept := Y 17) (isKept := y 9) hIP hIR (x 0) (xs (x3 + (1 : Int32)).toNatClampNeg) (fun s9 h9 e9 => by obtain rfl := slot_un h9 (by decide) (hn.symm.trans e9); exact k0)
    refine lv_aload_n hx hb dL_law_1225 rfl (lv_at hl 1 rfl) ?_
    refine lv_aload_n hx hb dL_law_1226 rfl (lv_at hl 0 rfl) ?_
    refine lv_iload_n hx hb dL_law_1227 rfl (lv_at hl 3 rfl) ?_
    refine lv_iconst (v := (1 : Int32)) hx hb dL_law_1228 (by decide) ?_
    refine lv_iadd hx hb dL_law_1229 ?_
    refine va_sld hx hb hX hbl hbA hS b1 dL_law_1230 ?_
    refine my_Vi (WS2 := (wdL cy O M sf wy (sX (sX (sX (sX X 0 oc.2.1) 1 oc.2.2.1) 2 oc.2.2.2.1) 3 oc.2.2.2.2.2.2.2.2) (sX (sX (sX (sX Y 0 oc.2.2.2.2.1) 1 oc.2.2.2.2.2.1) 2 oc.2.2.2.2.2.2.1) 3 oc.2.2.2.2.2.2.2.1) Z V x y)) ⟨hx, hb, hml, hown, hts⟩ (c_X7_again l D cy t (O 0) (O 1) (O 2) (O 3) (O 4) (O 5) (O 6) (O 7) (O 8) (O 9) (O 10) sf (X 0) (X 1) (X 2) (Y 0) (Y 1) (Y 2) (Y 3) (X 3) (X 10) (X 11) (X 12) (Y 20) (Y 21) (Y 22) (Y 23) (Y 17) (xs (x3 + (1 : Int32)).toNatClampNeg) (fun _ => by rw [hn]; exact hsf.1) h1) (cwV 1 hts gL_law_X7_again rfl rfl rfl ⟨rfl, hd_X7_again⟩ ⟨Nat.le_of_ble_eq_true rfl, Nat.le_of_ble_eq_true rfl⟩) hK hE hP hD hS hA [0, 1, 2, 3, 4, 5, 9, 29, 30, 31, 32, 33, 34, 50] 78 7 0 rfl rfl rfl rfl (by decide +kernel) rfl rfl hl.1 rfl (Nat.le_of_ble_eq_true rfl) dL_law_1231 ⟨Nat.le_of_ble_eq_true rfl, Nat.le_of_ble_eq_true rfl⟩ (fun H locs hP hD hS => ?_)
    refine lv_aload_n hx hb dL_law_1234 rfl (lv_at hl 2 rfl) ?_
    refine lv_aload_n hx hb dL_law_1235 rfl (lv_at hl 0 rfl) ?_
    refine lv_iload_n hx hb dL_law_1236 rfl (lv_at hl 3 rfl) ?_
    refine lv_iconst (v := (1 : Int32)) hx hb dL_law_1237 (by decide) ?_
    refine lv_iadd hx hb dL_law_1238 ?_
    refine va_sld hx hb hX hbl hbA hS b1 dL_law_1239 ?_
    refine my_Vi (WS2 := (wdL cy O M sf wy (sX (sX (sX (sX X 0 oc.2.1) 1 oc.2.2.1) 2 oc.2.2.2.1) 3 oc.2.2.2.2.2.2.2.2) (sX (sX (sX (sX Y 0 oc.2.2.2.2.1) 1 oc.2.2.2.2.2.1) 2 oc.2.2.2.2.2.2.1) 3 oc.2.2.2.2.2.2.2.1) Z V (sX x 0 om.2.1) (sX (sX (sX (sX (sX (sX (sX (sX (sX y 0 om.2.2.1) 1 om.2.2.2.1) 2 om.2.2.2.2.1) 3 om.2.2.2.2.2.1) 4 om.2.2.2.2.2.2.1) 5 om.2.2.2.2.2.2.2.1) 6 om.2.2.2.2.2.2.2.2.1) 7 om.2.2.2.2.2.2.2.2.2.1) 8 om.2.2.2.2.2.2.2.2.2.2))) ⟨hx, hb, hml, hown, hts⟩ (c_X8_again l D cy t M (x 0) (x 1) (x 2) (x 3) (x 4) (x 5) (x 6) (x 7) (x 8) (x 9) (y 0) (y 1) (y 2) (y 3) (y 4) (y 5) (y 6) (y 7) (y 8) (y 9) (xs (x3 + (1 : Int32)).toNatClampNeg) h2) (cwV 1 hts gL_law_X8_again rfl rfl rfl ⟨rfl, hd_X8_again⟩ ⟨Nat.le_of_ble_eq_true rfl, Nat.le_of_ble_eq_true rfl⟩) hK hE hP hD hS hA [51, 52, 53, 54, 55, 56, 57, 58, 59, 60, 61] 78 8 0 rfl rfl rfl rfl (by decide +kernel) rfl rfl hl.1 rfl (Nat.le_of_ble_eq_true rfl) dL_law_1240 ⟨Nat.le_of_ble_eq_true rfl, Nat.le_of_ble_eq_true rfl⟩ (fun H locs hP hD hS => ?_)
    refine lv_icmp_eq (tgt := 1357) hx hb dL_law_1243 (by decide) (fun cq => ?_) (fun cq => ?_)
    on_goal 2 => exact absurd h3 cq
    exact kk (sX (sX (sX (sX X 0 oc.2.1) 1 oc.2.2.1) 2 oc.2.2.2.1) 3 oc.2.2.2.2.2.2.2.2) (sX (sX (sX (sX Y 0 oc.2.2.2.2.1) 1 oc.2.2.2.2.2.1) 2 oc.2.2.2.2.2.2.1) 3 oc.2.2.2.2.2.2.2.1) Z V (sX x 0 om.2.1) (sX (sX (sX (sX (sX (sX (sX (sX (sX y 0 om.2.2.1) 1 om.2.2.2.1) 2 om.2.2.2.2.1) 3 om.2.2.2.2.2.1) 4 om.2.2.2.2.2.2.1) 5 om.2.2.2.2.2.2.2.1) 6 om.2.2.2.2.2.2.2.2.1) 7 om.2.2.2.2.2.2.2.2.2.1) 8 om.2.2.2.2.2.2.2.2.2.2) H locs ⟨hIP, hIR, hIL, hIC, SK_same (hsm 0 (by decide)) rfl rfl k0, SK_same (hsm 1 (by decide)) rfl rfl k1, SK_same (hsm 2 (by decide)) rfl rfl k2, SK_same (hsm 3 (by decide)) rfl rfl k3⟩ hP hD hS
  · obtain ⟨oc, om, h1, h2, h3, hIP, hIR, hsm⟩ := op_again (w1 := X 13) (h1 := X 14) (n1 := X 15) (ru1 := Y 24) (pr1 := Y 25) (lf1 := Y 26) (lt1 := Y 27) (kept := Y 17) (isKept := y 9) hIP hIR (x 0) (xs (x3 + (1 : Int32)).toNatClampNeg) (fun s9 h9 e9 => by obtain rfl := slot_un h9 (by decide) (hn.symm.trans e9); exact k1)
    refine lv_aload_n hx hb dL_law_1225 rfl (lv_at hl 1 rfl) ?_
    refine lv_aload_n hx hb dL_law_1226 rfl (lv_at hl 0 rfl) ?_
    refine lv_iload_n hx hb dL_law_1227 rfl (lv_at hl 3 rfl) ?_
    refine lv_iconst (v := (1 : Int32)) hx hb dL_law_1228 (by decide) ?_
    refine lv_iadd hx hb dL_law_1229 ?_
    refine va_sld hx hb hX hbl hbA hS b1 dL_law_1230 ?_
    refine my_Vi (WS2 := (wdL cy O M sf wy (sX (sX (sX (sX X 0 oc.2.1) 1 oc.2.2.1) 2 oc.2.2.2.1) 3 oc.2.2.2.2.2.2.2.2) (sX (sX (sX (sX Y 0 oc.2.2.2.2.1) 1 oc.2.2.2.2.2.1) 2 oc.2.2.2.2.2.2.1) 3 oc.2.2.2.2.2.2.2.1) Z V x y)) ⟨hx, hb, hml, hown, hts⟩ (c_X7_again l D cy t (O 0) (O 1) (O 2) (O 3) (O 4) (O 5) (O 6) (O 7) (O 8) (O 9) (O 11) sf (X 0) (X 1) (X 2) (Y 0) (Y 1) (Y 2) (Y 3) (X 3) (X 13) (X 14) (X 15) (Y 24) (Y 25) (Y 26) (Y 27) (Y 17) (xs (x3 + (1 : Int32)).toNatClampNeg) (fun _ => by rw [hn]; exact hsf.2.1) h1) (cwV 1 hts gL_law_X7_again rfl rfl rfl ⟨rfl, hd_X7_again⟩ ⟨Nat.le_of_ble_eq_true rfl, Nat.le_of_ble_eq_true rfl⟩) hK hE hP hD hS hA [0, 1, 2, 3, 4, 5, 9, 29, 35, 36, 37, 38, 39, 50] 78 7 0 rfl rfl rfl rfl (by decide +kernel) rfl rfl hl.1 rfl (Nat.le_of_ble_eq_true rfl) dL_law_1231 ⟨Nat.le_of_ble_eq_true rfl, Nat.le_of_ble_eq_true rfl⟩ (fun H locs hP hD hS => ?_)
    refine lv_aload_n hx hb dL_law_1234 rfl (lv_at hl 2 rfl) ?_
    refine lv_aload_n hx hb dL_law_1235 rfl (lv_at hl 0 rfl) ?_
    refine lv_iload_n hx hb dL_law_1236 rfl (lv_at hl 3 rfl) ?_
    refine lv_iconst (v := (1 : Int32)) hx hb dL_law_1237 (by decide) ?_
    refine lv_iadd hx hb dL_law_1238 ?_
    refine va_sld hx hb hX hbl hbA hS b1 dL_law_1239 ?_
    refine my_Vi (WS2 := (wdL cy O M sf wy (sX (sX (sX (sX X 0 oc.2.1) 1 oc.2.2.1) 2 oc.2.2.2.1) 3 oc.2.2.2.2.2.2.2.2) (sX (sX (sX (sX Y 0 oc.2.2.2.2.1) 1 oc.2.2.2.2.2.1) 2 oc.2.2.2.2.2.2.1) 3 oc.2.2.2.2.2.2.2.1) Z V (sX x 0 om.2.1) (sX (sX (sX (sX (sX (sX (sX (sX (sX y 0 om.2.2.1) 1 om.2.2.2.1) 2 om.2.2.2.2.1) 3 om.2.2.2.2.2.1) 4 om.2.2.2.2.2.2.1) 5 om.2.2.2.2.2.2.2.1) 6 om.2.2.2.2.2.2.2.2.1) 7 om.2.2.2.2.2.2.2.2.2.1) 8 om.2.2.2.2.2.2.2.2.2.2))) ⟨hx, hb, hml, hown, hts⟩ (c_X8_again l D cy t M (x 0) (x 1) (x 2) (x 3) (x 4) (x 5) (x 6) (x 7) (x 8) (x 9) (y 0) (y 1) (y 2) (y 3) (y 4) (y 5) (y 6) (y 7) (y 8) (y 9) (xs (x3 + (1 : Int32)).toNatClampNeg) h2) (cwV 1 hts gL_law_X8_again rfl rfl rfl ⟨rfl, hd_X8_again⟩ ⟨Nat.le_of_ble_eq_true rfl, Nat.le_of_ble_eq_true rfl⟩) hK hE hP hD hS hA [51, 52, 53, 54, 55, 56, 57, 58, 59, 60, 61] 78 8 0 rfl rfl rfl rfl (by decide +kernel) rfl rfl hl.1 rfl (Nat.le_of_ble_eq_true rfl) dL_law_1240 ⟨Nat.le_of_ble_eq_true rfl, Nat.le_of_ble_eq_true rfl⟩ (fun H locs hP hD hS => ?_)
    refine lv_icmp_eq (tgt := 1357) hx hb dL_law_1243 (by decide) (fun cq => ?_) (fun cq => ?_)
    on_goal 2 => exact absurd h3 cq
    exact kk (sX (sX (sX (sX X 0 oc.2.1) 1 oc.2.2.1) 2 oc.2.2.2.1) 3 oc.2.2.2.2.2.2.2.2) (sX (sX (sX (sX Y 0 oc.2.2.2.2.1) 1 oc.2.2.2.2.2.1) 2 oc.2.2.2.2.2.2.1) 3 oc.2.2.2.2.2.2.2.1) Z V (sX x 0 om.2.1) (sX (sX (sX (sX (sX (sX (sX (sX (sX y 0 om.2.2.1) 1 om.2.2.2.1) 2 om.2.2.2.2.1) 3 om.2.2.2.2.2.1) 4 om.2.2.2.2.2.2.1) 5 om.2.2.2.2.2.2.2.1) 6 om.2.2.2.2.2.2.2.2.1) 7 om.2.2.2.2.2.2.2.2.2.1) 8 om.2.2.2.2.2.2.2.2.2.2) H locs ⟨hIP, hIR, hIL, hIC, SK_same (hsm 0 (by decide)) rfl rfl k0, SK_same (hsm 1 (by decide)) rfl rfl k1, SK_same (hsm 2 (by decide)) rfl rfl k2, SK_same (hsm 3 (by decide)) rfl rfl k3⟩ hP hD hS
  · obtain ⟨oc, om, h1, h2, h3, hIP, hIR, hsm⟩ := op_again (w1 := X 16) (h1 := X 17) (n1 := X 18) (ru1 := Y 28) (pr1 := Y 29) (lf1 := Y 30) (lt1 := Y 31) (kept := Y 17) (isKept := y 9) hIP hIR (x 0) (xs (x3 + (1 : Int32)).toNatClampNeg) (fun s9 h9 e9 => by obtain rfl := slot_un h9 (by decide) (hn.symm.trans e9); exact k2)
    refine lv_aload_n hx hb dL_law_1225 rfl (lv_at hl 1 rfl) ?_
    refine lv_aload_n hx hb dL_law_1226 rfl (lv_at hl 0 rfl) ?_
    refine lv_iload_n hx hb dL_law_1227 rfl (lv_at hl 3 rfl) ?_
    refine lv_iconst (v := (1 : Int32)) hx hb dL_law_1228 (by decide) ?_
    refine lv_iadd hx hb dL_law_1229 ?_
    refine va_sld hx hb hX hbl hbA hS b1 dL_law_1230 ?_
    refine my_Vi (WS2 := (wdL cy O M sf wy (sX (sX (sX (sX X 0 oc.2.1) 1 oc.2.2.1) 2 oc.2.2.2.1) 3 oc.2.2.2.2.2.2.2.2) (sX (sX (sX (sX Y 0 oc.2.2.2.2.1) 1 oc.2.2.2.2.2.1) 2 oc.2.2.2.2.2.2.1) 3 oc.2.2.2.2.2.2.2.1) Z V x y)) ⟨hx, hb, hml, hown, hts⟩ (c_X7_again l D cy t (O 0) (O 1) (O 2) (O 3) (O 4) (O 5) (O 6) (O 7) (O 8) (O 9) (O 12) sf (X 0) (X 1) (X 2) (Y 0) (Y 1) (Y 2) (Y 3) (X 3) (X 16) (X 17) (X 18) (Y 28) (Y 29) (Y 30) (Y 31) (Y 17) (xs (x3 + (1 : Int32)).toNatClampNeg) (fun _ => by rw [hn]; exact hsf.2.2.1) h1) (cwV 1 hts gL_law_X7_again rfl rfl rfl ⟨rfl, hd_X7_again⟩ ⟨Nat.le_of_ble_eq_true rfl, Nat.le_of_ble_eq_true rfl⟩) hK hE hP hD hS hA [0, 1, 2, 3, 4, 5, 9, 29, 40, 41, 42, 43, 44, 50] 78 7 0 rfl rfl rfl rfl (by decide +kernel) rfl rfl hl.1 rfl (Nat.le_of_ble_eq_true rfl) dL_law_1231 ⟨Nat.le_of_ble_eq_true rfl, Nat.le_of_ble_eq_true rfl⟩ (fun H locs hP hD hS => ?_)
    refine lv_aload_n hx hb dL_law_1234 rfl (lv_at hl 2 rfl) ?_
    refine lv_aload_n hx hb dL_law_1235 rfl (lv_at hl 0 rfl) ?_
    refine lv_iload_n hx hb dL_law_1236 rfl (lv_at hl 3 rfl) ?_
    refine lv_iconst (v := (1 : Int32)) hx hb dL_law_1237 (by decide) ?_
    refine lv_iadd hx hb dL_law_1238 ?_
    refine va_sld hx hb hX hbl hbA hS b1 dL_law_1239 ?_
    refine my_Vi (WS2 := (wdL cy O M sf wy (sX (sX (sX (sX X 0 oc.2.1) 1 oc.2.2.1) 2 oc.2.2.2.1) 3 oc.2.2.2.2.2.2.2.2) (sX (sX (sX (sX Y 0 oc.2.2.2.2.1) 1 oc.2.2.2.2.2.1) 2 oc.2.2.2.2.2.2.1) 3 oc.2.2.2.2.2.2.2.1) Z V (sX x 0 om.2.1) (sX (sX (sX (sX (sX (sX (sX (sX (sX y 0 om.2.2.1) 1 om.2.2.2.1) 2 om.2.2.2.2.1) 3 om.2.2.2.2.2.1) 4 om.2.2.2.2.2.2.1) 5 om.2.2.2.2.2.2.2.1) 6 om.2.2.2.2.2.2.2.2.1) 7 om.2.2.2.2.2.2.2.2.2.1) 8 om.2.2.2.2.2.2.2.2.2.2))) ⟨hx, hb, hml, hown, hts⟩ (c_X8_again l D cy t M (x 0) (x 1) (x 2) (x 3) (x 4) (x 5) (x 6) (x 7) (x 8) (x 9) (y 0) (y 1) (y 2) (y 3) (y 4) (y 5) (y 6) (y 7) (y 8) (y 9) (xs (x3 + (1 : Int32)).toNatClampNeg) h2) (cwV 1 hts gL_law_X8_again rfl rfl rfl ⟨rfl, hd_X8_again⟩ ⟨Nat.le_of_ble_eq_true rfl, Nat.le_of_ble_eq_true rfl⟩) hK hE hP hD hS hA [51, 52, 53, 54, 55, 56, 57, 58, 59, 60, 61] 78 8 0 rfl rfl rfl rfl (by decide +kernel) rfl rfl hl.1 rfl (Nat.le_of_ble_eq_true rfl) dL_law_1240 ⟨Nat.le_of_ble_eq_true rfl, Nat.le_of_ble_eq_true rfl⟩ (fun H locs hP hD hS => ?_)
    refine lv_icmp_eq (tgt := 1357) hx hb dL_law_1243 (by decide) (fun cq => ?_) (fun cq => ?_)
    on_goal 2 => exact absurd h3 cq
    exact kk (sX (sX (sX (sX X 0 oc.2.1) 1 oc.2.2.1) 2 oc.2.2.2.1) 3 oc.2.2.2.2.2.2.2.2) (sX (sX (sX (sX Y 0 oc.2.2.2.2.1) 1 oc.2.2.2.2.2.1) 2 oc.2.2.2.2.2.2.1) 3 oc.2.2.2.2.2.2.2.1) Z V (sX x 0 om.2.1) (sX (sX (sX (sX (sX (sX (sX (sX (sX y 0 om.2.2.1) 1 om.2.2.2.1) 2 om.2.2.2.2.1) 3 om.2.2.2.2.2.1) 4 om.2.2.2.2.2.2.1) 5 om.2.2.2.2.2.2.2.1) 6 om.2.2.2.2.2.2.2.2.1) 7 om.2.2.2.2.2.2.2.2.2.1) 8 om.2.2.2.2.2.2.2.2.2.2) H locs ⟨hIP, hIR, hIL, hIC, SK_same (hsm 0 (by decide)) rfl rfl k0, SK_same (hsm 1 (by decide)) rfl rfl k1, SK_same (hsm 2 (by decide)) rfl rfl k2, SK_same (hsm 3 (by decide)) rfl rfl k3⟩ hP hD hS
  · obtain ⟨oc, om, h1, h2, h3, hIP, hIR, hsm⟩ := op_again (w1 := X 19) (h1 := X 20) (n1 := X 21) (ru1 := Y 32) (pr1 := Y 33) (lf1 := Y 34) (lt1 := Y 35) (kept := Y 17) (isKept := y 9) hIP hIR (x 0) (xs (x3 + (1 : Int32)).toNatClampNeg) (fun s9 h9 e9 => by obtain rfl := slot_un h9 (by decide) (hn.symm.trans e9); exact k3)
    refine lv_aload_n hx hb dL_law_1225 rfl (lv_at hl 1 rfl) ?_
    refine lv_aload_n hx hb dL_law_1226 rfl (lv_at hl 0 rfl) ?_
    refine lv_iload_n hx hb dL_law_1227 rfl (lv_at hl 3 rfl) ?_
    refine lv_iconst (v := (1 : Int32)) hx hb dL_law_1228 (by decide) ?_
    refine lv_iadd hx hb dL_law_1229 ?_
    refine va_sld hx hb hX hbl hbA hS b1 dL_law_1230 ?_
    refine my_Vi (WS2 := (wdL cy O M sf wy (sX (sX (sX (sX X 0 oc.2.1) 1 oc.2.2.1) 2 oc.2.2.2.1) 3 oc.2.2.2.2.2.2.2.2) (sX (sX (sX (sX Y 0 oc.2.2.2.2.1) 1 oc.2.2.2.2.2.1) 2 oc.2.2.2.2.2.2.1) 3 oc.2.2.2.2.2.2.2.1) Z V x y)) ⟨hx, hb, hml, hown, hts⟩ (c_X7_again l D cy t (O 0) (O 1) (O 2) (O 3) (O 4) (O 5) (O 6) (O 7) (O 8) (O 9) (O 13) sf (X 0) (X 1) (X 2) (Y 0) (Y 1) (Y 2) (Y 3) (X 3) (X 19) (X 20) (X 21) (Y 32) (Y 33) (Y 34) (Y 35) (Y 17) (xs (x3 + (1 : Int32)).toNatClampNeg) (fun _ => by rw [hn]; exact hsf.2.2.2) h1) (cwV 1 hts gL_law_X7_again rfl rfl rfl ⟨rfl, hd_X7_again⟩ ⟨Nat.le_of_ble_eq_true rfl, Nat.le_of_ble_eq_true rfl⟩) hK hE hP hD hS hA [0, 1, 2, 3, 4, 5, 9, 29, 45, 46, 47, 48, 49, 50] 78 7 0 rfl rfl rfl rfl (by decide +kernel) rfl rfl hl.1 rfl (Nat.le_of_ble_eq_true rfl) dL_law_1231 ⟨Nat.le_of_ble_eq_true rfl, Nat.le_of_ble_eq_true rfl⟩ (fun H locs hP hD hS => ?_)
    refine lv_aload_n hx hb dL_law_1234 rfl (lv_at hl 2 rfl) ?_
    refine lv_aload_n hx hb dL_law_1235 rfl (lv_at hl 0 rfl) ?_
    refine lv_iload_n hx hb dL_law_1236 rfl (lv_at hl 3 rfl) ?_
    refine lv_iconst (v := (1 : Int32)) hx hb dL_law_1237 (by decide) ?_
    refine lv_iadd hx hb dL_law_1238 ?_
    refine va_sld hx hb hX hbl hbA hS b1 dL_law_1239 ?_
    refine my_Vi (WS2 := (wdL cy O M sf wy (sX (sX (sX (sX X 0 oc.2.1) 1 oc.2.2.1) 2 oc.2.2.2.1) 3 oc.2.2.2.2.2.2.2.2) (sX (sX (sX (sX Y 0 oc.2.2.2.2.1) 1 oc.2.2.2.2.2.1) 2 oc.2.2.2.2.2.2.1) 3 oc.2.2.2.2.2.2.2.1) Z V (sX x 0 om.2.1) (sX (sX (sX (sX (sX (sX (sX (sX (sX y 0 om.2.2.1) 1 om.2.2.2.1) 2 om.2.2.2.2.1) 3 om.2.2.2.2.2.1) 4 om.2.2.2.2.2.2.1) 5 om.2.2.2.2.2.2.2.1) 6 om.2.2.2.2.2.2.2.2.1) 7 om.2.2.2.2.2.2.2.2.2.1) 8 om.2.2.2.2.2.2.2.2.2.2))) ⟨hx, hb, hml, hown, hts⟩ (c_X8_again l D cy t M (x 0) (x 1) (x 2) (x 3) (x 4) (x 5) (x 6) (x 7) (x 8) (x 9) (y 0) (y 1) (y 2) (y 3) (y 4) (y 5) (y 6) (y 7) (y 8) (y 9) (xs (x3 + (1 : Int32)).toNatClampNeg) h2) (cwV 1 hts gL_law_X8_again rfl rfl rfl ⟨rfl, hd_X8_again⟩ ⟨Nat.le_of_ble_eq_true rfl, Nat.le_of_ble_eq_true rfl⟩) hK hE hP hD hS hA [51, 52, 53, 54, 55, 56, 57, 58, 59, 60, 61] 78 8 0 rfl rfl rfl rfl (by decide +kernel) rfl rfl hl.1 rfl (Nat.le_of_ble_eq_true rfl) dL_law_1240 ⟨Nat.le_of_ble_eq_true rfl, Nat.le_of_ble_eq_true rfl⟩ (fun H locs hP hD hS => ?_)
    refine lv_icmp_eq (tgt := 1357) hx hb dL_law_1243 (by decide) (fun cq => ?_) (fun cq => ?_)
    on_goal 2 => exact absurd h3 cq
    exact kk (sX (sX (sX (sX X 0 oc.2.1) 1 oc.2.2.1) 2 oc.2.2.2.1) 3 oc.2.2.2.2.2.2.2.2) (sX (sX (sX (sX Y 0 oc.2.2.2.2.1) 1 oc.2.2.2.2.2.1) 2 oc.2.2.2.2.2.2.1) 3 oc.2.2.2.2.2.2.2.1) Z V (sX x 0 om.2.1) (sX (sX (sX (sX (sX (sX (sX (sX (sX y 0 om.2.2.1) 1 om.2.2.2.1) 2 om.2.2.2.2.1) 3 om.2.2.2.2.2.1) 4 om.2.2.2.2.2.2.1) 5 om.2.2.2.2.2.2.2.1) 6 om.2.2.2.2.2.2.2.2.1) 7 om.2.2.2.2.2.2.2.2.2.1) 8 om.2.2.2.2.2.2.2.2.2.2) H locs ⟨hIP, hIR, hIL, hIC, SK_same (hsm 0 (by decide)) rfl rfl k0, SK_same (hsm 1 (by decide)) rfl rfl k1, SK_same (hsm 2 (by decide)) rfl rfl k2, SK_same (hsm 3 (by decide)) rfl rfl k3⟩ hP hD hS
