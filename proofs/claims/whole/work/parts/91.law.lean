set_option maxHeartbeats 4000000 in
set_option maxRecDepth 100000 in
theorem law_c20 {p : Program} {l : Launch} {e : Env} {s : State} {m : MethodId} {below : List Frame} {meth : Method} {c : Code} {Q : State → Prop} {D : va_G} {cy : Nat → ClassId} {t : Nat → Nat} {O : Nat → Nat → Nat} {M : Nat → Nat} {sf : Nat → Option Nat} {wy : Nat → Int64} {X : Nat → Int32} {Y : Nat → Nat → Int32} {Z : Nat → Nat → Int64} {V : Nat → Int64} {x : Nat → Int32} {y : Nat → Nat → Int32} {b L i : Nat} {xs : Nat → Int32} {x3 : Int32} {H : Heap} {locs : List Loc} {ls : Array Slot} (C0 : lw_At p s m meth c b L xs) (hL : L ≤ 3072) (hi : i + 6 ≤ L) (ex : x3 = nI i) (hsf : sf 0 = some (O 10 0) ∧ sf 1 = some (O 11 0) ∧ sf 2 = some (O 12 0) ∧ sf 3 = some (O 13 0)) (hK : va_K D vwCl (TYS cy) s) (hE : EV t (LA s) s s.heap) (hIW : InvW wy) (hInv : LInv X Y x y) (hP : va_P D vwCl (wdL cy O M sf wy X Y Z V x y) H) (hD : va_D (LA s) (wdL cy O M sf wy X Y Z V x y)) (hS : va_S (LA s) s.heap H locs) (hl : lv_has ls 4 [(0, .ref b), (1, .ref (O 0 0)), (2, .ref (M 0)), (3, .int x3)]) (kk : ∀ (X : Nat → Int32) (Y : Nat → Nat → Int32) (Z : Nat → Nat → Int64) (V : Nat → Int64) (x : Nat → Int32) (y : Nat → Nat → Int32) (H : Heap) (locs : List Loc), LInv X Y x y → va_P D vwCl (wdL cy O M sf wy X Y Z V x y) H → va_D (LA s) (wdL cy O M sf wy X Y Z V x y) → va_S (LA s) s.heap H locs → W p l e room_1 s m #[Value.ref b] below meth c H locs 78 18884 Q (F0 m 1357 ls [])) : W p l e room_1 s m #[Value.ref b] below meth c H locs 78 18884 Q (F0 m 1010 ls []) := by
  obtain ⟨hx, hb, hr, hml, hown, hts0, hX, hbl, hlocks, hgv⟩ := C0
  have hts : ∀ w ∈ wsL_law, w.before #[Value.ref b] s = true := fun w h => hts0 w (wsL_in w h)
  have hA : ∀ q : Nat, s.heap.size ≤ q → LA s q := fun _ h => h
  have hbA : ¬ LA s b := Nat.not_le.mpr hbl
  obtain ⟨hIP, hIR, hIL, hIC, k0, k1, k2, k3⟩ := hInv
  have b1 : vp_in (x3 + (1 : Int32)) L := by rw [ex, show nI i + (1 : Int32) = nI (i + 1) from nI_add i 1]; exact vp_in_nI (by omega) (by omega)
  have b2 : vp_in (x3 + (2 : Int32)) L := by rw [ex, show nI i + (2 : Int32) = nI (i + 2) from nI_add i 2]; exact vp_in_nI (by omega) (by omega)
  obtain ⟨oc, om, h1, h2, h3, hIC⟩ := op_player hIC (x 0) (xs (x3 + (1 : Int32)).toNatClampNeg) (xs (x3 + (2 : Int32)).toNatClampNeg)
  refine lv_aload_n hx hb dL_law_1010 rfl (lv_at hl 1 rfl) ?_
  refine lv_aload_n hx hb dL_law_1011 rfl (lv_at hl 0 rfl) ?_
  refine lv_iload_n hx hb dL_law_1012 rfl (lv_at hl 3 rfl) ?_
  refine lv_iconst (v := (1 : Int32)) hx hb dL_law_1013 (by decide) ?_
  refine lv_iadd hx hb dL_law_1014 ?_
  refine va_sld hx hb hX hbl hbA hS b1 dL_law_1015 ?_
  refine lv_aload_n hx hb dL_law_1016 rfl (lv_at hl 0 rfl) ?_
  refine lv_iload_n hx hb dL_law_1017 rfl (lv_at hl 3 rfl) ?_
  refine lv_iconst (v := (2 : Int32)) hx hb dL_law_1018 (by decide) ?_
  refine lv_iadd hx hb dL_law_1019 ?_
  refine va_sld hx hb hX hbl hbA hS b2 dL_law_1020 ?_
  refine my_Vi2 (WS2 := (wdL cy O M sf wy (mkA (X 0) (X 1) (X 2) (X 3) (X 4) oc.2.1 oc.2.2.1 (X 10) (X 11) (X 12) (X 13) (X 14) (X 15) (X 16) (X 17) (X 18) (X 19) (X 20) (X 21)) (mkB (Y 0) (Y 1) (Y 2) (Y 3) (Y 4) (Y 5) (Y 6) (Y 7) (Y 8) (Y 9) (Y 10) (Y 11) (Y 12) oc.2.2.2.1 oc.2.2.2.2 (Y 15) (Y 16) (Y 17) (Y 20) (Y 21) (Y 22) (Y 23) (Y 24) (Y 25) (Y 26) (Y 27) (Y 28) (Y 29) (Y 30) (Y 31) (Y 32) (Y 33) (Y 34) (Y 35)) Z V x y)) ⟨hx, hb, hml, hown, hts⟩ (c_X7_player l D cy t (O 0) (O 1) (O 2) (O 3) (O 4) (O 5) (O 6) (O 7) (O 8) (O 9) (X 5) (X 6) (Y 13) (Y 14) (xs (x3 + (1 : Int32)).toNatClampNeg) (xs (x3 + (2 : Int32)).toNatClampNeg) h1) (cwV 2 hts gL_law_X7_player rfl rfl rfl ⟨rfl, hd_X7_player⟩ ⟨Nat.le_of_ble_eq_true rfl, Nat.le_of_ble_eq_true rfl⟩) hK hE hP hD (hD.of_fst wdL_fst) hS hA [0, 20, 22, 23] 78 7 0 rfl rfl rfl rfl (by decide +kernel) rfl rfl rfl hl.1 rfl (Nat.le_of_ble_eq_true rfl) dL_law_1021 ⟨Nat.le_of_ble_eq_true rfl, Nat.le_of_ble_eq_true rfl⟩ (fun H locs hP hD hS => ?_)
  refine lv_aload_n hx hb dL_law_1024 rfl (lv_at hl 2 rfl) ?_
  refine lv_aload_n hx hb dL_law_1025 rfl (lv_at hl 0 rfl) ?_
  refine lv_iload_n hx hb dL_law_1026 rfl (lv_at hl 3 rfl) ?_
  refine lv_iconst (v := (1 : Int32)) hx hb dL_law_1027 (by decide) ?_
  refine lv_iadd hx hb dL_law_1028 ?_
  refine va_sld hx hb hX hbl hbA hS b1 dL_law_1029 ?_
  refine lv_aload_n hx hb dL_law_1030 rfl (lv_at hl 0 rfl) ?_
  refine lv_iload_n hx hb dL_law_1031 rfl (lv_at hl 3 rfl) ?_
  refine lv_iconst (v := (2 : Int32)) hx hb dL_law_1032 (by decide) ?_
  refine lv_iadd hx hb dL_law_1033 ?_
  refine va_sld hx hb hX hbl hbA hS b2 dL_law_1034 ?_
  refine my_Vi2 (WS2 := (wdL cy O M sf wy (mkA (X 0) (X 1) (X 2) (X 3) (X 4) oc.2.1 oc.2.2.1 (X 10) (X 11) (X 12) (X 13) (X 14) (X 15) (X 16) (X 17) (X 18) (X 19) (X 20) (X 21)) (mkB (Y 0) (Y 1) (Y 2) (Y 3) (Y 4) (Y 5) (Y 6) (Y 7) (Y 8) (Y 9) (Y 10) (Y 11) (Y 12) oc.2.2.2.1 oc.2.2.2.2 (Y 15) (Y 16) (Y 17) (Y 20) (Y 21) (Y 22) (Y 23) (Y 24) (Y 25) (Y 26) (Y 27) (Y 28) (Y 29) (Y 30) (Y 31) (Y 32) (Y 33) (Y 34) (Y 35)) Z V (mka om.2.1 (x 1) (x 2) (x 3) (x 4) (x 5) (x 6) (x 7) (x 8) om.2.2.1) (mkb (y 0) (y 1) (y 2) (y 3) (y 4) (y 5) (y 6) (y 7) (y 8) (y 9) (y 10) (y 11) (y 12) (y 13) (y 14) (y 15) (y 16) (y 17) (y 18) (y 19) om.2.2.2.1 om.2.2.2.2 (y 22) (y 23) (y 24)))) ⟨hx, hb, hml, hown, hts⟩ (c_X8_player l D cy t M (x 0) (x 1) (x 2) (x 3) (x 4) (x 5) (x 6) (x 7) (x 8) (x 9) (y 20) (y 21) (xs (x3 + (1 : Int32)).toNatClampNeg) (xs (x3 + (2 : Int32)).toNatClampNeg) h2) (cwV 2 hts gL_law_X8_player rfl rfl rfl ⟨rfl, hd_X8_player⟩ ⟨Nat.le_of_ble_eq_true rfl, Nat.le_of_ble_eq_true rfl⟩) hK hE hP hD (hD.of_fst wdL_fst) hS hA [51, 72, 73] 78 8 0 rfl rfl rfl rfl (by decide +kernel) rfl rfl rfl hl.1 rfl (Nat.le_of_ble_eq_true rfl) dL_law_1035 ⟨Nat.le_of_ble_eq_true rfl, Nat.le_of_ble_eq_true rfl⟩ (fun H locs hP hD hS => ?_)
  refine lv_icmp_eq (tgt := 1357) hx hb dL_law_1038 (by decide) (fun cq => ?_) (fun cq => absurd h3 cq)
  exact kk (mkA (X 0) (X 1) (X 2) (X 3) (X 4) oc.2.1 oc.2.2.1 (X 10) (X 11) (X 12) (X 13) (X 14) (X 15) (X 16) (X 17) (X 18) (X 19) (X 20) (X 21)) (mkB (Y 0) (Y 1) (Y 2) (Y 3) (Y 4) (Y 5) (Y 6) (Y 7) (Y 8) (Y 9) (Y 10) (Y 11) (Y 12) oc.2.2.2.1 oc.2.2.2.2 (Y 15) (Y 16) (Y 17) (Y 20) (Y 21) (Y 22) (Y 23) (Y 24) (Y 25) (Y 26) (Y 27) (Y 28) (Y 29) (Y 30) (Y 31) (Y 32) (Y 33) (Y 34) (Y 35)) Z V (mka om.2.1 (x 1) (x 2) (x 3) (x 4) (x 5) (x 6) (x 7) (x 8) om.2.2.1) (mkb (y 0) (y 1) (y 2) (y 3) (y 4) (y 5) (y 6) (y 7) (y 8) (y 9) (y 10) (y 11) (y 12) (y 13) (y 14) (y 15) (y 16) (y 17) (y 18) (y 19) om.2.2.2.1 om.2.2.2.2 (y 22) (y 23) (y 24)) H locs ⟨hIP, hIR, hIL, hIC, k0, k1, k2, k3⟩ hP hD hS

set_option maxHeartbeats 4000000 in
set_option maxRecDepth 100000 in
theorem law_c21 {p : Program} {l : Launch} {e : Env} {s : State} {m : MethodId} {below : List Frame} {meth : Method} {c : Code} {Q : State → Prop} {D : va_G} {cy : Nat → ClassId} {t : Nat → Nat} {O : Nat → Nat → Nat} {M : Nat → Nat} {sf : Nat → Option Nat} {wy : Nat → Int64} {X : Nat → Int32} {Y : Nat → Nat → Int32} {Z : Nat → Nat → Int64} {V : Nat → Int64} {x : Nat → Int32} {y : Nat → Nat → Int32} {b L i : Nat} {xs : Nat → Int32} {x3 : Int32} {H : Heap} {locs : List Loc} {ls : Array Slot} (C0 : lw_At p s m meth c b L xs) (hL : L ≤ 3072) (hi : i + 6 ≤ L) (ex : x3 = nI i) (hsf : sf 0 = some (O 10 0) ∧ sf 1 = some (O 11 0) ∧ sf 2 = some (O 12 0) ∧ sf 3 = some (O 13 0)) (hK : va_K D vwCl (TYS cy) s) (hE : EV t (LA s) s s.heap) (hIW : InvW wy) (hInv : LInv X Y x y) (hP : va_P D vwCl (wdL cy O M sf wy X Y Z V x y) H) (hD : va_D (LA s) (wdL cy O M sf wy X Y Z V x y)) (hS : va_S (LA s) s.heap H locs) (hl : lv_has ls 4 [(0, .ref b), (1, .ref (O 0 0)), (2, .ref (M 0)), (3, .int x3)]) (kk : ∀ (X : Nat → Int32) (Y : Nat → Nat → Int32) (Z : Nat → Nat → Int64) (V : Nat → Int64) (x : Nat → Int32) (y : Nat → Nat → Int32) (H : Heap) (locs : List Loc), LInv X Y x y → va_P D vwCl (wdL cy O M sf wy X Y Z V x y) H → va_D (LA s) (wdL cy O M sf wy X Y Z V x y) → va_S (LA s) s.heap H locs → W p l e room_1 s m #[Value.ref b] below meth c H locs 78 18884 Q (F0 m 1357 ls [])) : W p l e room_1 s m #[Value.ref b] below meth c H locs 78 18884 Q (F0 m 1043 ls []) := by
  obtain ⟨hx, hb, hr, hml, hown, hts0, hX, hbl, hlocks, hgv⟩ := C0
  have hts : ∀ w ∈ wsL_law, w.before #[Value.ref b] s = true := fun w h => hts0 w (wsL_in w h)
  have hA : ∀ q : Nat, s.heap.size ≤ q → LA s q := fun _ h => h
  have hbA : ¬ LA s b := Nat.not_le.mpr hbl
  obtain ⟨hIP, hIR, hIL, hIC, k0, k1, k2, k3⟩ := hInv
  have b1 : vp_in (x3 + (1 : Int32)) L := by rw [ex, show nI i + (1 : Int32) = nI (i + 1) from nI_add i 1]; exact vp_in_nI (by omega) (by omega)
  have b2 : vp_in (x3 + (2 : Int32)) L := by rw [ex, show nI i + (2 : Int32) = nI (i + 2) from nI_add i 2]; exact vp_in_nI (by omega) (by omega)
  have b3 : vp_in (x3 + (3 : Int32)) L := by rw [ex, show nI i + (3 : Int32) = nI (i + 3) from nI_add i 3]; exact vp_in_nI (by omega) (by omega)
  obtain ⟨oc, om, h1, h2, h3, hIC⟩ := op_far hIC (x 0) (xs (x3 + (1 : Int32)).toNatClampNeg) (xs (x3 + (2 : Int32)).toNatClampNeg) (xs (x3 + (3 : Int32)).toNatClampNeg)
  refine lv_aload_n hx hb dL_law_1043 rfl (lv_at hl 1 rfl) ?_
  refine lv_aload_n hx hb dL_law_1044 rfl (lv_at hl 0 rfl) ?_
  refine lv_iload_n hx hb dL_law_1045 rfl (lv_at hl 3 rfl) ?_
  refine lv_iconst (v := (1 : Int32)) hx hb dL_law_1046 (by decide) ?_
  refine lv_iadd hx hb dL_law_1047 ?_
  refine va_sld hx hb hX hbl hbA hS b1 dL_law_1048 ?_
  refine lv_aload_n hx hb dL_law_1049 rfl (lv_at hl 0 rfl) ?_
  refine lv_iload_n hx hb dL_law_1050 rfl (lv_at hl 3 rfl) ?_
  refine lv_iconst (v := (2 : Int32)) hx hb dL_law_1051 (by decide) ?_
  refine lv_iadd hx hb dL_law_1052 ?_
  refine va_sld hx hb hX hbl hbA hS b2 dL_law_1053 ?_
  refine lv_aload_n hx hb dL_law_1054 rfl (lv_at hl 0 rfl) ?_
  refine lv_iload_n hx hb dL_law_1055 rfl (lv_at hl 3 rfl) ?_
  refine lv_iconst (v := (3 : Int32)) hx hb dL_law_1056 (by decide) ?_
  refine lv_iadd hx hb dL_law_1057 ?_
  refine va_sld hx hb hX hbl hbA hS b3 dL_law_1058 ?_
  refine my_Vi2 (WS2 := (wdL cy O M sf wy (mkA (X 0) (X 1) (X 2) (X 3) (X 4) (X 5) oc.2.1 (X 10) (X 11) (X 12) (X 13) (X 14) (X 15) (X 16) (X 17) (X 18) (X 19) (X 20) (X 21)) (mkB (Y 0) (Y 1) (Y 2) (Y 3) (Y 4) (Y 5) (Y 6) (Y 7) (Y 8) (Y 9) (Y 10) (Y 11) (Y 12) (Y 13) (Y 14) oc.2.2 (Y 16) (Y 17) (Y 20) (Y 21) (Y 22) (Y 23) (Y 24) (Y 25) (Y 26) (Y 27) (Y 28) (Y 29) (Y 30) (Y 31) (Y 32) (Y 33) (Y 34) (Y 35)) Z V x y)) ⟨hx, hb, hml, hown, hts⟩ (c_X7_far l D cy t (O 0) (O 1) (O 2) (O 3) (O 4) (O 5) (O 6) (O 7) (O 8) (O 9) (X 5) (X 6) (Y 15) (xs (x3 + (1 : Int32)).toNatClampNeg) (xs (x3 + (2 : Int32)).toNatClampNeg) (xs (x3 + (3 : Int32)).toNatClampNeg) h1) (cwV 3 hts gL_law_X7_far rfl rfl rfl ⟨rfl, hd_X7_far⟩ ⟨Nat.le_of_ble_eq_true rfl, Nat.le_of_ble_eq_true rfl⟩) hK hE hP hD (hD.of_fst wdL_fst) hS hA [0, 20, 24] 78 7 0 rfl rfl rfl rfl (by decide +kernel) rfl rfl rfl hl.1 rfl (Nat.le_of_ble_eq_true rfl) dL_law_1059 ⟨Nat.le_of_ble_eq_true rfl, Nat.le_of_ble_eq_true rfl⟩ (fun H locs hP hD hS => ?_)
  refine lv_aload_n hx hb dL_law_1062 rfl (lv_at hl 2 rfl) ?_
  refine lv_aload_n hx hb dL_law_1063 rfl (lv_at hl 0 rfl) ?_
  refine lv_iload_n hx hb dL_law_1064 rfl (lv_at hl 3 rfl) ?_
  refine lv_iconst (v := (1 : Int32)) hx hb dL_law_1065 (by decide) ?_
  refine lv_iadd hx hb dL_law_1066 ?_
  refine va_sld hx hb hX hbl hbA hS b1 dL_law_1067 ?_
  refine lv_aload_n hx hb dL_law_1068 rfl (lv_at hl 0 rfl) ?_
  refine lv_iload_n hx hb dL_law_1069 rfl (lv_at hl 3 rfl) ?_
  refine lv_iconst (v := (2 : Int32)) hx hb dL_law_1070 (by decide) ?_
  refine lv_iadd hx hb dL_law_1071 ?_
  refine va_sld hx hb hX hbl hbA hS b2 dL_law_1072 ?_
  refine lv_aload_n hx hb dL_law_1073 rfl (lv_at hl 0 rfl) ?_
  refine lv_iload_n hx hb dL_law_1074 rfl (lv_at hl 3 rfl) ?_
  refine lv_iconst (v := (3 : Int32)) hx hb dL_law_1075 (by decide) ?_
  refine lv_iadd hx hb dL_law_1076 ?_
  refine va_sld hx hb hX hbl hbA hS b3 dL_law_1077 ?_
  refine my_Vi2 (WS2 := (wdL cy O M sf wy (mkA (X 0) (X 1) (X 2) (X 3) (X 4) (X 5) oc.2.1 (X 10) (X 11) (X 12) (X 13) (X 14) (X 15) (X 16) (X 17) (X 18) (X 19) (X 20) (X 21)) (mkB (Y 0) (Y 1) (Y 2) (Y 3) (Y 4) (Y 5) (Y 6) (Y 7) (Y 8) (Y 9) (Y 10) (Y 11) (Y 12) (Y 13) (Y 14) oc.2.2 (Y 16) (Y 17) (Y 20) (Y 21) (Y 22) (Y 23) (Y 24) (Y 25) (Y 26) (Y 27) (Y 28) (Y 29) (Y 30) (Y 31) (Y 32) (Y 33) (Y 34) (Y 35)) Z V (mka om.2.1 (x 1) (x 2) (x 3) (x 4) (x 5) (x 6) (x 7) (x 8) (x 9)) (mkb (y 0) (y 1) (y 2) (y 3) (y 4) (y 5) (y 6) (y 7) (y 8) (y 9) (y 10) (y 11) (y 12) (y 13) (y 14) (y 15) (y 16) (y 17) (y 18) (y 19) (y 20) (y 21) om.2.2 (y 23) (y 24)))) ⟨hx, hb, hml, hown, hts⟩ (c_X8_far l D cy t M (x 0) (x 1) (x 2) (x 3) (x 4) (x 5) (x 6) (x 7) (x 8) (x 9) (y 22) (xs (x3 + (1 : Int32)).toNatClampNeg) (xs (x3 + (2 : Int32)).toNatClampNeg) (xs (x3 + (3 : Int32)).toNatClampNeg) h2) (cwV 3 hts gL_law_X8_far rfl rfl rfl ⟨rfl, hd_X8_far⟩ ⟨Nat.le_of_ble_eq_true rfl, Nat.le_of_ble_eq_true rfl⟩) hK hE hP hD (hD.of_fst wdL_fst) hS hA [51, 74] 78 8 0 rfl rfl rfl rfl (by decide +kernel) rfl rfl rfl hl.1 rfl (Nat.le_of_ble_eq_true rfl) dL_law_1078 ⟨Nat.le_of_ble_eq_true rfl, Nat.le_of_ble_eq_true rfl⟩ (fun H locs hP hD hS => ?_)
  refine lv_icmp_eq (tgt := 1357) hx hb dL_law_1081 (by decide) (fun cq => ?_) (fun cq => absurd h3 cq)
  exact kk (mkA (X 0) (X 1) (X 2) (X 3) (X 4) (X 5) oc.2.1 (X 10) (X 11) (X 12) (X 13) (X 14) (X 15) (X 16) (X 17) (X 18) (X 19) (X 20) (X 21)) (mkB (Y 0) (Y 1) (Y 2) (Y 3) (Y 4) (Y 5) (Y 6) (Y 7) (Y 8) (Y 9) (Y 10) (Y 11) (Y 12) (Y 13) (Y 14) oc.2.2 (Y 16) (Y 17) (Y 20) (Y 21) (Y 22) (Y 23) (Y 24) (Y 25) (Y 26) (Y 27) (Y 28) (Y 29) (Y 30) (Y 31) (Y 32) (Y 33) (Y 34) (Y 35)) Z V (mka om.2.1 (x 1) (x 2) (x 3) (x 4) (x 5) (x 6) (x 7) (x 8) (x 9)) (mkb (y 0) (y 1) (y 2) (y 3) (y 4) (y 5) (y 6) (y 7) (y 8) (y 9) (y 10) (y 11) (y 12) (y 13) (y 14) (y 15) (y 16) (y 17) (y 18) (y 19) (y 20) (y 21) om.2.2 (y 23) (y 24)) H locs ⟨hIP, hIR, hIL, hIC, k0, k1, k2, k3⟩ hP hD hS

set_option maxHeartbeats 4000000 in
set_option maxRecDepth 100000 in
theorem law_c22 {p : Program} {l : Launch} {e : Env} {s : State} {m : MethodId} {below : List Frame} {meth : Method} {c : Code} {Q : State → Prop} {D : va_G} {cy : Nat → ClassId} {t : Nat → Nat} {O : Nat → Nat → Nat} {M : Nat → Nat} {sf : Nat → Option Nat} {wy : Nat → Int64} {X : Nat → Int32} {Y : Nat → Nat → Int32} {Z : Nat → Nat → Int64} {V : Nat → Int64} {x : Nat → Int32} {y : Nat → Nat → Int32} {b L i : Nat} {xs : Nat → Int32} {x3 : Int32} {H : Heap} {locs : List Loc} {ls : Array Slot} (C0 : lw_At p s m meth c b L xs) (hL : L ≤ 3072) (hi : i + 6 ≤ L) (ex : x3 = nI i) (hsf : sf 0 = some (O 10 0) ∧ sf 1 = some (O 11 0) ∧ sf 2 = some (O 12 0) ∧ sf 3 = some (O 13 0)) (hK : va_K D vwCl (TYS cy) s) (hE : EV t (LA s) s s.heap) (hIW : InvW wy) (hInv : LInv X Y x y) (hP : va_P D vwCl (wdL cy O M sf wy X Y Z V x y) H) (hD : va_D (LA s) (wdL cy O M sf wy X Y Z V x y)) (hS : va_S (LA s) s.heap H locs) (hl : lv_has ls 4 [(0, .ref b), (1, .ref (O 0 0)), (2, .ref (M 0)), (3, .int x3)]) (kk : ∀ (X : Nat → Int32) (Y : Nat → Nat → Int32) (Z : Nat → Nat → Int64) (V : Nat → Int64) (x : Nat → Int32) (y : Nat → Nat → Int32) (H : Heap) (locs : List Loc), LInv X Y x y → va_P D vwCl (wdL cy O M sf wy X Y Z V x y) H → va_D (LA s) (wdL cy O M sf wy X Y Z V x y) → va_S (LA s) s.heap H locs → W p l e room_1 s m #[Value.ref b] below meth c H locs 78 18884 Q (F0 m 1357 ls [])) : W p l e room_1 s m #[Value.ref b] below meth c H locs 78 18884 Q (F0 m 1086 ls []) := by
  obtain ⟨hx, hb, hr, hml, hown, hts0, hX, hbl, hlocks, hgv⟩ := C0
  have hts : ∀ w ∈ wsL_law, w.before #[Value.ref b] s = true := fun w h => hts0 w (wsL_in w h)
  have hA : ∀ q : Nat, s.heap.size ≤ q → LA s q := fun _ h => h
  have hbA : ¬ LA s b := Nat.not_le.mpr hbl
  obtain ⟨hIP, hIR, hIL, hIC, k0, k1, k2, k3⟩ := hInv
  obtain ⟨oc, om, h1, h2, h3, hIC⟩ := op_pairs hIC (x 0) (y 23) (y 24)
  refine lv_aload_n hx hb dL_law_1086 rfl (lv_at hl 1 rfl) ?_
  refine my_Vi2 (WS2 := (wdL cy O M sf wy (mkA (X 0) (X 1) (X 2) (X 3) (X 4) (X 5) oc.2.1 (X 10) (X 11) (X 12) (X 13) (X 14) (X 15) (X 16) (X 17) (X 18) (X 19) (X 20) (X 21)) (mkB (Y 0) (Y 1) (Y 2) (Y 3) (Y 4) (Y 5) (Y 6) (Y 7) (Y 8) (Y 9) (Y 10) (Y 11) oc.2.2.1 (Y 13) (Y 14) (Y 15) oc.2.2.2 (Y 17) (Y 20) (Y 21) (Y 22) (Y 23) (Y 24) (Y 25) (Y 26) (Y 27) (Y 28) (Y 29) (Y 30) (Y 31) (Y 32) (Y 33) (Y 34) (Y 35)) Z V x y)) ⟨hx, hb, hml, hown, hts⟩ (c_X7_pairs l D cy t (O 0) (O 1) (O 2) (O 3) (O 4) (O 5) (O 6) (O 7) (O 8) (O 9) (X 5) (X 6) (Y 12) (Y 13) (Y 14) (Y 15) (Y 16) h1) (cwV 0 hts gL_law_X7_pairs rfl rfl rfl ⟨rfl, hd_X7_pairs⟩ ⟨Nat.le_of_ble_eq_true rfl, Nat.le_of_ble_eq_true rfl⟩) hK hE hP hD (hD.of_fst wdL_fst) hS hA [0, 20, 21, 22, 23, 24, 25] 78 7 0 rfl rfl rfl rfl (by decide +kernel) rfl rfl rfl hl.1 rfl (Nat.le_of_ble_eq_true rfl) dL_law_1087 ⟨Nat.le_of_ble_eq_true rfl, Nat.le_of_ble_eq_true rfl⟩ (fun H locs hP hD hS => ?_)
  refine lv_aload_n hx hb dL_law_1090 rfl (lv_at hl 2 rfl) ?_
  refine my_Vi2 (WS2 := (wdL cy O M sf wy (mkA (X 0) (X 1) (X 2) (X 3) (X 4) (X 5) oc.2.1 (X 10) (X 11) (X 12) (X 13) (X 14) (X 15) (X 16) (X 17) (X 18) (X 19) (X 20) (X 21)) (mkB (Y 0) (Y 1) (Y 2) (Y 3) (Y 4) (Y 5) (Y 6) (Y 7) (Y 8) (Y 9) (Y 10) (Y 11) oc.2.2.1 (Y 13) (Y 14) (Y 15) oc.2.2.2 (Y 17) (Y 20) (Y 21) (Y 22) (Y 23) (Y 24) (Y 25) (Y 26) (Y 27) (Y 28) (Y 29) (Y 30) (Y 31) (Y 32) (Y 33) (Y 34) (Y 35)) Z V (mka om.2.1 (x 1) (x 2) (x 3) (x 4) (x 5) (x 6) (x 7) (x 8) (x 9)) (mkb (y 0) (y 1) (y 2) (y 3) (y 4) (y 5) (y 6) (y 7) (y 8) (y 9) (y 10) (y 11) (y 12) (y 13) (y 14) (y 15) (y 16) (y 17) (y 18) (y 19) (y 20) (y 21) (y 22) om.2.2.1 om.2.2.2))) ⟨hx, hb, hml, hown, hts⟩ (c_X8_pairs l D cy t M (x 0) (x 1) (x 2) (x 3) (x 4) (x 5) (x 6) (x 7) (x 8) (x 9) (y 20) (y 21) (y 22) (y 23) (y 24) h2) (cwV 0 hts gL_law_X8_pairs rfl rfl rfl ⟨rfl, hd_X8_pairs⟩ ⟨Nat.le_of_ble_eq_true rfl, Nat.le_of_ble_eq_true rfl⟩) hK hE hP hD (hD.of_fst wdL_fst) hS hA [51, 72, 73, 74, 75, 76] 78 8 0 rfl rfl rfl rfl (by decide +kernel) rfl rfl rfl hl.1 rfl (Nat.le_of_ble_eq_true rfl) dL_law_1091 ⟨Nat.le_of_ble_eq_true rfl, Nat.le_of_ble_eq_true rfl⟩ (fun H locs hP hD hS => ?_)
  refine lv_icmp_eq (tgt := 1357) hx hb dL_law_1094 (by decide) (fun cq => ?_) (fun cq => absurd h3 cq)
  exact kk (mkA (X 0) (X 1) (X 2) (X 3) (X 4) (X 5) oc.2.1 (X 10) (X 11) (X 12) (X 13) (X 14) (X 15) (X 16) (X 17) (X 18) (X 19) (X 20) (X 21)) (mkB (Y 0) (Y 1) (Y 2) (Y 3) (Y 4) (Y 5) (Y 6) (Y 7) (Y 8) (Y 9) (Y 10) (Y 11) oc.2.2.1 (Y 13) (Y 14) (Y 15) oc.2.2.2 (Y 17) (Y 20) (Y 21) (Y 22) (Y 23) (Y 24) (Y 25) (Y 26) (Y 27) (Y 28) (Y 29) (Y 30) (Y 31) (Y 32) (Y 33) (Y 34) (Y 35)) Z V (mka om.2.1 (x 1) (x 2) (x 3) (x 4) (x 5) (x 6) (x 7) (x 8) (x 9)) (mkb (y 0) (y 1) (y 2) (y 3) (y 4) (y 5) (y 6) (y 7) (y 8) (y 9) (y 10) (y 11) (y 12) (y 13) (y 14) (y 15) (y 16) (y 17) (y 18) (y 19) (y 20) (y 21) (y 22) om.2.2.1 om.2.2.2) H locs ⟨hIP, hIR, hIL, hIC, k0, k1, k2, k3⟩ hP hD hS

set_option maxHeartbeats 4000000 in
set_option maxRecDepth 100000 in
theorem law_c23 {p : Program} {l : Launch} {e : Env} {s : State} {m : MethodId} {below : List Frame} {meth : Method} {c : Code} {Q : State → Prop} {D : va_G} {cy : Nat → ClassId} {t : Nat → Nat} {O : Nat → Nat → Nat} {M : Nat → Nat} {sf : Nat → Option Nat} {wy : Nat → Int64} {X : Nat → Int32} {Y : Nat → Nat → Int32} {Z : Nat → Nat → Int64} {V : Nat → Int64} {x : Nat → Int32} {y : Nat → Nat → Int32} {b L i : Nat} {xs : Nat → Int32} {x3 : Int32} {H : Heap} {locs : List Loc} {ls : Array Slot} (C0 : lw_At p s m meth c b L xs) (hL : L ≤ 3072) (hi : i + 6 ≤ L) (ex : x3 = nI i) (hsf : sf 0 = some (O 10 0) ∧ sf 1 = some (O 11 0) ∧ sf 2 = some (O 12 0) ∧ sf 3 = some (O 13 0)) (hK : va_K D vwCl (TYS cy) s) (hE : EV t (LA s) s s.heap) (hIW : InvW wy) (hInv : LInv X Y x y) (hP : va_P D vwCl (wdL cy O M sf wy X Y Z V x y) H) (hD : va_D (LA s) (wdL cy O M sf wy X Y Z V x y)) (hS : va_S (LA s) s.heap H locs) (hl : lv_has ls 4 [(0, .ref b), (1, .ref (O 0 0)), (2, .ref (M 0)), (3, .int x3)]) (kk : ∀ (X : Nat → Int32) (Y : Nat → Nat → Int32) (Z : Nat → Nat → Int64) (V : Nat → Int64) (x : Nat → Int32) (y : Nat → Nat → Int32) (H : Heap) (locs : List Loc), LInv X Y x y → va_P D vwCl (wdL cy O M sf wy X Y Z V x y) H → va_D (LA s) (wdL cy O M sf wy X Y Z V x y) → va_S (LA s) s.heap H locs → W p l e room_1 s m #[Value.ref b] below meth c H locs 78 18884 Q (F0 m 1357 ls [])) : W p l e room_1 s m #[Value.ref b] below meth c H locs 78 18884 Q (F0 m 1099 ls []) := by
  obtain ⟨hx, hb, hr, hml, hown, hts0, hX, hbl, hlocks, hgv⟩ := C0
  have hts : ∀ w ∈ wsL_law, w.before #[Value.ref b] s = true := fun w h => hts0 w (wsL_in w h)
  have hA : ∀ q : Nat, s.heap.size ≤ q → LA s q := fun _ h => h
  have hbA : ¬ LA s b := Nat.not_le.mpr hbl
  obtain ⟨hIP, hIR, hIL, hIC, k0, k1, k2, k3⟩ := hInv
  have b1 : vp_in (x3 + (1 : Int32)) L := by rw [ex, show nI i + (1 : Int32) = nI (i + 1) from nI_add i 1]; exact vp_in_nI (by omega) (by omega)
  obtain ⟨oc, om, h1, h2, h3, hIC⟩ := op_mate hIC (x 0) (y 23) (y 24) (xs (x3 + (1 : Int32)).toNatClampNeg)
  refine lv_aload_n hx hb dL_law_1099 rfl (lv_at hl 1 rfl) ?_
  refine lv_aload_n hx hb dL_law_1100 rfl (lv_at hl 0 rfl) ?_
  refine lv_iload_n hx hb dL_law_1101 rfl (lv_at hl 3 rfl) ?_
  refine lv_iconst (v := (1 : Int32)) hx hb dL_law_1102 (by decide) ?_
  refine lv_iadd hx hb dL_law_1103 ?_
  refine va_sld hx hb hX hbl hbA hS b1 dL_law_1104 ?_
  refine my_Vi2 (WS2 := (wdL cy O M sf wy (mkA (X 0) (X 1) (X 2) (X 3) (X 4) (X 5) oc.2.1 (X 10) (X 11) (X 12) (X 13) (X 14) (X 15) (X 16) (X 17) (X 18) (X 19) (X 20) (X 21)) (mkB (Y 0) (Y 1) (Y 2) (Y 3) (Y 4) (Y 5) (Y 6) (Y 7) (Y 8) (Y 9) (Y 10) (Y 11) oc.2.2.1 (Y 13) (Y 14) (Y 15) oc.2.2.2 (Y 17) (Y 20) (Y 21) (Y 22) (Y 23) (Y 24) (Y 25) (Y 26) (Y 27) (Y 28) (Y 29) (Y 30) (Y 31) (Y 32) (Y 33) (Y 34) (Y 35)) Z V x y)) ⟨hx, hb, hml, hown, hts⟩ (c_X7_mate l D cy t (O 0) (O 1) (O 2) (O 3) (O 4) (O 5) (O 6) (O 7) (O 8) (O 9) (X 5) (X 6) (Y 12) (Y 13) (Y 14) (Y 15) (Y 16) (xs (x3 + (1 : Int32)).toNatClampNeg) h1) (cwV 1 hts gL_law_X7_mate rfl rfl rfl ⟨rfl, hd_X7_mate⟩ ⟨Nat.le_of_ble_eq_true rfl, Nat.le_of_ble_eq_true rfl⟩) hK hE hP hD (hD.of_fst wdL_fst) hS hA [0, 20, 21, 22, 23, 24, 25] 78 7 0 rfl rfl rfl rfl (by decide +kernel) rfl rfl rfl hl.1 rfl (Nat.le_of_ble_eq_true rfl) dL_law_1105 ⟨Nat.le_of_ble_eq_true rfl, Nat.le_of_ble_eq_true rfl⟩ (fun H locs hP hD hS => ?_)
  refine lv_aload_n hx hb dL_law_1108 rfl (lv_at hl 2 rfl) ?_
  refine lv_aload_n hx hb dL_law_1109 rfl (lv_at hl 0 rfl) ?_
  refine lv_iload_n hx hb dL_law_1110 rfl (lv_at hl 3 rfl) ?_
  refine lv_iconst (v := (1 : Int32)) hx hb dL_law_1111 (by decide) ?_
  refine lv_iadd hx hb dL_law_1112 ?_
  refine va_sld hx hb hX hbl hbA hS b1 dL_law_1113 ?_
  refine my_Vi2 (WS2 := (wdL cy O M sf wy (mkA (X 0) (X 1) (X 2) (X 3) (X 4) (X 5) oc.2.1 (X 10) (X 11) (X 12) (X 13) (X 14) (X 15) (X 16) (X 17) (X 18) (X 19) (X 20) (X 21)) (mkB (Y 0) (Y 1) (Y 2) (Y 3) (Y 4) (Y 5) (Y 6) (Y 7) (Y 8) (Y 9) (Y 10) (Y 11) oc.2.2.1 (Y 13) (Y 14) (Y 15) oc.2.2.2 (Y 17) (Y 20) (Y 21) (Y 22) (Y 23) (Y 24) (Y 25) (Y 26) (Y 27) (Y 28) (Y 29) (Y 30) (Y 31) (Y 32) (Y 33) (Y 34) (Y 35)) Z V (mka om.2.1 (x 1) (x 2) (x 3) (x 4) (x 5) (x 6) (x 7) (x 8) (x 9)) (mkb (y 0) (y 1) (y 2) (y 3) (y 4) (y 5) (y 6) (y 7) (y 8) (y 9) (y 10) (y 11) (y 12) (y 13) (y 14) (y 15) (y 16) (y 17) (y 18) (y 19) (y 20) (y 21) (y 22) om.2.2.1 om.2.2.2))) ⟨hx, hb, hml, hown, hts⟩ (c_X8_mate l D cy t M (x 0) (x 1) (x 2) (x 3) (x 4) (x 5) (x 6) (x 7) (x 8) (x 9) (y 20) (y 21) (y 22) (y 23) (y 24) (xs (x3 + (1 : Int32)).toNatClampNeg) h2) (cwV 1 hts gL_law_X8_mate rfl rfl rfl ⟨rfl, hd_X8_mate⟩ ⟨Nat.le_of_ble_eq_true rfl, Nat.le_of_ble_eq_true rfl⟩) hK hE hP hD (hD.of_fst wdL_fst) hS hA [51, 72, 73, 74, 75, 76] 78 8 0 rfl rfl rfl rfl (by decide +kernel) rfl rfl rfl hl.1 rfl (Nat.le_of_ble_eq_true rfl) dL_law_1114 ⟨Nat.le_of_ble_eq_true rfl, Nat.le_of_ble_eq_true rfl⟩ (fun H locs hP hD hS => ?_)
  refine lv_icmp_eq (tgt := 1357) hx hb dL_law_1117 (by decide) (fun cq => ?_) (fun cq => absurd h3 cq)
  exact kk (mkA (X 0) (X 1) (X 2) (X 3) (X 4) (X 5) oc.2.1 (X 10) (X 11) (X 12) (X 13) (X 14) (X 15) (X 16) (X 17) (X 18) (X 19) (X 20) (X 21)) (mkB (Y 0) (Y 1) (Y 2) (Y 3) (Y 4) (Y 5) (Y 6) (Y 7) (Y 8) (Y 9) (Y 10) (Y 11) oc.2.2.1 (Y 13) (Y 14) (Y 15) oc.2.2.2 (Y 17) (Y 20) (Y 21) (Y 22) (Y 23) (Y 24) (Y 25) (Y 26) (Y 27) (Y 28) (Y 29) (Y 30) (Y 31) (Y 32) (Y 33) (Y 34) (Y 35)) Z V (mka om.2.1 (x 1) (x 2) (x 3) (x 4) (x 5) (x 6) (x 7) (x 8) (x 9)) (mkb (y 0) (y 1) (y 2) (y 3) (y 4) (y 5) (y 6) (y 7) (y 8) (y 9) (y 10) (y 11) (y 12) (y 13) (y 14) (y 15) (y 16) (y 17) (y 18) (y 19) (y 20) (y 21) (y 22) om.2.2.1 om.2.2.2) H locs ⟨hIP, hIR, hIL, hIC, k0, k1, k2, k3⟩ hP hD hS

set_option maxHeartbeats 4000000 in
set_option maxRecDepth 100000 in
theorem law_c24 {p : Program} {l : Launch} {e : Env} {s : State} {m : MethodId} {below : List Frame} {meth : Method} {c : Code} {Q : State → Prop} {D : va_G} {cy : Nat → ClassId} {t : Nat → Nat} {O : Nat → Nat → Nat} {M : Nat → Nat} {sf : Nat → Option Nat} {wy : Nat → Int64} {X : Nat → Int32} {Y : Nat → Nat → Int32} {Z : Nat → Nat → Int64} {V : Nat → Int64} {x : Nat → Int32} {y : Nat → Nat → Int32} {b L i : Nat} {xs : Nat → Int32} {x3 : Int32} {H : Heap} {locs : List Loc} {ls : Array Slot} (C0 : lw_At p s m meth c b L xs) (hL : L ≤ 3072) (hi : i + 6 ≤ L) (ex : x3 = nI i) (hsf : sf 0 = some (O 10 0) ∧ sf 1 = some (O 11 0) ∧ sf 2 = some (O 12 0) ∧ sf 3 = some (O 13 0)) (hK : va_K D vwCl (TYS cy) s) (hE : EV t (LA s) s s.heap) (hIW : InvW wy) (hInv : LInv X Y x y) (hP : va_P D vwCl (wdL cy O M sf wy X Y Z V x y) H) (hD : va_D (LA s) (wdL cy O M sf wy X Y Z V x y)) (hS : va_S (LA s) s.heap H locs) (hl : lv_has ls 4 [(0, .ref b), (1, .ref (O 0 0)), (2, .ref (M 0)), (3, .int x3)]) (kk : ∀ (X : Nat → Int32) (Y : Nat → Nat → Int32) (Z : Nat → Nat → Int64) (V : Nat → Int64) (x : Nat → Int32) (y : Nat → Nat → Int32) (H : Heap) (locs : List Loc), LInv X Y x y → va_P D vwCl (wdL cy O M sf wy X Y Z V x y) H → va_D (LA s) (wdL cy O M sf wy X Y Z V x y) → va_S (LA s) s.heap H locs → W p l e room_1 s m #[Value.ref b] below meth c H locs 78 18884 Q (F0 m 1357 ls [])) : W p l e room_1 s m #[Value.ref b] below meth c H locs 78 18884 Q (F0 m 1122 ls []) := by
  obtain ⟨hx, hb, hr, hml, hown, hts0, hX, hbl, hlocks, hgv⟩ := C0
  have hts : ∀ w ∈ wsL_law, w.before #[Value.ref b] s = true := fun w h => hts0 w (wsL_in w h)
  have hA : ∀ q : Nat, s.heap.size ≤ q → LA s q := fun _ h => h
  have hbA : ¬ LA s b := Nat.not_le.mpr hbl
  obtain ⟨hIP, hIR, hIL, hIC, k0, k1, k2, k3⟩ := hInv
  have b1 : vp_in (x3 + (1 : Int32)) L := by rw [ex, show nI i + (1 : Int32) = nI (i + 1) from nI_add i 1]; exact vp_in_nI (by omega) (by omega)
  have b2 : vp_in (x3 + (2 : Int32)) L := by rw [ex, show nI i + (2 : Int32) = nI (i + 2) from nI_add i 2]; exact vp_in_nI (by omega) (by omega)
  have b3 : vp_in (x3 + (3 : Int32)) L := by rw [ex, show nI i + (3 : Int32) = nI (i + 3) from nI_add i 3]; exact vp_in_nI (by omega) (by omega)
  have b4 : vp_in (x3 + (4 : Int32)) L := by rw [ex, show nI i + (4 : Int32) = nI (i + 4) from nI_add i 4]; exact vp_in_nI (by omega) (by omega)
  have b5 : vp_in (x3 + (5 : Int32)) L := by rw [ex, show nI i + (5 : Int32) = nI (i + 5) from nI_add i 5]; exact vp_in_nI (by omega) (by omega)
  by_cases hz : (xs (x3 + (5 : Int32)).toNatClampNeg) = 0
  · obtain ⟨oc, om, h1, h2, h3⟩ := op_odds hIW (V 0) (V 1) (Z 0) (Z 1) (x 0) (xs (x3 + (1 : Int32)).toNatClampNeg) (xs (x3 + (2 : Int32)).toNatClampNeg) (xs (x3 + (3 : Int32)).toNatClampNeg) (xs (x3 + (4 : Int32)).toNatClampNeg) (0 : Int32)
    refine lv_aload_n hx hb dL_law_1122 rfl (lv_at hl 1 rfl) ?_
    refine lv_aload_n hx hb dL_law_1123 rfl (lv_at hl 0 rfl) ?_
    refine lv_iload_n hx hb dL_law_1124 rfl (lv_at hl 3 rfl) ?_
    refine lv_iconst (v := (1 : Int32)) hx hb dL_law_1125 (by decide) ?_
    refine lv_iadd hx hb dL_law_1126 ?_
    refine va_sld hx hb hX hbl hbA hS b1 dL_law_1127 ?_
    refine lv_aload_n hx hb dL_law_1128 rfl (lv_at hl 0 rfl) ?_
    refine lv_iload_n hx hb dL_law_1129 rfl (lv_at hl 3 rfl) ?_
    refine lv_iconst (v := (2 : Int32)) hx hb dL_law_1130 (by decide) ?_
    refine lv_iadd hx hb dL_law_1131 ?_
    refine va_sld hx hb hX hbl hbA hS b2 dL_law_1132 ?_
    refine lv_aload_n hx hb dL_law_1133 rfl (lv_at hl 0 rfl) ?_
    refine lv_iload_n hx hb dL_law_1134 rfl (lv_at hl 3 rfl) ?_
    refine lv_iconst (v := (3 : Int32)) hx hb dL_law_1135 (by decide) ?_
    refine lv_iadd hx hb dL_law_1136 ?_
    refine va_sld hx hb hX hbl hbA hS b3 dL_law_1137 ?_
    refine lv_aload_n hx hb dL_law_1138 rfl (lv_at hl 0 rfl) ?_
    refine lv_iload_n hx hb dL_law_1139 rfl (lv_at hl 3 rfl) ?_
    refine lv_iconst (v := (4 : Int32)) hx hb dL_law_1140 (by decide) ?_
    refine lv_iadd hx hb dL_law_1141 ?_
    refine va_sld hx hb hX hbl hbA hS b4 dL_law_1142 ?_
    refine lv_aload_n hx hb dL_law_1143 rfl (lv_at hl 0 rfl) ?_
    refine lv_iload_n hx hb dL_law_1144 rfl (lv_at hl 3 rfl) ?_
    refine lv_iconst (v := (5 : Int32)) hx hb dL_law_1145 (by decide) ?_
    refine lv_iadd hx hb dL_law_1146 ?_
    refine va_sld hx hb hX hbl hbA hS b5 dL_law_1147 ?_
    refine lv_if_eq (tgt := 1155) hx hb dL_law_1148 (by decide) (fun cz => ?_) (fun cz => absurd hz cz)
    refine lv_iconst (v := (0 : Int32)) hx hb dL_law_1155 (by decide) ?_
    refine my_Vl2 (WS2 := (wdL cy O M sf wy X Y (mkC oc.2.2.2.1 oc.2.2.2.2) (mkE oc.2.1 oc.2.2.1) x y)) ⟨hx, hb, hml, hown, hts⟩ (c_X7_odds l D cy t (O 0) (O 1) (O 2) (O 3) (O 4) (O 5) (O 6) (O 7) (O 8) (O 9) (V 0) (V 1) (Z 0) (Z 1) (xs (x3 + (1 : Int32)).toNatClampNeg) (xs (x3 + (2 : Int32)).toNatClampNeg) (xs (x3 + (3 : Int32)).toNatClampNeg) (xs (x3 + (4 : Int32)).toNatClampNeg) (0 : Int32) h1) (cwV 5 hts gL_law_X7_odds rfl rfl rfl ⟨rfl, hd_X7_odds⟩ ⟨Nat.le_of_ble_eq_true rfl, Nat.le_of_ble_eq_true rfl⟩) hK hE hP hD (hD.of_fst wdL_fst) hS hA [0, 26, 27, 28] 78 7 0 rfl rfl rfl rfl (by decide +kernel) rfl rfl rfl hl.1 rfl (Nat.le_of_ble_eq_true rfl) dL_law_1156 ⟨Nat.le_of_ble_eq_true rfl, Nat.le_of_ble_eq_true rfl⟩ (fun H locs hP hD hS => ?_)
    refine lv_aload_n hx hb dL_law_1159 rfl (lv_at hl 2 rfl) ?_
    refine lv_aload_n hx hb dL_law_1160 rfl (lv_at hl 0 rfl) ?_
    refine lv_iload_n hx hb dL_law_1161 rfl (lv_at hl 3 rfl) ?_
    refine lv_iconst (v := (1 : Int32)) hx hb dL_law_1162 (by decide) ?_
    refine lv_iadd hx hb dL_law_1163 ?_
    refine va_sld hx hb hX hbl hbA hS b1 dL_law_1164 ?_
    refine lv_aload_n hx hb dL_law_1165 rfl (lv_at hl 0 rfl) ?_
    refine lv_iload_n hx hb dL_law_1166 rfl (lv_at hl 3 rfl) ?_
    refine lv_iconst (v := (2 : Int32)) hx hb dL_law_1167 (by decide) ?_
    refine lv_iadd hx hb dL_law_1168 ?_
    refine va_sld hx hb hX hbl hbA hS b2 dL_law_1169 ?_
    refine lv_aload_n hx hb dL_law_1170 rfl (lv_at hl 0 rfl) ?_
    refine lv_iload_n hx hb dL_law_1171 rfl (lv_at hl 3 rfl) ?_
    refine lv_iconst (v := (3 : Int32)) hx hb dL_law_1172 (by decide) ?_
    refine lv_iadd hx hb dL_law_1173 ?_
    refine va_sld hx hb hX hbl hbA hS b3 dL_law_1174 ?_
    refine lv_aload_n hx hb dL_law_1175 rfl (lv_at hl 0 rfl) ?_
    refine lv_iload_n hx hb dL_law_1176 rfl (lv_at hl 3 rfl) ?_
    refine lv_iconst (v := (4 : Int32)) hx hb dL_law_1177 (by decide) ?_
    refine lv_iadd hx hb dL_law_1178 ?_
    refine va_sld hx hb hX hbl hbA hS b4 dL_law_1179 ?_
    refine lv_aload_n hx hb dL_law_1180 rfl (lv_at hl 0 rfl) ?_
    refine lv_iload_n hx hb dL_law_1181 rfl (lv_at hl 3 rfl) ?_
    refine lv_iconst (v := (5 : Int32)) hx hb dL_law_1182 (by decide) ?_
    refine lv_iadd hx hb dL_law_1183 ?_
    refine va_sld hx hb hX hbl hbA hS b5 dL_law_1184 ?_
    refine lv_if_eq (tgt := 1192) hx hb dL_law_1185 (by decide) (fun cz => ?_) (fun cz => absurd hz cz)
    refine lv_iconst (v := (0 : Int32)) hx hb dL_law_1192 (by decide) ?_
    refine my_Vl2 (WS2 := (wdL cy O M sf wy X Y (mkC oc.2.2.2.1 oc.2.2.2.2) (mkE oc.2.1 oc.2.2.1) (mka om.2 (x 1) (x 2) (x 3) (x 4) (x 5) (x 6) (x 7) (x 8) (x 9)) y)) ⟨hx, hb, hml, hown, hts⟩ (c_X8_odds l D cy t M (x 0) (x 1) (x 2) (x 3) (x 4) (x 5) (x 6) (x 7) (x 8) (x 9) wy (xs (x3 + (1 : Int32)).toNatClampNeg) (xs (x3 + (2 : Int32)).toNatClampNeg) (xs (x3 + (3 : Int32)).toNatClampNeg) (xs (x3 + (4 : Int32)).toNatClampNeg) (0 : Int32) h2) (cwV 5 hts gL_law_X8_odds rfl rfl rfl ⟨rfl, hd_X8_odds⟩ ⟨Nat.le_of_ble_eq_true rfl, Nat.le_of_ble_eq_true rfl⟩) hK hE hP hD (hD.of_fst wdL_fst) hS hA [51, 77] 78 8 0 rfl rfl rfl rfl (by decide +kernel) rfl rfl rfl hl.1 rfl (Nat.le_of_ble_eq_true rfl) dL_law_1193 ⟨Nat.le_of_ble_eq_true rfl, Nat.le_of_ble_eq_true rfl⟩ (fun H locs hP hD hS => ?_)
    refine W.lcmp hx hb dL_law_1196 ?_
    refine lv_if_eq (tgt := 1357) hx hb dL_law_1197 (by decide) (fun cq => ?_) (fun cq => absurd ((lg_cmp_eq _ _).mpr h3) cq)
    exact kk X Y (mkC oc.2.2.2.1 oc.2.2.2.2) (mkE oc.2.1 oc.2.2.1) (mka om.2 (x 1) (x 2) (x 3) (x 4) (x 5) (x 6) (x 7) (x 8) (x 9)) y H locs ⟨hIP, hIR, hIL, hIC, k0, k1, k2, k3⟩ hP hD hS
  · obtain ⟨oc, om, h1, h2, h3⟩ := op_odds hIW (V 0) (V 1) (Z 0) (Z 1) (x 0) (xs (x3 + (1 : Int32)).toNatClampNeg) (xs (x3 + (2 : Int32)).toNatClampNeg) (xs (x3 + (3 : Int32)).toNatClampNeg) (xs (x3 + (4 : Int32)).toNatClampNeg) (1 : Int32)
    refine lv_aload_n hx hb dL_law_1122 rfl (lv_at hl 1 rfl) ?_
    refine lv_aload_n hx hb dL_law_1123 rfl (lv_at hl 0 rfl) ?_
    refine lv_iload_n hx hb dL_law_1124 rfl (lv_at hl 3 rfl) ?_
    refine lv_iconst (v := (1 : Int32)) hx hb dL_law_1125 (by decide) ?_
    refine lv_iadd hx hb dL_law_1126 ?_
    refine va_sld hx hb hX hbl hbA hS b1 dL_law_1127 ?_
    refine lv_aload_n hx hb dL_law_1128 rfl (lv_at hl 0 rfl) ?_
    refine lv_iload_n hx hb dL_law_1129 rfl (lv_at hl 3 rfl) ?_
    refine lv_iconst (v := (2 : Int32)) hx hb dL_law_1130 (by decide) ?_
    refine lv_iadd hx hb dL_law_1131 ?_
    refine va_sld hx hb hX hbl hbA hS b2 dL_law_1132 ?_
    refine lv_aload_n hx hb dL_law_1133 rfl (lv_at hl 0 rfl) ?_
    refine lv_iload_n hx hb dL_law_1134 rfl (lv_at hl 3 rfl) ?_
    refine lv_iconst (v := (3 : Int32)) hx hb dL_law_1135 (by decide) ?_
    refine lv_iadd hx hb dL_law_1136 ?_
    refine va_sld hx hb hX hbl hbA hS b3 dL_law_1137 ?_
    refine lv_aload_n hx hb dL_law_1138 rfl (lv_at hl 0 rfl) ?_
    refine lv_iload_n hx hb dL_law_1139 rfl (lv_at hl 3 rfl) ?_
    refine lv_iconst (v := (4 : Int32)) hx hb dL_law_1140 (by decide) ?_
    refine lv_iadd hx hb dL_law_1141 ?_
    refine va_sld hx hb hX hbl hbA hS b4 dL_law_1142 ?_
    refine lv_aload_n hx hb dL_law_1143 rfl (lv_at hl 0 rfl) ?_
    refine lv_iload_n hx hb dL_law_1144 rfl (lv_at hl 3 rfl) ?_
    refine lv_iconst (v := (5 : Int32)) hx hb dL_law_1145 (by decide) ?_
    refine lv_iadd hx hb dL_law_1146 ?_
    refine va_sld hx hb hX hbl hbA hS b5 dL_law_1147 ?_
    refine lv_if_eq (tgt := 1155) hx hb dL_law_1148 (by decide) (fun cz => absurd cz hz) (fun cz => ?_)
    refine lv_iconst (v := (1 : Int32)) hx hb dL_law_1151 (by decide) ?_
    refine lv_goto (tgt := 1156) hx hb dL_law_1152 (by decide) ?_
    refine my_Vl2 (WS2 := (wdL cy O M sf wy X Y (mkC oc.2.2.2.1 oc.2.2.2.2) (mkE oc.2.1 oc.2.2.1) x y)) ⟨hx, hb, hml, hown, hts⟩ (c_X7_odds l D cy t (O 0) (O 1) (O 2) (O 3) (O 4) (O 5) (O 6) (O 7) (O 8) (O 9) (V 0) (V 1) (Z 0) (Z 1) (xs (x3 + (1 : Int32)).toNatClampNeg) (xs (x3 + (2 : Int32)).toNatClampNeg) (xs (x3 + (3 : Int32)).toNatClampNeg) (xs (x3 + (4 : Int32)).toNatClampNeg) (1 : Int32) h1) (cwV 5 hts gL_law_X7_odds rfl rfl rfl ⟨rfl, hd_X7_odds⟩ ⟨Nat.le_of_ble_eq_true rfl, Nat.le_of_ble_eq_true rfl⟩) hK hE hP hD (hD.of_fst wdL_fst) hS hA [0, 26, 27, 28] 78 7 0 rfl rfl rfl rfl (by decide +kernel) rfl rfl rfl hl.1 rfl (Nat.le_of_ble_eq_true rfl) dL_law_1156 ⟨Nat.le_of_ble_eq_true rfl, Nat.le_of_ble_eq_true rfl⟩ (fun H locs hP hD hS => ?_)
    refine lv_aload_n hx hb dL_law_1159 rfl (lv_at hl 2 rfl) ?_
    refine lv_aload_n hx hb dL_law_1160 rfl (lv_at hl 0 rfl) ?_
    refine lv_iload_n hx hb dL_law_1161 rfl (lv_at hl 3 rfl) ?_
    refine lv_iconst (v := (1 : Int32)) hx hb dL_law_1162 (by decide) ?_
    refine lv_iadd hx hb dL_law_1163 ?_
    refine va_sld hx hb hX hbl hbA hS b1 dL_law_1164 ?_
    refine lv_aload_n hx hb dL_law_1165 rfl (lv_at hl 0 rfl) ?_
    refine lv_iload_n hx hb dL_law_1166 rfl (lv_at hl 3 rfl) ?_
    refine lv_iconst (v := (2 : Int32)) hx hb dL_law_1167 (by decide) ?_
    refine lv_iadd hx hb dL_law_1168 ?_
    refine va_sld hx hb hX hbl hbA hS b2 dL_law_1169 ?_
    refine lv_aload_n hx hb dL_law_1170 rfl (lv_at hl 0 rfl) ?_
    refine lv_iload_n hx hb dL_law_1171 rfl (lv_at hl 3 rfl) ?_
    refine lv_iconst (v := (3 : Int32)) hx hb dL_law_1172 (by decide) ?_
    refine lv_iadd hx hb dL_law_1173 ?_
    refine va_sld hx hb hX hbl hbA hS b3 dL_law_1174 ?_
    refine lv_aload_n hx hb dL_law_1175 rfl (lv_at hl 0 rfl) ?_
    refine lv_iload_n hx hb dL_law_1176 rfl (lv_at hl 3 rfl) ?_
    refine lv_iconst (v := (4 : Int32)) hx hb dL_law_1177 (by decide) ?_
    refine lv_iadd hx hb dL_law_1178 ?_
    refine va_sld hx hb hX hbl hbA hS b4 dL_law_1179 ?_
    refine lv_aload_n hx hb dL_law_1180 rfl (lv_at hl 0 rfl) ?_
    refine lv_iload_n hx hb dL_law_1181 rfl (lv_at hl 3 rfl) ?_
    refine lv_iconst (v := (5 : Int32)) hx hb dL_law_1182 (by decide) ?_
    refine lv_iadd hx hb dL_law_1183 ?_
    refine va_sld hx hb hX hbl hbA hS b5 dL_law_1184 ?_
    refine lv_if_eq (tgt := 1192) hx hb dL_law_1185 (by decide) (fun cz => absurd cz hz) (fun cz => ?_)
    refine lv_iconst (v := (1 : Int32)) hx hb dL_law_1188 (by decide) ?_
    refine lv_goto (tgt := 1193) hx hb dL_law_1189 (by decide) ?_
    refine my_Vl2 (WS2 := (wdL cy O M sf wy X Y (mkC oc.2.2.2.1 oc.2.2.2.2) (mkE oc.2.1 oc.2.2.1) (mka om.2 (x 1) (x 2) (x 3) (x 4) (x 5) (x 6) (x 7) (x 8) (x 9)) y)) ⟨hx, hb, hml, hown, hts⟩ (c_X8_odds l D cy t M (x 0) (x 1) (x 2) (x 3) (x 4) (x 5) (x 6) (x 7) (x 8) (x 9) wy (xs (x3 + (1 : Int32)).toNatClampNeg) (xs (x3 + (2 : Int32)).toNatClampNeg) (xs (x3 + (3 : Int32)).toNatClampNeg) (xs (x3 + (4 : Int32)).toNatClampNeg) (1 : Int32) h2) (cwV 5 hts gL_law_X8_odds rfl rfl rfl ⟨rfl, hd_X8_odds⟩ ⟨Nat.le_of_ble_eq_true rfl, Nat.le_of_ble_eq_true rfl⟩) hK hE hP hD (hD.of_fst wdL_fst) hS hA [51, 77] 78 8 0 rfl rfl rfl rfl (by decide +kernel) rfl rfl rfl hl.1 rfl (Nat.le_of_ble_eq_true rfl) dL_law_1193 ⟨Nat.le_of_ble_eq_true rfl, Nat.le_of_ble_eq_true rfl⟩ (fun H locs hP hD hS => ?_)
    refine W.lcmp hx hb dL_law_1196 ?_
    refine lv_if_eq (tgt := 1357) hx hb dL_law_1197 (by decide) (fun cq => ?_) (fun cq => absurd ((lg_cmp_eq _ _).mpr h3) cq)
    exact kk X Y (mkC oc.2.2.2.1 oc.2.2.2.2) (mkE oc.2.1 oc.2.2.1) (mka om.2 (x 1) (x 2) (x 3) (x 4) (x 5) (x 6) (x 7) (x 8) (x 9)) y H locs ⟨hIP, hIR, hIL, hIC, k0, k1, k2, k3⟩ hP hD hS
