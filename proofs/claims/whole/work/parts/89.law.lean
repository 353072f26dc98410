set_option maxHeartbeats 4000000 in
set_option maxRecDepth 100000 in
theorem law_c10 {p : Program} {l : Launch} {e : Env} {s : State} {m : MethodId} {below : List Frame} {meth : Method} {c : Code} {Q : State → Prop} {D : va_G} {cy : Nat → ClassId} {t : Nat → Nat} {O : Nat → Nat → Nat} {M : Nat → Nat} {sf : Nat → Option Nat} {wy : Nat → Int64} {X : Nat → Int32} {Y : Nat → Nat → Int32} {Z : Nat → Nat → Int64} {V : Nat → Int64} {x : Nat → Int32} {y : Nat → Nat → Int32} {b L i : Nat} {xs : Nat → Int32} {x3 : Int32} {H : Heap} {locs : List Loc} {ls : Array Slot} (C0 : lw_At p s m meth c b L xs) (hL : L ≤ 3072) (hi : i + 6 ≤ L) (ex : x3 = nI i) (hsf : sf 0 = some (O 10 0) ∧ sf 1 = some (O 11 0) ∧ sf 2 = some (O 12 0) ∧ sf 3 = some (O 13 0)) (hK : va_K D vwCl (TYS cy) s) (hE : EV t (LA s) s s.heap) (hIW : InvW wy) (hInv : LInv X Y x y) (hP : va_P D vwCl (wdL cy O M sf wy X Y Z V x y) H) (hD : va_D (LA s) (wdL cy O M sf wy X Y Z V x y)) (hS : va_S (LA s) s.heap H locs) (hl : lv_has ls 4 [(0, .ref b), (1, .ref (O 0 0)), (2, .ref (M 0)), (3, .int x3)]) (kk : ∀ (X : Nat → Int32) (Y : Nat → Nat → Int32) (Z : Nat → Nat → Int64) (V : Nat → Int64) (x : Nat → Int32) (y : Nat → Nat → Int32) (H : Heap) (locs : List Loc), LInv X Y x y → va_P D vwCl (wdL cy O M sf wy X Y Z V x y) H → va_D (LA s) (wdL cy O M sf wy X Y Z V x y) → va_S (LA s) s.heap H locs → W p l e room_1 s m #[Value.ref b] below meth c H locs 78 18884 Q (F0 m 1357 ls [])) : W p l e room_1 s m #[Value.ref b] below meth c H locs 78 18884 Q (F0 m 594 ls []) := by
  obtain ⟨hx, hb, hr, hml, hown, hts0, hX, hbl, hlocks, hgv⟩ := C0
  have hts : ∀ w ∈ wsL_law, w.before #[Value.ref b] s = true := fun w h => hts0 w (wsL_in w h)
  have hA : ∀ q : Nat, s.heap.size ≤ q → LA s q := fun _ h => h
  have hbA : ¬ LA s b := Nat.not_le.mpr hbl
  obtain ⟨hIP, hIR, hIL, hIC, k0, k1, k2, k3⟩ := hInv
  have b1 : vp_in (x3 + (1 : Int32)) L := by rw [ex, show nI i + (1 : Int32) = nI (i + 1) from nI_add i 1]; exact vp_in_nI (by omega) (by omega)
  have b2 : vp_in (x3 + (2 : Int32)) L := by rw [ex, show nI i + (2 : Int32) = nI (i + 2) from nI_add i 2]; exact vp_in_nI (by omega) (by omega)
  have b3 : vp_in (x3 + (3 : Int32)) L := by rw [ex, show nI i + (3 : Int32) = nI (i + 3) from nI_add i 3]; exact vp_in_nI (by omega) (by omega)
  have b4 : vp_in (x3 + (4 : Int32)) L := by rw [ex, show nI i + (4 : Int32) = nI (i + 4) from nI_add i 4]; exact vp_in_nI (by omega) (by omega)
  obtain ⟨oc, om, h1, h2, h3⟩ := op_takes hIP hIR hIL (x 0) (y 15) (xs (x3 + (1 : Int32)).toNatClampNeg) (xs (x3 + (2 : Int32)).toNatClampNeg) (xs (x3 + (3 : Int32)).toNatClampNeg) (xs (x3 + (4 : Int32)).toNatClampNeg)
  refine lv_aload_n hx hb dL_law_594 rfl (lv_at hl 1 rfl) ?_
  refine lv_aload_n hx hb dL_law_595 rfl (lv_at hl 0 rfl) ?_
  refine lv_iload_n hx hb dL_law_596 rfl (lv_at hl 3 rfl) ?_
  refine lv_iconst (v := (1 : Int32)) hx hb dL_law_597 (by decide) ?_
  refine lv_iadd hx hb dL_law_598 ?_
  refine va_sld hx hb hX hbl hbA hS b1 dL_law_599 ?_
  refine lv_aload_n hx hb dL_law_600 rfl (lv_at hl 0 rfl) ?_
  refine lv_iload_n hx hb dL_law_601 rfl (lv_at hl 3 rfl) ?_
  refine lv_iconst (v := (2 : Int32)) hx hb dL_law_602 (by decide) ?_
  refine lv_iadd hx hb dL_law_603 ?_
  refine va_sld hx hb hX hbl hbA hS b2 dL_law_604 ?_
  refine lv_aload_n hx hb dL_law_605 rfl (lv_at hl 0 rfl) ?_
  refine lv_iload_n hx hb dL_law_606 rfl (lv_at hl 3 rfl) ?_
  refine lv_iconst (v := (3 : Int32)) hx hb dL_law_607 (by decide) ?_
  refine lv_iadd hx hb dL_law_608 ?_
  refine va_sld hx hb hX hbl hbA hS b3 dL_law_609 ?_
  refine lv_aload_n hx hb dL_law_610 rfl (lv_at hl 0 rfl) ?_
  refine lv_iload_n hx hb dL_law_611 rfl (lv_at hl 3 rfl) ?_
  refine lv_iconst (v := (4 : Int32)) hx hb dL_law_612 (by decide) ?_
  refine lv_iadd hx hb dL_law_613 ?_
  refine va_sld hx hb hX hbl hbA hS b4 dL_law_614 ?_
  refine my_Vi2 (WS2 := (wdL cy O M sf wy X Y Z V x y)) ⟨hx, hb, hml, hown, hts⟩ (c_X7_takes l D cy t (O 0) (O 1) (O 2) (O 3) (O 4) (O 5) (O 6) (O 7) (O 8) (O 9) (X 0) (X 1) (X 2) (Y 0) (Y 1) (Y 2) (Y 3) (Y 4) (Y 5) (xs (x3 + (1 : Int32)).toNatClampNeg) (xs (x3 + (2 : Int32)).toNatClampNeg) (xs (x3 + (3 : Int32)).toNatClampNeg) (xs (x3 + (4 : Int32)).toNatClampNeg) h1) (cwV 4 hts gL_law_X7_takes rfl rfl rfl ⟨rfl, hd_X7_takes⟩ ⟨Nat.le_of_ble_eq_true rfl, Nat.le_of_ble_eq_true rfl⟩) hK hE hP hD (hD.of_fst wdL_fst) hS hA [0, 1, 2, 3, 4, 5, 6, 7, 8] 78 7 0 rfl rfl rfl rfl (by decide +kernel) rfl rfl rfl hl.1 rfl (Nat.le_of_ble_eq_true rfl) dL_law_615 ⟨Nat.le_of_ble_eq_true rfl, Nat.le_of_ble_eq_true rfl⟩ (fun H locs hP hD hS => ?_)
  refine lv_aload_n hx hb dL_law_618 rfl (lv_at hl 2 rfl) ?_
  refine lv_aload_n hx hb dL_law_619 rfl (lv_at hl 0 rfl) ?_
  refine lv_iload_n hx hb dL_law_620 rfl (lv_at hl 3 rfl) ?_
  refine lv_iconst (v := (1 : Int32)) hx hb dL_law_621 (by decide) ?_
  refine lv_iadd hx hb dL_law_622 ?_
  refine va_sld hx hb hX hbl hbA hS b1 dL_law_623 ?_
  refine lv_aload_n hx hb dL_law_624 rfl (lv_at hl 0 rfl) ?_
  refine lv_iload_n hx hb dL_law_625 rfl (lv_at hl 3 rfl) ?_
  refine lv_iconst (v := (2 : Int32)) hx hb dL_law_626 (by decide) ?_
  refine lv_iadd hx hb dL_law_627 ?_
  refine va_sld hx hb hX hbl hbA hS b2 dL_law_628 ?_
  refine lv_aload_n hx hb dL_law_629 rfl (lv_at hl 0 rfl) ?_
  refine lv_iload_n hx hb dL_law_630 rfl (lv_at hl 3 rfl) ?_
  refine lv_iconst (v := (3 : Int32)) hx hb dL_law_631 (by decide) ?_
  refine lv_iadd hx hb dL_law_632 ?_
  refine va_sld hx hb hX hbl hbA hS b3 dL_law_633 ?_
  refine lv_aload_n hx hb dL_law_634 rfl (lv_at hl 0 rfl) ?_
  refine lv_iload_n hx hb dL_law_635 rfl (lv_at hl 3 rfl) ?_
  refine lv_iconst (v := (4 : Int32)) hx hb dL_law_636 (by decide) ?_
  refine lv_iadd hx hb dL_law_637 ?_
  refine va_sld hx hb hX hbl hbA hS b4 dL_law_638 ?_
  refine my_Vi2 (WS2 := (wdL cy O M sf wy X Y Z V (mka om.2.1 (x 1) (x 2) (x 3) (x 4) (x 5) (x 6) (x 7) (x 8) (x 9)) (mkb (y 0) (y 1) (y 2) (y 3) (y 4) (y 5) (y 6) (y 7) (y 8) (y 9) (y 10) (y 11) (y 12) (y 13) (y 14) om.2.2 (y 16) (y 17) (y 18) (y 19) (y 20) (y 21) (y 22) (y 23) (y 24)))) ⟨hx, hb, hml, hown, hts⟩ (c_X8_takes l D cy t M (x 0) (x 1) (x 2) (x 3) (x 4) (x 5) (x 6) (x 7) (x 8) (x 9) (y 2) (y 6) (y 7) (y 8) (y 10) (y 11) (y 15) (xs (x3 + (1 : Int32)).toNatClampNeg) (xs (x3 + (2 : Int32)).toNatClampNeg) (xs (x3 + (3 : Int32)).toNatClampNeg) (xs (x3 + (4 : Int32)).toNatClampNeg) h2) (cwV 4 hts gL_law_X8_takes rfl rfl rfl ⟨rfl, hd_X8_takes⟩ ⟨Nat.le_of_ble_eq_true rfl, Nat.le_of_ble_eq_true rfl⟩) hK hE hP hD (hD.of_fst wdL_fst) hS hA [51, 54, 58, 59, 60, 62, 63, 67] 78 8 0 rfl rfl rfl rfl (by decide +kernel) rfl rfl rfl hl.1 rfl (Nat.le_of_ble_eq_true rfl) dL_law_639 ⟨Nat.le_of_ble_eq_true rfl, Nat.le_of_ble_eq_true rfl⟩ (fun H locs hP hD hS => ?_)
  refine lv_icmp_eq (tgt := 1357) hx hb dL_law_642 (by decide) (fun cq => ?_) (fun cq => absurd h3 cq)
  exact kk X Y Z V (mka om.2.1 (x 1) (x 2) (x 3) (x 4) (x 5) (x 6) (x 7) (x 8) (x 9)) (mkb (y 0) (y 1) (y 2) (y 3) (y 4) (y 5) (y 6) (y 7) (y 8) (y 9) (y 10) (y 11) (y 12) (y 13) (y 14) om.2.2 (y 16) (y 17) (y 18) (y 19) (y 20) (y 21) (y 22) (y 23) (y 24)) H locs ⟨hIP, hIR, hIL, hIC, k0, k1, k2, k3⟩ hP hD hS

set_option maxHeartbeats 4000000 in
set_option maxRecDepth 100000 in
theorem law_c11 {p : Program} {l : Launch} {e : Env} {s : State} {m : MethodId} {below : List Frame} {meth : Method} {c : Code} {Q : State → Prop} {D : va_G} {cy : Nat → ClassId} {t : Nat → Nat} {O : Nat → Nat → Nat} {M : Nat → Nat} {sf : Nat → Option Nat} {wy : Nat → Int64} {X : Nat → Int32} {Y : Nat → Nat → Int32} {Z : Nat → Nat → Int64} {V : Nat → Int64} {x : Nat → Int32} {y : Nat → Nat → Int32} {b L i : Nat} {xs : Nat → Int32} {x3 : Int32} {H : Heap} {locs : List Loc} {ls : Array Slot} (C0 : lw_At p s m meth c b L xs) (hL : L ≤ 3072) (hi : i + 6 ≤ L) (ex : x3 = nI i) (hsf : sf 0 = some (O 10 0) ∧ sf 1 = some (O 11 0) ∧ sf 2 = some (O 12 0) ∧ sf 3 = some (O 13 0)) (hK : va_K D vwCl (TYS cy) s) (hE : EV t (LA s) s s.heap) (hIW : InvW wy) (hInv : LInv X Y x y) (hP : va_P D vwCl (wdL cy O M sf wy X Y Z V x y) H) (hD : va_D (LA s) (wdL cy O M sf wy X Y Z V x y)) (hS : va_S (LA s) s.heap H locs) (hl : lv_has ls 4 [(0, .ref b), (1, .ref (O 0 0)), (2, .ref (M 0)), (3, .int x3)]) (kk : ∀ (X : Nat → Int32) (Y : Nat → Nat → Int32) (Z : Nat → Nat → Int64) (V : Nat → Int64) (x : Nat → Int32) (y : Nat → Nat → Int32) (H : Heap) (locs : List Loc), LInv X Y x y → va_P D vwCl (wdL cy O M sf wy X Y Z V x y) H → va_D (LA s) (wdL cy O M sf wy X Y Z V x y) → va_S (LA s) s.heap H locs → W p l e room_1 s m #[Value.ref b] below meth c H locs 78 18884 Q (F0 m 1357 ls [])) : W p l e room_1 s m #[Value.ref b] below meth c H locs 78 18884 Q (F0 m 647 ls []) := by
  obtain ⟨hx, hb, hr, hml, hown, hts0, hX, hbl, hlocks, hgv⟩ := C0
  have hts : ∀ w ∈ wsL_law, w.before #[Value.ref b] s = true := fun w h => hts0 w (wsL_in w h)
  have hA : ∀ q : Nat, s.heap.size ≤ q → LA s q := fun _ h => h
  have hbA : ¬ LA s b := Nat.not_le.mpr hbl
  obtain ⟨hIP, hIR, hIL, hIC, k0, k1, k2, k3⟩ := hInv
  have b1 : vp_in (x3 + (1 : Int32)) L := by rw [ex, show nI i + (1 : Int32) = nI (i + 1) from nI_add i 1]; exact vp_in_nI (by omega) (by omega)
  have b2 : vp_in (x3 + (2 : Int32)) L := by rw [ex, show nI i + (2 : Int32) = nI (i + 2) from nI_add i 2]; exact vp_in_nI (by omega) (by omega)
  have b3 : vp_in (x3 + (3 : Int32)) L := by rw [ex, show nI i + (3 : Int32) = nI (i + 3) from nI_add i 3]; exact vp_in_nI (by omega) (by omega)
  obtain ⟨oc, om, h1, h2, h3⟩ := op_shown hIP hIR hIL (Y 7) (Y 8) (Y 10) (x 0) (x 5) (x 6) (x 7) (x 8) (y 12) (y 13) (y 15) (xs (x3 + (1 : Int32)).toNatClampNeg) (xs (x3 + (2 : Int32)).toNatClampNeg) (xs (x3 + (3 : Int32)).toNatClampNeg)
  refine lv_aload_n hx hb dL_law_647 rfl (lv_at hl 1 rfl) ?_
  refine lv_aload_n hx hb dL_law_648 rfl (lv_at hl 0 rfl) ?_
  refine lv_iload_n hx hb dL_law_649 rfl (lv_at hl 3 rfl) ?_
  refine lv_iconst (v := (1 : Int32)) hx hb dL_law_650 (by decide) ?_
  refine lv_iadd hx hb dL_law_651 ?_
  refine va_sld hx hb hX hbl hbA hS b1 dL_law_652 ?_
  refine lv_aload_n hx hb dL_law_653 rfl (lv_at hl 0 rfl) ?_
  refine lv_iload_n hx hb dL_law_654 rfl (lv_at hl 3 rfl) ?_
  refine lv_iconst (v := (2 : Int32)) hx hb dL_law_655 (by decide) ?_
  refine lv_iadd hx hb dL_law_656 ?_
  refine va_sld hx hb hX hbl hbA hS b2 dL_law_657 ?_
  refine lv_aload_n hx hb dL_law_658 rfl (lv_at hl 0 rfl) ?_
  refine lv_iload_n hx hb dL_law_659 rfl (lv_at hl 3 rfl) ?_
  refine lv_iconst (v := (3 : Int32)) hx hb dL_law_660 (by decide) ?_
  refine lv_iadd hx hb dL_law_661 ?_
  refine va_sld hx hb hX hbl hbA hS b3 dL_law_662 ?_
  refine my_Vi2 (WS2 := (wdL cy O M sf wy X (mkB (Y 0) (Y 1) (Y 2) (Y 3) (Y 4) (Y 5) (Y 6) oc.2.1 oc.2.2.1 (Y 9) oc.2.2.2 (Y 11) (Y 12) (Y 13) (Y 14) (Y 15) (Y 16) (Y 17) (Y 20) (Y 21) (Y 22) (Y 23) (Y 24) (Y 25) (Y 26) (Y 27) (Y 28) (Y 29) (Y 30) (Y 31) (Y 32) (Y 33) (Y 34) (Y 35)) Z V x y)) ⟨hx, hb, hml, hown, hts⟩ (c_X7_shown l D cy t (O 0) (O 1) (O 2) (O 3) (O 4) (O 5) (O 6) (O 7) (O 8) (O 9) (X 0) (X 1) (X 2) (Y 0) (Y 1) (Y 2) (Y 3) (Y 4) (Y 5) (X 4) (Y 7) (Y 8) (Y 10) (xs (x3 + (1 : Int32)).toNatClampNeg) (xs (x3 + (2 : Int32)).toNatClampNeg) (xs (x3 + (3 : Int32)).toNatClampNeg) h1) (cwV 3 hts gL_law_X7_shown rfl rfl rfl ⟨rfl, hd_X7_shown⟩ ⟨Nat.le_of_ble_eq_true rfl, Nat.le_of_ble_eq_true rfl⟩) hK hE hP hD (hD.of_fst wdL_fst) hS hA [0, 1, 2, 3, 4, 5, 6, 7, 8, 11, 12, 13, 14, 17] 78 7 0 rfl rfl rfl rfl (by decide +kernel) rfl rfl rfl hl.1 rfl (Nat.le_of_ble_eq_true rfl) dL_law_663 ⟨Nat.le_of_ble_eq_true rfl, Nat.le_of_ble_eq_true rfl⟩ (fun H locs hP hD hS => ?_)
  refine lv_aload_n hx hb dL_law_666 rfl (lv_at hl 2 rfl) ?_
  refine lv_aload_n hx hb dL_law_667 rfl (lv_at hl 0 rfl) ?_
  refine lv_iload_n hx hb dL_law_668 rfl (lv_at hl 3 rfl) ?_
  refine lv_iconst (v := (1 : Int32)) hx hb dL_law_669 (by decide) ?_
  refine lv_iadd hx hb dL_law_670 ?_
  refine va_sld hx hb hX hbl hbA hS b1 dL_law_671 ?_
  refine lv_aload_n hx hb dL_law_672 rfl (lv_at hl 0 rfl) ?_
  refine lv_iload_n hx hb dL_law_673 rfl (lv_at hl 3 rfl) ?_
  refine lv_iconst (v := (2 : Int32)) hx hb dL_law_674 (by decide) ?_
  refine lv_iadd hx hb dL_law_675 ?_
  refine va_sld hx hb hX hbl hbA hS b2 dL_law_676 ?_
  refine lv_aload_n hx hb dL_law_677 rfl (lv_at hl 0 rfl) ?_
  refine lv_iload_n hx hb dL_law_678 rfl (lv_at hl 3 rfl) ?_
  refine lv_iconst (v := (3 : Int32)) hx hb dL_law_679 (by decide) ?_
  refine lv_iadd hx hb dL_law_680 ?_
  refine va_sld hx hb hX hbl hbA hS b3 dL_law_681 ?_
  refine my_Vi2 (WS2 := (wdL cy O M sf wy X (mkB (Y 0) (Y 1) (Y 2) (Y 3) (Y 4) (Y 5) (Y 6) oc.2.1 oc.2.2.1 (Y 9) oc.2.2.2 (Y 11) (Y 12) (Y 13) (Y 14) (Y 15) (Y 16) (Y 17) (Y 20) (Y 21) (Y 22) (Y 23) (Y 24) (Y 25) (Y 26) (Y 27) (Y 28) (Y 29) (Y 30) (Y 31) (Y 32) (Y 33) (Y 34) (Y 35)) Z V (mka om.2.1 (x 1) (x 2) (x 3) (x 4) om.2.2.1 om.2.2.2.1 om.2.2.2.2.1 om.2.2.2.2.2.1 (x 9)) (mkb (y 0) (y 1) (y 2) (y 3) (y 4) (y 5) (y 6) (y 7) (y 8) (y 9) (y 10) (y 11) om.2.2.2.2.2.2.1 om.2.2.2.2.2.2.2.1 (y 14) om.2.2.2.2.2.2.2.2 (y 16) (y 17) (y 18) (y 19) (y 20) (y 21) (y 22) (y 23) (y 24)))) ⟨hx, hb, hml, hown, hts⟩ (c_X8_shown l D cy t M (x 0) (x 1) (x 2) (x 3) (x 4) (x 5) (x 6) (x 7) (x 8) (x 9) (y 0) (y 1) (y 2) (y 3) (y 4) (y 5) (y 6) (y 7) (y 8) (y 10) (y 11) (y 12) (y 13) (y 15) (xs (x3 + (1 : Int32)).toNatClampNeg) (xs (x3 + (2 : Int32)).toNatClampNeg) (xs (x3 + (3 : Int32)).toNatClampNeg) h2) (cwV 3 hts gL_law_X8_shown rfl rfl rfl ⟨rfl, hd_X8_shown⟩ ⟨Nat.le_of_ble_eq_true rfl, Nat.le_of_ble_eq_true rfl⟩) hK hE hP hD (hD.of_fst wdL_fst) hS hA [51, 52, 53, 54, 55, 56, 57, 58, 59, 60, 62, 63, 64, 65, 67] 78 8 0 rfl rfl rfl rfl (by decide +kernel) rfl rfl rfl hl.1 rfl (Nat.le_of_ble_eq_true rfl) dL_law_682 ⟨Nat.le_of_ble_eq_true rfl, Nat.le_of_ble_eq_true rfl⟩ (fun H locs hP hD hS => ?_)
  refine lv_icmp_eq (tgt := 1357) hx hb dL_law_685 (by decide) (fun cq => ?_) (fun cq => absurd h3 cq)
  exact kk X (mkB (Y 0) (Y 1) (Y 2) (Y 3) (Y 4) (Y 5) (Y 6) oc.2.1 oc.2.2.1 (Y 9) oc.2.2.2 (Y 11) (Y 12) (Y 13) (Y 14) (Y 15) (Y 16) (Y 17) (Y 20) (Y 21) (Y 22) (Y 23) (Y 24) (Y 25) (Y 26) (Y 27) (Y 28) (Y 29) (Y 30) (Y 31) (Y 32) (Y 33) (Y 34) (Y 35)) Z V (mka om.2.1 (x 1) (x 2) (x 3) (x 4) om.2.2.1 om.2.2.2.1 om.2.2.2.2.1 om.2.2.2.2.2.1 (x 9)) (mkb (y 0) (y 1) (y 2) (y 3) (y 4) (y 5) (y 6) (y 7) (y 8) (y 9) (y 10) (y 11) om.2.2.2.2.2.2.1 om.2.2.2.2.2.2.2.1 (y 14) om.2.2.2.2.2.2.2.2 (y 16) (y 17) (y 18) (y 19) (y 20) (y 21) (y 22) (y 23) (y 24)) H locs ⟨hIP, hIR, hIL, hIC, k0, k1, k2, k3⟩ hP hD hS

set_option maxHeartbeats 4000000 in
set_option maxRecDepth 100000 in
theorem law_c12 {p : Program} {l : Launch} {e : Env} {s : State} {m : MethodId} {below : List Frame} {meth : Method} {c : Code} {Q : State → Prop} {D : va_G} {cy : Nat → ClassId} {t : Nat → Nat} {O : Nat → Nat → Nat} {M : Nat → Nat} {sf : Nat → Option Nat} {wy : Nat → Int64} {X : Nat → Int32} {Y : Nat → Nat → Int32} {Z : Nat → Nat → Int64} {V : Nat → Int64} {x : Nat → Int32} {y : Nat → Nat → Int32} {b L i : Nat} {xs : Nat → Int32} {x3 : Int32} {H : Heap} {locs : List Loc} {ls : Array Slot} (C0 : lw_At p s m meth c b L xs) (hL : L ≤ 3072) (hi : i + 6 ≤ L) (ex : x3 = nI i) (hsf : sf 0 = some (O 10 0) ∧ sf 1 = some (O 11 0) ∧ sf 2 = some (O 12 0) ∧ sf 3 = some (O 13 0)) (hK : va_K D vwCl (TYS cy) s) (hE : EV t (LA s) s s.heap) (hIW : InvW wy) (hInv : LInv X Y x y) (hP : va_P D vwCl (wdL cy O M sf wy X Y Z V x y) H) (hD : va_D (LA s) (wdL cy O M sf wy X Y Z V x y)) (hS : va_S (LA s) s.heap H locs) (hl : lv_has ls 4 [(0, .ref b), (1, .ref (O 0 0)), (2, .ref (M 0)), (3, .int x3)]) (kk : ∀ (X : Nat → Int32) (Y : Nat → Nat → Int32) (Z : Nat → Nat → Int64) (V : Nat → Int64) (x : Nat → Int32) (y : Nat → Nat → Int32) (H : Heap) (locs : List Loc), LInv X Y x y → va_P D vwCl (wdL cy O M sf wy X Y Z V x y) H → va_D (LA s) (wdL cy O M sf wy X Y Z V x y) → va_S (LA s) s.heap H locs → W p l e room_1 s m #[Value.ref b] below meth c H locs 78 18884 Q (F0 m 1357 ls [])) : W p l e room_1 s m #[Value.ref b] below meth c H locs 78 18884 Q (F0 m 690 ls []) := by
  obtain ⟨hx, hb, hr, hml, hown, hts0, hX, hbl, hlocks, hgv⟩ := C0
  have hts : ∀ w ∈ wsL_law, w.before #[Value.ref b] s = true := fun w h => hts0 w (wsL_in w h)
  have hA : ∀ q : Nat, s.heap.size ≤ q → LA s q := fun _ h => h
  have hbA : ¬ LA s b := Nat.not_le.mpr hbl
  obtain ⟨hIP, hIR, hIL, hIC, k0, k1, k2, k3⟩ := hInv
  have b1 : vp_in (x3 + (1 : Int32)) L := by rw [ex, show nI i + (1 : Int32) = nI (i + 1) from nI_add i 1]; exact vp_in_nI (by omega) (by omega)
  have b2 : vp_in (x3 + (2 : Int32)) L := by rw [ex, show nI i + (2 : Int32) = nI (i + 2) from nI_add i 2]; exact vp_in_nI (by omega) (by omega)
  obtain ⟨oc, om, h1, h2, h3⟩ := op_back hIP hIR hIL (x 0) (y 15) (y 16) (xs (x3 + (1 : Int32)).toNatClampNeg) (xs (x3 + (2 : Int32)).toNatClampNeg)
  refine lv_aload_n hx hb dL_law_690 rfl (lv_at hl 1 rfl) ?_
  refine lv_aload_n hx hb dL_law_691 rfl (lv_at hl 0 rfl) ?_
  refine lv_iload_n hx hb dL_law_692 rfl (lv_at hl 3 rfl) ?_
  refine lv_iconst (v := (1 : Int32)) hx hb dL_law_693 (by decide) ?_
  refine lv_iadd hx hb dL_law_694 ?_
  refine va_sld hx hb hX hbl hbA hS b1 dL_law_695 ?_
  refine lv_aload_n hx hb dL_law_696 rfl (lv_at hl 0 rfl) ?_
  refine lv_iload_n hx hb dL_law_697 rfl (lv_at hl 3 rfl) ?_
  refine lv_iconst (v := (2 : Int32)) hx hb dL_law_698 (by decide) ?_
  refine lv_iadd hx hb dL_law_699 ?_
  refine va_sld hx hb hX hbl hbA hS b2 dL_law_700 ?_
  refine my_Vi2 (WS2 := (wdL cy O M sf wy X Y Z V x y)) ⟨hx, hb, hml, hown, hts⟩ (c_X7_back l D cy t (O 0) (O 1) (O 2) (O 3) (O 4) (O 5) (O 6) (O 7) (O 8) (O 9) (X 0) (X 1) (X 2) (Y 0) (Y 1) (Y 2) (Y 3) (Y 4) (Y 5) (xs (x3 + (1 : Int32)).toNatClampNeg) (xs (x3 + (2 : Int32)).toNatClampNeg) h1) (cwV 2 hts gL_law_X7_back rfl rfl rfl ⟨rfl, hd_X7_back⟩ ⟨Nat.le_of_ble_eq_true rfl, Nat.le_of_ble_eq_true rfl⟩) hK hE hP hD (hD.of_fst wdL_fst) hS hA [0, 1, 2, 3, 4, 5, 6, 7, 8] 78 7 0 rfl rfl rfl rfl (by decide +kernel) rfl rfl rfl hl.1 rfl (Nat.le_of_ble_eq_true rfl) dL_law_701 ⟨Nat.le_of_ble_eq_true rfl, Nat.le_of_ble_eq_true rfl⟩ (fun H locs hP hD hS => ?_)
  refine lv_aload_n hx hb dL_law_704 rfl (lv_at hl 2 rfl) ?_
  refine lv_aload_n hx hb dL_law_705 rfl (lv_at hl 0 rfl) ?_
  refine lv_iload_n hx hb dL_law_706 rfl (lv_at hl 3 rfl) ?_
  refine lv_iconst (v := (1 : Int32)) hx hb dL_law_707 (by decide) ?_
  refine lv_iadd hx hb dL_law_708 ?_
  refine va_sld hx hb hX hbl hbA hS b1 dL_law_709 ?_
  refine lv_aload_n hx hb dL_law_710 rfl (lv_at hl 0 rfl) ?_
  refine lv_iload_n hx hb dL_law_711 rfl (lv_at hl 3 rfl) ?_
  refine lv_iconst (v := (2 : Int32)) hx hb dL_law_712 (by decide) ?_
  refine lv_iadd hx hb dL_law_713 ?_
  refine va_sld hx hb hX hbl hbA hS b2 dL_law_714 ?_
  refine my_Vi2 (WS2 := (wdL cy O M sf wy X Y Z V (mka om.2.1 (x 1) (x 2) (x 3) (x 4) (x 5) (x 6) (x 7) (x 8) (x 9)) (mkb (y 0) (y 1) (y 2) (y 3) (y 4) (y 5) (y 6) (y 7) (y 8) (y 9) (y 10) (y 11) (y 12) (y 13) (y 14) om.2.2.1 om.2.2.2 (y 17) (y 18) (y 19) (y 20) (y 21) (y 22) (y 23) (y 24)))) ⟨hx, hb, hml, hown, hts⟩ (c_X8_back l D cy t M (x 0) (x 1) (x 2) (x 3) (x 4) (x 5) (x 6) (x 7) (x 8) (x 9) (y 2) (y 6) (y 7) (y 8) (y 10) (y 11) (y 15) (y 16) (xs (x3 + (1 : Int32)).toNatClampNeg) (xs (x3 + (2 : Int32)).toNatClampNeg) h2) (cwV 2 hts gL_law_X8_back rfl rfl rfl ⟨rfl, hd_X8_back⟩ ⟨Nat.le_of_ble_eq_true rfl, Nat.le_of_ble_eq_true rfl⟩) hK hE hP hD (hD.of_fst wdL_fst) hS hA [51, 54, 58, 59, 60, 62, 63, 67, 68] 78 8 0 rfl rfl rfl rfl (by decide +kernel) rfl rfl rfl hl.1 rfl (Nat.le_of_ble_eq_true rfl) dL_law_715 ⟨Nat.le_of_ble_eq_true rfl, Nat.le_of_ble_eq_true rfl⟩ (fun H locs hP hD hS => ?_)
  refine lv_icmp_eq (tgt := 1357) hx hb dL_law_718 (by decide) (fun cq => ?_) (fun cq => absurd h3 cq)
  exact kk X Y Z V (mka om.2.1 (x 1) (x 2) (x 3) (x 4) (x 5) (x 6) (x 7) (x 8) (x 9)) (mkb (y 0) (y 1) (y 2) (y 3) (y 4) (y 5) (y 6) (y 7) (y 8) (y 9) (y 10) (y 11) (y 12) (y 13) (y 14) om.2.2.1 om.2.2.2 (y 17) (y 18) (y 19) (y 20) (y 21) (y 22) (y 23) (y 24)) H locs ⟨hIP, hIR, hIL, hIC, k0, k1, k2, k3⟩ hP hD hS

set_option maxHeartbeats 4000000 in
set_option maxRecDepth 100000 in
theorem law_c13 {p : Program} {l : Launch} {e : Env} {s : State} {m : MethodId} {below : List Frame} {meth : Method} {c : Code} {Q : State → Prop} {D : va_G} {cy : Nat → ClassId} {t : Nat → Nat} {O : Nat → Nat → Nat} {M : Nat → Nat} {sf : Nat → Option Nat} {wy : Nat → Int64} {X : Nat → Int32} {Y : Nat → Nat → Int32} {Z : Nat → Nat → Int64} {V : Nat → Int64} {x : Nat → Int32} {y : Nat → Nat → Int32} {b L i : Nat} {xs : Nat → Int32} {x3 : Int32} {H : Heap} {locs : List Loc} {ls : Array Slot} (C0 : lw_At p s m meth c b L xs) (hL : L ≤ 3072) (hi : i + 6 ≤ L) (ex : x3 = nI i) (hsf : sf 0 = some (O 10 0) ∧ sf 1 = some (O 11 0) ∧ sf 2 = some (O 12 0) ∧ sf 3 = some (O 13 0)) (hK : va_K D vwCl (TYS cy) s) (hE : EV t (LA s) s s.heap) (hIW : InvW wy) (hInv : LInv X Y x y) (hP : va_P D vwCl (wdL cy O M sf wy X Y Z V x y) H) (hD : va_D (LA s) (wdL cy O M sf wy X Y Z V x y)) (hS : va_S (LA s) s.heap H locs) (hl : lv_has ls 4 [(0, .ref b), (1, .ref (O 0 0)), (2, .ref (M 0)), (3, .int x3)]) (kk : ∀ (X : Nat → Int32) (Y : Nat → Nat → Int32) (Z : Nat → Nat → Int64) (V : Nat → Int64) (x : Nat → Int32) (y : Nat → Nat → Int32) (H : Heap) (locs : List Loc), LInv X Y x y → va_P D vwCl (wdL cy O M sf wy X Y Z V x y) H → va_D (LA s) (wdL cy O M sf wy X Y Z V x y) → va_S (LA s) s.heap H locs → W p l e room_1 s m #[Value.ref b] below meth c H locs 78 18884 Q (F0 m 1357 ls [])) : W p l e room_1 s m #[Value.ref b] below meth c H locs 78 18884 Q (F0 m 723 ls []) := by
  obtain ⟨hx, hb, hr, hml, hown, hts0, hX, hbl, hlocks, hgv⟩ := C0
  have hts : ∀ w ∈ wsL_law, w.before #[Value.ref b] s = true := fun w h => hts0 w (wsL_in w h)
  have hA : ∀ q : Nat, s.heap.size ≤ q → LA s q := fun _ h => h
  have hbA : ¬ LA s b := Nat.not_le.mpr hbl
  obtain ⟨hIP, hIR, hIL, hIC, k0, k1, k2, k3⟩ := hInv
  have b1 : vp_in (x3 + (1 : Int32)) L := by rw [ex, show nI i + (1 : Int32) = nI (i + 1) from nI_add i 1]; exact vp_in_nI (by omega) (by omega)
  have b2 : vp_in (x3 + (2 : Int32)) L := by rw [ex, show nI i + (2 : Int32) = nI (i + 2) from nI_add i 2]; exact vp_in_nI (by omega) (by omega)
  obtain ⟨oc, om, h1, h2, h3⟩ := op_agreed hIP hIR hIL (x 0) (xs (x3 + (1 : Int32)).toNatClampNeg) (xs (x3 + (2 : Int32)).toNatClampNeg)
  refine lv_aload_n hx hb dL_law_723 rfl (lv_at hl 1 rfl) ?_
  refine lv_aload_n hx hb dL_law_724 rfl (lv_at hl 0 rfl) ?_
  refine lv_iload_n hx hb dL_law_725 rfl (lv_at hl 3 rfl) ?_
  refine lv_iconst (v := (1 : Int32)) hx hb dL_law_726 (by decide) ?_
  refine lv_iadd hx hb dL_law_727 ?_
  refine va_sld hx hb hX hbl hbA hS b1 dL_law_728 ?_
  refine lv_aload_n hx hb dL_law_729 rfl (lv_at hl 0 rfl) ?_
  refine lv_iload_n hx hb dL_law_730 rfl (lv_at hl 3 rfl) ?_
  refine lv_iconst (v := (2 : Int32)) hx hb dL_law_731 (by decide) ?_
  refine lv_iadd hx hb dL_law_732 ?_
  refine va_sld hx hb hX hbl hbA hS b2 dL_law_733 ?_
  refine my_Vi2 (WS2 := (wdL cy O M sf wy X Y Z V x y)) ⟨hx, hb, hml, hown, hts⟩ (c_X7_agreed l D cy t (O 0) (O 1) (O 2) (O 3) (O 4) (O 5) (O 6) (O 7) (O 8) (O 9) (X 0) (X 1) (X 2) (Y 0) (Y 2) (Y 3) (Y 4) (Y 5) (xs (x3 + (1 : Int32)).toNatClampNeg) (xs (x3 + (2 : Int32)).toNatClampNeg) h1) (cwV 2 hts gL_law_X7_agreed rfl rfl rfl ⟨rfl, hd_X7_agreed⟩ ⟨Nat.le_of_ble_eq_true rfl, Nat.le_of_ble_eq_true rfl⟩) hK hE hP hD (hD.of_fst wdL_fst) hS hA [0, 1, 2, 4, 5, 6, 7, 8] 78 7 0 rfl rfl rfl rfl (by decide +kernel) rfl rfl rfl hl.1 rfl (Nat.le_of_ble_eq_true rfl) dL_law_734 ⟨Nat.le_of_ble_eq_true rfl, Nat.le_of_ble_eq_true rfl⟩ (fun H locs hP hD hS => ?_)
  refine lv_aload_n hx hb dL_law_737 rfl (lv_at hl 2 rfl) ?_
  refine lv_aload_n hx hb dL_law_738 rfl (lv_at hl 0 rfl) ?_
  refine lv_iload_n hx hb dL_law_739 rfl (lv_at hl 3 rfl) ?_
  refine lv_iconst (v := (1 : Int32)) hx hb dL_law_740 (by decide) ?_
  refine lv_iadd hx hb dL_law_741 ?_
  refine va_sld hx hb hX hbl hbA hS b1 dL_law_742 ?_
  refine lv_aload_n hx hb dL_law_743 rfl (lv_at hl 0 rfl) ?_
  refine lv_iload_n hx hb dL_law_744 rfl (lv_at hl 3 rfl) ?_
  refine lv_iconst (v := (2 : Int32)) hx hb dL_law_745 (by decide) ?_
  refine lv_iadd hx hb dL_law_746 ?_
  refine va_sld hx hb hX hbl hbA hS b2 dL_law_747 ?_
  refine my_Vi2 (WS2 := (wdL cy O M sf wy X Y Z V (mka om.2 (x 1) (x 2) (x 3) (x 4) (x 5) (x 6) (x 7) (x 8) (x 9)) y)) ⟨hx, hb, hml, hown, hts⟩ (c_X8_agreed l D cy t M (x 0) (x 1) (x 2) (x 3) (x 4) (x 5) (x 6) (x 7) (x 8) (x 9) (y 2) (y 7) (y 8) (y 10) (y 11) (xs (x3 + (1 : Int32)).toNatClampNeg) (xs (x3 + (2 : Int32)).toNatClampNeg) h2) (cwV 2 hts gL_law_X8_agreed rfl rfl rfl ⟨rfl, hd_X8_agreed⟩ ⟨Nat.le_of_ble_eq_true rfl, Nat.le_of_ble_eq_true rfl⟩) hK hE hP hD (hD.of_fst wdL_fst) hS hA [51, 54, 59, 60, 62, 63] 78 8 0 rfl rfl rfl rfl (by decide +kernel) rfl rfl rfl hl.1 rfl (Nat.le_of_ble_eq_true rfl) dL_law_748 ⟨Nat.le_of_ble_eq_true rfl, Nat.le_of_ble_eq_true rfl⟩ (fun H locs hP hD hS => ?_)
  refine lv_icmp_eq (tgt := 1357) hx hb dL_law_751 (by decide) (fun cq => ?_) (fun cq => absurd h3 cq)
  exact kk X Y Z V (mka om.2 (x 1) (x 2) (x 3) (x 4) (x 5) (x 6) (x 7) (x 8) (x 9)) y H locs ⟨hIP, hIR, hIL, hIC, k0, k1, k2, k3⟩ hP hD hS

set_option maxHeartbeats 4000000 in
set_option maxRecDepth 100000 in
theorem law_c14 {p : Program} {l : Launch} {e : Env} {s : State} {m : MethodId} {below : List Frame} {meth : Method} {c : Code} {Q : State → Prop} {D : va_G} {cy : Nat → ClassId} {t : Nat → Nat} {O : Nat → Nat → Nat} {M : Nat → Nat} {sf : Nat → Option Nat} {wy : Nat → Int64} {X : Nat → Int32} {Y : Nat → Nat → Int32} {Z : Nat → Nat → Int64} {V : Nat → Int64} {x : Nat → Int32} {y : Nat → Nat → Int32} {b L i : Nat} {xs : Nat → Int32} {x3 : Int32} {H : Heap} {locs : List Loc} {ls : Array Slot} (C0 : lw_At p s m meth c b L xs) (hL : L ≤ 3072) (hi : i + 6 ≤ L) (ex : x3 = nI i) (hsf : sf 0 = some (O 10 0) ∧ sf 1 = some (O 11 0) ∧ sf 2 = some (O 12 0) ∧ sf 3 = some (O 13 0)) (hK : va_K D vwCl (TYS cy) s) (hE : EV t (LA s) s s.heap) (hIW : InvW wy) (hInv : LInv X Y x y) (hP : va_P D vwCl (wdL cy O M sf wy X Y Z V x y) H) (hD : va_D (LA s) (wdL cy O M sf wy X Y Z V x y)) (hS : va_S (LA s) s.heap H locs) (hl : lv_has ls 4 [(0, .ref b), (1, .ref (O 0 0)), (2, .ref (M 0)), (3, .int x3)]) (kk : ∀ (X : Nat → Int32) (Y : Nat → Nat → Int32) (Z : Nat → Nat → Int64) (V : Nat → Int64) (x : Nat → Int32) (y : Nat → Nat → Int32) (H : Heap) (locs : List Loc), LInv X Y x y → va_P D vwCl (wdL cy O M sf wy X Y Z V x y) H → va_D (LA s) (wdL cy O M sf wy X Y Z V x y) → va_S (LA s) s.heap H locs → W p l e room_1 s m #[Value.ref b] below meth c H locs 78 18884 Q (F0 m 1357 ls [])) : W p l e room_1 s m #[Value.ref b] below meth c H locs 78 18884 Q (F0 m 756 ls []) := by
  obtain ⟨hx, hb, hr, hml, hown, hts0, hX, hbl, hlocks, hgv⟩ := C0
  have hts : ∀ w ∈ wsL_law, w.before #[Value.ref b] s = true := fun w h => hts0 w (wsL_in w h)
  have hA : ∀ q : Nat, s.heap.size ≤ q → LA s q := fun _ h => h
  have hbA : ¬ LA s b := Nat.not_le.mpr hbl
  obtain ⟨hIP, hIR, hIL, hIC, k0, k1, k2, k3⟩ := hInv
  have b1 : vp_in (x3 + (1 : Int32)) L := by rw [ex, show nI i + (1 : Int32) = nI (i + 1) from nI_add i 1]; exact vp_in_nI (by omega) (by omega)
  have b2 : vp_in (x3 + (2 : Int32)) L := by rw [ex, show nI i + (2 : Int32) = nI (i + 2) from nI_add i 2]; exact vp_in_nI (by omega) (by omega)
  have b3 : vp_in (x3 + (3 : Int32)) L := by rw [ex, show nI i + (3 : Int32) = nI (i + 3) from nI_add i 3]; exact vp_in_nI (by omega) (by omega)
  by_cases hz : (xs (x3 + (3 : Int32)).toNatClampNeg) = 0
  · obtain ⟨oc, om, h1, h2, h3, hIP⟩ := op_wrong hIP hIR hIL (Y 7) (Y 8) (Y 10) (x 0) (x 5) (x 6) (x 7) (x 8) (y 12) (y 13) (y 14) (y 15) (y 17) (xs (x3 + (1 : Int32)).toNatClampNeg) (xs (x3 + (2 : Int32)).toNatClampNeg) (0 : Int32)
    refine lv_aload_n hx hb dL_law_756 rfl (lv_at hl 1 rfl) ?_
    refine lv_aload_n hx hb dL_law_757 rfl (lv_at hl 0 rfl) ?_
    refine lv_iload_n hx hb dL_law_758 rfl (lv_at hl 3 rfl) ?_
    refine lv_iconst (v := (1 : Int32)) hx hb dL_law_759 (by decide) ?_
    refine lv_iadd hx hb dL_law_760 ?_
    refine va_sld hx hb hX hbl hbA hS b1 dL_law_761 ?_
    refine lv_aload_n hx hb dL_law_762 rfl (lv_at hl 0 rfl) ?_
    refine lv_iload_n hx hb dL_law_763 rfl (lv_at hl 3 rfl) ?_
    refine lv_iconst (v := (2 : Int32)) hx hb dL_law_764 (by decide) ?_
    refine lv_iadd hx hb dL_law_765 ?_
    refine va_sld hx hb hX hbl hbA hS b2 dL_law_766 ?_
    refine lv_aload_n hx hb dL_law_767 rfl (lv_at hl 0 rfl) ?_
    refine lv_iload_n hx hb dL_law_768 rfl (lv_at hl 3 rfl) ?_
    refine lv_iconst (v := (3 : Int32)) hx hb dL_law_769 (by decide) ?_
    refine lv_iadd hx hb dL_law_770 ?_
    refine va_sld hx hb hX hbl hbA hS b3 dL_law_771 ?_
    refine lv_if_eq (tgt := 779) hx hb dL_law_772 (by decide) (fun cz => ?_) (fun cz => absurd hz cz)
    refine lv_iconst (v := (0 : Int32)) hx hb dL_law_779 (by decide) ?_
    refine my_Vi2 (WS2 := (wdL cy O M sf wy (mkA (X 0) (X 1) (X 2) oc.2.1 (X 4) (X 5) (X 6) (X 10) (X 11) (X 12) (X 13) (X 14) (X 15) (X 16) (X 17) (X 18) (X 19) (X 20) (X 21)) (mkB (Y 0) (Y 1) (Y 2) (Y 3) (Y 4) (Y 5) oc.2.2.1 oc.2.2.2.1 oc.2.2.2.2.1 (Y 9) oc.2.2.2.2.2 (Y 11) (Y 12) (Y 13) (Y 14) (Y 15) (Y 16) (Y 17) (Y 20) (Y 21) (Y 22) (Y 23) (Y 24) (Y 25) (Y 26) (Y 27) (Y 28) (Y 29) (Y 30) (Y 31) (Y 32) (Y 33) (Y 34) (Y 35)) Z V x y)) ⟨hx, hb, hml, hown, hts⟩ (c_X7_wrong l D cy t (O 0) (O 1) (O 2) (O 3) (O 4) (O 5) (O 6) (O 7) (O 8) (O 9) (X 0) (X 1) (X 2) (Y 0) (Y 1) (Y 2) (Y 3) (Y 4) (Y 5) (X 3) (Y 6) (X 4) (Y 7) (Y 8) (Y 10) (xs (x3 + (1 : Int32)).toNatClampNeg) (xs (x3 + (2 : Int32)).toNatClampNeg) (0 : Int32) h1) (cwV 3 hts gL_law_X7_wrong rfl rfl rfl ⟨rfl, hd_X7_wrong⟩ ⟨Nat.le_of_ble_eq_true rfl, Nat.le_of_ble_eq_true rfl⟩) hK hE hP hD (hD.of_fst wdL_fst) hS hA [0, 1, 2, 3, 4, 5, 6, 7, 8, 9, 10, 11, 12, 13, 14, 17] 78 7 0 rfl rfl rfl rfl (by decide +kernel) rfl rfl rfl hl.1 rfl (Nat.le_of_ble_eq_true rfl) dL_law_780 ⟨Nat.le_of_ble_eq_true rfl, Nat.le_of_ble_eq_true rfl⟩ (fun H locs hP hD hS => ?_)
    refine lv_aload_n hx hb dL_law_783 rfl (lv_at hl 2 rfl) ?_
    refine lv_aload_n hx hb dL_law_784 rfl (lv_at hl 0 rfl) ?_
    refine lv_iload_n hx hb dL_law_785 rfl (lv_at hl 3 rfl) ?_
    refine lv_iconst (v := (1 : Int32)) hx hb dL_law_786 (by decide) ?_
    refine lv_iadd hx hb dL_law_787 ?_
    refine va_sld hx hb hX hbl hbA hS b1 dL_law_788 ?_
    refine lv_aload_n hx hb dL_law_789 rfl (lv_at hl 0 rfl) ?_
    refine lv_iload_n hx hb dL_law_790 rfl (lv_at hl 3 rfl) ?_
    refine lv_iconst (v := (2 : Int32)) hx hb dL_law_791 (by decide) ?_
    refine lv_iadd hx hb dL_law_792 ?_
    refine va_sld hx hb hX hbl hbA hS b2 dL_law_793 ?_
    refine lv_aload_n hx hb dL_law_794 rfl (lv_at hl 0 rfl) ?_
    refine lv_iload_n hx hb dL_law_795 rfl (lv_at hl 3 rfl) ?_
    refine lv_iconst (v := (3 : Int32)) hx hb dL_law_796 (by decide) ?_
    refine lv_iadd hx hb dL_law_797 ?_
    refine va_sld hx hb hX hbl hbA hS b3 dL_law_798 ?_
    refine lv_if_eq (tgt := 806) hx hb dL_law_799 (by decide) (fun cz => ?_) (fun cz => absurd hz cz)
    refine lv_iconst (v := (0 : Int32)) hx hb dL_law_806 (by decide) ?_
    refine my_Vi2 (WS2 := (wdL cy O M sf wy (mkA (X 0) (X 1) (X 2) oc.2.1 (X 4) (X 5) (X 6) (X 10) (X 11) (X 12) (X 13) (X 14) (X 15) (X 16) (X 17) (X 18) (X 19) (X 20) (X 21)) (mkB (Y 0) (Y 1) (Y 2) (Y 3) (Y 4) (Y 5) oc.2.2.1 oc.2.2.2.1 oc.2.2.2.2.1 (Y 9) oc.2.2.2.2.2 (Y 11) (Y 12) (Y 13) (Y 14) (Y 15) (Y 16) (Y 17) (Y 20) (Y 21) (Y 22) (Y 23) (Y 24) (Y 25) (Y 26) (Y 27) (Y 28) (Y 29) (Y 30) (Y 31) (Y 32) (Y 33) (Y 34) (Y 35)) Z V (mka om.2.1 (x 1) (x 2) (x 3) (x 4) om.2.2.1 om.2.2.2.1 om.2.2.2.2.1 om.2.2.2.2.2.1 (x 9)) (mkb (y 0) (y 1) (y 2) (y 3) (y 4) (y 5) (y 6) (y 7) (y 8) (y 9) (y 10) (y 11) om.2.2.2.2.2.2.1 om.2.2.2.2.2.2.2.1 om.2.2.2.2.2.2.2.2.1 om.2.2.2.2.2.2.2.2.2.1 (y 16) om.2.2.2.2.2.2.2.2.2.2 (y 18) (y 19) (y 20) (y 21) (y 22) (y 23) (y 24)))) ⟨hx, hb, hml, hown, hts⟩ (c_X8_wrong l D cy t M (x 0) (x 1) (x 2) (x 3) (x 4) (x 5) (x 6) (x 7) (x 8) (x 9) (y 0) (y 1) (y 2) (y 3) (y 4) (y 5) (y 6) (y 7) (y 8) (y 10) (y 11) (y 12) (y 13) (y 14) (y 15) (y 17) (xs (x3 + (1 : Int32)).toNatClampNeg) (xs (x3 + (2 : Int32)).toNatClampNeg) (0 : Int32) h2) (cwV 3 hts gL_law_X8_wrong rfl rfl rfl ⟨rfl, hd_X8_wrong⟩ ⟨Nat.le_of_ble_eq_true rfl, Nat.le_of_ble_eq_true rfl⟩) hK hE hP hD (hD.of_fst wdL_fst) hS hA [51, 52, 53, 54, 55, 56, 57, 58, 59, 60, 62, 63, 64, 65, 66, 67, 69] 78 8 0 rfl rfl rfl rfl (by decide +kernel) rfl rfl rfl hl.1 rfl (Nat.le_of_ble_eq_true rfl) dL_law_807 ⟨Nat.le_of_ble_eq_true rfl, Nat.le_of_ble_eq_true rfl⟩ (fun H locs hP hD hS => ?_)
    refine lv_icmp_eq (tgt := 1357) hx hb dL_law_810 (by decide) (fun cq => ?_) (fun cq => absurd h3 cq)
    exact kk (mkA (X 0) (X 1) (X 2) oc.2.1 (X 4) (X 5) (X 6) (X 10) (X 11) (X 12) (X 13) (X 14) (X 15) (X 16) (X 17) (X 18) (X 19) (X 20) (X 21)) (mkB (Y 0) (Y 1) (Y 2) (Y 3) (Y 4) (Y 5) oc.2.2.1 oc.2.2.2.1 oc.2.2.2.2.1 (Y 9) oc.2.2.2.2.2 (Y 11) (Y 12) (Y 13) (Y 14) (Y 15) (Y 16) (Y 17) (Y 20) (Y 21) (Y 22) (Y 23) (Y 24) (Y 25) (Y 26) (Y 27) (Y 28) (Y 29) (Y 30) (Y 31) (Y 32) (Y 33) (Y 34) (Y 35)) Z V (mka om.2.1 (x 1) (x 2) (x 3) (x 4) om.2.2.1 om.2.2.2.1 om.2.2.2.2.1 om.2.2.2.2.2.1 (x 9)) (mkb (y 0) (y 1) (y 2) (y 3) (y 4) (y 5) (y 6) (y 7) (y 8) (y 9) (y 10) (y 11) om.2.2.2.2.2.2.1 om.2.2.2.2.2.2.2.1 om.2.2.2.2.2.2.2.2.1 om.2.2.2.2.2.2.2.2.2.1 (y 16) om.2.2.2.2.2.2.2.2.2.2 (y 18) (y 19) (y 20) (y 21) (y 22) (y 23) (y 24)) H locs ⟨hIP, hIR, hIL, hIC, k0, k1, k2, k3⟩ hP hD hS
  · obtain ⟨oc, om, h1, h2, h3, hIP⟩ := op_wrong hIP hIR hIL (Y 7) (Y 8) (Y 10) (x 0) (x 5) (x 6) (x 7) (x 8) (y 12) (y 13) (y 14) (y 15) (y 17) (xs (x3 + (1 : Int32)).toNatClampNeg) (xs (x3 + (2 : Int32)).toNatClampNeg) (1 : Int32)
    refine lv_aload_n hx hb dL_law_756 rfl (lv_at hl 1 rfl) ?_
    refine lv_aload_n hx hb dL_law_757 rfl (lv_at hl 0 rfl) ?_
    refine lv_iload_n hx hb dL_law_758 rfl (lv_at hl 3 rfl) ?_
    refine lv_iconst (v := (1 : Int32)) hx hb dL_law_759 (by decide) ?_
    refine lv_iadd hx hb dL_law_760 ?_
    refine va_sld hx hb hX hbl hbA hS b1 dL_law_761 ?_
    refine lv_aload_n hx hb dL_law_762 rfl (lv_at hl 0 rfl) ?_
    refine lv_iload_n hx hb dL_law_763 rfl (lv_at hl 3 rfl) ?_
    refine lv_iconst (v := (2 : Int32)) hx hb dL_law_764 (by decide) ?_
    refine lv_iadd hx hb dL_law_765 ?_
    refine va_sld hx hb hX hbl hbA hS b2 dL_law_766 ?_
    refine lv_aload_n hx hb dL_law_767 rfl (lv_at hl 0 rfl) ?_
    refine lv_iload_n hx hb dL_law_768 rfl (lv_at hl 3 rfl) ?_
    refine lv_iconst (v := (3 : Int32)) hx hb dL_law_769 (by decide) ?_
    refine lv_iadd hx hb dL_law_770 ?_
    refine va_sld hx hb hX hbl hbA hS b3 dL_law_771 ?_
    refine lv_if_eq (tgt := 779) hx hb dL_law_772 (by decide) (fun cz => absurd cz hz) (fun cz => ?_)
    refine lv_iconst (v := (1 : Int32)) hx hb dL_law_775 (by decide) ?_
    refine lv_goto (tgt := 780) hx hb dL_law_776 (by decide) ?_
    refine my_Vi2 (WS2 := (wdL cy O M sf wy (mkA (X 0) (X 1) (X 2) oc.2.1 (X 4) (X 5) (X 6) (X 10) (X 11) (X 12) (X 13) (X 14) (X 15) (X 16) (X 17) (X 18) (X 19) (X 20) (X 21)) (mkB (Y 0) (Y 1) (Y 2) (Y 3) (Y 4) (Y 5) oc.2.2.1 oc.2.2.2.1 oc.2.2.2.2.1 (Y 9) oc.2.2.2.2.2 (Y 11) (Y 12) (Y 13) (Y 14) (Y 15) (Y 16) (Y 17) (Y 20) (Y 21) (Y 22) (Y 23) (Y 24) (Y 25) (Y 26) (Y 27) (Y 28) (Y 29) (Y 30) (Y 31) (Y 32) (Y 33) (Y 34) (Y 35)) Z V x y)) ⟨hx, hb, hml, hown, hts⟩ (c_X7_wrong l D cy t (O 0) (O 1) (O 2) (O 3) (O 4) (O 5) (O 6) (O 7) (O 8) (O 9) (X 0) (X 1) (X 2) (Y 0) (Y 1) (Y 2) (Y 3) (Y 4) (Y 5) (X 3) (Y 6) (X 4) (Y 7) (Y 8) (Y 10) (xs (x3 + (1 : Int32)).toNatClampNeg) (xs (x3 + (2 : Int32)).toNatClampNeg) (1 : Int32) h1) (cwV 3 hts gL_law_X7_wrong rfl rfl rfl ⟨rfl, hd_X7_wrong⟩ ⟨Nat.le_of_ble_eq_true rfl, Nat.le_of_ble_eq_true rfl⟩) hK hE hP hD (hD.of_fst wdL_fst) hS hA [0, 1, 2, 3, 4, 5, 6, 7, 8, 9, 10, 11, 12, 13, 14, 17] 78 7 0 rfl rfl rfl rfl (by decide +kernel) rfl rfl rfl hl.1 rfl (Nat.le_of_ble_eq_true rfl) dL_law_780 ⟨Nat.le_of_ble_eq_true rfl, Nat.le_of_ble_eq_true rfl⟩ (fun H locs hP hD hS => ?_)
    refine lv_aload_n hx hb dL_law_783 rfl (lv_at hl 2 rfl) ?_
    refine lv_aload_n hx hb dL_law_784 rfl (lv_at hl 0 rfl) ?_
    refine lv_iload_n hx hb dL_law_785 rfl (lv_at hl 3 rfl) ?_
    refine lv_iconst (v := (1 : Int32)) hx hb dL_law_786 (by decide) ?_
    refine lv_iadd hx hb dL_law_787 ?_
    refine va_sld hx hb hX hbl hbA hS b1 dL_law_788 ?_
    refine lv_aload_n hx hb dL_law_789 rfl (lv_at hl 0 rfl) ?_
    refine lv_iload_n hx hb dL_law_790 rfl (lv_at hl 3 rfl) ?_
    refine lv_iconst (v := (2 : Int32)) hx hb dL_law_791 (by decide) ?_
    refine lv_iadd hx hb dL_law_792 ?_
    refine va_sld hx hb hX hbl hbA hS b2 dL_law_793 ?_
    refine lv_aload_n hx hb dL_law_794 rfl (lv_at hl 0 rfl) ?_
    refine lv_iload_n hx hb dL_law_795 rfl (lv_at hl 3 rfl) ?_
    refine lv_iconst (v := (3 : Int32)) hx hb dL_law_796 (by decide) ?_
    refine lv_iadd hx hb dL_law_797 ?_
    refine va_sld hx hb hX hbl hbA hS b3 dL_law_798 ?_
    refine lv_if_eq (tgt := 806) hx hb dL_law_799 (by decide) (fun cz => absurd cz hz) (fun cz => ?_)
    refine lv_iconst (v := (1 : Int32)) hx hb dL_law_802 (by decide) ?_
    refine lv_goto (tgt := 807) hx hb dL_law_803 (by decide) ?_
    refine my_Vi2 (WS2 := (wdL cy O M sf wy (mkA (X 0) (X 1) (X 2) oc.2.1 (X 4) (X 5) (X 6) (X 10) (X 11) (X 12) (X 13) (X 14) (X 15) (X 16) (X 17) (X 18) (X 19) (X 20) (X 21)) (mkB (Y 0) (Y 1) (Y 2) (Y 3) (Y 4) (Y 5) oc.2.2.1 oc.2.2.2.1 oc.2.2.2.2.1 (Y 9) oc.2.2.2.2.2 (Y 11) (Y 12) (Y 13) (Y 14) (Y 15) (Y 16) (Y 17) (Y 20) (Y 21) (Y 22) (Y 23) (Y 24) (Y 25) (Y 26) (Y 27) (Y 28) (Y 29) (Y 30) (Y 31) (Y 32) (Y 33) (Y 34) (Y 35)) Z V (mka om.2.1 (x 1) (x 2) (x 3) (x 4) om.2.2.1 om.2.2.2.1 om.2.2.2.2.1 om.2.2.2.2.2.1 (x 9)) (mkb (y 0) (y 1) (y 2) (y 3) (y 4) (y 5) (y 6) (y 7) (y 8) (y 9) (y 10) (y 11) om.2.2.2.2.2.2.1 om.2.2.2.2.2.2.2.1 om.2.2.2.2.2.2.2.2.1 om.2.2.2.2.2.2.2.2.2.1 (y 16) om.2.2.2.2.2.2.2.2.2.2 (y 18) (y 19) (y 20) (y 21) (y 22) (y 23) (y 24)))) ⟨hx, hb, hml, hown, hts⟩ (c_X8_wrong l D cy t M (x 0) (x 1) (x 2) (x 3) (x 4) (x 5) (x 6) (x 7) (x 8) (x 9) (y 0) (y 1) (y 2) (y 3) (y 4) (y 5) (y 6) (y 7) (y 8) (y 10) (y 11) (y 12) (y 13) (y 14) (y 15) (y 17) (xs (x3 + (1 : Int32)).toNatClampNeg) (xs (x3 + (2 : Int32)).toNatClampNeg) (1 : Int32) h2) (cwV 3 hts gL_law_X8_wrong rfl rfl rfl ⟨rfl, hd_X8_wrong⟩ ⟨Nat.le_of_ble_eq_true rfl, Nat.le_of_ble_eq_true rfl⟩) hK hE hP hD (hD.of_fst wdL_fst) hS hA [51, 52, 53, 54, 55, 56, 57, 58, 59, 60, 62, 63, 64, 65, 66, 67, 69] 78 8 0 rfl rfl rfl rfl (by decide +kernel) rfl rfl rfl hl.1 rfl (Nat.le_of_ble_eq_true rfl) dL_law_807 ⟨Nat.le_of_ble_eq_true rfl, Nat.le_of_ble_eq_true rfl⟩ (fun H locs hP hD hS => ?_)
    refine lv_icmp_eq (tgt := 1357) hx hb dL_law_810 (by decide) (fun cq => ?_) (fun cq => absurd h3 cq)
    exact kk (mkA (X 0) (X 1) (X 2) oc.2.1 (X 4) (X 5) (X 6) (X 10) (X 11) (X 12) (X 13) (X 14) (X 15) (X 16) (X 17) (X 18) (X 19) (X 20) (X 21)) (mkB (Y 0) (Y 1) (Y 2) (Y 3) (Y 4) (Y 5) oc.2.2.1 oc.2.2.2.1 oc.2.2.2.2.1 (Y 9) oc.2.2.2.2.2 (Y 11) (Y 12) (Y 13) (Y 14) (Y 15) (Y 16) (Y 17) (Y 20) (Y 21) (Y 22) (Y 23) (Y 24) (Y 25) (Y 26) (Y 27) (Y 28) (Y 29) (Y 30) (Y 31) (Y 32) (Y 33) (Y 34) (Y 35)) Z V (mka om.2.1 (x 1) (x 2) (x 3) (x 4) om.2.2.1 om.2.2.2.1 om.2.2.2.2.1 om.2.2.2.2.2.1 (x 9)) (mkb (y 0) (y 1) (y 2) (y 3) (y 4) (y 5) (y 6) (y 7) (y 8) (y 9) (y 10) (y 11) om.2.2.2.2.2.2.1 om.2.2.2.2.2.2.2.1 om.2.2.2.2.2.2.2.2.1 om.2.2.2.2.2.2.2.2.2.1 (y 16) om.2.2.2.2.2.2.2.2.2.2 (y 18) (y 19) (y 20) (y 21) (y 22) (y 23) (y 24)) H locs ⟨hIP, hIR, hIL, hIC, k0, k1, k2, k3⟩ hP hD hS
