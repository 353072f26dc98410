set_option maxRecDepth 100000 in
theorem law_sw {p : Program} {l : Launch} {e : Env} {s : State} {m : MethodId} {below : List Frame} {meth : Method} {c : Code} {Q : State → Prop} {b : Nat} {H : Heap} {locs : List Loc} {ls : Array Slot} (hx : p.tables.exec = Jvm.exec) (hb : c.code = cL_law) {j : Nat} (hj : j < 32) (h0 : W p l e room_1 s m #[Value.ref b] below meth c H locs 78 18884 Q (F0 m 168 ls [])) (h1 : W p l e room_1 s m #[Value.ref b] below meth c H locs 78 18884 Q (F0 m 211 ls [])) (h2 : W p l e room_1 s m #[Value.ref b] below meth c H locs 78 18884 Q (F0 m 244 ls [])) (h3 : W p l e room_1 s m #[Value.ref b] below meth c H locs 78 18884 Q (F0 m 287 ls [])) (h4 : W p l e room_1 s m #[Value.ref b] below meth c H locs 78 18884 Q (F0 m 340 ls [])) (h5 : W p l e room_1 s m #[Value.ref b] below meth c H locs 78 18884 Q (F0 m 383 ls [])) (h6 : W p l e room_1 s m #[Value.ref b] below meth c H locs 78 18884 Q (F0 m 416 ls [])) (h7 : W p l e room_1 s m #[Value.ref b] below meth c H locs 78 18884 Q (F0 m 449 ls [])) (h8 : W p l e room_1 s m #[Value.ref b] below meth c H locs 78 18884 Q (F0 m 492 ls [])) (h9 : W p l e room_1 s m #[Value.ref b] below meth c H locs 78 18884 Q (F0 m 551 ls [])) (h10 : W p l e room_1 s m #[Value.ref b] below meth c H locs 78 18884 Q (F0 m 594 ls [])) (h11 : W p l e room_1 s m #[Value.ref b] below meth c H locs 78 18884 Q (F0 m 647 ls [])) (h12 : W p l e room_1 s m #[Value.ref b] below meth c H locs 78 18884 Q (F0 m 690 ls [])) (h13 : W p l e room_1 s m #[Value.ref b] below meth c H locs 78 18884 Q (F0 m 723 ls [])) (h14 : W p l e room_1 s m #[Value.ref b] below meth c H locs 78 18884 Q (F0 m 756 ls [])) (h15 : W p l e room_1 s m #[Value.ref b] below meth c H locs 78 18884 Q (F0 m 815 ls [])) (h16 : W p l e room_1 s m #[Value.ref b] below meth c H locs 78 18884 Q (F0 m 848 ls [])) (h17 : W p l e room_1 s m #[Value.ref b] below meth c H locs 78 18884 Q (F0 m 871 ls [])) (h18 : W p l e room_1 s m #[Value.ref b] below meth c H locs 78 18884 Q (F0 m 914 ls [])) (h19 : W p l e room_1 s m #[Value.ref b] below meth c H locs 78 18884 Q (F0 m 957 ls [])) (h20 : W p l e room_1 s m #[Value.ref b] below meth c H locs 78 18884 Q (F0 m 1010 ls [])) (h21 : W p l e room_1 s m #[Value.ref b] below meth c H locs 78 18884 Q (F0 m 1043 ls [])) (h22 : W p l e room_1 s m #[Value.ref b] below meth c H locs 78 18884 Q (F0 m 1086 ls [])) (h23 : W p l e room_1 s m #[Value.ref b] below meth c H locs 78 18884 Q (F0 m 1099 ls [])) (h24 : W p l e room_1 s m #[Value.ref b] below meth c H locs 78 18884 Q (F0 m 1122 ls [])) (h25 : W p l e room_1 s m #[Value.ref b] below meth c H locs 78 18884 Q (F0 m 1202 ls [])) (h26 : W p l e room_1 s m #[Value.ref b] below meth c H locs 78 18884 Q (F0 m 1225 ls [])) (h27 : W p l e room_1 s m #[Value.ref b] below meth c H locs 78 18884 Q (F0 m 1248 ls [])) (h28 : W p l e room_1 s m #[Value.ref b] below meth c H locs 78 18884 Q (F0 m 1301 ls [])) (h29 : W p l e room_1 s m #[Value.ref b] below meth c H locs 78 18884 Q (F0 m 1334 ls [])) (hdef : W p l e room_1 s m #[Value.ref b] below meth c H locs 78 18884 Q (F0 m 1357 ls [])) : W p l e room_1 s m #[Value.ref b] below meth c H locs 78 18884 Q (F0 m 33 ls [.int (nI j)]) := by
  rcases (show j = 0 ∨ j = 1 ∨ j = 2 ∨ j = 3 ∨ j = 4 ∨ j = 5 ∨ j = 6 ∨ j = 7 ∨ j = 8 ∨ j = 9 ∨ j = 10 ∨ j = 11 ∨ j = 12 ∨ j = 13 ∨ j = 14 ∨ j = 15 ∨ j = 16 ∨ j = 17 ∨ j = 18 ∨ j = 19 ∨ j = 20 ∨ j = 21 ∨ j = 22 ∨ j = 23 ∨ j = 24 ∨ j = 25 ∨ j = 26 ∨ j = 27 ∨ j = 28 ∨ j = 29 ∨ j = 30 ∨ j = 31 by omega) with rfl | rfl | rfl | rfl | rfl | rfl | rfl | rfl | rfl | rfl | rfl | rfl | rfl | rfl | rfl | rfl | rfl | rfl | rfl | rfl | rfl | rfl | rfl | rfl | rfl | rfl | rfl | rfl | rfl | rfl | rfl | rfl
  · exact lv_tableIn (tgt := 168) hx hb dL_law_33 (by decide) (by decide) rfl (by decide) h0
  · exact lv_tableIn (tgt := 211) hx hb dL_law_33 (by decide) (by decide) rfl (by decide) h1
  · exact lv_tableIn (tgt := 244) hx hb dL_law_33 (by decide) (by decide) rfl (by decide) h2
  · exact lv_tableIn (tgt := 287) hx hb dL_law_33 (by decide) (by decide) rfl (by decide) h3
  · exact lv_tableIn (tgt := 340) hx hb dL_law_33 (by decide) (by decide) rfl (by decide) h4
  · exact lv_tableIn (tgt := 383) hx hb dL_law_33 (by decide) (by decide) rfl (by decide) h5
  · exact lv_tableIn (tgt := 416) hx hb dL_law_33 (by decide) (by decide) rfl (by decide) h6
  · exact lv_tableIn (tgt := 449) hx hb dL_law_33 (by decide) (by decide) rfl (by decide) h7
  · exact lv_tableIn (tgt := 492) hx hb dL_law_33 (by decide) (by decide) rfl (by decide) h8
  · exact lv_tableIn (tgt := 551) hx hb dL_law_33 (by decide) (by decide) rfl (by decide) h9
  · exact lv_tableIn (tgt := 594) hx hb dL_law_33 (by decide) (by decide) rfl (by decide) h10
  · exact lv_tableIn (tgt := 647) hx hb dL_law_33 (by decide) (by decide) rfl (by decide) h11
  · exact lv_tableIn (tgt := 690) hx hb dL_law_33 (by decide) (by decide) rfl (by decide) h12
  · exact lv_tableIn (tgt := 723) hx hb dL_law_33 (by decide) (by decide) rfl (by decide) h13
  · exact lv_tableIn (tgt := 756) hx hb dL_law_33 (by decide) (by decide) rfl (by decide) h14
  · exact lv_tableIn (tgt := 815) hx hb dL_law_33 (by decide) (by decide) rfl (by decide) h15
  · exact lv_tableIn (tgt := 848) hx hb dL_law_33 (by decide) (by decide) rfl (by decide) h16
  · exact lv_tableIn (tgt := 871) hx hb dL_law_33 (by decide) (by decide) rfl (by decide) h17
  · exact lv_tableIn (tgt := 914) hx hb dL_law_33 (by decide) (by decide) rfl (by decide) h18
  · exact lv_tableIn (tgt := 957) hx hb dL_law_33 (by decide) (by decide) rfl (by decide) h19
  · exact lv_tableIn (tgt := 1010) hx hb dL_law_33 (by decide) (by decide) rfl (by decide) h20
  · exact lv_tableIn (tgt := 1043) hx hb dL_law_33 (by decide) (by decide) rfl (by decide) h21
  · exact lv_tableIn (tgt := 1086) hx hb dL_law_33 (by decide) (by decide) rfl (by decide) h22
  · exact lv_tableIn (tgt := 1099) hx hb dL_law_33 (by decide) (by decide) rfl (by decide) h23
  · exact lv_tableIn (tgt := 1122) hx hb dL_law_33 (by decide) (by decide) rfl (by decide) h24
  · exact lv_tableIn (tgt := 1202) hx hb dL_law_33 (by decide) (by decide) rfl (by decide) h25
  · exact lv_tableIn (tgt := 1225) hx hb dL_law_33 (by decide) (by decide) rfl (by decide) h26
  · exact lv_tableIn (tgt := 1248) hx hb dL_law_33 (by decide) (by decide) rfl (by decide) h27
  · exact lv_tableIn (tgt := 1301) hx hb dL_law_33 (by decide) (by decide) rfl (by decide) h28
  · exact lv_tableIn (tgt := 1334) hx hb dL_law_33 (by decide) (by decide) rfl (by decide) h29
  · exact lv_tableOut (tgt := 1357) hx hb dL_law_33 (by decide) (by decide) hdef
  · exact lv_tableOut (tgt := 1357) hx hb dL_law_33 (by decide) (by decide) hdef
set_option maxHeartbeats 4000000 in
set_option maxRecDepth 100000 in
theorem law_loop {p : Program} {l : Launch} {e : Env} {s : State} {m : MethodId} {below : List Frame} {meth : Method} {c : Code} {D : va_G} {cy : Nat → ClassId} {t : Nat → Nat} {O : Nat → Nat → Nat} {M : Nat → Nat} {sf : Nat → Option Nat} {wy : Nat → Int64} {b L : Nat} {xs : Nat → Int32} (C0 : lw_At p s m meth c b L xs) (hL : L ≤ 3072) (hsf : sf 0 = some (O 10 0) ∧ sf 1 = some (O 11 0) ∧ sf 2 = some (O 12 0) ∧ sf 3 = some (O 13 0)) (hK : va_K D vwCl (TYS cy) s) (hE : EV t (LA s) s s.heap) (hIW : InvW wy) : ∀ (n i : Nat) (x3 : Int32), i ≤ L + 6 → L + 7 ≤ i + n → x3 = nI i → ∀ (X : Nat → Int32) (Y : Nat → Nat → Int32) (Z : Nat → Nat → Int64) (V : Nat → Int64) (x : Nat → Int32) (y : Nat → Nat → Int32) (H : Heap) (locs : List Loc), LInv X Y x y → va_P D vwCl (wdL cy O M sf wy X Y Z V x y) H → va_D (LA s) (wdL cy O M sf wy X Y Z V x y) → va_S (LA s) s.heap H locs → ∀ (ls : Array Slot), lv_has ls 4 [(0, .ref b), (1, .ref (O 0 0)), (2, .ref (M 0)), (3, .int x3)] → W p l e room_1 s m #[Value.ref b] below meth c H locs 78 18884 (lw_Z below #[Value.ref b] s) (F0 m 18 ls []) := by
  obtain ⟨hx, hb, hr, hml, hown, hts0, hX, hbl, hlocks, hgv⟩ := id C0
  have hbA : ¬ LA s b := Nat.not_le.mpr hbl
  intro n
  induction n with
  | zero =>
    intro i x3 h1 h2
    exact absurd h2 (by omega)
  | succ n ih =>
    intro i x3 hi6 hin ex X Y Z V x y H locs hInv hP hD hS ls hl
    refine lv_iload_n hx hb dL_law_18 rfl (lv_at hl 3 rfl) ?_
    refine lv_aload_n hx hb dL_law_19 rfl (lv_at hl 0 rfl) ?_
    refine va_slen hx hb hX hbl hbA hS dL_law_20 ?_
    refine lv_bipush (v := (6 : Int32)) hx hb dL_law_21 (by decide) ?_
    refine lv_isub hx hb dL_law_23 ?_
    have e1 : (Int32.ofNat L - (6 : Int32)).toInt = (L : Int) - 6 := pk_sub_toInt (a := L) (b := 6) (by omega) (by omega)
    have e2 : x3.toInt = i := by rw [ex]; exact nI_toInt (by omega)
    refine lv_icmp_gt (tgt := 1363) hx hb dL_law_24 (by decide) (fun cg => ?_) (fun cg => ?_)
    · refine lv_iconst (v := (1 : Int32)) hx hb dL_law_1363 (by decide) ?_
      refine va_forget (fun q hq => hS.2.2 q hq) ?_
      exact lw_ret hx hb hr hlocks dL_law_1364
    · have hi : i + 6 ≤ L := by
        rw [ltI, e1, e2] at cg
        omega
      have b0 : vp_in x3 L := by rw [ex]; exact vp_in_nI (by omega) (by omega)
      refine lv_aload_n hx hb dL_law_27 rfl (lv_at hl 0 rfl) ?_
      refine lv_iload_n hx hb dL_law_28 rfl (lv_at hl 3 rfl) ?_
      refine va_sld hx hb hX hbl hbA hS b0 dL_law_29 ?_
      refine lv_bipush (v := (31 : Int32)) hx hb dL_law_30 (by decide) ?_
      refine lv_iand hx hb dL_law_32 ?_
      obtain ⟨j, hj, ej⟩ := pk_andE (xs x3.toNatClampNeg) (m := 31) 5 (by decide)
      rw [ej]
      have kk : ∀ (X : Nat → Int32) (Y : Nat → Nat → Int32) (Z : Nat → Nat → Int64) (V : Nat → Int64) (x : Nat → Int32) (y : Nat → Nat → Int32) (H : Heap) (locs : List Loc), LInv X Y x y → va_P D vwCl (wdL cy O M sf wy X Y Z V x y) H → va_D (LA s) (wdL cy O M sf wy X Y Z V x y) → va_S (LA s) s.heap H locs → W p l e room_1 s m #[Value.ref b] below meth c H locs 78 18884 (lw_Z below #[Value.ref b] s) (F0 m 1357 ls []) := by
        intro X Y Z V x y H locs hInv hP hD hS
        obtain ⟨x4, ex4⟩ : ∃ z : Int32, z = x3 + 6 := ⟨_, rfl⟩
        refine lv_iinc (v := x4) (lv' := [(3, .int x4), (0, .ref b), (1, .ref (O 0 0)), (2, .ref (M 0))]) hx hb dL_law_1357 hl (k := 3) rfl (by rw [ex4]; rfl) (by decide) rfl (fun ls hl => ?_)
        refine lv_goto (tgt := 18) hx hb dL_law_1360 (by decide) ?_
        exact ih (i + 6) x4 (by omega) (by omega) (by rw [ex4, ex]; exact nI_add i 6) X Y Z V x y H locs hInv hP hD hS ls (lv_sub hl [1, 2, 3, 0] rfl)
      exact law_sw hx hb hj (law_c0 C0 hL hi ex hsf hK hE hIW hInv hP hD hS hl kk) (law_c1 C0 hL hi ex hsf hK hE hIW hInv hP hD hS hl kk) (law_c2 C0 hL hi ex hsf hK hE hIW hInv hP hD hS hl kk) (law_c3 C0 hL hi ex hsf hK hE hIW hInv hP hD hS hl kk) (law_c4 C0 hL hi ex hsf hK hE hIW hInv hP hD hS hl kk) (law_c5 C0 hL hi ex hsf hK hE hIW hInv hP hD hS hl kk) (law_c6 C0 hL hi ex hsf hK hE hIW hInv hP hD hS hl kk) (law_c7 C0 hL hi ex hsf hK hE hIW hInv hP hD hS hl kk) (law_c8 C0 hL hi ex hsf hK hE hIW hInv hP hD hS hl kk) (law_c9 C0 hL hi ex hsf hK hE hIW hInv hP hD hS hl kk) (law_c10 C0 hL hi ex hsf hK hE hIW hInv hP hD hS hl kk) (law_c11 C0 hL hi ex hsf hK hE hIW hInv hP hD hS hl kk) (law_c12 C0 hL hi ex hsf hK hE hIW hInv hP hD hS hl kk) (law_c13 C0 hL hi ex hsf hK hE hIW hInv hP hD hS hl kk) (law_c14 C0 hL hi ex hsf hK hE hIW hInv hP hD hS hl kk) (law_c15 C0 hL hi ex hsf hK hE hIW hInv hP hD hS hl kk) (law_c16 C0 hL hi ex hsf hK hE hIW hInv hP hD hS hl kk) (law_c17 C0 hL hi ex hsf hK hE hIW hInv hP hD hS hl kk) (law_c18 C0 hL hi ex hsf hK hE hIW hInv hP hD hS hl kk) (law_c19 C0 hL hi ex hsf hK hE hIW hInv hP hD hS hl kk) (law_c20 C0 hL hi ex hsf hK hE hIW hInv hP hD hS hl kk) (law_c21 C0 hL hi ex hsf hK hE hIW hInv hP hD hS hl kk) (law_c22 C0 hL hi ex hsf hK hE hIW hInv hP hD hS hl kk) (law_c23 C0 hL hi ex hsf hK hE hIW hInv hP hD hS hl kk) (law_c24 C0 hL hi ex hsf hK hE hIW hInv hP hD hS hl kk) (law_c25 C0 hL hi ex hsf hK hE hIW hInv hP hD hS hl kk) (law_c26 C0 hL hi ex hsf hK hE hIW hInv hP hD hS hl kk) (law_c27 C0 hL hi ex hsf hK hE hIW hInv hP hD hS hl kk) (law_c28 C0 hL hi ex hsf hK hE hIW hInv hP hD hS hl kk) (law_c29 C0 hL hi ex hsf hK hE hIW hInv hP hD hS hl kk) (kk X Y Z V x y H locs hInv hP hD hS)
