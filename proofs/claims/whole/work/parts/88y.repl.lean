def replS : Nat → va_W → List Nat → va_W → va_W
  | _, [], _, _ => []
  | _, w :: ws, [], _ => w :: ws
  | _, w :: ws, _ :: _, [] => w :: ws
  | k, w :: ws, i :: is, c :: cs => cond (Nat.beq i k) (c :: replS (k + 1) ws is cs) (w :: replS (k + 1) ws (i :: is) (c :: cs))
def srt : Nat → List Nat → Bool
  | _, [] => true
  | k, i :: is => Nat.ble k i && srt (i + 1) is
theorem srt_ge : ∀ (is : List Nat) (k : Nat), srt k is = true → ∀ j ∈ is, k ≤ j
  | [], _, _, _, h => absurd h List.not_mem_nil
  | i :: is, k, hs, j, h => by
    rw [srt, Bool.and_eq_true] at hs
    have h1 : k ≤ i := Nat.le_of_ble_eq_true hs.1
    rcases List.mem_cons.mp h with e | h
    · omega
    · have := srt_ge is (i + 1) hs.2 j h
      omega
theorem replS_get : ∀ (ws : va_W) (k0 : Nat) (is : List Nat) (cs : va_W) (j : Nat) (q : Nat × va_E), is.length = cs.length → srt k0 is = true → (replS k0 ws is cs)[j]? = some q → q ∈ cs ∨ (k0 + j ∉ is ∧ ws[j]? = some q)
  | [], _, _, _, j, q, _, _, h => by
    rw [replS] at h
    simp at h
  | w :: ws, k0, [], cs, j, q, _, _, h => by
    rw [replS] at h
    exact Or.inr ⟨List.not_mem_nil, h⟩
  | w :: ws, k0, i :: is, [], j, q, hl, _, _ => by simp at hl
  | w :: ws, k0, i :: is, c :: cs, j, q, hl, hs, h => by
    have hl2 : is.length = cs.length := by simpa using hl
    have hs' := hs
    rw [srt, Bool.and_eq_true] at hs'
    have h1 : k0 ≤ i := Nat.le_of_ble_eq_true hs'.1
    rw [replS] at h
    by_cases e : i = k0
    · subst e
      rw [Nat.beq_refl, cond_true] at h
      cases j with
      | zero =>
        cases h
        exact Or.inl List.mem_cons_self
      | succ j =>
        rw [List.getElem?_cons_succ] at h
        rcases replS_get ws (i + 1) is cs j q hl2 hs'.2 h with h3 | ⟨h3, h4⟩
        · exact Or.inl (List.mem_cons_of_mem _ h3)
        · refine Or.inr ⟨fun hm => ?_, by rw [List.getElem?_cons_succ]; exact h4⟩
          rcases List.mem_cons.mp hm with z | z
          · omega
          · exact h3 (by rw [show i + 1 + j = i + (j + 1) by omega]; exact z)
    · have hb : Nat.beq i k0 = false := by
        cases hb : Nat.beq i k0 with
        | false => rfl
        | true => exact absurd (Nat.eq_of_beq_eq_true hb) e
      rw [hb, cond_false] at h
      have hs2 : srt (k0 + 1) (i :: is) = true := by
        rw [srt, Bool.and_eq_true]
        exact ⟨Nat.ble_eq_true_of_le (by omega), hs'.2⟩
      cases j with
      | zero =>
        cases h
        refine Or.inr ⟨fun hm => ?_, rfl⟩
        have := srt_ge (i :: is) (k0 + 1) hs2 _ hm
        omega
      | succ j =>
        rw [List.getElem?_cons_succ] at h
        rcases replS_get ws (k0 + 1) (i :: is) (c :: cs) j q hl hs2 h with h3 | ⟨h3, h4⟩
        · exact Or.inl h3
        · refine Or.inr ⟨fun hm => h3 (by rw [show k0 + 1 + j = k0 + (j + 1) by omega]; exact hm), by rw [List.getElem?_cons_succ]; exact h4⟩
theorem replS_P {D : va_G} {WS W0 W1 : va_W} {A : Nat → Prop} {isC : List Nat} {H H1 : Heap} (hP : va_P D vwCl WS H) (hD : va_D A WS) (hC : isC.map (fun i => WS[i]?) = W0.map some) (hlen : isC.length = W1.length) (hs : srt 0 isC = true) (hk : ∀ q : Nat, q < H.size → ¬ va_A W0 H.size q → H1[q]? = H[q]?) (hP1 : va_P D vwCl W1 H1) : va_P D vwCl (replS 0 WS isC W1) H1 := by
  intro k q hq
  rcases replS_get WS 0 isC W1 k q hlen hs hq with h1 | ⟨h1, h2⟩
  · obtain ⟨j, hj⟩ := List.mem_iff_getElem?.mp h1
    exact hP1 j q hj
  · rw [Nat.zero_add] at h1
    have hat := hP k q h2
    refine hat.kept (hk q.1 hat.lt ?_)
    rintro (⟨j, e, hj⟩ | hge)
    · have h3 : (W0.map some)[j]? = some (some (q.1, e)) := by rw [List.getElem?_map, hj]; rfl
      rw [← hC, List.getElem?_map] at h3
      cases h4 : isC[j]? with
      | none => rw [h4] at h3; cases h3
      | some i =>
        rw [h4] at h3
        have h5 : WS[i]? = some (q.1, e) := Option.some.inj h3
        have h6 := hD.1 i k _ _ h5 h2 rfl
        subst h6
        exact h1 (List.mem_of_getElem? h4)
    · exact absurd hat.lt (Nat.not_lt.mpr hge)
section MYC2
variable {p : Program} {l : Launch} {e : Env} {R : Room} {s : State} {m : MethodId} {args : Array Value} {below : List Frame} {meth : Method} {c : Code} {H : Heap} {locs : List Loc} {cells slots : Nat} {Q : State → Prop} {pc : Nat} {ls : Array Slot} {rest st0 : List Value} {A : Nat → Prop} {D : va_G} {cy : Nat → ClassId} {t : Nat → Nat} {cc : ByteArray}
variable {W0 W1 WS WS2 : va_W} {own C : String} {index maxL n nL f lo : Nat} {y : MethodName} {bytes : ByteArray} {ret : Option FieldType} {Ts ws : List Cond} {As : List Value} {b : Nat}
theorem my_Vi2 {r : Int32} (S : CallFix p m c cc nL s args Ts own) (hM : ctI l y ws f lo D cy t (.ref b :: As) W0 W1 r) (cw : CallW R s args own C index y bytes maxL ret ws (rmm f lo) 0 0 n) (hK : va_K D vwCl (TYS cy) s) (hE : EV t A s s.heap) (hP : va_P D vwCl WS H) (hD : va_D A WS) (hD2 : va_D A WS2) (hS : va_S A s.heap H locs) (hA : ∀ q, s.heap.size ≤ q → A q) (isC : List Nat) (nW : Nat) (ci q0 : Nat) {T : u_T} {N : Nat} {fs : List Value} (hc : vwCl[ci]? = some (C, T, N)) (he : W0[q0]? = some (b, .inr (ci, fs))) (hp : pick WS isC = W0) (hn : WS.length = nW) (hck : chk nW isC = true) (hs : srt 0 isC = true) (h2 : replS 0 WS isC W1 = WS2) (hlen : As.length = n) (hsize : ls.size = nL) (hst : st0 = As.reverse ++ .ref b :: rest) (hroom : (rest.map fun v => v.category).sum ≤ 8) (hdg : decode cc pc = .ok (.invokevirtual index, 3)) (hf : cells ≤ R.cells ∧ slots ≤ R.slots)
    (kk : ∀ (H1 : Heap) (locs1 : List Loc), va_P D vwCl WS2 H1 → va_D A WS2 → va_S A s.heap H1 locs1 → W p l e R s m args below meth c H1 locs1 cells slots Q (F0 m (pc + 3) ls (.int r :: rest))) : W p l e R s m args below meth c H locs cells slots Q (F0 m pc ls st0) := by
  have hC := pick_hC hn hck hp
  have hFc := va_free (wc := W0) hD hS hA isC hC
  refine va_calli (va_runV S (hM.2 H.size) cw ⟨ctP_blind, va_recv hK (hP.sub isC (fm_of hC)) (ci := ci) (q0 := q0) hc he, ct_pre hK hE hP hD hS hA isC hC (chk_nd hck)⟩ rfl hlen hsize hst (lv_room hroom) hdg hf) hS (fun q _ h => hFc q h) hFc (fun x u t H1 locs1 ht hvm hw hB hz hk hS1 => ?_)
  have hP1 : va_P D vwCl W1 t.heap := hB
  rw [ht] at hP1
  subst hw
  subst h2
  exact kk H1 locs1 (replS_P hP hD hC (len_C hC hM.1) hs hk hP1) hD2 hS1
theorem my_Vl2 {r : Int64} (S : CallFix p m c cc nL s args Ts own) (hM : ctL l y ws f lo D cy t (.ref b :: As) W0 W1 r) (cw : CallW R s args own C index y bytes maxL ret ws (rmm f lo) 0 0 n) (hK : va_K D vwCl (TYS cy) s) (hE : EV t A s s.heap) (hP : va_P D vwCl WS H) (hD : va_D A WS) (hD2 : va_D A WS2) (hS : va_S A s.heap H locs) (hA : ∀ q, s.heap.size ≤ q → A q) (isC : List Nat) (nW : Nat) (ci q0 : Nat) {T : u_T} {N : Nat} {fs : List Value} (hc : vwCl[ci]? = some (C, T, N)) (he : W0[q0]? = some (b, .inr (ci, fs))) (hp : pick WS isC = W0) (hn : WS.length = nW) (hck : chk nW isC = true) (hs : srt 0 isC = true) (h2 : replS 0 WS isC W1 = WS2) (hlen : As.length = n) (hsize : ls.size = nL) (hst : st0 = As.reverse ++ .ref b :: rest) (hroom : (rest.map fun v => v.category).sum ≤ 8) (hdg : decode cc pc = .ok (.invokevirtual index, 3)) (hf : cells ≤ R.cells ∧ slots ≤ R.slots)
    (kk : ∀ (H1 : Heap) (locs1 : List Loc), va_P D vwCl WS2 H1 → va_D A WS2 → va_S A s.heap H1 locs1 → W p l e R s m args below meth c H1 locs1 cells slots Q (F0 m (pc + 3) ls (.long r :: rest))) : W p l e R s m args below meth c H locs cells slots Q (F0 m pc ls st0) := by
  have hC := pick_hC hn hck hp
  have hFc := va_free (wc := W0) hD hS hA isC hC
  refine va_calll (va_runV S (hM.2 H.size) cw ⟨ctP_blind, va_recv hK (hP.sub isC (fm_of hC)) (ci := ci) (q0 := q0) hc he, ct_pre hK hE hP hD hS hA isC hC (chk_nd hck)⟩ rfl hlen hsize hst (lv_room hroom) hdg hf) hS (fun q _ h => hFc q h) hFc (fun x u t H1 locs1 ht hvm hw hB hz hk hS1 => ?_)
  have hP1 : va_P D vwCl W1 t.heap := hB
  rw [ht] at hP1
  subst hw
  subst h2
  exact kk H1 locs1 (replS_P hP hD hC (len_C hC hM.1) hs hk hP1) hD2 hS1
end MYC2
theorem wdL_fst {cy : Nat → ClassId} {O : Nat → Nat → Nat} {M : Nat → Nat} {sf : Nat → Option Nat} {wy : Nat → Int64} {X X' : Nat → Int32} {Y Y' : Nat → Nat → Int32} {Z Z' : Nat → Nat → Int64} {V V' : Nat → Int64} {x x' : Nat → Int32} {y y' : Nat → Nat → Int32} : (wdL cy O M sf wy X' Y' Z' V' x' y').map Prod.fst = (wdL cy O M sf wy X Y Z V x y).map Prod.fst := rfl
theorem sk_all {f g : Nat → Int32} (h0 : f 0 = g 0) (h1 : f 1 = g 1) (h2 : f 2 = g 2) (h3 : f 3 = g 3) : ∀ s, s < 4 → f s = g s := by
  intro s hs
  rcases (show s = 0 ∨ s = 1 ∨ s = 2 ∨ s = 3 by omega) with rfl | rfl | rfl | rfl
  · exact h0
  · exact h1
  · exact h2
  · exact h3
