abbrev rmm (f lo : Nat) : Room := { frames := f, cells := 0, slots := 0, locals := lo }
abbrev TYS (cy : Nat → ClassId) : List (ClassId × FieldType) := [(cy 0, .int), (cy 1, .boolean), (cy 2, .long), (cy 3, .object "SeaGames$Play")]
def st_step : Nat → Int32 := fun k => match k with
  | 0 => 0
  | 1 => 1
  | 2 => 16
  | 3 => (-1)
  | _ => (-16)
def st_least : Nat → Int32 := fun k => match k with
  | 0 => 1
  | _ => 0
def st_most : Nat → Int32 := fun k => match k with
  | 0 => 5
  | 1 => 9
  | 2 => 999
  | 3 => 9
  | 4 => 99
  | 5 => 99
  | _ => 9
def ev_M : List (String × Nat × MethodName) := [(RX7, 9, yX5_init), (RX7, 27, yX6_init), (RX7, 37, yX0_init), (RX7, 51, yX3_init), (RX7, 58, yX1_init), (RX7, 65, yX2_init), (RX0, 30, yX7_spotOf), (RX0, 63, yX7_xOf), (RX0, 66, yX7_yOf), (RX0, 87, yX7_distance), (RX3, 21, yX7_yOf), (RX3, 25, yX7_xOf)]
def EV (t : Nat → Nat) (A : Nat → Prop) (U : State) (H : Heap) : Prop :=
  ((va_Z RX7 "STEP" "[I" (.ref (t 0)) A U H ∧ va_T .int (t 0) 5 (fun k => .int (st_step k)) A U H) ∧
   (va_Z RX7 "LEAST_RULE" "[I" (.ref (t 1)) A U H ∧ va_T .int (t 1) 7 (fun k => .int (st_least k)) A U H) ∧
   (va_Z RX7 "MOST_RULE" "[I" (.ref (t 2)) A U H ∧ va_T .int (t 2) 7 (fun k => .int (st_most k)) A U H)) ∧
  va_Nw (.fieldLinkNest RX0 74 RX7 "STEP" "[I" RX7) U ∧ ∀ q ∈ ev_M, va_Nw (.methodLinkNest q.1 q.2.1 q.2.2 RX7) U
theorem EV.go {t : Nat → Nat} {A B : Nat → Prop} {s U : State} {H0 H : Heap} (h : EV t A s H0) (hq : ∀ a : Nat, a < H0.size → ¬ A a → H[a]? = H0[a]?) (hAB : ∀ q, B q → A q) (hW : s.WarmedH U.vm) : EV t B U H := by
  obtain ⟨⟨⟨z0, t0⟩, ⟨z1, t1⟩, z2, t2⟩, hf, hm⟩ := h
  exact ⟨⟨⟨((z0.kept hq).narrow hAB).moved hW.alike, ((t0.kept hq).narrow hAB).moved hW.alike⟩, ⟨((z1.kept hq).narrow hAB).moved hW.alike, ((t1.kept hq).narrow hAB).moved hW.alike⟩, ((z2.kept hq).narrow hAB).moved hW.alike, ((t2.kept hq).narrow hAB).moved hW.alike⟩, va_Nw.warmF hW hf, fun q h => va_Nw.warmM hW (hm q h)⟩
theorem EV.calling {t : Nat → Nat} {A : Nat → Prop} {U : State} (g : JFrame) (mk : MethodId) (a : Array Value) (h : EV t A U U.heap) : EV t A (U.calling g mk a) (U.calling g mk a).heap := by
  obtain ⟨⟨⟨z0, t0⟩, ⟨z1, t1⟩, z2, t2⟩, hf, hm⟩ := h
  have hv : U.vm.Alike (U.calling g mk a).vm := Vm.Alike.refl U.vm
  exact ⟨⟨⟨z0.moved hv, t0.moved hv⟩, ⟨z1.moved hv, t1.moved hv⟩, z2.moved hv, t2.moved hv⟩, va_Nw.same rfl (rfl : U.vm = (U.calling g mk a).vm) hf, fun q h => va_Nw.same rfl (rfl : U.vm = (U.calling g mk a).vm) (hm q h)⟩
theorem ev_n0 {t : Nat → Nat} {A : Nat → Prop} {U : State} {H : Heap} (h : EV t A U H) : va_Nw (.methodLinkNest RX7 9 yX5_init RX7) U := h.2.2 (RX7, 9, yX5_init) (List.mem_of_getElem? (i := 0) rfl)
theorem ev_n1 {t : Nat → Nat} {A : Nat → Prop} {U : State} {H : Heap} (h : EV t A U H) : va_Nw (.methodLinkNest RX7 27 yX6_init RX7) U := h.2.2 (RX7, 27, yX6_init) (List.mem_of_getElem? (i := 1) rfl)
theorem ev_n2 {t : Nat → Nat} {A : Nat → Prop} {U : State} {H : Heap} (h : EV t A U H) : va_Nw (.methodLinkNest RX7 37 yX0_init RX7) U := h.2.2 (RX7, 37, yX0_init) (List.mem_of_getElem? (i := 2) rfl)
theorem ev_n3 {t : Nat → Nat} {A : Nat → Prop} {U : State} {H : Heap} (h : EV t A U H) : va_Nw (.methodLinkNest RX7 51 yX3_init RX7) U := h.2.2 (RX7, 51, yX3_init) (List.mem_of_getElem? (i := 3) rfl)
theorem ev_n4 {t : Nat → Nat} {A : Nat → Prop} {U : State} {H : Heap} (h : EV t A U H) : va_Nw (.methodLinkNest RX7 58 yX1_init RX7) U := h.2.2 (RX7, 58, yX1_init) (List.mem_of_getElem? (i := 4) rfl)
theorem ev_n5 {t : Nat → Nat} {A : Nat → Prop} {U : State} {H : Heap} (h : EV t A U H) : va_Nw (.methodLinkNest RX7 65 yX2_init RX7) U := h.2.2 (RX7, 65, yX2_init) (List.mem_of_getElem? (i := 5) rfl)
theorem ev_n6 {t : Nat → Nat} {A : Nat → Prop} {U : State} {H : Heap} (h : EV t A U H) : va_Nw (.methodLinkNest RX0 30 yX7_spotOf RX7) U := h.2.2 (RX0, 30, yX7_spotOf) (List.mem_of_getElem? (i := 6) rfl)
theorem ev_n7 {t : Nat → Nat} {A : Nat → Prop} {U : State} {H : Heap} (h : EV t A U H) : va_Nw (.methodLinkNest RX0 63 yX7_xOf RX7) U := h.2.2 (RX0, 63, yX7_xOf) (List.mem_of_getElem? (i := 7) rfl)
theorem ev_n8 {t : Nat → Nat} {A : Nat → Prop} {U : State} {H : Heap} (h : EV t A U H) : va_Nw (.methodLinkNest RX0 66 yX7_yOf RX7) U := h.2.2 (RX0, 66, yX7_yOf) (List.mem_of_getElem? (i := 8) rfl)
theorem ev_n9 {t : Nat → Nat} {A : Nat → Prop} {U : State} {H : Heap} (h : EV t A U H) : va_Nw (.methodLinkNest RX0 87 yX7_distance RX7) U := h.2.2 (RX0, 87, yX7_distance) (List.mem_of_getElem? (i := 9) rfl)
theorem ev_n10 {t : Nat → Nat} {A : Nat → Prop} {U : State} {H : Heap} (h : EV t A U H) : va_Nw (.methodLinkNest RX3 21 yX7_yOf RX7) U := h.2.2 (RX3, 21, yX7_yOf) (List.mem_of_getElem? (i := 10) rfl)
theorem ev_n11 {t : Nat → Nat} {A : Nat → Prop} {U : State} {H : Heap} (h : EV t A U H) : va_Nw (.methodLinkNest RX3 25 yX7_xOf RX7) U := h.2.2 (RX3, 25, yX7_xOf) (List.mem_of_getElem? (i := 11) rfl)
abbrev ctP (D : va_G) (cy : Nat → ClassId) (t : Nat → Nat) (av : List Value) (W0 : va_W) (sz : Nat) : Array Value → State → Prop := va_Pc av (fun U => U.heap.size = sz ∧ va_P D vwCl W0 U.heap ∧ va_K D vwCl (TYS cy) U ∧ va_D (fun _ => True) W0 ∧ EV t (va_A W0 sz) U U.heap)
abbrev ctB (D : va_G) (W1 : va_W) : Unit → State → Prop := fun _ u => va_P D vwCl W1 u.heap
def ctI (l : Launch) (y : MethodName) (ws : List Cond) (f lo : Nat) (D : va_G) (cy : Nat → ClassId) (t : Nat → Nat) (av : List Value) (W0 W1 : va_W) (r : Int32) : Prop := W0.map Prod.fst = W1.map Prod.fst ∧ ∀ sz : Nat, Met l y ws (rmm f lo) (ctP D cy t av W0 sz) (va_Qi (fun x (_ : Unit) => x = r) (ctB D W1) (va_A W0 sz)) 0 0 (va_A W0 sz)
def ctL (l : Launch) (y : MethodName) (ws : List Cond) (f lo : Nat) (D : va_G) (cy : Nat → ClassId) (t : Nat → Nat) (av : List Value) (W0 W1 : va_W) (r : Int64) : Prop := W0.map Prod.fst = W1.map Prod.fst ∧ ∀ sz : Nat, Met l y ws (rmm f lo) (ctP D cy t av W0 sz) (va_Ql (fun x (_ : Unit) => x = r) (ctB D W1) (va_A W0 sz)) 0 0 (va_A W0 sz)
def ctV (l : Launch) (y : MethodName) (ws : List Cond) (f lo : Nat) (D : va_G) (cy : Nat → ClassId) (t : Nat → Nat) (av : List Value) (W0 W1 : va_W) : Prop := W0.map Prod.fst = W1.map Prod.fst ∧ ∀ sz : Nat, Met l y ws (rmm f lo) (ctP D cy t av W0 sz) (va_Qv (fun _ => True) (ctB D W1) (va_A W0 sz)) 0 0 (va_A W0 sz)
def pick (ws : va_W) : List Nat → va_W
  | [] => []
  | i :: is => match ws[i]? with
    | some c => c :: pick ws is
    | none => pick ws is
def repl (ws : va_W) : List Nat → va_W → va_W
  | [], _ => ws
  | _ :: _, [] => ws
  | i :: is, c :: cs => repl (ws.set i c) is cs
def chk (n : Nat) (is : List Nat) : Bool := va_nd is && is.all (fun i => decide (i < n))
theorem pick_map (ws : va_W) : ∀ is : List Nat, (∀ i ∈ is, i < ws.length) → is.map (fun i => ws[i]?) = (pick ws is).map some
  | [], _ => rfl
  | i :: is, h => by
    have h1 : i < ws.length := h i List.mem_cons_self
    have h2 := pick_map ws is (fun j hj => h j (List.mem_cons_of_mem _ hj))
    simp only [List.map_cons, pick, List.getElem?_eq_getElem h1, h2]
theorem repl_get : ∀ (is : List Nat) (cs ws : va_W) (k : Nat) (q : Nat × va_E), is.length = cs.length → (repl ws is cs)[k]? = some q → q ∈ cs ∨ (k ∉ is ∧ ws[k]? = some q)
  | [], [], ws, k, q, _, h => Or.inr ⟨List.not_mem_nil, h⟩
  | [], _ :: _, _, _, _, hl, _ => by simp at hl
  | _ :: _, [], _, _, _, hl, _ => by simp at hl
  | i :: is, c :: cs, ws, k, q, hl, h => by
    have hl2 : is.length = cs.length := by simpa using hl
    rcases repl_get is cs (ws.set i c) k q hl2 h with h1 | ⟨h1, h2⟩
    · exact Or.inl (List.mem_cons_of_mem _ h1)
    · by_cases hk : k = i
      · subst hk
        rw [List.getElem?_set] at h2
        rw [if_pos rfl] at h2
        split at h2
        · cases h2
          exact Or.inl List.mem_cons_self
        · cases h2
      · rw [List.getElem?_set_ne (fun e => hk e.symm)] at h2
        exact Or.inr ⟨fun hm => (List.mem_cons.mp hm).elim hk h1, h2⟩
theorem map_fst_set (ws : va_W) (i : Nat) (c : Nat × va_E) (h : (ws.map Prod.fst)[i]? = some c.1) : (ws.set i c).map Prod.fst = ws.map Prod.fst := by
  apply List.ext_getElem?
  intro k
  rw [List.map_set]
  by_cases hk : i = k
  · subst hk
    rw [List.getElem?_set, if_pos rfl]
    split
    · exact h.symm
    · rename_i hh
      rw [List.getElem?_eq_none (Nat.le_of_not_lt hh)]
  · rw [List.getElem?_set_ne hk]
theorem repl_fst : ∀ (is : List Nat) (cs ws : va_W), is.map (fun i => (ws.map Prod.fst)[i]?) = cs.map (fun c => some c.1) → (repl ws is cs).map Prod.fst = ws.map Prod.fst
  | [], [], _, _ => rfl
  | [], _ :: _, _, h => by simp at h
  | _ :: _, [], _, h => by simp at h
  | i :: is, c :: cs, ws, h => by
    simp only [List.map_cons, List.cons.injEq] at h
    have e := map_fst_set ws i c h.1
    show (repl (ws.set i c) is cs).map Prod.fst = _
    rw [repl_fst is cs (ws.set i c) (by rw [e]; exact h.2), e]
theorem va_D.of_fst {A : Nat → Prop} {ws ws' : va_W} (h : ws'.map Prod.fst = ws.map Prod.fst) (hD : va_D A ws) : va_D A ws' := by
  have g : ∀ (k : Nat) (q : Nat × va_E), ws'[k]? = some q → ∃ e : va_E, ws[k]? = some (q.1, e) := by
    intro k q hq
    have h1 : (ws'.map Prod.fst)[k]? = some q.1 := by rw [List.getElem?_map, hq]; rfl
    rw [h, List.getElem?_map] at h1
    cases h2 : ws[k]? with
    | none => rw [h2] at h1; cases h1
    | some r =>
      rw [h2] at h1
      have h3 : r.1 = q.1 := Option.some.inj h1
      exact ⟨r.2, by rw [← h3]⟩
  refine ⟨fun i j p q hi hj e => ?_, fun k q hq => ?_⟩
  · obtain ⟨e1, h1⟩ := g i p hi
    obtain ⟨e2, h2⟩ := g j q hj
    exact hD.1 i j _ _ h1 h2 e
  · obtain ⟨e1, h1⟩ := g k q hq
    exact hD.2 k (q.1, e1) h1
theorem chk_nd {n : Nat} {is : List Nat} (h : chk n is = true) : va_nd is = true := (Bool.and_eq_true _ _ ▸ h).1
theorem chk_lt {n : Nat} {is : List Nat} (h : chk n is = true) : ∀ i ∈ is, i < n := fun i hi => by
  have h2 := (Bool.and_eq_true _ _ ▸ h).2
  have h3 := List.all_eq_true.mp h2 i hi
  exact of_decide_eq_true h3
theorem pick_hC {WS W0 : va_W} {n : Nat} {isC : List Nat} (hn : WS.length = n) (hk : chk n isC = true) (hp : pick WS isC = W0) : isC.map (fun i => WS[i]?) = W0.map some := by
  rw [← hp]
  exact pick_map WS isC (fun i hi => by rw [hn]; exact chk_lt hk i hi)
theorem repl_P {D : va_G} {WS W0 W1 : va_W} {A : Nat → Prop} {isC : List Nat} {H H1 : Heap} (hP : va_P D vwCl WS H) (hD : va_D A WS) (hC : isC.map (fun i => WS[i]?) = W0.map some) (hlen : isC.length = W1.length) (hk : ∀ q : Nat, q < H.size → ¬ va_A W0 H.size q → H1[q]? = H[q]?) (hP1 : va_P D vwCl W1 H1) : va_P D vwCl (repl WS isC W1) H1 := by
  intro k q hq
  rcases repl_get isC W1 WS k q hlen hq with h1 | ⟨h1, h2⟩
  · obtain ⟨j, hj⟩ := List.mem_iff_getElem?.mp h1
    exact hP1 j q hj
  · have hat := hP k q h2
    refine hat.kept (hk q.1 hat.lt ?_)
    rintro (⟨j, e, hj⟩ | hge)
    · have h3 : (W0.map some)[j]? = some (some (q.1, e)) := by rw [List.getElem?_map, hj]; rfl
      rw [← hC, List.getElem?_map] at h3
      cases h4 : isC[j]? with
      | none => rw [h4] at h3; cases h3
      | some i =>
        rw [h4] at h3
        have h5 : WS[i]? = some (q.1, e) := Option.some.inj h3
        have h6 := hD.1 i k _ _ h5 h2 rfl
        subst h6
        exact h1 (List.mem_of_getElem? h4)
    · exact absurd hat.lt (Nat.not_lt.mpr hge)
theorem repl_D {WS W0 W1 : va_W} {A : Nat → Prop} {isC : List Nat} (hD : va_D A WS) (hC : isC.map (fun i => WS[i]?) = W0.map some) (hf : W0.map Prod.fst = W1.map Prod.fst) : va_D A (repl WS isC W1) := by
  refine hD.of_fst (repl_fst isC W1 WS ?_)
  have h1 : isC.map (fun i => (WS.map Prod.fst)[i]?) = (isC.map (fun i => WS[i]?)).map (fun o => o.map Prod.fst) := by
    rw [List.map_map]
    apply List.map_congr_left
    intro i _
    rw [List.getElem?_map]
    rfl
  rw [h1, hC, List.map_map]
  have h2 : W0.map ((fun o => Option.map Prod.fst o) ∘ some) = (W0.map Prod.fst).map some := by rw [List.map_map]; rfl
  have h3 : W1.map (fun c => some c.1) = (W1.map Prod.fst).map some := by rw [List.map_map]; rfl
  rw [h2, h3, hf]
theorem len_C {WS W0 W1 : va_W} {isC : List Nat} (hC : isC.map (fun i => WS[i]?) = W0.map some) (hf : W0.map Prod.fst = W1.map Prod.fst) : isC.length = W1.length := by
  have h1 := congrArg List.length hC
  have h2 := congrArg List.length hf
  simp only [List.length_map] at h1 h2
  omega
theorem ctB_of {D : va_G} {W1 : va_W} {u : Unit} {H : Heap} {t : State} (ht : t.heap = H) (h : va_P D vwCl W1 H) : ctB D W1 u t := by
  subst ht
  exact h
theorem fm_of {α β : Type} {f : α → Option β} : ∀ {is : List α} {ws : List β}, is.map f = ws.map some → is.filterMap f = ws
  | [], [], _ => rfl
  | [], _ :: _, h => by simp at h
  | _ :: _, [], h => by simp at h
  | i :: is, w :: ws, h => by
    simp only [List.map_cons, List.cons.injEq] at h
    simp only [List.filterMap_cons, h.1]
    rw [fm_of h.2]
theorem ctP_blind {D : va_G} {cy : Nat → ClassId} {t : Nat → Nat} {av : List Value} {W0 : va_W} {sz : Nat} : FrameBlind (ctP D cy t av W0 sz) := fun a U g mk q => by
  obtain ⟨q0, q1, qP, qK, qD, qE⟩ := q
  exact ⟨q0, q1, qP, va_K.moved (u := U) (U := U.calling g mk a) (Vm.Alike.refl U.vm) qK, qD, qE.calling g mk a⟩
section MYC
variable {p : Program} {l : Launch} {e : Env} {R : Room} {s : State} {m : MethodId} {args : Array Value} {below : List Frame} {meth : Method} {c : Code} {H : Heap} {locs : List Loc} {cells slots : Nat} {Q : State → Prop} {A : Nat → Prop} {D : va_G} {cy : Nat → ClassId} {t : Nat → Nat} {cc : ByteArray} {pc : Nat} {ls : Array Slot} {rest st0 : List Value}
theorem ct_pre {av : List Value} {W0 WS : va_W} (hK : va_K D vwCl (TYS cy) s) (hE : EV t A s s.heap) (hP : va_P D vwCl WS H) (hD : va_D A WS) (hS : va_S A s.heap H locs) (hA : ∀ q, s.heap.size ≤ q → A q) (isC : List Nat) (hC : isC.map (fun i => WS[i]?) = W0.map some) (hn : va_nd isC = true) : ∀ U : State, U.heap = H → s.WarmedH U.vm → ctP D cy t av W0 H.size av.toArray U := by
  intro U hU hW
  have hFc := va_free (wc := W0) hD hS hA isC hC
  refine ⟨rfl, by rw [hU], by rw [hU]; exact hP.sub isC (fm_of hC), va_K.moved hW.alike hK, (hD.sub isC hn hC).weaken (fun _ _ _ _ => trivial), ?_⟩
  rw [hU]
  exact hE.go hS.2.1 hFc hW
theorem mc_i {W0 W1 WS WS2 : va_W} {r : Int32} {a : Array Value} (hr : va_Run p l e R s m args below meth c H locs cells slots 0 0 (F0 m pc ls st0) rest (va_Qi (fun x (_ : Unit) => x = r) (ctB D W1) (va_A W0 H.size) a) (va_A W0 H.size)) (hP : va_P D vwCl WS H) (hD : va_D A WS) (hS : va_S A s.heap H locs) (hA : ∀ q, s.heap.size ≤ q → A q) (isC : List Nat) (hC : isC.map (fun i => WS[i]?) = W0.map some) (hfst : W0.map Prod.fst = W1.map Prod.fst) (h2 : repl WS isC W1 = WS2)
    (kk : ∀ (H1 : Heap) (locs1 : List Loc), va_P D vwCl WS2 H1 → va_D A WS2 → va_S A s.heap H1 locs1 → W p l e R s m args below meth c H1 locs1 cells slots Q (F0 m (pc + 3) ls (.int r :: rest))) : W p l e R s m args below meth c H locs cells slots Q (F0 m pc ls st0) := by
  have hFc := va_free (wc := W0) hD hS hA isC hC
  refine va_calli hr hS (fun q _ h => hFc q h) hFc (fun x u t H1 locs1 ht hvm hw hB hz hk hS1 => ?_)
  have hP1 : va_P D vwCl W1 t.heap := hB
  rw [ht] at hP1
  subst hw
  subst h2
  exact kk H1 locs1 (repl_P hP hD hC (len_C hC hfst) hk hP1) (repl_D hD hC hfst) hS1
theorem mc_l {W0 W1 WS WS2 : va_W} {r : Int64} {a : Array Value} (hr : va_Run p l e R s m args below meth c H locs cells slots 0 0 (F0 m pc ls st0) rest (va_Ql (fun x (_ : Unit) => x = r) (ctB D W1) (va_A W0 H.size) a) (va_A W0 H.size)) (hP : va_P D vwCl WS H) (hD : va_D A WS) (hS : va_S A s.heap H locs) (hA : ∀ q, s.heap.size ≤ q → A q) (isC : List Nat) (hC : isC.map (fun i => WS[i]?) = W0.map some) (hfst : W0.map Prod.fst = W1.map Prod.fst) (h2 : repl WS isC W1 = WS2)
    (kk : ∀ (H1 : Heap) (locs1 : List Loc), va_P D vwCl WS2 H1 → va_D A WS2 → va_S A s.heap H1 locs1 → W p l e R s m args below meth c H1 locs1 cells slots Q (F0 m (pc + 3) ls (.long r :: rest))) : W p l e R s m args below meth c H locs cells slots Q (F0 m pc ls st0) := by
  have hFc := va_free (wc := W0) hD hS hA isC hC
  refine va_calll hr hS (fun q _ h => hFc q h) hFc (fun x u t H1 locs1 ht hvm hw hB hz hk hS1 => ?_)
  have hP1 : va_P D vwCl W1 t.heap := hB
  rw [ht] at hP1
  subst hw
  subst h2
  exact kk H1 locs1 (repl_P hP hD hC (len_C hC hfst) hk hP1) (repl_D hD hC hfst) hS1
theorem mc_v {W0 W1 WS WS2 : va_W} {a : Array Value} (hr : va_Run p l e R s m args below meth c H locs cells slots 0 0 (F0 m pc ls st0) rest (va_Qv (fun _ => True) (ctB D W1) (va_A W0 H.size) a) (va_A W0 H.size)) (hP : va_P D vwCl WS H) (hD : va_D A WS) (hS : va_S A s.heap H locs) (hA : ∀ q, s.heap.size ≤ q → A q) (isC : List Nat) (hC : isC.map (fun i => WS[i]?) = W0.map some) (hfst : W0.map Prod.fst = W1.map Prod.fst) (h2 : repl WS isC W1 = WS2)
    (kk : ∀ (H1 : Heap) (locs1 : List Loc), va_P D vwCl WS2 H1 → va_D A WS2 → va_S A s.heap H1 locs1 → W p l e R s m args below meth c H1 locs1 cells slots Q (F0 m (pc + 3) ls rest)) : W p l e R s m args below meth c H locs cells slots Q (F0 m pc ls st0) := by
  have hFc := va_free (wc := W0) hD hS hA isC hC
  refine va_callv hr hS (fun q _ h => hFc q h) hFc (fun u t H1 locs1 ht hvm hw hB hz hk hS1 => ?_)
  have hP1 : va_P D vwCl W1 t.heap := hB
  rw [ht] at hP1
  subst h2
  exact kk H1 locs1 (repl_P hP hD hC (len_C hC hfst) hk hP1) (repl_D hD hC hfst) hS1
theorem my_iald (hexec : p.tables.exec = Jvm.exec) (hb : c.code = cc) {ws : va_W} (hK : va_K D vwCl (TYS cy) s) (hP : va_P D vwCl ws H) (q0 : Nat) {a n : Nat} {f : Nat → Int32} (ha : ws[q0]? = some (a, .inl (cy 0, n, .inl f))) {i v : Int32} (hin : vp_in i n) (hv : v = f i.toNatClampNeg) (hdg : decode cc pc = .ok (.iaload, 1))
    (kk : W p l e R s m args below meth c H locs cells slots Q (F0 m (pc + 1) ls (.int v :: rest))) : W p l e R s m args below meth c H locs cells slots Q (F0 m pc ls (.int i :: .ref a :: rest)) := by
  subst hv
  exact va_iald hexec hb hK hP q0 0 ha rfl hin hdg kk
theorem my_zald (hexec : p.tables.exec = Jvm.exec) (hb : c.code = cc) {ws : va_W} (hK : va_K D vwCl (TYS cy) s) (hP : va_P D vwCl ws H) (q0 : Nat) {a n : Nat} {f : Nat → Int32} (ha : ws[q0]? = some (a, .inl (cy 1, n, .inl f))) {i v : Int32} (hin : vp_in i n) (hv : v = f i.toNatClampNeg) (hdg : decode cc pc = .ok (.baload, 1))
    (kk : W p l e R s m args below meth c H locs cells slots Q (F0 m (pc + 1) ls (.int v :: rest))) : W p l e R s m args below meth c H locs cells slots Q (F0 m pc ls (.int i :: .ref a :: rest)) := by
  subst hv
  exact va_zald hexec hb hK hP q0 1 ha rfl hin hdg kk
theorem my_lald (hexec : p.tables.exec = Jvm.exec) (hb : c.code = cc) {ws : va_W} (hK : va_K D vwCl (TYS cy) s) (hP : va_P D vwCl ws H) (q0 : Nat) {a n : Nat} {f : Nat → Int64} (ha : ws[q0]? = some (a, .inl (cy 2, n, .inr (.inl f)))) {i : Int32} {v : Int64} (hin : vp_in i n) (hv : v = f i.toNatClampNeg) (hdg : decode cc pc = .ok (.laload, 1))
    (kk : W p l e R s m args below meth c H locs cells slots Q (F0 m (pc + 1) ls (.long v :: rest))) : W p l e R s m args below meth c H locs cells slots Q (F0 m pc ls (.int i :: .ref a :: rest)) := by
  subst hv
  exact va_lald hexec hb hK hP q0 2 ha rfl hin hdg kk
theorem my_tald (hexec : p.tables.exec = Jvm.exec) (hb : c.code = cc) {a n : Nat} {f : Nat → Int32} (hT : va_T .int a n (fun k => .int (f k)) A s s.heap) (hS : va_S A s.heap H locs) {i v : Int32} (hin : vp_in i n) (hv : v = f i.toNatClampNeg) (hdg : decode cc pc = .ok (.iaload, 1))
    (kk : W p l e R s m args below meth c H locs cells slots Q (F0 m (pc + 1) ls (.int v :: rest))) : W p l e R s m args below meth c H locs cells slots Q (F0 m pc ls (.int i :: .ref a :: rest)) := by
  subst hv
  exact va_ti hexec hb hT hS hin rfl hdg kk
theorem my_aald (hexec : p.tables.exec = Jvm.exec) (hb : c.code = cc) {ws : va_W} (hK : va_K D vwCl (TYS cy) s) (hP : va_P D vwCl ws H) (q0 : Nat) {a n b : Nat} {f : Nat → Option Nat} (ha : ws[q0]? = some (a, .inl (cy 3, n, .inr (.inr (.inr (.inr f)))))) {i : Int32} (hin : vp_in i n) (hv : f i.toNatClampNeg = some b) (hdg : decode cc pc = .ok (.aaload, 1))
    (kk : W p l e R s m args below meth c H locs cells slots Q (F0 m (pc + 1) ls (.ref b :: rest))) : W p l e R s m args below meth c H locs cells slots Q (F0 m pc ls (.int i :: .ref a :: rest)) := by
  refine va_aldq hexec hb hK hP q0 3 ha rfl hin hdg ?_
  rw [hv]
  exact kk
theorem my_iast (hexec : p.tables.exec = Jvm.exec) (hb : c.code = cc) {ws ws2 : va_W} (hK : va_K D vwCl (TYS cy) s) (hP : va_P D vwCl ws H) (hD : va_D A ws) (hS : va_S A s.heap H locs) (q0 : Nat) {a n : Nat} {f g : Nat → Int32} (ha : ws[q0]? = some (a, .inl (cy 0, n, .inl f))) {i x : Int32} (hin : vp_in i n) (hg : g = upd f i.toNatClampNeg x) (h2 : ws.set q0 (a, .inl (cy 0, n, .inl g)) = ws2) (hdg : decode cc pc = .ok (.iastore, 1))
    (kk : ∀ (H1 : Heap) (locs1 : List Loc), va_P D vwCl ws2 H1 → va_D A ws2 → va_S A s.heap H1 locs1 → W p l e R s m args below meth c H1 locs1 cells slots Q (F0 m (pc + 1) ls rest)) : W p l e R s m args below meth c H locs cells slots Q (F0 m pc ls (.int x :: .int i :: .ref a :: rest)) := by
  subst hg h2
  exact va_iast hexec hb hK hP hD hS q0 0 ha rfl hin hdg kk
theorem my_zast (hexec : p.tables.exec = Jvm.exec) (hb : c.code = cc) {ws ws2 : va_W} (hK : va_K D vwCl (TYS cy) s) (hP : va_P D vwCl ws H) (hD : va_D A ws) (hS : va_S A s.heap H locs) (q0 : Nat) {a n : Nat} {f g : Nat → Int32} (ha : ws[q0]? = some (a, .inl (cy 1, n, .inl f))) {i x : Int32} (hin : vp_in i n) (hg : g = upd f i.toNatClampNeg (vp_nar .boolean x)) (h2 : ws.set q0 (a, .inl (cy 1, n, .inl g)) = ws2) (hdg : decode cc pc = .ok (.bastore, 1))
    (kk : ∀ (H1 : Heap) (locs1 : List Loc), va_P D vwCl ws2 H1 → va_D A ws2 → va_S A s.heap H1 locs1 → W p l e R s m args below meth c H1 locs1 cells slots Q (F0 m (pc + 1) ls rest)) : W p l e R s m args below meth c H locs cells slots Q (F0 m pc ls (.int x :: .int i :: .ref a :: rest)) := by
  subst hg h2
  exact va_zast hexec hb hK hP hD hS q0 1 ha rfl hin hdg kk
theorem my_last (hexec : p.tables.exec = Jvm.exec) (hb : c.code = cc) {ws ws2 : va_W} (hK : va_K D vwCl (TYS cy) s) (hP : va_P D vwCl ws H) (hD : va_D A ws) (hS : va_S A s.heap H locs) (q0 : Nat) {a n : Nat} {f g : Nat → Int64} (ha : ws[q0]? = some (a, .inl (cy 2, n, .inr (.inl f)))) {i : Int32} {x : Int64} (hin : vp_in i n) (hg : g = vp_updL f i.toNatClampNeg x) (h2 : ws.set q0 (a, .inl (cy 2, n, .inr (.inl g))) = ws2) (hdg : decode cc pc = .ok (.lastore, 1))
    (kk : ∀ (H1 : Heap) (locs1 : List Loc), va_P D vwCl ws2 H1 → va_D A ws2 → va_S A s.heap H1 locs1 → W p l e R s m args below meth c H1 locs1 cells slots Q (F0 m (pc + 1) ls rest)) : W p l e R s m args below meth c H locs cells slots Q (F0 m pc ls (.long x :: .int i :: .ref a :: rest)) := by
  subst hg h2
  exact va_last hexec hb hK hP hD hS q0 2 ha rfl hin hdg kk
theorem my_topi {x y : Int32} (h : y = x) (k : W p l e R s m args below meth c H locs cells slots Q (F0 m pc ls (.int y :: rest))) : W p l e R s m args below meth c H locs cells slots Q (F0 m pc ls (.int x :: rest)) := by
  subst h
  exact k
theorem my_topl {x y : Int64} (h : y = x) (k : W p l e R s m args below meth c H locs cells slots Q (F0 m pc ls (.long y :: rest))) : W p l e R s m args below meth c H locs cells slots Q (F0 m pc ls (.long x :: rest)) := by
  subst h
  exact k
theorem my_copy (hexec : p.tables.exec = Jvm.exec) (hb : c.code = cc) (hml : c.maxLocals = ls.size) {own : String} {index : Nat} (hown : s.vm.findClass own = some m.cls) (hlink : (Cond.methodLink own index arraycopyName).before args s = true) (hnat : (Cond.native arraycopyName).before args s = true) (hstat : (Cond.static arraycopyName).before args s = true) (hini : (Cond.initialized "java/lang/System").before args s = true)
    {ws ws2 : va_W} (hK : va_K D vwCl (TYS cy) s) (hP : va_P D vwCl ws H) (hD : va_D A ws) (hS : va_S A s.heap H locs) (q0 q1 : Nat) {a a0 n0 n1 : Nat} {f g g' : Nat → Int32} (ha0 : ws[q0]? = some (a0, .inl (cy 0, n0, .inl f))) (ha1 : ws[q1]? = some (a, .inl (cy 0, n1, .inl g)))
    {sp dp n : Int32} (h1 : ¬ sp < 0) (h2 : ¬ dp < 0) (h3 : ¬ n < 0) (h4 : sp.toNatClampNeg + n.toNatClampNeg ≤ n0) (h5 : dp.toNatClampNeg + n.toNatClampNeg ≤ n1) (hg : g' = va_cpy f g sp.toNatClampNeg dp.toNatClampNeg n.toNatClampNeg) (hw : ws.set q1 (a, .inl (cy 0, n1, .inl g')) = ws2)
    (hframes : 1 ≤ R.frames) (hlocals : (rest.map fun v => v.category).sum + (nativeFrameWords "java/lang/System" "arraycopy" 5 + 11) ≤ R.locals) (hdg : decode cc pc = .ok (.invokestatic index, 3))
    (kk : ∀ (H1 : Heap) (locs1 : List Loc), va_P D vwCl ws2 H1 → va_D A ws2 → va_S A s.heap H1 locs1 → W p l e R s m args below meth c H1 locs1 cells slots Q (F0 m (pc + 3) ls rest)) : W p l e R s m args below meth c H locs cells slots Q (F0 m pc ls (.int n :: .int dp :: .ref a :: .int sp :: .ref a0 :: rest)) := by
  subst hg hw
  exact va_copyi hexec hb hml hown hlink hnat hstat hini hK hP hD hS q0 q1 0 0 ha0 ha1 rfl rfl rfl h1 h2 h3 h4 h5 (fun _ _ => rfl) hframes hlocals hdg kk
section MYRUN
variable {W0 W1 WS WS2 : va_W} {own C : String} {index maxL n nL f lo : Nat} {y : MethodName} {bytes : ByteArray} {ret : Option FieldType} {Ts ws : List Cond} {As : List Value} {b : Nat}
theorem my_Vi {r : Int32} (S : CallFix p m c cc nL s args Ts own) (hM : ctI l y ws f lo D cy t (.ref b :: As) W0 W1 r) (cw : CallW R s args own C index y bytes maxL ret ws (rmm f lo) 0 0 n) (hK : va_K D vwCl (TYS cy) s) (hE : EV t A s s.heap) (hP : va_P D vwCl WS H) (hD : va_D A WS) (hS : va_S A s.heap H locs) (hA : ∀ q, s.heap.size ≤ q → A q) (isC : List Nat) (nW : Nat) (ci q0 : Nat) {T : u_T} {N : Nat} {fs : List Value} (hc : vwCl[ci]? = some (C, T, N)) (he : W0[q0]? = some (b, .inr (ci, fs))) (hp : pick WS isC = W0) (hn : WS.length = nW) (hck : chk nW isC = true) (h2 : repl WS isC W1 = WS2) (hlen : As.length = n) (hsize : ls.size = nL) (hst : st0 = As.reverse ++ .ref b :: rest) (hroom : (rest.map fun v => v.category).sum ≤ 8) (hdg : decode cc pc = .ok (.invokevirtual index, 3)) (hf : cells ≤ R.cells ∧ slots ≤ R.slots)
    (kk : ∀ (H1 : Heap) (locs1 : List Loc), va_P D vwCl WS2 H1 → va_D A WS2 → va_S A s.heap H1 locs1 → W p l e R s m args below meth c H1 locs1 cells slots Q (F0 m (pc + 3) ls (.int r :: rest))) : W p l e R s m args below meth c H locs cells slots Q (F0 m pc ls st0) :=
  mc_i (va_runV S (hM.2 H.size) cw ⟨ctP_blind, va_recv hK (hP.sub isC (fm_of (pick_hC hn hck hp))) (ci := ci) (q0 := q0) hc he, ct_pre hK hE hP hD hS hA isC (pick_hC hn hck hp) (chk_nd hck)⟩ rfl hlen hsize hst (lv_room hroom) hdg hf) hP hD hS hA isC (pick_hC hn hck hp) hM.1 h2 kk
theorem my_Vl {r : Int64} (S : CallFix p m c cc nL s args Ts own) (hM : ctL l y ws f lo D cy t (.ref b :: As) W0 W1 r) (cw : CallW R s args own C index y bytes maxL ret ws (rmm f lo) 0 0 n) (hK : va_K D vwCl (TYS cy) s) (hE : EV t A s s.heap) (hP : va_P D vwCl WS H) (hD : va_D A WS) (hS : va_S A s.heap H locs) (hA : ∀ q, s.heap.size ≤ q → A q) (isC : List Nat) (nW : Nat) (ci q0 : Nat) {T : u_T} {N : Nat} {fs : List Value} (hc : vwCl[ci]? = some (C, T, N)) (he : W0[q0]? = some (b, .inr (ci, fs))) (hp : pick WS isC = W0) (hn : WS.length = nW) (hck : chk nW isC = true) (h2 : repl WS isC W1 = WS2) (hlen : As.length = n) (hsize : ls.size = nL) (hst : st0 = As.reverse ++ .ref b :: rest) (hroom : (rest.map fun v => v.category).sum ≤ 8) (hdg : decode cc pc = .ok (.invokevirtual index, 3)) (hf : cells ≤ R.cells ∧ slots ≤ R.slots)
    (kk : ∀ (H1 : Heap) (locs1 : List Loc), va_P D vwCl WS2 H1 → va_D A WS2 → va_S A s.heap H1 locs1 → W p l e R s m args below meth c H1 locs1 cells slots Q (F0 m (pc + 3) ls (.long r :: rest))) : W p l e R s m args below meth c H locs cells slots Q (F0 m pc ls st0) :=
  mc_l (va_runV S (hM.2 H.size) cw ⟨ctP_blind, va_recv hK (hP.sub isC (fm_of (pick_hC hn hck hp))) (ci := ci) (q0 := q0) hc he, ct_pre hK hE hP hD hS hA isC (pick_hC hn hck hp) (chk_nd hck)⟩ rfl hlen hsize hst (lv_room hroom) hdg hf) hP hD hS hA isC (pick_hC hn hck hp) hM.1 h2 kk
theorem my_Vv (S : CallFix p m c cc nL s args Ts own) (hM : ctV l y ws f lo D cy t (.ref b :: As) W0 W1) (cw : CallW R s args own C index y bytes maxL ret ws (rmm f lo) 0 0 n) (hK : va_K D vwCl (TYS cy) s) (hE : EV t A s s.heap) (hP : va_P D vwCl WS H) (hD : va_D A WS) (hS : va_S A s.heap H locs) (hA : ∀ q, s.heap.size ≤ q → A q) (isC : List Nat) (nW : Nat) (ci q0 : Nat) {T : u_T} {N : Nat} {fs : List Value} (hc : vwCl[ci]? = some (C, T, N)) (he : W0[q0]? = some (b, .inr (ci, fs))) (hp : pick WS isC = W0) (hn : WS.length = nW) (hck : chk nW isC = true) (h2 : repl WS isC W1 = WS2) (hlen : As.length = n) (hsize : ls.size = nL) (hst : st0 = As.reverse ++ .ref b :: rest) (hroom : (rest.map fun v => v.category).sum ≤ 8) (hdg : decode cc pc = .ok (.invokevirtual index, 3)) (hf : cells ≤ R.cells ∧ slots ≤ R.slots)
    (kk : ∀ (H1 : Heap) (locs1 : List Loc), va_P D vwCl WS2 H1 → va_D A WS2 → va_S A s.heap H1 locs1 → W p l e R s m args below meth c H1 locs1 cells slots Q (F0 m (pc + 3) ls rest)) : W p l e R s m args below meth c H locs cells slots Q (F0 m pc ls st0) :=
  mc_v (va_runV S (hM.2 H.size) cw ⟨ctP_blind, va_recv hK (hP.sub isC (fm_of (pick_hC hn hck hp))) (ci := ci) (q0 := q0) hc he, ct_pre hK hE hP hD hS hA isC (pick_hC hn hck hp) (chk_nd hck)⟩ rfl hlen hsize hst (lv_room hroom) hdg hf) hP hD hS hA isC (pick_hC hn hck hp) hM.1 h2 kk
theorem my_Si {r : Int32} (S : CallFix p m c cc nL s args Ts own) (hM : ctI l y ws f lo D cy t As W0 W1 r) (cw : CallB R s args own index y bytes maxL ret ws (rmm f lo) 0 0 n ∧ (Cond.static y).before args s = true) (hK : va_K D vwCl (TYS cy) s) (hE : EV t A s s.heap) (hP : va_P D vwCl WS H) (hD : va_D A WS) (hS : va_S A s.heap H locs) (hA : ∀ q, s.heap.size ≤ q → A q) (isC : List Nat) (nW : Nat) (hp : pick WS isC = W0) (hn : WS.length = nW) (hck : chk nW isC = true) (h2 : repl WS isC W1 = WS2) (hlen : As.length = n) (hsize : ls.size = nL) (hst : st0 = As.reverse ++ rest) (hroom : (rest.map fun v => v.category).sum ≤ 8) (hdg : decode cc pc = .ok (.invokestatic index, 3)) (hf : cells ≤ R.cells ∧ slots ≤ R.slots)
    (kk : ∀ (H1 : Heap) (locs1 : List Loc), va_P D vwCl WS2 H1 → va_D A WS2 → va_S A s.heap H1 locs1 → W p l e R s m args below meth c H1 locs1 cells slots Q (F0 m (pc + 3) ls (.int r :: rest))) : W p l e R s m args below meth c H locs cells slots Q (F0 m pc ls st0) :=
  mc_i (va_runS S (hM.2 H.size) cw ⟨ctP_blind, ct_pre hK hE hP hD hS hA isC (pick_hC hn hck hp) (chk_nd hck)⟩ rfl hlen hsize hst (lv_room hroom) hdg hf) hP hD hS hA isC (pick_hC hn hck hp) hM.1 h2 kk
theorem my_Sl {r : Int64} (S : CallFix p m c cc nL s args Ts own) (hM : ctL l y ws f lo D cy t As W0 W1 r) (cw : CallB R s args own index y bytes maxL ret ws (rmm f lo) 0 0 n ∧ (Cond.static y).before args s = true) (hK : va_K D vwCl (TYS cy) s) (hE : EV t A s s.heap) (hP : va_P D vwCl WS H) (hD : va_D A WS) (hS : va_S A s.heap H locs) (hA : ∀ q, s.heap.size ≤ q → A q) (isC : List Nat) (nW : Nat) (hp : pick WS isC = W0) (hn : WS.length = nW) (hck : chk nW isC = true) (h2 : repl WS isC W1 = WS2) (hlen : As.length = n) (hsize : ls.size = nL) (hst : st0 = As.reverse ++ rest) (hroom : (rest.map fun v => v.category).sum ≤ 8) (hdg : decode cc pc = .ok (.invokestatic index, 3)) (hf : cells ≤ R.cells ∧ slots ≤ R.slots)
    (kk : ∀ (H1 : Heap) (locs1 : List Loc), va_P D vwCl WS2 H1 → va_D A WS2 → va_S A s.heap H1 locs1 → W p l e R s m args below meth c H1 locs1 cells slots Q (F0 m (pc + 3) ls (.long r :: rest))) : W p l e R s m args below meth c H locs cells slots Q (F0 m pc ls st0) :=
  mc_l (va_runS S (hM.2 H.size) cw ⟨ctP_blind, ct_pre hK hE hP hD hS hA isC (pick_hC hn hck hp) (chk_nd hck)⟩ rfl hlen hsize hst (lv_room hroom) hdg hf) hP hD hS hA isC (pick_hC hn hck hp) hM.1 h2 kk
theorem my_Sv (S : CallFix p m c cc nL s args Ts own) (hM : ctV l y ws f lo D cy t As W0 W1) (cw : CallB R s args own index y bytes maxL ret ws (rmm f lo) 0 0 n ∧ (Cond.static y).before args s = true) (hK : va_K D vwCl (TYS cy) s) (hE : EV t A s s.heap) (hP : va_P D vwCl WS H) (hD : va_D A WS) (hS : va_S A s.heap H locs) (hA : ∀ q, s.heap.size ≤ q → A q) (isC : List Nat) (nW : Nat) (hp : pick WS isC = W0) (hn : WS.length = nW) (hck : chk nW isC = true) (h2 : repl WS isC W1 = WS2) (hlen : As.length = n) (hsize : ls.size = nL) (hst : st0 = As.reverse ++ rest) (hroom : (rest.map fun v => v.category).sum ≤ 8) (hdg : decode cc pc = .ok (.invokestatic index, 3)) (hf : cells ≤ R.cells ∧ slots ≤ R.slots)
    (kk : ∀ (H1 : Heap) (locs1 : List Loc), va_P D vwCl WS2 H1 → va_D A WS2 → va_S A s.heap H1 locs1 → W p l e R s m args below meth c H1 locs1 cells slots Q (F0 m (pc + 3) ls rest)) : W p l e R s m args below meth c H locs cells slots Q (F0 m pc ls st0) :=
  mc_v (va_runS S (hM.2 H.size) cw ⟨ctP_blind, ct_pre hK hE hP hD hS hA isC (pick_hC hn hck hp) (chk_nd hck)⟩ rfl hlen hsize hst (lv_room hroom) hdg hf) hP hD hS hA isC (pick_hC hn hck hp) hM.1 h2 kk
theorem my_Ni {host : String} {r : Int32} (S : CallFix p m c cc nL s args Ts own) (hM : ctI l y ws f lo D cy t As W0 W1 r) (cw : va_CN R s args own index y host bytes maxL ret ws (rmm f lo) 0 0 n) (hst9 : (Cond.static y).before args s = true) (hK : va_K D vwCl (TYS cy) s) (hE : EV t A s s.heap) (hP : va_P D vwCl WS H) (hD : va_D A WS) (hS : va_S A s.heap H locs) (hA : ∀ q, s.heap.size ≤ q → A q) (isC : List Nat) (nW : Nat) (hp : pick WS isC = W0) (hn : WS.length = nW) (hck : chk nW isC = true) (h2 : repl WS isC W1 = WS2) (hlen : As.length = n) (hsize : ls.size = nL) (hst : st0 = As.reverse ++ rest) (hroom : (rest.map fun v => v.category).sum ≤ 8) (hdg : decode cc pc = .ok (.invokestatic index, 3)) (hf : cells ≤ R.cells ∧ slots ≤ R.slots)
    (kk : ∀ (H1 : Heap) (locs1 : List Loc), va_P D vwCl WS2 H1 → va_D A WS2 → va_S A s.heap H1 locs1 → W p l e R s m args below meth c H1 locs1 cells slots Q (F0 m (pc + 3) ls (.int r :: rest))) : W p l e R s m args below meth c H locs cells slots Q (F0 m pc ls st0) :=
  mc_i (va_runSN S (hM.2 H.size) ⟨cw, hst9, trivial⟩ ⟨ctP_blind, ct_pre hK hE hP hD hS hA isC (pick_hC hn hck hp) (chk_nd hck)⟩ rfl hlen hsize hst (lv_room hroom) hdg hf) hP hD hS hA isC (pick_hC hn hck hp) hM.1 h2 kk
end MYRUN
end MYC
noncomputable def rd {α β : Type} (f : Nat → α) (n : Nat) (i : Int32) (k : α → Option β) : Option β := if ¬ (i < 0 ∨ n ≤ i.toNatClampNeg) then k (f i.toNatClampNeg) else none
theorem rd_s {α β : Type} {f : Nat → α} {n : Nat} {i : Int32} {k : α → Option β} {o : β} (h : rd f n i k = some o) : ∃ v, vp_in i n ∧ v = f i.toNatClampNeg ∧ k v = some o := by
  unfold rd at h
  by_cases hc : ¬ (i < 0 ∨ n ≤ i.toNatClampNeg)
  · rw [if_pos hc] at h
    exact ⟨_, hc, rfl, h⟩
  · rw [if_neg hc] at h
    cases h
noncomputable def wrI {β : Type} (f : Nat → Int32) (n : Nat) (i x : Int32) (k : (Nat → Int32) → Option β) : Option β := if ¬ (i < 0 ∨ n ≤ i.toNatClampNeg) then k (upd f i.toNatClampNeg x) else none
theorem wrI_s {β : Type} {f : Nat → Int32} {n : Nat} {i x : Int32} {k : (Nat → Int32) → Option β} {o : β} (h : wrI f n i x k = some o) : ∃ g, vp_in i n ∧ g = upd f i.toNatClampNeg x ∧ k g = some o := by
  unfold wrI at h
  by_cases hc : ¬ (i < 0 ∨ n ≤ i.toNatClampNeg)
  · rw [if_pos hc] at h
    exact ⟨_, hc, rfl, h⟩
  · rw [if_neg hc] at h
    cases h
noncomputable def wrZ {β : Type} (f : Nat → Int32) (n : Nat) (i x : Int32) (k : (Nat → Int32) → Option β) : Option β := if ¬ (i < 0 ∨ n ≤ i.toNatClampNeg) then k (upd f i.toNatClampNeg (vp_nar .boolean x)) else none
theorem wrZ_s {β : Type} {f : Nat → Int32} {n : Nat} {i x : Int32} {k : (Nat → Int32) → Option β} {o : β} (h : wrZ f n i x k = some o) : ∃ g, vp_in i n ∧ g = upd f i.toNatClampNeg (vp_nar .boolean x) ∧ k g = some o := by
  unfold wrZ at h
  by_cases hc : ¬ (i < 0 ∨ n ≤ i.toNatClampNeg)
  · rw [if_pos hc] at h
    exact ⟨_, hc, rfl, h⟩
  · rw [if_neg hc] at h
    cases h
noncomputable def wrJ {β : Type} (f : Nat → Int64) (n : Nat) (i : Int32) (x : Int64) (k : (Nat → Int64) → Option β) : Option β := if ¬ (i < 0 ∨ n ≤ i.toNatClampNeg) then k (vp_updL f i.toNatClampNeg x) else none
theorem wrJ_s {β : Type} {f : Nat → Int64} {n : Nat} {i : Int32} {x : Int64} {k : (Nat → Int64) → Option β} {o : β} (h : wrJ f n i x k = some o) : ∃ g, vp_in i n ∧ g = vp_updL f i.toNatClampNeg x ∧ k g = some o := by
  unfold wrJ at h
  by_cases hc : ¬ (i < 0 ∨ n ≤ i.toNatClampNeg)
  · rw [if_pos hc] at h
    exact ⟨_, hc, rfl, h⟩
  · rw [if_neg hc] at h
    cases h
noncomputable def gdp {β : Type} (i : Int32) (n : Nat) (k : Option β) : Option β := if ¬ (i < 0 ∨ n ≤ i.toNatClampNeg) then k else none
theorem gdp_s {β : Type} {i : Int32} {n : Nat} {k : Option β} {o : β} (h : gdp i n k = some o) : vp_in i n ∧ k = some o := by
  unfold gdp at h
  by_cases hc : ¬ (i < 0 ∨ n ≤ i.toNatClampNeg)
  · rw [if_pos hc] at h
    exact ⟨hc, h⟩
  · rw [if_neg hc] at h
    cases h
noncomputable def dvI {β : Type} (y : Int32) (k : Option β) : Option β := if y = 0 then none else k
theorem dvI_s {β : Type} {y : Int32} {k : Option β} {o : β} (h : dvI y k = some o) : ¬ y = 0 ∧ k = some o := by
  unfold dvI at h
  by_cases hc : y = 0
  · rw [if_pos hc] at h
    cases h
  · rw [if_neg hc] at h
    exact ⟨hc, h⟩
noncomputable def dvL {β : Type} (y : Int64) (k : Option β) : Option β := if y = 0 then none else k
theorem dvL_s {β : Type} {y : Int64} {k : Option β} {o : β} (h : dvL y k = some o) : ¬ y = 0 ∧ k = some o := by
  unfold dvL at h
  by_cases hc : y = 0
  · rw [if_pos hc] at h
    cases h
  · rw [if_neg hc] at h
    exact ⟨hc, h⟩
noncomputable def zb {β : Type} (v : Int32) (k : Option β) : Option β := if v = 0 ∨ v = 1 then k else none
theorem zb_s {β : Type} {v : Int32} {k : Option β} {o : β} (h : zb v k = some o) : narrow .boolean (.int v) = .int v ∧ k = some o := by
  unfold zb at h
  by_cases hc : v = 0 ∨ v = 1
  · rw [if_pos hc] at h
    exact ⟨by rcases hc with q | q <;> subst q <;> decide, h⟩
  · rw [if_neg hc] at h
    cases h
def nm {α β : Type} (x : α) (k : α → Option β) : Option β := k x
theorem nm_s {α β : Type} {x : α} {k : α → Option β} {o : β} (h : nm x k = some o) : ∃ y, y = x ∧ k y = some o := ⟨x, rfl, h⟩
def bd {α β : Type} (x : Option α) (k : α → Option β) : Option β := match x with
  | none => none
  | some a => k a
theorem bd_s {α β : Type} {x : Option α} {k : α → Option β} {o : β} (h : bd x k = some o) : ∃ r, x = some r ∧ k r = some o := by
  cases x with
  | none => cases h
  | some a => exact ⟨a, rfl, h⟩
theorem ifp {β : Type} {c : Prop} {dc : Decidable c} {a b o : Option β} (hc : c) (h : @ite _ c dc a b = o) : a = o := by
  rw [if_pos hc] at h
  exact h
theorem ifn {β : Type} {c : Prop} {dc : Decidable c} {a b o : Option β} (hc : ¬ c) (h : @ite _ c dc a b = o) : b = o := by
  rw [if_neg hc] at h
  exact h
noncomputable def cpI {β : Type} (f g : Nat → Int32) (n0 n1 : Nat) (sp dp n : Int32) (k : (Nat → Int32) → Option β) : Option β := if ¬ sp < 0 ∧ ¬ dp < 0 ∧ ¬ n < 0 ∧ sp.toNatClampNeg + n.toNatClampNeg ≤ n0 ∧ dp.toNatClampNeg + n.toNatClampNeg ≤ n1 then k (va_cpy f g sp.toNatClampNeg dp.toNatClampNeg n.toNatClampNeg) else none
theorem cpI_s {β : Type} {f g : Nat → Int32} {n0 n1 : Nat} {sp dp n : Int32} {k : (Nat → Int32) → Option β} {o : β} (h : cpI f g n0 n1 sp dp n k = some o) : ∃ g', ¬ sp < 0 ∧ ¬ dp < 0 ∧ ¬ n < 0 ∧ sp.toNatClampNeg + n.toNatClampNeg ≤ n0 ∧ dp.toNatClampNeg + n.toNatClampNeg ≤ n1 ∧ g' = va_cpy f g sp.toNatClampNeg dp.toNatClampNeg n.toNatClampNeg ∧ k g' = some o := by
  unfold cpI at h
  by_cases hc : ¬ sp < 0 ∧ ¬ dp < 0 ∧ ¬ n < 0 ∧ sp.toNatClampNeg + n.toNatClampNeg ≤ n0 ∧ dp.toNatClampNeg + n.toNatClampNeg ≤ n1
  · rw [if_pos hc] at h
    exact ⟨_, hc.1, hc.2.1, hc.2.2.1, hc.2.2.2.1, hc.2.2.2.2, rfl, h⟩
  · rw [if_neg hc] at h
    cases h
def FU : Nat := 4096
theorem ne_ti {x y : Int32} (h : ¬ x = y) : ¬ x.toInt = y.toInt := fun q => h (Int32.toInt_inj.mp q)
