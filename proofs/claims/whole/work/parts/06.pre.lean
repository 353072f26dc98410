abbrev rmm (f lo : Nat) : Room := { frames := f, cells := 0, slots := 0, locals := lo }
abbrev TYS (cy : Nat → ClassId) : List (ClassId × FieldType) := [(cy 0, .int), (cy 1, .boolean), (cy 2, .long), (cy 3, .object "SeaGames$Play")]
def st_step : Nat → Int32 := fun k => match k with
  | 0 => 0
  | 1 => 1
  | 2 => 16
  | 3 => (-1)
  | _ => (-16)
def st_least : Nat → Int32 := fun k => match k with
  | 0 => 1
  | _ => 0
def st_most : Nat → Int32 := fun k => match k with
  | 0 => 5
  | 1 => 9
  | 2 => 999
  | 3 => 9
  | 4 => 99
  | 5 => 99
  | _ => 9
def ev_M : List (String × Nat × MethodName) := [(RX7, 9, yX5_init), (RX7, 27, yX6_init), (RX7, 37, yX0_init), (RX7, 51, yX3_init), (RX7, 58, yX1_init), (RX7, 65, yX2_init), (RX0, 30, yX7_spotOf), (RX0, 63, yX7_xOf), (RX0, 66, yX7_yOf), (RX0, 87, yX7_distance), (RX3, 21, yX7_yOf), (RX3, 25, yX7_xOf)]
def EV (t : Nat → Nat) (A : Nat → Prop) (U : State) (H : Heap) : Prop :=
  ((va_Z RX7 "STEP" "[I" (.ref (t 0)) A U H ∧ va_T .int (t 0) 5 (fun k => .int (st_step k)) A U H) ∧
   (va_Z RX7 "LEAST_RULE" "[I" (.ref (t 1)) A U H ∧ va_T .int (t 1) 7 (fun k => .int (st_least k)) A U H) ∧
   (va_Z RX7 "MOST_RULE" "[I" (.ref (t 2)) A U H ∧ va_T .int (t 2) 7 (fun k => .int (st_most k)) A U H)) ∧
  va_Nw (.fieldLinkNest RX0 74 RX7 "STEP" "[I" RX7) U ∧ ∀ q ∈ ev_M, va_Nw (.methodLinkNest q.1 q.2.1 q.2.2 RX7) U
theorem EV.go {t : Nat → Nat} {A B : Nat → Prop} {s U : State} {H0 H : Heap} (h : EV t A s H0) (hq : ∀ a : Nat, a < H0.size → ¬ A a → H[a]? = H0[a]?) (hAB : ∀ q, B q → A q) (hW : s.WarmedH U.vm) : EV t B U H := by
  obtain ⟨⟨⟨z0, t0⟩, ⟨z1, t1⟩, z2, t2⟩, hf, hm⟩ := h
  exact ⟨⟨⟨((z0.kept hq).narrow hAB).moved hW.alike, ((t0.kept hq).narrow hAB).moved hW.alike⟩, ⟨((z1.kept hq).narrow hAB).moved hW.alike, ((t1.kept hq).narrow hAB).moved hW.alike⟩, ((z2.kept hq).narrow hAB).moved hW.alike, ((t2.kept hq).narrow hAB).moved hW.alike⟩, va_Nw.warmF hW hf, fun q h => va_Nw.warmM hW (hm q h)⟩
theorem EV.calling {t : Nat → Nat} {A : Nat → Prop} {U : State} (g : JFrame) (mk : MethodId) (a : Array Value) (h : EV t A U U.heap) : EV t A (U.calling g mk a) (U.calling g mk a).heap := by
  obtain ⟨⟨⟨z0, t0⟩, ⟨z1, t1⟩, z2, t2⟩, hf, hm⟩ := h
  have hv : U.vm.Alike (U.calling g mk a).vm := Vm.Alike.refl U.vm
  exact ⟨⟨⟨z0.moved hv, t0.moved hv⟩, ⟨z1.moved hv, t1.moved hv⟩, z2.moved hv, t2.moved hv⟩, va_Nw.same rfl (rfl : U.vm = (U.calling g mk a).vm) hf, fun q h => va_Nw.same rfl (rfl : U.vm = (U.calling g mk a).vm) (hm q h)⟩
abbrev ctP (D : va_G) (cy : Nat → ClassId) (t : Nat → Nat) (av : List Value) (W0 : va_W) (sz : Nat) : Array Value → State → Prop := va_Pc av (fun U => U.heap.size = sz ∧ va_P D vwCl W0 U.heap ∧ va_K D vwCl (TYS cy) U ∧ va_D (fun _ => True) W0 ∧ EV t (va_A W0 sz) U U.heap)
abbrev ctB (D : va_G) (W0 W1 : va_W) (sz : Nat) : Unit → State → Prop := fun _ u => va_P D vwCl W1 u.heap ∧ va_D (va_A W0 sz) W1
def ctI (l : Launch) (y : MethodName) (ws : List Cond) (f lo : Nat) (D : va_G) (cy : Nat → ClassId) (t : Nat → Nat) (av : List Value) (W0 W1 : va_W) (r : Int32) : Prop := ∀ sz : Nat, Met l y ws (rmm f lo) (ctP D cy t av W0 sz) (va_Qi (fun x (_ : Unit) => x = r) (ctB D W0 W1 sz) (va_A W0 sz)) 0 0 (va_A W0 sz)
def ctL (l : Launch) (y : MethodName) (ws : List Cond) (f lo : Nat) (D : va_G) (cy : Nat → ClassId) (t : Nat → Nat) (av : List Value) (W0 W1 : va_W) (r : Int64) : Prop := ∀ sz : Nat, Met l y ws (rmm f lo) (ctP D cy t av W0 sz) (va_Ql (fun x (_ : Unit) => x = r) (ctB D W0 W1 sz) (va_A W0 sz)) 0 0 (va_A W0 sz)
def ctV (l : Launch) (y : MethodName) (ws : List Cond) (f lo : Nat) (D : va_G) (cy : Nat → ClassId) (t : Nat → Nat) (av : List Value) (W0 W1 : va_W) : Prop := ∀ sz : Nat, Met l y ws (rmm f lo) (ctP D cy t av W0 sz) (va_Qv (fun _ => True) (ctB D W0 W1 sz) (va_A W0 sz)) 0 0 (va_A W0 sz)
theorem fm_of {α β : Type} {f : α → Option β} : ∀ {is : List α} {ws : List β}, is.map f = ws.map some → is.filterMap f = ws
  | [], [], _ => rfl
  | [], _ :: _, h => by simp at h
  | _ :: _, [], h => by simp at h
  | i :: is, w :: ws, h => by
    simp only [List.map_cons, List.cons.injEq] at h
    simp only [List.filterMap_cons, h.1]
    rw [fm_of h.2]
theorem ctP_blind {D : va_G} {cy : Nat → ClassId} {t : Nat → Nat} {av : List Value} {W0 : va_W} {sz : Nat} : FrameBlind (ctP D cy t av W0 sz) := fun a U g mk q => by
  obtain ⟨q0, q1, qP, qK, qD, qE⟩ := q
  exact ⟨q0, q1, qP, va_K.moved (u := U) (U := U.calling g mk a) (Vm.Alike.refl U.vm) qK, qD, qE.calling g mk a⟩
section MYC
variable {p : Program} {l : Launch} {e : Env} {R : Room} {s : State} {m : MethodId} {args : Array Value} {below : List Frame} {meth : Method} {c : Code} {H : Heap} {locs : List Loc} {cells slots : Nat} {Q : State → Prop} {A : Nat → Prop} {D : va_G} {cy : Nat → ClassId} {t : Nat → Nat} {cc : ByteArray} {pc : Nat} {ls : Array Slot} {rest st0 : List Value}
theorem ct_pre {av : List Value} {W0 WS : va_W} (hK : va_K D vwCl (TYS cy) s) (hE : EV t A s s.heap) (hP : va_P D vwCl WS H) (hD : va_D A WS) (hS : va_S A s.heap H locs) (hA : ∀ q, s.heap.size ≤ q → A q) (isC : List Nat) (hC : isC.map (fun i => WS[i]?) = W0.map some) (hn : va_nd isC = true) : ∀ U : State, U.heap = H → s.WarmedH U.vm → ctP D cy t av W0 H.size av.toArray U := by
  intro U hU hW
  have hFc := va_free (wc := W0) hD hS hA isC hC
  refine ⟨rfl, by rw [hU], by rw [hU]; exact hP.sub isC (fm_of hC), va_K.moved hW.alike hK, (hD.sub isC hn hC).weaken (fun _ _ _ _ => trivial), ?_⟩
  rw [hU]
  exact hE.go hS.2.1 hFc hW
theorem mc_i {W0 W1 WS WS2 : va_W} {r : Int32} {a : Array Value} (hr : va_Run p l e R s m args below meth c H locs cells slots 0 0 (F0 m pc ls st0) rest (va_Qi (fun x (_ : Unit) => x = r) (ctB D W0 W1 H.size) (va_A W0 H.size) a) (va_A W0 H.size)) (hP : va_P D vwCl WS H) (hD : va_D A WS) (hS : va_S A s.heap H locs) (hA : ∀ q, s.heap.size ≤ q → A q) (isC isR is2 : List Nat) (hC : isC.map (fun i => WS[i]?) = W0.map some) (hRr : isR.map (fun i => WS[i]?) = (isR.filterMap (fun i => WS[i]?)).map some) (hn : va_nd isR = true) (hdis : ∀ i ∈ isR, i ∉ isC) (hn2 : va_nd is2 = true) (h2 : is2.map (fun i => (isR.filterMap (fun i => WS[i]?) ++ W1)[i]?) = WS2.map some)
    (kk : ∀ (H1 : Heap) (locs1 : List Loc), va_P D vwCl WS2 H1 → va_D A WS2 → va_S A s.heap H1 locs1 → W p l e R s m args below meth c H1 locs1 cells slots Q (F0 m (pc + 3) ls (.int r :: rest))) : W p l e R s m args below meth c H locs cells slots Q (F0 m pc ls st0) := by
  have hFc := va_free (wc := W0) hD hS hA isC hC
  refine va_calli hr hS (fun q _ h => hFc q h) hFc (fun x u t H1 locs1 ht hvm hw hB hz hk hS1 => ?_)
  obtain ⟨hP1, hD1⟩ := hB
  rw [ht] at hP1
  obtain ⟨hP2, hD2⟩ := va_join (wr := isR.filterMap (fun i => WS[i]?)) (w1 := W1) hP hD isC isR hC hRr hn hdis hk hFc hP1 hD1
  subst hw
  exact kk H1 locs1 (hP2.sub is2 (fm_of h2)) (hD2.sub is2 hn2 h2) hS1
theorem mc_l {W0 W1 WS WS2 : va_W} {r : Int64} {a : Array Value} (hr : va_Run p l e R s m args below meth c H locs cells slots 0 0 (F0 m pc ls st0) rest (va_Ql (fun x (_ : Unit) => x = r) (ctB D W0 W1 H.size) (va_A W0 H.size) a) (va_A W0 H.size)) (hP : va_P D vwCl WS H) (hD : va_D A WS) (hS : va_S A s.heap H locs) (hA : ∀ q, s.heap.size ≤ q → A q) (isC isR is2 : List Nat) (hC : isC.map (fun i => WS[i]?) = W0.map some) (hRr : isR.map (fun i => WS[i]?) = (isR.filterMap (fun i => WS[i]?)).map some) (hn : va_nd isR = true) (hdis : ∀ i ∈ isR, i ∉ isC) (hn2 : va_nd is2 = true) (h2 : is2.map (fun i => (isR.filterMap (fun i => WS[i]?) ++ W1)[i]?) = WS2.map some)
    (kk : ∀ (H1 : Heap) (locs1 : List Loc), va_P D vwCl WS2 H1 → va_D A WS2 → va_S A s.heap H1 locs1 → W p l e R s m args below meth c H1 locs1 cells slots Q (F0 m (pc + 3) ls (.long r :: rest))) : W p l e R s m args below meth c H locs cells slots Q (F0 m pc ls st0) := by
  have hFc := va_free (wc := W0) hD hS hA isC hC
  refine va_calll hr hS (fun q _ h => hFc q h) hFc (fun x u t H1 locs1 ht hvm hw hB hz hk hS1 => ?_)
  obtain ⟨hP1, hD1⟩ := hB
  rw [ht] at hP1
  obtain ⟨hP2, hD2⟩ := va_join (wr := isR.filterMap (fun i => WS[i]?)) (w1 := W1) hP hD isC isR hC hRr hn hdis hk hFc hP1 hD1
  subst hw
  exact kk H1 locs1 (hP2.sub is2 (fm_of h2)) (hD2.sub is2 hn2 h2) hS1
theorem mc_v {W0 W1 WS WS2 : va_W} {a : Array Value} (hr : va_Run p l e R s m args below meth c H locs cells slots 0 0 (F0 m pc ls st0) rest (va_Qv (fun _ => True) (ctB D W0 W1 H.size) (va_A W0 H.size) a) (va_A W0 H.size)) (hP : va_P D vwCl WS H) (hD : va_D A WS) (hS : va_S A s.heap H locs) (hA : ∀ q, s.heap.size ≤ q → A q) (isC isR is2 : List Nat) (hC : isC.map (fun i => WS[i]?) = W0.map some) (hRr : isR.map (fun i => WS[i]?) = (isR.filterMap (fun i => WS[i]?)).map some) (hn : va_nd isR = true) (hdis : ∀ i ∈ isR, i ∉ isC) (hn2 : va_nd is2 = true) (h2 : is2.map (fun i => (isR.filterMap (fun i => WS[i]?) ++ W1)[i]?) = WS2.map some)
    (kk : ∀ (H1 : Heap) (locs1 : List Loc), va_P D vwCl WS2 H1 → va_D A WS2 → va_S A s.heap H1 locs1 → W p l e R s m args below meth c H1 locs1 cells slots Q (F0 m (pc + 3) ls rest)) : W p l e R s m args below meth c H locs cells slots Q (F0 m pc ls st0) := by
  have hFc := va_free (wc := W0) hD hS hA isC hC
  refine va_callv hr hS (fun q _ h => hFc q h) hFc (fun u t H1 locs1 ht hvm hw hB hz hk hS1 => ?_)
  obtain ⟨hP1, hD1⟩ := hB
  rw [ht] at hP1
  obtain ⟨hP2, hD2⟩ := va_join (wr := isR.filterMap (fun i => WS[i]?)) (w1 := W1) hP hD isC isR hC hRr hn hdis hk hFc hP1 hD1
  exact kk H1 locs1 (hP2.sub is2 (fm_of h2)) (hD2.sub is2 hn2 h2) hS1
theorem my_iald (hexec : p.tables.exec = Jvm.exec) (hb : c.code = cc) {ws : va_W} (hK : va_K D vwCl (TYS cy) s) (hP : va_P D vwCl ws H) (q0 : Nat) {a n : Nat} {f : Nat → Int32} (ha : ws[q0]? = some (a, .inl (cy 0, n, .inl f))) {i v : Int32} (hin : vp_in i n) (hv : v = f i.toNatClampNeg) (hdg : decode cc pc = .ok (.iaload, 1))
    (kk : W p l e R s m args below meth c H locs cells slots Q (F0 m (pc + 1) ls (.int v :: rest))) : W p l e R s m args below meth c H locs cells slots Q (F0 m pc ls (.int i :: .ref a :: rest)) := by
  subst hv
  exact va_iald hexec hb hK hP q0 0 ha rfl hin hdg kk
theorem my_zald (hexec : p.tables.exec = Jvm.exec) (hb : c.code = cc) {ws : va_W} (hK : va_K D vwCl (TYS cy) s) (hP : va_P D vwCl ws H) (q0 : Nat) {a n : Nat} {f : Nat → Int32} (ha : ws[q0]? = some (a, .inl (cy 1, n, .inl f))) {i v : Int32} (hin : vp_in i n) (hv : v = f i.toNatClampNeg) (hdg : decode cc pc = .ok (.baload, 1))
    (kk : W p l e R s m args below meth c H locs cells slots Q (F0 m (pc + 1) ls (.int v :: rest))) : W p l e R s m args below meth c H locs cells slots Q (F0 m pc ls (.int i :: .ref a :: rest)) := by
  subst hv
  exact va_zald hexec hb hK hP q0 1 ha rfl hin hdg kk
theorem my_lald (hexec : p.tables.exec = Jvm.exec) (hb : c.code = cc) {ws : va_W} (hK : va_K D vwCl (TYS cy) s) (hP : va_P D vwCl ws H) (q0 : Nat) {a n : Nat} {f : Nat → Int64} (ha : ws[q0]? = some (a, .inl (cy 2, n, .inr (.inl f)))) {i : Int32} {v : Int64} (hin : vp_in i n) (hv : v = f i.toNatClampNeg) (hdg : decode cc pc = .ok (.laload, 1))
    (kk : W p l e R s m args below meth c H locs cells slots Q (F0 m (pc + 1) ls (.long v :: rest))) : W p l e R s m args below meth c H locs cells slots Q (F0 m pc ls (.int i :: .ref a :: rest)) := by
  subst hv
  exact va_lald hexec hb hK hP q0 2 ha rfl hin hdg kk
theorem my_tald (hexec : p.tables.exec = Jvm.exec) (hb : c.code = cc) {a n : Nat} {f : Nat → Int32} (hT : va_T .int a n (fun k => .int (f k)) A s s.heap) (hS : va_S A s.heap H locs) {i v : Int32} (hin : vp_in i n) (hv : v = f i.toNatClampNeg) (hdg : decode cc pc = .ok (.iaload, 1))
    (kk : W p l e R s m args below meth c H locs cells slots Q (F0 m (pc + 1) ls (.int v :: rest))) : W p l e R s m args below meth c H locs cells slots Q (F0 m pc ls (.int i :: .ref a :: rest)) := by
  subst hv
  exact va_ti hexec hb hT hS hin rfl hdg kk
theorem my_aald (hexec : p.tables.exec = Jvm.exec) (hb : c.code = cc) {ws : va_W} (hK : va_K D vwCl (TYS cy) s) (hP : va_P D vwCl ws H) (q0 : Nat) {a n b : Nat} {f : Nat → Option Nat} (ha : ws[q0]? = some (a, .inl (cy 3, n, .inr (.inr (.inr (.inr f)))))) {i : Int32} (hin : vp_in i n) (hv : f i.toNatClampNeg = some b) (hdg : decode cc pc = .ok (.aaload, 1))
    (kk : W p l e R s m args below meth c H locs cells slots Q (F0 m (pc + 1) ls (.ref b :: rest))) : W p l e R s m args below meth c H locs cells slots Q (F0 m pc ls (.int i :: .ref a :: rest)) := by
  refine va_aldq hexec hb hK hP q0 3 ha rfl hin hdg ?_
  rw [hv]
  exact kk
theorem my_iast (hexec : p.tables.exec = Jvm.exec) (hb : c.code = cc) {ws ws2 : va_W} (hK : va_K D vwCl (TYS cy) s) (hP : va_P D vwCl ws H) (hD : va_D A ws) (hS : va_S A s.heap H locs) (q0 : Nat) {a n : Nat} {f g : Nat → Int32} (ha : ws[q0]? = some (a, .inl (cy 0, n, .inl f))) {i x : Int32} (hin : vp_in i n) (hg : g = upd f i.toNatClampNeg x) (h2 : ws.set q0 (a, .inl (cy 0, n, .inl g)) = ws2) (hdg : decode cc pc = .ok (.iastore, 1))
    (kk : ∀ (H1 : Heap) (locs1 : List Loc), va_P D vwCl ws2 H1 → va_D A ws2 → va_S A s.heap H1 locs1 → W p l e R s m args below meth c H1 locs1 cells slots Q (F0 m (pc + 1) ls rest)) : W p l e R s m args below meth c H locs cells slots Q (F0 m pc ls (.int x :: .int i :: .ref a :: rest)) := by
  subst hg h2
  exact va_iast hexec hb hK hP hD hS q0 0 ha rfl hin hdg kk
theorem my_zast (hexec : p.tables.exec = Jvm.exec) (hb : c.code = cc) {ws ws2 : va_W} (hK : va_K D vwCl (TYS cy) s) (hP : va_P D vwCl ws H) (hD : va_D A ws) (hS : va_S A s.heap H locs) (q0 : Nat) {a n : Nat} {f g : Nat → Int32} (ha : ws[q0]? = some (a, .inl (cy 1, n, .inl f))) {i x : Int32} (hin : vp_in i n) (hg : g = upd f i.toNatClampNeg (vp_nar .boolean x)) (h2 : ws.set q0 (a, .inl (cy 1, n, .inl g)) = ws2) (hdg : decode cc pc = .ok (.bastore, 1))
    (kk : ∀ (H1 : Heap) (locs1 : List Loc), va_P D vwCl ws2 H1 → va_D A ws2 → va_S A s.heap H1 locs1 → W p l e R s m args below meth c H1 locs1 cells slots Q (F0 m (pc + 1) ls rest)) : W p l e R s m args below meth c H locs cells slots Q (F0 m pc ls (.int x :: .int i :: .ref a :: rest)) := by
  subst hg h2
  exact va_zast hexec hb hK hP hD hS q0 1 ha rfl hin hdg kk
theorem my_last (hexec : p.tables.exec = Jvm.exec) (hb : c.code = cc) {ws ws2 : va_W} (hK : va_K D vwCl (TYS cy) s) (hP : va_P D vwCl ws H) (hD : va_D A ws) (hS : va_S A s.heap H locs) (q0 : Nat) {a n : Nat} {f g : Nat → Int64} (ha : ws[q0]? = some (a, .inl (cy 2, n, .inr (.inl f)))) {i : Int32} {x : Int64} (hin : vp_in i n) (hg : g = vp_updL f i.toNatClampNeg x) (h2 : ws.set q0 (a, .inl (cy 2, n, .inr (.inl g))) = ws2) (hdg : decode cc pc = .ok (.lastore, 1))
    (kk : ∀ (H1 : Heap) (locs1 : List Loc), va_P D vwCl ws2 H1 → va_D A ws2 → va_S A s.heap H1 locs1 → W p l e R s m args below meth c H1 locs1 cells slots Q (F0 m (pc + 1) ls rest)) : W p l e R s m args below meth c H locs cells slots Q (F0 m pc ls (.long x :: .int i :: .ref a :: rest)) := by
  subst hg h2
  exact va_last hexec hb hK hP hD hS q0 2 ha rfl hin hdg kk
theorem my_topi {x y : Int32} (h : y = x) (k : W p l e R s m args below meth c H locs cells slots Q (F0 m pc ls (.int y :: rest))) : W p l e R s m args below meth c H locs cells slots Q (F0 m pc ls (.int x :: rest)) := by
  subst h
  exact k
theorem my_topl {x y : Int64} (h : y = x) (k : W p l e R s m args below meth c H locs cells slots Q (F0 m pc ls (.long y :: rest))) : W p l e R s m args below meth c H locs cells slots Q (F0 m pc ls (.long x :: rest)) := by
  subst h
  exact k
theorem my_copy (hexec : p.tables.exec = Jvm.exec) (hb : c.code = cc) (hml : c.maxLocals = ls.size) {own : String} {index : Nat} (hown : s.vm.findClass own = some m.cls) (hlink : (Cond.methodLink own index arraycopyName).before args s = true) (hnat : (Cond.native arraycopyName).before args s = true) (hstat : (Cond.static arraycopyName).before args s = true) (hini : (Cond.initialized "java/lang/System").before args s = true)
    {ws ws2 : va_W} (hK : va_K D vwCl (TYS cy) s) (hP : va_P D vwCl ws H) (hD : va_D A ws) (hS : va_S A s.heap H locs) (q0 q1 : Nat) {a a0 n0 n1 : Nat} {f g g' : Nat → Int32} (ha0 : ws[q0]? = some (a0, .inl (cy 0, n0, .inl f))) (ha1 : ws[q1]? = some (a, .inl (cy 0, n1, .inl g)))
    {sp dp n : Int32} (h1 : ¬ sp < 0) (h2 : ¬ dp < 0) (h3 : ¬ n < 0) (h4 : sp.toNatClampNeg + n.toNatClampNeg ≤ n0) (h5 : dp.toNatClampNeg + n.toNatClampNeg ≤ n1) (hg : g' = va_cpy f g sp.toNatClampNeg dp.toNatClampNeg n.toNatClampNeg) (hw : ws.set q1 (a, .inl (cy 0, n1, .inl g')) = ws2)
    (hframes : 1 ≤ R.frames) (hlocals : (rest.map fun v => v.category).sum + (nativeFrameWords "java/lang/System" "arraycopy" 5 + 11) ≤ R.locals) (hdg : decode cc pc = .ok (.invokestatic index, 3))
    (kk : ∀ (H1 : Heap) (locs1 : List Loc), va_P D vwCl ws2 H1 → va_D A ws2 → va_S A s.heap H1 locs1 → W p l e R s m args below meth c H1 locs1 cells slots Q (F0 m (pc + 3) ls rest)) : W p l e R s m args below meth c H locs cells slots Q (F0 m pc ls (.int n :: .int dp :: .ref a :: .int sp :: .ref a0 :: rest)) := by
  subst hg hw
  exact va_copyi hexec hb hml hown hlink hnat hstat hini hK hP hD hS q0 q1 0 0 ha0 ha1 rfl rfl rfl h1 h2 h3 h4 h5 (fun _ _ => rfl) hframes hlocals hdg kk
section MYRUN
variable {W0 W1 WS WS2 : va_W} {own C : String} {index maxL n nL f lo : Nat} {y : MethodName} {bytes : ByteArray} {ret : Option FieldType} {Ts ws : List Cond} {As : List Value} {b : Nat}
theorem my_Vi {r : Int32} (S : CallFix p m c cc nL s args Ts own) (hM : ctI l y ws f lo D cy t (.ref b :: As) W0 W1 r) (cw : CallW R s args own C index y bytes maxL ret ws (rmm f lo) 0 0 n) (hK : va_K D vwCl (TYS cy) s) (hE : EV t A s s.heap) (hP : va_P D vwCl WS H) (hD : va_D A WS) (hS : va_S A s.heap H locs) (hA : ∀ q, s.heap.size ≤ q → A q) (isC isR is2 : List Nat) (ci q0 : Nat) {T : u_T} {N : Nat} {fs : List Value} (hc : vwCl[ci]? = some (C, T, N)) (he : W0[q0]? = some (b, .inr (ci, fs))) (hC : isC.map (fun i => WS[i]?) = W0.map some) (hnC : va_nd isC = true) (hRr : isR.map (fun i => WS[i]?) = (isR.filterMap (fun i => WS[i]?)).map some) (hn : va_nd isR = true) (hdis : ∀ i ∈ isR, i ∉ isC) (hn2 : va_nd is2 = true) (h2 : is2.map (fun i => (isR.filterMap (fun i => WS[i]?) ++ W1)[i]?) = WS2.map some) (hlen : As.length = n) (hsize : ls.size = nL) (hst : st0 = As.reverse ++ .ref b :: rest) (hroom : (rest.map fun v => v.category).sum ≤ 8) (hdg : decode cc pc = .ok (.invokevirtual index, 3)) (hf : cells ≤ R.cells ∧ slots ≤ R.slots)
    (kk : ∀ (H1 : Heap) (locs1 : List Loc), va_P D vwCl WS2 H1 → va_D A WS2 → va_S A s.heap H1 locs1 → W p l e R s m args below meth c H1 locs1 cells slots Q (F0 m (pc + 3) ls (.int r :: rest))) : W p l e R s m args below meth c H locs cells slots Q (F0 m pc ls st0) :=
  mc_i (va_runV S (hM H.size) cw ⟨ctP_blind, va_recv hK (hP.sub isC (fm_of hC)) (ci := ci) (q0 := q0) hc he, ct_pre hK hE hP hD hS hA isC hC hnC⟩ rfl hlen hsize hst (lv_room hroom) hdg hf) hP hD hS hA isC isR is2 hC hRr hn hdis hn2 h2 kk
theorem my_Vl {r : Int64} (S : CallFix p m c cc nL s args Ts own) (hM : ctL l y ws f lo D cy t (.ref b :: As) W0 W1 r) (cw : CallW R s args own C index y bytes maxL ret ws (rmm f lo) 0 0 n) (hK : va_K D vwCl (TYS cy) s) (hE : EV t A s s.heap) (hP : va_P D vwCl WS H) (hD : va_D A WS) (hS : va_S A s.heap H locs) (hA : ∀ q, s.heap.size ≤ q → A q) (isC isR is2 : List Nat) (ci q0 : Nat) {T : u_T} {N : Nat} {fs : List Value} (hc : vwCl[ci]? = some (C, T, N)) (he : W0[q0]? = some (b, .inr (ci, fs))) (hC : isC.map (fun i => WS[i]?) = W0.map some) (hnC : va_nd isC = true) (hRr : isR.map (fun i => WS[i]?) = (isR.filterMap (fun i => WS[i]?)).map some) (hn : va_nd isR = true) (hdis : ∀ i ∈ isR, i ∉ isC) (hn2 : va_nd is2 = true) (h2 : is2.map (fun i => (isR.filterMap (fun i => WS[i]?) ++ W1)[i]?) = WS2.map some) (hlen : As.length = n) (hsize : ls.size = nL) (hst : st0 = As.reverse ++ .ref b :: rest) (hroom : (rest.map fun v => v.category).sum ≤ 8) (hdg : decode cc pc = .ok (.invokevirtual index, 3)) (hf : cells ≤ R.cells ∧ slots ≤ R.slots)
    (kk : ∀ (H1 : Heap) (locs1 : List Loc), va_P D vwCl WS2 H1 → va_D A WS2 → va_S A s.heap H1 locs1 → W p l e R s m args below meth c H1 locs1 cells slots Q (F0 m (pc + 3) ls (.long r :: rest))) : W p l e R s m args below meth c H locs cells slots Q (F0 m pc ls st0) :=
  mc_l (va_runV S (hM H.size) cw ⟨ctP_blind, va_recv hK (hP.sub isC (fm_of hC)) (ci := ci) (q0 := q0) hc he, ct_pre hK hE hP hD hS hA isC hC hnC⟩ rfl hlen hsize hst (lv_room hroom) hdg hf) hP hD hS hA isC isR is2 hC hRr hn hdis hn2 h2 kk
theorem my_Vv (S : CallFix p m c cc nL s args Ts own) (hM : ctV l y ws f lo D cy t (.ref b :: As) W0 W1) (cw : CallW R s args own C index y bytes maxL ret ws (rmm f lo) 0 0 n) (hK : va_K D vwCl (TYS cy) s) (hE : EV t A s s.heap) (hP : va_P D vwCl WS H) (hD : va_D A WS) (hS : va_S A s.heap H locs) (hA : ∀ q, s.heap.size ≤ q → A q) (isC isR is2 : List Nat) (ci q0 : Nat) {T : u_T} {N : Nat} {fs : List Value} (hc : vwCl[ci]? = some (C, T, N)) (he : W0[q0]? = some (b, .inr (ci, fs))) (hC : isC.map (fun i => WS[i]?) = W0.map some) (hnC : va_nd isC = true) (hRr : isR.map (fun i => WS[i]?) = (isR.filterMap (fun i => WS[i]?)).map some) (hn : va_nd isR = true) (hdis : ∀ i ∈ isR, i ∉ isC) (hn2 : va_nd is2 = true) (h2 : is2.map (fun i => (isR.filterMap (fun i => WS[i]?) ++ W1)[i]?) = WS2.map some) (hlen : As.length = n) (hsize : ls.size = nL) (hst : st0 = As.reverse ++ .ref b :: rest) (hroom : (rest.map fun v => v.category).sum ≤ 8) (hdg : decode cc pc = .ok (.invokevirtual index, 3)) (hf : cells ≤ R.cells ∧ slots ≤ R.slots)
    (kk : ∀ (H1 : Heap) (locs1 : List Loc), va_P D vwCl WS2 H1 → va_D A WS2 → va_S A s.heap H1 locs1 → W p l e R s m args below meth c H1 locs1 cells slots Q (F0 m (pc + 3) ls rest)) : W p l e R s m args below meth c H locs cells slots Q (F0 m pc ls st0) :=
  mc_v (va_runV S (hM H.size) cw ⟨ctP_blind, va_recv hK (hP.sub isC (fm_of hC)) (ci := ci) (q0 := q0) hc he, ct_pre hK hE hP hD hS hA isC hC hnC⟩ rfl hlen hsize hst (lv_room hroom) hdg hf) hP hD hS hA isC isR is2 hC hRr hn hdis hn2 h2 kk
theorem my_Si {r : Int32} (S : CallFix p m c cc nL s args Ts own) (hM : ctI l y ws f lo D cy t As W0 W1 r) (cw : CallB R s args own index y bytes maxL ret ws (rmm f lo) 0 0 n ∧ (Cond.static y).before args s = true) (hK : va_K D vwCl (TYS cy) s) (hE : EV t A s s.heap) (hP : va_P D vwCl WS H) (hD : va_D A WS) (hS : va_S A s.heap H locs) (hA : ∀ q, s.heap.size ≤ q → A q) (isC isR is2 : List Nat) (hC : isC.map (fun i => WS[i]?) = W0.map some) (hnC : va_nd isC = true) (hRr : isR.map (fun i => WS[i]?) = (isR.filterMap (fun i => WS[i]?)).map some) (hn : va_nd isR = true) (hdis : ∀ i ∈ isR, i ∉ isC) (hn2 : va_nd is2 = true) (h2 : is2.map (fun i => (isR.filterMap (fun i => WS[i]?) ++ W1)[i]?) = WS2.map some) (hlen : As.length = n) (hsize : ls.size = nL) (hst : st0 = As.reverse ++ rest) (hroom : (rest.map fun v => v.category).sum ≤ 8) (hdg : decode cc pc = .ok (.invokestatic index, 3)) (hf : cells ≤ R.cells ∧ slots ≤ R.slots)
    (kk : ∀ (H1 : Heap) (locs1 : List Loc), va_P D vwCl WS2 H1 → va_D A WS2 → va_S A s.heap H1 locs1 → W p l e R s m args below meth c H1 locs1 cells slots Q (F0 m (pc + 3) ls (.int r :: rest))) : W p l e R s m args below meth c H locs cells slots Q (F0 m pc ls st0) :=
  mc_i (va_runS S (hM H.size) cw ⟨ctP_blind, ct_pre hK hE hP hD hS hA isC hC hnC⟩ rfl hlen hsize hst (lv_room hroom) hdg hf) hP hD hS hA isC isR is2 hC hRr hn hdis hn2 h2 kk
theorem my_Sl {r : Int64} (S : CallFix p m c cc nL s args Ts own) (hM : ctL l y ws f lo D cy t As W0 W1 r) (cw : CallB R s args own index y bytes maxL ret ws (rmm f lo) 0 0 n ∧ (Cond.static y).before args s = true) (hK : va_K D vwCl (TYS cy) s) (hE : EV t A s s.heap) (hP : va_P D vwCl WS H) (hD : va_D A WS) (hS : va_S A s.heap H locs) (hA : ∀ q, s.heap.size ≤ q → A q) (isC isR is2 : List Nat) (hC : isC.map (fun i => WS[i]?) = W0.map some) (hnC : va_nd isC = true) (hRr : isR.map (fun i => WS[i]?) = (isR.filterMap (fun i => WS[i]?)).map some) (hn : va_nd isR = true) (hdis : ∀ i ∈ isR, i ∉ isC) (hn2 : va_nd is2 = true) (h2 : is2.map (fun i => (isR.filterMap (fun i => WS[i]?) ++ W1)[i]?) = WS2.map some) (hlen : As.length = n) (hsize : ls.size = nL) (hst : st0 = As.reverse ++ rest) (hroom : (rest.map fun v => v.category).sum ≤ 8) (hdg : decode cc pc = .ok (.invokestatic index, 3)) (hf : cells ≤ R.cells ∧ slots ≤ R.slots)
    (kk : ∀ (H1 : Heap) (locs1 : List Loc), va_P D vwCl WS2 H1 → va_D A WS2 → va_S A s.heap H1 locs1 → W p l e R s m args below meth c H1 locs1 cells slots Q (F0 m (pc + 3) ls (.long r :: rest))) : W p l e R s m args below meth c H locs cells slots Q (F0 m pc ls st0) :=
  mc_l (va_runS S (hM H.size) cw ⟨ctP_blind, ct_pre hK hE hP hD hS hA isC hC hnC⟩ rfl hlen hsize hst (lv_room hroom) hdg hf) hP hD hS hA isC isR is2 hC hRr hn hdis hn2 h2 kk
theorem my_Sv (S : CallFix p m c cc nL s args Ts own) (hM : ctV l y ws f lo D cy t As W0 W1) (cw : CallB R s args own index y bytes maxL ret ws (rmm f lo) 0 0 n ∧ (Cond.static y).before args s = true) (hK : va_K D vwCl (TYS cy) s) (hE : EV t A s s.heap) (hP : va_P D vwCl WS H) (hD : va_D A WS) (hS : va_S A s.heap H locs) (hA : ∀ q, s.heap.size ≤ q → A q) (isC isR is2 : List Nat) (hC : isC.map (fun i => WS[i]?) = W0.map some) (hnC : va_nd isC = true) (hRr : isR.map (fun i => WS[i]?) = (isR.filterMap (fun i => WS[i]?)).map some) (hn : va_nd isR = true) (hdis : ∀ i ∈ isR, i ∉ isC) (hn2 : va_nd is2 = true) (h2 : is2.map (fun i => (isR.filterMap (fun i => WS[i]?) ++ W1)[i]?) = WS2.map some) (hlen : As.length = n) (hsize : ls.size = nL) (hst : st0 = As.reverse ++ rest) (hroom : (rest.map fun v => v.category).sum ≤ 8) (hdg : decode cc pc = .ok (.invokestatic index, 3)) (hf : cells ≤ R.cells ∧ slots ≤ R.slots)
    (kk : ∀ (H1 : Heap) (locs1 : List Loc), va_P D vwCl WS2 H1 → va_D A WS2 → va_S A s.heap H1 locs1 → W p l e R s m args below meth c H1 locs1 cells slots Q (F0 m (pc + 3) ls rest)) : W p l e R s m args below meth c H locs cells slots Q (F0 m pc ls st0) :=
  mc_v (va_runS S (hM H.size) cw ⟨ctP_blind, ct_pre hK hE hP hD hS hA isC hC hnC⟩ rfl hlen hsize hst (lv_room hroom) hdg hf) hP hD hS hA isC isR is2 hC hRr hn hdis hn2 h2 kk
theorem my_Ni {host : String} {r : Int32} (S : CallFix p m c cc nL s args Ts own) (hM : ctI l y ws f lo D cy t As W0 W1 r) (cw : va_CN R s args own index y host bytes maxL ret ws (rmm f lo) 0 0 n) (hst9 : (Cond.static y).before args s = true) (hK : va_K D vwCl (TYS cy) s) (hE : EV t A s s.heap) (hP : va_P D vwCl WS H) (hD : va_D A WS) (hS : va_S A s.heap H locs) (hA : ∀ q, s.heap.size ≤ q → A q) (isC isR is2 : List Nat) (hC : isC.map (fun i => WS[i]?) = W0.map some) (hnC : va_nd isC = true) (hRr : isR.map (fun i => WS[i]?) = (isR.filterMap (fun i => WS[i]?)).map some) (hn : va_nd isR = true) (hdis : ∀ i ∈ isR, i ∉ isC) (hn2 : va_nd is2 = true) (h2 : is2.map (fun i => (isR.filterMap (fun i => WS[i]?) ++ W1)[i]?) = WS2.map some) (hlen : As.length = n) (hsize : ls.size = nL) (hst : st0 = As.reverse ++ rest) (hroom : (rest.map fun v => v.category).sum ≤ 8) (hdg : decode cc pc = .ok (.invokestatic index, 3)) (hf : cells ≤ R.cells ∧ slots ≤ R.slots)
    (kk : ∀ (H1 : Heap) (locs1 : List Loc), va_P D vwCl WS2 H1 → va_D A WS2 → va_S A s.heap H1 locs1 → W p l e R s m args below meth c H1 locs1 cells slots Q (F0 m (pc + 3) ls (.int r :: rest))) : W p l e R s m args below meth c H locs cells slots Q (F0 m pc ls st0) :=
  mc_i (va_runSN S (hM H.size) ⟨cw, hst9, trivial⟩ ⟨ctP_blind, ct_pre hK hE hP hD hS hA isC hC hnC⟩ rfl hlen hsize hst (lv_room hroom) hdg hf) hP hD hS hA isC isR is2 hC hRr hn hdis hn2 h2 kk
end MYRUN
end MYC
noncomputable def rd {α β : Type} (f : Nat → α) (n : Nat) (i : Int32) (k : α → Option β) : Option β := if ¬ (i < 0 ∨ n ≤ i.toNatClampNeg) then k (f i.toNatClampNeg) else none
theorem rd_s {α β : Type} {f : Nat → α} {n : Nat} {i : Int32} {k : α → Option β} {o : β} (h : rd f n i k = some o) : ∃ v, vp_in i n ∧ v = f i.toNatClampNeg ∧ k v = some o := by
  unfold rd at h
  by_cases hc : ¬ (i < 0 ∨ n ≤ i.toNatClampNeg)
  · rw [if_pos hc] at h
    exact ⟨_, hc, rfl, h⟩
  · rw [if_neg hc] at h
    cases h
noncomputable def wrI {β : Type} (f : Nat → Int32) (n : Nat) (i x : Int32) (k : (Nat → Int32) → Option β) : Option β := if ¬ (i < 0 ∨ n ≤ i.toNatClampNeg) then k (upd f i.toNatClampNeg x) else none
theorem wrI_s {β : Type} {f : Nat → Int32} {n : Nat} {i x : Int32} {k : (Nat → Int32) → Option β} {o : β} (h : wrI f n i x k = some o) : ∃ g, vp_in i n ∧ g = upd f i.toNatClampNeg x ∧ k g = some o := by
  unfold wrI at h
  by_cases hc : ¬ (i < 0 ∨ n ≤ i.toNatClampNeg)
  · rw [if_pos hc] at h
    exact ⟨_, hc, rfl, h⟩
  · rw [if_neg hc] at h
    cases h
noncomputable def wrZ {β : Type} (f : Nat → Int32) (n : Nat) (i x : Int32) (k : (Nat → Int32) → Option β) : Option β := if ¬ (i < 0 ∨ n ≤ i.toNatClampNeg) then k (upd f i.toNatClampNeg (vp_nar .boolean x)) else none
theorem wrZ_s {β : Type} {f : Nat → Int32} {n : Nat} {i x : Int32} {k : (Nat → Int32) → Option β} {o : β} (h : wrZ f n i x k = some o) : ∃ g, vp_in i n ∧ g = upd f i.toNatClampNeg (vp_nar .boolean x) ∧ k g = some o := by
  unfold wrZ at h
  by_cases hc : ¬ (i < 0 ∨ n ≤ i.toNatClampNeg)
  · rw [if_pos hc] at h
    exact ⟨_, hc, rfl, h⟩
  · rw [if_neg hc] at h
    cases h
noncomputable def wrJ {β : Type} (f : Nat → Int64) (n : Nat) (i : Int32) (x : Int64) (k : (Nat → Int64) → Option β) : Option β := if ¬ (i < 0 ∨ n ≤ i.toNatClampNeg) then k (vp_updL f i.toNatClampNeg x) else none
theorem wrJ_s {β : Type} {f : Nat → Int64} {n : Nat} {i : Int32} {x : Int64} {k : (Nat → Int64) → Option β} {o : β} (h : wrJ f n i x k = some o) : ∃ g, vp_in i n ∧ g = vp_updL f i.toNatClampNeg x ∧ k g = some o := by
  unfold wrJ at h
  by_cases hc : ¬ (i < 0 ∨ n ≤ i.toNatClampNeg)
  · rw [if_pos hc] at h
    exact ⟨_, hc, rfl, h⟩
  · rw [if_neg hc] at h
    cases h
noncomputable def gdp {β : Type} (i : Int32) (n : Nat) (k : Option β) : Option β := if ¬ (i < 0 ∨ n ≤ i.toNatClampNeg) then k else none
theorem gdp_s {β : Type} {i : Int32} {n : Nat} {k : Option β} {o : β} (h : gdp i n k = some o) : vp_in i n ∧ k = some o := by
  unfold gdp at h
  by_cases hc : ¬ (i < 0 ∨ n ≤ i.toNatClampNeg)
  · rw [if_pos hc] at h
    exact ⟨hc, h⟩
  · rw [if_neg hc] at h
    cases h
noncomputable def dvI {β : Type} (y : Int32) (k : Option β) : Option β := if y = 0 then none else k
theorem dvI_s {β : Type} {y : Int32} {k : Option β} {o : β} (h : dvI y k = some o) : ¬ y = 0 ∧ k = some o := by
  unfold dvI at h
  by_cases hc : y = 0
  · rw [if_pos hc] at h
    cases h
  · rw [if_neg hc] at h
    exact ⟨hc, h⟩
noncomputable def dvL {β : Type} (y : Int64) (k : Option β) : Option β := if y = 0 then none else k
theorem dvL_s {β : Type} {y : Int64} {k : Option β} {o : β} (h : dvL y k = some o) : ¬ y = 0 ∧ k = some o := by
  unfold dvL at h
  by_cases hc : y = 0
  · rw [if_pos hc] at h
    cases h
  · rw [if_neg hc] at h
    exact ⟨hc, h⟩
noncomputable def zb {β : Type} (v : Int32) (k : Option β) : Option β := if v = 0 ∨ v = 1 then k else none
theorem zb_s {β : Type} {v : Int32} {k : Option β} {o : β} (h : zb v k = some o) : narrow .boolean (.int v) = .int v ∧ k = some o := by
  unfold zb at h
  by_cases hc : v = 0 ∨ v = 1
  · rw [if_pos hc] at h
    exact ⟨by rcases hc with q | q <;> subst q <;> decide, h⟩
  · rw [if_neg hc] at h
    cases h
def nm {α β : Type} (x : α) (k : α → Option β) : Option β := k x
theorem nm_s {α β : Type} {x : α} {k : α → Option β} {o : β} (h : nm x k = some o) : ∃ y, y = x ∧ k y = some o := ⟨x, rfl, h⟩
def bd {α β : Type} (x : Option α) (k : α → Option β) : Option β := match x with
  | none => none
  | some a => k a
theorem bd_s {α β : Type} {x : Option α} {k : α → Option β} {o : β} (h : bd x k = some o) : ∃ r, x = some r ∧ k r = some o := by
  cases x with
  | none => cases h
  | some a => exact ⟨a, rfl, h⟩
theorem ifp {β : Type} {c : Prop} {dc : Decidable c} {a b o : Option β} (hc : c) (h : @ite _ c dc a b = o) : a = o := by
  rw [if_pos hc] at h
  exact h
theorem ifn {β : Type} {c : Prop} {dc : Decidable c} {a b o : Option β} (hc : ¬ c) (h : @ite _ c dc a b = o) : b = o := by
  rw [if_neg hc] at h
  exact h
noncomputable def cpI {β : Type} (f g : Nat → Int32) (n0 n1 : Nat) (sp dp n : Int32) (k : (Nat → Int32) → Option β) : Option β := if ¬ sp < 0 ∧ ¬ dp < 0 ∧ ¬ n < 0 ∧ sp.toNatClampNeg + n.toNatClampNeg ≤ n0 ∧ dp.toNatClampNeg + n.toNatClampNeg ≤ n1 then k (va_cpy f g sp.toNatClampNeg dp.toNatClampNeg n.toNatClampNeg) else none
theorem cpI_s {β : Type} {f g : Nat → Int32} {n0 n1 : Nat} {sp dp n : Int32} {k : (Nat → Int32) → Option β} {o : β} (h : cpI f g n0 n1 sp dp n k = some o) : ∃ g', ¬ sp < 0 ∧ ¬ dp < 0 ∧ ¬ n < 0 ∧ sp.toNatClampNeg + n.toNatClampNeg ≤ n0 ∧ dp.toNatClampNeg + n.toNatClampNeg ≤ n1 ∧ g' = va_cpy f g sp.toNatClampNeg dp.toNatClampNeg n.toNatClampNeg ∧ k g' = some o := by
  unfold cpI at h
  by_cases hc : ¬ sp < 0 ∧ ¬ dp < 0 ∧ ¬ n < 0 ∧ sp.toNatClampNeg + n.toNatClampNeg ≤ n0 ∧ dp.toNatClampNeg + n.toNatClampNeg ≤ n1
  · rw [if_pos hc] at h
    exact ⟨_, hc.1, hc.2.1, hc.2.2.1, hc.2.2.2.1, hc.2.2.2.2, rfl, h⟩
  · rw [if_neg hc] at h
    cases h
def FU : Nat := 4096
theorem ne_ti {x y : Int32} (h : ¬ x = y) : ¬ x.toInt = y.toInt := fun q => h (Int32.toInt_inj.mp q)
