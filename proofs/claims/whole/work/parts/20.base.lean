theorem lit32 (n : Nat) : (OfNat.ofNat n : Int32) = nI n := rfl
theorem rd_nI {α β : Type} (f : Nat → α) {n i : Nat} (h : i < n) (hn : n < 2 ^ 31) (k : α → Option β) : rd f n (nI i) k = k (f i) := by
  have h2 : ¬ (nI i < 0 ∨ n ≤ (nI i).toNatClampNeg) := vp_in_nI h hn
  unfold rd
  rw [if_pos h2, nI_clamp (by omega)]
theorem wrI_nI {β : Type} (f : Nat → Int32) {n i : Nat} (h : i < n) (hn : n < 2 ^ 31) (x : Int32) (k : (Nat → Int32) → Option β) : wrI f n (nI i) x k = k (upd f i x) := by
  have h2 : ¬ (nI i < 0 ∨ n ≤ (nI i).toNatClampNeg) := vp_in_nI h hn
  unfold wrI
  rw [if_pos h2, nI_clamp (by omega)]
theorem wrZ_nI {β : Type} (f : Nat → Int32) {n i : Nat} (h : i < n) (hn : n < 2 ^ 31) (x : Int32) (k : (Nat → Int32) → Option β) : wrZ f n (nI i) x k = k (upd f i (vp_nar .boolean x)) := by
  have h2 : ¬ (nI i < 0 ∨ n ≤ (nI i).toNatClampNeg) := vp_in_nI h hn
  unfold wrZ
  rw [if_pos h2, nI_clamp (by omega)]
theorem wrJ_nI {β : Type} (f : Nat → Int64) {n i : Nat} (h : i < n) (hn : n < 2 ^ 31) (x : Int64) (k : (Nat → Int64) → Option β) : wrJ f n (nI i) x k = k (vp_updL f i x) := by
  have h2 : ¬ (nI i < 0 ∨ n ≤ (nI i).toNatClampNeg) := vp_in_nI h hn
  unfold wrJ
  rw [if_pos h2, nI_clamp (by omega)]
theorem gdp_nI {β : Type} {n i : Nat} (h : i < n) (hn : n < 2 ^ 31) (k : Option β) : gdp (nI i) n k = k := by
  have h2 : ¬ (nI i < 0 ∨ n ≤ (nI i).toNatClampNeg) := vp_in_nI h hn
  unfold gdp
  rw [if_pos h2]
theorem dvI_ne {β : Type} {y : Int32} (h : ¬ y = 0) (k : Option β) : dvI y k = k := by
  unfold dvI
  rw [if_neg h]
theorem dvL_ne {β : Type} {y : Int64} (h : ¬ y = 0) (k : Option β) : dvL y k = k := by
  unfold dvL
  rw [if_neg h]
theorem zb_0 {β : Type} (k : Option β) : zb 0 k = k := by
  unfold zb
  rw [if_pos (Or.inl rfl)]
theorem zb_1 {β : Type} (k : Option β) : zb 1 k = k := by
  unfold zb
  rw [if_pos (Or.inr rfl)]
theorem zb_of {β : Type} {v : Int32} (h : v = 0 ∨ v = 1) (k : Option β) : zb v k = k := by
  unfold zb
  rw [if_pos h]
theorem bd_some {α β : Type} (a : α) (k : α → Option β) : bd (some a) k = k a := rfl
theorem nm_eq {α β : Type} (x : α) (k : α → Option β) : nm x k = k x := rfl
theorem FU_big {n : Nat} (h : n < 4096) : n < FU := h
theorem nI_inj {a b : Nat} (ha : a < 2 ^ 31) (hb : b < 2 ^ 31) (h : nI a = nI b) : a = b := (nI_eq ha hb).mp h
theorem nI_lt0 {a : Nat} (h : a < 2 ^ 31) : ¬ nI a < 0 := nI_pos h
theorem xOf_nI {q : Nat} (h : q < 2 ^ 31) : X7_xOf (nI q) = some (nI (q % 16)) := by
  unfold X7_xOf
  rw [pk_andN (by omega) 4 (by decide)]
theorem yOf_nI {q : Nat} (h : q < 2 ^ 31) : X7_yOf (nI q) = some (nI (q / 16)) := by
  unfold X7_yOf
  rw [pk_shrN h _ 4 (by decide)]
theorem negI (n : Nat) : (-(nI n) : Int32).toInt = (-(n : Int)).bmod (2 ^ 32) := by
  rw [Int32.toInt_neg]
  show (-(Int32.ofNat n).toInt).bmod (2 ^ 32) = _
  rw [Int32.toInt_ofNat']
  simp
theorem isHand_ok {n : Nat} (hn : n < 2 ^ 31) (p : Int32) : X7_isHand (nI n) p = some (if 0 ≤ p.toInt ∧ p.toInt < n then 1 else 0) := by
  unfold X7_isHand
  rw [zb_0, zb_1]
  have e := nI_toInt hn
  by_cases h1 : p < 0
  · rw [if_pos h1]
    have h2 : p.toInt < 0 := Int32.lt_iff_toInt_lt.mp h1
    rw [if_neg (by omega)]
  · rw [if_neg h1]
    have h2 : ¬ p.toInt < 0 := fun h => h1 (Int32.lt_iff_toInt_lt.mpr h)
    by_cases h3 : nI n ≤ p
    · rw [if_pos h3]
      have h4 := Int32.le_iff_toInt_le.mp h3
      rw [if_neg (by omega)]
    · rw [if_neg h3]
      have h4 : ¬ (nI n).toInt ≤ p.toInt := fun h => h3 (Int32.le_iff_toInt_le.mpr h)
      rw [if_pos (by omega)]
theorem rd_lit {α β : Type} (f : Nat → α) (n i : Nat) (h : i < n) (hn : n < 2 ^ 31) (k : α → Option β) : rd f n (OfNat.ofNat i : Int32) k = k (f i) := rd_nI f h hn k
theorem wrI_lit {β : Type} (f : Nat → Int32) (n i : Nat) (h : i < n) (hn : n < 2 ^ 31) (x : Int32) (k : (Nat → Int32) → Option β) : wrI f n (OfNat.ofNat i : Int32) x k = k (upd f i x) := wrI_nI f h hn x k
theorem i1n0 : ¬ (1 : Int32) = 0 := by decide
