def upN (A : Nat → Nat) (k v : Nat) : Nat → Nat := fun j => if j = k then v else A j
theorem upN_s (A : Nat → Nat) (k v : Nat) : upN A k v k = v := if_pos rfl
theorem upN_n (A : Nat → Nat) {k j : Nat} (v : Nat) (h : j ≠ k) : upN A k v j = A j := if_neg h
def nx (W H p way : Nat) : Nat :=
  if way = 1 then (if p % 16 + 1 < W then p + 1 else 999) else if way = 2 then (if p / 16 + 1 < H then p + 16 else 999) else if way = 3 then (if 0 < p % 16 then p - 1 else 999) else if way = 4 then (if 0 < p / 16 then p - 16 else 999) else 999
def okp (W H p : Nat) : Prop := p % 16 < W ∧ p / 16 < H
def occ (A : Nat → Nat) : Nat → Nat → Bool
  | 0, _ => false
  | n + 1, q => occ A n q || decide (A n = q)
theorem occ_iff (A : Nat → Nat) (q : Nat) : ∀ n, occ A n q = true ↔ ∃ j, j < n ∧ A j = q
  | 0 => by simp [occ]
  | n + 1 => by
    rw [occ, Bool.or_eq_true, occ_iff A q n, decide_eq_true_iff]
    constructor
    · rintro (⟨j, h1, h2⟩ | h)
      · exact ⟨j, by omega, h2⟩
      · exact ⟨n, by omega, h⟩
    · rintro ⟨j, h1, h2⟩
      by_cases h : j = n
      · subst h
        exact Or.inr h2
      · exact Or.inl ⟨j, by omega, h2⟩
def fr (A : Nat → Nat) (N q : Nat) : Bool := decide (q ≠ 999) && !occ A N q
def mbA (W H N : Nat) (A : Nat → Nat) (way : Nat) : Nat → Nat := if fr A N (nx W H (A 6) way) = true then upN A 6 (nx W H (A 6) way) else A
def goA (W H N : Nat) (A : Nat → Nat) (a way : Nat) : Nat → Nat :=
  if fr A N (nx W H (A a) way) = true then (if nx W H (A a) way = A 6 then (if fr A N (nx W H (A 6) way) = true then upN (upN A 6 (nx W H (A 6) way)) a (nx W H (A a) way) else A) else upN A a (nx W H (A a) way)) else A
def wtb (W H : Nat) (A : Nat → Nat) (a : Nat) : Nat := if nx W H (A a) 1 = A 6 then 1 else if nx W H (A a) 2 = A 6 then 2 else if nx W H (A a) 3 = A 6 then 3 else if nx W H (A a) 4 = A 6 then 4 else 0
def kickN (W H N way : Nat) : Nat → (Nat → Nat) → (Nat → Nat)
  | 0, A => A
  | k + 1, A => if fr A N (nx W H (A 6) way) = true then kickN W H N way k (upN A 6 (nx W H (A 6) way)) else A
def kickA (W H N : Nat) (A : Nat → Nat) (a power : Nat) : Nat → Nat := if wtb W H A a = 0 then A else kickN W H N (wtb W H A a) power A
def adif (a b : Nat) : Nat := if a < b then b - a else a - b
def dst (p q : Nat) : Nat := adif (p % 16) (q % 16) + adif (p / 16) (q / 16)
def mpA (W H : Nat) (A : Nat → Nat) (a : Nat) : Nat :=
  if wtb W H A a = 0 then (if adif (A 6 % 16) (A a % 16) < adif (A 6 / 16) (A a / 16) then (if A a / 16 < A 6 / 16 then 2 else 4) else (if A a % 16 < A 6 % 16 then 1 else 3)) else 5
def actA (W H N : Nat) (A : Nat → Nat) (a v power : Nat) : Nat → Nat := if v = 5 then kickA W H N A a power else if v = 0 then A else goA W H N A a v
def allA (W H N power : Nat) (left : Nat → Bool) (press : Nat → Nat) : Nat → (Nat → Nat) → (Nat → Nat)
  | 0, A => A
  | a + 1, A => actA W H N (allA W H N power left press a A) a (if left a = true then mpA W H (allA W H N power left press a A) a else press a) power
def spA (W H N spin seed t : Nat) (A : Nat → Nat) : Nat → Nat := if 0 < spin ∧ (t + 1) % spin = 0 then mbA W H N A ((31 * seed + 17 * t) % 4 + 1) else A
def nrst (A : Nat → Nat) : Nat → Nat × Nat × Bool
  | 0 => (0, dst (A 0) (A 6), true)
  | a + 1 => if dst (A (a + 1)) (A 6) < (nrst A a).2.1 then (a + 1, dst (A (a + 1)) (A 6), true) else if dst (A (a + 1)) (A 6) = (nrst A a).2.1 then ((nrst A a).1, (nrst A a).2.1, false) else nrst A a
def gpA (N : Nat) (A : Nat → Nat) : Nat → Nat := if (nrst A (N - 1)).2.2 = true then upN A (7 + (nrst A (N - 1)).1) (A (7 + (nrst A (N - 1)).1) + 1) else A
def advA (W H N power spin seed t : Nat) (left : Nat → Bool) (press : Nat → Nat) (A : Nat → Nat) : Nat → Nat := gpA N (spA W H N spin seed t (allA W H N power left press N A))
def startA (W H N : Nat) : Nat → Nat := fun k => if k < N then 16 * (k / W) + k % W else if k = 6 then 16 * (H - 1) + (W - 1) else 0
def Rep (now : Nat → Int32) (A : Nat → Nat) : Prop := ∀ k, k < 13 → now k = nI (A k)
theorem Rep.up {now : Nat → Int32} {A : Nat → Nat} (h : Rep now A) (k v : Nat) : Rep (upd now k (nI v)) (upN A k v) := by
  intro j hj
  by_cases hk : j = k
  · subst hk
    rw [pk_us, upN_s]
  · rw [pk_un hk, upN_n A v hk]
    exact h j hj
def okS (W H N : Nat) (A : Nat → Nat) : Prop := (∀ a, a < N → okp W H (A a)) ∧ okp W H (A 6)
def bnd (W H N : Nat) : Prop := 3 ≤ W ∧ W ≤ 9 ∧ 3 ≤ H ∧ H ≤ 9 ∧ 2 ≤ N ∧ N ≤ 6
theorem okp_lt {W H p : Nat} (hW : W ≤ 9) (hH : H ≤ 9) (h : okp W H p) : p < 144 := by
  unfold okp at h
  omega
theorem nx_cases {W H p way : Nat} (hW : W ≤ 9) (hH : H ≤ 9) (hp : okp W H p) : nx W H p way = 999 ∨ okp W H (nx W H p way) := by
  unfold nx
  unfold okp at hp ⊢
  by_cases h1 : way = 1
  · rw [if_pos h1]
    split <;> omega
  · rw [if_neg h1]
    by_cases h2 : way = 2
    · rw [if_pos h2]
      split <;> omega
    · rw [if_neg h2]
      by_cases h3 : way = 3
      · rw [if_pos h3]
        split <;> omega
      · rw [if_neg h3]
        by_cases h4 : way = 4
        · rw [if_pos h4]
          split <;> omega
        · rw [if_neg h4]
          exact Or.inl rfl
theorem fr_ok {W H N : Nat} {A : Nat → Nat} {p way : Nat} (hW : W ≤ 9) (hH : H ≤ 9) (hp : okp W H p) (h : fr A N (nx W H p way) = true) : okp W H (nx W H p way) ∧ ∀ j, j < N → A j ≠ nx W H p way := by
  unfold fr at h
  rw [Bool.and_eq_true, decide_eq_true_iff, Bool.not_eq_true'] at h
  refine ⟨(nx_cases hW hH hp).resolve_left h.1, fun j hj e => ?_⟩
  have := (occ_iff A (nx W H p way) N).mpr ⟨j, hj, e⟩
  rw [h.2] at this
  cases this
theorem okS.up6 {W H N : Nat} {A : Nat → Nat} (h : okS W H N A) (hN : N ≤ 6) {q : Nat} (hq : okp W H q) : okS W H N (upN A 6 q) := by
  refine ⟨fun a ha => ?_, ?_⟩
  · rw [upN_n A q (by omega)]
    exact h.1 a ha
  · rw [upN_s]
    exact hq
theorem okS.upa {W H N : Nat} {A : Nat → Nat} (h : okS W H N A) (hN : N ≤ 6) {a q : Nat} (ha : a < N) (hq : okp W H q) : okS W H N (upN A a q) := by
  refine ⟨fun b hb => ?_, ?_⟩
  · by_cases e : b = a
    · subst e
      rw [upN_s]
      exact hq
    · rw [upN_n A q e]
      exact h.1 b hb
  · rw [upN_n A q (by omega)]
    exact h.2
theorem mbA_ok {W H N : Nat} {A : Nat → Nat} {way : Nat} (hW : W ≤ 9) (hH : H ≤ 9) (hN : N ≤ 6) (h : okS W H N A) : okS W H N (mbA W H N A way) := by
  unfold mbA
  split
  · rename_i hc
    exact h.up6 hN (fr_ok hW hH h.2 hc).1
  · exact h
theorem goA_ok {W H N : Nat} {A : Nat → Nat} {a way : Nat} (hW : W ≤ 9) (hH : H ≤ 9) (hN : N ≤ 6) (ha : a < N) (h : okS W H N A) : okS W H N (goA W H N A a way) := by
  unfold goA
  split
  · rename_i hc
    have h1 := (fr_ok hW hH (h.1 a ha) hc).1
    split
    · split
      · rename_i hd
        exact (h.up6 hN (fr_ok hW hH h.2 hd).1).upa hN ha h1
      · exact h
    · exact h.upa hN ha h1
  · exact h
theorem kickN_ok {W H N way : Nat} (hW : W ≤ 9) (hH : H ≤ 9) (hN : N ≤ 6) : ∀ (k : Nat) (A : Nat → Nat), okS W H N A → okS W H N (kickN W H N way k A)
  | 0, A, h => h
  | k + 1, A, h => by
    rw [kickN]
    split
    · rename_i hc
      exact kickN_ok hW hH hN k _ (h.up6 hN (fr_ok hW hH h.2 hc).1)
    · exact h
theorem kickA_ok {W H N : Nat} {A : Nat → Nat} {a power : Nat} (hW : W ≤ 9) (hH : H ≤ 9) (hN : N ≤ 6) (h : okS W H N A) : okS W H N (kickA W H N A a power) := by
  unfold kickA
  split
  · exact h
  · exact kickN_ok hW hH hN _ _ h
theorem actA_ok {W H N : Nat} {A : Nat → Nat} {a v power : Nat} (hW : W ≤ 9) (hH : H ≤ 9) (hN : N ≤ 6) (ha : a < N) (h : okS W H N A) : okS W H N (actA W H N A a v power) := by
  unfold actA
  split
  · exact kickA_ok hW hH hN h
  · split
    · exact h
    · exact goA_ok hW hH hN ha h
theorem allA_ok {W H N power : Nat} {left : Nat → Bool} {press : Nat → Nat} {A : Nat → Nat} (hW : W ≤ 9) (hH : H ≤ 9) (hN : N ≤ 6) (h : okS W H N A) : ∀ a, a ≤ N → okS W H N (allA W H N power left press a A)
  | 0, _ => h
  | a + 1, ha => by
    rw [allA]
    exact actA_ok hW hH hN (by omega) (allA_ok hW hH hN h a (by omega))
theorem spA_ok {W H N spin seed t : Nat} {A : Nat → Nat} (hW : W ≤ 9) (hH : H ≤ 9) (hN : N ≤ 6) (h : okS W H N A) : okS W H N (spA W H N spin seed t A) := by
  unfold spA
  split
  · exact mbA_ok hW hH hN h
  · exact h
theorem nrst_lt (A : Nat → Nat) : ∀ a, (nrst A a).1 ≤ a
  | 0 => Nat.le_refl 0
  | a + 1 => by
    have := nrst_lt A a
    rw [nrst]
    split
    · exact Nat.le_refl _
    · split
      · show (nrst A a).1 ≤ a + 1
        omega
      · omega
theorem gpA_ok {W H N : Nat} {A : Nat → Nat} (hN : N ≤ 6) (h : okS W H N A) : okS W H N (gpA N A) := by
  unfold gpA
  split
  · refine ⟨fun a ha => ?_, ?_⟩
    · rw [upN_n _ _ (by omega)]
      exact h.1 a ha
    · rw [upN_n _ _ (by omega)]
      exact h.2
  · exact h
theorem advA_ok {W H N power spin seed t : Nat} {left : Nat → Bool} {press : Nat → Nat} {A : Nat → Nat} (hW : W ≤ 9) (hH : H ≤ 9) (hN : N ≤ 6) (h : okS W H N A) : okS W H N (advA W H N power spin seed t left press A) := gpA_ok hN (spA_ok hW hH hN (allA_ok hW hH hN h N (Nat.le_refl N)))
theorem startA_ok {W H N : Nat} (hb : bnd W H N) : okS W H N (startA W H N) := by
  obtain ⟨h1, h2, h3, h4, h5, h6⟩ := hb
  refine ⟨fun a ha => ?_, ?_⟩
  · unfold startA okp
    rw [if_pos ha]
    have e1 : a % W < W := Nat.mod_lt a (by omega)
    have e2 : a / W ≤ 1 := by
      have : a / W ≤ 5 / 3 := Nat.div_le_div (by omega) h1 (by decide)
      omega
    constructor <;> omega
  · unfold startA okp
    rw [if_neg (by omega), if_pos rfl]
    constructor <;> omega
