theorem seesThen_ok {ru rows : Nat → Int32} {W H N a b t si : Nat} {A : Nat → Nat} (hW : W ≤ 9) (hH : H ≤ 9) (ht : t < 100) (ha : a < N) (hb : b < N) (hN : N ≤ 6) (hA : okS W H N A) (h6 : ru 6 = nI si) (hs : si ≤ 9) (hT : TR rows t A) : X7_seesThen ru rows (nI a) (nI b) (nI t) = some (if dst (A a) (A b) ≤ si then 1 else 0) := by
  have l1 := okp_lt hW hH (hA.1 a ha)
  have l2 := okp_lt hW hH (hA.1 b hb)
  have l3 := dst_lt hW hH (hA.1 a ha) (hA.1 b hb)
  unfold X7_seesThen
  rw [at_ok ht (by omega) hT, bd_some, at_ok ht (by omega) hT, bd_some, distance_ok (by omega) (by omega), bd_some, rd_lit ru 7 6 (by decide) (by decide), h6, zb_0, zb_1]
  by_cases c : dst (A a) (A b) ≤ si
  · rw [if_pos c, if_neg (nI_nlt c (by omega))]
  · rw [if_neg c, if_pos (nI_lt (by omega) (by omega))]
theorem isSeen_ok {W H N a si p : Nat} {ball : Int32} {place : Nat → Int32} {A : Nat → Nat} (hW3 : 3 ≤ W) (hW : W ≤ 9) (hH : H ≤ 9) (ha : a < N) (hN : N ≤ 6) (hA : okS W H N A) (hp : okp W H p) (hs : si ≤ 9) (hr : RepP W N ball place A) : X8_isSeen (nI si) (nI W) place (nI a) (nI (cl W p)) = some (if dst (A a) p ≤ si then 1 else 0) := by
  have hpa := hA.1 a ha
  have l1 := cl_lt hW hH hpa
  have l2 := cl_lt hW hH hp
  have m1 := okp_lt hW hH hpa
  have m2 := okp_lt hW hH hp
  have l3 := dst_lt hW hH hpa hp
  have hw0 : ¬ nI W = 0 := nI_ne0 (by omega) (by omega)
  unfold X8_isSeen
  rw [rd_nI place (by omega) (by decide), dvI_ne hw0, dvI_ne hw0, hr.2.1 a ha, pk_rem (by omega) (by omega) (by omega), pk_rem (by omega) (by omega) (by omega), cl_mod hpa.1, cl_mod hp.1, size_sub (by omega) (by omega), bd_some, rd_nI place (by omega) (by decide), dvI_ne hw0, dvI_ne hw0, hr.2.1 a ha, pk_div (by omega) (by omega) (by omega), pk_div (by omega) (by omega) (by omega), cl_div hpa.1, cl_div hp.1, size_sub (by omega) (by omega), bd_some, nI_add, zb_0, zb_1]
  show (if nI si < nI (dst (A a) p) then _ else _) = _
  by_cases c : dst (A a) p ≤ si
  · rw [if_pos c, if_neg (nI_nlt c (by omega))]
  · rw [if_neg c, if_pos (nI_lt (by omega) (by omega))]
