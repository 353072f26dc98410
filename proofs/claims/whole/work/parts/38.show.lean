theorem gs_le {WA LO LF LT PR : Nat → Nat} {D g c a : Nat} (ha : a < 6) (hp : ∀ k, k < 600 → PR k ≤ 5) : ∀ t, t ≤ 100 → gs WA LO LF LT PR D g c a t ≤ 5
  | 0, _ => by rw [gs]; omega
  | t + 1, ht => by
    rw [gs]
    split
    · split
      · omega
      · exact hp _ (by omega)
    · exact gs_le ha hp t (by omega)
theorem tk_le {WA LO LF LT PR : Nat → Nat} {D g c a t : Nat} (ha : a < 6) (ht : t < 100) (hp : ∀ k, k < 600 → PR k ≤ 5) : tk WA LO LF LT PR D g c a t ≤ 5 := by
  unfold tk
  split
  · exact hp _ (by omega)
  · exact gs_le ha hp t (by omega)
def tkT (WA LO LF LT PR : Nat → Nat) (D g c : Nat) : Nat → Nat → Nat := fun t a => tk WA LO LF LT PR D g c a t
section SHOW
variable {w h n : Int32} {ru pr lf lt waits lostRow : Nat → Int32} {W H N pw sp sd : Nat} {WA LO LF LT PR : Nat → Nat}
theorem showF_L (hn : PlayN W H N pw sp sd LF LT PR) (hc : CP w h n ru pr lf lt W H N pw sp sd LF LT PR) (hl : LinN waits lostRow WA LO) {D g c : Nat} (hD : D ≤ 9) (hd : ru 3 = nI D) (hg : g < 6) (hcc : c < 100) : ∀ (d i fuel : Nat) (rows now ps : Nat → Int32), i + d = c + 1 → d < fuel → Rep now (trj W H N pw sp sd LF LT (tkT WA LO LF LT PR D g c) i) → (∀ j, j < i → TR rows j (trj W H N pw sp sd LF LT (tkT WA LO LF LT PR D g c) (j + 1))) → ∃ rows' now' ps', X7_showFrom_L12 w h n ru pr lf lt waits lostRow fuel rows now ps (nI g) (nI c) (nI i) = some (rows', now', ps') ∧ ∀ j, j ≤ c → TR rows' j (trj W H N pw sp sd LF LT (tkT WA LO LF LT PR D g c) (j + 1)) := by
  have hn' := hn
  obtain ⟨hb, ⟨p1, p5⟩, -, -, hlr, hPR⟩ := hn'
  have hc' := hc
  obtain ⟨ew, eh, en, e0, -, -, hcl, hcp⟩ := hc'
  have hb' := hb
  obtain ⟨b1, b2, b3, b4, b5, b6⟩ := hb'
  intro d
  induction d with
  | zero =>
    intro i fuel rows now ps hi hf hr hT
    obtain ⟨fuel, rfl⟩ : ∃ k, fuel = k + 1 := ⟨fuel - 1, by omega⟩
    have ei : i = c + 1 := by omega
    subst ei
    refine ⟨rows, now, ps, ?_, fun j hj => hT j (by omega)⟩
    show X7_showFrom_L12_B w h n ru pr lf lt waits lostRow _ rows now ps (nI g) (nI c) (nI (c + 1)) = _
    unfold X7_showFrom_L12_B
    rw [if_pos (nI_lt (by omega) (by omega))]
  | succ d ih =>
    intro i fuel rows now ps hi hf hr hT
    obtain ⟨fuel, rfl⟩ : ∃ k, fuel = k + 1 := ⟨fuel - 1, by omega⟩
    have inner : ∀ (e a f2 : Nat) (ps : Nat → Int32), a + e = N → e < f2 → (∀ b, b < a → ps b = nI (tk WA LO LF LT PR D g c b i)) → ∃ ps', X7_showFrom_L21 w h n ru pr lf lt waits lostRow (X7_showFrom_L12 w h n ru pr lf lt waits lostRow fuel) f2 rows now ps (nI g) (nI c) (nI i) (nI a) = X7_showFrom_J68 w h n ru pr lf lt waits lostRow (X7_showFrom_L12 w h n ru pr lf lt waits lostRow fuel) rows now ps' (nI g) (nI c) (nI i) ∧ ∀ b, b < N → ps' b = nI (tk WA LO LF LT PR D g c b i) := by
      intro e
      induction e with
      | zero =>
        intro a f2 ps ha hf2 hps
        obtain ⟨f2, rfl⟩ : ∃ k, f2 = k + 1 := ⟨f2 - 1, by omega⟩
        refine ⟨ps, ?_, fun b hbN => hps b (by omega)⟩
        show X7_showFrom_L21_B w h n ru pr lf lt waits lostRow _ _ rows now ps (nI g) (nI c) (nI i) (nI a) = _
        unfold X7_showFrom_L21_B
        rw [if_pos (by rw [en]; exact nI_le (by omega) (by omega))]
      | succ e ihe =>
        intro a f2 ps ha hf2 hps
        obtain ⟨f2, rfl⟩ : ∃ k, f2 = k + 1 := ⟨f2 - 1, by omega⟩
        have hs : X7_showFrom_L21 w h n ru pr lf lt waits lostRow (X7_showFrom_L12 w h n ru pr lf lt waits lostRow fuel) (f2 + 1) rows now ps (nI g) (nI c) (nI i) (nI a) = X7_showFrom_L21 w h n ru pr lf lt waits lostRow (X7_showFrom_L12 w h n ru pr lf lt waits lostRow fuel) f2 rows now (upd ps a (nI (tk WA LO LF LT PR D g c a i))) (nI g) (nI c) (nI i) (nI (a + 1)) := by
          show X7_showFrom_L21_B w h n ru pr lf lt waits lostRow _ (X7_showFrom_L21 w h n ru pr lf lt waits lostRow (X7_showFrom_L12 w h n ru pr lf lt waits lostRow fuel) f2) rows now ps (nI g) (nI c) (nI i) (nI a) = _
          unfold X7_showFrom_L21_B
          rw [if_neg (by rw [en]; exact nI_ge (by omega) (by omega)), rd_lit ru 7 3 (by decide) (by decide), hd, taken_ok hl hcl hlr hcp hD hg hcc (by omega) (by omega), bd_some, wrI_nI ps (by omega) (by decide), nm_eq, show nI a + 1 = nI (a + 1) from nI_1 a]
        rw [hs]
        refine ihe (a + 1) f2 _ (by omega) (by omega) (fun b hb2 => ?_)
        by_cases q : b = a
        · subst q
          exact pk_us
        · rw [pk_un q]
          exact hps b (by omega)
    obtain ⟨ps1, f1, f2⟩ := inner N 0 FU ps (by omega) (FU_big (by omega)) (fun b hb2 => by omega)
    obtain ⟨now1, a1, a2⟩ := adv_P hn hc (power := pw) (t := i) (row := ps1) (prs := tkT WA LO LF LT PR D g c i) p5 (by omega) (fun a ha _ => ⟨f2 a ha, tk_le (by omega) (by omega) hPR⟩) (trj_ok hb i) hr
    obtain ⟨rows1, s1, s2, s3⟩ := save_ok (rows := rows) (t := i) (by omega) a2
    have hs : X7_showFrom_L12 w h n ru pr lf lt waits lostRow (fuel + 1) rows now ps (nI g) (nI c) (nI i) = X7_showFrom_L12 w h n ru pr lf lt waits lostRow fuel rows1 now1 ps1 (nI g) (nI c) (nI (i + 1)) := by
      show X7_showFrom_L12_B w h n ru pr lf lt waits lostRow (X7_showFrom_L12 w h n ru pr lf lt waits lostRow fuel) rows now ps (nI g) (nI c) (nI i) = _
      unfold X7_showFrom_L12_B
      rw [if_neg (nI_nlt (by omega) (by omega))]
      refine Eq.trans f1 ?_
      unfold X7_showFrom_J68
      rw [rd_lit ru 7 0 (by decide) (by decide), e0, a1, bd_some, s1, bd_some, nm_eq, show nI i + 1 = nI (i + 1) from nI_1 i]
    rw [hs]
    refine ih (i + 1) fuel rows1 now1 ps1 (by omega) (by omega) a2 (fun j hj => ?_)
    by_cases e : j = i
    · subst e
      exact s2
    · exact s3 j _ e (hT j (by omega))
theorem showFrom_ok (hn : PlayN W H N pw sp sd LF LT PR) (hc : CP w h n ru pr lf lt W H N pw sp sd LF LT PR) (hl : LinN waits lostRow WA LO) {D g c i : Nat} (hD : D ≤ 9) (hd : ru 3 = nI D) (hg : g < 6) (hcc : c < 100) (hi : i ≤ c + 1) (rows now ps : Nat → Int32) (hT : ∀ j, j < i → TR rows j (trj W H N pw sp sd LF LT (tkT WA LO LF LT PR D g c) (j + 1))) : ∃ rows' now' ps', X7_showFrom w h n ru pr lf lt waits lostRow rows now ps (nI g) (nI c) (nI i) = some (rows', now', ps') ∧ ∀ j, j ≤ c → TR rows' j (trj W H N pw sp sd LF LT (tkT WA LO LF LT PR D g c) (j + 1)) := by
  have hc' := hc
  obtain ⟨ew, eh, en, -⟩ := hc'
  unfold X7_showFrom
  obtain ⟨n1, e1, r1⟩ := ahead_ok (now := now) (T := trj W H N pw sp sd LF LT (tkT WA LO LF LT PR D g c)) hn.1 (show i ≤ 100 by omega) rfl hT
  rw [ew, eh, en, e1, bd_some, ← ew, ← eh, ← en]
  exact showF_L hn hc hl hD hd hg hcc (c + 1 - i) i FU rows n1 ps (by omega) (FU_big (by omega)) r1 hT
end SHOW
