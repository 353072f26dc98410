def InvR (ru : Nat → Int32) (delay feel turn sight : Int32) : Prop := ∃ D fe tu si : Nat, (ru 3 = nI D ∧ delay = nI D ∧ D ≤ 9) ∧ (ru 4 = nI fe ∧ feel = nI fe ∧ fe ≤ 99) ∧ (ru 5 = nI tu ∧ turn = nI tu ∧ tu ≤ 99) ∧ (ru 6 = nI si ∧ sight = nI si ∧ si ≤ 9)
def hiR (j : Nat) : Nat := if j = 0 then 5 else if j = 1 then 9 else if j = 2 then 999 else if j = 3 then 9 else if j = 4 then 99 else if j = 5 then 99 else 9
def loR (j : Nat) : Nat := if j = 0 then 1 else 0
theorem least_R {j : Nat} (h : j < 7) : st_least j = nI (loR j) := by
  rcases (show j = 0 ∨ j = 1 ∨ j = 2 ∨ j = 3 ∨ j = 4 ∨ j = 5 ∨ j = 6 by omega) with rfl | rfl | rfl | rfl | rfl | rfl | rfl <;> rfl
theorem most_R {j : Nat} (h : j < 7) : st_most j = nI (hiR j) := by
  rcases (show j = 0 ∨ j = 1 ∨ j = 2 ∨ j = 3 ∨ j = 4 ∨ j = 5 ∨ j = 6 by omega) with rfl | rfl | rfl | rfl | rfl | rfl | rfl <;> rfl
theorem hiR_le (j : Nat) : hiR j ≤ 999 := by
  unfold hiR
  repeat' split
  all_goals omega
theorem rule_C {ru : Nat → Int32} {R j : Nat} (hR : R ≤ 100) (hj : j < 7) (p2 : Int32) : X7_rule ru (nI R) (nI j) p2 = some (if (loR j : Int) ≤ p2.toInt ∧ p2.toInt ≤ (hiR j : Int) then (ru j, upd ru j p2, if j ≤ 2 then nI 0 else nI R) else (-2, ru, nI R)) := by
  have hh := hiR_le j
  have hl : loR j ≤ 1 := by unfold loR; split <;> omega
  unfold X7_rule
  rw [if_neg (nI_pos (by omega)), if_neg (show ¬ (6 : Int32) < nI j from nI_nlt (a := 6) (by omega) (by decide)), rd_nI st_least hj (by decide), rd_nI st_most hj (by decide), least_R hj, most_R hj]
  have q1 : (nI (loR j)).toInt = loR j := nI_toInt (by omega)
  have q2 : (nI (hiR j)).toInt = hiR j := nI_toInt (by omega)
  by_cases c1 : p2 < nI (loR j)
  · rw [if_pos c1, if_neg (by rw [ltI, q1] at c1; omega)]
  · rw [if_neg c1]
    by_cases c2 : p2 ≤ nI (hiR j)
    · rw [if_pos c2, if_pos (by rw [ltI, q1] at c1; rw [leI, q2] at c2; omega), rd_nI ru hj (by decide), wrI_nI ru hj (by decide)]
      by_cases c3 : j ≤ 2
      · rw [if_neg (show ¬ (2 : Int32) < nI j from nI_nlt (a := 2) (by omega) (by decide)), if_pos c3, show (0 : Int32) = nI 0 from rfl, keep_ok hR (by decide), bd_some]
        have : (if 0 < R then 0 else R) = 0 := by split <;> omega
        rw [this]
      · rw [if_pos (show (2 : Int32) < nI j from nI_lt (a := 2) (by omega) (by omega)), if_neg c3]
    · rw [if_neg c2, if_neg (by rw [leI, q2] at c2; omega)]
theorem ruleJ68 {th delay feel turn sight : Int32} {power spin seed : Nat → Int32} {j : Nat} (hj : j < 7) (p2 l3 : Int32) (s1 : Int64) (h3 : l3.toInt = hiR j) (h1 : s1.toInt = loR j) : X8_rule_J68 th delay feel turn sight power spin seed (nI j) p2 l3 (Int32.toInt64 p2) s1 = some (if (loR j : Int) ≤ p2.toInt ∧ p2.toInt ≤ (hiR j : Int) then (if j = 0 then (power 4, th, delay, feel, turn, sight, upd power 4 p2, spin, seed) else if j = 1 then (spin 4, th, delay, feel, turn, sight, power, upd spin 4 p2, seed) else if j = 2 then (seed 4, th, delay, feel, turn, sight, power, spin, upd seed 4 p2) else if j = 3 then (delay, th, p2, feel, turn, sight, power, spin, seed) else if j = 4 then (feel, th, delay, p2, turn, sight, power, spin, seed) else if j = 5 then (turn, th, delay, feel, p2, sight, power, spin, seed) else (sight, th, delay, feel, turn, p2, power, spin, seed)) else (-2, th, delay, feel, turn, sight, power, spin, seed)) := by
  unfold X8_rule_J68
  by_cases c : (loR j : Int) ≤ p2.toInt ∧ p2.toInt ≤ (hiR j : Int)
  · rw [in_yes (by rw [h1]; exact c.1) (by rw [t64, h3]; exact c.2), bd_some, if_neg i1n0, if_pos c]
    rw [rd_lit power 5 4 (by decide) (by decide), wrI_lit power 5 4 (by decide) (by decide), rd_lit spin 5 4 (by decide) (by decide), wrI_lit spin 5 4 (by decide) (by decide), rd_lit seed 5 4 (by decide) (by decide), wrI_lit seed 5 4 (by decide) (by decide)]
    rcases (show j = 0 ∨ j = 1 ∨ j = 2 ∨ j = 3 ∨ j = 4 ∨ j = 5 ∨ j = 6 by omega) with rfl | rfl | rfl | rfl | rfl | rfl | rfl <;> rfl
  · rw [in_no (by rw [t64, h1, h3]; exact c), bd_some, if_pos rfl, if_neg c]
theorem rule_M {th delay feel turn sight : Int32} {power spin seed : Nat → Int32} {j : Nat} (hj : j < 7) (p2 : Int32) : X8_rule th delay feel turn sight power spin seed (nI j) p2 = some (if (loR j : Int) ≤ p2.toInt ∧ p2.toInt ≤ (hiR j : Int) then (if j = 0 then (power 4, 0, delay, feel, turn, sight, upd power 4 p2, spin, seed) else if j = 1 then (spin 4, 0, delay, feel, turn, sight, power, upd spin 4 p2, seed) else if j = 2 then (seed 4, 0, delay, feel, turn, sight, power, spin, upd seed 4 p2) else if j = 3 then (delay, 0, p2, feel, turn, sight, power, spin, seed) else if j = 4 then (feel, 0, delay, p2, turn, sight, power, spin, seed) else if j = 5 then (turn, 0, delay, feel, p2, sight, power, spin, seed) else (sight, 0, delay, feel, turn, p2, power, spin, seed)) else (-2, 0, delay, feel, turn, sight, power, spin, seed)) := by
  have hin : X8_in (Int32.toInt64 (nI j)) 0 6 = some 1 := in_yes (by rw [nI_toInt (by omega)]; show (0 : Int) ≤ _; omega) (by rw [nI_toInt (by omega)]; show _ ≤ (6 : Int); omega)
  unfold X8_rule
  rw [hin, bd_some, if_neg i1n0]
  unfold X8_rule_J49 X8_rule_J56
  rcases (show j = 0 ∨ j = 1 ∨ j = 2 ∨ j = 3 ∨ j = 4 ∨ j = 5 ∨ j = 6 by omega) with rfl | rfl | rfl | rfl | rfl | rfl | rfl
  · rw [if_pos (show nI 0 = (0 : Int32) from rfl), if_pos (show nI 0 = (0 : Int32) from rfl)]
    exact ruleJ68 (by decide) p2 5 1 rfl rfl
  · rw [if_neg (show ¬ nI 1 = (0 : Int32) by decide), if_neg (show ¬ nI 1 = (2 : Int32) by decide), if_neg (show ¬ nI 1 = (4 : Int32) by decide), if_neg (show ¬ nI 1 = (5 : Int32) by decide), if_neg (show ¬ nI 1 = (0 : Int32) by decide)]
    exact ruleJ68 (by decide) p2 9 0 rfl rfl
  · rw [if_neg (show ¬ nI 2 = (0 : Int32) by decide), if_pos (show nI 2 = (2 : Int32) from rfl), if_neg (show ¬ nI 2 = (0 : Int32) by decide)]
    exact ruleJ68 (by decide) p2 999 0 rfl rfl
  · rw [if_neg (show ¬ nI 3 = (0 : Int32) by decide), if_neg (show ¬ nI 3 = (2 : Int32) by decide), if_neg (show ¬ nI 3 = (4 : Int32) by decide), if_neg (show ¬ nI 3 = (5 : Int32) by decide), if_neg (show ¬ nI 3 = (0 : Int32) by decide)]
    exact ruleJ68 (by decide) p2 9 0 rfl rfl
  · rw [if_neg (show ¬ nI 4 = (0 : Int32) by decide), if_neg (show ¬ nI 4 = (2 : Int32) by decide), if_pos (show nI 4 = (4 : Int32) from rfl), if_neg (show ¬ nI 4 = (0 : Int32) by decide)]
    exact ruleJ68 (by decide) p2 99 0 rfl rfl
  · rw [if_neg (show ¬ nI 5 = (0 : Int32) by decide), if_neg (show ¬ nI 5 = (2 : Int32) by decide), if_neg (show ¬ nI 5 = (4 : Int32) by decide), if_pos (show nI 5 = (5 : Int32) from rfl), if_neg (show ¬ nI 5 = (0 : Int32) by decide)]
    exact ruleJ68 (by decide) p2 99 0 rfl rfl
  · rw [if_neg (show ¬ nI 6 = (0 : Int32) by decide), if_neg (show ¬ nI 6 = (2 : Int32) by decide), if_neg (show ¬ nI 6 = (4 : Int32) by decide), if_neg (show ¬ nI 6 = (5 : Int32) by decide), if_neg (show ¬ nI 6 = (0 : Int32) by decide)]
    exact ruleJ68 (by decide) p2 9 0 rfl rfl
