/-! ===== bits and savings stay within their bounds ===== -/
theorem btN_b (k : Nat) : 1 ≤ btN k ∧ btN k ≤ 66 := by
  unfold btN
  repeat' split
  all_goals omega
theorem nIbt_b (k : Nat) : 0 ≤ (nI (btN k)).toInt ∧ (nI (btN k)).toInt ≤ 66 := by
  have b := btN_b k
  rw [nI_toI (by omega)]
  omega
theorem sfB_b (cd : Nat → Nat) : 0 ≤ (sfB cd).toInt ∧ (sfB cd).toInt ≤ 594 := by
  have h := sm_b (f := fun t => nI (btN (cd t))) (B := 66) (by omega) 9 (by omega) (fun j _ => nIbt_b _)
  unfold sfB
  omega
theorem mn6_b {x : Int32} (h : 0 ≤ x.toInt) : 0 ≤ (mn6 x).toInt ∧ (mn6 x).toInt ≤ 600 := by
  by_cases h2 : x.toInt ≤ 600
  · rw [← mn6_2 h2]; omega
  · rw [← mn6_1 (by omega), show (600 : Int32).toInt = 600 by decide]; omega
