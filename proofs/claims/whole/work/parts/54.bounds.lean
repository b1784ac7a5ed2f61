/-! ===== bits and savings stay within their bounds ===== -/
theorem btN_b (k : Nat) : 1 ≤ btN k ∧ btN k ≤ 66 := by
  unfold btN
  repeat' split
  all_goals omega
theorem nIbt_b (k : Nat) : 0 ≤ (nI (btN k)).toInt ∧ (nI (btN k)).toInt ≤ 66 := by
  have b := btN_b k
  rw [nI_toI (by omega)]
  omega
theorem sfB_b (cd : Nat → Nat) : 0 ≤ (sfB cd).toInt ∧ (sfB cd).toInt ≤ 594 := by
  have h := sm_b (f := fun t => nI (btN (cd t))) (B := 66) (by omega) 9 (by omega) (fun j _ => nIbt_b _)
  unfold sfB
  omega
theorem mn6_b {x : Int32} (h : 0 ≤ x.toInt) : 0 ≤ (mn6 x).toInt ∧ (mn6 x).toInt ≤ 600 := by
  by_cases h2 : x.toInt ≤ 600
  · rw [← mn6_2 h2]; omega
  · rw [← mn6_1 (by omega), show (600 : Int32).toInt = 600 by decide]; omega
theorem lvB_do {tx D : Nat → Int32} {ln a : Nat} (h : lvB D) (he : (oE tx ln a).toInt = 0) : lvB (oDo tx ln a D) := by
  unfold oE at he
  unfold oDo
  by_cases h1 : tk tx ln a 98
  · rw [if_pos h1] at he
    rw [if_pos h1]
    have hb := bxE_0 he
    exact lvB_fill h (by rw [zI_toInt (by omega) (by omega)]; omega) _ _ _ _
  · rw [if_neg h1]
    exact lvB_mv h _ _
theorem lvB_ds {tx D : Nat → Int32} {ln : Nat} (h : lvB D) : ∀ n, (∀ o, o < n → (ptE tx ln o).toInt = 0) → lvB (oDs tx ln D n)
  | 0, _ => h
  | n + 1, he => lvB_do (lvB_ds h n (fun o ho => he o (by omega))) (he n (by omega))
