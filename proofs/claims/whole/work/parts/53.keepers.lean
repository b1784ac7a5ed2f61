/-! ===== what both sides keep: the log's relation, levels, numbers ===== -/
def LR (G : Nat → Int32) (fr : Nat) (L : Nat → Int32) : Prop := ∀ b w, b < min fr 8 → w < 17 → G ((fr - 1 - b) % 8 * 17 + w) = L (17 * (min fr 8 - 1 - b) + w)
theorem LR_0 {G L : Nat → Int32} : LR G 0 L := fun b w hb _ => by omega
theorem LR_s {G L row : Nat → Int32} {fr : Nat} (h : LR G fr L) : LR (lgP G fr row 17) (fr + 1) (lgM L (min fr 8) row) := by
  intro b w hb hw
  by_cases h0 : b = 0
  · have e1 : lgP G fr row 17 ((fr + 1 - 1 - b) % 8 * 17 + w) = row w := by
      subst h0
      unfold lgP
      rw [show (fr + 1 - 1 - 0) % 8 * 17 + w = fr % 8 * 17 + w by omega, if_pos (by omega)]
      exact congrArg row (by omega)
    have e2 : lgM L (min fr 8) row (17 * (min (fr + 1) 8 - 1 - b) + w) = row w := by
      subst h0
      unfold lgM cpF
      rw [if_pos (by omega)]
      exact congrArg row (by omega)
    rw [e1, e2]
  · have hb2 : b - 1 < min fr 8 := by omega
    have e1 : lgP G fr row 17 ((fr + 1 - 1 - b) % 8 * 17 + w) = G ((fr - 1 - (b - 1)) % 8 * 17 + w) := by
      unfold lgP
      rw [if_neg (by omega)]
      exact congrArg G (by omega)
    have e2 : lgM L (min fr 8) row (17 * (min (fr + 1) 8 - 1 - b) + w) = L (17 * (min fr 8 - 1 - (b - 1)) + w) := by
      unfold lgM cpF
      rw [if_neg (by omega)]
      unfold lgB
      by_cases h8 : min fr 8 = 8
      · rw [if_pos h8]
        unfold shL
        rw [if_pos (by omega)]
        exact congrArg L (by omega)
      · rw [if_neg h8]
        exact congrArg L (by omega)
    rw [e1, e2]
    exact h (b - 1) w hb2 hw
theorem LR_fr {G L : Nat → Int32} {fr : Nat} (h : LR G fr L) (Bk Wh : Int) : frR G fr Bk Wh = frM L (min fr 8) Bk Wh := by
  unfold frR frM
  by_cases h1 : 0 ≤ Bk ∧ 0 ≤ Wh ∧ Wh ≤ 7
  · rw [if_pos h1, if_pos h1]
    by_cases h2 : Bk < ((min fr 8 : Nat) : Int)
    · rw [if_pos h2, if_pos h2]
      exact h Bk.toNat Wh.toNat (by omega) (by omega)
    · rw [if_neg h2, if_neg h2]
  · rw [if_neg h1, if_neg h1]
theorem LR_se {G L : Nat → Int32} {fr : Nat} (h : LR G fr L) (Bk T : Int) : seR G fr Bk T = seM L (min fr 8) Bk T := by
  unfold seR seM
  by_cases h1 : 0 ≤ Bk
  · rw [if_pos h1, if_pos h1]
    by_cases h3 : 0 ≤ T ∧ T < 9
    · rw [if_pos h3, if_pos h3]
      by_cases h2 : Bk < ((min fr 8 : Nat) : Int)
      · rw [if_pos h2, if_pos h2]
        exact h Bk.toNat (8 + T.toNat) (by omega) (by omega)
      · rw [if_neg h2, if_neg h2]
    · rw [if_neg h3, if_neg h3]
  · rw [if_neg h1, if_neg h1]
theorem lvB_0 : lvB (fun _ => 0) := fun _ => show 0 ≤ (0 : Int32).toInt ∧ (0 : Int32).toInt ≤ 15 by decide
theorem lvB_upd {f : Nat → Int32} (h : lvB f) {v : Int32} (hv : 0 ≤ v.toInt ∧ v.toInt ≤ 15) (j : Nat) : lvB (upd f j v) := by
  intro k; unfold upd
  by_cases e : k = j
  · rw [if_pos e]; exact hv
  · rw [if_neg e]; exact h k
theorem lvB_pt {f : Nat → Int32} (h : lvB f) {v : Int32} (hv : 0 ≤ v.toInt ∧ v.toInt ≤ 15) (X Y : Int) : lvB (ptZ f X Y v) := by
  unfold ptZ
  by_cases e : 0 ≤ X ∧ X < 12 ∧ 0 ≤ Y ∧ Y < 12
  · rw [if_pos e]; exact lvB_upd h hv _
  · rw [if_neg e]; exact h
theorem lvB_fill {f : Nat → Int32} (h : lvB f) {v : Int32} (hv : 0 ≤ v.toInt ∧ v.toInt ≤ 15) (X Y W Hh : Int) : lvB (fillN f X Y W Hh v) := by
  intro k; unfold fillN bxN bxF
  split
  · exact hv
  · exact h k
theorem lvB_mv {f : Nat → Int32} (h : lvB f) (C R : Int) : lvB (mvN f C R) := by
  intro k; unfold mvN
  split
  · exact gtZ_b h _ _
  · exact h k
theorem lvB_ap {D S : Nat → Int32} (hD : lvB D) (hS : lvB S) (cd : Nat → Nat) : lvB (apS D S cd) := by
  intro k; unfold apS
  split
  · unfold apP
    split
    · exact hD k
    · exact gtZ_b hS _ _
  · exact hS k
theorem ntV_hit {D S : Nat → Int32} (hD : lvB D) (hS : lvB S) {Ls : Nat} {Sp : Int} (h : Ls ≤ 240) (h9 : 9 ≤ Sp) : (bwV D S ((ntV D S Ls Sp : Nat) : Int)).toInt ≤ Sp := by
  by_cases hlt : ntV D S Ls Sp < Ls + (240 - Ls)
  · exact of_decide_eq_true (fsQ_hit (P := fun t => decide ((bwV D S ((t : Nat) : Int)).toInt ≤ Sp)) (240 - Ls) Ls hlt)
  · have e : ntV D S Ls Sp = 240 := by have := ntV_le (D := D) (S := S) (Sp := Sp) h; omega
    rw [e, show (((240 : Nat) : Nat) : Int) = 240 from rfl, bwV_240 hD hS, show (9 : Int32).toInt = 9 by decide]
    exact h9
theorem sfB_0 {D S : Nat → Int32} {Ls : Nat} {Sp : Int} : sfB (sfC 0 D S Ls Sp) = bwV D S ((ntV D S Ls Sp : Nat) : Int) := sm_c 9 (fun j _ => by rw [sfC_0])
theorem sfB_1 {D S : Nat → Int32} {Ls : Nat} {Sp : Int} : sfB (sfC 1 D S Ls Sp) = 594 := by
  unfold sfB
  rw [sm_c (g := fun _ => 66) 9 (fun j _ => by rw [sfC_1]; rfl)]
  rfl
