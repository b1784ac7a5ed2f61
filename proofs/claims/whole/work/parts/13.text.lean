/-! ===== pure words of the text: signs, numbers, orders ===== -/
def sgZ (tx : Nat → Int32) (ln at9 : Nat) : Int := if at9 < ln then (tx at9).toInt else -1
def sgH (tx : Nat → Int32) (ln at9 : Nat) : Int32 := if at9 < ln then tx at9 else -1
theorem sgH_i (tx : Nat → Int32) (ln at9 : Nat) : (sgH tx ln at9).toInt = sgZ tx ln at9 := by
  unfold sgH sgZ
  by_cases h : at9 < ln
  · rw [if_pos h, if_pos h]
  · rw [if_neg h, if_neg h]; rfl
theorem sgZ_c (tx : Nat → Int32) (ln at9 : Nat) : (at9 < ln ∧ sgZ tx ln at9 = (tx at9).toInt) ∨ (ln ≤ at9 ∧ sgZ tx ln at9 = -1) := by
  unfold sgZ
  by_cases h : at9 < ln
  · rw [if_pos h]; exact Or.inl ⟨h, rfl⟩
  · rw [if_neg h]; exact Or.inr ⟨by omega, rfl⟩
abbrev isD (tx : Nat → Int32) (ln k : Nat) : Prop := k < ln ∧ 48 ≤ (tx k).toInt ∧ (tx k).toInt ≤ 57
def dgZ (tx : Nat → Int32) (ln k : Nat) : Int := if isD tx ln k then (tx k).toInt - 48 else -1
def dgH (tx : Nat → Int32) (ln k : Nat) : Int32 := zI (dgZ tx ln k)
theorem dgZ_c (tx : Nat → Int32) (ln k : Nat) : ((k < ln ∧ 48 ≤ (tx k).toInt ∧ (tx k).toInt ≤ 57) ∧ dgZ tx ln k = (tx k).toInt - 48) ∨ (¬ (k < ln ∧ 48 ≤ (tx k).toInt ∧ (tx k).toInt ≤ 57) ∧ dgZ tx ln k = -1) := by
  unfold dgZ
  by_cases h : isD tx ln k
  · rw [if_pos h]; exact Or.inl ⟨h, rfl⟩
  · rw [if_neg h]; exact Or.inr ⟨h, rfl⟩
theorem dgH_i (tx : Nat → Int32) (ln k : Nat) : (dgH tx ln k).toInt = dgZ tx ln k := by
  have h := dgZ_c tx ln k
  exact zI_toInt (by omega) (by omega)
abbrev tk (tx : Nat → Int32) (ln at9 : Nat) (c : Int) : Prop := at9 < ln ∧ (tx at9).toInt = c
/-- a number without a sign at a place: where it ends, what it is -/
abbrev dT (tx : Nat → Int32) (ln a : Nat) : Prop := 48 < (tx a).toInt ∧ (a + 1 < ln ∧ 48 ≤ (tx (a + 1)).toInt ∧ (tx (a + 1)).toInt ≤ 57)
def dE (tx : Nat → Int32) (ln a : Nat) : Nat := if dT tx ln a then a + 1 + 1 else a + 1
def dV (tx : Nat → Int32) (ln a : Nat) : Int := if dT tx ln a then ((tx a).toInt - 48) * 10 + ((tx (a + 1)).toInt - 48) else (tx a).toInt - 48
theorem dE_2 {tx : Nat → Int32} {ln a : Nat} (h : dT tx ln a) : dE tx ln a = a + 1 + 1 := if_pos h
theorem dE_1 {tx : Nat → Int32} {ln a : Nat} (h : ¬ dT tx ln a) : dE tx ln a = a + 1 := if_neg h
theorem dV_2 {tx : Nat → Int32} {ln a : Nat} (h : dT tx ln a) : dV tx ln a = ((tx a).toInt - 48) * 10 + ((tx (a + 1)).toInt - 48) := if_pos h
theorem dV_1 {tx : Nat → Int32} {ln a : Nat} (h : ¬ dT tx ln a) : dV tx ln a = (tx a).toInt - 48 := if_neg h
theorem dE_le {tx : Nat → Int32} {ln a : Nat} (h : isD tx ln a) : a < dE tx ln a ∧ dE tx ln a ≤ ln := by
  by_cases h2 : dT tx ln a
  · rw [dE_2 h2]; omega
  · rw [dE_1 h2]; omega
theorem dV_b {tx : Nat → Int32} {ln a : Nat} (h : isD tx ln a) : 0 ≤ dV tx ln a ∧ dV tx ln a ≤ 99 := by
  by_cases h2 : dT tx ln a
  · rw [dV_2 h2]; omega
  · rw [dV_1 h2]; omega
/-- a number that may have a sign -/
abbrev nOk (tx : Nat → Int32) (ln a : Nat) : Prop := (tk tx ln a 45 ∧ isD tx ln (a + 1) ∧ ¬ (tx (a + 1)).toInt = 48) ∨ (¬ tk tx ln a 45 ∧ isD tx ln a)
def nF (tx : Nat → Int32) (ln a : Nat) : Nat := if tk tx ln a 45 then a + 1 else a
def nE (tx : Nat → Int32) (ln a : Nat) : Nat := dE tx ln (nF tx ln a)
def nV (tx : Nat → Int32) (ln a : Nat) : Int := if tk tx ln a 45 then -dV tx ln (a + 1) else dV tx ln a
theorem nF_1 {tx : Nat → Int32} {ln a : Nat} (h : tk tx ln a 45) : nF tx ln a = a + 1 := if_pos h
theorem nF_0 {tx : Nat → Int32} {ln a : Nat} (h : ¬ tk tx ln a 45) : nF tx ln a = a := if_neg h
theorem nE_1 {tx : Nat → Int32} {ln a : Nat} (h : tk tx ln a 45) : nE tx ln a = dE tx ln (a + 1) := by unfold nE; rw [nF_1 h]
theorem nE_0 {tx : Nat → Int32} {ln a : Nat} (h : ¬ tk tx ln a 45) : nE tx ln a = dE tx ln a := by unfold nE; rw [nF_0 h]
theorem nV_1 {tx : Nat → Int32} {ln a : Nat} (h : tk tx ln a 45) : nV tx ln a = -dV tx ln (a + 1) := if_pos h
theorem nV_0 {tx : Nat → Int32} {ln a : Nat} (h : ¬ tk tx ln a 45) : nV tx ln a = dV tx ln a := if_neg h
theorem nOk_1 {tx : Nat → Int32} {ln a : Nat} (h : tk tx ln a 45) : nOk tx ln a ↔ isD tx ln (a + 1) ∧ ¬ (tx (a + 1)).toInt = 48 := ⟨fun q => q.elim (fun z => z.2) (fun z => absurd h z.1), fun q => Or.inl ⟨h, q⟩⟩
theorem nOk_0 {tx : Nat → Int32} {ln a : Nat} (h : ¬ tk tx ln a 45) : nOk tx ln a ↔ isD tx ln a := ⟨fun q => q.elim (fun z => absurd z.1 h) (fun z => z.2), fun q => Or.inr ⟨h, q⟩⟩
theorem nF_le {tx : Nat → Int32} {ln a : Nat} (h : a ≤ ln) : nF tx ln a ≤ ln := by
  by_cases h2 : tk tx ln a 45
  · rw [nF_1 h2]; omega
  · rw [nF_0 h2]; exact h
theorem nE_le {tx : Nat → Int32} {ln a : Nat} (h : nOk tx ln a) : a < nE tx ln a ∧ nE tx ln a ≤ ln := by
  by_cases h2 : tk tx ln a 45
  · rw [nE_1 h2]; have := dE_le ((nOk_1 h2).mp h).1; omega
  · rw [nE_0 h2]; exact dE_le ((nOk_0 h2).mp h)
theorem nV_b {tx : Nat → Int32} {ln a : Nat} (h : nOk tx ln a) : -99 ≤ nV tx ln a ∧ nV tx ln a ≤ 99 := by
  by_cases h2 : tk tx ln a 45
  · rw [nV_1 h2]; have := dV_b ((nOk_1 h2).mp h).1; omega
  · rw [nV_0 h2]; have := dV_b ((nOk_0 h2).mp h); omega
/-- an order at a place: whether it is one, and where it ends, or its fault -/
def oRes (tx : Nat → Int32) (ln a : Nat) : Bool × Nat := if tk tx ln a 98 then (if isD tx ln (a + 1) then (if tk tx ln (dE tx ln (a + 1)) 44 then (if isD tx ln (dE tx ln (a + 1) + 1) then (if tk tx ln (dE tx ln (dE tx ln (a + 1) + 1)) 44 then (if isD tx ln (dE tx ln (dE tx ln (a + 1) + 1) + 1) then (if tk tx ln (dE tx ln (dE tx ln (dE tx ln (a + 1) + 1) + 1)) 44 then (if isD tx ln (dE tx ln (dE tx ln (dE tx ln (a + 1) + 1) + 1) + 1) then (if tk tx ln (dE tx ln (dE tx ln (dE tx ln (dE tx ln (a + 1) + 1) + 1) + 1)) 61 then (if isD tx ln (dE tx ln (dE tx ln (dE tx ln (dE tx ln (a + 1) + 1) + 1) + 1) + 1) then (true, dE tx ln (dE tx ln (dE tx ln (dE tx ln (dE tx ln (a + 1) + 1) + 1) + 1) + 1)) else (false, (dE tx ln (dE tx ln (dE tx ln (dE tx ln (a + 1) + 1) + 1) + 1) + 1))) else (false, dE tx ln (dE tx ln (dE tx ln (dE tx ln (a + 1) + 1) + 1) + 1))) else (false, (dE tx ln (dE tx ln (dE tx ln (a + 1) + 1) + 1) + 1))) else (false, dE tx ln (dE tx ln (dE tx ln (a + 1) + 1) + 1))) else (false, (dE tx ln (dE tx ln (a + 1) + 1) + 1))) else (false, dE tx ln (dE tx ln (a + 1) + 1))) else (false, (dE tx ln (a + 1) + 1))) else (false, dE tx ln (a + 1))) else (false, (a + 1))) else if tk tx ln a 115 then (if nOk tx ln (a + 1) then (if tk tx ln (nE tx ln (a + 1)) 44 then (if nOk tx ln (nE tx ln (a + 1) + 1) then (true, nE tx ln (nE tx ln (a + 1) + 1)) else (false, nF tx ln (nE tx ln (a + 1) + 1))) else (false, nE tx ln (a + 1))) else (false, nF tx ln (a + 1))) else (false, a)
/-- its parts: the kind (0 a box, 1 a step), then its numbers -/
def oV (tx : Nat → Int32) (ln a k : Nat) : Int := if tk tx ln a 98 then (if k = 0 then 0 else if k = 1 then dV tx ln (a + 1) else if k = 2 then dV tx ln (dE tx ln (a + 1) + 1) else if k = 3 then dV tx ln (dE tx ln (dE tx ln (a + 1) + 1) + 1) else if k = 4 then dV tx ln (dE tx ln (dE tx ln (dE tx ln (a + 1) + 1) + 1) + 1) else dV tx ln (dE tx ln (dE tx ln (dE tx ln (dE tx ln (a + 1) + 1) + 1) + 1) + 1)) else (if k = 0 then 1 else if k = 1 then nV tx ln (a + 1) else nV tx ln (nE tx ln (a + 1) + 1))
def oK (tx : Nat → Int32) (ln a : Nat) : Nat := if tk tx ln a 98 then 6 else 3
theorem oRes_4 {tx : Nat → Int32} {ln a : Nat} (h : (oRes tx ln a).1 = true) : a + 4 ≤ (oRes tx ln a).2 ∧ (oRes tx ln a).2 ≤ ln := by
  unfold oRes at h ⊢
  by_cases h1 : tk tx ln a 98
  · rw [if_pos h1] at h ⊢
    by_cases h2 : isD tx ln (a + 1)
    · rw [if_pos h2] at h ⊢
      by_cases h3 : tk tx ln (dE tx ln (a + 1)) 44
      · rw [if_pos h3] at h ⊢
        by_cases h4 : isD tx ln (dE tx ln (a + 1) + 1)
        · rw [if_pos h4] at h ⊢
          by_cases h5 : tk tx ln (dE tx ln (dE tx ln (a + 1) + 1)) 44
          · rw [if_pos h5] at h ⊢
            by_cases h6 : isD tx ln (dE tx ln (dE tx ln (a + 1) + 1) + 1)
            · rw [if_pos h6] at h ⊢
              by_cases h7 : tk tx ln (dE tx ln (dE tx ln (dE tx ln (a + 1) + 1) + 1)) 44
              · rw [if_pos h7] at h ⊢
                by_cases h8 : isD tx ln (dE tx ln (dE tx ln (dE tx ln (a + 1) + 1) + 1) + 1)
                · rw [if_pos h8] at h ⊢
                  by_cases h9 : tk tx ln (dE tx ln (dE tx ln (dE tx ln (dE tx ln (a + 1) + 1) + 1) + 1)) 61
                  · rw [if_pos h9] at h ⊢
                    by_cases h10 : isD tx ln (dE tx ln (dE tx ln (dE tx ln (dE tx ln (a + 1) + 1) + 1) + 1) + 1)
                    · rw [if_pos h10] at h ⊢
                      have e1 := dE_le h2; have e2 := dE_le h4; have e3 := dE_le h6; have e4 := dE_le h8; have e5 := dE_le h10
                      dsimp only
                      omega
                    · rw [if_neg h10] at h; cases h
                  · rw [if_neg h9] at h; cases h
                · rw [if_neg h8] at h; cases h
              · rw [if_neg h7] at h; cases h
            · rw [if_neg h6] at h; cases h
          · rw [if_neg h5] at h; cases h
        · rw [if_neg h4] at h; cases h
      · rw [if_neg h3] at h; cases h
    · rw [if_neg h2] at h; cases h
  · rw [if_neg h1] at h ⊢
    by_cases h2 : tk tx ln a 115
    · rw [if_pos h2] at h ⊢
      by_cases h3 : nOk tx ln (a + 1)
      · rw [if_pos h3] at h ⊢
        by_cases h4 : tk tx ln (nE tx ln (a + 1)) 44
        · rw [if_pos h4] at h ⊢
          by_cases h5 : nOk tx ln (nE tx ln (a + 1) + 1)
          · rw [if_pos h5] at h ⊢
            have e1 := nE_le h3; have e2 := nE_le h5
            dsimp only
            omega
          · rw [if_neg h5] at h; cases h
        · rw [if_neg h4] at h; cases h
      · rw [if_neg h3] at h; cases h
    · rw [if_neg h2] at h; cases h
theorem oRes_end {tx : Nat → Int32} {ln a : Nat} (h : ln ≤ a) : oRes tx ln a = (false, a) := by
  unfold oRes
  rw [if_neg (by omega), if_neg (by omega)]
/-- the whole text, from a place on, with n orders at most and o orders read: whether it is good, its end or fault, how many orders -/
def tRes (tx : Nat → Int32) (ln : Nat) : Nat → Nat → Nat → Bool × Nat × Nat
  | 0, a, o => (false, a, o)
  | n + 1, a, o => if (oRes tx ln a).1 = true then (if (oRes tx ln a).2 < ln then (if tk tx ln (oRes tx ln a).2 59 then tRes tx ln n ((oRes tx ln a).2 + 1) (o + 1) else (false, (oRes tx ln a).2, o + 1)) else (true, (oRes tx ln a).2, o + 1)) else (false, (oRes tx ln a).2, o)
theorem tRes_s {tx : Nat → Int32} {ln n a o : Nat} (hn : 0 < n) : tRes tx ln n a o = if (oRes tx ln a).1 = true then (if (oRes tx ln a).2 < ln then (if tk tx ln (oRes tx ln a).2 59 then tRes tx ln (n - 1) ((oRes tx ln a).2 + 1) (o + 1) else (false, (oRes tx ln a).2, o + 1)) else (true, (oRes tx ln a).2, o + 1)) else (false, (oRes tx ln a).2, o) := by
  obtain ⟨m, rfl⟩ : ∃ m, n = m + 1 := ⟨n - 1, by omega⟩
  rfl
/-- where the orders begin -/
def oS (tx : Nat → Int32) (ln : Nat) : Nat → Nat
  | 0 => 0
  | o + 1 => (oRes tx ln (oS tx ln o)).2 + 1
/-- the parts of the first n orders stand in a row -/
def pGood (tx : Nat → Int32) (ln n : Nat) (pa : Nat → Int32) : Prop := ∀ o, o < n → ∀ k, k < oK tx ln (oS tx ln o) → pa (o * 6 + k) = zI (oV tx ln (oS tx ln o) k)
theorem oK_le (tx : Nat → Int32) (ln a : Nat) : oK tx ln a ≤ 6 := by unfold oK; split <;> omega
theorem pGood_s {tx : Nat → Int32} {ln n : Nat} {pa pa2 : Nat → Int32} (h : pGood tx ln n pa) (h1 : ∀ k, k < oK tx ln (oS tx ln n) → pa2 (n * 6 + k) = zI (oV tx ln (oS tx ln n) k)) (h2 : ∀ j, (j < n * 6 ∨ n * 6 + 6 ≤ j) → pa2 j = pa j) : pGood tx ln (n + 1) pa2 := by
  intro o ho k hk
  by_cases e : o = n
  · subst e; exact h1 k hk
  · rw [h2 _ (Or.inl (by have := oK_le tx ln (oS tx ln o); omega))]
    exact h o (by omega) k hk
theorem oRes_le {tx : Nat → Int32} {ln a : Nat} (ha : a ≤ ln) : (oRes tx ln a).2 ≤ ln := by
  unfold oRes
  by_cases h1 : tk tx ln a 98
  · rw [if_pos h1]
    by_cases g1 : isD tx ln (a + 1)
    · rw [if_pos g1]
      have e1 := dE_le g1
      by_cases t1 : tk tx ln (dE tx ln (a + 1)) 44
      · rw [if_pos t1]
        by_cases g2 : isD tx ln (dE tx ln (a + 1) + 1)
        · rw [if_pos g2]
          have e2 := dE_le g2
          by_cases t2 : tk tx ln (dE tx ln (dE tx ln (a + 1) + 1)) 44
          · rw [if_pos t2]
            by_cases g3 : isD tx ln (dE tx ln (dE tx ln (a + 1) + 1) + 1)
            · rw [if_pos g3]
              have e3 := dE_le g3
              by_cases t3 : tk tx ln (dE tx ln (dE tx ln (dE tx ln (a + 1) + 1) + 1)) 44
              · rw [if_pos t3]
                by_cases g4 : isD tx ln (dE tx ln (dE tx ln (dE tx ln (a + 1) + 1) + 1) + 1)
                · rw [if_pos g4]
                  have e4 := dE_le g4
                  by_cases t4 : tk tx ln (dE tx ln (dE tx ln (dE tx ln (dE tx ln (a + 1) + 1) + 1) + 1)) 61
                  · rw [if_pos t4]
                    by_cases g5 : isD tx ln (dE tx ln (dE tx ln (dE tx ln (dE tx ln (a + 1) + 1) + 1) + 1) + 1)
                    · rw [if_pos g5]
                      have e5 := dE_le g5
                      dsimp only; omega
                    · rw [if_neg g5]
                      dsimp only; omega
                  · rw [if_neg t4]
                    dsimp only; omega
                · rw [if_neg g4]
                  dsimp only; omega
              · rw [if_neg t3]
                dsimp only; omega
            · rw [if_neg g3]
              dsimp only; omega
          · rw [if_neg t2]
            dsimp only; omega
        · rw [if_neg g2]
          dsimp only; omega
      · rw [if_neg t1]
        dsimp only; omega
    · rw [if_neg g1]
      dsimp only; omega
  · rw [if_neg h1]
    by_cases h2 : tk tx ln a 115
    · rw [if_pos h2]
      have f1 := nF_le (tx := tx) (ln := ln) (a := a + 1) (by omega)
      by_cases g1 : nOk tx ln (a + 1)
      · rw [if_pos g1]
        have e1 := nE_le g1
        by_cases t1 : tk tx ln (nE tx ln (a + 1)) 44
        · rw [if_pos t1]
          have f2 := nF_le (tx := tx) (ln := ln) (a := nE tx ln (a + 1) + 1) (by omega)
          by_cases g2 : nOk tx ln (nE tx ln (a + 1) + 1)
          · rw [if_pos g2]
            have e2 := nE_le g2
            dsimp only; omega
          · rw [if_neg g2]
            dsimp only; omega
        · rw [if_neg t1]
          dsimp only; omega
      · rw [if_neg g1]
        dsimp only; omega
    · rw [if_neg h2]
      exact ha
set_option maxHeartbeats 4000000 in
set_option maxRecDepth 100000 in
theorem c_X1_signHere (l : Launch) (D : va_G) (cI cC cS : ClassId) (tt : Nat → Nat) (q0 : Nat) (sg : Nat) (pr : Nat) (ln : Nat) (at9 : Nat) (to9 : Int32) (tx : Nat → Int32) (pa : Nat → Int32) (hh0 : ln ≤ 60) (hh1 : at9 ≤ ln) : Met l yX1_signHere wsX1_signHere ({ frames := 0, cells := 0, slots := 0, locals := 0 } : Room) (x_PR D cI cC cS tt [(q0, .inr (1, [.ref sg, .int (nI ln), .int (nI at9), .ref pr, .int to9])), (sg, .inl (cC, 60, .inl (tx))), (pr, .inl (cI, 72, .inl (pa)))] [.ref q0]) (QcRead (sgH tx ln at9)) 0 0 (fun _ => False) := by
  refine Met.ofW (cc := cX1_signHere) (maxL := 1) (ret := (some .int)) (by decide) rfl ?_
  intro p e s m args below meth c s₁ hBd hml hv
  obtain ⟨rfl, hP, hK, hE⟩ := hv
  have hx := hBd.exec
  have hb := hBd.bytes
  have hr := hBd.returns
  have hts := atoms_spec (ws := wsX1_signHere) hBd.pre
  have hown : s.vm.findClass RX1 = some m.cls := findClass_of_methodNamed hBd.named
  have hlocks := hBd.notSynchronized
  have hS : va_S (fun _ => False) s.heap s.heap [] := va_S.rf
  have hl := lv_entry ([.ref q0]) (n := 1) (Nat.le_of_ble_eq_true rfl)
  rw [lg_entry_eq]
  generalize (lg_sl ([.ref q0]) ++ List.replicate (1 - (lg_sl ([.ref q0])).length) Slot.unset).toArray = ls at hl ⊢
  have hl : lv_has ls 1 [(0, .ref q0)] := hl
  refine x_genQ (fun Q hQ => ?_)
  refine lv_aload_n hx hb dX1_signHere_0 rfl (lv_at hl 0 rfl) ?_
  refine va_get (v := .int (nI at9)) (D := D) (ci := 1) (C := RX1) (T := TX1) (N := 5) hx hb hts (by decide +kernel) hown hK hP 0 rfl rfl 2 (by decide) (hts (.fieldLink RX1 19 "SpiralFrames$Orders" "at" "I") (by decide +kernel)) (fun _ h9 => h9) rfl dX1_signHere_1 ?_
  refine x_if_lt (tgt := 27) hx hb dX1_signHere_4 (by decide) (X := ((at9 : Nat) : Int)) (nI_toI (by omega)) (fun c_4 => ?_) (fun c_4 => ?_)
  · exfalso; omega
  refine lv_aload_n hx hb dX1_signHere_7 rfl (lv_at hl 0 rfl) ?_
  refine va_get (v := .int (nI at9)) (D := D) (ci := 1) (C := RX1) (T := TX1) (N := 5) hx hb hts (by decide +kernel) hown hK hP 0 rfl rfl 2 (by decide) (hts (.fieldLink RX1 19 "SpiralFrames$Orders" "at" "I") (by decide +kernel)) (fun _ h9 => h9) rfl dX1_signHere_8 ?_
  refine lv_aload_n hx hb dX1_signHere_11 rfl (lv_at hl 0 rfl) ?_
  refine va_get (v := .int (nI ln)) (D := D) (ci := 1) (C := RX1) (T := TX1) (N := 5) hx hb hts (by decide +kernel) hown hK hP 0 rfl rfl 1 (by decide) (hts (.fieldLink RX1 15 "SpiralFrames$Orders" "length" "I") (by decide +kernel)) (fun _ h9 => h9) rfl dX1_signHere_12 ?_
  refine x_icmp_ge (tgt := 27) hx hb dX1_signHere_15 (by decide) (X := ((at9 : Nat) : Int)) (nI_toI (by omega)) (Y := ((ln : Nat) : Int)) (nI_toI (by omega)) (fun c_15 => ?_) (fun c_15 => ?_)
  · skip
    refine lv_iconst (v := (-1)) hx hb dX1_signHere_27 (by decide) ?_
    exact x_iretR hQ hx hb hr hlocks (by unfold sgH; rw [if_neg (by omega)]) dX1_signHere_28
  · skip
    refine lv_aload_n hx hb dX1_signHere_18 rfl (lv_at hl 0 rfl) ?_
    refine va_get (v := .int (nI at9)) (D := D) (ci := 1) (C := RX1) (T := TX1) (N := 5) hx hb hts (by decide +kernel) hown hK hP 0 rfl rfl 2 (by decide) (hts (.fieldLink RX1 19 "SpiralFrames$Orders" "at" "I") (by decide +kernel)) (fun _ h9 => h9) rfl dX1_signHere_19 ?_
    refine lv_bipush (v := 60) hx hb dX1_signHere_22 (by decide) ?_
    refine x_icmp_lt (tgt := 29) hx hb dX1_signHere_24 (by decide) (X := ((at9 : Nat) : Int)) (nI_toI (by omega)) (Y := 60) (show (60 : Int32).toInt = 60 from by decide) (fun c_24 => ?_) (fun c_24 => ?_)
    rotate_left
    · exfalso; omega
    refine lv_aload_n hx hb dX1_signHere_29 rfl (lv_at hl 0 rfl) ?_
    refine va_get (v := .ref sg) (D := D) (ci := 1) (C := RX1) (T := TX1) (N := 5) hx hb hts (by decide +kernel) hown hK hP 0 rfl rfl 0 (by decide) (hts (.fieldLink RX1 9 "SpiralFrames$Orders" "signs" "[C") (by decide +kernel)) (fun _ h9 => h9) rfl dX1_signHere_30 ?_
    refine lv_aload_n hx hb dX1_signHere_33 rfl (lv_at hl 0 rfl) ?_
    refine va_get (v := .int (nI at9)) (D := D) (ci := 1) (C := RX1) (T := TX1) (N := 5) hx hb hts (by decide +kernel) hown hK hP 0 rfl rfl 2 (by decide) (hts (.fieldLink RX1 19 "SpiralFrames$Orders" "at" "I") (by decide +kernel)) (fun _ h9 => h9) rfl dX1_signHere_34 ?_
    refine x_cald hx hb hK hP 1 1 rfl rfl (k := at9) (by omega) (by decide) dX1_signHere_37 ?_
    exact x_iretR hQ hx hb hr hlocks (by unfold sgH; rw [if_pos (by omega)]) dX1_signHere_38
set_option maxHeartbeats 4000000 in
set_option maxRecDepth 100000 in
theorem c_X1_takes (l : Launch) (D : va_G) (cI cC cS : ClassId) (tt : Nat → Nat) (sz : Nat) (q0 : Nat) (sg : Nat) (pr : Nat) (ln : Nat) (at9 : Nat) (to9 : Int32) (tx : Nat → Int32) (pa : Nat → Int32) (c9 : Int32) (Cc : Int) (hCc_ : c9.toInt = Cc) (hh0 : ln ≤ 60) (hh1 : at9 ≤ ln) (hh2 : 0 ≤ Cc) : Met l yX1_takes wsX1_takes ({ frames := 1, cells := 0, slots := 0, locals := 20 } : Room) (x_PW D cI cC cS tt [(q0, .inr (1, [.ref sg, .int (nI ln), .int (nI at9), .ref pr, .int to9])), (sg, .inl (cC, 60, .inl (tx))), (pr, .inl (cI, 72, .inl (pa)))] sz [.ref q0, .int c9]) (x_QWi D [(q0, .inr (1, [.ref sg, .int (nI ln), .int (nI at9), .ref pr, .int to9])), (sg, .inl (cC, 60, .inl (tx))), (pr, .inl (cI, 72, .inl (pa)))] sz (fun (r : Int32) (w : va_W) => (r = 1 ∧ w = [(q0, .inr (1, [.ref sg, .int (nI ln), .int (nI (at9 + 1)), .ref pr, .int to9])), (sg, .inl (cC, 60, .inl (tx))), (pr, .inl (cI, 72, .inl (pa)))] ∧ (tk tx ln at9 Cc)) ∨ (r = 0 ∧ w = [(q0, .inr (1, [.ref sg, .int (nI ln), .int (nI at9), .ref pr, .int to9])), (sg, .inl (cC, 60, .inl (tx))), (pr, .inl (cI, 72, .inl (pa)))] ∧ (¬ tk tx ln at9 Cc)))) 0 0 (va_A [(q0, .inr (1, [.ref sg, .int (nI ln), .int (nI at9), .ref pr, .int to9])), (sg, .inl (cC, 60, .inl (tx))), (pr, .inl (cI, 72, .inl (pa)))] sz) := by
  refine Met.ofW (cc := cX1_takes) (maxL := 2) (ret := (some .boolean)) (by decide) rfl ?_
  intro p e s m args below meth c s₁ hBd hml hv
  obtain ⟨rfl, hsz, hP, hK, hD0, hE⟩ := hv
  have hx := hBd.exec
  have hb := hBd.bytes
  have hr := hBd.returns
  have hts := atoms_spec (ws := wsX1_takes) hBd.pre
  have hown : s.vm.findClass RX1 = some m.cls := findClass_of_methodNamed hBd.named
  have hlocks := hBd.notSynchronized
  subst hsz
  obtain ⟨Ar, hAe⟩ : ∃ Ar : Nat → Prop, Ar = va_A [(q0, .inr (1, [.ref sg, .int (nI ln), .int (nI at9), .ref pr, .int to9])), (sg, .inl (cC, 60, .inl (tx))), (pr, .inl (cI, 72, .inl (pa)))] s.heap.size := ⟨_, rfl⟩
  have hD : va_D Ar [(q0, .inr (1, [.ref sg, .int (nI ln), .int (nI at9), .ref pr, .int to9])), (sg, .inl (cC, 60, .inl (tx))), (pr, .inl (cI, 72, .inl (pa)))] := by rw [hAe]; exact hD0.self
  have hA : ∀ q : Nat, s.heap.size ≤ q → Ar q := fun q h => by rw [hAe]; exact Or.inr h
  have hE : x_E tt Ar s := by rw [hAe]; exact hE
  have hS : va_S Ar s.heap s.heap [] := va_S.rf
  have hl := lv_entry ([.ref q0, .int c9]) (n := 2) (Nat.le_of_ble_eq_true rfl)
  rw [lg_entry_eq]
  generalize (lg_sl ([.ref q0, .int c9]) ++ List.replicate (2 - (lg_sl ([.ref q0, .int c9])).length) Slot.unset).toArray = ls at hl ⊢
  have hl : lv_has ls 2 [(0, .ref q0), (1, .int c9)] := hl
  refine x_genQ (fun Q hQ => ?_)
  have hsg := sgZ_c tx ln at9
  refine lv_aload_n hx hb dX1_takes_0 rfl (lv_at hl 0 rfl) ?_
  refine x_callR (va_runV (As := []) (rest := []) ⟨hx, hb, hml, hown, hts⟩ (c_X1_signHere l D cI cC cS tt q0 sg pr ln at9 to9 tx pa (by first | assumption | omega | decide) (by first | assumption | omega | decide)) (cwV 0 hts gX1_takes_X1_signHere rfl rfl rfl (by decide +kernel) ⟨Nat.le_of_ble_eq_true rfl, Nat.le_of_ble_eq_true rfl⟩) ⟨x_blindR, va_recv hK hP (ci := 1) (q0 := 0) rfl rfl, x_preR (hP.sub (ws' := [(q0, .inr (1, [.ref sg, .int (nI ln), .int (nI at9), .ref pr, .int to9])), (sg, .inl (cC, 60, .inl (tx))), (pr, .inl (cI, 72, .inl (pa)))]) [0, 1, 2] rfl) hK hE hS⟩ rfl rfl hl.1 rfl (lv_room (Nat.le_of_ble_eq_true rfl)) dX1_takes_1 ⟨(Nat.le_of_ble_eq_true rfl), (Nat.le_of_ble_eq_true rfl)⟩) ?_
  refine lv_iload_n hx hb dX1_takes_4 rfl (lv_at hl 1 rfl) ?_
  refine x_icmp_eq (tgt := 10) hx hb dX1_takes_5 (by decide) (X := sgZ tx ln at9) (sgH_i tx ln at9) (Y := Cc) hCc_ (fun c_5 => ?_) (fun c_5 => ?_)
  · skip
    refine lv_aload_n hx hb dX1_takes_10 rfl (lv_at hl 0 rfl) ?_
    refine lv_dup hx hb dX1_takes_11 rfl ?_
    refine va_get (v := .int (nI at9)) (D := D) (ci := 1) (C := RX1) (T := TX1) (N := 5) hx hb hts (by decide +kernel) hown hK hP 0 rfl rfl 2 (by decide) (hts (.fieldLink RX1 19 "SpiralFrames$Orders" "at" "I") (by decide +kernel)) (fun _ h9 => h9) rfl dX1_takes_12 ?_
    refine lv_iconst (v := 1) hx hb dX1_takes_15 (by decide) ?_
    refine lv_iadd hx hb dX1_takes_16 ?_
    refine x_eqi (show nI at9 + 1 = nI (at9 + 1) from nI_add at9 1) ?_
    refine va_put (v := .int (nI (at9 + 1))) (ty := .int) (D := D) (ci := 1) (C := RX1) (T := TX1) (N := 5) hx hb hts (by decide +kernel) tyX1 tyX1_ok nmX1 hown hK hP hD hS 0 rfl rfl 2 (by decide) (hts (.fieldLink RX1 19 "SpiralFrames$Orders" "at" "I") (by decide +kernel)) (fun _ h9 => h9) rfl (by decide +kernel) rfl rfl (Nat.le_of_ble_eq_true rfl) dX1_takes_17 (fun H locs hP hD hS => ?_)
    have hP : va_P D vwCl [(q0, .inr (1, [.ref sg, .int (nI ln), .int (nI (at9 + 1)), .ref pr, .int to9])), (sg, .inl (cC, 60, .inl (tx))), (pr, .inl (cI, 72, .inl (pa)))] H := hP
    have hD : va_D (Ar) [(q0, .inr (1, [.ref sg, .int (nI ln), .int (nI (at9 + 1)), .ref pr, .int to9])), (sg, .inl (cC, 60, .inl (tx))), (pr, .inl (cI, 72, .inl (pa)))] := hD
    refine lv_iconst (v := 1) hx hb dX1_takes_20 (by decide) ?_
    refine x_zretW (w := [(q0, .inr (1, [.ref sg, .int (nI ln), .int (nI (at9 + 1)), .ref pr, .int to9])), (sg, .inl (cC, 60, .inl (tx))), (pr, .inl (cI, 72, .inl (pa)))]) hQ hAe hx hb hr hlocks (by decide) (hP.sub [0, 1, 2] rfl) (hD.sub [0, 1, 2] (by decide) rfl) hS ?_ dX1_takes_21
    refine Or.inl ?_
    exact ⟨rfl, rfl, by omega⟩
  · skip
    refine lv_iconst (v := 0) hx hb dX1_takes_8 (by decide) ?_
    refine x_zretW (w := [(q0, .inr (1, [.ref sg, .int (nI ln), .int (nI at9), .ref pr, .int to9])), (sg, .inl (cC, 60, .inl (tx))), (pr, .inl (cI, 72, .inl (pa)))]) hQ hAe hx hb hr hlocks (by decide) (hP.sub [0, 1, 2] rfl) (hD.sub [0, 1, 2] (by decide) rfl) hS ?_ dX1_takes_9
    refine Or.inr (?_)
    exact ⟨rfl, rfl, by omega⟩
set_option maxHeartbeats 4000000 in
set_option maxRecDepth 100000 in
theorem c_X1_digitHere (l : Launch) (D : va_G) (cI cC cS : ClassId) (tt : Nat → Nat) (q0 : Nat) (sg : Nat) (pr : Nat) (ln : Nat) (at9 : Nat) (to9 : Int32) (tx : Nat → Int32) (pa : Nat → Int32) (hh0 : ln ≤ 60) (hh1 : at9 ≤ ln) : Met l yX1_digitHere wsX1_digitHere ({ frames := 1, cells := 0, slots := 0, locals := 22 } : Room) (x_PR D cI cC cS tt [(q0, .inr (1, [.ref sg, .int (nI ln), .int (nI at9), .ref pr, .int to9])), (sg, .inl (cC, 60, .inl (tx))), (pr, .inl (cI, 72, .inl (pa)))] [.ref q0]) (QcRead (dgH tx ln at9)) 0 0 (fun _ => False) := by
  refine Met.ofW (cc := cX1_digitHere) (maxL := 2) (ret := (some .int)) (by decide) rfl ?_
  intro p e s m args below meth c s₁ hBd hml hv
  obtain ⟨rfl, hP, hK, hE⟩ := hv
  have hx := hBd.exec
  have hb := hBd.bytes
  have hr := hBd.returns
  have hts := atoms_spec (ws := wsX1_digitHere) hBd.pre
  have hown : s.vm.findClass RX1 = some m.cls := findClass_of_methodNamed hBd.named
  have hlocks := hBd.notSynchronized
  have hS : va_S (fun _ => False) s.heap s.heap [] := va_S.rf
  have hl := lv_entry ([.ref q0]) (n := 2) (Nat.le_of_ble_eq_true rfl)
  rw [lg_entry_eq]
  generalize (lg_sl ([.ref q0]) ++ List.replicate (2 - (lg_sl ([.ref q0])).length) Slot.unset).toArray = ls at hl ⊢
  have hl : lv_has ls 2 [(0, .ref q0)] := hl
  refine x_genQ (fun Q hQ => ?_)
  have hsg := sgZ_c tx ln at9
  have hdg := dgZ_c tx ln at9
  refine lv_aload_n hx hb dX1_digitHere_0 rfl (lv_at hl 0 rfl) ?_
  refine x_callR (va_runV (As := []) (rest := []) ⟨hx, hb, hml, hown, hts⟩ (c_X1_signHere l D cI cC cS tt q0 sg pr ln at9 to9 tx pa (by first | assumption | omega | decide) (by first | assumption | omega | decide)) (cwV 0 hts gX1_digitHere_X1_signHere rfl rfl rfl (by decide +kernel) ⟨Nat.le_of_ble_eq_true rfl, Nat.le_of_ble_eq_true rfl⟩) ⟨x_blindR, va_recv hK hP (ci := 1) (q0 := 0) rfl rfl, x_preR (hP.sub (ws' := [(q0, .inr (1, [.ref sg, .int (nI ln), .int (nI at9), .ref pr, .int to9])), (sg, .inl (cC, 60, .inl (tx))), (pr, .inl (cI, 72, .inl (pa)))]) [0, 1, 2] rfl) hK hE hS⟩ rfl rfl hl.1 rfl (lv_room (Nat.le_of_ble_eq_true rfl)) dX1_digitHere_1 ⟨(Nat.le_of_ble_eq_true rfl), (Nat.le_of_ble_eq_true rfl)⟩) ?_
  refine lv_istore_n (lv' := [(1, .int (sgH tx ln at9)), (0, .ref q0)]) hx hb dX1_digitHere_4 rfl hl (by decide) rfl (fun ls hl => ?_)
  refine lv_iload_n hx hb dX1_digitHere_5 rfl (lv_at hl 0 rfl) ?_
  refine lv_bipush (v := 48) hx hb dX1_digitHere_6 (by decide) ?_
  refine lv_bipush (v := 57) hx hb dX1_digitHere_8 (by decide) ?_
  refine x_callR (va_runSN (As := [.int (sgH tx ln at9), .int 48, .int 57]) (rest := []) ⟨hx, hb, hml, hown, hts⟩ (c_X4_isBetween l D cI cC cS tt (sgH tx ln at9) (sgZ tx ln at9) (sgH_i tx ln at9) 48 48 (show (48 : Int32).toInt = 48 from by decide) 57 57 (show (57 : Int32).toInt = 57 from by decide)) ⟨(va_cnB 3 hts gX1_digitHere_X4_isBetween_n29 rfl rfl rfl (x_nestk hE.1 (w := .methodLinkNest RX1 29 yX4_isBetween RX4) 19 rfl) (hts (.initialized RX4) (by decide +kernel)) (by decide +kernel) ⟨Nat.le_of_ble_eq_true rfl, Nat.le_of_ble_eq_true rfl⟩), hts (.static yX4_isBetween) (by decide +kernel), trivial⟩ ⟨x_blindR, x_preR (hP.sub (ws' := []) [] rfl) hK hE hS⟩ rfl rfl hl.1 rfl (lv_room (Nat.le_of_ble_eq_true rfl)) dX1_digitHere_10 ⟨(Nat.le_of_ble_eq_true rfl), (Nat.le_of_ble_eq_true rfl)⟩) ?_
  refine x_ifB_eq (tgt := 23) hx hb dX1_digitHere_13 (by decide) (fun c_13 => ?_) (fun c_13 => ?_)
  · skip
    refine lv_iconst (v := (-1)) hx hb dX1_digitHere_23 (by decide) ?_
    exact x_iretR hQ hx hb hr hlocks (by first | rfl | (unfold dgH; rw [show dgZ tx ln at9 = -1 by omega]; rfl)) dX1_digitHere_24
  · skip
    refine lv_iload_n hx hb dX1_digitHere_16 rfl (lv_at hl 0 rfl) ?_
    refine lv_bipush (v := 48) hx hb dX1_digitHere_17 (by decide) ?_
    refine lv_isub hx hb dX1_digitHere_19 ?_
    refine x_eqi (show (sgH tx ln at9) - 48 = zI (dgZ tx ln at9) from zI_eq (x_subI (sgH_i tx ln at9) (show (48 : Int32).toInt = 48 from by decide) (by omega) (by omega)) (by omega)) ?_
    refine lv_goto (tgt := 24) hx hb dX1_digitHere_20 (by decide) ?_
    exact x_iretR hQ hx hb hr hlocks (by first | rfl | (unfold dgH; rw [show dgZ tx ln at9 = -1 by omega]; rfl)) dX1_digitHere_24
set_option maxHeartbeats 4000000 in
set_option maxRecDepth 100000 in
theorem c_X1_add (l : Launch) (D : va_G) (cI cC cS : ClassId) (tt : Nat → Nat) (sz : Nat) (q0 : Nat) (sg : Nat) (pr : Nat) (ln : Nat) (at9 : Int32) (to9 : Int32) (ch : Int32) (tx : Nat → Int32) (pa : Nat → Int32) (hh0 : ln ≤ 60) (hh1 : vp_nar .char ch = ch) : Met l yX1_add wsX1_add ({ frames := 0, cells := 0, slots := 0, locals := 0 } : Room) (x_PW D cI cC cS tt [(q0, .inr (1, [.ref sg, .int (nI ln), .int at9, .ref pr, .int to9])), (sg, .inl (cC, 60, .inl (tx))), (pr, .inl (cI, 72, .inl (pa)))] sz [.ref q0, .int ch]) (x_QWi D [(q0, .inr (1, [.ref sg, .int (nI ln), .int at9, .ref pr, .int to9])), (sg, .inl (cC, 60, .inl (tx))), (pr, .inl (cI, 72, .inl (pa)))] sz (fun (r : Int32) (w : va_W) => (r = 1 ∧ w = [(q0, .inr (1, [.ref sg, .int (nI (ln + 1)), .int at9, .ref pr, .int to9])), (sg, .inl (cC, 60, .inl (upd tx ln ch))), (pr, .inl (cI, 72, .inl (pa)))] ∧ (ln < 60)) ∨ (r = 0 ∧ w = [(q0, .inr (1, [.ref sg, .int (nI ln), .int at9, .ref pr, .int to9])), (sg, .inl (cC, 60, .inl (tx))), (pr, .inl (cI, 72, .inl (pa)))] ∧ (ln = 60)))) 0 0 (va_A [(q0, .inr (1, [.ref sg, .int (nI ln), .int at9, .ref pr, .int to9])), (sg, .inl (cC, 60, .inl (tx))), (pr, .inl (cI, 72, .inl (pa)))] sz) := by
  refine Met.ofW (cc := cX1_add) (maxL := 2) (ret := (some .boolean)) (by decide) rfl ?_
  intro p e s m args below meth c s₁ hBd hml hv
  obtain ⟨rfl, hsz, hP, hK, hD0, hE⟩ := hv
  have hx := hBd.exec
  have hb := hBd.bytes
  have hr := hBd.returns
  have hts := atoms_spec (ws := wsX1_add) hBd.pre
  have hown : s.vm.findClass RX1 = some m.cls := findClass_of_methodNamed hBd.named
  have hlocks := hBd.notSynchronized
  subst hsz
  obtain ⟨Ar, hAe⟩ : ∃ Ar : Nat → Prop, Ar = va_A [(q0, .inr (1, [.ref sg, .int (nI ln), .int at9, .ref pr, .int to9])), (sg, .inl (cC, 60, .inl (tx))), (pr, .inl (cI, 72, .inl (pa)))] s.heap.size := ⟨_, rfl⟩
  have hD : va_D Ar [(q0, .inr (1, [.ref sg, .int (nI ln), .int at9, .ref pr, .int to9])), (sg, .inl (cC, 60, .inl (tx))), (pr, .inl (cI, 72, .inl (pa)))] := by rw [hAe]; exact hD0.self
  have hA : ∀ q : Nat, s.heap.size ≤ q → Ar q := fun q h => by rw [hAe]; exact Or.inr h
  have hE : x_E tt Ar s := by rw [hAe]; exact hE
  have hS : va_S Ar s.heap s.heap [] := va_S.rf
  have hl := lv_entry ([.ref q0, .int ch]) (n := 2) (Nat.le_of_ble_eq_true rfl)
  rw [lg_entry_eq]
  generalize (lg_sl ([.ref q0, .int ch]) ++ List.replicate (2 - (lg_sl ([.ref q0, .int ch])).length) Slot.unset).toArray = ls at hl ⊢
  have hl : lv_has ls 2 [(0, .ref q0), (1, .int ch)] := hl
  refine x_genQ (fun Q hQ => ?_)
  refine lv_aload_n hx hb dX1_add_0 rfl (lv_at hl 0 rfl) ?_
  refine va_get (v := .int (nI ln)) (D := D) (ci := 1) (C := RX1) (T := TX1) (N := 5) hx hb hts (by decide +kernel) hown hK hP 0 rfl rfl 1 (by decide) (hts (.fieldLink RX1 15 "SpiralFrames$Orders" "length" "I") (by decide +kernel)) (fun _ h9 => h9) rfl dX1_add_1 ?_
  refine x_if_lt (tgt := 16) hx hb dX1_add_4 (by decide) (X := ((ln : Nat) : Int)) (nI_toI (by omega)) (fun c_4 => ?_) (fun c_4 => ?_)
  · exfalso; omega
  refine lv_aload_n hx hb dX1_add_7 rfl (lv_at hl 0 rfl) ?_
  refine va_get (v := .int (nI ln)) (D := D) (ci := 1) (C := RX1) (T := TX1) (N := 5) hx hb hts (by decide +kernel) hown hK hP 0 rfl rfl 1 (by decide) (hts (.fieldLink RX1 15 "SpiralFrames$Orders" "length" "I") (by decide +kernel)) (fun _ h9 => h9) rfl dX1_add_8 ?_
  refine lv_bipush (v := 60) hx hb dX1_add_11 (by decide) ?_
  refine x_icmp_lt (tgt := 18) hx hb dX1_add_13 (by decide) (X := ((ln : Nat) : Int)) (nI_toI (by omega)) (Y := 60) (show (60 : Int32).toInt = 60 from by decide) (fun c_13 => ?_) (fun c_13 => ?_)
  · skip
    refine lv_aload_n hx hb dX1_add_18 rfl (lv_at hl 0 rfl) ?_
    refine va_get (v := .ref sg) (D := D) (ci := 1) (C := RX1) (T := TX1) (N := 5) hx hb hts (by decide +kernel) hown hK hP 0 rfl rfl 0 (by decide) (hts (.fieldLink RX1 9 "SpiralFrames$Orders" "signs" "[C") (by decide +kernel)) (fun _ h9 => h9) rfl dX1_add_19 ?_
    refine lv_aload_n hx hb dX1_add_22 rfl (lv_at hl 0 rfl) ?_
    refine va_get (v := .int (nI ln)) (D := D) (ci := 1) (C := RX1) (T := TX1) (N := 5) hx hb hts (by decide +kernel) hown hK hP 0 rfl rfl 1 (by decide) (hts (.fieldLink RX1 15 "SpiralFrames$Orders" "length" "I") (by decide +kernel)) (fun _ h9 => h9) rfl dX1_add_23 ?_
    refine lv_iload_n hx hb dX1_add_26 rfl (lv_at hl 1 rfl) ?_
    refine x_cast hx hb hK hP hD hS 1 1 rfl rfl (k := ln) hh1 (by omega) (by decide) dX1_add_27 (fun H locs hP hD hS => ?_)
    have hP : va_P D vwCl [(q0, .inr (1, [.ref sg, .int (nI ln), .int at9, .ref pr, .int to9])), (sg, .inl (cC, 60, .inl (upd tx ln ch))), (pr, .inl (cI, 72, .inl (pa)))] H := hP
    have hD : va_D (Ar) [(q0, .inr (1, [.ref sg, .int (nI ln), .int at9, .ref pr, .int to9])), (sg, .inl (cC, 60, .inl (upd tx ln ch))), (pr, .inl (cI, 72, .inl (pa)))] := hD
    refine lv_aload_n hx hb dX1_add_28 rfl (lv_at hl 0 rfl) ?_
    refine lv_dup hx hb dX1_add_29 rfl ?_
    refine va_get (v := .int (nI ln)) (D := D) (ci := 1) (C := RX1) (T := TX1) (N := 5) hx hb hts (by decide +kernel) hown hK hP 0 rfl rfl 1 (by decide) (hts (.fieldLink RX1 15 "SpiralFrames$Orders" "length" "I") (by decide +kernel)) (fun _ h9 => h9) rfl dX1_add_30 ?_
    refine lv_iconst (v := 1) hx hb dX1_add_33 (by decide) ?_
    refine lv_iadd hx hb dX1_add_34 ?_
    refine x_eqi (show nI ln + 1 = nI (ln + 1) from nI_add ln 1) ?_
    refine va_put (v := .int (nI (ln + 1))) (ty := .int) (D := D) (ci := 1) (C := RX1) (T := TX1) (N := 5) hx hb hts (by decide +kernel) tyX1 tyX1_ok nmX1 hown hK hP hD hS 0 rfl rfl 1 (by decide) (hts (.fieldLink RX1 15 "SpiralFrames$Orders" "length" "I") (by decide +kernel)) (fun _ h9 => h9) rfl (by decide +kernel) rfl rfl (Nat.le_of_ble_eq_true rfl) dX1_add_35 (fun H locs hP hD hS => ?_)
    have hP : va_P D vwCl [(q0, .inr (1, [.ref sg, .int (nI (ln + 1)), .int at9, .ref pr, .int to9])), (sg, .inl (cC, 60, .inl (upd tx ln ch))), (pr, .inl (cI, 72, .inl (pa)))] H := hP
    have hD : va_D (Ar) [(q0, .inr (1, [.ref sg, .int (nI (ln + 1)), .int at9, .ref pr, .int to9])), (sg, .inl (cC, 60, .inl (upd tx ln ch))), (pr, .inl (cI, 72, .inl (pa)))] := hD
    refine lv_iconst (v := 1) hx hb dX1_add_38 (by decide) ?_
    refine x_zretW (w := [(q0, .inr (1, [.ref sg, .int (nI (ln + 1)), .int at9, .ref pr, .int to9])), (sg, .inl (cC, 60, .inl (upd tx ln ch))), (pr, .inl (cI, 72, .inl (pa)))]) hQ hAe hx hb hr hlocks (by decide) (hP.sub [0, 1, 2] rfl) (hD.sub [0, 1, 2] (by decide) rfl) hS ?_ dX1_add_39
    refine Or.inl ?_
    exact ⟨rfl, rfl, by omega⟩
  · skip
    refine lv_iconst (v := 0) hx hb dX1_add_16 (by decide) ?_
    refine x_zretW (w := [(q0, .inr (1, [.ref sg, .int (nI ln), .int at9, .ref pr, .int to9])), (sg, .inl (cC, 60, .inl (tx))), (pr, .inl (cI, 72, .inl (pa)))]) hQ hAe hx hb hr hlocks (by decide) (hP.sub [0, 1, 2] rfl) (hD.sub [0, 1, 2] (by decide) rfl) hS ?_ dX1_add_17
    refine Or.inr (?_)
    exact ⟨rfl, rfl, by omega⟩
set_option maxHeartbeats 4000000 in
set_option maxRecDepth 100000 in
theorem c_X1_part (l : Launch) (D : va_G) (cI cC cS : ClassId) (tt : Nat → Nat) (q0 : Nat) (sg : Nat) (pr : Nat) (od : Nat) (pt : Nat) (ln9 : Int32) (at9 : Int32) (to9 : Int32) (pa : Nat → Int32) (hh0 : od < 12) (hh1 : pt < 6) : Met l yX1_part wsX1_part ({ frames := 1, cells := 0, slots := 0, locals := 22 } : Room) (x_PR D cI cC cS tt [(q0, .inr (1, [.ref sg, .int ln9, .int at9, .ref pr, .int to9])), (pr, .inl (cI, 72, .inl (pa)))] [.ref q0, .int (nI od), .int (nI pt)]) (QcRead (pa (od * 6 + pt))) 0 0 (fun _ => False) := by
  refine Met.ofW (cc := cX1_part) (maxL := 4) (ret := (some .int)) (by decide) rfl ?_
  intro p e s m args below meth c s₁ hBd hml hv
  obtain ⟨rfl, hP, hK, hE⟩ := hv
  have hx := hBd.exec
  have hb := hBd.bytes
  have hr := hBd.returns
  have hts := atoms_spec (ws := wsX1_part) hBd.pre
  have hown : s.vm.findClass RX1 = some m.cls := findClass_of_methodNamed hBd.named
  have hlocks := hBd.notSynchronized
  have hS : va_S (fun _ => False) s.heap s.heap [] := va_S.rf
  have hl := lv_entry ([.ref q0, .int (nI od), .int (nI pt)]) (n := 4) (Nat.le_of_ble_eq_true rfl)
  rw [lg_entry_eq]
  generalize (lg_sl ([.ref q0, .int (nI od), .int (nI pt)]) ++ List.replicate (4 - (lg_sl ([.ref q0, .int (nI od), .int (nI pt)])).length) Slot.unset).toArray = ls at hl ⊢
  have hl : lv_has ls 4 [(0, .ref q0), (1, .int (nI od)), (2, .int (nI pt))] := hl
  refine x_genQ (fun Q hQ => ?_)
  refine lv_iload_n hx hb dX1_part_0 rfl (lv_at hl 1 rfl) ?_
  refine lv_bipush (v := 6) hx hb dX1_part_1 (by decide) ?_
  refine lv_imul hx hb dX1_part_3 ?_
  refine x_eqi (show nI od * 6 = nI (od * 6) from pk_mul od 6) ?_
  refine lv_iload_n hx hb dX1_part_4 rfl (lv_at hl 2 rfl) ?_
  refine lv_iadd hx hb dX1_part_5 ?_
  refine x_eqi (show nI (od * 6) + nI pt = nI ((od * 6) + pt) from nI_add (od * 6) pt) ?_
  refine lv_istore_n (lv' := [(3, .int (nI ((od * 6) + pt))), (0, .ref q0), (1, .int (nI od)), (2, .int (nI pt))]) hx hb dX1_part_6 rfl hl (by decide) rfl (fun ls hl => ?_)
  refine lv_iload_n hx hb dX1_part_7 rfl (lv_at hl 0 rfl) ?_
  refine lv_iconst (v := 0) hx hb dX1_part_8 (by decide) ?_
  refine lv_aload_n hx hb dX1_part_9 rfl (lv_at hl 1 rfl) ?_
  refine va_get (v := .ref pr) (D := D) (ci := 1) (C := RX1) (T := TX1) (N := 5) hx hb hts (by decide +kernel) hown hK hP 0 rfl rfl 3 (by decide) (hts (.fieldLink RX1 22 "SpiralFrames$Orders" "parts" "[I") (by decide +kernel)) (fun _ h9 => h9) rfl dX1_part_10 ?_
  refine va_alen (v := 72) hx hb hK hP 1 0 rfl rfl rfl dX1_part_13 ?_
  refine lv_iconst (v := 1) hx hb dX1_part_14 (by decide) ?_
  refine lv_isub hx hb dX1_part_15 ?_
  refine x_eqi (show (72 : Int32) - 1 = 71 from by decide) ?_
  refine x_callR (va_runSN (As := [.int (nI ((od * 6) + pt)), .int 0, .int 71]) (rest := []) ⟨hx, hb, hml, hown, hts⟩ (c_X4_isBetween l D cI cC cS tt (nI ((od * 6) + pt)) (((od * 6) + pt : Nat) : Int) (nI_toI (by omega)) 0 0 (show (0 : Int32).toInt = 0 from by decide) 71 71 (show (71 : Int32).toInt = 71 from by decide)) ⟨(va_cnB 3 hts gX1_part_X4_isBetween_n29 rfl rfl rfl (x_nestk hE.1 (w := .methodLinkNest RX1 29 yX4_isBetween RX4) 19 rfl) (hts (.initialized RX4) (by decide +kernel)) (by decide +kernel) ⟨Nat.le_of_ble_eq_true rfl, Nat.le_of_ble_eq_true rfl⟩), hts (.static yX4_isBetween) (by decide +kernel), trivial⟩ ⟨x_blindR, x_preR (hP.sub (ws' := []) [] rfl) hK hE hS⟩ rfl rfl hl.1 rfl (lv_room (Nat.le_of_ble_eq_true rfl)) dX1_part_16 ⟨(Nat.le_of_ble_eq_true rfl), (Nat.le_of_ble_eq_true rfl)⟩) ?_
  refine x_ifB_eq (tgt := 31) hx hb dX1_part_19 (by decide) (fun c_19 => ?_) (fun c_19 => ?_)
  · exfalso; omega
  refine lv_aload_n hx hb dX1_part_22 rfl (lv_at hl 1 rfl) ?_
  refine va_get (v := .ref pr) (D := D) (ci := 1) (C := RX1) (T := TX1) (N := 5) hx hb hts (by decide +kernel) hown hK hP 0 rfl rfl 3 (by decide) (hts (.fieldLink RX1 22 "SpiralFrames$Orders" "parts" "[I") (by decide +kernel)) (fun _ h9 => h9) rfl dX1_part_23 ?_
  refine lv_iload_n hx hb dX1_part_26 rfl (lv_at hl 0 rfl) ?_
  refine x_iald hx hb hK hP 1 0 rfl rfl (k := (od * 6) + pt) (by omega) (by decide) dX1_part_27 ?_
  refine lv_goto (tgt := 32) hx hb dX1_part_28 (by decide) ?_
  exact x_iretR hQ hx hb hr hlocks rfl dX1_part_32
set_option maxHeartbeats 4000000 in
set_option maxRecDepth 100000 in
theorem c_X1_putPart (l : Launch) (D : va_G) (cI cC cS : ClassId) (tt : Nat → Nat) (sz : Nat) (q0 : Nat) (sg : Nat) (pr : Nat) (pt : Nat) (ln9 : Int32) (at9 : Int32) (to9 : Int32) (v : Int32) (pa : Nat → Int32) (hh0 : pt < 72) : Met l yX1_putPart wsX1_putPart ({ frames := 1, cells := 0, slots := 0, locals := 22 } : Room) (x_PW D cI cC cS tt [(q0, .inr (1, [.ref sg, .int ln9, .int at9, .ref pr, .int to9])), (pr, .inl (cI, 72, .inl (pa)))] sz [.ref q0, .int (nI pt), .int v]) (x_QWv D [(q0, .inr (1, [.ref sg, .int ln9, .int at9, .ref pr, .int to9])), (pr, .inl (cI, 72, .inl (pa)))] sz (fun (w : va_W) => w = [(q0, .inr (1, [.ref sg, .int ln9, .int at9, .ref pr, .int to9])), (pr, .inl (cI, 72, .inl (upd pa pt v)))])) 0 0 (va_A [(q0, .inr (1, [.ref sg, .int ln9, .int at9, .ref pr, .int to9])), (pr, .inl (cI, 72, .inl (pa)))] sz) := by
  refine Met.ofW (cc := cX1_putPart) (maxL := 3) (ret := none) (by decide) rfl ?_
  intro p e s m args below meth c s₁ hBd hml hv
  obtain ⟨rfl, hsz, hP, hK, hD0, hE⟩ := hv
  have hx := hBd.exec
  have hb := hBd.bytes
  have hr := hBd.returns
  have hts := atoms_spec (ws := wsX1_putPart) hBd.pre
  have hown : s.vm.findClass RX1 = some m.cls := findClass_of_methodNamed hBd.named
  have hlocks := hBd.notSynchronized
  subst hsz
  obtain ⟨Ar, hAe⟩ : ∃ Ar : Nat → Prop, Ar = va_A [(q0, .inr (1, [.ref sg, .int ln9, .int at9, .ref pr, .int to9])), (pr, .inl (cI, 72, .inl (pa)))] s.heap.size := ⟨_, rfl⟩
  have hD : va_D Ar [(q0, .inr (1, [.ref sg, .int ln9, .int at9, .ref pr, .int to9])), (pr, .inl (cI, 72, .inl (pa)))] := by rw [hAe]; exact hD0.self
  have hA : ∀ q : Nat, s.heap.size ≤ q → Ar q := fun q h => by rw [hAe]; exact Or.inr h
  have hE : x_E tt Ar s := by rw [hAe]; exact hE
  have hS : va_S Ar s.heap s.heap [] := va_S.rf
  have hl := lv_entry ([.ref q0, .int (nI pt), .int v]) (n := 3) (Nat.le_of_ble_eq_true rfl)
  rw [lg_entry_eq]
  generalize (lg_sl ([.ref q0, .int (nI pt), .int v]) ++ List.replicate (3 - (lg_sl ([.ref q0, .int (nI pt), .int v])).length) Slot.unset).toArray = ls at hl ⊢
  have hl : lv_has ls 3 [(0, .ref q0), (1, .int (nI pt)), (2, .int v)] := hl
  refine x_genQ (fun Q hQ => ?_)
  refine lv_iload_n hx hb dX1_putPart_0 rfl (lv_at hl 1 rfl) ?_
  refine lv_iconst (v := 0) hx hb dX1_putPart_1 (by decide) ?_
  refine lv_aload_n hx hb dX1_putPart_2 rfl (lv_at hl 0 rfl) ?_
  refine va_get (v := .ref pr) (D := D) (ci := 1) (C := RX1) (T := TX1) (N := 5) hx hb hts (by decide +kernel) hown hK hP 0 rfl rfl 3 (by decide) (hts (.fieldLink RX1 22 "SpiralFrames$Orders" "parts" "[I") (by decide +kernel)) (fun _ h9 => h9) rfl dX1_putPart_3 ?_
  refine va_alen (v := 72) hx hb hK hP 1 0 rfl rfl rfl dX1_putPart_6 ?_
  refine lv_iconst (v := 1) hx hb dX1_putPart_7 (by decide) ?_
  refine lv_isub hx hb dX1_putPart_8 ?_
  refine x_eqi (show (72 : Int32) - 1 = 71 from by decide) ?_
  refine x_callR (va_runSN (As := [.int (nI pt), .int 0, .int 71]) (rest := []) ⟨hx, hb, hml, hown, hts⟩ (c_X4_isBetween l D cI cC cS tt (nI pt) ((pt : Nat) : Int) (nI_toI (by omega)) 0 0 (show (0 : Int32).toInt = 0 from by decide) 71 71 (show (71 : Int32).toInt = 71 from by decide)) ⟨(va_cnB 3 hts gX1_putPart_X4_isBetween_n29 rfl rfl rfl (x_nestk hE.1 (w := .methodLinkNest RX1 29 yX4_isBetween RX4) 19 rfl) (hts (.initialized RX4) (by decide +kernel)) (by decide +kernel) ⟨Nat.le_of_ble_eq_true rfl, Nat.le_of_ble_eq_true rfl⟩), hts (.static yX4_isBetween) (by decide +kernel), trivial⟩ ⟨x_blindR, x_preR (hP.sub (ws' := []) [] rfl) hK hE hS⟩ rfl rfl hl.1 rfl (lv_room (Nat.le_of_ble_eq_true rfl)) dX1_putPart_9 ⟨(Nat.le_of_ble_eq_true rfl), (Nat.le_of_ble_eq_true rfl)⟩) ?_
  refine x_ifB_eq (tgt := 22) hx hb dX1_putPart_12 (by decide) (fun c_12 => ?_) (fun c_12 => ?_)
  · exfalso; omega
  refine lv_aload_n hx hb dX1_putPart_15 rfl (lv_at hl 0 rfl) ?_
  refine va_get (v := .ref pr) (D := D) (ci := 1) (C := RX1) (T := TX1) (N := 5) hx hb hts (by decide +kernel) hown hK hP 0 rfl rfl 3 (by decide) (hts (.fieldLink RX1 22 "SpiralFrames$Orders" "parts" "[I") (by decide +kernel)) (fun _ h9 => h9) rfl dX1_putPart_16 ?_
  refine lv_iload_n hx hb dX1_putPart_19 rfl (lv_at hl 1 rfl) ?_
  refine lv_iload_n hx hb dX1_putPart_20 rfl (lv_at hl 2 rfl) ?_
  refine x_iast hx hb hK hP hD hS 1 0 rfl rfl (k := pt) (by omega) (by decide) dX1_putPart_21 (fun H locs hP hD hS => ?_)
  have hP : va_P D vwCl [(q0, .inr (1, [.ref sg, .int ln9, .int at9, .ref pr, .int to9])), (pr, .inl (cI, 72, .inl (upd pa pt v)))] H := hP
  have hD : va_D (Ar) [(q0, .inr (1, [.ref sg, .int ln9, .int at9, .ref pr, .int to9])), (pr, .inl (cI, 72, .inl (upd pa pt v)))] := hD
  refine x_vretW (w := [(q0, .inr (1, [.ref sg, .int ln9, .int at9, .ref pr, .int to9])), (pr, .inl (cI, 72, .inl (upd pa pt v)))]) hQ hAe hx hb hr hlocks (hP.sub [0, 1] rfl) (hD.sub [0, 1] (by decide) rfl) hS ?_ dX1_putPart_22
  exact rfl
set_option maxHeartbeats 4000000 in
set_option maxRecDepth 100000 in
theorem c_X1_readNumber_0 (l : Launch) (D : va_G) (cI cC cS : ClassId) (tt : Nat → Nat) (sz : Nat) (q0 : Nat) (sg : Nat) (pr : Nat) (ln : Nat) (at9 : Nat) (pt : Nat) (to9 : Int32) (tx : Nat → Int32) (pa : Nat → Int32) (hh0 : ln ≤ 60) (hh1 : at9 ≤ ln) (hh2 : pt < 72) : Met l yX1_readNumber wsX1_readNumber ({ frames := 2, cells := 0, slots := 0, locals := 44 } : Room) (x_PW D cI cC cS tt [(q0, .inr (1, [.ref sg, .int (nI ln), .int (nI at9), .ref pr, .int to9])), (sg, .inl (cC, 60, .inl (tx))), (pr, .inl (cI, 72, .inl (pa)))] sz [.ref q0, .int (nI pt), .int 0]) (x_QWi D [(q0, .inr (1, [.ref sg, .int (nI ln), .int (nI at9), .ref pr, .int to9])), (sg, .inl (cC, 60, .inl (tx))), (pr, .inl (cI, 72, .inl (pa)))] sz (fun (r : Int32) (w : va_W) => (r = 1 ∧ w = [(q0, .inr (1, [.ref sg, .int (nI ln), .int (nI (dE tx ln at9)), .ref pr, .int to9])), (sg, .inl (cC, 60, .inl (tx))), (pr, .inl (cI, 72, .inl (upd pa pt (zI (dV tx ln at9)))))] ∧ (isD tx ln at9) ∧ (at9 < dE tx ln at9 ∧ dE tx ln at9 ≤ ln)) ∨ (r = 0 ∧ w = [(q0, .inr (1, [.ref sg, .int (nI ln), .int (nI at9), .ref pr, .int to9])), (sg, .inl (cC, 60, .inl (tx))), (pr, .inl (cI, 72, .inl (pa)))] ∧ (¬ isD tx ln at9)))) 0 0 (va_A [(q0, .inr (1, [.ref sg, .int (nI ln), .int (nI at9), .ref pr, .int to9])), (sg, .inl (cC, 60, .inl (tx))), (pr, .inl (cI, 72, .inl (pa)))] sz) := by
  refine Met.ofW (cc := cX1_readNumber) (maxL := 6) (ret := (some .boolean)) (by decide) rfl ?_
  intro p e s m args below meth c s₁ hBd hml hv
  obtain ⟨rfl, hsz, hP, hK, hD0, hE⟩ := hv
  have hx := hBd.exec
  have hb := hBd.bytes
  have hr := hBd.returns
  have hts := atoms_spec (ws := wsX1_readNumber) hBd.pre
  have hown : s.vm.findClass RX1 = some m.cls := findClass_of_methodNamed hBd.named
  have hlocks := hBd.notSynchronized
  subst hsz
  obtain ⟨Ar, hAe⟩ : ∃ Ar : Nat → Prop, Ar = va_A [(q0, .inr (1, [.ref sg, .int (nI ln), .int (nI at9), .ref pr, .int to9])), (sg, .inl (cC, 60, .inl (tx))), (pr, .inl (cI, 72, .inl (pa)))] s.heap.size := ⟨_, rfl⟩
  have hD : va_D Ar [(q0, .inr (1, [.ref sg, .int (nI ln), .int (nI at9), .ref pr, .int to9])), (sg, .inl (cC, 60, .inl (tx))), (pr, .inl (cI, 72, .inl (pa)))] := by rw [hAe]; exact hD0.self
  have hA : ∀ q : Nat, s.heap.size ≤ q → Ar q := fun q h => by rw [hAe]; exact Or.inr h
  have hE : x_E tt Ar s := by rw [hAe]; exact hE
  have hS : va_S Ar s.heap s.heap [] := va_S.rf
  have hl := lv_entry ([.ref q0, .int (nI pt), .int 0]) (n := 6) (Nat.le_of_ble_eq_true rfl)
  rw [lg_entry_eq]
  generalize (lg_sl ([.ref q0, .int (nI pt), .int 0]) ++ List.replicate (6 - (lg_sl ([.ref q0, .int (nI pt), .int 0])).length) Slot.unset).toArray = ls at hl ⊢
  have hl : lv_has ls 6 [(0, .ref q0), (1, .int (nI pt)), (2, .int 0)] := hl
  refine x_genQ (fun Q hQ => ?_)
  have hdg := dgZ_c tx ln at9
  have hdg2 := dgZ_c tx ln (at9 + 1)
  have hdg3 := dgZ_c tx ln (at9 + 1 + 1)
  refine lv_iload_n hx hb dX1_readNumber_0 rfl (lv_at hl 2 rfl) ?_
  refine lv_if_eq (tgt := 17) hx hb dX1_readNumber_1 (by decide) (fun _ => ?_) (fun h => False.elim (by revert h; decide))
  refine lv_iconst (v := 0) hx hb dX1_readNumber_17 (by decide) ?_
  refine lv_istore_n (lv' := [(3, .int 0), (0, .ref q0), (1, .int (nI pt)), (2, .int 0)]) hx hb dX1_readNumber_18 rfl hl (by decide) rfl (fun ls hl => ?_)
  refine lv_aload_n hx hb dX1_readNumber_19 rfl (lv_at hl 1 rfl) ?_
  refine x_callR (va_runV (As := []) (rest := []) ⟨hx, hb, hml, hown, hts⟩ (c_X1_digitHere l D cI cC cS tt q0 sg pr ln at9 to9 tx pa (by first | assumption | omega | decide) (by first | assumption | omega | decide)) (cwV 0 hts gX1_readNumber_X1_digitHere rfl rfl rfl (by decide +kernel) ⟨Nat.le_of_ble_eq_true rfl, Nat.le_of_ble_eq_true rfl⟩) ⟨x_blindR, va_recv hK hP (ci := 1) (q0 := 0) rfl rfl, x_preR (hP.sub (ws' := [(q0, .inr (1, [.ref sg, .int (nI ln), .int (nI at9), .ref pr, .int to9])), (sg, .inl (cC, 60, .inl (tx))), (pr, .inl (cI, 72, .inl (pa)))]) [0, 1, 2] rfl) hK hE hS⟩ rfl rfl hl.1 rfl (lv_room (Nat.le_of_ble_eq_true rfl)) dX1_readNumber_20 ⟨(Nat.le_of_ble_eq_true rfl), (Nat.le_of_ble_eq_true rfl)⟩) ?_
  refine lv_istore (lv' := [(4, .int (dgH tx ln at9)), (3, .int 0), (0, .ref q0), (1, .int (nI pt)), (2, .int 0)]) hx hb dX1_readNumber_23 hl (by decide) rfl (fun ls hl => ?_)
  refine lv_iload hx hb dX1_readNumber_25 (lv_at hl 0 rfl) ?_
  refine x_if_lt (tgt := 39) hx hb dX1_readNumber_27 (by decide) (X := dgZ tx ln at9) (dgH_i tx ln at9) (fun c_27 => ?_) (fun c_27 => ?_)
  · skip
    refine lv_iconst (v := 0) hx hb dX1_readNumber_39 (by decide) ?_
    refine x_zretW (w := [(q0, .inr (1, [.ref sg, .int (nI ln), .int (nI at9), .ref pr, .int to9])), (sg, .inl (cC, 60, .inl (tx))), (pr, .inl (cI, 72, .inl (pa)))]) hQ hAe hx hb hr hlocks (by decide) (hP.sub [0, 1, 2] rfl) (hD.sub [0, 1, 2] (by decide) rfl) hS ?_ dX1_readNumber_40
    refine Or.inr (?_)
    exact ⟨rfl, rfl, by omega⟩
  · skip
    refine lv_iload_n hx hb dX1_readNumber_30 rfl (lv_at hl 1 rfl) ?_
    refine lv_if_eq (tgt := 41) hx hb dX1_readNumber_31 (by decide) (fun _ => ?_) (fun h => False.elim (by revert h; decide))
    refine lv_aload_n hx hb dX1_readNumber_41 rfl (lv_at hl 2 rfl) ?_
    refine lv_dup hx hb dX1_readNumber_42 rfl ?_
    refine va_get (v := .int (nI at9)) (D := D) (ci := 1) (C := RX1) (T := TX1) (N := 5) hx hb hts (by decide +kernel) hown hK hP 0 rfl rfl 2 (by decide) (hts (.fieldLink RX1 19 "SpiralFrames$Orders" "at" "I") (by decide +kernel)) (fun _ h9 => h9) rfl dX1_readNumber_43 ?_
    refine lv_iconst (v := 1) hx hb dX1_readNumber_46 (by decide) ?_
    refine lv_iadd hx hb dX1_readNumber_47 ?_
    refine x_eqi (show nI at9 + 1 = nI (at9 + 1) from nI_add at9 1) ?_
    refine va_put (v := .int (nI (at9 + 1))) (ty := .int) (D := D) (ci := 1) (C := RX1) (T := TX1) (N := 5) hx hb hts (by decide +kernel) tyX1 tyX1_ok nmX1 hown hK hP hD hS 0 rfl rfl 2 (by decide) (hts (.fieldLink RX1 19 "SpiralFrames$Orders" "at" "I") (by decide +kernel)) (fun _ h9 => h9) rfl (by decide +kernel) rfl rfl (Nat.le_of_ble_eq_true rfl) dX1_readNumber_48 (fun H locs hP hD hS => ?_)
    have hP : va_P D vwCl [(q0, .inr (1, [.ref sg, .int (nI ln), .int (nI (at9 + 1)), .ref pr, .int to9])), (sg, .inl (cC, 60, .inl (tx))), (pr, .inl (cI, 72, .inl (pa)))] H := hP
    have hD : va_D (Ar) [(q0, .inr (1, [.ref sg, .int (nI ln), .int (nI (at9 + 1)), .ref pr, .int to9])), (sg, .inl (cC, 60, .inl (tx))), (pr, .inl (cI, 72, .inl (pa)))] := hD
    refine lv_iload hx hb dX1_readNumber_51 (lv_at hl 0 rfl) ?_
    refine x_if_ne (tgt := 60) hx hb dX1_readNumber_53 (by decide) (X := dgZ tx ln at9) (dgH_i tx ln at9) (fun c_53 => ?_) (fun c_53 => ?_)
    · skip
      refine lv_aload_n hx hb dX1_readNumber_60 rfl (lv_at hl 2 rfl) ?_
      refine x_callR (va_runV (As := []) (rest := []) ⟨hx, hb, hml, hown, hts⟩ (c_X1_digitHere l D cI cC cS tt q0 sg pr ln (at9 + 1) to9 tx pa (by first | assumption | omega | decide) (by first | assumption | omega | decide)) (cwV 0 hts gX1_readNumber_X1_digitHere rfl rfl rfl (by decide +kernel) ⟨Nat.le_of_ble_eq_true rfl, Nat.le_of_ble_eq_true rfl⟩) ⟨x_blindR, va_recv hK hP (ci := 1) (q0 := 0) rfl rfl, x_preR (hP.sub (ws' := [(q0, .inr (1, [.ref sg, .int (nI ln), .int (nI ((at9 + 1))), .ref pr, .int to9])), (sg, .inl (cC, 60, .inl (tx))), (pr, .inl (cI, 72, .inl (pa)))]) [0, 1, 2] rfl) hK hE hS⟩ rfl rfl hl.1 rfl (lv_room (Nat.le_of_ble_eq_true rfl)) dX1_readNumber_61 ⟨(Nat.le_of_ble_eq_true rfl), (Nat.le_of_ble_eq_true rfl)⟩) ?_
      refine lv_istore (lv' := [(5, .int (dgH tx ln (at9 + 1))), (4, .int (dgH tx ln at9)), (3, .int 0), (0, .ref q0), (1, .int (nI pt)), (2, .int 0)]) hx hb dX1_readNumber_64 hl (by decide) rfl (fun ls hl => ?_)
      refine lv_iload hx hb dX1_readNumber_66 (lv_at hl 0 rfl) ?_
      refine x_if_lt (tgt := 91) hx hb dX1_readNumber_68 (by decide) (X := dgZ tx ln (at9 + 1)) (dgH_i tx ln (at9 + 1)) (fun c_68 => ?_) (fun c_68 => ?_)
      · skip
        refine lv_aload_n hx hb dX1_readNumber_91 rfl (lv_at hl 3 rfl) ?_
        refine lv_iload_n hx hb dX1_readNumber_92 rfl (lv_at hl 4 rfl) ?_
        refine lv_iload_n hx hb dX1_readNumber_93 rfl (lv_at hl 2 rfl) ?_
        refine lv_if_eq (tgt := 103) hx hb dX1_readNumber_94 (by decide) (fun _ => ?_) (fun h => False.elim (by revert h; decide))
        refine lv_iload hx hb dX1_readNumber_103 (lv_at hl 1 rfl) ?_
        refine x_eqi (show dgH tx ln at9 = zI (dV tx ln at9) from zI_eq (dgH_i tx ln at9) (by unfold dV; split <;> omega)) ?_
        refine x_callWv (wc := [(q0, .inr (1, [.ref sg, .int (nI ln), .int (nI (at9 + 1)), .ref pr, .int to9])), (pr, .inl (cI, 72, .inl (pa)))]) (wr := [(sg, .inl (cC, 60, .inl (tx)))]) (va_runV (As := [.int (nI pt), .int (zI (dV tx ln at9))]) (rest := []) ⟨hx, hb, hml, hown, hts⟩ (c_X1_putPart l D cI cC cS tt H.size q0 sg pr pt (nI ln) (nI (at9 + 1)) to9 (zI (dV tx ln at9)) pa (by first | assumption | omega | decide)) (cwV 2 hts gX1_readNumber_X1_putPart rfl rfl rfl (by decide +kernel) ⟨Nat.le_of_ble_eq_true rfl, Nat.le_of_ble_eq_true rfl⟩) ⟨x_blindW, va_recv hK hP (ci := 1) (q0 := 0) rfl rfl, x_preW hP hD hK hE hS hA [0, 2] rfl (by decide)⟩ rfl rfl hl.1 rfl (lv_room (Nat.le_of_ble_eq_true rfl)) dX1_readNumber_105 ⟨(Nat.le_of_ble_eq_true rfl), (Nat.le_of_ble_eq_true rfl)⟩) hP hD hS hA [0, 2] [1] rfl rfl (by decide) (by decide) (fun w1 H locs hw hP hD hS => ?_)
        obtain rfl := hw
        have hP : va_P D vwCl [(q0, .inr (1, [.ref sg, .int (nI ln), .int (nI (at9 + 1)), .ref pr, .int to9])), (pr, .inl (cI, 72, .inl (upd pa pt (zI (dV tx ln at9))))), (sg, .inl (cC, 60, .inl (tx)))] H := hP
        have hD : va_D (Ar) [(q0, .inr (1, [.ref sg, .int (nI ln), .int (nI (at9 + 1)), .ref pr, .int to9])), (pr, .inl (cI, 72, .inl (upd pa pt (zI (dV tx ln at9))))), (sg, .inl (cC, 60, .inl (tx)))] := hD
        refine lv_iconst (v := 1) hx hb dX1_readNumber_108 (by decide) ?_
        refine x_zretW (w := [(q0, .inr (1, [.ref sg, .int (nI ln), .int (nI (at9 + 1)), .ref pr, .int to9])), (sg, .inl (cC, 60, .inl (tx))), (pr, .inl (cI, 72, .inl (upd pa pt (zI (dV tx ln at9)))))]) hQ hAe hx hb hr hlocks (by decide) (hP.sub [0, 2, 1] rfl) (hD.sub [0, 2, 1] (by decide) rfl) hS ?_ dX1_readNumber_109
        refine Or.inl ?_
        exact ⟨rfl, by first | rw [dE_2 (by omega)] | rw [dE_1 (by omega)], by omega, dE_le (by omega)⟩
      · skip
        refine lv_iload hx hb dX1_readNumber_71 (lv_at hl 1 rfl) ?_
        refine lv_bipush (v := 10) hx hb dX1_readNumber_73 (by decide) ?_
        refine lv_imul hx hb dX1_readNumber_75 ?_
        refine lv_iload hx hb dX1_readNumber_76 (lv_at hl 0 rfl) ?_
        refine lv_iadd hx hb dX1_readNumber_78 ?_
        refine lv_istore (lv' := [(4, .int (((dgH tx ln at9) * 10) + (dgH tx ln (at9 + 1)))), (5, .int (dgH tx ln (at9 + 1))), (3, .int 0), (0, .ref q0), (1, .int (nI pt)), (2, .int 0)]) hx hb dX1_readNumber_79 hl (by decide) rfl (fun ls hl => ?_)
        refine lv_aload_n hx hb dX1_readNumber_81 rfl (lv_at hl 3 rfl) ?_
        refine lv_dup hx hb dX1_readNumber_82 rfl ?_
        refine va_get (v := .int (nI (at9 + 1))) (D := D) (ci := 1) (C := RX1) (T := TX1) (N := 5) hx hb hts (by decide +kernel) hown hK hP 0 rfl rfl 2 (by decide) (hts (.fieldLink RX1 19 "SpiralFrames$Orders" "at" "I") (by decide +kernel)) (fun _ h9 => h9) rfl dX1_readNumber_83 ?_
        refine lv_iconst (v := 1) hx hb dX1_readNumber_86 (by decide) ?_
        refine lv_iadd hx hb dX1_readNumber_87 ?_
        refine x_eqi (show nI (at9 + 1) + 1 = nI ((at9 + 1) + 1) from nI_add (at9 + 1) 1) ?_
        refine va_put (v := .int (nI ((at9 + 1) + 1))) (ty := .int) (D := D) (ci := 1) (C := RX1) (T := TX1) (N := 5) hx hb hts (by decide +kernel) tyX1 tyX1_ok nmX1 hown hK hP hD hS 0 rfl rfl 2 (by decide) (hts (.fieldLink RX1 19 "SpiralFrames$Orders" "at" "I") (by decide +kernel)) (fun _ h9 => h9) rfl (by decide +kernel) rfl rfl (Nat.le_of_ble_eq_true rfl) dX1_readNumber_88 (fun H locs hP hD hS => ?_)
        have hP : va_P D vwCl [(q0, .inr (1, [.ref sg, .int (nI ln), .int (nI ((at9 + 1) + 1)), .ref pr, .int to9])), (sg, .inl (cC, 60, .inl (tx))), (pr, .inl (cI, 72, .inl (pa)))] H := hP
        have hD : va_D (Ar) [(q0, .inr (1, [.ref sg, .int (nI ln), .int (nI ((at9 + 1) + 1)), .ref pr, .int to9])), (sg, .inl (cC, 60, .inl (tx))), (pr, .inl (cI, 72, .inl (pa)))] := hD
        refine lv_aload_n hx hb dX1_readNumber_91 rfl (lv_at hl 3 rfl) ?_
        refine lv_iload_n hx hb dX1_readNumber_92 rfl (lv_at hl 4 rfl) ?_
        refine lv_iload_n hx hb dX1_readNumber_93 rfl (lv_at hl 2 rfl) ?_
        refine lv_if_eq (tgt := 103) hx hb dX1_readNumber_94 (by decide) (fun _ => ?_) (fun h => False.elim (by revert h; decide))
        refine lv_iload hx hb dX1_readNumber_103 (lv_at hl 0 rfl) ?_
        refine x_eqi (show ((dgH tx ln at9) * 10) + (dgH tx ln (at9 + 1)) = zI (dV tx ln at9) from zI_eq (x_addI (x_mulI (dgH_i tx ln at9) (show (10 : Int32).toInt = 10 from by decide) (by omega) (by omega)) (dgH_i tx ln (at9 + 1)) (by omega) (by omega)) (by unfold dV; split <;> omega)) ?_
        refine x_callWv (wc := [(q0, .inr (1, [.ref sg, .int (nI ln), .int (nI ((at9 + 1) + 1)), .ref pr, .int to9])), (pr, .inl (cI, 72, .inl (pa)))]) (wr := [(sg, .inl (cC, 60, .inl (tx)))]) (va_runV (As := [.int (nI pt), .int (zI (dV tx ln at9))]) (rest := []) ⟨hx, hb, hml, hown, hts⟩ (c_X1_putPart l D cI cC cS tt H.size q0 sg pr pt (nI ln) (nI ((at9 + 1) + 1)) to9 (zI (dV tx ln at9)) pa (by first | assumption | omega | decide)) (cwV 2 hts gX1_readNumber_X1_putPart rfl rfl rfl (by decide +kernel) ⟨Nat.le_of_ble_eq_true rfl, Nat.le_of_ble_eq_true rfl⟩) ⟨x_blindW, va_recv hK hP (ci := 1) (q0 := 0) rfl rfl, x_preW hP hD hK hE hS hA [0, 2] rfl (by decide)⟩ rfl rfl hl.1 rfl (lv_room (Nat.le_of_ble_eq_true rfl)) dX1_readNumber_105 ⟨(Nat.le_of_ble_eq_true rfl), (Nat.le_of_ble_eq_true rfl)⟩) hP hD hS hA [0, 2] [1] rfl rfl (by decide) (by decide) (fun w1 H locs hw hP hD hS => ?_)
        obtain rfl := hw
        have hP : va_P D vwCl [(q0, .inr (1, [.ref sg, .int (nI ln), .int (nI ((at9 + 1) + 1)), .ref pr, .int to9])), (pr, .inl (cI, 72, .inl (upd pa pt (zI (dV tx ln at9))))), (sg, .inl (cC, 60, .inl (tx)))] H := hP
        have hD : va_D (Ar) [(q0, .inr (1, [.ref sg, .int (nI ln), .int (nI ((at9 + 1) + 1)), .ref pr, .int to9])), (pr, .inl (cI, 72, .inl (upd pa pt (zI (dV tx ln at9))))), (sg, .inl (cC, 60, .inl (tx)))] := hD
        refine lv_iconst (v := 1) hx hb dX1_readNumber_108 (by decide) ?_
        refine x_zretW (w := [(q0, .inr (1, [.ref sg, .int (nI ln), .int (nI ((at9 + 1) + 1)), .ref pr, .int to9])), (sg, .inl (cC, 60, .inl (tx))), (pr, .inl (cI, 72, .inl (upd pa pt (zI (dV tx ln at9)))))]) hQ hAe hx hb hr hlocks (by decide) (hP.sub [0, 2, 1] rfl) (hD.sub [0, 2, 1] (by decide) rfl) hS ?_ dX1_readNumber_109
        refine Or.inl ?_
        exact ⟨rfl, by first | rw [dE_2 (by omega)] | rw [dE_1 (by omega)], by omega, dE_le (by omega)⟩
    · skip
      refine lv_iconst (v := (-1)) hx hb dX1_readNumber_56 (by decide) ?_
      refine lv_goto (tgt := 64) hx hb dX1_readNumber_57 (by decide) ?_
      refine lv_istore (lv' := [(5, .int (-1)), (4, .int (dgH tx ln at9)), (3, .int 0), (0, .ref q0), (1, .int (nI pt)), (2, .int 0)]) hx hb dX1_readNumber_64 hl (by decide) rfl (fun ls hl => ?_)
      refine lv_iload hx hb dX1_readNumber_66 (lv_at hl 0 rfl) ?_
      refine lv_if_lt (tgt := 91) hx hb dX1_readNumber_68 (by decide) (fun _ => ?_) (fun h => False.elim (by revert h; decide))
      refine lv_aload_n hx hb dX1_readNumber_91 rfl (lv_at hl 3 rfl) ?_
      refine lv_iload_n hx hb dX1_readNumber_92 rfl (lv_at hl 4 rfl) ?_
      refine lv_iload_n hx hb dX1_readNumber_93 rfl (lv_at hl 2 rfl) ?_
      refine lv_if_eq (tgt := 103) hx hb dX1_readNumber_94 (by decide) (fun _ => ?_) (fun h => False.elim (by revert h; decide))
      refine lv_iload hx hb dX1_readNumber_103 (lv_at hl 1 rfl) ?_
      refine x_eqi (show dgH tx ln at9 = zI (dV tx ln at9) from zI_eq (dgH_i tx ln at9) (by unfold dV; split <;> omega)) ?_
      refine x_callWv (wc := [(q0, .inr (1, [.ref sg, .int (nI ln), .int (nI (at9 + 1)), .ref pr, .int to9])), (pr, .inl (cI, 72, .inl (pa)))]) (wr := [(sg, .inl (cC, 60, .inl (tx)))]) (va_runV (As := [.int (nI pt), .int (zI (dV tx ln at9))]) (rest := []) ⟨hx, hb, hml, hown, hts⟩ (c_X1_putPart l D cI cC cS tt H.size q0 sg pr pt (nI ln) (nI (at9 + 1)) to9 (zI (dV tx ln at9)) pa (by first | assumption | omega | decide)) (cwV 2 hts gX1_readNumber_X1_putPart rfl rfl rfl (by decide +kernel) ⟨Nat.le_of_ble_eq_true rfl, Nat.le_of_ble_eq_true rfl⟩) ⟨x_blindW, va_recv hK hP (ci := 1) (q0 := 0) rfl rfl, x_preW hP hD hK hE hS hA [0, 2] rfl (by decide)⟩ rfl rfl hl.1 rfl (lv_room (Nat.le_of_ble_eq_true rfl)) dX1_readNumber_105 ⟨(Nat.le_of_ble_eq_true rfl), (Nat.le_of_ble_eq_true rfl)⟩) hP hD hS hA [0, 2] [1] rfl rfl (by decide) (by decide) (fun w1 H locs hw hP hD hS => ?_)
      obtain rfl := hw
      have hP : va_P D vwCl [(q0, .inr (1, [.ref sg, .int (nI ln), .int (nI (at9 + 1)), .ref pr, .int to9])), (pr, .inl (cI, 72, .inl (upd pa pt (zI (dV tx ln at9))))), (sg, .inl (cC, 60, .inl (tx)))] H := hP
      have hD : va_D (Ar) [(q0, .inr (1, [.ref sg, .int (nI ln), .int (nI (at9 + 1)), .ref pr, .int to9])), (pr, .inl (cI, 72, .inl (upd pa pt (zI (dV tx ln at9))))), (sg, .inl (cC, 60, .inl (tx)))] := hD
      refine lv_iconst (v := 1) hx hb dX1_readNumber_108 (by decide) ?_
      refine x_zretW (w := [(q0, .inr (1, [.ref sg, .int (nI ln), .int (nI (at9 + 1)), .ref pr, .int to9])), (sg, .inl (cC, 60, .inl (tx))), (pr, .inl (cI, 72, .inl (upd pa pt (zI (dV tx ln at9)))))]) hQ hAe hx hb hr hlocks (by decide) (hP.sub [0, 2, 1] rfl) (hD.sub [0, 2, 1] (by decide) rfl) hS ?_ dX1_readNumber_109
      refine Or.inl ?_
      exact ⟨rfl, by first | rw [dE_2 (by omega)] | rw [dE_1 (by omega)], by omega, dE_le (by omega)⟩
set_option maxHeartbeats 4000000 in
set_option maxRecDepth 100000 in
theorem c_X1_readNumber_1 (l : Launch) (D : va_G) (cI cC cS : ClassId) (tt : Nat → Nat) (sz : Nat) (q0 : Nat) (sg : Nat) (pr : Nat) (ln : Nat) (at9 : Nat) (pt : Nat) (to9 : Int32) (tx : Nat → Int32) (pa : Nat → Int32) (hh0 : ln ≤ 60) (hh1 : at9 ≤ ln) (hh2 : pt < 72) : Met l yX1_readNumber wsX1_readNumber ({ frames := 2, cells := 0, slots := 0, locals := 44 } : Room) (x_PW D cI cC cS tt [(q0, .inr (1, [.ref sg, .int (nI ln), .int (nI at9), .ref pr, .int to9])), (sg, .inl (cC, 60, .inl (tx))), (pr, .inl (cI, 72, .inl (pa)))] sz [.ref q0, .int (nI pt), .int 1]) (x_QWi D [(q0, .inr (1, [.ref sg, .int (nI ln), .int (nI at9), .ref pr, .int to9])), (sg, .inl (cC, 60, .inl (tx))), (pr, .inl (cI, 72, .inl (pa)))] sz (fun (r : Int32) (w : va_W) => (r = 1 ∧ w = [(q0, .inr (1, [.ref sg, .int (nI ln), .int (nI (nE tx ln at9)), .ref pr, .int to9])), (sg, .inl (cC, 60, .inl (tx))), (pr, .inl (cI, 72, .inl (upd pa pt (zI (nV tx ln at9)))))] ∧ (nOk tx ln at9) ∧ (at9 < nE tx ln at9 ∧ nE tx ln at9 ≤ ln)) ∨ (r = 0 ∧ w = [(q0, .inr (1, [.ref sg, .int (nI ln), .int (nI (nF tx ln at9)), .ref pr, .int to9])), (sg, .inl (cC, 60, .inl (tx))), (pr, .inl (cI, 72, .inl (pa)))] ∧ (¬ nOk tx ln at9)))) 0 0 (va_A [(q0, .inr (1, [.ref sg, .int (nI ln), .int (nI at9), .ref pr, .int to9])), (sg, .inl (cC, 60, .inl (tx))), (pr, .inl (cI, 72, .inl (pa)))] sz) := by
  refine Met.ofW (cc := cX1_readNumber) (maxL := 6) (ret := (some .boolean)) (by decide) rfl ?_
  intro p e s m args below meth c s₁ hBd hml hv
  obtain ⟨rfl, hsz, hP, hK, hD0, hE⟩ := hv
  have hx := hBd.exec
  have hb := hBd.bytes
  have hr := hBd.returns
  have hts := atoms_spec (ws := wsX1_readNumber) hBd.pre
  have hown : s.vm.findClass RX1 = some m.cls := findClass_of_methodNamed hBd.named
  have hlocks := hBd.notSynchronized
  subst hsz
  obtain ⟨Ar, hAe⟩ : ∃ Ar : Nat → Prop, Ar = va_A [(q0, .inr (1, [.ref sg, .int (nI ln), .int (nI at9), .ref pr, .int to9])), (sg, .inl (cC, 60, .inl (tx))), (pr, .inl (cI, 72, .inl (pa)))] s.heap.size := ⟨_, rfl⟩
  have hD : va_D Ar [(q0, .inr (1, [.ref sg, .int (nI ln), .int (nI at9), .ref pr, .int to9])), (sg, .inl (cC, 60, .inl (tx))), (pr, .inl (cI, 72, .inl (pa)))] := by rw [hAe]; exact hD0.self
  have hA : ∀ q : Nat, s.heap.size ≤ q → Ar q := fun q h => by rw [hAe]; exact Or.inr h
  have hE : x_E tt Ar s := by rw [hAe]; exact hE
  have hS : va_S Ar s.heap s.heap [] := va_S.rf
  have hl := lv_entry ([.ref q0, .int (nI pt), .int 1]) (n := 6) (Nat.le_of_ble_eq_true rfl)
  rw [lg_entry_eq]
  generalize (lg_sl ([.ref q0, .int (nI pt), .int 1]) ++ List.replicate (6 - (lg_sl ([.ref q0, .int (nI pt), .int 1])).length) Slot.unset).toArray = ls at hl ⊢
  have hl : lv_has ls 6 [(0, .ref q0), (1, .int (nI pt)), (2, .int 1)] := hl
  refine x_genQ (fun Q hQ => ?_)
  have hdg := dgZ_c tx ln at9
  have hdg2 := dgZ_c tx ln (at9 + 1)
  have hdg3 := dgZ_c tx ln (at9 + 1 + 1)
  refine lv_iload_n hx hb dX1_readNumber_0 rfl (lv_at hl 2 rfl) ?_
  refine lv_if_eq (tgt := 17) hx hb dX1_readNumber_1 (by decide) (fun h => False.elim (by revert h; decide)) (fun _ => ?_)
  refine lv_aload_n hx hb dX1_readNumber_4 rfl (lv_at hl 0 rfl) ?_
  refine lv_bipush (v := 45) hx hb dX1_readNumber_5 (by decide) ?_
  refine x_callWi (wc := [(q0, .inr (1, [.ref sg, .int (nI ln), .int (nI at9), .ref pr, .int to9])), (sg, .inl (cC, 60, .inl (tx))), (pr, .inl (cI, 72, .inl (pa)))]) (wr := []) (va_runV (As := [.int 45]) (rest := []) ⟨hx, hb, hml, hown, hts⟩ (c_X1_takes l D cI cC cS tt s.heap.size q0 sg pr ln at9 to9 tx pa 45 45 (show (45 : Int32).toInt = 45 from by decide) (by first | assumption | omega | decide) (by first | assumption | omega | decide) (by first | assumption | omega | decide)) (cwV 1 hts gX1_readNumber_X1_takes rfl rfl rfl (by decide +kernel) ⟨Nat.le_of_ble_eq_true rfl, Nat.le_of_ble_eq_true rfl⟩) ⟨x_blindW, va_recv hK hP (ci := 1) (q0 := 0) rfl rfl, x_preW hP hD hK hE hS hA [0, 1, 2] rfl (by decide)⟩ rfl rfl hl.1 rfl (lv_room (Nat.le_of_ble_eq_true rfl)) dX1_readNumber_7 ⟨(Nat.le_of_ble_eq_true rfl), (Nat.le_of_ble_eq_true rfl)⟩) hP hD hS hA [0, 1, 2] [] rfl rfl (by decide) (by decide) (fun r_1 w1 H locs hw hP hD hS => ?_)
  rcases hw with ⟨rfl, rfl, hf7_0⟩ | ⟨rfl, rfl, hf7_0⟩
  · skip
    have hP : va_P D vwCl [(q0, .inr (1, [.ref sg, .int (nI ln), .int (nI (at9 + 1)), .ref pr, .int to9])), (sg, .inl (cC, 60, .inl (tx))), (pr, .inl (cI, 72, .inl (pa)))] H := hP
    have hD : va_D (Ar) [(q0, .inr (1, [.ref sg, .int (nI ln), .int (nI (at9 + 1)), .ref pr, .int to9])), (sg, .inl (cC, 60, .inl (tx))), (pr, .inl (cI, 72, .inl (pa)))] := hD
    refine lv_if_eq (tgt := 17) hx hb dX1_readNumber_10 (by decide) (fun h => False.elim (by revert h; decide)) (fun _ => ?_)
    refine lv_iconst (v := 1) hx hb dX1_readNumber_13 (by decide) ?_
    refine lv_goto (tgt := 18) hx hb dX1_readNumber_14 (by decide) ?_
    refine lv_istore_n (lv' := [(3, .int 1), (0, .ref q0), (1, .int (nI pt)), (2, .int 1)]) hx hb dX1_readNumber_18 rfl hl (by decide) rfl (fun ls hl => ?_)
    refine lv_aload_n hx hb dX1_readNumber_19 rfl (lv_at hl 1 rfl) ?_
    refine x_callR (va_runV (As := []) (rest := []) ⟨hx, hb, hml, hown, hts⟩ (c_X1_digitHere l D cI cC cS tt q0 sg pr ln (at9 + 1) to9 tx pa (by first | assumption | omega | decide) (by first | assumption | omega | decide)) (cwV 0 hts gX1_readNumber_X1_digitHere rfl rfl rfl (by decide +kernel) ⟨Nat.le_of_ble_eq_true rfl, Nat.le_of_ble_eq_true rfl⟩) ⟨x_blindR, va_recv hK hP (ci := 1) (q0 := 0) rfl rfl, x_preR (hP.sub (ws' := [(q0, .inr (1, [.ref sg, .int (nI ln), .int (nI ((at9 + 1))), .ref pr, .int to9])), (sg, .inl (cC, 60, .inl (tx))), (pr, .inl (cI, 72, .inl (pa)))]) [0, 1, 2] rfl) hK hE hS⟩ rfl rfl hl.1 rfl (lv_room (Nat.le_of_ble_eq_true rfl)) dX1_readNumber_20 ⟨(Nat.le_of_ble_eq_true rfl), (Nat.le_of_ble_eq_true rfl)⟩) ?_
    refine lv_istore (lv' := [(4, .int (dgH tx ln (at9 + 1))), (3, .int 1), (0, .ref q0), (1, .int (nI pt)), (2, .int 1)]) hx hb dX1_readNumber_23 hl (by decide) rfl (fun ls hl => ?_)
    refine lv_iload hx hb dX1_readNumber_25 (lv_at hl 0 rfl) ?_
    refine x_if_lt (tgt := 39) hx hb dX1_readNumber_27 (by decide) (X := dgZ tx ln (at9 + 1)) (dgH_i tx ln (at9 + 1)) (fun c_27 => ?_) (fun c_27 => ?_)
    · skip
      refine lv_iconst (v := 0) hx hb dX1_readNumber_39 (by decide) ?_
      refine x_zretW (w := [(q0, .inr (1, [.ref sg, .int (nI ln), .int (nI (at9 + 1)), .ref pr, .int to9])), (sg, .inl (cC, 60, .inl (tx))), (pr, .inl (cI, 72, .inl (pa)))]) hQ hAe hx hb hr hlocks (by decide) (hP.sub [0, 1, 2] rfl) (hD.sub [0, 1, 2] (by decide) rfl) hS ?_ dX1_readNumber_40
      refine Or.inr (?_)
      exact ⟨rfl, by first | rw [nF_0 hf7_0] | rw [nF_1 hf7_0], by first | (rw [nOk_0 hf7_0]; omega) | (rw [nOk_1 hf7_0]; omega)⟩
    · skip
      refine lv_iload_n hx hb dX1_readNumber_30 rfl (lv_at hl 1 rfl) ?_
      refine lv_if_eq (tgt := 41) hx hb dX1_readNumber_31 (by decide) (fun h => False.elim (by revert h; decide)) (fun _ => ?_)
      refine lv_iload hx hb dX1_readNumber_34 (lv_at hl 0 rfl) ?_
      refine x_if_ne (tgt := 41) hx hb dX1_readNumber_36 (by decide) (X := dgZ tx ln (at9 + 1)) (dgH_i tx ln (at9 + 1)) (fun c_36 => ?_) (fun c_36 => ?_)
      · skip
        refine lv_aload_n hx hb dX1_readNumber_41 rfl (lv_at hl 2 rfl) ?_
        refine lv_dup hx hb dX1_readNumber_42 rfl ?_
        refine va_get (v := .int (nI (at9 + 1))) (D := D) (ci := 1) (C := RX1) (T := TX1) (N := 5) hx hb hts (by decide +kernel) hown hK hP 0 rfl rfl 2 (by decide) (hts (.fieldLink RX1 19 "SpiralFrames$Orders" "at" "I") (by decide +kernel)) (fun _ h9 => h9) rfl dX1_readNumber_43 ?_
        refine lv_iconst (v := 1) hx hb dX1_readNumber_46 (by decide) ?_
        refine lv_iadd hx hb dX1_readNumber_47 ?_
        refine x_eqi (show nI (at9 + 1) + 1 = nI ((at9 + 1) + 1) from nI_add (at9 + 1) 1) ?_
        refine va_put (v := .int (nI ((at9 + 1) + 1))) (ty := .int) (D := D) (ci := 1) (C := RX1) (T := TX1) (N := 5) hx hb hts (by decide +kernel) tyX1 tyX1_ok nmX1 hown hK hP hD hS 0 rfl rfl 2 (by decide) (hts (.fieldLink RX1 19 "SpiralFrames$Orders" "at" "I") (by decide +kernel)) (fun _ h9 => h9) rfl (by decide +kernel) rfl rfl (Nat.le_of_ble_eq_true rfl) dX1_readNumber_48 (fun H locs hP hD hS => ?_)
        have hP : va_P D vwCl [(q0, .inr (1, [.ref sg, .int (nI ln), .int (nI ((at9 + 1) + 1)), .ref pr, .int to9])), (sg, .inl (cC, 60, .inl (tx))), (pr, .inl (cI, 72, .inl (pa)))] H := hP
        have hD : va_D (Ar) [(q0, .inr (1, [.ref sg, .int (nI ln), .int (nI ((at9 + 1) + 1)), .ref pr, .int to9])), (sg, .inl (cC, 60, .inl (tx))), (pr, .inl (cI, 72, .inl (pa)))] := hD
        refine lv_iload hx hb dX1_readNumber_51 (lv_at hl 0 rfl) ?_
        refine x_if_ne (tgt := 60) hx hb dX1_readNumber_53 (by decide) (X := dgZ tx ln (at9 + 1)) (dgH_i tx ln (at9 + 1)) (fun c_53 => ?_) (fun c_53 => ?_)
        · skip
          refine lv_aload_n hx hb dX1_readNumber_60 rfl (lv_at hl 2 rfl) ?_
          refine x_callR (va_runV (As := []) (rest := []) ⟨hx, hb, hml, hown, hts⟩ (c_X1_digitHere l D cI cC cS tt q0 sg pr ln ((at9 + 1) + 1) to9 tx pa (by first | assumption | omega | decide) (by first | assumption | omega | decide)) (cwV 0 hts gX1_readNumber_X1_digitHere rfl rfl rfl (by decide +kernel) ⟨Nat.le_of_ble_eq_true rfl, Nat.le_of_ble_eq_true rfl⟩) ⟨x_blindR, va_recv hK hP (ci := 1) (q0 := 0) rfl rfl, x_preR (hP.sub (ws' := [(q0, .inr (1, [.ref sg, .int (nI ln), .int (nI (((at9 + 1) + 1))), .ref pr, .int to9])), (sg, .inl (cC, 60, .inl (tx))), (pr, .inl (cI, 72, .inl (pa)))]) [0, 1, 2] rfl) hK hE hS⟩ rfl rfl hl.1 rfl (lv_room (Nat.le_of_ble_eq_true rfl)) dX1_readNumber_61 ⟨(Nat.le_of_ble_eq_true rfl), (Nat.le_of_ble_eq_true rfl)⟩) ?_
          refine lv_istore (lv' := [(5, .int (dgH tx ln ((at9 + 1) + 1))), (4, .int (dgH tx ln (at9 + 1))), (3, .int 1), (0, .ref q0), (1, .int (nI pt)), (2, .int 1)]) hx hb dX1_readNumber_64 hl (by decide) rfl (fun ls hl => ?_)
          refine lv_iload hx hb dX1_readNumber_66 (lv_at hl 0 rfl) ?_
          refine x_if_lt (tgt := 91) hx hb dX1_readNumber_68 (by decide) (X := dgZ tx ln ((at9 + 1) + 1)) (dgH_i tx ln ((at9 + 1) + 1)) (fun c_68 => ?_) (fun c_68 => ?_)
          · skip
            refine lv_aload_n hx hb dX1_readNumber_91 rfl (lv_at hl 3 rfl) ?_
            refine lv_iload_n hx hb dX1_readNumber_92 rfl (lv_at hl 4 rfl) ?_
            refine lv_iload_n hx hb dX1_readNumber_93 rfl (lv_at hl 2 rfl) ?_
            refine lv_if_eq (tgt := 103) hx hb dX1_readNumber_94 (by decide) (fun h => False.elim (by revert h; decide)) (fun _ => ?_)
            refine lv_iload hx hb dX1_readNumber_97 (lv_at hl 1 rfl) ?_
            refine lv_ineg hx hb dX1_readNumber_99 ?_
            refine x_eqi (show -(dgH tx ln (at9 + 1)) = zI (nV tx ln at9) from zI_eq (x_negI (dgH_i tx ln (at9 + 1)) (by omega)) (by rw [nV_1 hf7_0]; unfold dV; split <;> omega)) ?_
            refine lv_goto (tgt := 105) hx hb dX1_readNumber_100 (by decide) ?_
            refine x_callWv (wc := [(q0, .inr (1, [.ref sg, .int (nI ln), .int (nI ((at9 + 1) + 1)), .ref pr, .int to9])), (pr, .inl (cI, 72, .inl (pa)))]) (wr := [(sg, .inl (cC, 60, .inl (tx)))]) (va_runV (As := [.int (nI pt), .int (zI (nV tx ln at9))]) (rest := []) ⟨hx, hb, hml, hown, hts⟩ (c_X1_putPart l D cI cC cS tt H.size q0 sg pr pt (nI ln) (nI ((at9 + 1) + 1)) to9 (zI (nV tx ln at9)) pa (by first | assumption | omega | decide)) (cwV 2 hts gX1_readNumber_X1_putPart rfl rfl rfl (by decide +kernel) ⟨Nat.le_of_ble_eq_true rfl, Nat.le_of_ble_eq_true rfl⟩) ⟨x_blindW, va_recv hK hP (ci := 1) (q0 := 0) rfl rfl, x_preW hP hD hK hE hS hA [0, 2] rfl (by decide)⟩ rfl rfl hl.1 rfl (lv_room (Nat.le_of_ble_eq_true rfl)) dX1_readNumber_105 ⟨(Nat.le_of_ble_eq_true rfl), (Nat.le_of_ble_eq_true rfl)⟩) hP hD hS hA [0, 2] [1] rfl rfl (by decide) (by decide) (fun w1 H locs hw hP hD hS => ?_)
            obtain rfl := hw
            have hP : va_P D vwCl [(q0, .inr (1, [.ref sg, .int (nI ln), .int (nI ((at9 + 1) + 1)), .ref pr, .int to9])), (pr, .inl (cI, 72, .inl (upd pa pt (zI (nV tx ln at9))))), (sg, .inl (cC, 60, .inl (tx)))] H := hP
            have hD : va_D (Ar) [(q0, .inr (1, [.ref sg, .int (nI ln), .int (nI ((at9 + 1) + 1)), .ref pr, .int to9])), (pr, .inl (cI, 72, .inl (upd pa pt (zI (nV tx ln at9))))), (sg, .inl (cC, 60, .inl (tx)))] := hD
            refine lv_iconst (v := 1) hx hb dX1_readNumber_108 (by decide) ?_
            refine x_zretW (w := [(q0, .inr (1, [.ref sg, .int (nI ln), .int (nI ((at9 + 1) + 1)), .ref pr, .int to9])), (sg, .inl (cC, 60, .inl (tx))), (pr, .inl (cI, 72, .inl (upd pa pt (zI (nV tx ln at9)))))]) hQ hAe hx hb hr hlocks (by decide) (hP.sub [0, 2, 1] rfl) (hD.sub [0, 2, 1] (by decide) rfl) hS ?_ dX1_readNumber_109
            refine Or.inl ?_
            first | (exfalso; omega) | (have ok9 : nOk tx ln at9 := (nOk_0 hf7_0).mpr (by omega); exact ⟨rfl, by rw [nE_0 hf7_0]; first | rw [dE_2 (by omega)] | rw [dE_1 (by omega)], ok9, nE_le ok9⟩) | (have ok9 : nOk tx ln at9 := (nOk_1 hf7_0).mpr (by omega); exact ⟨rfl, by rw [nE_1 hf7_0]; first | rw [dE_2 (by omega)] | rw [dE_1 (by omega)], ok9, nE_le ok9⟩)
          · skip
            refine lv_iload hx hb dX1_readNumber_71 (lv_at hl 1 rfl) ?_
            refine lv_bipush (v := 10) hx hb dX1_readNumber_73 (by decide) ?_
            refine lv_imul hx hb dX1_readNumber_75 ?_
            refine lv_iload hx hb dX1_readNumber_76 (lv_at hl 0 rfl) ?_
            refine lv_iadd hx hb dX1_readNumber_78 ?_
            refine lv_istore (lv' := [(4, .int (((dgH tx ln (at9 + 1)) * 10) + (dgH tx ln ((at9 + 1) + 1)))), (5, .int (dgH tx ln ((at9 + 1) + 1))), (3, .int 1), (0, .ref q0), (1, .int (nI pt)), (2, .int 1)]) hx hb dX1_readNumber_79 hl (by decide) rfl (fun ls hl => ?_)
            refine lv_aload_n hx hb dX1_readNumber_81 rfl (lv_at hl 3 rfl) ?_
            refine lv_dup hx hb dX1_readNumber_82 rfl ?_
            refine va_get (v := .int (nI ((at9 + 1) + 1))) (D := D) (ci := 1) (C := RX1) (T := TX1) (N := 5) hx hb hts (by decide +kernel) hown hK hP 0 rfl rfl 2 (by decide) (hts (.fieldLink RX1 19 "SpiralFrames$Orders" "at" "I") (by decide +kernel)) (fun _ h9 => h9) rfl dX1_readNumber_83 ?_
            refine lv_iconst (v := 1) hx hb dX1_readNumber_86 (by decide) ?_
            refine lv_iadd hx hb dX1_readNumber_87 ?_
            refine x_eqi (show nI ((at9 + 1) + 1) + 1 = nI (((at9 + 1) + 1) + 1) from nI_add ((at9 + 1) + 1) 1) ?_
            refine va_put (v := .int (nI (((at9 + 1) + 1) + 1))) (ty := .int) (D := D) (ci := 1) (C := RX1) (T := TX1) (N := 5) hx hb hts (by decide +kernel) tyX1 tyX1_ok nmX1 hown hK hP hD hS 0 rfl rfl 2 (by decide) (hts (.fieldLink RX1 19 "SpiralFrames$Orders" "at" "I") (by decide +kernel)) (fun _ h9 => h9) rfl (by decide +kernel) rfl rfl (Nat.le_of_ble_eq_true rfl) dX1_readNumber_88 (fun H locs hP hD hS => ?_)
            have hP : va_P D vwCl [(q0, .inr (1, [.ref sg, .int (nI ln), .int (nI (((at9 + 1) + 1) + 1)), .ref pr, .int to9])), (sg, .inl (cC, 60, .inl (tx))), (pr, .inl (cI, 72, .inl (pa)))] H := hP
            have hD : va_D (Ar) [(q0, .inr (1, [.ref sg, .int (nI ln), .int (nI (((at9 + 1) + 1) + 1)), .ref pr, .int to9])), (sg, .inl (cC, 60, .inl (tx))), (pr, .inl (cI, 72, .inl (pa)))] := hD
            refine lv_aload_n hx hb dX1_readNumber_91 rfl (lv_at hl 3 rfl) ?_
            refine lv_iload_n hx hb dX1_readNumber_92 rfl (lv_at hl 4 rfl) ?_
            refine lv_iload_n hx hb dX1_readNumber_93 rfl (lv_at hl 2 rfl) ?_
            refine lv_if_eq (tgt := 103) hx hb dX1_readNumber_94 (by decide) (fun h => False.elim (by revert h; decide)) (fun _ => ?_)
            refine lv_iload hx hb dX1_readNumber_97 (lv_at hl 0 rfl) ?_
            refine lv_ineg hx hb dX1_readNumber_99 ?_
            refine x_eqi (show -(((dgH tx ln (at9 + 1)) * 10) + (dgH tx ln ((at9 + 1) + 1))) = zI (nV tx ln at9) from zI_eq (x_negI (x_addI (x_mulI (dgH_i tx ln (at9 + 1)) (show (10 : Int32).toInt = 10 from by decide) (by omega) (by omega)) (dgH_i tx ln ((at9 + 1) + 1)) (by omega) (by omega)) (by omega)) (by rw [nV_1 hf7_0]; unfold dV; split <;> omega)) ?_
            refine lv_goto (tgt := 105) hx hb dX1_readNumber_100 (by decide) ?_
            refine x_callWv (wc := [(q0, .inr (1, [.ref sg, .int (nI ln), .int (nI (((at9 + 1) + 1) + 1)), .ref pr, .int to9])), (pr, .inl (cI, 72, .inl (pa)))]) (wr := [(sg, .inl (cC, 60, .inl (tx)))]) (va_runV (As := [.int (nI pt), .int (zI (nV tx ln at9))]) (rest := []) ⟨hx, hb, hml, hown, hts⟩ (c_X1_putPart l D cI cC cS tt H.size q0 sg pr pt (nI ln) (nI (((at9 + 1) + 1) + 1)) to9 (zI (nV tx ln at9)) pa (by first | assumption | omega | decide)) (cwV 2 hts gX1_readNumber_X1_putPart rfl rfl rfl (by decide +kernel) ⟨Nat.le_of_ble_eq_true rfl, Nat.le_of_ble_eq_true rfl⟩) ⟨x_blindW, va_recv hK hP (ci := 1) (q0 := 0) rfl rfl, x_preW hP hD hK hE hS hA [0, 2] rfl (by decide)⟩ rfl rfl hl.1 rfl (lv_room (Nat.le_of_ble_eq_true rfl)) dX1_readNumber_105 ⟨(Nat.le_of_ble_eq_true rfl), (Nat.le_of_ble_eq_true rfl)⟩) hP hD hS hA [0, 2] [1] rfl rfl (by decide) (by decide) (fun w1 H locs hw hP hD hS => ?_)
            obtain rfl := hw
            have hP : va_P D vwCl [(q0, .inr (1, [.ref sg, .int (nI ln), .int (nI (((at9 + 1) + 1) + 1)), .ref pr, .int to9])), (pr, .inl (cI, 72, .inl (upd pa pt (zI (nV tx ln at9))))), (sg, .inl (cC, 60, .inl (tx)))] H := hP
            have hD : va_D (Ar) [(q0, .inr (1, [.ref sg, .int (nI ln), .int (nI (((at9 + 1) + 1) + 1)), .ref pr, .int to9])), (pr, .inl (cI, 72, .inl (upd pa pt (zI (nV tx ln at9))))), (sg, .inl (cC, 60, .inl (tx)))] := hD
            refine lv_iconst (v := 1) hx hb dX1_readNumber_108 (by decide) ?_
            refine x_zretW (w := [(q0, .inr (1, [.ref sg, .int (nI ln), .int (nI (((at9 + 1) + 1) + 1)), .ref pr, .int to9])), (sg, .inl (cC, 60, .inl (tx))), (pr, .inl (cI, 72, .inl (upd pa pt (zI (nV tx ln at9)))))]) hQ hAe hx hb hr hlocks (by decide) (hP.sub [0, 2, 1] rfl) (hD.sub [0, 2, 1] (by decide) rfl) hS ?_ dX1_readNumber_109
            refine Or.inl ?_
            first | (exfalso; omega) | (have ok9 : nOk tx ln at9 := (nOk_0 hf7_0).mpr (by omega); exact ⟨rfl, by rw [nE_0 hf7_0]; first | rw [dE_2 (by omega)] | rw [dE_1 (by omega)], ok9, nE_le ok9⟩) | (have ok9 : nOk tx ln at9 := (nOk_1 hf7_0).mpr (by omega); exact ⟨rfl, by rw [nE_1 hf7_0]; first | rw [dE_2 (by omega)] | rw [dE_1 (by omega)], ok9, nE_le ok9⟩)
        · skip
          refine lv_iconst (v := (-1)) hx hb dX1_readNumber_56 (by decide) ?_
          refine lv_goto (tgt := 64) hx hb dX1_readNumber_57 (by decide) ?_
          refine lv_istore (lv' := [(5, .int (-1)), (4, .int (dgH tx ln (at9 + 1))), (3, .int 1), (0, .ref q0), (1, .int (nI pt)), (2, .int 1)]) hx hb dX1_readNumber_64 hl (by decide) rfl (fun ls hl => ?_)
          refine lv_iload hx hb dX1_readNumber_66 (lv_at hl 0 rfl) ?_
          refine lv_if_lt (tgt := 91) hx hb dX1_readNumber_68 (by decide) (fun _ => ?_) (fun h => False.elim (by revert h; decide))
          refine lv_aload_n hx hb dX1_readNumber_91 rfl (lv_at hl 3 rfl) ?_
          refine lv_iload_n hx hb dX1_readNumber_92 rfl (lv_at hl 4 rfl) ?_
          refine lv_iload_n hx hb dX1_readNumber_93 rfl (lv_at hl 2 rfl) ?_
          refine lv_if_eq (tgt := 103) hx hb dX1_readNumber_94 (by decide) (fun h => False.elim (by revert h; decide)) (fun _ => ?_)
          refine lv_iload hx hb dX1_readNumber_97 (lv_at hl 1 rfl) ?_
          refine lv_ineg hx hb dX1_readNumber_99 ?_
          refine x_eqi (show -(dgH tx ln (at9 + 1)) = zI (nV tx ln at9) from zI_eq (x_negI (dgH_i tx ln (at9 + 1)) (by omega)) (by rw [nV_1 hf7_0]; unfold dV; split <;> omega)) ?_
          refine lv_goto (tgt := 105) hx hb dX1_readNumber_100 (by decide) ?_
          refine x_callWv (wc := [(q0, .inr (1, [.ref sg, .int (nI ln), .int (nI ((at9 + 1) + 1)), .ref pr, .int to9])), (pr, .inl (cI, 72, .inl (pa)))]) (wr := [(sg, .inl (cC, 60, .inl (tx)))]) (va_runV (As := [.int (nI pt), .int (zI (nV tx ln at9))]) (rest := []) ⟨hx, hb, hml, hown, hts⟩ (c_X1_putPart l D cI cC cS tt H.size q0 sg pr pt (nI ln) (nI ((at9 + 1) + 1)) to9 (zI (nV tx ln at9)) pa (by first | assumption | omega | decide)) (cwV 2 hts gX1_readNumber_X1_putPart rfl rfl rfl (by decide +kernel) ⟨Nat.le_of_ble_eq_true rfl, Nat.le_of_ble_eq_true rfl⟩) ⟨x_blindW, va_recv hK hP (ci := 1) (q0 := 0) rfl rfl, x_preW hP hD hK hE hS hA [0, 2] rfl (by decide)⟩ rfl rfl hl.1 rfl (lv_room (Nat.le_of_ble_eq_true rfl)) dX1_readNumber_105 ⟨(Nat.le_of_ble_eq_true rfl), (Nat.le_of_ble_eq_true rfl)⟩) hP hD hS hA [0, 2] [1] rfl rfl (by decide) (by decide) (fun w1 H locs hw hP hD hS => ?_)
          obtain rfl := hw
          have hP : va_P D vwCl [(q0, .inr (1, [.ref sg, .int (nI ln), .int (nI ((at9 + 1) + 1)), .ref pr, .int to9])), (pr, .inl (cI, 72, .inl (upd pa pt (zI (nV tx ln at9))))), (sg, .inl (cC, 60, .inl (tx)))] H := hP
          have hD : va_D (Ar) [(q0, .inr (1, [.ref sg, .int (nI ln), .int (nI ((at9 + 1) + 1)), .ref pr, .int to9])), (pr, .inl (cI, 72, .inl (upd pa pt (zI (nV tx ln at9))))), (sg, .inl (cC, 60, .inl (tx)))] := hD
          refine lv_iconst (v := 1) hx hb dX1_readNumber_108 (by decide) ?_
          refine x_zretW (w := [(q0, .inr (1, [.ref sg, .int (nI ln), .int (nI ((at9 + 1) + 1)), .ref pr, .int to9])), (sg, .inl (cC, 60, .inl (tx))), (pr, .inl (cI, 72, .inl (upd pa pt (zI (nV tx ln at9)))))]) hQ hAe hx hb hr hlocks (by decide) (hP.sub [0, 2, 1] rfl) (hD.sub [0, 2, 1] (by decide) rfl) hS ?_ dX1_readNumber_109
          refine Or.inl ?_
          first | (exfalso; omega) | (have ok9 : nOk tx ln at9 := (nOk_0 hf7_0).mpr (by omega); exact ⟨rfl, by rw [nE_0 hf7_0]; first | rw [dE_2 (by omega)] | rw [dE_1 (by omega)], ok9, nE_le ok9⟩) | (have ok9 : nOk tx ln at9 := (nOk_1 hf7_0).mpr (by omega); exact ⟨rfl, by rw [nE_1 hf7_0]; first | rw [dE_2 (by omega)] | rw [dE_1 (by omega)], ok9, nE_le ok9⟩)
      · skip
        refine lv_iconst (v := 0) hx hb dX1_readNumber_39 (by decide) ?_
        refine x_zretW (w := [(q0, .inr (1, [.ref sg, .int (nI ln), .int (nI (at9 + 1)), .ref pr, .int to9])), (sg, .inl (cC, 60, .inl (tx))), (pr, .inl (cI, 72, .inl (pa)))]) hQ hAe hx hb hr hlocks (by decide) (hP.sub [0, 1, 2] rfl) (hD.sub [0, 1, 2] (by decide) rfl) hS ?_ dX1_readNumber_40
        refine Or.inr (?_)
        exact ⟨rfl, by first | rw [nF_0 hf7_0] | rw [nF_1 hf7_0], by first | (rw [nOk_0 hf7_0]; omega) | (rw [nOk_1 hf7_0]; omega)⟩
  · skip
    have hP : va_P D vwCl [(q0, .inr (1, [.ref sg, .int (nI ln), .int (nI at9), .ref pr, .int to9])), (sg, .inl (cC, 60, .inl (tx))), (pr, .inl (cI, 72, .inl (pa)))] H := hP
    have hD : va_D (Ar) [(q0, .inr (1, [.ref sg, .int (nI ln), .int (nI at9), .ref pr, .int to9])), (sg, .inl (cC, 60, .inl (tx))), (pr, .inl (cI, 72, .inl (pa)))] := hD
    refine lv_if_eq (tgt := 17) hx hb dX1_readNumber_10 (by decide) (fun _ => ?_) (fun h => False.elim (by revert h; decide))
    refine lv_iconst (v := 0) hx hb dX1_readNumber_17 (by decide) ?_
    refine lv_istore_n (lv' := [(3, .int 0), (0, .ref q0), (1, .int (nI pt)), (2, .int 1)]) hx hb dX1_readNumber_18 rfl hl (by decide) rfl (fun ls hl => ?_)
    refine lv_aload_n hx hb dX1_readNumber_19 rfl (lv_at hl 1 rfl) ?_
    refine x_callR (va_runV (As := []) (rest := []) ⟨hx, hb, hml, hown, hts⟩ (c_X1_digitHere l D cI cC cS tt q0 sg pr ln at9 to9 tx pa (by first | assumption | omega | decide) (by first | assumption | omega | decide)) (cwV 0 hts gX1_readNumber_X1_digitHere rfl rfl rfl (by decide +kernel) ⟨Nat.le_of_ble_eq_true rfl, Nat.le_of_ble_eq_true rfl⟩) ⟨x_blindR, va_recv hK hP (ci := 1) (q0 := 0) rfl rfl, x_preR (hP.sub (ws' := [(q0, .inr (1, [.ref sg, .int (nI ln), .int (nI at9), .ref pr, .int to9])), (sg, .inl (cC, 60, .inl (tx))), (pr, .inl (cI, 72, .inl (pa)))]) [0, 1, 2] rfl) hK hE hS⟩ rfl rfl hl.1 rfl (lv_room (Nat.le_of_ble_eq_true rfl)) dX1_readNumber_20 ⟨(Nat.le_of_ble_eq_true rfl), (Nat.le_of_ble_eq_true rfl)⟩) ?_
    refine lv_istore (lv' := [(4, .int (dgH tx ln at9)), (3, .int 0), (0, .ref q0), (1, .int (nI pt)), (2, .int 1)]) hx hb dX1_readNumber_23 hl (by decide) rfl (fun ls hl => ?_)
    refine lv_iload hx hb dX1_readNumber_25 (lv_at hl 0 rfl) ?_
    refine x_if_lt (tgt := 39) hx hb dX1_readNumber_27 (by decide) (X := dgZ tx ln at9) (dgH_i tx ln at9) (fun c_27 => ?_) (fun c_27 => ?_)
    · skip
      refine lv_iconst (v := 0) hx hb dX1_readNumber_39 (by decide) ?_
      refine x_zretW (w := [(q0, .inr (1, [.ref sg, .int (nI ln), .int (nI at9), .ref pr, .int to9])), (sg, .inl (cC, 60, .inl (tx))), (pr, .inl (cI, 72, .inl (pa)))]) hQ hAe hx hb hr hlocks (by decide) (hP.sub [0, 1, 2] rfl) (hD.sub [0, 1, 2] (by decide) rfl) hS ?_ dX1_readNumber_40
      refine Or.inr (?_)
      exact ⟨rfl, by first | rw [nF_0 hf7_0] | rw [nF_1 hf7_0], by first | (rw [nOk_0 hf7_0]; omega) | (rw [nOk_1 hf7_0]; omega)⟩
    · skip
      refine lv_iload_n hx hb dX1_readNumber_30 rfl (lv_at hl 1 rfl) ?_
      refine lv_if_eq (tgt := 41) hx hb dX1_readNumber_31 (by decide) (fun _ => ?_) (fun h => False.elim (by revert h; decide))
      refine lv_aload_n hx hb dX1_readNumber_41 rfl (lv_at hl 2 rfl) ?_
      refine lv_dup hx hb dX1_readNumber_42 rfl ?_
      refine va_get (v := .int (nI at9)) (D := D) (ci := 1) (C := RX1) (T := TX1) (N := 5) hx hb hts (by decide +kernel) hown hK hP 0 rfl rfl 2 (by decide) (hts (.fieldLink RX1 19 "SpiralFrames$Orders" "at" "I") (by decide +kernel)) (fun _ h9 => h9) rfl dX1_readNumber_43 ?_
      refine lv_iconst (v := 1) hx hb dX1_readNumber_46 (by decide) ?_
      refine lv_iadd hx hb dX1_readNumber_47 ?_
      refine x_eqi (show nI at9 + 1 = nI (at9 + 1) from nI_add at9 1) ?_
      refine va_put (v := .int (nI (at9 + 1))) (ty := .int) (D := D) (ci := 1) (C := RX1) (T := TX1) (N := 5) hx hb hts (by decide +kernel) tyX1 tyX1_ok nmX1 hown hK hP hD hS 0 rfl rfl 2 (by decide) (hts (.fieldLink RX1 19 "SpiralFrames$Orders" "at" "I") (by decide +kernel)) (fun _ h9 => h9) rfl (by decide +kernel) rfl rfl (Nat.le_of_ble_eq_true rfl) dX1_readNumber_48 (fun H locs hP hD hS => ?_)
      have hP : va_P D vwCl [(q0, .inr (1, [.ref sg, .int (nI ln), .int (nI (at9 + 1)), .ref pr, .int to9])), (sg, .inl (cC, 60, .inl (tx))), (pr, .inl (cI, 72, .inl (pa)))] H := hP
      have hD : va_D (Ar) [(q0, .inr (1, [.ref sg, .int (nI ln), .int (nI (at9 + 1)), .ref pr, .int to9])), (sg, .inl (cC, 60, .inl (tx))), (pr, .inl (cI, 72, .inl (pa)))] := hD
      refine lv_iload hx hb dX1_readNumber_51 (lv_at hl 0 rfl) ?_
      refine x_if_ne (tgt := 60) hx hb dX1_readNumber_53 (by decide) (X := dgZ tx ln at9) (dgH_i tx ln at9) (fun c_53 => ?_) (fun c_53 => ?_)
      · skip
        refine lv_aload_n hx hb dX1_readNumber_60 rfl (lv_at hl 2 rfl) ?_
        refine x_callR (va_runV (As := []) (rest := []) ⟨hx, hb, hml, hown, hts⟩ (c_X1_digitHere l D cI cC cS tt q0 sg pr ln (at9 + 1) to9 tx pa (by first | assumption | omega | decide) (by first | assumption | omega | decide)) (cwV 0 hts gX1_readNumber_X1_digitHere rfl rfl rfl (by decide +kernel) ⟨Nat.le_of_ble_eq_true rfl, Nat.le_of_ble_eq_true rfl⟩) ⟨x_blindR, va_recv hK hP (ci := 1) (q0 := 0) rfl rfl, x_preR (hP.sub (ws' := [(q0, .inr (1, [.ref sg, .int (nI ln), .int (nI ((at9 + 1))), .ref pr, .int to9])), (sg, .inl (cC, 60, .inl (tx))), (pr, .inl (cI, 72, .inl (pa)))]) [0, 1, 2] rfl) hK hE hS⟩ rfl rfl hl.1 rfl (lv_room (Nat.le_of_ble_eq_true rfl)) dX1_readNumber_61 ⟨(Nat.le_of_ble_eq_true rfl), (Nat.le_of_ble_eq_true rfl)⟩) ?_
        refine lv_istore (lv' := [(5, .int (dgH tx ln (at9 + 1))), (4, .int (dgH tx ln at9)), (3, .int 0), (0, .ref q0), (1, .int (nI pt)), (2, .int 1)]) hx hb dX1_readNumber_64 hl (by decide) rfl (fun ls hl => ?_)
        refine lv_iload hx hb dX1_readNumber_66 (lv_at hl 0 rfl) ?_
        refine x_if_lt (tgt := 91) hx hb dX1_readNumber_68 (by decide) (X := dgZ tx ln (at9 + 1)) (dgH_i tx ln (at9 + 1)) (fun c_68 => ?_) (fun c_68 => ?_)
        · skip
          refine lv_aload_n hx hb dX1_readNumber_91 rfl (lv_at hl 3 rfl) ?_
          refine lv_iload_n hx hb dX1_readNumber_92 rfl (lv_at hl 4 rfl) ?_
          refine lv_iload_n hx hb dX1_readNumber_93 rfl (lv_at hl 2 rfl) ?_
          refine lv_if_eq (tgt := 103) hx hb dX1_readNumber_94 (by decide) (fun _ => ?_) (fun h => False.elim (by revert h; decide))
          refine lv_iload hx hb dX1_readNumber_103 (lv_at hl 1 rfl) ?_
          refine x_eqi (show dgH tx ln at9 = zI (nV tx ln at9) from zI_eq (dgH_i tx ln at9) (by rw [nV_0 hf7_0]; unfold dV; split <;> omega)) ?_
          refine x_callWv (wc := [(q0, .inr (1, [.ref sg, .int (nI ln), .int (nI (at9 + 1)), .ref pr, .int to9])), (pr, .inl (cI, 72, .inl (pa)))]) (wr := [(sg, .inl (cC, 60, .inl (tx)))]) (va_runV (As := [.int (nI pt), .int (zI (nV tx ln at9))]) (rest := []) ⟨hx, hb, hml, hown, hts⟩ (c_X1_putPart l D cI cC cS tt H.size q0 sg pr pt (nI ln) (nI (at9 + 1)) to9 (zI (nV tx ln at9)) pa (by first | assumption | omega | decide)) (cwV 2 hts gX1_readNumber_X1_putPart rfl rfl rfl (by decide +kernel) ⟨Nat.le_of_ble_eq_true rfl, Nat.le_of_ble_eq_true rfl⟩) ⟨x_blindW, va_recv hK hP (ci := 1) (q0 := 0) rfl rfl, x_preW hP hD hK hE hS hA [0, 2] rfl (by decide)⟩ rfl rfl hl.1 rfl (lv_room (Nat.le_of_ble_eq_true rfl)) dX1_readNumber_105 ⟨(Nat.le_of_ble_eq_true rfl), (Nat.le_of_ble_eq_true rfl)⟩) hP hD hS hA [0, 2] [1] rfl rfl (by decide) (by decide) (fun w1 H locs hw hP hD hS => ?_)
          obtain rfl := hw
          have hP : va_P D vwCl [(q0, .inr (1, [.ref sg, .int (nI ln), .int (nI (at9 + 1)), .ref pr, .int to9])), (pr, .inl (cI, 72, .inl (upd pa pt (zI (nV tx ln at9))))), (sg, .inl (cC, 60, .inl (tx)))] H := hP
          have hD : va_D (Ar) [(q0, .inr (1, [.ref sg, .int (nI ln), .int (nI (at9 + 1)), .ref pr, .int to9])), (pr, .inl (cI, 72, .inl (upd pa pt (zI (nV tx ln at9))))), (sg, .inl (cC, 60, .inl (tx)))] := hD
          refine lv_iconst (v := 1) hx hb dX1_readNumber_108 (by decide) ?_
          refine x_zretW (w := [(q0, .inr (1, [.ref sg, .int (nI ln), .int (nI (at9 + 1)), .ref pr, .int to9])), (sg, .inl (cC, 60, .inl (tx))), (pr, .inl (cI, 72, .inl (upd pa pt (zI (nV tx ln at9)))))]) hQ hAe hx hb hr hlocks (by decide) (hP.sub [0, 2, 1] rfl) (hD.sub [0, 2, 1] (by decide) rfl) hS ?_ dX1_readNumber_109
          refine Or.inl ?_
          first | (exfalso; omega) | (have ok9 : nOk tx ln at9 := (nOk_0 hf7_0).mpr (by omega); exact ⟨rfl, by rw [nE_0 hf7_0]; first | rw [dE_2 (by omega)] | rw [dE_1 (by omega)], ok9, nE_le ok9⟩) | (have ok9 : nOk tx ln at9 := (nOk_1 hf7_0).mpr (by omega); exact ⟨rfl, by rw [nE_1 hf7_0]; first | rw [dE_2 (by omega)] | rw [dE_1 (by omega)], ok9, nE_le ok9⟩)
        · skip
          refine lv_iload hx hb dX1_readNumber_71 (lv_at hl 1 rfl) ?_
          refine lv_bipush (v := 10) hx hb dX1_readNumber_73 (by decide) ?_
          refine lv_imul hx hb dX1_readNumber_75 ?_
          refine lv_iload hx hb dX1_readNumber_76 (lv_at hl 0 rfl) ?_
          refine lv_iadd hx hb dX1_readNumber_78 ?_
          refine lv_istore (lv' := [(4, .int (((dgH tx ln at9) * 10) + (dgH tx ln (at9 + 1)))), (5, .int (dgH tx ln (at9 + 1))), (3, .int 0), (0, .ref q0), (1, .int (nI pt)), (2, .int 1)]) hx hb dX1_readNumber_79 hl (by decide) rfl (fun ls hl => ?_)
          refine lv_aload_n hx hb dX1_readNumber_81 rfl (lv_at hl 3 rfl) ?_
          refine lv_dup hx hb dX1_readNumber_82 rfl ?_
          refine va_get (v := .int (nI (at9 + 1))) (D := D) (ci := 1) (C := RX1) (T := TX1) (N := 5) hx hb hts (by decide +kernel) hown hK hP 0 rfl rfl 2 (by decide) (hts (.fieldLink RX1 19 "SpiralFrames$Orders" "at" "I") (by decide +kernel)) (fun _ h9 => h9) rfl dX1_readNumber_83 ?_
          refine lv_iconst (v := 1) hx hb dX1_readNumber_86 (by decide) ?_
          refine lv_iadd hx hb dX1_readNumber_87 ?_
          refine x_eqi (show nI (at9 + 1) + 1 = nI ((at9 + 1) + 1) from nI_add (at9 + 1) 1) ?_
          refine va_put (v := .int (nI ((at9 + 1) + 1))) (ty := .int) (D := D) (ci := 1) (C := RX1) (T := TX1) (N := 5) hx hb hts (by decide +kernel) tyX1 tyX1_ok nmX1 hown hK hP hD hS 0 rfl rfl 2 (by decide) (hts (.fieldLink RX1 19 "SpiralFrames$Orders" "at" "I") (by decide +kernel)) (fun _ h9 => h9) rfl (by decide +kernel) rfl rfl (Nat.le_of_ble_eq_true rfl) dX1_readNumber_88 (fun H locs hP hD hS => ?_)
          have hP : va_P D vwCl [(q0, .inr (1, [.ref sg, .int (nI ln), .int (nI ((at9 + 1) + 1)), .ref pr, .int to9])), (sg, .inl (cC, 60, .inl (tx))), (pr, .inl (cI, 72, .inl (pa)))] H := hP
          have hD : va_D (Ar) [(q0, .inr (1, [.ref sg, .int (nI ln), .int (nI ((at9 + 1) + 1)), .ref pr, .int to9])), (sg, .inl (cC, 60, .inl (tx))), (pr, .inl (cI, 72, .inl (pa)))] := hD
          refine lv_aload_n hx hb dX1_readNumber_91 rfl (lv_at hl 3 rfl) ?_
          refine lv_iload_n hx hb dX1_readNumber_92 rfl (lv_at hl 4 rfl) ?_
          refine lv_iload_n hx hb dX1_readNumber_93 rfl (lv_at hl 2 rfl) ?_
          refine lv_if_eq (tgt := 103) hx hb dX1_readNumber_94 (by decide) (fun _ => ?_) (fun h => False.elim (by revert h; decide))
          refine lv_iload hx hb dX1_readNumber_103 (lv_at hl 0 rfl) ?_
          refine x_eqi (show ((dgH tx ln at9) * 10) + (dgH tx ln (at9 + 1)) = zI (nV tx ln at9) from zI_eq (x_addI (x_mulI (dgH_i tx ln at9) (show (10 : Int32).toInt = 10 from by decide) (by omega) (by omega)) (dgH_i tx ln (at9 + 1)) (by omega) (by omega)) (by rw [nV_0 hf7_0]; unfold dV; split <;> omega)) ?_
          refine x_callWv (wc := [(q0, .inr (1, [.ref sg, .int (nI ln), .int (nI ((at9 + 1) + 1)), .ref pr, .int to9])), (pr, .inl (cI, 72, .inl (pa)))]) (wr := [(sg, .inl (cC, 60, .inl (tx)))]) (va_runV (As := [.int (nI pt), .int (zI (nV tx ln at9))]) (rest := []) ⟨hx, hb, hml, hown, hts⟩ (c_X1_putPart l D cI cC cS tt H.size q0 sg pr pt (nI ln) (nI ((at9 + 1) + 1)) to9 (zI (nV tx ln at9)) pa (by first | assumption | omega | decide)) (cwV 2 hts gX1_readNumber_X1_putPart rfl rfl rfl (by decide +kernel) ⟨Nat.le_of_ble_eq_true rfl, Nat.le_of_ble_eq_true rfl⟩) ⟨x_blindW, va_recv hK hP (ci := 1) (q0 := 0) rfl rfl, x_preW hP hD hK hE hS hA [0, 2] rfl (by decide)⟩ rfl rfl hl.1 rfl (lv_room (Nat.le_of_ble_eq_true rfl)) dX1_readNumber_105 ⟨(Nat.le_of_ble_eq_true rfl), (Nat.le_of_ble_eq_true rfl)⟩) hP hD hS hA [0, 2] [1] rfl rfl (by decide) (by decide) (fun w1 H locs hw hP hD hS => ?_)
          obtain rfl := hw
          have hP : va_P D vwCl [(q0, .inr (1, [.ref sg, .int (nI ln), .int (nI ((at9 + 1) + 1)), .ref pr, .int to9])), (pr, .inl (cI, 72, .inl (upd pa pt (zI (nV tx ln at9))))), (sg, .inl (cC, 60, .inl (tx)))] H := hP
          have hD : va_D (Ar) [(q0, .inr (1, [.ref sg, .int (nI ln), .int (nI ((at9 + 1) + 1)), .ref pr, .int to9])), (pr, .inl (cI, 72, .inl (upd pa pt (zI (nV tx ln at9))))), (sg, .inl (cC, 60, .inl (tx)))] := hD
          refine lv_iconst (v := 1) hx hb dX1_readNumber_108 (by decide) ?_
          refine x_zretW (w := [(q0, .inr (1, [.ref sg, .int (nI ln), .int (nI ((at9 + 1) + 1)), .ref pr, .int to9])), (sg, .inl (cC, 60, .inl (tx))), (pr, .inl (cI, 72, .inl (upd pa pt (zI (nV tx ln at9)))))]) hQ hAe hx hb hr hlocks (by decide) (hP.sub [0, 2, 1] rfl) (hD.sub [0, 2, 1] (by decide) rfl) hS ?_ dX1_readNumber_109
          refine Or.inl ?_
          first | (exfalso; omega) | (have ok9 : nOk tx ln at9 := (nOk_0 hf7_0).mpr (by omega); exact ⟨rfl, by rw [nE_0 hf7_0]; first | rw [dE_2 (by omega)] | rw [dE_1 (by omega)], ok9, nE_le ok9⟩) | (have ok9 : nOk tx ln at9 := (nOk_1 hf7_0).mpr (by omega); exact ⟨rfl, by rw [nE_1 hf7_0]; first | rw [dE_2 (by omega)] | rw [dE_1 (by omega)], ok9, nE_le ok9⟩)
      · skip
        refine lv_iconst (v := (-1)) hx hb dX1_readNumber_56 (by decide) ?_
        refine lv_goto (tgt := 64) hx hb dX1_readNumber_57 (by decide) ?_
        refine lv_istore (lv' := [(5, .int (-1)), (4, .int (dgH tx ln at9)), (3, .int 0), (0, .ref q0), (1, .int (nI pt)), (2, .int 1)]) hx hb dX1_readNumber_64 hl (by decide) rfl (fun ls hl => ?_)
        refine lv_iload hx hb dX1_readNumber_66 (lv_at hl 0 rfl) ?_
        refine lv_if_lt (tgt := 91) hx hb dX1_readNumber_68 (by decide) (fun _ => ?_) (fun h => False.elim (by revert h; decide))
        refine lv_aload_n hx hb dX1_readNumber_91 rfl (lv_at hl 3 rfl) ?_
        refine lv_iload_n hx hb dX1_readNumber_92 rfl (lv_at hl 4 rfl) ?_
        refine lv_iload_n hx hb dX1_readNumber_93 rfl (lv_at hl 2 rfl) ?_
        refine lv_if_eq (tgt := 103) hx hb dX1_readNumber_94 (by decide) (fun _ => ?_) (fun h => False.elim (by revert h; decide))
        refine lv_iload hx hb dX1_readNumber_103 (lv_at hl 1 rfl) ?_
        refine x_eqi (show dgH tx ln at9 = zI (nV tx ln at9) from zI_eq (dgH_i tx ln at9) (by rw [nV_0 hf7_0]; unfold dV; split <;> omega)) ?_
        refine x_callWv (wc := [(q0, .inr (1, [.ref sg, .int (nI ln), .int (nI (at9 + 1)), .ref pr, .int to9])), (pr, .inl (cI, 72, .inl (pa)))]) (wr := [(sg, .inl (cC, 60, .inl (tx)))]) (va_runV (As := [.int (nI pt), .int (zI (nV tx ln at9))]) (rest := []) ⟨hx, hb, hml, hown, hts⟩ (c_X1_putPart l D cI cC cS tt H.size q0 sg pr pt (nI ln) (nI (at9 + 1)) to9 (zI (nV tx ln at9)) pa (by first | assumption | omega | decide)) (cwV 2 hts gX1_readNumber_X1_putPart rfl rfl rfl (by decide +kernel) ⟨Nat.le_of_ble_eq_true rfl, Nat.le_of_ble_eq_true rfl⟩) ⟨x_blindW, va_recv hK hP (ci := 1) (q0 := 0) rfl rfl, x_preW hP hD hK hE hS hA [0, 2] rfl (by decide)⟩ rfl rfl hl.1 rfl (lv_room (Nat.le_of_ble_eq_true rfl)) dX1_readNumber_105 ⟨(Nat.le_of_ble_eq_true rfl), (Nat.le_of_ble_eq_true rfl)⟩) hP hD hS hA [0, 2] [1] rfl rfl (by decide) (by decide) (fun w1 H locs hw hP hD hS => ?_)
        obtain rfl := hw
        have hP : va_P D vwCl [(q0, .inr (1, [.ref sg, .int (nI ln), .int (nI (at9 + 1)), .ref pr, .int to9])), (pr, .inl (cI, 72, .inl (upd pa pt (zI (nV tx ln at9))))), (sg, .inl (cC, 60, .inl (tx)))] H := hP
        have hD : va_D (Ar) [(q0, .inr (1, [.ref sg, .int (nI ln), .int (nI (at9 + 1)), .ref pr, .int to9])), (pr, .inl (cI, 72, .inl (upd pa pt (zI (nV tx ln at9))))), (sg, .inl (cC, 60, .inl (tx)))] := hD
        refine lv_iconst (v := 1) hx hb dX1_readNumber_108 (by decide) ?_
        refine x_zretW (w := [(q0, .inr (1, [.ref sg, .int (nI ln), .int (nI (at9 + 1)), .ref pr, .int to9])), (sg, .inl (cC, 60, .inl (tx))), (pr, .inl (cI, 72, .inl (upd pa pt (zI (nV tx ln at9)))))]) hQ hAe hx hb hr hlocks (by decide) (hP.sub [0, 2, 1] rfl) (hD.sub [0, 2, 1] (by decide) rfl) hS ?_ dX1_readNumber_109
        refine Or.inl ?_
        first | (exfalso; omega) | (have ok9 : nOk tx ln at9 := (nOk_0 hf7_0).mpr (by omega); exact ⟨rfl, by rw [nE_0 hf7_0]; first | rw [dE_2 (by omega)] | rw [dE_1 (by omega)], ok9, nE_le ok9⟩) | (have ok9 : nOk tx ln at9 := (nOk_1 hf7_0).mpr (by omega); exact ⟨rfl, by rw [nE_1 hf7_0]; first | rw [dE_2 (by omega)] | rw [dE_1 (by omega)], ok9, nE_le ok9⟩)
