theorem x_sr_toI (j : Nat) : (zI (x_sr j)).toInt = x_sr j := by
  have h : -2 ≤ x_sr j ∧ x_sr j ≤ 2 := by
    by_cases hj : j < 25
    · exact x_sr_b j hj
    · have : x_sr j = 0 := by unfold x_sr; rw [List.getD_eq_getElem?_getD, List.getElem?_eq_none (show x_srL.length ≤ j from Nat.le_of_not_lt hj)]; rfl
      omega
  exact zI_toInt (by omega) (by omega)
theorem x_sd_toI (j : Nat) : (zI (x_sd j)).toInt = x_sd j := by
  have h : -2 ≤ x_sd j ∧ x_sd j ≤ 2 := by
    by_cases hj : j < 25
    · exact x_sd_b j hj
    · have : x_sd j = 0 := by unfold x_sd; rw [List.getD_eq_getElem?_getD, List.getElem?_eq_none (show x_sdL.length ≤ j from Nat.le_of_not_lt hj)]; rfl
      omega
  exact zI_toInt (by omega) (by omega)
theorem x_minN {n k : Nat} (hn : n < 2147483648) (hk : k < 2147483648) : (if nI n < nI k then nI n else nI k) = nI (min n k) := by
  by_cases h : n < k
  · rw [if_pos ((nI_ltI (by omega) (by omega)).mpr h), Nat.min_eq_left (by omega)]
  · rw [if_neg (fun q => h ((nI_ltI (by omega) (by omega)).mp q)), Nat.min_eq_right (by omega)]
abbrev wIn (t p : Nat) : Prop := 0 ≤ ((t % 3 * 4 : Nat) : Int) + x_sr p ∧ ((t % 3 * 4 : Nat) : Int) + x_sr p < 9 ∧ 0 ≤ ((t / 3 * 4 : Nat) : Int) + x_sd p ∧ ((t / 3 * 4 : Nat) : Int) + x_sd p < 9
def kdN (k : Nat) : Nat := if k = 0 then 0 else if k = 25 then 2 else 1
def btN (k : Nat) : Nat := if k = 0 then 1 else if k ≤ 2 then 3 else if k ≤ 8 then 5 else if k = 25 then 66 else 7
def bxE (X Y W Hh V : Int) : Int32 := if 0 ≤ X ∧ X < 12 ∧ 0 ≤ Y ∧ Y < 12 then (if 1 ≤ W ∧ W ≤ 12 ∧ 1 ≤ Hh ∧ Hh ≤ 12 ∧ 0 ≤ V ∧ V ≤ 15 then 0 else -2) else -1
def stE (C R : Int) : Int32 := if -11 ≤ C ∧ C ≤ 11 ∧ -11 ≤ R ∧ R ≤ 11 then 0 else -2
def uP (f g : Nat → Int32) : Int32 := sm (fun k => if f k = g k then 0 else 1) 144
/-- a box that is filled, as far as row y, column x -/
def bxF (lv : Nat → Int32) (cx ex cy : Nat) (v : Int32) (y x : Nat) : Nat → Int32 := fun k => if k < 144 ∧ cx ≤ k % 12 ∧ k % 12 < ex ∧ cy ≤ k / 12 ∧ (k / 12 < y ∨ (k / 12 = y ∧ k % 12 < x)) then v else lv k
def bxR (lv : Nat → Int32) (cx ex : Nat) (v : Int32) (y : Nat) : Int32 := sm (fun i => if lv (y * 12 + (cx + i)) = v then 0 else 1) (ex - cx)
def bxC (lv : Nat → Int32) (cx ex cy ey : Nat) (v : Int32) : Int32 := sm (fun j => bxR lv cx ex v (cy + j)) (ey - cy)
theorem gtZ_in {f : Nat → Int32} {x y : Nat} (hx : x < 12) (hy : y < 12) : gtZ f ((x : Nat) : Int) ((y : Nat) : Int) = f (y * 12 + x) := by
  unfold gtZ
  rw [if_pos (by omega)]
  exact congrArg f (by omega)
theorem ptZ_in {f : Nat → Int32} {x y : Nat} {v : Int32} (hx : x < 12) (hy : y < 12) : ptZ f ((x : Nat) : Int) ((y : Nat) : Int) v = upd f (y * 12 + x) v := by
  unfold ptZ
  rw [if_pos (by omega)]
  exact congrArg (fun z => upd f z v) (by omega)
theorem bxF_at {lv : Nat → Int32} {cx ex cy : Nat} {v : Int32} {y x : Nat} (hx : x < 12) : bxF lv cx ex cy v y x (y * 12 + x) = lv (y * 12 + x) := by
  unfold bxF
  rw [if_neg (by omega)]
theorem bxF_put {lv : Nat → Int32} {cx ex cy : Nat} {v : Int32} {y x : Nat} (hx : x < 12) (hy : y < 12) (h1 : cx ≤ x) (h2 : x < ex) (h3 : cy ≤ y) : ptZ (bxF lv cx ex cy v y x) ((x : Nat) : Int) ((y : Nat) : Int) v = bxF lv cx ex cy v y (x + 1) := by
  rw [ptZ_in hx hy]
  funext k
  unfold upd bxF
  by_cases hk : k = y * 12 + x
  · rw [if_pos hk, if_pos (by omega)]
  · rw [if_neg hk]
    by_cases hc : k < 144 ∧ cx ≤ k % 12 ∧ k % 12 < ex ∧ cy ≤ k / 12 ∧ (k / 12 < y ∨ (k / 12 = y ∧ k % 12 < x))
    · rw [if_pos hc, if_pos (by omega)]
    · rw [if_neg hc, if_neg (by omega)]
theorem bxF_in {lv : Nat → Int32} {cx ex cy : Nat} {v : Int32} {y : Nat} : bxF lv cx ex cy v y 0 = bxF lv cx ex cy v y cx := by
  funext k
  unfold bxF
  by_cases hc : k < 144 ∧ cx ≤ k % 12 ∧ k % 12 < ex ∧ cy ≤ k / 12 ∧ (k / 12 < y ∨ (k / 12 = y ∧ k % 12 < 0))
  · rw [if_pos hc, if_pos (by omega)]
  · rw [if_neg hc, if_neg (by omega)]
theorem bxF_out {lv : Nat → Int32} {cx ex cy : Nat} {v : Int32} {y x : Nat} (h : ex ≤ x) : bxF lv cx ex cy v y x = bxF lv cx ex cy v (y + 1) 0 := by
  funext k
  unfold bxF
  by_cases hc : k < 144 ∧ cx ≤ k % 12 ∧ k % 12 < ex ∧ cy ≤ k / 12 ∧ (k / 12 < y ∨ (k / 12 = y ∧ k % 12 < x))
  · rw [if_pos hc]
    by_cases h2 : cy ≤ y
    · rw [if_pos (by omega)]
    · omega
  · rw [if_neg hc]
    by_cases h2 : cy ≤ y
    · rw [if_neg (by omega)]
    · rw [if_neg (by omega)]
theorem bxF_0 {lv : Nat → Int32} {cx ex cy : Nat} {v : Int32} : lv = bxF lv cx ex cy v cy 0 := by
  funext k
  unfold bxF
  rw [if_neg (by omega)]
/-- the box of ex, ey -/
def bxN (lv : Nat → Int32) (cx ex cy ey : Nat) (v : Int32) : Nat → Int32 := bxF lv cx ex cy v ey 0
/-- a drawing moved, as far as row y, column x -/
def mvF (lv : Nat → Int32) (C R : Int) (y x : Nat) : Nat → Int32 := fun k => if k < 144 ∧ (k / 12 < y ∨ (k / 12 = y ∧ k % 12 < x)) then gtZ lv (((k % 12 : Nat) : Int) - C) (((k / 12 : Nat) : Int) - R) else lv k
def mvN (lv : Nat → Int32) (C R : Int) : Nat → Int32 := fun k => if k < 144 then gtZ lv (((k % 12 : Nat) : Int) - C) (((k / 12 : Nat) : Int) - R) else lv k
theorem mvF_put {lv : Nat → Int32} {C R : Int} {y x : Nat} (hx : x < 12) (hy : y < 12) : ptZ (mvF lv C R y x) ((x : Nat) : Int) ((y : Nat) : Int) (gtZ lv (((x : Nat) : Int) - C) (((y : Nat) : Int) - R)) = mvF lv C R y (x + 1) := by
  rw [ptZ_in hx hy]
  funext k
  unfold upd mvF
  by_cases hk : k = y * 12 + x
  · have e1 : k % 12 = x := by omega
    have e2 : k / 12 = y := by omega
    rw [if_pos hk, if_pos (by omega), e1, e2]
  · rw [if_neg hk]
    by_cases hc : k < 144 ∧ (k / 12 < y ∨ (k / 12 = y ∧ k % 12 < x))
    · rw [if_pos hc, if_pos (by omega)]
    · rw [if_neg hc, if_neg (by omega)]
theorem mvF_out {lv : Nat → Int32} {C R : Int} {y x : Nat} (h : 12 ≤ x) : mvF lv C R y x = mvF lv C R (y + 1) 0 := by
  funext k
  unfold mvF
  by_cases hc : k < 144 ∧ (k / 12 < y ∨ (k / 12 = y ∧ k % 12 < x))
  · rw [if_pos hc, if_pos (by omega)]
  · rw [if_neg hc, if_neg (by omega)]
theorem mvF_0 {lv : Nat → Int32} {C R : Int} : lv = mvF lv C R 0 0 := by
  funext k
  unfold mvF
  rw [if_neg (by omega)]
theorem mvF_end {lv : Nat → Int32} {C R : Int} {y : Nat} (h : 12 ≤ y) : mvF lv C R y 0 = mvN lv C R := by
  funext k
  unfold mvF mvN
  by_cases hc : k < 144
  · rw [if_pos hc, if_pos (by omega)]
  · rw [if_neg hc, if_neg (by omega)]
/-- a tile that is taken from a source by a place, as far as row y, column x of it -/
def tkF (f src : Nat → Int32) (t p : Nat) (j i : Nat) : Nat → Int32 := fun k => if k < 144 ∧ t % 3 * 4 ≤ k % 12 ∧ k % 12 < t % 3 * 4 + 4 ∧ t / 3 * 4 ≤ k / 12 ∧ k / 12 < t / 3 * 4 + 4 ∧ (k / 12 < j ∨ (k / 12 = j ∧ k % 12 < i)) then gtZ src (((k % 12 : Nat) : Int) + x_sr p) (((k / 12 : Nat) : Int) + x_sd p) else f k
def tkN (f src : Nat → Int32) (t p : Nat) : Nat → Int32 := fun k => if k < 144 ∧ t % 3 * 4 ≤ k % 12 ∧ k % 12 < t % 3 * 4 + 4 ∧ t / 3 * 4 ≤ k / 12 ∧ k / 12 < t / 3 * 4 + 4 then gtZ src (((k % 12 : Nat) : Int) + x_sr p) (((k / 12 : Nat) : Int) + x_sd p) else f k
theorem tkF_put {f src : Nat → Int32} {t p : Nat} {y x : Nat} (ht : t < 9) (h1 : t % 3 * 4 ≤ x) (h2 : x < t % 3 * 4 + 4) (h3 : t / 3 * 4 ≤ y) (h4 : y < t / 3 * 4 + 4) : ptZ (tkF f src t p y x) ((x : Nat) : Int) ((y : Nat) : Int) (gtZ src (((x : Nat) : Int) + x_sr p) (((y : Nat) : Int) + x_sd p)) = tkF f src t p y (x + 1) := by
  rw [ptZ_in (by omega) (by omega)]
  funext k
  unfold upd tkF
  by_cases hk : k = y * 12 + x
  · have e1 : k % 12 = x := by omega
    have e2 : k / 12 = y := by omega
    rw [if_pos hk, if_pos (by omega), e1, e2]
  · rw [if_neg hk]
    by_cases hc : k < 144 ∧ t % 3 * 4 ≤ k % 12 ∧ k % 12 < t % 3 * 4 + 4 ∧ t / 3 * 4 ≤ k / 12 ∧ k / 12 < t / 3 * 4 + 4 ∧ (k / 12 < y ∨ (k / 12 = y ∧ k % 12 < x))
    · rw [if_pos hc, if_pos (by omega)]
    · rw [if_neg hc, if_neg (by omega)]
theorem tkF_in {f src : Nat → Int32} {t p : Nat} {y : Nat} : tkF f src t p y 0 = tkF f src t p y (t % 3 * 4) := by
  funext k
  unfold tkF
  by_cases hc : k < 144 ∧ t % 3 * 4 ≤ k % 12 ∧ k % 12 < t % 3 * 4 + 4 ∧ t / 3 * 4 ≤ k / 12 ∧ k / 12 < t / 3 * 4 + 4 ∧ (k / 12 < y ∨ (k / 12 = y ∧ k % 12 < 0))
  · rw [if_pos hc, if_pos (by omega)]
  · rw [if_neg hc, if_neg (by omega)]
theorem tkF_out {f src : Nat → Int32} {t p : Nat} {y x : Nat} (h : t % 3 * 4 + 4 ≤ x) : tkF f src t p y x = tkF f src t p (y + 1) 0 := by
  funext k
  unfold tkF
  by_cases hc : k < 144 ∧ t % 3 * 4 ≤ k % 12 ∧ k % 12 < t % 3 * 4 + 4 ∧ t / 3 * 4 ≤ k / 12 ∧ k / 12 < t / 3 * 4 + 4 ∧ (k / 12 < y ∨ (k / 12 = y ∧ k % 12 < x))
  · rw [if_pos hc, if_pos (by omega)]
  · rw [if_neg hc, if_neg (by omega)]
theorem tkF_0 {f src : Nat → Int32} {t p : Nat} : f = tkF f src t p (t / 3 * 4) 0 := by
  funext k
  unfold tkF
  rw [if_neg (by omega)]
theorem tkF_end {f src : Nat → Int32} {t p : Nat} {y : Nat} (h : t / 3 * 4 + 4 ≤ y) : tkF f src t p y 0 = tkN f src t p := by
  funext k
  unfold tkF tkN
  by_cases hc : k < 144 ∧ t % 3 * 4 ≤ k % 12 ∧ k % 12 < t % 3 * 4 + 4 ∧ t / 3 * 4 ≤ k / 12 ∧ k / 12 < t / 3 * 4 + 4
  · rw [if_pos hc, if_pos (by omega)]
  · rw [if_neg hc, if_neg (by omega)]
def absI (x : Int32) : Int32 := if 0 ≤ x then x else 0 - x
/-- the difference of a tile and the 16 points by a place: its terms, its rows -/
def tdT (lv lo : Nat → Int32) (p x y : Nat) : Int32 := absI (lv (y * 12 + x) - gtZ lo (((x : Nat) : Int) + x_sr p) (((y : Nat) : Int) + x_sd p))
def tdR (lv lo : Nat → Int32) (t p y : Nat) : Int32 := sm (fun i => tdT lv lo p (t % 3 * 4 + i) y) 4
def tdS (lv lo : Nat → Int32) (t p : Nat) : Int32 := sm (fun j => tdR lv lo t p (t / 3 * 4 + j)) 4
def wdS (lv lo : Nat → Int32) : Int32 := sm (fun t => tdS lv lo t 0) 9
def utS (lv lo : Nat → Int32) : Int32 := sm (fun t => if tdS lv lo t 0 = 0 then 0 else 1) 9
theorem x_toI0 {x : Int32} (h : x.toInt = 0) : x = 0 := Int32.toInt_inj.mp (by rw [h]; rfl)
set_option maxHeartbeats 4000000 in
set_option maxRecDepth 100000 in
theorem c_X4_stepRight (l : Launch) (D : va_G) (cI cC cS : ClassId) (tt : Nat → Nat) (P : Nat) (hh0 : P < 25) : Met l yX4_stepRight wsX4_stepRight ({ frames := 1, cells := 0, slots := 0, locals := 22 } : Room) (x_PR D cI cC cS tt [] [.int (nI P)]) (QcRead (zI (x_sr P))) 0 0 (fun _ => False) := by
  refine Met.ofW (cc := cX4_stepRight) (maxL := 1) (ret := (some .int)) (by decide) rfl ?_
  intro p e s m args below meth c s₁ hBd hml hv
  obtain ⟨rfl, hP, hK, hE⟩ := hv
  have hx := hBd.exec
  have hb := hBd.bytes
  have hr := hBd.returns
  have hts := atoms_spec (ws := wsX4_stepRight) hBd.pre
  have hown : s.vm.findClass RX4 = some m.cls := findClass_of_methodNamed hBd.named
  have hlocks := hBd.notSynchronized
  have hS : va_S (fun _ => False) s.heap s.heap [] := va_S.rf
  have hl := lv_entry ([.int (nI P)]) (n := 1) (Nat.le_of_ble_eq_true rfl)
  rw [lg_entry_eq]
  generalize (lg_sl ([.int (nI P)]) ++ List.replicate (1 - (lg_sl ([.int (nI P)])).length) Slot.unset).toArray = ls at hl ⊢
  have hl : lv_has ls 1 [(0, .int (nI P))] := hl
  refine x_genQ (fun Q hQ => ?_)
  refine lv_iload_n hx hb dX4_stepRight_0 rfl (lv_at hl 0 rfl) ?_
  refine lv_iconst (v := 0) hx hb dX4_stepRight_1 (by decide) ?_
  refine lv_bipush (v := 24) hx hb dX4_stepRight_2 (by decide) ?_
  refine x_callR (va_runS (As := [.int (nI P), .int 0, .int 24]) (rest := []) ⟨hx, hb, hml, hown, hts⟩ (c_X4_isBetween l D cI cC cS tt (nI P) ((P : Nat) : Int) (nI_toI (by omega)) 0 0 (by decide) 24 24 (by decide)) (va_cwS 3 hts gX4_stepRight_X4_isBetween rfl rfl rfl (by decide +kernel) ⟨Nat.le_of_ble_eq_true rfl, Nat.le_of_ble_eq_true rfl⟩) ⟨x_blindR, x_preR (hP.sub (ws' := []) [] rfl) hK hE hS⟩ rfl rfl hl.1 rfl (lv_room (Nat.le_of_ble_eq_true rfl)) dX4_stepRight_4 ⟨(Nat.le_of_ble_eq_true rfl), (Nat.le_of_ble_eq_true rfl)⟩) ?_
  refine x_ifB_eq (tgt := 18) hx hb dX4_stepRight_7 (by decide) (fun c_7 => ?_) (fun c_7 => ?_)
  · exfalso; omega
  refine va_gets (C := "SpiralFrames") (n := "STEPS_RIGHT") (d := "[I") (ref := "SpiralFrames") (v := .ref (tt 0)) hx hb hE.2.2.1.1 hS hown (hts (.fieldLink RX4 160 "SpiralFrames" "STEPS_RIGHT" "[I") (by decide +kernel)) (fun _ h9 => h9) dX4_stepRight_10 ?_
  refine lv_iload_n hx hb dX4_stepRight_13 rfl (lv_at hl 0 rfl) ?_
  refine x_tld (f := x_sr) hx hb hE.2.2.1.2 hS (k := P) (by omega) (by decide) dX4_stepRight_14 ?_
  refine lv_goto (tgt := 19) hx hb dX4_stepRight_15 (by decide) ?_
  exact x_iretR hQ hx hb hr hlocks rfl dX4_stepRight_19
set_option maxHeartbeats 4000000 in
set_option maxRecDepth 100000 in
theorem c_X4_stepDown (l : Launch) (D : va_G) (cI cC cS : ClassId) (tt : Nat → Nat) (P : Nat) (hh0 : P < 25) : Met l yX4_stepDown wsX4_stepDown ({ frames := 1, cells := 0, slots := 0, locals := 22 } : Room) (x_PR D cI cC cS tt [] [.int (nI P)]) (QcRead (zI (x_sd P))) 0 0 (fun _ => False) := by
  refine Met.ofW (cc := cX4_stepDown) (maxL := 1) (ret := (some .int)) (by decide) rfl ?_
  intro p e s m args below meth c s₁ hBd hml hv
  obtain ⟨rfl, hP, hK, hE⟩ := hv
  have hx := hBd.exec
  have hb := hBd.bytes
  have hr := hBd.returns
  have hts := atoms_spec (ws := wsX4_stepDown) hBd.pre
  have hown : s.vm.findClass RX4 = some m.cls := findClass_of_methodNamed hBd.named
  have hlocks := hBd.notSynchronized
  have hS : va_S (fun _ => False) s.heap s.heap [] := va_S.rf
  have hl := lv_entry ([.int (nI P)]) (n := 1) (Nat.le_of_ble_eq_true rfl)
  rw [lg_entry_eq]
  generalize (lg_sl ([.int (nI P)]) ++ List.replicate (1 - (lg_sl ([.int (nI P)])).length) Slot.unset).toArray = ls at hl ⊢
  have hl : lv_has ls 1 [(0, .int (nI P))] := hl
  refine x_genQ (fun Q hQ => ?_)
  refine lv_iload_n hx hb dX4_stepDown_0 rfl (lv_at hl 0 rfl) ?_
  refine lv_iconst (v := 0) hx hb dX4_stepDown_1 (by decide) ?_
  refine lv_bipush (v := 24) hx hb dX4_stepDown_2 (by decide) ?_
  refine x_callR (va_runS (As := [.int (nI P), .int 0, .int 24]) (rest := []) ⟨hx, hb, hml, hown, hts⟩ (c_X4_isBetween l D cI cC cS tt (nI P) ((P : Nat) : Int) (nI_toI (by omega)) 0 0 (by decide) 24 24 (by decide)) (va_cwS 3 hts gX4_stepDown_X4_isBetween rfl rfl rfl (by decide +kernel) ⟨Nat.le_of_ble_eq_true rfl, Nat.le_of_ble_eq_true rfl⟩) ⟨x_blindR, x_preR (hP.sub (ws' := []) [] rfl) hK hE hS⟩ rfl rfl hl.1 rfl (lv_room (Nat.le_of_ble_eq_true rfl)) dX4_stepDown_4 ⟨(Nat.le_of_ble_eq_true rfl), (Nat.le_of_ble_eq_true rfl)⟩) ?_
  refine x_ifB_eq (tgt := 18) hx hb dX4_stepDown_7 (by decide) (fun c_7 => ?_) (fun c_7 => ?_)
  · exfalso; omega
  refine va_gets (C := "SpiralFrames") (n := "STEPS_DOWN") (d := "[I") (ref := "SpiralFrames") (v := .ref (tt 1)) hx hb hE.2.2.2.1.1 hS hown (hts (.fieldLink RX4 163 "SpiralFrames" "STEPS_DOWN" "[I") (by decide +kernel)) (fun _ h9 => h9) dX4_stepDown_10 ?_
  refine lv_iload_n hx hb dX4_stepDown_13 rfl (lv_at hl 0 rfl) ?_
  refine x_tld (f := x_sd) hx hb hE.2.2.2.1.2 hS (k := P) (by omega) (by decide) dX4_stepDown_14 ?_
  refine lv_goto (tgt := 19) hx hb dX4_stepDown_15 (by decide) ?_
  exact x_iretR hQ hx hb hr hlocks rfl dX4_stepDown_19
set_option maxHeartbeats 4000000 in
set_option maxRecDepth 100000 in
theorem c_X4_isWithin (l : Launch) (D : va_G) (cI cC cS : ClassId) (tt : Nat → Nat) (T : Nat) (P : Nat) (hh0 : T < 9) (hh1 : P < 25) : Met l yX4_isWithin wsX4_isWithin ({ frames := 2, cells := 0, slots := 0, locals := 42 } : Room) (x_PR D cI cC cS tt [] [.int (nI T), .int (nI P)]) (QcRead (bI (decide (wIn T P)))) 0 0 (fun _ => False) := by
  refine Met.ofW (cc := cX4_isWithin) (maxL := 4) (ret := (some .boolean)) (by decide) rfl ?_
  intro p e s m args below meth c s₁ hBd hml hv
  obtain ⟨rfl, hP, hK, hE⟩ := hv
  have hx := hBd.exec
  have hb := hBd.bytes
  have hr := hBd.returns
  have hts := atoms_spec (ws := wsX4_isWithin) hBd.pre
  have hown : s.vm.findClass RX4 = some m.cls := findClass_of_methodNamed hBd.named
  have hlocks := hBd.notSynchronized
  have hS : va_S (fun _ => False) s.heap s.heap [] := va_S.rf
  have hl := lv_entry ([.int (nI T), .int (nI P)]) (n := 4) (Nat.le_of_ble_eq_true rfl)
  rw [lg_entry_eq]
  generalize (lg_sl ([.int (nI T), .int (nI P)]) ++ List.replicate (4 - (lg_sl ([.int (nI T), .int (nI P)])).length) Slot.unset).toArray = ls at hl ⊢
  have hl : lv_has ls 4 [(0, .int (nI T)), (1, .int (nI P))] := hl
  refine x_genQ (fun Q hQ => ?_)
  have bsr := x_sr_b P hh1
  have bsd := x_sd_b P hh1
  refine lv_iload_n hx hb dX4_isWithin_0 rfl (lv_at hl 0 rfl) ?_
  refine x_callR (va_runS (As := [.int (nI T)]) (rest := []) ⟨hx, hb, hml, hown, hts⟩ (c_X4_tileColumn l D cI cC cS tt T (by first | assumption | omega | decide)) (va_cwS 1 hts gX4_isWithin_X4_tileColumn rfl rfl rfl (by decide +kernel) ⟨Nat.le_of_ble_eq_true rfl, Nat.le_of_ble_eq_true rfl⟩) ⟨x_blindR, x_preR (hP.sub (ws' := []) [] rfl) hK hE hS⟩ rfl rfl hl.1 rfl (lv_room (Nat.le_of_ble_eq_true rfl)) dX4_isWithin_1 ⟨(Nat.le_of_ble_eq_true rfl), (Nat.le_of_ble_eq_true rfl)⟩) ?_
  refine lv_iload_n hx hb dX4_isWithin_4 rfl (lv_at hl 1 rfl) ?_
  refine x_callR (va_runS (As := [.int (nI P)]) (rest := [.int (nI (T % 3 * 4))]) ⟨hx, hb, hml, hown, hts⟩ (c_X4_stepRight l D cI cC cS tt P (by first | assumption | omega | decide)) (va_cwS 1 hts gX4_isWithin_X4_stepRight rfl rfl rfl (by decide +kernel) ⟨Nat.le_of_ble_eq_true rfl, Nat.le_of_ble_eq_true rfl⟩) ⟨x_blindR, x_preR (hP.sub (ws' := []) [] rfl) hK hE hS⟩ rfl rfl hl.1 rfl (lv_room (Nat.le_of_ble_eq_true rfl)) dX4_isWithin_5 ⟨(Nat.le_of_ble_eq_true rfl), (Nat.le_of_ble_eq_true rfl)⟩) ?_
  refine lv_iadd hx hb dX4_isWithin_8 ?_
  refine lv_istore_n (lv' := [(2, .int ((nI (T % 3 * 4)) + (zI (x_sr P)))), (0, .int (nI T)), (1, .int (nI P))]) hx hb dX4_isWithin_9 rfl hl (by decide) rfl (fun ls hl => ?_)
  refine lv_iload_n hx hb dX4_isWithin_10 rfl (lv_at hl 1 rfl) ?_
  refine x_callR (va_runS (As := [.int (nI T)]) (rest := []) ⟨hx, hb, hml, hown, hts⟩ (c_X4_tileRow l D cI cC cS tt T (by first | assumption | omega | decide)) (va_cwS 1 hts gX4_isWithin_X4_tileRow rfl rfl rfl (by decide +kernel) ⟨Nat.le_of_ble_eq_true rfl, Nat.le_of_ble_eq_true rfl⟩) ⟨x_blindR, x_preR (hP.sub (ws' := []) [] rfl) hK hE hS⟩ rfl rfl hl.1 rfl (lv_room (Nat.le_of_ble_eq_true rfl)) dX4_isWithin_11 ⟨(Nat.le_of_ble_eq_true rfl), (Nat.le_of_ble_eq_true rfl)⟩) ?_
  refine lv_iload_n hx hb dX4_isWithin_14 rfl (lv_at hl 2 rfl) ?_
  refine x_callR (va_runS (As := [.int (nI P)]) (rest := [.int (nI (T / 3 * 4))]) ⟨hx, hb, hml, hown, hts⟩ (c_X4_stepDown l D cI cC cS tt P (by first | assumption | omega | decide)) (va_cwS 1 hts gX4_isWithin_X4_stepDown rfl rfl rfl (by decide +kernel) ⟨Nat.le_of_ble_eq_true rfl, Nat.le_of_ble_eq_true rfl⟩) ⟨x_blindR, x_preR (hP.sub (ws' := []) [] rfl) hK hE hS⟩ rfl rfl hl.1 rfl (lv_room (Nat.le_of_ble_eq_true rfl)) dX4_isWithin_15 ⟨(Nat.le_of_ble_eq_true rfl), (Nat.le_of_ble_eq_true rfl)⟩) ?_
  refine lv_iadd hx hb dX4_isWithin_18 ?_
  refine lv_istore_n (lv' := [(3, .int ((nI (T / 3 * 4)) + (zI (x_sd P)))), (2, .int ((nI (T % 3 * 4)) + (zI (x_sr P)))), (0, .int (nI T)), (1, .int (nI P))]) hx hb dX4_isWithin_19 rfl hl (by decide) rfl (fun ls hl => ?_)
  refine lv_iload_n hx hb dX4_isWithin_20 rfl (lv_at hl 1 rfl) ?_
  refine lv_iload_n hx hb dX4_isWithin_21 rfl (lv_at hl 0 rfl) ?_
  refine x_callR (va_runS (As := [.int ((nI (T % 3 * 4)) + (zI (x_sr P))), .int ((nI (T / 3 * 4)) + (zI (x_sd P)))]) (rest := []) ⟨hx, hb, hml, hown, hts⟩ (c_X4_isPoint l D cI cC cS tt ((nI (T % 3 * 4)) + (zI (x_sr P))) (((T % 3 * 4 : Nat) : Int) + x_sr P) (x_addI (nI_toI (by omega)) (x_sr_toI P) (by omega) (by omega)) ((nI (T / 3 * 4)) + (zI (x_sd P))) (((T / 3 * 4 : Nat) : Int) + x_sd P) (x_addI (nI_toI (by omega)) (x_sd_toI P) (by omega) (by omega))) (va_cwS 2 hts gX4_isWithin_X4_isPoint rfl rfl rfl (by decide +kernel) ⟨Nat.le_of_ble_eq_true rfl, Nat.le_of_ble_eq_true rfl⟩) ⟨x_blindR, x_preR (hP.sub (ws' := []) [] rfl) hK hE hS⟩ rfl rfl hl.1 rfl (lv_room (Nat.le_of_ble_eq_true rfl)) dX4_isWithin_22 ⟨(Nat.le_of_ble_eq_true rfl), (Nat.le_of_ble_eq_true rfl)⟩) ?_
  refine x_ifB_eq (tgt := 48) hx hb dX4_isWithin_25 (by decide) (fun c_25 => ?_) (fun c_25 => ?_)
  · skip
    refine lv_iconst (v := 0) hx hb dX4_isWithin_48 (by decide) ?_
    exact x_zretR hQ hx hb hr hlocks (by decide) (bI_f (by unfold wIn; omega)) dX4_isWithin_49
  · skip
    refine lv_iload_n hx hb dX4_isWithin_28 rfl (lv_at hl 1 rfl) ?_
    refine lv_iconst (v := 4) hx hb dX4_isWithin_29 (by decide) ?_
    refine lv_iadd hx hb dX4_isWithin_30 ?_
    refine lv_iconst (v := 1) hx hb dX4_isWithin_31 (by decide) ?_
    refine lv_isub hx hb dX4_isWithin_32 ?_
    refine lv_iload_n hx hb dX4_isWithin_33 rfl (lv_at hl 0 rfl) ?_
    refine lv_iconst (v := 4) hx hb dX4_isWithin_34 (by decide) ?_
    refine lv_iadd hx hb dX4_isWithin_35 ?_
    refine lv_iconst (v := 1) hx hb dX4_isWithin_36 (by decide) ?_
    refine lv_isub hx hb dX4_isWithin_37 ?_
    refine x_callR (va_runS (As := [.int ((((nI (T % 3 * 4)) + (zI (x_sr P))) + 4) - 1), .int ((((nI (T / 3 * 4)) + (zI (x_sd P))) + 4) - 1)]) (rest := []) ⟨hx, hb, hml, hown, hts⟩ (c_X4_isPoint l D cI cC cS tt ((((nI (T % 3 * 4)) + (zI (x_sr P))) + 4) - 1) (((((T % 3 * 4 : Nat) : Int) + x_sr P) + 4) - 1) (x_subI (x_addI (x_addI (nI_toI (by omega)) (x_sr_toI P) (by omega) (by omega)) (by decide) (by omega) (by omega)) (by decide) (by omega) (by omega)) ((((nI (T / 3 * 4)) + (zI (x_sd P))) + 4) - 1) (((((T / 3 * 4 : Nat) : Int) + x_sd P) + 4) - 1) (x_subI (x_addI (x_addI (nI_toI (by omega)) (x_sd_toI P) (by omega) (by omega)) (by decide) (by omega) (by omega)) (by decide) (by omega) (by omega))) (va_cwS 2 hts gX4_isWithin_X4_isPoint rfl rfl rfl (by decide +kernel) ⟨Nat.le_of_ble_eq_true rfl, Nat.le_of_ble_eq_true rfl⟩) ⟨x_blindR, x_preR (hP.sub (ws' := []) [] rfl) hK hE hS⟩ rfl rfl hl.1 rfl (lv_room (Nat.le_of_ble_eq_true rfl)) dX4_isWithin_38 ⟨(Nat.le_of_ble_eq_true rfl), (Nat.le_of_ble_eq_true rfl)⟩) ?_
    refine x_ifB_eq (tgt := 48) hx hb dX4_isWithin_41 (by decide) (fun c_41 => ?_) (fun c_41 => ?_)
    · skip
      refine lv_iconst (v := 0) hx hb dX4_isWithin_48 (by decide) ?_
      exact x_zretR hQ hx hb hr hlocks (by decide) (bI_f (by unfold wIn; omega)) dX4_isWithin_49
    · skip
      refine lv_iconst (v := 1) hx hb dX4_isWithin_44 (by decide) ?_
      refine lv_goto (tgt := 49) hx hb dX4_isWithin_45 (by decide) ?_
      exact x_zretR hQ hx hb hr hlocks (by decide) (bI_t (by unfold wIn; omega)) dX4_isWithin_49
set_option maxHeartbeats 4000000 in
set_option maxRecDepth 100000 in
theorem c_X4_kindOf (l : Launch) (D : va_G) (cI cC cS : ClassId) (tt : Nat → Nat) (K : Nat) (hh0 : K ≤ 25) : Met l yX4_kindOf wsX4_kindOf ({ frames := 0, cells := 0, slots := 0, locals := 0 } : Room) (x_PR D cI cC cS tt [] [.int (nI K)]) (QcRead (nI (kdN K))) 0 0 (fun _ => False) := by
  refine Met.ofW (cc := cX4_kindOf) (maxL := 1) (ret := (some .int)) (by decide) rfl ?_
  intro p e s m args below meth c s₁ hBd hml hv
  obtain ⟨rfl, hP, hK, hE⟩ := hv
  have hx := hBd.exec
  have hb := hBd.bytes
  have hr := hBd.returns
  have hts := atoms_spec (ws := wsX4_kindOf) hBd.pre
  have hown : s.vm.findClass RX4 = some m.cls := findClass_of_methodNamed hBd.named
  have hlocks := hBd.notSynchronized
  have hS : va_S (fun _ => False) s.heap s.heap [] := va_S.rf
  have hl := lv_entry ([.int (nI K)]) (n := 1) (Nat.le_of_ble_eq_true rfl)
  rw [lg_entry_eq]
  generalize (lg_sl ([.int (nI K)]) ++ List.replicate (1 - (lg_sl ([.int (nI K)])).length) Slot.unset).toArray = ls at hl ⊢
  have hl : lv_has ls 1 [(0, .int (nI K))] := hl
  refine x_genQ (fun Q hQ => ?_)
  refine lv_iload_n hx hb dX4_kindOf_0 rfl (lv_at hl 0 rfl) ?_
  refine x_if_ne (tgt := 6) hx hb dX4_kindOf_1 (by decide) (X := ((K : Nat) : Int)) (nI_toI (by omega)) (fun c_1 => ?_) (fun c_1 => ?_)
  · skip
    refine lv_iload_n hx hb dX4_kindOf_6 rfl (lv_at hl 0 rfl) ?_
    refine lv_bipush (v := 25) hx hb dX4_kindOf_7 (by decide) ?_
    refine x_icmp_ne (tgt := 16) hx hb dX4_kindOf_9 (by decide) (X := ((K : Nat) : Int)) (nI_toI (by omega)) (Y := 25) (by decide) (fun c_9 => ?_) (fun c_9 => ?_)
    · skip
      refine lv_iconst (v := 1) hx hb dX4_kindOf_16 (by decide) ?_
      exact x_iretR hQ hx hb hr hlocks (by first | (rw [show kdN K = 2 from by unfold kdN; rw [if_neg (by omega), if_pos (by omega)]]; rfl) | (rw [show kdN K = 1 from by unfold kdN; rw [if_neg (by omega), if_neg (by omega)]]; rfl)) dX4_kindOf_17
    · skip
      refine lv_iconst (v := 2) hx hb dX4_kindOf_12 (by decide) ?_
      refine lv_goto (tgt := 17) hx hb dX4_kindOf_13 (by decide) ?_
      exact x_iretR hQ hx hb hr hlocks (by first | (rw [show kdN K = 2 from by unfold kdN; rw [if_neg (by omega), if_pos (by omega)]]; rfl) | (rw [show kdN K = 1 from by unfold kdN; rw [if_neg (by omega), if_neg (by omega)]]; rfl)) dX4_kindOf_17
  · skip
    refine lv_iconst (v := 0) hx hb dX4_kindOf_4 (by decide) ?_
    exact x_iretR hQ hx hb hr hlocks (by rw [show kdN K = 0 from by unfold kdN; rw [if_pos (by omega)]]; rfl) dX4_kindOf_5
set_option maxHeartbeats 4000000 in
set_option maxRecDepth 100000 in
theorem c_X4_bitsOf (l : Launch) (D : va_G) (cI cC cS : ClassId) (tt : Nat → Nat) (K : Nat) (hh0 : K ≤ 25) : Met l yX4_bitsOf wsX4_bitsOf ({ frames := 0, cells := 0, slots := 0, locals := 0 } : Room) (x_PR D cI cC cS tt [] [.int (nI K)]) (QcRead (nI (btN K))) 0 0 (fun _ => False) := by
  refine Met.ofW (cc := cX4_bitsOf) (maxL := 1) (ret := (some .int)) (by decide) rfl ?_
  intro p e s m args below meth c s₁ hBd hml hv
  obtain ⟨rfl, hP, hK, hE⟩ := hv
  have hx := hBd.exec
  have hb := hBd.bytes
  have hr := hBd.returns
  have hts := atoms_spec (ws := wsX4_bitsOf) hBd.pre
  have hown : s.vm.findClass RX4 = some m.cls := findClass_of_methodNamed hBd.named
  have hlocks := hBd.notSynchronized
  have hS : va_S (fun _ => False) s.heap s.heap [] := va_S.rf
  have hl := lv_entry ([.int (nI K)]) (n := 1) (Nat.le_of_ble_eq_true rfl)
  rw [lg_entry_eq]
  generalize (lg_sl ([.int (nI K)]) ++ List.replicate (1 - (lg_sl ([.int (nI K)])).length) Slot.unset).toArray = ls at hl ⊢
  have hl : lv_has ls 1 [(0, .int (nI K))] := hl
  refine x_genQ (fun Q hQ => ?_)
  refine lv_iload_n hx hb dX4_bitsOf_0 rfl (lv_at hl 0 rfl) ?_
  refine x_if_ne (tgt := 6) hx hb dX4_bitsOf_1 (by decide) (X := ((K : Nat) : Int)) (nI_toI (by omega)) (fun c_1 => ?_) (fun c_1 => ?_)
  · skip
    refine lv_iload_n hx hb dX4_bitsOf_6 rfl (lv_at hl 0 rfl) ?_
    refine lv_iconst (v := 2) hx hb dX4_bitsOf_7 (by decide) ?_
    refine x_icmp_gt (tgt := 13) hx hb dX4_bitsOf_8 (by decide) (X := ((K : Nat) : Int)) (nI_toI (by omega)) (Y := 2) (by decide) (fun c_8 => ?_) (fun c_8 => ?_)
    · skip
      refine lv_iload_n hx hb dX4_bitsOf_13 rfl (lv_at hl 0 rfl) ?_
      refine lv_bipush (v := 8) hx hb dX4_bitsOf_14 (by decide) ?_
      refine x_icmp_gt (tgt := 21) hx hb dX4_bitsOf_16 (by decide) (X := ((K : Nat) : Int)) (nI_toI (by omega)) (Y := 8) (by decide) (fun c_16 => ?_) (fun c_16 => ?_)
      · skip
        refine lv_iload_n hx hb dX4_bitsOf_21 rfl (lv_at hl 0 rfl) ?_
        refine lv_bipush (v := 25) hx hb dX4_bitsOf_22 (by decide) ?_
        refine x_icmp_ne (tgt := 32) hx hb dX4_bitsOf_24 (by decide) (X := ((K : Nat) : Int)) (nI_toI (by omega)) (Y := 25) (by decide) (fun c_24 => ?_) (fun c_24 => ?_)
        · skip
          refine lv_bipush (v := 7) hx hb dX4_bitsOf_32 (by decide) ?_
          exact x_iretR hQ hx hb hr hlocks (by first | (rw [show btN K = 1 from by unfold btN; rw [if_pos (by omega)]]; rfl) | (rw [show btN K = 3 from by unfold btN; rw [if_neg (by omega), if_pos (by omega)]]; rfl) | (rw [show btN K = 5 from by unfold btN; rw [if_neg (by omega), if_neg (by omega), if_pos (by omega)]]; rfl) | (rw [show btN K = 66 from by unfold btN; rw [if_neg (by omega), if_neg (by omega), if_neg (by omega), if_pos (by omega)]]; rfl) | (rw [show btN K = 7 from by unfold btN; rw [if_neg (by omega), if_neg (by omega), if_neg (by omega), if_neg (by omega)]]; rfl)) dX4_bitsOf_34
        · skip
          refine lv_bipush (v := 66) hx hb dX4_bitsOf_27 (by decide) ?_
          refine lv_goto (tgt := 34) hx hb dX4_bitsOf_29 (by decide) ?_
          exact x_iretR hQ hx hb hr hlocks (by first | (rw [show btN K = 1 from by unfold btN; rw [if_pos (by omega)]]; rfl) | (rw [show btN K = 3 from by unfold btN; rw [if_neg (by omega), if_pos (by omega)]]; rfl) | (rw [show btN K = 5 from by unfold btN; rw [if_neg (by omega), if_neg (by omega), if_pos (by omega)]]; rfl) | (rw [show btN K = 66 from by unfold btN; rw [if_neg (by omega), if_neg (by omega), if_neg (by omega), if_pos (by omega)]]; rfl) | (rw [show btN K = 7 from by unfold btN; rw [if_neg (by omega), if_neg (by omega), if_neg (by omega), if_neg (by omega)]]; rfl)) dX4_bitsOf_34
      · skip
        refine lv_iconst (v := 5) hx hb dX4_bitsOf_19 (by decide) ?_
        exact x_iretR hQ hx hb hr hlocks (by first | (rw [show btN K = 1 from by unfold btN; rw [if_pos (by omega)]]; rfl) | (rw [show btN K = 3 from by unfold btN; rw [if_neg (by omega), if_pos (by omega)]]; rfl) | (rw [show btN K = 5 from by unfold btN; rw [if_neg (by omega), if_neg (by omega), if_pos (by omega)]]; rfl) | (rw [show btN K = 66 from by unfold btN; rw [if_neg (by omega), if_neg (by omega), if_neg (by omega), if_pos (by omega)]]; rfl) | (rw [show btN K = 7 from by unfold btN; rw [if_neg (by omega), if_neg (by omega), if_neg (by omega), if_neg (by omega)]]; rfl)) dX4_bitsOf_20
    · skip
      refine lv_iconst (v := 3) hx hb dX4_bitsOf_11 (by decide) ?_
      exact x_iretR hQ hx hb hr hlocks (by first | (rw [show btN K = 1 from by unfold btN; rw [if_pos (by omega)]]; rfl) | (rw [show btN K = 3 from by unfold btN; rw [if_neg (by omega), if_pos (by omega)]]; rfl) | (rw [show btN K = 5 from by unfold btN; rw [if_neg (by omega), if_neg (by omega), if_pos (by omega)]]; rfl) | (rw [show btN K = 66 from by unfold btN; rw [if_neg (by omega), if_neg (by omega), if_neg (by omega), if_pos (by omega)]]; rfl) | (rw [show btN K = 7 from by unfold btN; rw [if_neg (by omega), if_neg (by omega), if_neg (by omega), if_neg (by omega)]]; rfl)) dX4_bitsOf_12
  · skip
    refine lv_iconst (v := 1) hx hb dX4_bitsOf_4 (by decide) ?_
    exact x_iretR hQ hx hb hr hlocks (by first | (rw [show btN K = 1 from by unfold btN; rw [if_pos (by omega)]]; rfl) | (rw [show btN K = 3 from by unfold btN; rw [if_neg (by omega), if_pos (by omega)]]; rfl) | (rw [show btN K = 5 from by unfold btN; rw [if_neg (by omega), if_neg (by omega), if_pos (by omega)]]; rfl) | (rw [show btN K = 66 from by unfold btN; rw [if_neg (by omega), if_neg (by omega), if_neg (by omega), if_pos (by omega)]]; rfl) | (rw [show btN K = 7 from by unfold btN; rw [if_neg (by omega), if_neg (by omega), if_neg (by omega), if_neg (by omega)]]; rfl)) dX4_bitsOf_5
set_option maxHeartbeats 4000000 in
set_option maxRecDepth 100000 in
theorem c_X4_boxError (l : Launch) (D : va_G) (cI cC cS : ClassId) (tt : Nat → Nat) (x : Int32) (X : Int) (hX_ : x.toInt = X) (y : Int32) (Y : Int) (hY_ : y.toInt = Y) (wd : Int32) (Wd : Int) (hWd_ : wd.toInt = Wd) (hg : Int32) (Hg : Int) (hHg_ : hg.toInt = Hg) (v : Int32) (Vv : Int) (hVv_ : v.toInt = Vv) : Met l yX4_boxError wsX4_boxError ({ frames := 1, cells := 0, slots := 0, locals := 22 } : Room) (x_PR D cI cC cS tt [] [.int x, .int y, .int wd, .int hg, .int v]) (QcRead (bxE X Y Wd Hg Vv)) 0 0 (fun _ => False) := by
  refine Met.ofW (cc := cX4_boxError) (maxL := 6) (ret := (some .int)) (by decide) rfl ?_
  intro p e s m args below meth c s₁ hBd hml hv
  obtain ⟨rfl, hP, hK, hE⟩ := hv
  have hx := hBd.exec
  have hb := hBd.bytes
  have hr := hBd.returns
  have hts := atoms_spec (ws := wsX4_boxError) hBd.pre
  have hown : s.vm.findClass RX4 = some m.cls := findClass_of_methodNamed hBd.named
  have hlocks := hBd.notSynchronized
  have hS : va_S (fun _ => False) s.heap s.heap [] := va_S.rf
  have hl := lv_entry ([.int x, .int y, .int wd, .int hg, .int v]) (n := 6) (Nat.le_of_ble_eq_true rfl)
  rw [lg_entry_eq]
  generalize (lg_sl ([.int x, .int y, .int wd, .int hg, .int v]) ++ List.replicate (6 - (lg_sl ([.int x, .int y, .int wd, .int hg, .int v])).length) Slot.unset).toArray = ls at hl ⊢
  have hl : lv_has ls 6 [(0, .int x), (1, .int y), (2, .int wd), (3, .int hg), (4, .int v)] := hl
  refine x_genQ (fun Q hQ => ?_)
  refine lv_iload_n hx hb dX4_boxError_0 rfl (lv_at hl 0 rfl) ?_
  refine lv_iload_n hx hb dX4_boxError_1 rfl (lv_at hl 1 rfl) ?_
  refine x_callR (va_runS (As := [.int x, .int y]) (rest := []) ⟨hx, hb, hml, hown, hts⟩ (c_X4_isPoint l D cI cC cS tt x X hX_ y Y hY_) (va_cwS 2 hts gX4_boxError_X4_isPoint rfl rfl rfl (by decide +kernel) ⟨Nat.le_of_ble_eq_true rfl, Nat.le_of_ble_eq_true rfl⟩) ⟨x_blindR, x_preR (hP.sub (ws' := []) [] rfl) hK hE hS⟩ rfl rfl hl.1 rfl (lv_room (Nat.le_of_ble_eq_true rfl)) dX4_boxError_2 ⟨(Nat.le_of_ble_eq_true rfl), (Nat.le_of_ble_eq_true rfl)⟩) ?_
  refine x_ifB_ne (tgt := 10) hx hb dX4_boxError_5 (by decide) (fun c_5 => ?_) (fun c_5 => ?_)
  · skip
    refine lv_iload_n hx hb dX4_boxError_10 rfl (lv_at hl 2 rfl) ?_
    refine lv_iconst (v := 1) hx hb dX4_boxError_11 (by decide) ?_
    refine lv_bipush (v := 12) hx hb dX4_boxError_12 (by decide) ?_
    refine x_callR (va_runS (As := [.int wd, .int 1, .int 12]) (rest := []) ⟨hx, hb, hml, hown, hts⟩ (c_X4_isBetween l D cI cC cS tt wd Wd hWd_ 1 1 (by decide) 12 12 (by decide)) (va_cwS 3 hts gX4_boxError_X4_isBetween rfl rfl rfl (by decide +kernel) ⟨Nat.le_of_ble_eq_true rfl, Nat.le_of_ble_eq_true rfl⟩) ⟨x_blindR, x_preR (hP.sub (ws' := []) [] rfl) hK hE hS⟩ rfl rfl hl.1 rfl (lv_room (Nat.le_of_ble_eq_true rfl)) dX4_boxError_14 ⟨(Nat.le_of_ble_eq_true rfl), (Nat.le_of_ble_eq_true rfl)⟩) ?_
    refine x_ifB_eq (tgt := 45) hx hb dX4_boxError_17 (by decide) (fun c_17 => ?_) (fun c_17 => ?_)
    · skip
      refine lv_iconst (v := 0) hx hb dX4_boxError_45 (by decide) ?_
      refine lv_istore (lv' := [(5, .int 0), (0, .int x), (1, .int y), (2, .int wd), (3, .int hg), (4, .int v)]) hx hb dX4_boxError_46 hl (by decide) rfl (fun ls hl => ?_)
      refine lv_iload hx hb dX4_boxError_48 (lv_at hl 0 rfl) ?_
      refine lv_if_eq (tgt := 57) hx hb dX4_boxError_50 (by decide) (fun _ => ?_) (fun h => absurd (by decide) h)
      refine lv_bipush (v := (-2)) hx hb dX4_boxError_57 (by decide) ?_
      exact x_iretR hQ hx hb hr hlocks (by unfold bxE; first | (rw [if_neg (by omega)]) | (rw [if_pos (by omega), if_pos (by omega)]) | (rw [if_pos (by omega), if_neg (by omega)])) dX4_boxError_59
    · skip
      refine lv_iload_n hx hb dX4_boxError_20 rfl (lv_at hl 3 rfl) ?_
      refine lv_iconst (v := 1) hx hb dX4_boxError_21 (by decide) ?_
      refine lv_bipush (v := 12) hx hb dX4_boxError_22 (by decide) ?_
      refine x_callR (va_runS (As := [.int hg, .int 1, .int 12]) (rest := []) ⟨hx, hb, hml, hown, hts⟩ (c_X4_isBetween l D cI cC cS tt hg Hg hHg_ 1 1 (by decide) 12 12 (by decide)) (va_cwS 3 hts gX4_boxError_X4_isBetween rfl rfl rfl (by decide +kernel) ⟨Nat.le_of_ble_eq_true rfl, Nat.le_of_ble_eq_true rfl⟩) ⟨x_blindR, x_preR (hP.sub (ws' := []) [] rfl) hK hE hS⟩ rfl rfl hl.1 rfl (lv_room (Nat.le_of_ble_eq_true rfl)) dX4_boxError_24 ⟨(Nat.le_of_ble_eq_true rfl), (Nat.le_of_ble_eq_true rfl)⟩) ?_
      refine x_ifB_eq (tgt := 45) hx hb dX4_boxError_27 (by decide) (fun c_27 => ?_) (fun c_27 => ?_)
      · skip
        refine lv_iconst (v := 0) hx hb dX4_boxError_45 (by decide) ?_
        refine lv_istore (lv' := [(5, .int 0), (0, .int x), (1, .int y), (2, .int wd), (3, .int hg), (4, .int v)]) hx hb dX4_boxError_46 hl (by decide) rfl (fun ls hl => ?_)
        refine lv_iload hx hb dX4_boxError_48 (lv_at hl 0 rfl) ?_
        refine lv_if_eq (tgt := 57) hx hb dX4_boxError_50 (by decide) (fun _ => ?_) (fun h => absurd (by decide) h)
        refine lv_bipush (v := (-2)) hx hb dX4_boxError_57 (by decide) ?_
        exact x_iretR hQ hx hb hr hlocks (by unfold bxE; first | (rw [if_neg (by omega)]) | (rw [if_pos (by omega), if_pos (by omega)]) | (rw [if_pos (by omega), if_neg (by omega)])) dX4_boxError_59
      · skip
        refine lv_iload hx hb dX4_boxError_30 (lv_at hl 4 rfl) ?_
        refine lv_iconst (v := 0) hx hb dX4_boxError_32 (by decide) ?_
        refine lv_bipush (v := 15) hx hb dX4_boxError_33 (by decide) ?_
        refine x_callR (va_runS (As := [.int v, .int 0, .int 15]) (rest := []) ⟨hx, hb, hml, hown, hts⟩ (c_X4_isBetween l D cI cC cS tt v Vv hVv_ 0 0 (by decide) 15 15 (by decide)) (va_cwS 3 hts gX4_boxError_X4_isBetween rfl rfl rfl (by decide +kernel) ⟨Nat.le_of_ble_eq_true rfl, Nat.le_of_ble_eq_true rfl⟩) ⟨x_blindR, x_preR (hP.sub (ws' := []) [] rfl) hK hE hS⟩ rfl rfl hl.1 rfl (lv_room (Nat.le_of_ble_eq_true rfl)) dX4_boxError_35 ⟨(Nat.le_of_ble_eq_true rfl), (Nat.le_of_ble_eq_true rfl)⟩) ?_
        refine x_ifB_eq (tgt := 45) hx hb dX4_boxError_38 (by decide) (fun c_38 => ?_) (fun c_38 => ?_)
        · skip
          refine lv_iconst (v := 0) hx hb dX4_boxError_45 (by decide) ?_
          refine lv_istore (lv' := [(5, .int 0), (0, .int x), (1, .int y), (2, .int wd), (3, .int hg), (4, .int v)]) hx hb dX4_boxError_46 hl (by decide) rfl (fun ls hl => ?_)
          refine lv_iload hx hb dX4_boxError_48 (lv_at hl 0 rfl) ?_
          refine lv_if_eq (tgt := 57) hx hb dX4_boxError_50 (by decide) (fun _ => ?_) (fun h => absurd (by decide) h)
          refine lv_bipush (v := (-2)) hx hb dX4_boxError_57 (by decide) ?_
          exact x_iretR hQ hx hb hr hlocks (by unfold bxE; first | (rw [if_neg (by omega)]) | (rw [if_pos (by omega), if_pos (by omega)]) | (rw [if_pos (by omega), if_neg (by omega)])) dX4_boxError_59
        · skip
          refine lv_iconst (v := 1) hx hb dX4_boxError_41 (by decide) ?_
          refine lv_goto (tgt := 46) hx hb dX4_boxError_42 (by decide) ?_
          refine lv_istore (lv' := [(5, .int 1), (0, .int x), (1, .int y), (2, .int wd), (3, .int hg), (4, .int v)]) hx hb dX4_boxError_46 hl (by decide) rfl (fun ls hl => ?_)
          refine lv_iload hx hb dX4_boxError_48 (lv_at hl 0 rfl) ?_
          refine lv_if_eq (tgt := 57) hx hb dX4_boxError_50 (by decide) (fun h => absurd h (by decide)) (fun _ => ?_)
          refine lv_iconst (v := 0) hx hb dX4_boxError_53 (by decide) ?_
          refine lv_goto (tgt := 59) hx hb dX4_boxError_54 (by decide) ?_
          exact x_iretR hQ hx hb hr hlocks (by unfold bxE; first | (rw [if_neg (by omega)]) | (rw [if_pos (by omega), if_pos (by omega)]) | (rw [if_pos (by omega), if_neg (by omega)])) dX4_boxError_59
  · skip
    refine lv_iconst (v := (-1)) hx hb dX4_boxError_8 (by decide) ?_
    exact x_iretR hQ hx hb hr hlocks (by unfold bxE; first | (rw [if_neg (by omega)]) | (rw [if_pos (by omega), if_pos (by omega)]) | (rw [if_pos (by omega), if_neg (by omega)])) dX4_boxError_9
set_option maxHeartbeats 4000000 in
set_option maxRecDepth 100000 in
theorem c_X4_stepError (l : Launch) (D : va_G) (cI cC cS : ClassId) (tt : Nat → Nat) (x : Int32) (X : Int) (hX_ : x.toInt = X) (y : Int32) (Y : Int) (hY_ : y.toInt = Y) : Met l yX4_stepError wsX4_stepError ({ frames := 1, cells := 0, slots := 0, locals := 22 } : Room) (x_PR D cI cC cS tt [] [.int x, .int y]) (QcRead (stE X Y)) 0 0 (fun _ => False) := by
  refine Met.ofW (cc := cX4_stepError) (maxL := 3) (ret := (some .int)) (by decide) rfl ?_
  intro p e s m args below meth c s₁ hBd hml hv
  obtain ⟨rfl, hP, hK, hE⟩ := hv
  have hx := hBd.exec
  have hb := hBd.bytes
  have hr := hBd.returns
  have hts := atoms_spec (ws := wsX4_stepError) hBd.pre
  have hown : s.vm.findClass RX4 = some m.cls := findClass_of_methodNamed hBd.named
  have hlocks := hBd.notSynchronized
  have hS : va_S (fun _ => False) s.heap s.heap [] := va_S.rf
  have hl := lv_entry ([.int x, .int y]) (n := 3) (Nat.le_of_ble_eq_true rfl)
  rw [lg_entry_eq]
  generalize (lg_sl ([.int x, .int y]) ++ List.replicate (3 - (lg_sl ([.int x, .int y])).length) Slot.unset).toArray = ls at hl ⊢
  have hl : lv_has ls 3 [(0, .int x), (1, .int y)] := hl
  refine x_genQ (fun Q hQ => ?_)
  refine lv_iload_n hx hb dX4_stepError_0 rfl (lv_at hl 0 rfl) ?_
  refine lv_bipush (v := (-11)) hx hb dX4_stepError_1 (by decide) ?_
  refine lv_bipush (v := 11) hx hb dX4_stepError_3 (by decide) ?_
  refine x_callR (va_runS (As := [.int x, .int (-11), .int 11]) (rest := []) ⟨hx, hb, hml, hown, hts⟩ (c_X4_isBetween l D cI cC cS tt x X hX_ (-11) (-11) (by decide) 11 11 (by decide)) (va_cwS 3 hts gX4_stepError_X4_isBetween rfl rfl rfl (by decide +kernel) ⟨Nat.le_of_ble_eq_true rfl, Nat.le_of_ble_eq_true rfl⟩) ⟨x_blindR, x_preR (hP.sub (ws' := []) [] rfl) hK hE hS⟩ rfl rfl hl.1 rfl (lv_room (Nat.le_of_ble_eq_true rfl)) dX4_stepError_5 ⟨(Nat.le_of_ble_eq_true rfl), (Nat.le_of_ble_eq_true rfl)⟩) ?_
  refine x_ifB_eq (tgt := 26) hx hb dX4_stepError_8 (by decide) (fun c_8 => ?_) (fun c_8 => ?_)
  · skip
    refine lv_iconst (v := 0) hx hb dX4_stepError_26 (by decide) ?_
    refine lv_istore_n (lv' := [(2, .int 0), (0, .int x), (1, .int y)]) hx hb dX4_stepError_27 rfl hl (by decide) rfl (fun ls hl => ?_)
    refine lv_iload_n hx hb dX4_stepError_28 rfl (lv_at hl 0 rfl) ?_
    refine lv_if_eq (tgt := 36) hx hb dX4_stepError_29 (by decide) (fun _ => ?_) (fun h => absurd (by decide) h)
    refine lv_bipush (v := (-2)) hx hb dX4_stepError_36 (by decide) ?_
    exact x_iretR hQ hx hb hr hlocks (by unfold stE; first | (rw [if_neg (by omega)]) | (rw [if_pos (by omega)])) dX4_stepError_38
  · skip
    refine lv_iload_n hx hb dX4_stepError_11 rfl (lv_at hl 1 rfl) ?_
    refine lv_bipush (v := (-11)) hx hb dX4_stepError_12 (by decide) ?_
    refine lv_bipush (v := 11) hx hb dX4_stepError_14 (by decide) ?_
    refine x_callR (va_runS (As := [.int y, .int (-11), .int 11]) (rest := []) ⟨hx, hb, hml, hown, hts⟩ (c_X4_isBetween l D cI cC cS tt y Y hY_ (-11) (-11) (by decide) 11 11 (by decide)) (va_cwS 3 hts gX4_stepError_X4_isBetween rfl rfl rfl (by decide +kernel) ⟨Nat.le_of_ble_eq_true rfl, Nat.le_of_ble_eq_true rfl⟩) ⟨x_blindR, x_preR (hP.sub (ws' := []) [] rfl) hK hE hS⟩ rfl rfl hl.1 rfl (lv_room (Nat.le_of_ble_eq_true rfl)) dX4_stepError_16 ⟨(Nat.le_of_ble_eq_true rfl), (Nat.le_of_ble_eq_true rfl)⟩) ?_
    refine x_ifB_eq (tgt := 26) hx hb dX4_stepError_19 (by decide) (fun c_19 => ?_) (fun c_19 => ?_)
    · skip
      refine lv_iconst (v := 0) hx hb dX4_stepError_26 (by decide) ?_
      refine lv_istore_n (lv' := [(2, .int 0), (0, .int x), (1, .int y)]) hx hb dX4_stepError_27 rfl hl (by decide) rfl (fun ls hl => ?_)
      refine lv_iload_n hx hb dX4_stepError_28 rfl (lv_at hl 0 rfl) ?_
      refine lv_if_eq (tgt := 36) hx hb dX4_stepError_29 (by decide) (fun _ => ?_) (fun h => absurd (by decide) h)
      refine lv_bipush (v := (-2)) hx hb dX4_stepError_36 (by decide) ?_
      exact x_iretR hQ hx hb hr hlocks (by unfold stE; first | (rw [if_neg (by omega)]) | (rw [if_pos (by omega)])) dX4_stepError_38
    · skip
      refine lv_iconst (v := 1) hx hb dX4_stepError_22 (by decide) ?_
      refine lv_goto (tgt := 27) hx hb dX4_stepError_23 (by decide) ?_
      refine lv_istore_n (lv' := [(2, .int 1), (0, .int x), (1, .int y)]) hx hb dX4_stepError_27 rfl hl (by decide) rfl (fun ls hl => ?_)
      refine lv_iload_n hx hb dX4_stepError_28 rfl (lv_at hl 0 rfl) ?_
      refine lv_if_eq (tgt := 36) hx hb dX4_stepError_29 (by decide) (fun h => absurd h (by decide)) (fun _ => ?_)
      refine lv_iconst (v := 0) hx hb dX4_stepError_32 (by decide) ?_
      refine lv_goto (tgt := 38) hx hb dX4_stepError_33 (by decide) ?_
      exact x_iretR hQ hx hb hr hlocks (by unfold stE; first | (rw [if_neg (by omega)]) | (rw [if_pos (by omega)])) dX4_stepError_38
set_option maxHeartbeats 4000000 in
set_option maxRecDepth 100000 in
theorem c_X2_copyFrom (l : Launch) (D : va_G) (cI cC cS : ClassId) (tt : Nat → Nat) (sz : Nat) (q0 : Nat) (q1 : Nat) (o0 : Nat) (o1 : Nat) (lv : Nat → Int32) (lo : Nat → Int32) : Met l yX2_copyFrom wsX2_copyFrom ({ frames := 1, cells := 0, slots := 0, locals := 60 } : Room) (x_PW D cI cC cS tt [(q0, .inr (2, [.ref q1])), (q1, .inl (cI, 144, .inl (lv))), (o0, .inr (2, [.ref o1])), (o1, .inl (cI, 144, .inl (lo)))] sz [.ref q0, .ref o0]) (x_QWv D [(q0, .inr (2, [.ref q1])), (q1, .inl (cI, 144, .inl (lv))), (o0, .inr (2, [.ref o1])), (o1, .inl (cI, 144, .inl (lo)))] sz (fun (w : va_W) => w = [(q0, .inr (2, [.ref q1])), (q1, .inl (cI, 144, .inl (lo))), (o0, .inr (2, [.ref o1])), (o1, .inl (cI, 144, .inl (lo)))])) 0 0 (va_A [(q0, .inr (2, [.ref q1])), (q1, .inl (cI, 144, .inl (lv))), (o0, .inr (2, [.ref o1])), (o1, .inl (cI, 144, .inl (lo)))] sz) := by
  refine Met.ofW (cc := cX2_copyFrom) (maxL := 2) (ret := none) (by decide) rfl ?_
  intro p e s m args below meth c s₁ hBd hml hv
  obtain ⟨rfl, hsz, hP, hK, hD0, hE⟩ := hv
  have hx := hBd.exec
  have hb := hBd.bytes
  have hr := hBd.returns
  have hts := atoms_spec (ws := wsX2_copyFrom) hBd.pre
  have hown : s.vm.findClass RX2 = some m.cls := findClass_of_methodNamed hBd.named
  have hlocks := hBd.notSynchronized
  subst hsz
  obtain ⟨Ar, hAe⟩ : ∃ Ar : Nat → Prop, Ar = va_A [(q0, .inr (2, [.ref q1])), (q1, .inl (cI, 144, .inl (lv))), (o0, .inr (2, [.ref o1])), (o1, .inl (cI, 144, .inl (lo)))] s.heap.size := ⟨_, rfl⟩
  have hD : va_D Ar [(q0, .inr (2, [.ref q1])), (q1, .inl (cI, 144, .inl (lv))), (o0, .inr (2, [.ref o1])), (o1, .inl (cI, 144, .inl (lo)))] := by rw [hAe]; exact hD0.self
  have hA : ∀ q : Nat, s.heap.size ≤ q → Ar q := fun q h => by rw [hAe]; exact Or.inr h
  have hE : x_E tt Ar s := by rw [hAe]; exact hE
  have hS : va_S Ar s.heap s.heap [] := va_S.rf
  have hl := lv_entry ([.ref q0, .ref o0]) (n := 2) (Nat.le_of_ble_eq_true rfl)
  rw [lg_entry_eq]
  generalize (lg_sl ([.ref q0, .ref o0]) ++ List.replicate (2 - (lg_sl ([.ref q0, .ref o0])).length) Slot.unset).toArray = ls at hl ⊢
  have hl : lv_has ls 2 [(0, .ref q0), (1, .ref o0)] := hl
  refine x_genQ (fun Q hQ => ?_)
  refine lv_aload_n hx hb dX2_copyFrom_0 rfl (lv_at hl 1 rfl) ?_
  refine va_get (v := .ref o1) (D := D) (ci := 2) (C := RX2) (T := TX2) (N := 1) hx hb hts (by decide +kernel) hown hK hP 2 rfl rfl 0 (by decide) (hts (.fieldLink RX2 9 "SpiralFrames$Picture" "levels" "[I") (by decide +kernel)) (fun _ h9 => h9) rfl dX2_copyFrom_1 ?_
  refine lv_iconst (v := 0) hx hb dX2_copyFrom_4 (by decide) ?_
  refine lv_aload_n hx hb dX2_copyFrom_5 rfl (lv_at hl 0 rfl) ?_
  refine va_get (v := .ref q1) (D := D) (ci := 2) (C := RX2) (T := TX2) (N := 1) hx hb hts (by decide +kernel) hown hK hP 0 rfl rfl 0 (by decide) (hts (.fieldLink RX2 9 "SpiralFrames$Picture" "levels" "[I") (by decide +kernel)) (fun _ h9 => h9) rfl dX2_copyFrom_6 ?_
  refine lv_iconst (v := 0) hx hb dX2_copyFrom_9 (by decide) ?_
  refine lv_sipush (v := 144) hx hb dX2_copyFrom_10 (by decide) ?_
  refine x_copy hx hb (by rw [hml]; exact hl.1.symm) hown (hts (.methodLink RX2 19 arraycopyName) (by decide +kernel)) (hts (.native arraycopyName) (by decide +kernel)) (hts (.static arraycopyName) (by decide +kernel)) (hts (.initialized "java/lang/System") (by decide +kernel)) hK hP hD hS 3 1 rfl rfl (N := 144) (by decide) (by decide) (Nat.le_of_ble_eq_true rfl) (Nat.le_of_ble_eq_true rfl) dX2_copyFrom_13 (fun H locs hP hD hS => ?_)
  have hP : va_P D vwCl [(q0, .inr (2, [.ref q1])), (q1, .inl (cI, 144, .inl (lo))), (o0, .inr (2, [.ref o1])), (o1, .inl (cI, 144, .inl (lo)))] H := hP
  have hD : va_D (Ar) [(q0, .inr (2, [.ref q1])), (q1, .inl (cI, 144, .inl (lo))), (o0, .inr (2, [.ref o1])), (o1, .inl (cI, 144, .inl (lo)))] := hD
  refine x_vretW (w := [(q0, .inr (2, [.ref q1])), (q1, .inl (cI, 144, .inl (lo))), (o0, .inr (2, [.ref o1])), (o1, .inl (cI, 144, .inl (lo)))]) hQ hAe hx hb hr hlocks (hP.sub [0, 1, 2, 3] rfl) (hD.sub [0, 1, 2, 3] (by decide) rfl) hS ?_ dX2_copyFrom_16
  exact rfl
set_option maxHeartbeats 4000000 in
set_option maxRecDepth 100000 in
theorem c_X2_putBox (l : Launch) (D : va_G) (cI cC cS : ClassId) (tt : Nat → Nat) (sz : Nat) (q0 : Nat) (q1 : Nat) (cx : Nat) (cy : Nat) (cw : Nat) (ch : Nat) (lv : Nat → Int32) (v : Int32) (hh0 : cx < 12) (hh1 : cy < 12) (hh2 : 1 ≤ cw) (hh3 : cw ≤ 12) (hh4 : 1 ≤ ch) (hh5 : ch ≤ 12) : Met l yX2_putBox wsX2_putBox ({ frames := 2, cells := 0, slots := 0, locals := 44 } : Room) (x_PW D cI cC cS tt [(q0, .inr (2, [.ref q1])), (q1, .inl (cI, 144, .inl (lv)))] sz [.ref q0, .int (nI cx), .int (nI cy), .int (nI cw), .int (nI ch), .int v]) (x_QWi D [(q0, .inr (2, [.ref q1])), (q1, .inl (cI, 144, .inl (lv)))] sz (fun (r : Int32) (w : va_W) => r = bxC lv cx (min (cx + cw) 12) cy (min (cy + ch) 12) v ∧ w = [(q0, .inr (2, [.ref q1])), (q1, .inl (cI, 144, .inl (bxN lv cx (min (cx + cw) 12) cy (min (cy + ch) 12) v)))])) 0 0 (va_A [(q0, .inr (2, [.ref q1])), (q1, .inl (cI, 144, .inl (lv)))] sz) := by
  refine Met.ofW (cc := cX2_putBox) (maxL := 11) (ret := (some .int)) (by decide) rfl ?_
  intro p e s m args below meth c s₁ hBd hml hv
  obtain ⟨rfl, hsz, hP, hK, hD0, hE⟩ := hv
  have hx := hBd.exec
  have hb := hBd.bytes
  have hr := hBd.returns
  have hts := atoms_spec (ws := wsX2_putBox) hBd.pre
  have hown : s.vm.findClass RX2 = some m.cls := findClass_of_methodNamed hBd.named
  have hlocks := hBd.notSynchronized
  subst hsz
  obtain ⟨Ar, hAe⟩ : ∃ Ar : Nat → Prop, Ar = va_A [(q0, .inr (2, [.ref q1])), (q1, .inl (cI, 144, .inl (lv)))] s.heap.size := ⟨_, rfl⟩
  have hD : va_D Ar [(q0, .inr (2, [.ref q1])), (q1, .inl (cI, 144, .inl (lv)))] := by rw [hAe]; exact hD0.self
  have hA : ∀ q : Nat, s.heap.size ≤ q → Ar q := fun q h => by rw [hAe]; exact Or.inr h
  have hE : x_E tt Ar s := by rw [hAe]; exact hE
  have hS : va_S Ar s.heap s.heap [] := va_S.rf
  have hl := lv_entry ([.ref q0, .int (nI cx), .int (nI cy), .int (nI cw), .int (nI ch), .int v]) (n := 11) (Nat.le_of_ble_eq_true rfl)
  rw [lg_entry_eq]
  generalize (lg_sl ([.ref q0, .int (nI cx), .int (nI cy), .int (nI cw), .int (nI ch), .int v]) ++ List.replicate (11 - (lg_sl ([.ref q0, .int (nI cx), .int (nI cy), .int (nI cw), .int (nI ch), .int v])).length) Slot.unset).toArray = ls at hl ⊢
  have hl : lv_has ls 11 [(0, .ref q0), (1, .int (nI cx)), (2, .int (nI cy)), (3, .int (nI cw)), (4, .int (nI ch)), (5, .int v)] := hl
  refine x_genQ (fun Q hQ => ?_)
  refine lv_bipush (v := 12) hx hb dX2_putBox_0 (by decide) ?_
  refine lv_iload_n hx hb dX2_putBox_2 rfl (lv_at hl 1 rfl) ?_
  refine lv_iload_n hx hb dX2_putBox_3 rfl (lv_at hl 3 rfl) ?_
  refine lv_iadd hx hb dX2_putBox_4 ?_
  refine x_eqi (show nI cx + nI cw = nI (cx + cw) from nI_add cx cw) ?_
  refine va_mmin hx hb (by rw [hml]; exact hl.1.symm) hown (hts (.methodLink RX2 25 Lib.Math.min.name) (by decide +kernel)) (hts (.static Lib.Math.min.name) (by decide +kernel)) (hts (.initialized "java/lang/Math") (by decide +kernel)) (hts (.code Lib.Math.min.name Lib.Math.min.code 2 (some .int)) (by decide +kernel)) (Nat.le_of_ble_eq_true rfl) (Nat.le_of_ble_eq_true rfl) (Nat.le_of_ble_eq_true rfl) (Nat.le_of_ble_eq_true rfl) dX2_putBox_5 ?_
  refine x_eqi (show (if (nI (cx + cw)) < 12 then (nI (cx + cw)) else 12) = nI (min (cx + cw) 12) from x_minN (k := 12) (by omega) (by decide)) ?_
  refine lv_istore (lv' := [(6, .int (nI (min (cx + cw) 12))), (0, .ref q0), (1, .int (nI cx)), (2, .int (nI cy)), (3, .int (nI cw)), (4, .int (nI ch)), (5, .int v)]) hx hb dX2_putBox_8 hl (by decide) rfl (fun ls hl => ?_)
  refine lv_bipush (v := 12) hx hb dX2_putBox_10 (by decide) ?_
  refine lv_iload_n hx hb dX2_putBox_12 rfl (lv_at hl 3 rfl) ?_
  refine lv_iload hx hb dX2_putBox_13 (lv_at hl 5 rfl) ?_
  refine lv_iadd hx hb dX2_putBox_15 ?_
  refine x_eqi (show nI cy + nI ch = nI (cy + ch) from nI_add cy ch) ?_
  refine va_mmin hx hb (by rw [hml]; exact hl.1.symm) hown (hts (.methodLink RX2 25 Lib.Math.min.name) (by decide +kernel)) (hts (.static Lib.Math.min.name) (by decide +kernel)) (hts (.initialized "java/lang/Math") (by decide +kernel)) (hts (.code Lib.Math.min.name Lib.Math.min.code 2 (some .int)) (by decide +kernel)) (Nat.le_of_ble_eq_true rfl) (Nat.le_of_ble_eq_true rfl) (Nat.le_of_ble_eq_true rfl) (Nat.le_of_ble_eq_true rfl) dX2_putBox_16 ?_
  refine x_eqi (show (if (nI (cy + ch)) < 12 then (nI (cy + ch)) else 12) = nI (min (cy + ch) 12) from x_minN (k := 12) (by omega) (by decide)) ?_
  refine lv_istore (lv' := [(7, .int (nI (min (cy + ch) 12))), (6, .int (nI (min (cx + cw) 12))), (0, .ref q0), (1, .int (nI cx)), (2, .int (nI cy)), (3, .int (nI cw)), (4, .int (nI ch)), (5, .int v)]) hx hb dX2_putBox_19 hl (by decide) rfl (fun ls hl => ?_)
  refine lv_iconst (v := 0) hx hb dX2_putBox_21 (by decide) ?_
  refine lv_istore (lv' := [(8, .int 0), (7, .int (nI (min (cy + ch) 12))), (6, .int (nI (min (cx + cw) 12))), (0, .ref q0), (1, .int (nI cx)), (2, .int (nI cy)), (3, .int (nI cw)), (4, .int (nI ch)), (5, .int v)]) hx hb dX2_putBox_22 hl (by decide) rfl (fun ls hl => ?_)
  refine lv_iload_n hx hb dX2_putBox_24 rfl (lv_at hl 5 rfl) ?_
  refine lv_istore (lv' := [(9, .int (nI cy)), (8, .int 0), (7, .int (nI (min (cy + ch) 12))), (6, .int (nI (min (cx + cw) 12))), (0, .ref q0), (1, .int (nI cx)), (2, .int (nI cy)), (3, .int (nI cw)), (4, .int (nI ch)), (5, .int v)]) hx hb dX2_putBox_25 hl (by decide) rfl (fun ls hl => ?_)
  have L27 : ∀ (fuel : Nat) (yy : Nat) (n : Int32) (f : Nat → Int32), cy ≤ yy → yy ≤ min (cy + ch) 12 → n = sm (fun j => bxR lv cx (min (cx + cw) 12) v (cy + j)) (yy - cy) → f = bxF lv cx (min (cx + cw) 12) cy v yy 0 → 12 - yy < fuel → ∀ (H : Heap) (locs : List Loc), va_P D vwCl [(q0, .inr (2, [.ref q1])), (q1, .inl (cI, 144, .inl (f)))] H → va_D (Ar) [(q0, .inr (2, [.ref q1])), (q1, .inl (cI, 144, .inl (f)))] → va_S (Ar) s.heap H locs → ∀ (ls : Array Slot), lv_has ls 11 [(0, .ref q0), (1, .int (nI cx)), (5, .int v), (6, .int (nI (min (cx + cw) 12))), (7, .int (nI (min (cy + ch) 12))), (8, .int n), (9, .int (nI yy))] → W p l e (headSpec wsX2_putBox ({ frames := 2, cells := 0, slots := 0, locals := 44 } : Room)).room s m ([.ref q0, .int (nI cx), .int (nI cy), .int (nI cw), .int (nI ch), .int v] : List Value).toArray below meth c H locs 0 0 Q (F0 m 27 ls []) := by
    intro fuel
    induction fuel with
    | zero =>
      intro yy n f hi27_0 hi27_1 hi27_2 hi27_3 hfu
      exact absurd hfu (Nat.not_lt_zero _)
    | succ fuel ih27 =>
      intro yy n f hi27_0 hi27_1 hi27_2 hi27_3 hfu27 H locs hP hD hS ls hl
      refine lv_iload hx hb dX2_putBox_27 (lv_at hl 6 rfl) ?_
      refine lv_iload hx hb dX2_putBox_29 (lv_at hl 4 rfl) ?_
      refine x_icmp_ge (tgt := 89) hx hb dX2_putBox_31 (by decide) (X := ((yy : Nat) : Int)) (nI_toI (by omega)) (Y := ((min (cy + ch) 12 : Nat) : Int)) (nI_toI (by omega)) (fun c_31 => ?_) (fun c_31 => ?_)
      · skip
        refine lv_iload hx hb dX2_putBox_89 (lv_at hl 5 rfl) ?_
        refine x_iretW (w := [(q0, .inr (2, [.ref q1])), (q1, .inl (cI, 144, .inl (f)))]) hQ hAe hx hb hr hlocks (hP.sub [0, 1] rfl) (hD.sub [0, 1] (by decide) rfl) hS ?_ dX2_putBox_91
        exact ⟨by rw [hi27_2, show yy = min (cy + ch) 12 by omega]; rfl, by rw [hi27_3, show yy = min (cy + ch) 12 by omega]; rfl⟩
      · skip
        refine lv_iload_n hx hb dX2_putBox_34 rfl (lv_at hl 1 rfl) ?_
        refine lv_istore (lv' := [(10, .int (nI cx)), (0, .ref q0), (1, .int (nI cx)), (5, .int v), (6, .int (nI (min (cx + cw) 12))), (7, .int (nI (min (cy + ch) 12))), (8, .int n), (9, .int (nI yy))]) hx hb dX2_putBox_35 hl (by decide) rfl (fun ls hl => ?_)
        have L37 : ∀ (fuel : Nat) (xx : Nat) (n : Int32) (f : Nat → Int32), cx ≤ xx → xx ≤ min (cx + cw) 12 → n = sm (fun j => bxR lv cx (min (cx + cw) 12) v (cy + j)) (yy - cy) + sm (fun i => if lv (yy * 12 + (cx + i)) = v then 0 else 1) (xx - cx) → f = bxF lv cx (min (cx + cw) 12) cy v yy xx → 12 - xx < fuel → ∀ (H : Heap) (locs : List Loc), va_P D vwCl [(q0, .inr (2, [.ref q1])), (q1, .inl (cI, 144, .inl (f)))] H → va_D (Ar) [(q0, .inr (2, [.ref q1])), (q1, .inl (cI, 144, .inl (f)))] → va_S (Ar) s.heap H locs → ∀ (ls : Array Slot), lv_has ls 11 [(0, .ref q0), (1, .int (nI cx)), (5, .int v), (6, .int (nI (min (cx + cw) 12))), (7, .int (nI (min (cy + ch) 12))), (8, .int n), (9, .int (nI yy)), (10, .int (nI xx))] → W p l e (headSpec wsX2_putBox ({ frames := 2, cells := 0, slots := 0, locals := 44 } : Room)).room s m ([.ref q0, .int (nI cx), .int (nI cy), .int (nI cw), .int (nI ch), .int v] : List Value).toArray below meth c H locs 0 0 Q (F0 m 37 ls []) := by
          intro fuel
          induction fuel with
          | zero =>
            intro xx n f hi37_0 hi37_1 hi37_2 hi37_3 hfu
            exact absurd hfu (Nat.not_lt_zero _)
          | succ fuel ih37 =>
            intro xx n f hi37_0 hi37_1 hi37_2 hi37_3 hfu37 H locs hP hD hS ls hl
            refine lv_iload hx hb dX2_putBox_37 (lv_at hl 7 rfl) ?_
            refine lv_iload hx hb dX2_putBox_39 (lv_at hl 3 rfl) ?_
            refine x_icmp_ge (tgt := 83) hx hb dX2_putBox_41 (by decide) (X := ((xx : Nat) : Int)) (nI_toI (by omega)) (Y := ((min (cx + cw) 12 : Nat) : Int)) (nI_toI (by omega)) (fun c_41 => ?_) (fun c_41 => ?_)
            · skip
              refine lv_iinc (v := nI (yy + 1)) (lv' := [(9, .int (nI (yy + 1))), (0, .ref q0), (1, .int (nI cx)), (5, .int v), (6, .int (nI (min (cx + cw) 12))), (7, .int (nI (min (cy + ch) 12))), (8, .int n), (10, .int (nI xx))]) hx hb dX2_putBox_83 hl (k := 6) rfl (nI_add _ _) (by decide) rfl (fun ls hl => ?_)
              refine lv_goto (tgt := 27) hx hb dX2_putBox_86 (by decide) ?_
              exact ih27 (yy + 1) n f (by first | assumption | omega | rfl) (by first | assumption | omega | rfl) (by rw [hi37_2, show yy + 1 - cy = (yy - cy) + 1 by omega, sm_s, show xx = min (cx + cw) 12 by omega]; exact congrArg _ (by rw [show cy + (yy - cy) = yy by omega]; rfl)) (by rw [hi37_3]; exact bxF_out (by omega)) (by omega) H locs (hP.sub [0, 1] rfl) (hD.sub [0, 1] (by decide) rfl) hS ls (lv_sub hl [1, 2, 3, 4, 5, 6, 0] rfl)
            · skip
              refine lv_iload hx hb dX2_putBox_44 (lv_at hl 5 rfl) ?_
              refine lv_aload_n hx hb dX2_putBox_46 rfl (lv_at hl 0 rfl) ?_
              refine lv_iload hx hb dX2_putBox_47 (lv_at hl 7 rfl) ?_
              refine lv_iload hx hb dX2_putBox_49 (lv_at hl 6 rfl) ?_
              refine x_callR (va_runV (As := [.int (nI xx), .int (nI yy)]) (rest := [.int n]) ⟨hx, hb, hml, hown, hts⟩ (c_X2_levelAt l D cI cC cS tt q0 q1 f (nI xx) ((xx : Nat) : Int) (nI_toI (by omega)) (nI yy) ((yy : Nat) : Int) (nI_toI (by omega))) (cwV 2 hts gX2_putBox_X2_levelAt rfl rfl rfl (by decide +kernel) ⟨Nat.le_of_ble_eq_true rfl, Nat.le_of_ble_eq_true rfl⟩) ⟨x_blindR, va_recv hK hP (ci := 2) (q0 := 0) rfl rfl, x_preR (hP.sub (ws' := [(q0, .inr (2, [.ref q1])), (q1, .inl (cI, 144, .inl (f)))]) [0, 1] rfl) hK hE hS⟩ rfl rfl hl.1 rfl (lv_room (Nat.le_of_ble_eq_true rfl)) dX2_putBox_51 ⟨(Nat.le_of_ble_eq_true rfl), (Nat.le_of_ble_eq_true rfl)⟩) ?_
              refine lv_iload hx hb dX2_putBox_54 (lv_at hl 2 rfl) ?_
              refine lv_icmp_ne (tgt := 63) hx hb dX2_putBox_56 (by decide) (fun c_56 => ?_) (fun c_56 => ?_)
              · skip
                refine lv_iconst (v := 1) hx hb dX2_putBox_63 (by decide) ?_
                refine lv_iadd hx hb dX2_putBox_64 ?_
                refine lv_istore (lv' := [(8, .int (n + 1)), (0, .ref q0), (1, .int (nI cx)), (5, .int v), (6, .int (nI (min (cx + cw) 12))), (7, .int (nI (min (cy + ch) 12))), (9, .int (nI yy)), (10, .int (nI xx))]) hx hb dX2_putBox_65 hl (by decide) rfl (fun ls hl => ?_)
                refine lv_aload_n hx hb dX2_putBox_67 rfl (lv_at hl 1 rfl) ?_
                refine lv_iload hx hb dX2_putBox_68 (lv_at hl 7 rfl) ?_
                refine lv_iload hx hb dX2_putBox_70 (lv_at hl 6 rfl) ?_
                refine lv_iload hx hb dX2_putBox_72 (lv_at hl 3 rfl) ?_
                refine x_callWv (wc := [(q0, .inr (2, [.ref q1])), (q1, .inl (cI, 144, .inl (f)))]) (wr := []) (va_runV (As := [.int (nI xx), .int (nI yy), .int v]) (rest := []) ⟨hx, hb, hml, hown, hts⟩ (c_X2_putLevel l D cI cC cS tt H.size q0 q1 f v (nI xx) ((xx : Nat) : Int) (nI_toI (by omega)) (nI yy) ((yy : Nat) : Int) (nI_toI (by omega))) (cwV 3 hts gX2_putBox_X2_putLevel rfl rfl rfl (by decide +kernel) ⟨Nat.le_of_ble_eq_true rfl, Nat.le_of_ble_eq_true rfl⟩) ⟨x_blindW, va_recv hK hP (ci := 2) (q0 := 0) rfl rfl, x_preW hP hD hK hE hS hA [0, 1] rfl (by decide)⟩ rfl rfl hl.1 rfl (lv_room (Nat.le_of_ble_eq_true rfl)) dX2_putBox_74 ⟨(Nat.le_of_ble_eq_true rfl), (Nat.le_of_ble_eq_true rfl)⟩) hP hD hS hA [0, 1] [] rfl rfl (by decide) (by decide) (fun w1 H locs hw hP hD hS => ?_)
                obtain rfl := hw
                have hP : va_P D vwCl [(q0, .inr (2, [.ref q1])), (q1, .inl (cI, 144, .inl (ptZ f ((xx : Nat) : Int) ((yy : Nat) : Int) v)))] H := hP
                have hD : va_D (Ar) [(q0, .inr (2, [.ref q1])), (q1, .inl (cI, 144, .inl (ptZ f ((xx : Nat) : Int) ((yy : Nat) : Int) v)))] := hD
                refine lv_iinc (v := nI (xx + 1)) (lv' := [(10, .int (nI (xx + 1))), (8, .int (n + 1)), (0, .ref q0), (1, .int (nI cx)), (5, .int v), (6, .int (nI (min (cx + cw) 12))), (7, .int (nI (min (cy + ch) 12))), (9, .int (nI yy))]) hx hb dX2_putBox_77 hl (k := 7) rfl (nI_add _ _) (by decide) rfl (fun ls hl => ?_)
                refine lv_goto (tgt := 37) hx hb dX2_putBox_80 (by decide) ?_
                exact ih37 (xx + 1) (n + 1) (ptZ f ((xx : Nat) : Int) ((yy : Nat) : Int) v) (by first | assumption | omega | rfl) (by first | assumption | omega | rfl) (by rw [hi37_3, gtZ_in (by omega) (by omega), bxF_at (by omega)] at c_56; rw [show xx + 1 - cx = (xx - cx) + 1 by omega, sm_s, ← Int32.add_assoc, ← hi37_2, show cx + (xx - cx) = xx by omega]; first | rw [if_pos c_56] | rw [if_neg c_56]) (by rw [hi37_3]; exact bxF_put (by omega) (by omega) (by omega) (by omega) (by omega)) (by omega) H locs (hP.sub [0, 1] rfl) (hD.sub [0, 1] (by decide) rfl) hS ls (lv_sub hl [2, 3, 4, 5, 6, 1, 7, 0] rfl)
              · skip
                refine lv_iconst (v := 0) hx hb dX2_putBox_59 (by decide) ?_
                refine lv_goto (tgt := 64) hx hb dX2_putBox_60 (by decide) ?_
                refine lv_iadd hx hb dX2_putBox_64 ?_
                refine lv_istore (lv' := [(8, .int (n + 0)), (0, .ref q0), (1, .int (nI cx)), (5, .int v), (6, .int (nI (min (cx + cw) 12))), (7, .int (nI (min (cy + ch) 12))), (9, .int (nI yy)), (10, .int (nI xx))]) hx hb dX2_putBox_65 hl (by decide) rfl (fun ls hl => ?_)
                refine lv_aload_n hx hb dX2_putBox_67 rfl (lv_at hl 1 rfl) ?_
                refine lv_iload hx hb dX2_putBox_68 (lv_at hl 7 rfl) ?_
                refine lv_iload hx hb dX2_putBox_70 (lv_at hl 6 rfl) ?_
                refine lv_iload hx hb dX2_putBox_72 (lv_at hl 3 rfl) ?_
                refine x_callWv (wc := [(q0, .inr (2, [.ref q1])), (q1, .inl (cI, 144, .inl (f)))]) (wr := []) (va_runV (As := [.int (nI xx), .int (nI yy), .int v]) (rest := []) ⟨hx, hb, hml, hown, hts⟩ (c_X2_putLevel l D cI cC cS tt H.size q0 q1 f v (nI xx) ((xx : Nat) : Int) (nI_toI (by omega)) (nI yy) ((yy : Nat) : Int) (nI_toI (by omega))) (cwV 3 hts gX2_putBox_X2_putLevel rfl rfl rfl (by decide +kernel) ⟨Nat.le_of_ble_eq_true rfl, Nat.le_of_ble_eq_true rfl⟩) ⟨x_blindW, va_recv hK hP (ci := 2) (q0 := 0) rfl rfl, x_preW hP hD hK hE hS hA [0, 1] rfl (by decide)⟩ rfl rfl hl.1 rfl (lv_room (Nat.le_of_ble_eq_true rfl)) dX2_putBox_74 ⟨(Nat.le_of_ble_eq_true rfl), (Nat.le_of_ble_eq_true rfl)⟩) hP hD hS hA [0, 1] [] rfl rfl (by decide) (by decide) (fun w1 H locs hw hP hD hS => ?_)
                obtain rfl := hw
                have hP : va_P D vwCl [(q0, .inr (2, [.ref q1])), (q1, .inl (cI, 144, .inl (ptZ f ((xx : Nat) : Int) ((yy : Nat) : Int) v)))] H := hP
                have hD : va_D (Ar) [(q0, .inr (2, [.ref q1])), (q1, .inl (cI, 144, .inl (ptZ f ((xx : Nat) : Int) ((yy : Nat) : Int) v)))] := hD
                refine lv_iinc (v := nI (xx + 1)) (lv' := [(10, .int (nI (xx + 1))), (8, .int (n + 0)), (0, .ref q0), (1, .int (nI cx)), (5, .int v), (6, .int (nI (min (cx + cw) 12))), (7, .int (nI (min (cy + ch) 12))), (9, .int (nI yy))]) hx hb dX2_putBox_77 hl (k := 7) rfl (nI_add _ _) (by decide) rfl (fun ls hl => ?_)
                refine lv_goto (tgt := 37) hx hb dX2_putBox_80 (by decide) ?_
                exact ih37 (xx + 1) (n + 0) (ptZ f ((xx : Nat) : Int) ((yy : Nat) : Int) v) (by first | assumption | omega | rfl) (by first | assumption | omega | rfl) (by rw [hi37_3, gtZ_in (by omega) (by omega), bxF_at (by omega)] at c_56; rw [show xx + 1 - cx = (xx - cx) + 1 by omega, sm_s, ← Int32.add_assoc, ← hi37_2, show cx + (xx - cx) = xx by omega]; first | rw [if_pos c_56] | rw [if_neg c_56]) (by rw [hi37_3]; exact bxF_put (by omega) (by omega) (by omega) (by omega) (by omega)) (by omega) H locs (hP.sub [0, 1] rfl) (hD.sub [0, 1] (by decide) rfl) hS ls (lv_sub hl [2, 3, 4, 5, 6, 1, 7, 0] rfl)
        exact L37 _ cx n f (by first | assumption | omega | rfl) (by first | assumption | omega | rfl) (by rw [hi27_2, Nat.sub_self, sm_0, Int32.add_zero]) (by rw [hi27_3]; exact bxF_in) (Nat.lt_succ_self _) H locs (hP.sub [0, 1] rfl) (hD.sub [0, 1] (by decide) rfl) hS ls (lv_sub hl [1, 2, 3, 4, 5, 6, 7, 0] rfl)
  exact L27 _ cy 0 lv (by first | assumption | omega | rfl) (by first | assumption | omega | rfl) (by rw [Nat.sub_self]; rfl) bxF_0 (Nat.lt_succ_self _) s.heap [] (hP.sub [0, 1] rfl) (hD.sub [0, 1] (by decide) rfl) hS ls (lv_sub hl [4, 5, 9, 3, 2, 1, 0] rfl)
set_option maxHeartbeats 4000000 in
set_option maxRecDepth 100000 in
theorem c_X2_unlikePoints (l : Launch) (D : va_G) (cI cC cS : ClassId) (tt : Nat → Nat) (q0 : Nat) (q1 : Nat) (o0 : Nat) (o1 : Nat) (lv : Nat → Int32) (lo : Nat → Int32) : Met l yX2_unlikePoints wsX2_unlikePoints ({ frames := 0, cells := 0, slots := 0, locals := 0 } : Room) (x_PR D cI cC cS tt [(q0, .inr (2, [.ref q1])), (q1, .inl (cI, 144, .inl (lv))), (o0, .inr (2, [.ref o1])), (o1, .inl (cI, 144, .inl (lo)))] [.ref q0, .ref o0]) (QcRead (uP lv lo)) 0 0 (fun _ => False) := by
  refine Met.ofW (cc := cX2_unlikePoints) (maxL := 4) (ret := (some .int)) (by decide) rfl ?_
  intro p e s m args below meth c s₁ hBd hml hv
  obtain ⟨rfl, hP, hK, hE⟩ := hv
  have hx := hBd.exec
  have hb := hBd.bytes
  have hr := hBd.returns
  have hts := atoms_spec (ws := wsX2_unlikePoints) hBd.pre
  have hown : s.vm.findClass RX2 = some m.cls := findClass_of_methodNamed hBd.named
  have hlocks := hBd.notSynchronized
  have hS : va_S (fun _ => False) s.heap s.heap [] := va_S.rf
  have hl := lv_entry ([.ref q0, .ref o0]) (n := 4) (Nat.le_of_ble_eq_true rfl)
  rw [lg_entry_eq]
  generalize (lg_sl ([.ref q0, .ref o0]) ++ List.replicate (4 - (lg_sl ([.ref q0, .ref o0])).length) Slot.unset).toArray = ls at hl ⊢
  have hl : lv_has ls 4 [(0, .ref q0), (1, .ref o0)] := hl
  refine x_genQ (fun Q hQ => ?_)
  refine lv_iconst (v := 0) hx hb dX2_unlikePoints_0 (by decide) ?_
  refine lv_istore_n (lv' := [(2, .int 0), (0, .ref q0), (1, .ref o0)]) hx hb dX2_unlikePoints_1 rfl hl (by decide) rfl (fun ls hl => ?_)
  refine lv_iconst (v := 0) hx hb dX2_unlikePoints_2 (by decide) ?_
  refine lv_istore_n (lv' := [(3, .int 0), (2, .int 0), (0, .ref q0), (1, .ref o0)]) hx hb dX2_unlikePoints_3 rfl hl (by decide) rfl (fun ls hl => ?_)
  have L4 : ∀ (fuel : Nat) (j : Nat) (n : Int32), j ≤ 144 → n = sm (fun k => if lv k = lo k then 0 else 1) j → 144 - j < fuel → ∀ (ls : Array Slot), lv_has ls 4 [(0, .ref q0), (1, .ref o0), (2, .int n), (3, .int (nI j))] → W p l e (headSpec wsX2_unlikePoints ({ frames := 0, cells := 0, slots := 0, locals := 0 } : Room)).room s m ([.ref q0, .ref o0] : List Value).toArray below meth c s.heap [] 0 0 Q (F0 m 4 ls []) := by
    intro fuel
    induction fuel with
    | zero =>
      intro j n hi4_0 hi4_1 hfu
      exact absurd hfu (Nat.not_lt_zero _)
    | succ fuel ih4 =>
      intro j n hi4_0 hi4_1 hfu4 ls hl
      refine lv_iload_n hx hb dX2_unlikePoints_4 rfl (lv_at hl 3 rfl) ?_
      refine lv_sipush (v := 144) hx hb dX2_unlikePoints_5 (by decide) ?_
      refine x_icmp_ge (tgt := 40) hx hb dX2_unlikePoints_8 (by decide) (X := ((j : Nat) : Int)) (nI_toI (by omega)) (Y := 144) (by decide) (fun c_8 => ?_) (fun c_8 => ?_)
      · skip
        refine lv_iload_n hx hb dX2_unlikePoints_40 rfl (lv_at hl 2 rfl) ?_
        exact x_iretR hQ hx hb hr hlocks (by rw [hi4_1, show j = 144 by omega]; rfl) dX2_unlikePoints_41
      · skip
        refine lv_iload_n hx hb dX2_unlikePoints_11 rfl (lv_at hl 2 rfl) ?_
        refine lv_aload_n hx hb dX2_unlikePoints_12 rfl (lv_at hl 0 rfl) ?_
        refine va_get (v := .ref q1) (D := D) (ci := 2) (C := RX2) (T := TX2) (N := 1) hx hb hts (by decide +kernel) hown hK hP 0 rfl rfl 0 (by decide) (hts (.fieldLink RX2 9 "SpiralFrames$Picture" "levels" "[I") (by decide +kernel)) (fun _ h9 => h9) rfl dX2_unlikePoints_13 ?_
        refine lv_iload_n hx hb dX2_unlikePoints_16 rfl (lv_at hl 3 rfl) ?_
        refine x_iald hx hb hK hP 1 0 rfl rfl (k := j) (by omega) (by decide) dX2_unlikePoints_17 ?_
        refine lv_aload_n hx hb dX2_unlikePoints_18 rfl (lv_at hl 1 rfl) ?_
        refine va_get (v := .ref o1) (D := D) (ci := 2) (C := RX2) (T := TX2) (N := 1) hx hb hts (by decide +kernel) hown hK hP 2 rfl rfl 0 (by decide) (hts (.fieldLink RX2 9 "SpiralFrames$Picture" "levels" "[I") (by decide +kernel)) (fun _ h9 => h9) rfl dX2_unlikePoints_19 ?_
        refine lv_iload_n hx hb dX2_unlikePoints_22 rfl (lv_at hl 3 rfl) ?_
        refine x_iald hx hb hK hP 3 0 rfl rfl (k := j) (by omega) (by decide) dX2_unlikePoints_23 ?_
        refine lv_icmp_ne (tgt := 31) hx hb dX2_unlikePoints_24 (by decide) (fun c_24 => ?_) (fun c_24 => ?_)
        · skip
          refine lv_iconst (v := 1) hx hb dX2_unlikePoints_31 (by decide) ?_
          refine lv_iadd hx hb dX2_unlikePoints_32 ?_
          refine lv_istore_n (lv' := [(2, .int (n + 1)), (0, .ref q0), (1, .ref o0), (3, .int (nI j))]) hx hb dX2_unlikePoints_33 rfl hl (by decide) rfl (fun ls hl => ?_)
          refine lv_iinc (v := nI (j + 1)) (lv' := [(3, .int (nI (j + 1))), (2, .int (n + 1)), (0, .ref q0), (1, .ref o0)]) hx hb dX2_unlikePoints_34 hl (k := 3) rfl (nI_add _ _) (by decide) rfl (fun ls hl => ?_)
          refine lv_goto (tgt := 4) hx hb dX2_unlikePoints_37 (by decide) ?_
          exact ih4 (j + 1) (n + 1) (by first | assumption | omega | rfl) (by rw [sm_s, ← hi4_1]; first | rw [if_pos c_24] | rw [if_neg c_24]) (by omega) ls (lv_sub hl [2, 3, 1, 0] rfl)
        · skip
          refine lv_iconst (v := 0) hx hb dX2_unlikePoints_27 (by decide) ?_
          refine lv_goto (tgt := 32) hx hb dX2_unlikePoints_28 (by decide) ?_
          refine lv_iadd hx hb dX2_unlikePoints_32 ?_
          refine lv_istore_n (lv' := [(2, .int (n + 0)), (0, .ref q0), (1, .ref o0), (3, .int (nI j))]) hx hb dX2_unlikePoints_33 rfl hl (by decide) rfl (fun ls hl => ?_)
          refine lv_iinc (v := nI (j + 1)) (lv' := [(3, .int (nI (j + 1))), (2, .int (n + 0)), (0, .ref q0), (1, .ref o0)]) hx hb dX2_unlikePoints_34 hl (k := 3) rfl (nI_add _ _) (by decide) rfl (fun ls hl => ?_)
          refine lv_goto (tgt := 4) hx hb dX2_unlikePoints_37 (by decide) ?_
          exact ih4 (j + 1) (n + 0) (by first | assumption | omega | rfl) (by rw [sm_s, ← hi4_1]; first | rw [if_pos c_24] | rw [if_neg c_24]) (by omega) ls (lv_sub hl [2, 3, 1, 0] rfl)
  exact L4 _ 0 0 (by first | assumption | omega | rfl) rfl (Nat.lt_succ_self _) ls (lv_sub hl [2, 3, 1, 0] rfl)
set_option maxHeartbeats 4000000 in
set_option maxRecDepth 100000 in
theorem c_X2_moveBy (l : Launch) (D : va_G) (cI cC cS : ClassId) (tt : Nat → Nat) (sz : Nat) (q0 : Nat) (q1 : Nat) (o0 : Nat) (o1 : Nat) (lv : Nat → Int32) (lo : Nat → Int32) (cs : Int32) (Cs : Int) (hCs_ : cs.toInt = Cs) (rs : Int32) (Rs : Int) (hRs_ : rs.toInt = Rs) (hh0 : -11 ≤ Cs) (hh1 : Cs ≤ 11) (hh2 : -11 ≤ Rs) (hh3 : Rs ≤ 11) : Met l yX2_moveBy wsX2_moveBy ({ frames := 2, cells := 0, slots := 0, locals := 81 } : Room) (x_PW D cI cC cS tt [(q0, .inr (2, [.ref q1])), (q1, .inl (cI, 144, .inl (lv))), (o0, .inr (2, [.ref o1])), (o1, .inl (cI, 144, .inl (lo)))] sz [.ref q0, .int cs, .int rs, .ref o0]) (x_QWi D [(q0, .inr (2, [.ref q1])), (q1, .inl (cI, 144, .inl (lv))), (o0, .inr (2, [.ref o1])), (o1, .inl (cI, 144, .inl (lo)))] sz (fun (r : Int32) (w : va_W) => r = uP (mvN lv Cs Rs) lv ∧ w = [(q0, .inr (2, [.ref q1])), (q1, .inl (cI, 144, .inl (mvN lv Cs Rs))), (o0, .inr (2, [.ref o1])), (o1, .inl (cI, 144, .inl (lv)))])) 0 0 (va_A [(q0, .inr (2, [.ref q1])), (q1, .inl (cI, 144, .inl (lv))), (o0, .inr (2, [.ref o1])), (o1, .inl (cI, 144, .inl (lo)))] sz) := by
  refine Met.ofW (cc := cX2_moveBy) (maxL := 6) (ret := (some .int)) (by decide) rfl ?_
  intro p e s m args below meth c s₁ hBd hml hv
  obtain ⟨rfl, hsz, hP, hK, hD0, hE⟩ := hv
  have hx := hBd.exec
  have hb := hBd.bytes
  have hr := hBd.returns
  have hts := atoms_spec (ws := wsX2_moveBy) hBd.pre
  have hown : s.vm.findClass RX2 = some m.cls := findClass_of_methodNamed hBd.named
  have hlocks := hBd.notSynchronized
  subst hsz
  obtain ⟨Ar, hAe⟩ : ∃ Ar : Nat → Prop, Ar = va_A [(q0, .inr (2, [.ref q1])), (q1, .inl (cI, 144, .inl (lv))), (o0, .inr (2, [.ref o1])), (o1, .inl (cI, 144, .inl (lo)))] s.heap.size := ⟨_, rfl⟩
  have hD : va_D Ar [(q0, .inr (2, [.ref q1])), (q1, .inl (cI, 144, .inl (lv))), (o0, .inr (2, [.ref o1])), (o1, .inl (cI, 144, .inl (lo)))] := by rw [hAe]; exact hD0.self
  have hA : ∀ q : Nat, s.heap.size ≤ q → Ar q := fun q h => by rw [hAe]; exact Or.inr h
  have hE : x_E tt Ar s := by rw [hAe]; exact hE
  have hS : va_S Ar s.heap s.heap [] := va_S.rf
  have hl := lv_entry ([.ref q0, .int cs, .int rs, .ref o0]) (n := 6) (Nat.le_of_ble_eq_true rfl)
  rw [lg_entry_eq]
  generalize (lg_sl ([.ref q0, .int cs, .int rs, .ref o0]) ++ List.replicate (6 - (lg_sl ([.ref q0, .int cs, .int rs, .ref o0])).length) Slot.unset).toArray = ls at hl ⊢
  have hl : lv_has ls 6 [(0, .ref q0), (1, .int cs), (2, .int rs), (3, .ref o0)] := hl
  refine x_genQ (fun Q hQ => ?_)
  refine lv_aload_n hx hb dX2_moveBy_0 rfl (lv_at hl 3 rfl) ?_
  refine lv_aload_n hx hb dX2_moveBy_1 rfl (lv_at hl 0 rfl) ?_
  refine x_callWv (wc := [(o0, .inr (2, [.ref o1])), (o1, .inl (cI, 144, .inl (lo))), (q0, .inr (2, [.ref q1])), (q1, .inl (cI, 144, .inl (lv)))]) (wr := []) (va_runV (As := [.ref q0]) (rest := []) ⟨hx, hb, hml, hown, hts⟩ (c_X2_copyFrom l D cI cC cS tt s.heap.size o0 o1 q0 q1 lo lv) (cwV 1 hts gX2_moveBy_X2_copyFrom rfl rfl rfl (by decide +kernel) ⟨Nat.le_of_ble_eq_true rfl, Nat.le_of_ble_eq_true rfl⟩) ⟨x_blindW, va_recv hK hP (ci := 2) (q0 := 2) rfl rfl, x_preW hP hD hK hE hS hA [2, 3, 0, 1] rfl (by decide)⟩ rfl rfl hl.1 rfl (lv_room (Nat.le_of_ble_eq_true rfl)) dX2_moveBy_2 ⟨(Nat.le_of_ble_eq_true rfl), (Nat.le_of_ble_eq_true rfl)⟩) hP hD hS hA [2, 3, 0, 1] [] rfl rfl (by decide) (by decide) (fun w1 H locs hw hP hD hS => ?_)
  obtain rfl := hw
  have hP : va_P D vwCl [(o0, .inr (2, [.ref o1])), (o1, .inl (cI, 144, .inl (lv))), (q0, .inr (2, [.ref q1])), (q1, .inl (cI, 144, .inl (lv)))] H := hP
  have hD : va_D (Ar) [(o0, .inr (2, [.ref o1])), (o1, .inl (cI, 144, .inl (lv))), (q0, .inr (2, [.ref q1])), (q1, .inl (cI, 144, .inl (lv)))] := hD
  refine lv_iconst (v := 0) hx hb dX2_moveBy_5 (by decide) ?_
  refine lv_istore (lv' := [(4, .int 0), (0, .ref q0), (1, .int cs), (2, .int rs), (3, .ref o0)]) hx hb dX2_moveBy_6 hl (by decide) rfl (fun ls hl => ?_)
  have L8 : ∀ (fuel : Nat) (yy : Nat) (f : Nat → Int32), yy ≤ 12 → f = mvF lv Cs Rs yy 0 → 12 - yy < fuel → ∀ (H : Heap) (locs : List Loc), va_P D vwCl [(q0, .inr (2, [.ref q1])), (q1, .inl (cI, 144, .inl (f))), (o0, .inr (2, [.ref o1])), (o1, .inl (cI, 144, .inl (lv)))] H → va_D (Ar) [(q0, .inr (2, [.ref q1])), (q1, .inl (cI, 144, .inl (f))), (o0, .inr (2, [.ref o1])), (o1, .inl (cI, 144, .inl (lv)))] → va_S (Ar) s.heap H locs → ∀ (ls : Array Slot), lv_has ls 6 [(0, .ref q0), (1, .int cs), (2, .int rs), (3, .ref o0), (4, .int (nI yy))] → W p l e (headSpec wsX2_moveBy ({ frames := 2, cells := 0, slots := 0, locals := 81 } : Room)).room s m ([.ref q0, .int cs, .int rs, .ref o0] : List Value).toArray below meth c H locs 0 0 Q (F0 m 8 ls []) := by
    intro fuel
    induction fuel with
    | zero =>
      intro yy f hi8_0 hi8_1 hfu
      exact absurd hfu (Nat.not_lt_zero _)
    | succ fuel ih8 =>
      intro yy f hi8_0 hi8_1 hfu8 H locs hP hD hS ls hl
      refine lv_iload hx hb dX2_moveBy_8 (lv_at hl 4 rfl) ?_
      refine lv_bipush (v := 12) hx hb dX2_moveBy_10 (by decide) ?_
      refine x_icmp_ge (tgt := 57) hx hb dX2_moveBy_12 (by decide) (X := ((yy : Nat) : Int)) (nI_toI (by omega)) (Y := 12) (by decide) (fun c_12 => ?_) (fun c_12 => ?_)
      · skip
        refine lv_aload_n hx hb dX2_moveBy_57 rfl (lv_at hl 0 rfl) ?_
        refine lv_aload_n hx hb dX2_moveBy_58 rfl (lv_at hl 3 rfl) ?_
        refine x_callR (va_runV (As := [.ref o0]) (rest := []) ⟨hx, hb, hml, hown, hts⟩ (c_X2_unlikePoints l D cI cC cS tt q0 q1 o0 o1 f lv) (cwV 1 hts gX2_moveBy_X2_unlikePoints rfl rfl rfl (by decide +kernel) ⟨Nat.le_of_ble_eq_true rfl, Nat.le_of_ble_eq_true rfl⟩) ⟨x_blindR, va_recv hK hP (ci := 2) (q0 := 0) rfl rfl, x_preR (hP.sub (ws' := [(q0, .inr (2, [.ref q1])), (q1, .inl (cI, 144, .inl (f))), (o0, .inr (2, [.ref o1])), (o1, .inl (cI, 144, .inl (lv)))]) [0, 1, 2, 3] rfl) hK hE hS⟩ rfl rfl hl.1 rfl (lv_room (Nat.le_of_ble_eq_true rfl)) dX2_moveBy_59 ⟨(Nat.le_of_ble_eq_true rfl), (Nat.le_of_ble_eq_true rfl)⟩) ?_
        refine x_iretW (w := [(q0, .inr (2, [.ref q1])), (q1, .inl (cI, 144, .inl (f))), (o0, .inr (2, [.ref o1])), (o1, .inl (cI, 144, .inl (lv)))]) hQ hAe hx hb hr hlocks (hP.sub [0, 1, 2, 3] rfl) (hD.sub [0, 1, 2, 3] (by decide) rfl) hS ?_ dX2_moveBy_62
        exact ⟨by rw [hi8_1, mvF_end (by omega)], by rw [hi8_1, mvF_end (by omega)]⟩
      · skip
        refine lv_iconst (v := 0) hx hb dX2_moveBy_15 (by decide) ?_
        refine lv_istore (lv' := [(5, .int 0), (0, .ref q0), (1, .int cs), (2, .int rs), (3, .ref o0), (4, .int (nI yy))]) hx hb dX2_moveBy_16 hl (by decide) rfl (fun ls hl => ?_)
        have L18 : ∀ (fuel : Nat) (xx : Nat) (f : Nat → Int32), xx ≤ 12 → f = mvF lv Cs Rs yy xx → 12 - xx < fuel → ∀ (H : Heap) (locs : List Loc), va_P D vwCl [(q0, .inr (2, [.ref q1])), (q1, .inl (cI, 144, .inl (f))), (o0, .inr (2, [.ref o1])), (o1, .inl (cI, 144, .inl (lv)))] H → va_D (Ar) [(q0, .inr (2, [.ref q1])), (q1, .inl (cI, 144, .inl (f))), (o0, .inr (2, [.ref o1])), (o1, .inl (cI, 144, .inl (lv)))] → va_S (Ar) s.heap H locs → ∀ (ls : Array Slot), lv_has ls 6 [(0, .ref q0), (1, .int cs), (2, .int rs), (3, .ref o0), (4, .int (nI yy)), (5, .int (nI xx))] → W p l e (headSpec wsX2_moveBy ({ frames := 2, cells := 0, slots := 0, locals := 81 } : Room)).room s m ([.ref q0, .int cs, .int rs, .ref o0] : List Value).toArray below meth c H locs 0 0 Q (F0 m 18 ls []) := by
          intro fuel
          induction fuel with
          | zero =>
            intro xx f hi18_0 hi18_1 hfu
            exact absurd hfu (Nat.not_lt_zero _)
          | succ fuel ih18 =>
            intro xx f hi18_0 hi18_1 hfu18 H locs hP hD hS ls hl
            refine lv_iload hx hb dX2_moveBy_18 (lv_at hl 5 rfl) ?_
            refine lv_bipush (v := 12) hx hb dX2_moveBy_20 (by decide) ?_
            refine x_icmp_ge (tgt := 51) hx hb dX2_moveBy_22 (by decide) (X := ((xx : Nat) : Int)) (nI_toI (by omega)) (Y := 12) (by decide) (fun c_22 => ?_) (fun c_22 => ?_)
            · skip
              refine lv_iinc (v := nI (yy + 1)) (lv' := [(4, .int (nI (yy + 1))), (0, .ref q0), (1, .int cs), (2, .int rs), (3, .ref o0), (5, .int (nI xx))]) hx hb dX2_moveBy_51 hl (k := 4) rfl (nI_add _ _) (by decide) rfl (fun ls hl => ?_)
              refine lv_goto (tgt := 8) hx hb dX2_moveBy_54 (by decide) ?_
              exact ih8 (yy + 1) f (by first | assumption | omega | rfl) (by rw [hi18_1]; exact mvF_out (by omega)) (by omega) H locs (hP.sub [0, 1, 2, 3] rfl) (hD.sub [0, 1, 2, 3] (by decide) rfl) hS ls (lv_sub hl [1, 2, 3, 4, 0] rfl)
            · skip
              refine lv_aload_n hx hb dX2_moveBy_25 rfl (lv_at hl 0 rfl) ?_
              refine lv_iload hx hb dX2_moveBy_26 (lv_at hl 5 rfl) ?_
              refine lv_iload hx hb dX2_moveBy_28 (lv_at hl 4 rfl) ?_
              refine lv_aload_n hx hb dX2_moveBy_30 rfl (lv_at hl 3 rfl) ?_
              refine lv_iload hx hb dX2_moveBy_31 (lv_at hl 5 rfl) ?_
              refine lv_iload_n hx hb dX2_moveBy_33 rfl (lv_at hl 1 rfl) ?_
              refine lv_isub hx hb dX2_moveBy_34 ?_
              refine lv_iload hx hb dX2_moveBy_35 (lv_at hl 4 rfl) ?_
              refine lv_iload_n hx hb dX2_moveBy_37 rfl (lv_at hl 2 rfl) ?_
              refine lv_isub hx hb dX2_moveBy_38 ?_
              refine x_callR (va_runV (As := [.int ((nI xx) - cs), .int ((nI yy) - rs)]) (rest := [.int (nI yy), .int (nI xx), .ref q0]) ⟨hx, hb, hml, hown, hts⟩ (c_X2_levelAt l D cI cC cS tt o0 o1 lv ((nI xx) - cs) (((xx : Nat) : Int) - Cs) (x_subI (nI_toI (by omega)) hCs_ (by omega) (by omega)) ((nI yy) - rs) (((yy : Nat) : Int) - Rs) (x_subI (nI_toI (by omega)) hRs_ (by omega) (by omega))) (cwV 2 hts gX2_moveBy_X2_levelAt rfl rfl rfl (by decide +kernel) ⟨Nat.le_of_ble_eq_true rfl, Nat.le_of_ble_eq_true rfl⟩) ⟨x_blindR, va_recv hK hP (ci := 2) (q0 := 2) rfl rfl, x_preR (hP.sub (ws' := [(o0, .inr (2, [.ref o1])), (o1, .inl (cI, 144, .inl (lv)))]) [2, 3] rfl) hK hE hS⟩ rfl rfl hl.1 rfl (lv_room (Nat.le_of_ble_eq_true rfl)) dX2_moveBy_39 ⟨(Nat.le_of_ble_eq_true rfl), (Nat.le_of_ble_eq_true rfl)⟩) ?_
              refine x_callWv (wc := [(q0, .inr (2, [.ref q1])), (q1, .inl (cI, 144, .inl (f)))]) (wr := [(o0, .inr (2, [.ref o1])), (o1, .inl (cI, 144, .inl (lv)))]) (va_runV (As := [.int (nI xx), .int (nI yy), .int (gtZ lv (((xx : Nat) : Int) - Cs) (((yy : Nat) : Int) - Rs))]) (rest := []) ⟨hx, hb, hml, hown, hts⟩ (c_X2_putLevel l D cI cC cS tt H.size q0 q1 f (gtZ lv (((xx : Nat) : Int) - Cs) (((yy : Nat) : Int) - Rs)) (nI xx) ((xx : Nat) : Int) (nI_toI (by omega)) (nI yy) ((yy : Nat) : Int) (nI_toI (by omega))) (cwV 3 hts gX2_moveBy_X2_putLevel rfl rfl rfl (by decide +kernel) ⟨Nat.le_of_ble_eq_true rfl, Nat.le_of_ble_eq_true rfl⟩) ⟨x_blindW, va_recv hK hP (ci := 2) (q0 := 0) rfl rfl, x_preW hP hD hK hE hS hA [0, 1] rfl (by decide)⟩ rfl rfl hl.1 rfl (lv_room (Nat.le_of_ble_eq_true rfl)) dX2_moveBy_42 ⟨(Nat.le_of_ble_eq_true rfl), (Nat.le_of_ble_eq_true rfl)⟩) hP hD hS hA [0, 1] [2, 3] rfl rfl (by decide) (by decide) (fun w1 H locs hw hP hD hS => ?_)
              obtain rfl := hw
              have hP : va_P D vwCl [(q0, .inr (2, [.ref q1])), (q1, .inl (cI, 144, .inl (ptZ f ((xx : Nat) : Int) ((yy : Nat) : Int) (gtZ lv (((xx : Nat) : Int) - Cs) (((yy : Nat) : Int) - Rs))))), (o0, .inr (2, [.ref o1])), (o1, .inl (cI, 144, .inl (lv)))] H := hP
              have hD : va_D (Ar) [(q0, .inr (2, [.ref q1])), (q1, .inl (cI, 144, .inl (ptZ f ((xx : Nat) : Int) ((yy : Nat) : Int) (gtZ lv (((xx : Nat) : Int) - Cs) (((yy : Nat) : Int) - Rs))))), (o0, .inr (2, [.ref o1])), (o1, .inl (cI, 144, .inl (lv)))] := hD
              refine lv_iinc (v := nI (xx + 1)) (lv' := [(5, .int (nI (xx + 1))), (0, .ref q0), (1, .int cs), (2, .int rs), (3, .ref o0), (4, .int (nI yy))]) hx hb dX2_moveBy_45 hl (k := 5) rfl (nI_add _ _) (by decide) rfl (fun ls hl => ?_)
              refine lv_goto (tgt := 18) hx hb dX2_moveBy_48 (by decide) ?_
              exact ih18 (xx + 1) (ptZ f ((xx : Nat) : Int) ((yy : Nat) : Int) (gtZ lv (((xx : Nat) : Int) - Cs) (((yy : Nat) : Int) - Rs))) (by first | assumption | omega | rfl) (by rw [hi18_1]; exact mvF_put (by omega) (by omega)) (by omega) H locs (hP.sub [0, 1, 2, 3] rfl) (hD.sub [0, 1, 2, 3] (by decide) rfl) hS ls (lv_sub hl [1, 2, 3, 4, 5, 0] rfl)
        exact L18 _ 0 f (by first | assumption | omega | rfl) hi8_1 (Nat.lt_succ_self _) H locs (hP.sub [0, 1, 2, 3] rfl) (hD.sub [0, 1, 2, 3] (by decide) rfl) hS ls (lv_sub hl [1, 2, 3, 4, 5, 0] rfl)
  exact L8 _ 0 lv (by first | assumption | omega | rfl) mvF_0 (Nat.lt_succ_self _) H locs (hP.sub [2, 3, 0, 1] rfl) (hD.sub [2, 3, 0, 1] (by decide) rfl) hS ls (lv_sub hl [1, 2, 3, 4, 0] rfl)
set_option maxHeartbeats 4000000 in
set_option maxRecDepth 100000 in
theorem c_X2_takeTile (l : Launch) (D : va_G) (cI cC cS : ClassId) (tt : Nat → Nat) (sz : Nat) (q0 : Nat) (q1 : Nat) (o0 : Nat) (o1 : Nat) (T : Nat) (P : Nat) (lv : Nat → Int32) (lo : Nat → Int32) (hh0 : T < 9) (hh1 : P < 25) : Met l yX2_takeTile wsX2_takeTile ({ frames := 2, cells := 0, slots := 0, locals := 44 } : Room) (x_PW D cI cC cS tt [(q0, .inr (2, [.ref q1])), (q1, .inl (cI, 144, .inl (lv))), (o0, .inr (2, [.ref o1])), (o1, .inl (cI, 144, .inl (lo)))] sz [.ref q0, .ref o0, .int (nI T), .int (nI P)]) (x_QWv D [(q0, .inr (2, [.ref q1])), (q1, .inl (cI, 144, .inl (lv))), (o0, .inr (2, [.ref o1])), (o1, .inl (cI, 144, .inl (lo)))] sz (fun (w : va_W) => w = [(q0, .inr (2, [.ref q1])), (q1, .inl (cI, 144, .inl (tkN lv lo T P))), (o0, .inr (2, [.ref o1])), (o1, .inl (cI, 144, .inl (lo)))])) 0 0 (va_A [(q0, .inr (2, [.ref q1])), (q1, .inl (cI, 144, .inl (lv))), (o0, .inr (2, [.ref o1])), (o1, .inl (cI, 144, .inl (lo)))] sz) := by
  refine Met.ofW (cc := cX2_takeTile) (maxL := 10) (ret := none) (by decide) rfl ?_
  intro p e s m args below meth c s₁ hBd hml hv
  obtain ⟨rfl, hsz, hP, hK, hD0, hE⟩ := hv
  have hx := hBd.exec
  have hb := hBd.bytes
  have hr := hBd.returns
  have hts := atoms_spec (ws := wsX2_takeTile) hBd.pre
  have hown : s.vm.findClass RX2 = some m.cls := findClass_of_methodNamed hBd.named
  have hlocks := hBd.notSynchronized
  subst hsz
  obtain ⟨Ar, hAe⟩ : ∃ Ar : Nat → Prop, Ar = va_A [(q0, .inr (2, [.ref q1])), (q1, .inl (cI, 144, .inl (lv))), (o0, .inr (2, [.ref o1])), (o1, .inl (cI, 144, .inl (lo)))] s.heap.size := ⟨_, rfl⟩
  have hD : va_D Ar [(q0, .inr (2, [.ref q1])), (q1, .inl (cI, 144, .inl (lv))), (o0, .inr (2, [.ref o1])), (o1, .inl (cI, 144, .inl (lo)))] := by rw [hAe]; exact hD0.self
  have hA : ∀ q : Nat, s.heap.size ≤ q → Ar q := fun q h => by rw [hAe]; exact Or.inr h
  have hE : x_E tt Ar s := by rw [hAe]; exact hE
  have hS : va_S Ar s.heap s.heap [] := va_S.rf
  have hl := lv_entry ([.ref q0, .ref o0, .int (nI T), .int (nI P)]) (n := 10) (Nat.le_of_ble_eq_true rfl)
  rw [lg_entry_eq]
  generalize (lg_sl ([.ref q0, .ref o0, .int (nI T), .int (nI P)]) ++ List.replicate (10 - (lg_sl ([.ref q0, .ref o0, .int (nI T), .int (nI P)])).length) Slot.unset).toArray = ls at hl ⊢
  have hl : lv_has ls 10 [(0, .ref q0), (1, .ref o0), (2, .int (nI T)), (3, .int (nI P))] := hl
  refine x_genQ (fun Q hQ => ?_)
  have bsr := x_sr_b P hh1
  have bsd := x_sd_b P hh1
  refine lv_iload_n hx hb dX2_takeTile_0 rfl (lv_at hl 2 rfl) ?_
  refine x_callR (va_runSN (As := [.int (nI T)]) (rest := []) ⟨hx, hb, hml, hown, hts⟩ (c_X4_tileColumn l D cI cC cS tt T (by first | assumption | omega | decide)) ⟨(va_cnB 1 hts gX2_takeTile_X4_tileColumn_n46 rfl rfl rfl (x_nestk hE.1 (w := .methodLinkNest RX2 46 yX4_tileColumn RX4) 27 rfl) (hts (.initialized RX4) (by decide +kernel)) (by decide +kernel) ⟨Nat.le_of_ble_eq_true rfl, Nat.le_of_ble_eq_true rfl⟩), hts (.static yX4_tileColumn) (by decide +kernel), trivial⟩ ⟨x_blindR, x_preR (hP.sub (ws' := []) [] rfl) hK hE hS⟩ rfl rfl hl.1 rfl (lv_room (Nat.le_of_ble_eq_true rfl)) dX2_takeTile_1 ⟨(Nat.le_of_ble_eq_true rfl), (Nat.le_of_ble_eq_true rfl)⟩) ?_
  refine lv_istore (lv' := [(4, .int (nI (T % 3 * 4))), (0, .ref q0), (1, .ref o0), (2, .int (nI T)), (3, .int (nI P))]) hx hb dX2_takeTile_4 hl (by decide) rfl (fun ls hl => ?_)
  refine lv_iload_n hx hb dX2_takeTile_6 rfl (lv_at hl 3 rfl) ?_
  refine x_callR (va_runSN (As := [.int (nI T)]) (rest := []) ⟨hx, hb, hml, hown, hts⟩ (c_X4_tileRow l D cI cC cS tt T (by first | assumption | omega | decide)) ⟨(va_cnB 1 hts gX2_takeTile_X4_tileRow_n50 rfl rfl rfl (x_nestk hE.1 (w := .methodLinkNest RX2 50 yX4_tileRow RX4) 28 rfl) (hts (.initialized RX4) (by decide +kernel)) (by decide +kernel) ⟨Nat.le_of_ble_eq_true rfl, Nat.le_of_ble_eq_true rfl⟩), hts (.static yX4_tileRow) (by decide +kernel), trivial⟩ ⟨x_blindR, x_preR (hP.sub (ws' := []) [] rfl) hK hE hS⟩ rfl rfl hl.1 rfl (lv_room (Nat.le_of_ble_eq_true rfl)) dX2_takeTile_7 ⟨(Nat.le_of_ble_eq_true rfl), (Nat.le_of_ble_eq_true rfl)⟩) ?_
  refine lv_istore (lv' := [(5, .int (nI (T / 3 * 4))), (4, .int (nI (T % 3 * 4))), (0, .ref q0), (1, .ref o0), (2, .int (nI T)), (3, .int (nI P))]) hx hb dX2_takeTile_10 hl (by decide) rfl (fun ls hl => ?_)
  refine lv_iload_n hx hb dX2_takeTile_12 rfl (lv_at hl 5 rfl) ?_
  refine x_callR (va_runSN (As := [.int (nI P)]) (rest := []) ⟨hx, hb, hml, hown, hts⟩ (c_X4_stepRight l D cI cC cS tt P (by first | assumption | omega | decide)) ⟨(va_cnB 1 hts gX2_takeTile_X4_stepRight_n53 rfl rfl rfl (x_nestk hE.1 (w := .methodLinkNest RX2 53 yX4_stepRight RX4) 29 rfl) (hts (.initialized RX4) (by decide +kernel)) (by decide +kernel) ⟨Nat.le_of_ble_eq_true rfl, Nat.le_of_ble_eq_true rfl⟩), hts (.static yX4_stepRight) (by decide +kernel), trivial⟩ ⟨x_blindR, x_preR (hP.sub (ws' := []) [] rfl) hK hE hS⟩ rfl rfl hl.1 rfl (lv_room (Nat.le_of_ble_eq_true rfl)) dX2_takeTile_13 ⟨(Nat.le_of_ble_eq_true rfl), (Nat.le_of_ble_eq_true rfl)⟩) ?_
  refine lv_istore (lv' := [(6, .int (zI (x_sr P))), (5, .int (nI (T / 3 * 4))), (4, .int (nI (T % 3 * 4))), (0, .ref q0), (1, .ref o0), (2, .int (nI T)), (3, .int (nI P))]) hx hb dX2_takeTile_16 hl (by decide) rfl (fun ls hl => ?_)
  refine lv_iload_n hx hb dX2_takeTile_18 rfl (lv_at hl 6 rfl) ?_
  refine x_callR (va_runSN (As := [.int (nI P)]) (rest := []) ⟨hx, hb, hml, hown, hts⟩ (c_X4_stepDown l D cI cC cS tt P (by first | assumption | omega | decide)) ⟨(va_cnB 1 hts gX2_takeTile_X4_stepDown_n56 rfl rfl rfl (x_nestk hE.1 (w := .methodLinkNest RX2 56 yX4_stepDown RX4) 30 rfl) (hts (.initialized RX4) (by decide +kernel)) (by decide +kernel) ⟨Nat.le_of_ble_eq_true rfl, Nat.le_of_ble_eq_true rfl⟩), hts (.static yX4_stepDown) (by decide +kernel), trivial⟩ ⟨x_blindR, x_preR (hP.sub (ws' := []) [] rfl) hK hE hS⟩ rfl rfl hl.1 rfl (lv_room (Nat.le_of_ble_eq_true rfl)) dX2_takeTile_19 ⟨(Nat.le_of_ble_eq_true rfl), (Nat.le_of_ble_eq_true rfl)⟩) ?_
  refine lv_istore (lv' := [(7, .int (zI (x_sd P))), (6, .int (zI (x_sr P))), (5, .int (nI (T / 3 * 4))), (4, .int (nI (T % 3 * 4))), (0, .ref q0), (1, .ref o0), (2, .int (nI T)), (3, .int (nI P))]) hx hb dX2_takeTile_22 hl (by decide) rfl (fun ls hl => ?_)
  refine lv_iload hx hb dX2_takeTile_24 (lv_at hl 2 rfl) ?_
  refine lv_istore (lv' := [(8, .int (nI (T / 3 * 4))), (7, .int (zI (x_sd P))), (6, .int (zI (x_sr P))), (5, .int (nI (T / 3 * 4))), (4, .int (nI (T % 3 * 4))), (0, .ref q0), (1, .ref o0), (2, .int (nI T)), (3, .int (nI P))]) hx hb dX2_takeTile_26 hl (by decide) rfl (fun ls hl => ?_)
  have L28 : ∀ (fuel : Nat) (yy : Nat) (f : Nat → Int32), T / 3 * 4 ≤ yy → yy ≤ T / 3 * 4 + 4 → f = tkF lv lo T P yy 0 → 12 - yy < fuel → ∀ (H : Heap) (locs : List Loc), va_P D vwCl [(q0, .inr (2, [.ref q1])), (q1, .inl (cI, 144, .inl (f))), (o0, .inr (2, [.ref o1])), (o1, .inl (cI, 144, .inl (lo)))] H → va_D (Ar) [(q0, .inr (2, [.ref q1])), (q1, .inl (cI, 144, .inl (f))), (o0, .inr (2, [.ref o1])), (o1, .inl (cI, 144, .inl (lo)))] → va_S (Ar) s.heap H locs → ∀ (ls : Array Slot), lv_has ls 10 [(0, .ref q0), (1, .ref o0), (4, .int (nI (T % 3 * 4))), (5, .int (nI (T / 3 * 4))), (6, .int (zI (x_sr P))), (7, .int (zI (x_sd P))), (8, .int (nI yy))] → W p l e (headSpec wsX2_takeTile ({ frames := 2, cells := 0, slots := 0, locals := 44 } : Room)).room s m ([.ref q0, .ref o0, .int (nI T), .int (nI P)] : List Value).toArray below meth c H locs 0 0 Q (F0 m 28 ls []) := by
    intro fuel
    induction fuel with
    | zero =>
      intro yy f hi28_0 hi28_1 hi28_2 hfu
      exact absurd hfu (Nat.not_lt_zero _)
    | succ fuel ih28 =>
      intro yy f hi28_0 hi28_1 hi28_2 hfu28 H locs hP hD hS ls hl
      refine lv_iload hx hb dX2_takeTile_28 (lv_at hl 6 rfl) ?_
      refine lv_iload hx hb dX2_takeTile_30 (lv_at hl 3 rfl) ?_
      refine lv_iconst (v := 4) hx hb dX2_takeTile_32 (by decide) ?_
      refine lv_iadd hx hb dX2_takeTile_33 ?_
      refine x_eqi (show nI (T / 3 * 4) + 4 = nI ((T / 3 * 4) + 4) from nI_add (T / 3 * 4) 4) ?_
      refine x_icmp_ge (tgt := 84) hx hb dX2_takeTile_34 (by decide) (X := ((yy : Nat) : Int)) (nI_toI (by omega)) (Y := (((T / 3 * 4) + 4 : Nat) : Int)) (nI_toI (by omega)) (fun c_34 => ?_) (fun c_34 => ?_)
      · skip
        refine x_vretW (w := [(q0, .inr (2, [.ref q1])), (q1, .inl (cI, 144, .inl (f))), (o0, .inr (2, [.ref o1])), (o1, .inl (cI, 144, .inl (lo)))]) hQ hAe hx hb hr hlocks (hP.sub [0, 1, 2, 3] rfl) (hD.sub [0, 1, 2, 3] (by decide) rfl) hS ?_ dX2_takeTile_84
        rw [hi28_2, tkF_end (by omega)]
      · skip
        refine lv_iload hx hb dX2_takeTile_37 (lv_at hl 2 rfl) ?_
        refine lv_istore (lv' := [(9, .int (nI (T % 3 * 4))), (0, .ref q0), (1, .ref o0), (4, .int (nI (T % 3 * 4))), (5, .int (nI (T / 3 * 4))), (6, .int (zI (x_sr P))), (7, .int (zI (x_sd P))), (8, .int (nI yy))]) hx hb dX2_takeTile_39 hl (by decide) rfl (fun ls hl => ?_)
        have L41 : ∀ (fuel : Nat) (xx : Nat) (f : Nat → Int32), T % 3 * 4 ≤ xx → xx ≤ T % 3 * 4 + 4 → f = tkF lv lo T P yy xx → 12 - xx < fuel → ∀ (H : Heap) (locs : List Loc), va_P D vwCl [(q0, .inr (2, [.ref q1])), (q1, .inl (cI, 144, .inl (f))), (o0, .inr (2, [.ref o1])), (o1, .inl (cI, 144, .inl (lo)))] H → va_D (Ar) [(q0, .inr (2, [.ref q1])), (q1, .inl (cI, 144, .inl (f))), (o0, .inr (2, [.ref o1])), (o1, .inl (cI, 144, .inl (lo)))] → va_S (Ar) s.heap H locs → ∀ (ls : Array Slot), lv_has ls 10 [(0, .ref q0), (1, .ref o0), (4, .int (nI (T % 3 * 4))), (5, .int (nI (T / 3 * 4))), (6, .int (zI (x_sr P))), (7, .int (zI (x_sd P))), (8, .int (nI yy)), (9, .int (nI xx))] → W p l e (headSpec wsX2_takeTile ({ frames := 2, cells := 0, slots := 0, locals := 44 } : Room)).room s m ([.ref q0, .ref o0, .int (nI T), .int (nI P)] : List Value).toArray below meth c H locs 0 0 Q (F0 m 41 ls []) := by
          intro fuel
          induction fuel with
          | zero =>
            intro xx f hi41_0 hi41_1 hi41_2 hfu
            exact absurd hfu (Nat.not_lt_zero _)
          | succ fuel ih41 =>
            intro xx f hi41_0 hi41_1 hi41_2 hfu41 H locs hP hD hS ls hl
            refine lv_iload hx hb dX2_takeTile_41 (lv_at hl 7 rfl) ?_
            refine lv_iload hx hb dX2_takeTile_43 (lv_at hl 2 rfl) ?_
            refine lv_iconst (v := 4) hx hb dX2_takeTile_45 (by decide) ?_
            refine lv_iadd hx hb dX2_takeTile_46 ?_
            refine x_eqi (show nI (T % 3 * 4) + 4 = nI ((T % 3 * 4) + 4) from nI_add (T % 3 * 4) 4) ?_
            refine x_icmp_ge (tgt := 78) hx hb dX2_takeTile_47 (by decide) (X := ((xx : Nat) : Int)) (nI_toI (by omega)) (Y := (((T % 3 * 4) + 4 : Nat) : Int)) (nI_toI (by omega)) (fun c_47 => ?_) (fun c_47 => ?_)
            · skip
              refine lv_iinc (v := nI (yy + 1)) (lv' := [(8, .int (nI (yy + 1))), (0, .ref q0), (1, .ref o0), (4, .int (nI (T % 3 * 4))), (5, .int (nI (T / 3 * 4))), (6, .int (zI (x_sr P))), (7, .int (zI (x_sd P))), (9, .int (nI xx))]) hx hb dX2_takeTile_78 hl (k := 6) rfl (nI_add _ _) (by decide) rfl (fun ls hl => ?_)
              refine lv_goto (tgt := 28) hx hb dX2_takeTile_81 (by decide) ?_
              exact ih28 (yy + 1) f (by first | assumption | omega | rfl) (by first | assumption | omega | rfl) (by rw [hi41_2]; exact tkF_out (by omega)) (by omega) H locs (hP.sub [0, 1, 2, 3] rfl) (hD.sub [0, 1, 2, 3] (by decide) rfl) hS ls (lv_sub hl [1, 2, 3, 4, 5, 6, 0] rfl)
            · skip
              refine lv_aload_n hx hb dX2_takeTile_50 rfl (lv_at hl 0 rfl) ?_
              refine lv_iload hx hb dX2_takeTile_51 (lv_at hl 7 rfl) ?_
              refine lv_iload hx hb dX2_takeTile_53 (lv_at hl 6 rfl) ?_
              refine lv_aload_n hx hb dX2_takeTile_55 rfl (lv_at hl 1 rfl) ?_
              refine lv_iload hx hb dX2_takeTile_56 (lv_at hl 7 rfl) ?_
              refine lv_iload hx hb dX2_takeTile_58 (lv_at hl 4 rfl) ?_
              refine lv_iadd hx hb dX2_takeTile_60 ?_
              refine lv_iload hx hb dX2_takeTile_61 (lv_at hl 6 rfl) ?_
              refine lv_iload hx hb dX2_takeTile_63 (lv_at hl 5 rfl) ?_
              refine lv_iadd hx hb dX2_takeTile_65 ?_
              refine x_callR (va_runV (As := [.int ((nI xx) + (zI (x_sr P))), .int ((nI yy) + (zI (x_sd P)))]) (rest := [.int (nI yy), .int (nI xx), .ref q0]) ⟨hx, hb, hml, hown, hts⟩ (c_X2_levelAt l D cI cC cS tt o0 o1 lo ((nI xx) + (zI (x_sr P))) (((xx : Nat) : Int) + x_sr P) (x_addI (nI_toI (by omega)) (x_sr_toI P) (by omega) (by omega)) ((nI yy) + (zI (x_sd P))) (((yy : Nat) : Int) + x_sd P) (x_addI (nI_toI (by omega)) (x_sd_toI P) (by omega) (by omega))) (cwV 2 hts gX2_takeTile_X2_levelAt rfl rfl rfl (by decide +kernel) ⟨Nat.le_of_ble_eq_true rfl, Nat.le_of_ble_eq_true rfl⟩) ⟨x_blindR, va_recv hK hP (ci := 2) (q0 := 2) rfl rfl, x_preR (hP.sub (ws' := [(o0, .inr (2, [.ref o1])), (o1, .inl (cI, 144, .inl (lo)))]) [2, 3] rfl) hK hE hS⟩ rfl rfl hl.1 rfl (lv_room (Nat.le_of_ble_eq_true rfl)) dX2_takeTile_66 ⟨(Nat.le_of_ble_eq_true rfl), (Nat.le_of_ble_eq_true rfl)⟩) ?_
              refine x_callWv (wc := [(q0, .inr (2, [.ref q1])), (q1, .inl (cI, 144, .inl (f)))]) (wr := [(o0, .inr (2, [.ref o1])), (o1, .inl (cI, 144, .inl (lo)))]) (va_runV (As := [.int (nI xx), .int (nI yy), .int (gtZ lo (((xx : Nat) : Int) + x_sr P) (((yy : Nat) : Int) + x_sd P))]) (rest := []) ⟨hx, hb, hml, hown, hts⟩ (c_X2_putLevel l D cI cC cS tt H.size q0 q1 f (gtZ lo (((xx : Nat) : Int) + x_sr P) (((yy : Nat) : Int) + x_sd P)) (nI xx) ((xx : Nat) : Int) (nI_toI (by omega)) (nI yy) ((yy : Nat) : Int) (nI_toI (by omega))) (cwV 3 hts gX2_takeTile_X2_putLevel rfl rfl rfl (by decide +kernel) ⟨Nat.le_of_ble_eq_true rfl, Nat.le_of_ble_eq_true rfl⟩) ⟨x_blindW, va_recv hK hP (ci := 2) (q0 := 0) rfl rfl, x_preW hP hD hK hE hS hA [0, 1] rfl (by decide)⟩ rfl rfl hl.1 rfl (lv_room (Nat.le_of_ble_eq_true rfl)) dX2_takeTile_69 ⟨(Nat.le_of_ble_eq_true rfl), (Nat.le_of_ble_eq_true rfl)⟩) hP hD hS hA [0, 1] [2, 3] rfl rfl (by decide) (by decide) (fun w1 H locs hw hP hD hS => ?_)
              obtain rfl := hw
              have hP : va_P D vwCl [(q0, .inr (2, [.ref q1])), (q1, .inl (cI, 144, .inl (ptZ f ((xx : Nat) : Int) ((yy : Nat) : Int) (gtZ lo (((xx : Nat) : Int) + x_sr P) (((yy : Nat) : Int) + x_sd P))))), (o0, .inr (2, [.ref o1])), (o1, .inl (cI, 144, .inl (lo)))] H := hP
              have hD : va_D (Ar) [(q0, .inr (2, [.ref q1])), (q1, .inl (cI, 144, .inl (ptZ f ((xx : Nat) : Int) ((yy : Nat) : Int) (gtZ lo (((xx : Nat) : Int) + x_sr P) (((yy : Nat) : Int) + x_sd P))))), (o0, .inr (2, [.ref o1])), (o1, .inl (cI, 144, .inl (lo)))] := hD
              refine lv_iinc (v := nI (xx + 1)) (lv' := [(9, .int (nI (xx + 1))), (0, .ref q0), (1, .ref o0), (4, .int (nI (T % 3 * 4))), (5, .int (nI (T / 3 * 4))), (6, .int (zI (x_sr P))), (7, .int (zI (x_sd P))), (8, .int (nI yy))]) hx hb dX2_takeTile_72 hl (k := 7) rfl (nI_add _ _) (by decide) rfl (fun ls hl => ?_)
              refine lv_goto (tgt := 41) hx hb dX2_takeTile_75 (by decide) ?_
              exact ih41 (xx + 1) (ptZ f ((xx : Nat) : Int) ((yy : Nat) : Int) (gtZ lo (((xx : Nat) : Int) + x_sr P) (((yy : Nat) : Int) + x_sd P))) (by first | assumption | omega | rfl) (by first | assumption | omega | rfl) (by rw [hi41_2]; exact tkF_put (by omega) (by omega) (by omega) (by omega) (by omega)) (by omega) H locs (hP.sub [0, 1, 2, 3] rfl) (hD.sub [0, 1, 2, 3] (by decide) rfl) hS ls (lv_sub hl [1, 2, 3, 4, 5, 6, 7, 0] rfl)
        exact L41 _ (T % 3 * 4) f (by first | assumption | omega | rfl) (by first | assumption | omega | rfl) (by rw [hi28_2]; exact tkF_in) (Nat.lt_succ_self _) H locs (hP.sub [0, 1, 2, 3] rfl) (hD.sub [0, 1, 2, 3] (by decide) rfl) hS ls (lv_sub hl [1, 2, 3, 4, 5, 6, 7, 0] rfl)
  exact L28 _ (T / 3 * 4) lv (by first | assumption | omega | rfl) (by first | assumption | omega | rfl) tkF_0 (Nat.lt_succ_self _) s.heap [] (hP.sub [0, 1, 2, 3] rfl) (hD.sub [0, 1, 2, 3] (by decide) rfl) hS ls (lv_sub hl [5, 6, 4, 3, 2, 1, 0] rfl)
set_option maxHeartbeats 4000000 in
set_option maxRecDepth 100000 in
theorem c_X2_tileDifference (l : Launch) (D : va_G) (cI cC cS : ClassId) (tt : Nat → Nat) (q0 : Nat) (q1 : Nat) (o0 : Nat) (o1 : Nat) (T : Nat) (P : Nat) (lv : Nat → Int32) (lo : Nat → Int32) (hh0 : T < 9) (hh1 : P < 25) : Met l yX2_tileDifference wsX2_tileDifference ({ frames := 2, cells := 0, slots := 0, locals := 43 } : Room) (x_PR D cI cC cS tt [(q0, .inr (2, [.ref q1])), (q1, .inl (cI, 144, .inl (lv))), (o0, .inr (2, [.ref o1])), (o1, .inl (cI, 144, .inl (lo)))] [.ref q0, .ref o0, .int (nI T), .int (nI P)]) (QcRead (tdS lv lo T P)) 0 0 (fun _ => False) := by
  refine Met.ofW (cc := cX2_tileDifference) (maxL := 11) (ret := (some .int)) (by decide) rfl ?_
  intro p e s m args below meth c s₁ hBd hml hv
  obtain ⟨rfl, hP, hK, hE⟩ := hv
  have hx := hBd.exec
  have hb := hBd.bytes
  have hr := hBd.returns
  have hts := atoms_spec (ws := wsX2_tileDifference) hBd.pre
  have hown : s.vm.findClass RX2 = some m.cls := findClass_of_methodNamed hBd.named
  have hlocks := hBd.notSynchronized
  have hS : va_S (fun _ => False) s.heap s.heap [] := va_S.rf
  have hl := lv_entry ([.ref q0, .ref o0, .int (nI T), .int (nI P)]) (n := 11) (Nat.le_of_ble_eq_true rfl)
  rw [lg_entry_eq]
  generalize (lg_sl ([.ref q0, .ref o0, .int (nI T), .int (nI P)]) ++ List.replicate (11 - (lg_sl ([.ref q0, .ref o0, .int (nI T), .int (nI P)])).length) Slot.unset).toArray = ls at hl ⊢
  have hl : lv_has ls 11 [(0, .ref q0), (1, .ref o0), (2, .int (nI T)), (3, .int (nI P))] := hl
  refine x_genQ (fun Q hQ => ?_)
  have bsr := x_sr_b P hh1
  have bsd := x_sd_b P hh1
  refine lv_iload_n hx hb dX2_tileDifference_0 rfl (lv_at hl 2 rfl) ?_
  refine x_callR (va_runSN (As := [.int (nI T)]) (rest := []) ⟨hx, hb, hml, hown, hts⟩ (c_X4_tileColumn l D cI cC cS tt T (by first | assumption | omega | decide)) ⟨(va_cnB 1 hts gX2_tileDifference_X4_tileColumn_n46 rfl rfl rfl (x_nestk hE.1 (w := .methodLinkNest RX2 46 yX4_tileColumn RX4) 27 rfl) (hts (.initialized RX4) (by decide +kernel)) (by decide +kernel) ⟨Nat.le_of_ble_eq_true rfl, Nat.le_of_ble_eq_true rfl⟩), hts (.static yX4_tileColumn) (by decide +kernel), trivial⟩ ⟨x_blindR, x_preR (hP.sub (ws' := []) [] rfl) hK hE hS⟩ rfl rfl hl.1 rfl (lv_room (Nat.le_of_ble_eq_true rfl)) dX2_tileDifference_1 ⟨(Nat.le_of_ble_eq_true rfl), (Nat.le_of_ble_eq_true rfl)⟩) ?_
  refine lv_istore (lv' := [(4, .int (nI (T % 3 * 4))), (0, .ref q0), (1, .ref o0), (2, .int (nI T)), (3, .int (nI P))]) hx hb dX2_tileDifference_4 hl (by decide) rfl (fun ls hl => ?_)
  refine lv_iload_n hx hb dX2_tileDifference_6 rfl (lv_at hl 3 rfl) ?_
  refine x_callR (va_runSN (As := [.int (nI T)]) (rest := []) ⟨hx, hb, hml, hown, hts⟩ (c_X4_tileRow l D cI cC cS tt T (by first | assumption | omega | decide)) ⟨(va_cnB 1 hts gX2_tileDifference_X4_tileRow_n50 rfl rfl rfl (x_nestk hE.1 (w := .methodLinkNest RX2 50 yX4_tileRow RX4) 28 rfl) (hts (.initialized RX4) (by decide +kernel)) (by decide +kernel) ⟨Nat.le_of_ble_eq_true rfl, Nat.le_of_ble_eq_true rfl⟩), hts (.static yX4_tileRow) (by decide +kernel), trivial⟩ ⟨x_blindR, x_preR (hP.sub (ws' := []) [] rfl) hK hE hS⟩ rfl rfl hl.1 rfl (lv_room (Nat.le_of_ble_eq_true rfl)) dX2_tileDifference_7 ⟨(Nat.le_of_ble_eq_true rfl), (Nat.le_of_ble_eq_true rfl)⟩) ?_
  refine lv_istore (lv' := [(5, .int (nI (T / 3 * 4))), (4, .int (nI (T % 3 * 4))), (0, .ref q0), (1, .ref o0), (2, .int (nI T)), (3, .int (nI P))]) hx hb dX2_tileDifference_10 hl (by decide) rfl (fun ls hl => ?_)
  refine lv_iload_n hx hb dX2_tileDifference_12 rfl (lv_at hl 5 rfl) ?_
  refine x_callR (va_runSN (As := [.int (nI P)]) (rest := []) ⟨hx, hb, hml, hown, hts⟩ (c_X4_stepRight l D cI cC cS tt P (by first | assumption | omega | decide)) ⟨(va_cnB 1 hts gX2_tileDifference_X4_stepRight_n53 rfl rfl rfl (x_nestk hE.1 (w := .methodLinkNest RX2 53 yX4_stepRight RX4) 29 rfl) (hts (.initialized RX4) (by decide +kernel)) (by decide +kernel) ⟨Nat.le_of_ble_eq_true rfl, Nat.le_of_ble_eq_true rfl⟩), hts (.static yX4_stepRight) (by decide +kernel), trivial⟩ ⟨x_blindR, x_preR (hP.sub (ws' := []) [] rfl) hK hE hS⟩ rfl rfl hl.1 rfl (lv_room (Nat.le_of_ble_eq_true rfl)) dX2_tileDifference_13 ⟨(Nat.le_of_ble_eq_true rfl), (Nat.le_of_ble_eq_true rfl)⟩) ?_
  refine lv_istore (lv' := [(6, .int (zI (x_sr P))), (5, .int (nI (T / 3 * 4))), (4, .int (nI (T % 3 * 4))), (0, .ref q0), (1, .ref o0), (2, .int (nI T)), (3, .int (nI P))]) hx hb dX2_tileDifference_16 hl (by decide) rfl (fun ls hl => ?_)
  refine lv_iload_n hx hb dX2_tileDifference_18 rfl (lv_at hl 6 rfl) ?_
  refine x_callR (va_runSN (As := [.int (nI P)]) (rest := []) ⟨hx, hb, hml, hown, hts⟩ (c_X4_stepDown l D cI cC cS tt P (by first | assumption | omega | decide)) ⟨(va_cnB 1 hts gX2_tileDifference_X4_stepDown_n56 rfl rfl rfl (x_nestk hE.1 (w := .methodLinkNest RX2 56 yX4_stepDown RX4) 30 rfl) (hts (.initialized RX4) (by decide +kernel)) (by decide +kernel) ⟨Nat.le_of_ble_eq_true rfl, Nat.le_of_ble_eq_true rfl⟩), hts (.static yX4_stepDown) (by decide +kernel), trivial⟩ ⟨x_blindR, x_preR (hP.sub (ws' := []) [] rfl) hK hE hS⟩ rfl rfl hl.1 rfl (lv_room (Nat.le_of_ble_eq_true rfl)) dX2_tileDifference_19 ⟨(Nat.le_of_ble_eq_true rfl), (Nat.le_of_ble_eq_true rfl)⟩) ?_
  refine lv_istore (lv' := [(7, .int (zI (x_sd P))), (6, .int (zI (x_sr P))), (5, .int (nI (T / 3 * 4))), (4, .int (nI (T % 3 * 4))), (0, .ref q0), (1, .ref o0), (2, .int (nI T)), (3, .int (nI P))]) hx hb dX2_tileDifference_22 hl (by decide) rfl (fun ls hl => ?_)
  refine lv_iconst (v := 0) hx hb dX2_tileDifference_24 (by decide) ?_
  refine lv_istore (lv' := [(8, .int 0), (7, .int (zI (x_sd P))), (6, .int (zI (x_sr P))), (5, .int (nI (T / 3 * 4))), (4, .int (nI (T % 3 * 4))), (0, .ref q0), (1, .ref o0), (2, .int (nI T)), (3, .int (nI P))]) hx hb dX2_tileDifference_25 hl (by decide) rfl (fun ls hl => ?_)
  refine lv_iload hx hb dX2_tileDifference_27 (lv_at hl 3 rfl) ?_
  refine lv_istore (lv' := [(9, .int (nI (T / 3 * 4))), (8, .int 0), (7, .int (zI (x_sd P))), (6, .int (zI (x_sr P))), (5, .int (nI (T / 3 * 4))), (4, .int (nI (T % 3 * 4))), (0, .ref q0), (1, .ref o0), (2, .int (nI T)), (3, .int (nI P))]) hx hb dX2_tileDifference_29 hl (by decide) rfl (fun ls hl => ?_)
  have L31 : ∀ (fuel : Nat) (yy : Nat) (n : Int32), T / 3 * 4 ≤ yy → yy ≤ T / 3 * 4 + 4 → n = sm (fun j => tdR lv lo T P (T / 3 * 4 + j)) (yy - T / 3 * 4) → 12 - yy < fuel → ∀ (ls : Array Slot), lv_has ls 11 [(0, .ref q0), (1, .ref o0), (4, .int (nI (T % 3 * 4))), (5, .int (nI (T / 3 * 4))), (6, .int (zI (x_sr P))), (7, .int (zI (x_sd P))), (8, .int n), (9, .int (nI yy))] → W p l e (headSpec wsX2_tileDifference ({ frames := 2, cells := 0, slots := 0, locals := 43 } : Room)).room s m ([.ref q0, .ref o0, .int (nI T), .int (nI P)] : List Value).toArray below meth c s.heap [] 0 0 Q (F0 m 31 ls []) := by
    intro fuel
    induction fuel with
    | zero =>
      intro yy n hi31_0 hi31_1 hi31_2 hfu
      exact absurd hfu (Nat.not_lt_zero _)
    | succ fuel ih31 =>
      intro yy n hi31_0 hi31_1 hi31_2 hfu31 ls hl
      refine lv_iload hx hb dX2_tileDifference_31 (lv_at hl 7 rfl) ?_
      refine lv_iload hx hb dX2_tileDifference_33 (lv_at hl 3 rfl) ?_
      refine lv_iconst (v := 4) hx hb dX2_tileDifference_35 (by decide) ?_
      refine lv_iadd hx hb dX2_tileDifference_36 ?_
      refine x_eqi (show nI (T / 3 * 4) + 4 = nI ((T / 3 * 4) + 4) from nI_add (T / 3 * 4) 4) ?_
      refine x_icmp_ge (tgt := 96) hx hb dX2_tileDifference_37 (by decide) (X := ((yy : Nat) : Int)) (nI_toI (by omega)) (Y := (((T / 3 * 4) + 4 : Nat) : Int)) (nI_toI (by omega)) (fun c_37 => ?_) (fun c_37 => ?_)
      · skip
        refine lv_iload hx hb dX2_tileDifference_96 (lv_at hl 6 rfl) ?_
        exact x_iretR hQ hx hb hr hlocks (by rw [hi31_2, show yy - T / 3 * 4 = 4 by omega]; rfl) dX2_tileDifference_98
      · skip
        refine lv_iload hx hb dX2_tileDifference_40 (lv_at hl 2 rfl) ?_
        refine lv_istore (lv' := [(10, .int (nI (T % 3 * 4))), (0, .ref q0), (1, .ref o0), (4, .int (nI (T % 3 * 4))), (5, .int (nI (T / 3 * 4))), (6, .int (zI (x_sr P))), (7, .int (zI (x_sd P))), (8, .int n), (9, .int (nI yy))]) hx hb dX2_tileDifference_42 hl (by decide) rfl (fun ls hl => ?_)
        have L44 : ∀ (fuel : Nat) (xx : Nat) (n : Int32), T % 3 * 4 ≤ xx → xx ≤ T % 3 * 4 + 4 → n = sm (fun j => tdR lv lo T P (T / 3 * 4 + j)) (yy - T / 3 * 4) + sm (fun i => tdT lv lo P (T % 3 * 4 + i) yy) (xx - T % 3 * 4) → 12 - xx < fuel → ∀ (ls : Array Slot), lv_has ls 11 [(0, .ref q0), (1, .ref o0), (4, .int (nI (T % 3 * 4))), (5, .int (nI (T / 3 * 4))), (6, .int (zI (x_sr P))), (7, .int (zI (x_sd P))), (8, .int n), (9, .int (nI yy)), (10, .int (nI xx))] → W p l e (headSpec wsX2_tileDifference ({ frames := 2, cells := 0, slots := 0, locals := 43 } : Room)).room s m ([.ref q0, .ref o0, .int (nI T), .int (nI P)] : List Value).toArray below meth c s.heap [] 0 0 Q (F0 m 44 ls []) := by
          intro fuel
          induction fuel with
          | zero =>
            intro xx n hi44_0 hi44_1 hi44_2 hfu
            exact absurd hfu (Nat.not_lt_zero _)
          | succ fuel ih44 =>
            intro xx n hi44_0 hi44_1 hi44_2 hfu44 ls hl
            refine lv_iload hx hb dX2_tileDifference_44 (lv_at hl 8 rfl) ?_
            refine lv_iload hx hb dX2_tileDifference_46 (lv_at hl 2 rfl) ?_
            refine lv_iconst (v := 4) hx hb dX2_tileDifference_48 (by decide) ?_
            refine lv_iadd hx hb dX2_tileDifference_49 ?_
            refine x_eqi (show nI (T % 3 * 4) + 4 = nI ((T % 3 * 4) + 4) from nI_add (T % 3 * 4) 4) ?_
            refine x_icmp_ge (tgt := 90) hx hb dX2_tileDifference_50 (by decide) (X := ((xx : Nat) : Int)) (nI_toI (by omega)) (Y := (((T % 3 * 4) + 4 : Nat) : Int)) (nI_toI (by omega)) (fun c_50 => ?_) (fun c_50 => ?_)
            · skip
              refine lv_iinc (v := nI (yy + 1)) (lv' := [(9, .int (nI (yy + 1))), (0, .ref q0), (1, .ref o0), (4, .int (nI (T % 3 * 4))), (5, .int (nI (T / 3 * 4))), (6, .int (zI (x_sr P))), (7, .int (zI (x_sd P))), (8, .int n), (10, .int (nI xx))]) hx hb dX2_tileDifference_90 hl (k := 7) rfl (nI_add _ _) (by decide) rfl (fun ls hl => ?_)
              refine lv_goto (tgt := 31) hx hb dX2_tileDifference_93 (by decide) ?_
              exact ih31 (yy + 1) n (by first | assumption | omega | rfl) (by first | assumption | omega | rfl) (by rw [hi44_2, show yy + 1 - T / 3 * 4 = (yy - T / 3 * 4) + 1 by omega, sm_s, show xx - T % 3 * 4 = 4 by omega]; exact congrArg _ (by rw [show T / 3 * 4 + (yy - T / 3 * 4) = yy by omega]; rfl)) (by omega) ls (lv_sub hl [1, 2, 3, 4, 5, 6, 7, 0] rfl)
            · skip
              refine lv_iload hx hb dX2_tileDifference_53 (lv_at hl 6 rfl) ?_
              refine lv_aload_n hx hb dX2_tileDifference_55 rfl (lv_at hl 0 rfl) ?_
              refine lv_iload hx hb dX2_tileDifference_56 (lv_at hl 8 rfl) ?_
              refine lv_iload hx hb dX2_tileDifference_58 (lv_at hl 7 rfl) ?_
              refine x_callR (va_runV (As := [.int (nI xx), .int (nI yy)]) (rest := [.int n]) ⟨hx, hb, hml, hown, hts⟩ (c_X2_levelAt l D cI cC cS tt q0 q1 lv (nI xx) ((xx : Nat) : Int) (nI_toI (by omega)) (nI yy) ((yy : Nat) : Int) (nI_toI (by omega))) (cwV 2 hts gX2_tileDifference_X2_levelAt rfl rfl rfl (by decide +kernel) ⟨Nat.le_of_ble_eq_true rfl, Nat.le_of_ble_eq_true rfl⟩) ⟨x_blindR, va_recv hK hP (ci := 2) (q0 := 0) rfl rfl, x_preR (hP.sub (ws' := [(q0, .inr (2, [.ref q1])), (q1, .inl (cI, 144, .inl (lv)))]) [0, 1] rfl) hK hE hS⟩ rfl rfl hl.1 rfl (lv_room (Nat.le_of_ble_eq_true rfl)) dX2_tileDifference_60 ⟨(Nat.le_of_ble_eq_true rfl), (Nat.le_of_ble_eq_true rfl)⟩) ?_
              refine lv_aload_n hx hb dX2_tileDifference_63 rfl (lv_at hl 1 rfl) ?_
              refine lv_iload hx hb dX2_tileDifference_64 (lv_at hl 8 rfl) ?_
              refine lv_iload hx hb dX2_tileDifference_66 (lv_at hl 4 rfl) ?_
              refine lv_iadd hx hb dX2_tileDifference_68 ?_
              refine lv_iload hx hb dX2_tileDifference_69 (lv_at hl 7 rfl) ?_
              refine lv_iload hx hb dX2_tileDifference_71 (lv_at hl 5 rfl) ?_
              refine lv_iadd hx hb dX2_tileDifference_73 ?_
              refine x_callR (va_runV (As := [.int ((nI xx) + (zI (x_sr P))), .int ((nI yy) + (zI (x_sd P)))]) (rest := [.int (gtZ lv ((xx : Nat) : Int) ((yy : Nat) : Int)), .int n]) ⟨hx, hb, hml, hown, hts⟩ (c_X2_levelAt l D cI cC cS tt o0 o1 lo ((nI xx) + (zI (x_sr P))) (((xx : Nat) : Int) + x_sr P) (x_addI (nI_toI (by omega)) (x_sr_toI P) (by omega) (by omega)) ((nI yy) + (zI (x_sd P))) (((yy : Nat) : Int) + x_sd P) (x_addI (nI_toI (by omega)) (x_sd_toI P) (by omega) (by omega))) (cwV 2 hts gX2_tileDifference_X2_levelAt rfl rfl rfl (by decide +kernel) ⟨Nat.le_of_ble_eq_true rfl, Nat.le_of_ble_eq_true rfl⟩) ⟨x_blindR, va_recv hK hP (ci := 2) (q0 := 2) rfl rfl, x_preR (hP.sub (ws' := [(o0, .inr (2, [.ref o1])), (o1, .inl (cI, 144, .inl (lo)))]) [2, 3] rfl) hK hE hS⟩ rfl rfl hl.1 rfl (lv_room (Nat.le_of_ble_eq_true rfl)) dX2_tileDifference_74 ⟨(Nat.le_of_ble_eq_true rfl), (Nat.le_of_ble_eq_true rfl)⟩) ?_
              refine lv_isub hx hb dX2_tileDifference_77 ?_
              refine va_mabs hx hb (by rw [hml]; exact hl.1.symm) hown (hts (.methodLink RX2 59 Lib.Math.abs.name) (by decide +kernel)) (hts (.static Lib.Math.abs.name) (by decide +kernel)) (hts (.initialized "java/lang/Math") (by decide +kernel)) (hts (.code Lib.Math.abs.name Lib.Math.abs.code 1 (some .int)) (by decide +kernel)) (Nat.le_of_ble_eq_true rfl) (Nat.le_of_ble_eq_true rfl) (Nat.le_of_ble_eq_true rfl) (Nat.le_of_ble_eq_true rfl) dX2_tileDifference_78 ?_
              refine lv_iadd hx hb dX2_tileDifference_81 ?_
              refine lv_istore (lv' := [(8, .int (n + (if 0 ≤ ((gtZ lv ((xx : Nat) : Int) ((yy : Nat) : Int)) - (gtZ lo (((xx : Nat) : Int) + x_sr P) (((yy : Nat) : Int) + x_sd P))) then ((gtZ lv ((xx : Nat) : Int) ((yy : Nat) : Int)) - (gtZ lo (((xx : Nat) : Int) + x_sr P) (((yy : Nat) : Int) + x_sd P))) else 0 - ((gtZ lv ((xx : Nat) : Int) ((yy : Nat) : Int)) - (gtZ lo (((xx : Nat) : Int) + x_sr P) (((yy : Nat) : Int) + x_sd P)))))), (0, .ref q0), (1, .ref o0), (4, .int (nI (T % 3 * 4))), (5, .int (nI (T / 3 * 4))), (6, .int (zI (x_sr P))), (7, .int (zI (x_sd P))), (9, .int (nI yy)), (10, .int (nI xx))]) hx hb dX2_tileDifference_82 hl (by decide) rfl (fun ls hl => ?_)
              refine lv_iinc (v := nI (xx + 1)) (lv' := [(10, .int (nI (xx + 1))), (8, .int (n + (if 0 ≤ ((gtZ lv ((xx : Nat) : Int) ((yy : Nat) : Int)) - (gtZ lo (((xx : Nat) : Int) + x_sr P) (((yy : Nat) : Int) + x_sd P))) then ((gtZ lv ((xx : Nat) : Int) ((yy : Nat) : Int)) - (gtZ lo (((xx : Nat) : Int) + x_sr P) (((yy : Nat) : Int) + x_sd P))) else 0 - ((gtZ lv ((xx : Nat) : Int) ((yy : Nat) : Int)) - (gtZ lo (((xx : Nat) : Int) + x_sr P) (((yy : Nat) : Int) + x_sd P)))))), (0, .ref q0), (1, .ref o0), (4, .int (nI (T % 3 * 4))), (5, .int (nI (T / 3 * 4))), (6, .int (zI (x_sr P))), (7, .int (zI (x_sd P))), (9, .int (nI yy))]) hx hb dX2_tileDifference_84 hl (k := 8) rfl (nI_add _ _) (by decide) rfl (fun ls hl => ?_)
              refine lv_goto (tgt := 44) hx hb dX2_tileDifference_87 (by decide) ?_
              exact ih44 (xx + 1) (n + (if 0 ≤ ((gtZ lv ((xx : Nat) : Int) ((yy : Nat) : Int)) - (gtZ lo (((xx : Nat) : Int) + x_sr P) (((yy : Nat) : Int) + x_sd P))) then ((gtZ lv ((xx : Nat) : Int) ((yy : Nat) : Int)) - (gtZ lo (((xx : Nat) : Int) + x_sr P) (((yy : Nat) : Int) + x_sd P))) else 0 - ((gtZ lv ((xx : Nat) : Int) ((yy : Nat) : Int)) - (gtZ lo (((xx : Nat) : Int) + x_sr P) (((yy : Nat) : Int) + x_sd P))))) (by first | assumption | omega | rfl) (by first | assumption | omega | rfl) (by rw [gtZ_in (by omega) (by omega), show xx + 1 - T % 3 * 4 = (xx - T % 3 * 4) + 1 by omega, sm_s, ← Int32.add_assoc, ← hi44_2, show T % 3 * 4 + (xx - T % 3 * 4) = xx by omega]; rfl) (by omega) ls (lv_sub hl [2, 3, 4, 5, 6, 7, 1, 8, 0] rfl)
        exact L44 _ (T % 3 * 4) n (by first | assumption | omega | rfl) (by first | assumption | omega | rfl) (by rw [hi31_2, Nat.sub_self, sm_0, Int32.add_zero]) (Nat.lt_succ_self _) ls (lv_sub hl [1, 2, 3, 4, 5, 6, 7, 8, 0] rfl)
  exact L31 _ (T / 3 * 4) 0 (by first | assumption | omega | rfl) (by first | assumption | omega | rfl) (by rw [Nat.sub_self]; rfl) (Nat.lt_succ_self _) ls (lv_sub hl [6, 7, 5, 4, 3, 2, 1, 0] rfl)
set_option maxHeartbeats 4000000 in
set_option maxRecDepth 100000 in
theorem c_X2_tileDifference_s (l : Launch) (D : va_G) (cI cC cS : ClassId) (tt : Nat → Nat) (q0 : Nat) (q1 : Nat) (T : Nat) (P : Nat) (lv : Nat → Int32) (hh0 : T < 9) (hh1 : P < 25) : Met l yX2_tileDifference wsX2_tileDifference ({ frames := 2, cells := 0, slots := 0, locals := 43 } : Room) (x_PR D cI cC cS tt [(q0, .inr (2, [.ref q1])), (q1, .inl (cI, 144, .inl (lv)))] [.ref q0, .ref q0, .int (nI T), .int (nI P)]) (QcRead (tdS lv lv T P)) 0 0 (fun _ => False) := by
  refine Met.ofW (cc := cX2_tileDifference) (maxL := 11) (ret := (some .int)) (by decide) rfl ?_
  intro p e s m args below meth c s₁ hBd hml hv
  obtain ⟨rfl, hP, hK, hE⟩ := hv
  have hx := hBd.exec
  have hb := hBd.bytes
  have hr := hBd.returns
  have hts := atoms_spec (ws := wsX2_tileDifference) hBd.pre
  have hown : s.vm.findClass RX2 = some m.cls := findClass_of_methodNamed hBd.named
  have hlocks := hBd.notSynchronized
  have hS : va_S (fun _ => False) s.heap s.heap [] := va_S.rf
  have hl := lv_entry ([.ref q0, .ref q0, .int (nI T), .int (nI P)]) (n := 11) (Nat.le_of_ble_eq_true rfl)
  rw [lg_entry_eq]
  generalize (lg_sl ([.ref q0, .ref q0, .int (nI T), .int (nI P)]) ++ List.replicate (11 - (lg_sl ([.ref q0, .ref q0, .int (nI T), .int (nI P)])).length) Slot.unset).toArray = ls at hl ⊢
  have hl : lv_has ls 11 [(0, .ref q0), (1, .ref q0), (2, .int (nI T)), (3, .int (nI P))] := hl
  refine x_genQ (fun Q hQ => ?_)
  have bsr := x_sr_b P hh1
  have bsd := x_sd_b P hh1
  refine lv_iload_n hx hb dX2_tileDifference_0 rfl (lv_at hl 2 rfl) ?_
  refine x_callR (va_runSN (As := [.int (nI T)]) (rest := []) ⟨hx, hb, hml, hown, hts⟩ (c_X4_tileColumn l D cI cC cS tt T (by first | assumption | omega | decide)) ⟨(va_cnB 1 hts gX2_tileDifference_X4_tileColumn_n46 rfl rfl rfl (x_nestk hE.1 (w := .methodLinkNest RX2 46 yX4_tileColumn RX4) 27 rfl) (hts (.initialized RX4) (by decide +kernel)) (by decide +kernel) ⟨Nat.le_of_ble_eq_true rfl, Nat.le_of_ble_eq_true rfl⟩), hts (.static yX4_tileColumn) (by decide +kernel), trivial⟩ ⟨x_blindR, x_preR (hP.sub (ws' := []) [] rfl) hK hE hS⟩ rfl rfl hl.1 rfl (lv_room (Nat.le_of_ble_eq_true rfl)) dX2_tileDifference_1 ⟨(Nat.le_of_ble_eq_true rfl), (Nat.le_of_ble_eq_true rfl)⟩) ?_
  refine lv_istore (lv' := [(4, .int (nI (T % 3 * 4))), (0, .ref q0), (1, .ref q0), (2, .int (nI T)), (3, .int (nI P))]) hx hb dX2_tileDifference_4 hl (by decide) rfl (fun ls hl => ?_)
  refine lv_iload_n hx hb dX2_tileDifference_6 rfl (lv_at hl 3 rfl) ?_
  refine x_callR (va_runSN (As := [.int (nI T)]) (rest := []) ⟨hx, hb, hml, hown, hts⟩ (c_X4_tileRow l D cI cC cS tt T (by first | assumption | omega | decide)) ⟨(va_cnB 1 hts gX2_tileDifference_X4_tileRow_n50 rfl rfl rfl (x_nestk hE.1 (w := .methodLinkNest RX2 50 yX4_tileRow RX4) 28 rfl) (hts (.initialized RX4) (by decide +kernel)) (by decide +kernel) ⟨Nat.le_of_ble_eq_true rfl, Nat.le_of_ble_eq_true rfl⟩), hts (.static yX4_tileRow) (by decide +kernel), trivial⟩ ⟨x_blindR, x_preR (hP.sub (ws' := []) [] rfl) hK hE hS⟩ rfl rfl hl.1 rfl (lv_room (Nat.le_of_ble_eq_true rfl)) dX2_tileDifference_7 ⟨(Nat.le_of_ble_eq_true rfl), (Nat.le_of_ble_eq_true rfl)⟩) ?_
  refine lv_istore (lv' := [(5, .int (nI (T / 3 * 4))), (4, .int (nI (T % 3 * 4))), (0, .ref q0), (1, .ref q0), (2, .int (nI T)), (3, .int (nI P))]) hx hb dX2_tileDifference_10 hl (by decide) rfl (fun ls hl => ?_)
  refine lv_iload_n hx hb dX2_tileDifference_12 rfl (lv_at hl 5 rfl) ?_
  refine x_callR (va_runSN (As := [.int (nI P)]) (rest := []) ⟨hx, hb, hml, hown, hts⟩ (c_X4_stepRight l D cI cC cS tt P (by first | assumption | omega | decide)) ⟨(va_cnB 1 hts gX2_tileDifference_X4_stepRight_n53 rfl rfl rfl (x_nestk hE.1 (w := .methodLinkNest RX2 53 yX4_stepRight RX4) 29 rfl) (hts (.initialized RX4) (by decide +kernel)) (by decide +kernel) ⟨Nat.le_of_ble_eq_true rfl, Nat.le_of_ble_eq_true rfl⟩), hts (.static yX4_stepRight) (by decide +kernel), trivial⟩ ⟨x_blindR, x_preR (hP.sub (ws' := []) [] rfl) hK hE hS⟩ rfl rfl hl.1 rfl (lv_room (Nat.le_of_ble_eq_true rfl)) dX2_tileDifference_13 ⟨(Nat.le_of_ble_eq_true rfl), (Nat.le_of_ble_eq_true rfl)⟩) ?_
  refine lv_istore (lv' := [(6, .int (zI (x_sr P))), (5, .int (nI (T / 3 * 4))), (4, .int (nI (T % 3 * 4))), (0, .ref q0), (1, .ref q0), (2, .int (nI T)), (3, .int (nI P))]) hx hb dX2_tileDifference_16 hl (by decide) rfl (fun ls hl => ?_)
  refine lv_iload_n hx hb dX2_tileDifference_18 rfl (lv_at hl 6 rfl) ?_
  refine x_callR (va_runSN (As := [.int (nI P)]) (rest := []) ⟨hx, hb, hml, hown, hts⟩ (c_X4_stepDown l D cI cC cS tt P (by first | assumption | omega | decide)) ⟨(va_cnB 1 hts gX2_tileDifference_X4_stepDown_n56 rfl rfl rfl (x_nestk hE.1 (w := .methodLinkNest RX2 56 yX4_stepDown RX4) 30 rfl) (hts (.initialized RX4) (by decide +kernel)) (by decide +kernel) ⟨Nat.le_of_ble_eq_true rfl, Nat.le_of_ble_eq_true rfl⟩), hts (.static yX4_stepDown) (by decide +kernel), trivial⟩ ⟨x_blindR, x_preR (hP.sub (ws' := []) [] rfl) hK hE hS⟩ rfl rfl hl.1 rfl (lv_room (Nat.le_of_ble_eq_true rfl)) dX2_tileDifference_19 ⟨(Nat.le_of_ble_eq_true rfl), (Nat.le_of_ble_eq_true rfl)⟩) ?_
  refine lv_istore (lv' := [(7, .int (zI (x_sd P))), (6, .int (zI (x_sr P))), (5, .int (nI (T / 3 * 4))), (4, .int (nI (T % 3 * 4))), (0, .ref q0), (1, .ref q0), (2, .int (nI T)), (3, .int (nI P))]) hx hb dX2_tileDifference_22 hl (by decide) rfl (fun ls hl => ?_)
  refine lv_iconst (v := 0) hx hb dX2_tileDifference_24 (by decide) ?_
  refine lv_istore (lv' := [(8, .int 0), (7, .int (zI (x_sd P))), (6, .int (zI (x_sr P))), (5, .int (nI (T / 3 * 4))), (4, .int (nI (T % 3 * 4))), (0, .ref q0), (1, .ref q0), (2, .int (nI T)), (3, .int (nI P))]) hx hb dX2_tileDifference_25 hl (by decide) rfl (fun ls hl => ?_)
  refine lv_iload hx hb dX2_tileDifference_27 (lv_at hl 3 rfl) ?_
  refine lv_istore (lv' := [(9, .int (nI (T / 3 * 4))), (8, .int 0), (7, .int (zI (x_sd P))), (6, .int (zI (x_sr P))), (5, .int (nI (T / 3 * 4))), (4, .int (nI (T % 3 * 4))), (0, .ref q0), (1, .ref q0), (2, .int (nI T)), (3, .int (nI P))]) hx hb dX2_tileDifference_29 hl (by decide) rfl (fun ls hl => ?_)
  have L31 : ∀ (fuel : Nat) (yy : Nat) (n : Int32), T / 3 * 4 ≤ yy → yy ≤ T / 3 * 4 + 4 → n = sm (fun j => tdR lv lv T P (T / 3 * 4 + j)) (yy - T / 3 * 4) → 12 - yy < fuel → ∀ (ls : Array Slot), lv_has ls 11 [(0, .ref q0), (1, .ref q0), (4, .int (nI (T % 3 * 4))), (5, .int (nI (T / 3 * 4))), (6, .int (zI (x_sr P))), (7, .int (zI (x_sd P))), (8, .int n), (9, .int (nI yy))] → W p l e (headSpec wsX2_tileDifference ({ frames := 2, cells := 0, slots := 0, locals := 43 } : Room)).room s m ([.ref q0, .ref q0, .int (nI T), .int (nI P)] : List Value).toArray below meth c s.heap [] 0 0 Q (F0 m 31 ls []) := by
    intro fuel
    induction fuel with
    | zero =>
      intro yy n hi31_0 hi31_1 hi31_2 hfu
      exact absurd hfu (Nat.not_lt_zero _)
    | succ fuel ih31 =>
      intro yy n hi31_0 hi31_1 hi31_2 hfu31 ls hl
      refine lv_iload hx hb dX2_tileDifference_31 (lv_at hl 7 rfl) ?_
      refine lv_iload hx hb dX2_tileDifference_33 (lv_at hl 3 rfl) ?_
      refine lv_iconst (v := 4) hx hb dX2_tileDifference_35 (by decide) ?_
      refine lv_iadd hx hb dX2_tileDifference_36 ?_
      refine x_eqi (show nI (T / 3 * 4) + 4 = nI ((T / 3 * 4) + 4) from nI_add (T / 3 * 4) 4) ?_
      refine x_icmp_ge (tgt := 96) hx hb dX2_tileDifference_37 (by decide) (X := ((yy : Nat) : Int)) (nI_toI (by omega)) (Y := (((T / 3 * 4) + 4 : Nat) : Int)) (nI_toI (by omega)) (fun c_37 => ?_) (fun c_37 => ?_)
      · skip
        refine lv_iload hx hb dX2_tileDifference_96 (lv_at hl 6 rfl) ?_
        exact x_iretR hQ hx hb hr hlocks (by rw [hi31_2, show yy - T / 3 * 4 = 4 by omega]; rfl) dX2_tileDifference_98
      · skip
        refine lv_iload hx hb dX2_tileDifference_40 (lv_at hl 2 rfl) ?_
        refine lv_istore (lv' := [(10, .int (nI (T % 3 * 4))), (0, .ref q0), (1, .ref q0), (4, .int (nI (T % 3 * 4))), (5, .int (nI (T / 3 * 4))), (6, .int (zI (x_sr P))), (7, .int (zI (x_sd P))), (8, .int n), (9, .int (nI yy))]) hx hb dX2_tileDifference_42 hl (by decide) rfl (fun ls hl => ?_)
        have L44 : ∀ (fuel : Nat) (xx : Nat) (n : Int32), T % 3 * 4 ≤ xx → xx ≤ T % 3 * 4 + 4 → n = sm (fun j => tdR lv lv T P (T / 3 * 4 + j)) (yy - T / 3 * 4) + sm (fun i => tdT lv lv P (T % 3 * 4 + i) yy) (xx - T % 3 * 4) → 12 - xx < fuel → ∀ (ls : Array Slot), lv_has ls 11 [(0, .ref q0), (1, .ref q0), (4, .int (nI (T % 3 * 4))), (5, .int (nI (T / 3 * 4))), (6, .int (zI (x_sr P))), (7, .int (zI (x_sd P))), (8, .int n), (9, .int (nI yy)), (10, .int (nI xx))] → W p l e (headSpec wsX2_tileDifference ({ frames := 2, cells := 0, slots := 0, locals := 43 } : Room)).room s m ([.ref q0, .ref q0, .int (nI T), .int (nI P)] : List Value).toArray below meth c s.heap [] 0 0 Q (F0 m 44 ls []) := by
          intro fuel
          induction fuel with
          | zero =>
            intro xx n hi44_0 hi44_1 hi44_2 hfu
            exact absurd hfu (Nat.not_lt_zero _)
          | succ fuel ih44 =>
            intro xx n hi44_0 hi44_1 hi44_2 hfu44 ls hl
            refine lv_iload hx hb dX2_tileDifference_44 (lv_at hl 8 rfl) ?_
            refine lv_iload hx hb dX2_tileDifference_46 (lv_at hl 2 rfl) ?_
            refine lv_iconst (v := 4) hx hb dX2_tileDifference_48 (by decide) ?_
            refine lv_iadd hx hb dX2_tileDifference_49 ?_
            refine x_eqi (show nI (T % 3 * 4) + 4 = nI ((T % 3 * 4) + 4) from nI_add (T % 3 * 4) 4) ?_
            refine x_icmp_ge (tgt := 90) hx hb dX2_tileDifference_50 (by decide) (X := ((xx : Nat) : Int)) (nI_toI (by omega)) (Y := (((T % 3 * 4) + 4 : Nat) : Int)) (nI_toI (by omega)) (fun c_50 => ?_) (fun c_50 => ?_)
            · skip
              refine lv_iinc (v := nI (yy + 1)) (lv' := [(9, .int (nI (yy + 1))), (0, .ref q0), (1, .ref q0), (4, .int (nI (T % 3 * 4))), (5, .int (nI (T / 3 * 4))), (6, .int (zI (x_sr P))), (7, .int (zI (x_sd P))), (8, .int n), (10, .int (nI xx))]) hx hb dX2_tileDifference_90 hl (k := 7) rfl (nI_add _ _) (by decide) rfl (fun ls hl => ?_)
              refine lv_goto (tgt := 31) hx hb dX2_tileDifference_93 (by decide) ?_
              exact ih31 (yy + 1) n (by first | assumption | omega | rfl) (by first | assumption | omega | rfl) (by rw [hi44_2, show yy + 1 - T / 3 * 4 = (yy - T / 3 * 4) + 1 by omega, sm_s, show xx - T % 3 * 4 = 4 by omega]; exact congrArg _ (by rw [show T / 3 * 4 + (yy - T / 3 * 4) = yy by omega]; rfl)) (by omega) ls (lv_sub hl [1, 2, 3, 4, 5, 6, 7, 0] rfl)
            · skip
              refine lv_iload hx hb dX2_tileDifference_53 (lv_at hl 6 rfl) ?_
              refine lv_aload_n hx hb dX2_tileDifference_55 rfl (lv_at hl 0 rfl) ?_
              refine lv_iload hx hb dX2_tileDifference_56 (lv_at hl 8 rfl) ?_
              refine lv_iload hx hb dX2_tileDifference_58 (lv_at hl 7 rfl) ?_
              refine x_callR (va_runV (As := [.int (nI xx), .int (nI yy)]) (rest := [.int n]) ⟨hx, hb, hml, hown, hts⟩ (c_X2_levelAt l D cI cC cS tt q0 q1 lv (nI xx) ((xx : Nat) : Int) (nI_toI (by omega)) (nI yy) ((yy : Nat) : Int) (nI_toI (by omega))) (cwV 2 hts gX2_tileDifference_X2_levelAt rfl rfl rfl (by decide +kernel) ⟨Nat.le_of_ble_eq_true rfl, Nat.le_of_ble_eq_true rfl⟩) ⟨x_blindR, va_recv hK hP (ci := 2) (q0 := 0) rfl rfl, x_preR (hP.sub (ws' := [(q0, .inr (2, [.ref q1])), (q1, .inl (cI, 144, .inl (lv)))]) [0, 1] rfl) hK hE hS⟩ rfl rfl hl.1 rfl (lv_room (Nat.le_of_ble_eq_true rfl)) dX2_tileDifference_60 ⟨(Nat.le_of_ble_eq_true rfl), (Nat.le_of_ble_eq_true rfl)⟩) ?_
              refine lv_aload_n hx hb dX2_tileDifference_63 rfl (lv_at hl 1 rfl) ?_
              refine lv_iload hx hb dX2_tileDifference_64 (lv_at hl 8 rfl) ?_
              refine lv_iload hx hb dX2_tileDifference_66 (lv_at hl 4 rfl) ?_
              refine lv_iadd hx hb dX2_tileDifference_68 ?_
              refine lv_iload hx hb dX2_tileDifference_69 (lv_at hl 7 rfl) ?_
              refine lv_iload hx hb dX2_tileDifference_71 (lv_at hl 5 rfl) ?_
              refine lv_iadd hx hb dX2_tileDifference_73 ?_
              refine x_callR (va_runV (As := [.int ((nI xx) + (zI (x_sr P))), .int ((nI yy) + (zI (x_sd P)))]) (rest := [.int (gtZ lv ((xx : Nat) : Int) ((yy : Nat) : Int)), .int n]) ⟨hx, hb, hml, hown, hts⟩ (c_X2_levelAt l D cI cC cS tt q0 q1 lv ((nI xx) + (zI (x_sr P))) (((xx : Nat) : Int) + x_sr P) (x_addI (nI_toI (by omega)) (x_sr_toI P) (by omega) (by omega)) ((nI yy) + (zI (x_sd P))) (((yy : Nat) : Int) + x_sd P) (x_addI (nI_toI (by omega)) (x_sd_toI P) (by omega) (by omega))) (cwV 2 hts gX2_tileDifference_X2_levelAt rfl rfl rfl (by decide +kernel) ⟨Nat.le_of_ble_eq_true rfl, Nat.le_of_ble_eq_true rfl⟩) ⟨x_blindR, va_recv hK hP (ci := 2) (q0 := 0) rfl rfl, x_preR (hP.sub (ws' := [(q0, .inr (2, [.ref q1])), (q1, .inl (cI, 144, .inl (lv)))]) [0, 1] rfl) hK hE hS⟩ rfl rfl hl.1 rfl (lv_room (Nat.le_of_ble_eq_true rfl)) dX2_tileDifference_74 ⟨(Nat.le_of_ble_eq_true rfl), (Nat.le_of_ble_eq_true rfl)⟩) ?_
              refine lv_isub hx hb dX2_tileDifference_77 ?_
              refine va_mabs hx hb (by rw [hml]; exact hl.1.symm) hown (hts (.methodLink RX2 59 Lib.Math.abs.name) (by decide +kernel)) (hts (.static Lib.Math.abs.name) (by decide +kernel)) (hts (.initialized "java/lang/Math") (by decide +kernel)) (hts (.code Lib.Math.abs.name Lib.Math.abs.code 1 (some .int)) (by decide +kernel)) (Nat.le_of_ble_eq_true rfl) (Nat.le_of_ble_eq_true rfl) (Nat.le_of_ble_eq_true rfl) (Nat.le_of_ble_eq_true rfl) dX2_tileDifference_78 ?_
              refine lv_iadd hx hb dX2_tileDifference_81 ?_
              refine lv_istore (lv' := [(8, .int (n + (if 0 ≤ ((gtZ lv ((xx : Nat) : Int) ((yy : Nat) : Int)) - (gtZ lv (((xx : Nat) : Int) + x_sr P) (((yy : Nat) : Int) + x_sd P))) then ((gtZ lv ((xx : Nat) : Int) ((yy : Nat) : Int)) - (gtZ lv (((xx : Nat) : Int) + x_sr P) (((yy : Nat) : Int) + x_sd P))) else 0 - ((gtZ lv ((xx : Nat) : Int) ((yy : Nat) : Int)) - (gtZ lv (((xx : Nat) : Int) + x_sr P) (((yy : Nat) : Int) + x_sd P)))))), (0, .ref q0), (1, .ref q0), (4, .int (nI (T % 3 * 4))), (5, .int (nI (T / 3 * 4))), (6, .int (zI (x_sr P))), (7, .int (zI (x_sd P))), (9, .int (nI yy)), (10, .int (nI xx))]) hx hb dX2_tileDifference_82 hl (by decide) rfl (fun ls hl => ?_)
              refine lv_iinc (v := nI (xx + 1)) (lv' := [(10, .int (nI (xx + 1))), (8, .int (n + (if 0 ≤ ((gtZ lv ((xx : Nat) : Int) ((yy : Nat) : Int)) - (gtZ lv (((xx : Nat) : Int) + x_sr P) (((yy : Nat) : Int) + x_sd P))) then ((gtZ lv ((xx : Nat) : Int) ((yy : Nat) : Int)) - (gtZ lv (((xx : Nat) : Int) + x_sr P) (((yy : Nat) : Int) + x_sd P))) else 0 - ((gtZ lv ((xx : Nat) : Int) ((yy : Nat) : Int)) - (gtZ lv (((xx : Nat) : Int) + x_sr P) (((yy : Nat) : Int) + x_sd P)))))), (0, .ref q0), (1, .ref q0), (4, .int (nI (T % 3 * 4))), (5, .int (nI (T / 3 * 4))), (6, .int (zI (x_sr P))), (7, .int (zI (x_sd P))), (9, .int (nI yy))]) hx hb dX2_tileDifference_84 hl (k := 8) rfl (nI_add _ _) (by decide) rfl (fun ls hl => ?_)
              refine lv_goto (tgt := 44) hx hb dX2_tileDifference_87 (by decide) ?_
              exact ih44 (xx + 1) (n + (if 0 ≤ ((gtZ lv ((xx : Nat) : Int) ((yy : Nat) : Int)) - (gtZ lv (((xx : Nat) : Int) + x_sr P) (((yy : Nat) : Int) + x_sd P))) then ((gtZ lv ((xx : Nat) : Int) ((yy : Nat) : Int)) - (gtZ lv (((xx : Nat) : Int) + x_sr P) (((yy : Nat) : Int) + x_sd P))) else 0 - ((gtZ lv ((xx : Nat) : Int) ((yy : Nat) : Int)) - (gtZ lv (((xx : Nat) : Int) + x_sr P) (((yy : Nat) : Int) + x_sd P))))) (by first | assumption | omega | rfl) (by first | assumption | omega | rfl) (by rw [gtZ_in (by omega) (by omega), show xx + 1 - T % 3 * 4 = (xx - T % 3 * 4) + 1 by omega, sm_s, ← Int32.add_assoc, ← hi44_2, show T % 3 * 4 + (xx - T % 3 * 4) = xx by omega]; rfl) (by omega) ls (lv_sub hl [2, 3, 4, 5, 6, 7, 1, 8, 0] rfl)
        exact L44 _ (T % 3 * 4) n (by first | assumption | omega | rfl) (by first | assumption | omega | rfl) (by rw [hi31_2, Nat.sub_self, sm_0, Int32.add_zero]) (Nat.lt_succ_self _) ls (lv_sub hl [1, 2, 3, 4, 5, 6, 7, 8, 0] rfl)
  exact L31 _ (T / 3 * 4) 0 (by first | assumption | omega | rfl) (by first | assumption | omega | rfl) (by rw [Nat.sub_self]; rfl) (Nat.lt_succ_self _) ls (lv_sub hl [6, 7, 5, 4, 3, 2, 1, 0] rfl)
set_option maxHeartbeats 4000000 in
set_option maxRecDepth 100000 in
theorem c_X2_wholeDifference (l : Launch) (D : va_G) (cI cC cS : ClassId) (tt : Nat → Nat) (q0 : Nat) (q1 : Nat) (o0 : Nat) (o1 : Nat) (lv : Nat → Int32) (lo : Nat → Int32) : Met l yX2_wholeDifference wsX2_wholeDifference ({ frames := 3, cells := 0, slots := 0, locals := 73 } : Room) (x_PR D cI cC cS tt [(q0, .inr (2, [.ref q1])), (q1, .inl (cI, 144, .inl (lv))), (o0, .inr (2, [.ref o1])), (o1, .inl (cI, 144, .inl (lo)))] [.ref q0, .ref o0]) (QcRead (wdS lv lo)) 0 0 (fun _ => False) := by
  refine Met.ofW (cc := cX2_wholeDifference) (maxL := 4) (ret := (some .int)) (by decide) rfl ?_
  intro p e s m args below meth c s₁ hBd hml hv
  obtain ⟨rfl, hP, hK, hE⟩ := hv
  have hx := hBd.exec
  have hb := hBd.bytes
  have hr := hBd.returns
  have hts := atoms_spec (ws := wsX2_wholeDifference) hBd.pre
  have hown : s.vm.findClass RX2 = some m.cls := findClass_of_methodNamed hBd.named
  have hlocks := hBd.notSynchronized
  have hS : va_S (fun _ => False) s.heap s.heap [] := va_S.rf
  have hl := lv_entry ([.ref q0, .ref o0]) (n := 4) (Nat.le_of_ble_eq_true rfl)
  rw [lg_entry_eq]
  generalize (lg_sl ([.ref q0, .ref o0]) ++ List.replicate (4 - (lg_sl ([.ref q0, .ref o0])).length) Slot.unset).toArray = ls at hl ⊢
  have hl : lv_has ls 4 [(0, .ref q0), (1, .ref o0)] := hl
  refine x_genQ (fun Q hQ => ?_)
  refine lv_iconst (v := 0) hx hb dX2_wholeDifference_0 (by decide) ?_
  refine lv_istore_n (lv' := [(2, .int 0), (0, .ref q0), (1, .ref o0)]) hx hb dX2_wholeDifference_1 rfl hl (by decide) rfl (fun ls hl => ?_)
  refine lv_iconst (v := 0) hx hb dX2_wholeDifference_2 (by decide) ?_
  refine lv_istore_n (lv' := [(3, .int 0), (2, .int 0), (0, .ref q0), (1, .ref o0)]) hx hb dX2_wholeDifference_3 rfl hl (by decide) rfl (fun ls hl => ?_)
  have L4 : ∀ (fuel : Nat) (j : Nat) (n : Int32), j ≤ 9 → n = sm (fun t => tdS lv lo t 0) j → 9 - j < fuel → ∀ (ls : Array Slot), lv_has ls 4 [(0, .ref q0), (1, .ref o0), (2, .int n), (3, .int (nI j))] → W p l e (headSpec wsX2_wholeDifference ({ frames := 3, cells := 0, slots := 0, locals := 73 } : Room)).room s m ([.ref q0, .ref o0] : List Value).toArray below meth c s.heap [] 0 0 Q (F0 m 4 ls []) := by
    intro fuel
    induction fuel with
    | zero =>
      intro j n hi4_0 hi4_1 hfu
      exact absurd hfu (Nat.not_lt_zero _)
    | succ fuel ih4 =>
      intro j n hi4_0 hi4_1 hfu4 ls hl
      refine lv_iload_n hx hb dX2_wholeDifference_4 rfl (lv_at hl 3 rfl) ?_
      refine lv_bipush (v := 9) hx hb dX2_wholeDifference_5 (by decide) ?_
      refine x_icmp_ge (tgt := 26) hx hb dX2_wholeDifference_7 (by decide) (X := ((j : Nat) : Int)) (nI_toI (by omega)) (Y := 9) (by decide) (fun c_7 => ?_) (fun c_7 => ?_)
      · skip
        refine lv_iload_n hx hb dX2_wholeDifference_26 rfl (lv_at hl 2 rfl) ?_
        exact x_iretR hQ hx hb hr hlocks (by rw [hi4_1, show j = 9 by omega]; rfl) dX2_wholeDifference_27
      · skip
        refine lv_iload_n hx hb dX2_wholeDifference_10 rfl (lv_at hl 2 rfl) ?_
        refine lv_aload_n hx hb dX2_wholeDifference_11 rfl (lv_at hl 0 rfl) ?_
        refine lv_aload_n hx hb dX2_wholeDifference_12 rfl (lv_at hl 1 rfl) ?_
        refine lv_iload_n hx hb dX2_wholeDifference_13 rfl (lv_at hl 3 rfl) ?_
        refine lv_iconst (v := 0) hx hb dX2_wholeDifference_14 (by decide) ?_
        refine x_callR (va_runV (As := [.ref o0, .int (nI j), .int 0]) (rest := [.int n]) ⟨hx, hb, hml, hown, hts⟩ (c_X2_tileDifference l D cI cC cS tt q0 q1 o0 o1 j 0 lv lo (by first | assumption | omega | decide) (by first | assumption | omega | decide)) (cwV 3 hts gX2_wholeDifference_X2_tileDifference rfl rfl rfl (by decide +kernel) ⟨Nat.le_of_ble_eq_true rfl, Nat.le_of_ble_eq_true rfl⟩) ⟨x_blindR, va_recv hK hP (ci := 2) (q0 := 0) rfl rfl, x_preR (hP.sub (ws' := [(q0, .inr (2, [.ref q1])), (q1, .inl (cI, 144, .inl (lv))), (o0, .inr (2, [.ref o1])), (o1, .inl (cI, 144, .inl (lo)))]) [0, 1, 2, 3] rfl) hK hE hS⟩ rfl rfl hl.1 rfl (lv_room (Nat.le_of_ble_eq_true rfl)) dX2_wholeDifference_15 ⟨(Nat.le_of_ble_eq_true rfl), (Nat.le_of_ble_eq_true rfl)⟩) ?_
        refine lv_iadd hx hb dX2_wholeDifference_18 ?_
        refine lv_istore_n (lv' := [(2, .int (n + (tdS lv lo j 0))), (0, .ref q0), (1, .ref o0), (3, .int (nI j))]) hx hb dX2_wholeDifference_19 rfl hl (by decide) rfl (fun ls hl => ?_)
        refine lv_iinc (v := nI (j + 1)) (lv' := [(3, .int (nI (j + 1))), (2, .int (n + (tdS lv lo j 0))), (0, .ref q0), (1, .ref o0)]) hx hb dX2_wholeDifference_20 hl (k := 3) rfl (nI_add _ _) (by decide) rfl (fun ls hl => ?_)
        refine lv_goto (tgt := 4) hx hb dX2_wholeDifference_23 (by decide) ?_
        exact ih4 (j + 1) (n + (tdS lv lo j 0)) (by first | assumption | omega | rfl) (by rw [sm_s, ← hi4_1]) (by omega) ls (lv_sub hl [2, 3, 1, 0] rfl)
  exact L4 _ 0 0 (by first | assumption | omega | rfl) rfl (Nat.lt_succ_self _) ls (lv_sub hl [2, 3, 1, 0] rfl)
set_option maxHeartbeats 4000000 in
set_option maxRecDepth 100000 in
theorem c_X2_wholeDifference_s (l : Launch) (D : va_G) (cI cC cS : ClassId) (tt : Nat → Nat) (q0 : Nat) (q1 : Nat) (lv : Nat → Int32) : Met l yX2_wholeDifference wsX2_wholeDifference ({ frames := 3, cells := 0, slots := 0, locals := 73 } : Room) (x_PR D cI cC cS tt [(q0, .inr (2, [.ref q1])), (q1, .inl (cI, 144, .inl (lv)))] [.ref q0, .ref q0]) (QcRead (wdS lv lv)) 0 0 (fun _ => False) := by
  refine Met.ofW (cc := cX2_wholeDifference) (maxL := 4) (ret := (some .int)) (by decide) rfl ?_
  intro p e s m args below meth c s₁ hBd hml hv
  obtain ⟨rfl, hP, hK, hE⟩ := hv
  have hx := hBd.exec
  have hb := hBd.bytes
  have hr := hBd.returns
  have hts := atoms_spec (ws := wsX2_wholeDifference) hBd.pre
  have hown : s.vm.findClass RX2 = some m.cls := findClass_of_methodNamed hBd.named
  have hlocks := hBd.notSynchronized
  have hS : va_S (fun _ => False) s.heap s.heap [] := va_S.rf
  have hl := lv_entry ([.ref q0, .ref q0]) (n := 4) (Nat.le_of_ble_eq_true rfl)
  rw [lg_entry_eq]
  generalize (lg_sl ([.ref q0, .ref q0]) ++ List.replicate (4 - (lg_sl ([.ref q0, .ref q0])).length) Slot.unset).toArray = ls at hl ⊢
  have hl : lv_has ls 4 [(0, .ref q0), (1, .ref q0)] := hl
  refine x_genQ (fun Q hQ => ?_)
  refine lv_iconst (v := 0) hx hb dX2_wholeDifference_0 (by decide) ?_
  refine lv_istore_n (lv' := [(2, .int 0), (0, .ref q0), (1, .ref q0)]) hx hb dX2_wholeDifference_1 rfl hl (by decide) rfl (fun ls hl => ?_)
  refine lv_iconst (v := 0) hx hb dX2_wholeDifference_2 (by decide) ?_
  refine lv_istore_n (lv' := [(3, .int 0), (2, .int 0), (0, .ref q0), (1, .ref q0)]) hx hb dX2_wholeDifference_3 rfl hl (by decide) rfl (fun ls hl => ?_)
  have L4 : ∀ (fuel : Nat) (j : Nat) (n : Int32), j ≤ 9 → n = sm (fun t => tdS lv lv t 0) j → 9 - j < fuel → ∀ (ls : Array Slot), lv_has ls 4 [(0, .ref q0), (1, .ref q0), (2, .int n), (3, .int (nI j))] → W p l e (headSpec wsX2_wholeDifference ({ frames := 3, cells := 0, slots := 0, locals := 73 } : Room)).room s m ([.ref q0, .ref q0] : List Value).toArray below meth c s.heap [] 0 0 Q (F0 m 4 ls []) := by
    intro fuel
    induction fuel with
    | zero =>
      intro j n hi4_0 hi4_1 hfu
      exact absurd hfu (Nat.not_lt_zero _)
    | succ fuel ih4 =>
      intro j n hi4_0 hi4_1 hfu4 ls hl
      refine lv_iload_n hx hb dX2_wholeDifference_4 rfl (lv_at hl 3 rfl) ?_
      refine lv_bipush (v := 9) hx hb dX2_wholeDifference_5 (by decide) ?_
      refine x_icmp_ge (tgt := 26) hx hb dX2_wholeDifference_7 (by decide) (X := ((j : Nat) : Int)) (nI_toI (by omega)) (Y := 9) (by decide) (fun c_7 => ?_) (fun c_7 => ?_)
      · skip
        refine lv_iload_n hx hb dX2_wholeDifference_26 rfl (lv_at hl 2 rfl) ?_
        exact x_iretR hQ hx hb hr hlocks (by rw [hi4_1, show j = 9 by omega]; rfl) dX2_wholeDifference_27
      · skip
        refine lv_iload_n hx hb dX2_wholeDifference_10 rfl (lv_at hl 2 rfl) ?_
        refine lv_aload_n hx hb dX2_wholeDifference_11 rfl (lv_at hl 0 rfl) ?_
        refine lv_aload_n hx hb dX2_wholeDifference_12 rfl (lv_at hl 1 rfl) ?_
        refine lv_iload_n hx hb dX2_wholeDifference_13 rfl (lv_at hl 3 rfl) ?_
        refine lv_iconst (v := 0) hx hb dX2_wholeDifference_14 (by decide) ?_
        refine x_callR (va_runV (As := [.ref q0, .int (nI j), .int 0]) (rest := [.int n]) ⟨hx, hb, hml, hown, hts⟩ (c_X2_tileDifference_s l D cI cC cS tt q0 q1 j 0 lv (by first | assumption | omega | decide) (by first | assumption | omega | decide)) (cwV 3 hts gX2_wholeDifference_X2_tileDifference rfl rfl rfl (by decide +kernel) ⟨Nat.le_of_ble_eq_true rfl, Nat.le_of_ble_eq_true rfl⟩) ⟨x_blindR, va_recv hK hP (ci := 2) (q0 := 0) rfl rfl, x_preR (hP.sub (ws' := [(q0, .inr (2, [.ref q1])), (q1, .inl (cI, 144, .inl (lv)))]) [0, 1] rfl) hK hE hS⟩ rfl rfl hl.1 rfl (lv_room (Nat.le_of_ble_eq_true rfl)) dX2_wholeDifference_15 ⟨(Nat.le_of_ble_eq_true rfl), (Nat.le_of_ble_eq_true rfl)⟩) ?_
        refine lv_iadd hx hb dX2_wholeDifference_18 ?_
        refine lv_istore_n (lv' := [(2, .int (n + (tdS lv lv j 0))), (0, .ref q0), (1, .ref q0), (3, .int (nI j))]) hx hb dX2_wholeDifference_19 rfl hl (by decide) rfl (fun ls hl => ?_)
        refine lv_iinc (v := nI (j + 1)) (lv' := [(3, .int (nI (j + 1))), (2, .int (n + (tdS lv lv j 0))), (0, .ref q0), (1, .ref q0)]) hx hb dX2_wholeDifference_20 hl (k := 3) rfl (nI_add _ _) (by decide) rfl (fun ls hl => ?_)
        refine lv_goto (tgt := 4) hx hb dX2_wholeDifference_23 (by decide) ?_
        exact ih4 (j + 1) (n + (tdS lv lv j 0)) (by first | assumption | omega | rfl) (by rw [sm_s, ← hi4_1]) (by omega) ls (lv_sub hl [2, 3, 1, 0] rfl)
  exact L4 _ 0 0 (by first | assumption | omega | rfl) rfl (Nat.lt_succ_self _) ls (lv_sub hl [2, 3, 1, 0] rfl)
set_option maxHeartbeats 4000000 in
set_option maxRecDepth 100000 in
theorem c_X2_unlikeTiles (l : Launch) (D : va_G) (cI cC cS : ClassId) (tt : Nat → Nat) (q0 : Nat) (q1 : Nat) (o0 : Nat) (o1 : Nat) (lv : Nat → Int32) (lo : Nat → Int32) : Met l yX2_unlikeTiles wsX2_unlikeTiles ({ frames := 3, cells := 0, slots := 0, locals := 73 } : Room) (x_PR D cI cC cS tt [(q0, .inr (2, [.ref q1])), (q1, .inl (cI, 144, .inl (lv))), (o0, .inr (2, [.ref o1])), (o1, .inl (cI, 144, .inl (lo)))] [.ref q0, .ref o0]) (QcRead (utS lv lo)) 0 0 (fun _ => False) := by
  refine Met.ofW (cc := cX2_unlikeTiles) (maxL := 4) (ret := (some .int)) (by decide) rfl ?_
  intro p e s m args below meth c s₁ hBd hml hv
  obtain ⟨rfl, hP, hK, hE⟩ := hv
  have hx := hBd.exec
  have hb := hBd.bytes
  have hr := hBd.returns
  have hts := atoms_spec (ws := wsX2_unlikeTiles) hBd.pre
  have hown : s.vm.findClass RX2 = some m.cls := findClass_of_methodNamed hBd.named
  have hlocks := hBd.notSynchronized
  have hS : va_S (fun _ => False) s.heap s.heap [] := va_S.rf
  have hl := lv_entry ([.ref q0, .ref o0]) (n := 4) (Nat.le_of_ble_eq_true rfl)
  rw [lg_entry_eq]
  generalize (lg_sl ([.ref q0, .ref o0]) ++ List.replicate (4 - (lg_sl ([.ref q0, .ref o0])).length) Slot.unset).toArray = ls at hl ⊢
  have hl : lv_has ls 4 [(0, .ref q0), (1, .ref o0)] := hl
  refine x_genQ (fun Q hQ => ?_)
  refine lv_iconst (v := 0) hx hb dX2_unlikeTiles_0 (by decide) ?_
  refine lv_istore_n (lv' := [(2, .int 0), (0, .ref q0), (1, .ref o0)]) hx hb dX2_unlikeTiles_1 rfl hl (by decide) rfl (fun ls hl => ?_)
  refine lv_iconst (v := 0) hx hb dX2_unlikeTiles_2 (by decide) ?_
  refine lv_istore_n (lv' := [(3, .int 0), (2, .int 0), (0, .ref q0), (1, .ref o0)]) hx hb dX2_unlikeTiles_3 rfl hl (by decide) rfl (fun ls hl => ?_)
  have L4 : ∀ (fuel : Nat) (j : Nat) (n : Int32), j ≤ 9 → n = sm (fun t => if tdS lv lo t 0 = 0 then 0 else 1) j → 9 - j < fuel → ∀ (ls : Array Slot), lv_has ls 4 [(0, .ref q0), (1, .ref o0), (2, .int n), (3, .int (nI j))] → W p l e (headSpec wsX2_unlikeTiles ({ frames := 3, cells := 0, slots := 0, locals := 73 } : Room)).room s m ([.ref q0, .ref o0] : List Value).toArray below meth c s.heap [] 0 0 Q (F0 m 4 ls []) := by
    intro fuel
    induction fuel with
    | zero =>
      intro j n hi4_0 hi4_1 hfu
      exact absurd hfu (Nat.not_lt_zero _)
    | succ fuel ih4 =>
      intro j n hi4_0 hi4_1 hfu4 ls hl
      refine lv_iload_n hx hb dX2_unlikeTiles_4 rfl (lv_at hl 3 rfl) ?_
      refine lv_bipush (v := 9) hx hb dX2_unlikeTiles_5 (by decide) ?_
      refine x_icmp_ge (tgt := 34) hx hb dX2_unlikeTiles_7 (by decide) (X := ((j : Nat) : Int)) (nI_toI (by omega)) (Y := 9) (by decide) (fun c_7 => ?_) (fun c_7 => ?_)
      · skip
        refine lv_iload_n hx hb dX2_unlikeTiles_34 rfl (lv_at hl 2 rfl) ?_
        exact x_iretR hQ hx hb hr hlocks (by rw [hi4_1, show j = 9 by omega]; rfl) dX2_unlikeTiles_35
      · skip
        refine lv_iload_n hx hb dX2_unlikeTiles_10 rfl (lv_at hl 2 rfl) ?_
        refine lv_aload_n hx hb dX2_unlikeTiles_11 rfl (lv_at hl 0 rfl) ?_
        refine lv_aload_n hx hb dX2_unlikeTiles_12 rfl (lv_at hl 1 rfl) ?_
        refine lv_iload_n hx hb dX2_unlikeTiles_13 rfl (lv_at hl 3 rfl) ?_
        refine lv_iconst (v := 0) hx hb dX2_unlikeTiles_14 (by decide) ?_
        refine x_callR (va_runV (As := [.ref o0, .int (nI j), .int 0]) (rest := [.int n]) ⟨hx, hb, hml, hown, hts⟩ (c_X2_tileDifference l D cI cC cS tt q0 q1 o0 o1 j 0 lv lo (by first | assumption | omega | decide) (by first | assumption | omega | decide)) (cwV 3 hts gX2_unlikeTiles_X2_tileDifference rfl rfl rfl (by decide +kernel) ⟨Nat.le_of_ble_eq_true rfl, Nat.le_of_ble_eq_true rfl⟩) ⟨x_blindR, va_recv hK hP (ci := 2) (q0 := 0) rfl rfl, x_preR (hP.sub (ws' := [(q0, .inr (2, [.ref q1])), (q1, .inl (cI, 144, .inl (lv))), (o0, .inr (2, [.ref o1])), (o1, .inl (cI, 144, .inl (lo)))]) [0, 1, 2, 3] rfl) hK hE hS⟩ rfl rfl hl.1 rfl (lv_room (Nat.le_of_ble_eq_true rfl)) dX2_unlikeTiles_15 ⟨(Nat.le_of_ble_eq_true rfl), (Nat.le_of_ble_eq_true rfl)⟩) ?_
        refine x_if_ne (tgt := 25) hx hb dX2_unlikeTiles_18 (by decide) (X := (tdS lv lo j 0).toInt) rfl (fun c_18 => ?_) (fun c_18 => ?_)
        · skip
          refine lv_iconst (v := 1) hx hb dX2_unlikeTiles_25 (by decide) ?_
          refine lv_iadd hx hb dX2_unlikeTiles_26 ?_
          refine lv_istore_n (lv' := [(2, .int (n + 1)), (0, .ref q0), (1, .ref o0), (3, .int (nI j))]) hx hb dX2_unlikeTiles_27 rfl hl (by decide) rfl (fun ls hl => ?_)
          refine lv_iinc (v := nI (j + 1)) (lv' := [(3, .int (nI (j + 1))), (2, .int (n + 1)), (0, .ref q0), (1, .ref o0)]) hx hb dX2_unlikeTiles_28 hl (k := 3) rfl (nI_add _ _) (by decide) rfl (fun ls hl => ?_)
          refine lv_goto (tgt := 4) hx hb dX2_unlikeTiles_31 (by decide) ?_
          exact ih4 (j + 1) (n + 1) (by first | assumption | omega | rfl) (by rw [sm_s, ← hi4_1]; first | rw [if_pos (x_toI0 c_18)] | rw [if_neg (fun z => c_18 (by rw [z]; rfl))]) (by omega) ls (lv_sub hl [2, 3, 1, 0] rfl)
        · skip
          refine lv_iconst (v := 0) hx hb dX2_unlikeTiles_21 (by decide) ?_
          refine lv_goto (tgt := 26) hx hb dX2_unlikeTiles_22 (by decide) ?_
          refine lv_iadd hx hb dX2_unlikeTiles_26 ?_
          refine lv_istore_n (lv' := [(2, .int (n + 0)), (0, .ref q0), (1, .ref o0), (3, .int (nI j))]) hx hb dX2_unlikeTiles_27 rfl hl (by decide) rfl (fun ls hl => ?_)
          refine lv_iinc (v := nI (j + 1)) (lv' := [(3, .int (nI (j + 1))), (2, .int (n + 0)), (0, .ref q0), (1, .ref o0)]) hx hb dX2_unlikeTiles_28 hl (k := 3) rfl (nI_add _ _) (by decide) rfl (fun ls hl => ?_)
          refine lv_goto (tgt := 4) hx hb dX2_unlikeTiles_31 (by decide) ?_
          exact ih4 (j + 1) (n + 0) (by first | assumption | omega | rfl) (by rw [sm_s, ← hi4_1]; first | rw [if_pos (x_toI0 c_18)] | rw [if_neg (fun z => c_18 (by rw [z]; rfl))]) (by omega) ls (lv_sub hl [2, 3, 1, 0] rfl)
  exact L4 _ 0 0 (by first | assumption | omega | rfl) rfl (Nat.lt_succ_self _) ls (lv_sub hl [2, 3, 1, 0] rfl)
