def x_srF : Nat → Int32 := fun j => zI (x_sr j)
def x_sdF : Nat → Int32 := fun j => zI (x_sd j)
theorem absI_p {a b : Int32} (h : 0 ≤ (a - b).toInt) : a - b = absI (a - b) := by
  unfold absI; rw [if_pos (Int32.le_iff_toInt_le.mpr (by rw [show (0 : Int32).toInt = 0 by decide]; exact h))]
theorem absI_n {a b : Int32} (h : (a - b).toInt < 0) : -(a - b) = absI (a - b) := by
  unfold absI; rw [if_neg (fun q => by have q2 := Int32.le_iff_toInt_le.mp q; rw [show (0 : Int32).toInt = 0 by decide] at q2; omega)]
  exact (Int32.zero_sub _).symm
theorem nt_lt {D S : Nat → Int32} (hD : lvB D) (hS : lvB S) {Sp : Int} (h9 : 9 ≤ Sp) {q : Nat} (hq : q ≤ 240) (h : Sp < (bwV D S ((q : Nat) : Int)).toInt) : q < 240 := by
  rcases (show q < 240 ∨ q = 240 by omega) with z | z
  · exact z
  · subst z
    rw [show (((240 : Nat) : Nat) : Int) = 240 from rfl, bwV_240 hD hS, show (9 : Int32).toInt = 9 by decide] at h
    omega
set_option maxHeartbeats 4000000 in
set_option maxRecDepth 100000 in
theorem c_X5_in (l : Launch) (D : va_G) (cI cC cS : ClassId) (tt : Nat → Nat) (a : Int32) (A : Int) (hA_ : a.toInt = A) (b : Int32) (B : Int) (hB_ : b.toInt = B) (c0 : Int32) (C : Int) (hC_ : c0.toInt = C) : Met l yX5_in wsX5_in ({ frames := 0, cells := 0, slots := 0, locals := 0 } : Room) (x_PR D cI cC cS tt [] [.int a, .int b, .int c0]) (QcRead (bI (decide (B ≤ A ∧ A ≤ C)))) 0 0 (fun _ => False) := by
  refine Met.ofW (cc := cX5_in) (maxL := 3) (ret := (some .boolean)) (by decide) rfl ?_
  intro p e s m args below meth c s₁ hBd hml hv
  obtain ⟨rfl, hP, hK, hE⟩ := hv
  have hx := hBd.exec
  have hb := hBd.bytes
  have hr := hBd.returns
  have hts := atoms_spec (ws := wsX5_in) hBd.pre
  have hown : s.vm.findClass RX5 = some m.cls := findClass_of_methodNamed hBd.named
  have hlocks := hBd.notSynchronized
  have hS : va_S (fun _ => False) s.heap s.heap [] := va_S.rf
  have hl := lv_entry ([.int a, .int b, .int c0]) (n := 3) (Nat.le_of_ble_eq_true rfl)
  rw [lg_entry_eq]
  generalize (lg_sl ([.int a, .int b, .int c0]) ++ List.replicate (3 - (lg_sl ([.int a, .int b, .int c0])).length) Slot.unset).toArray = ls at hl ⊢
  have hl : lv_has ls 3 [(0, .int a), (1, .int b), (2, .int c0)] := hl
  refine x_genQ (fun Q hQ => ?_)
  refine lv_iload_n hx hb dX5_in_0 rfl (lv_at hl 0 rfl) ?_
  refine lv_iload_n hx hb dX5_in_1 rfl (lv_at hl 1 rfl) ?_
  refine x_icmp_lt (tgt := 14) hx hb dX5_in_2 (by decide) (X := A) hA_ (Y := B) hB_ (fun c_2 => ?_) (fun c_2 => ?_)
  · skip
    refine lv_iconst (v := 0) hx hb dX5_in_14 (by decide) ?_
    exact x_zretR hQ hx hb hr hlocks (by decide) (bI_f (by omega)) dX5_in_15
  · skip
    refine lv_iload_n hx hb dX5_in_5 rfl (lv_at hl 0 rfl) ?_
    refine lv_iload_n hx hb dX5_in_6 rfl (lv_at hl 2 rfl) ?_
    refine x_icmp_gt (tgt := 14) hx hb dX5_in_7 (by decide) (X := A) hA_ (Y := C) hC_ (fun c_7 => ?_) (fun c_7 => ?_)
    · skip
      refine lv_iconst (v := 0) hx hb dX5_in_14 (by decide) ?_
      exact x_zretR hQ hx hb hr hlocks (by decide) (bI_f (by omega)) dX5_in_15
    · skip
      refine lv_iconst (v := 1) hx hb dX5_in_10 (by decide) ?_
      refine lv_goto (tgt := 15) hx hb dX5_in_11 (by decide) ?_
      exact x_zretR hQ hx hb hr hlocks (by decide) (bI_t (by omega)) dX5_in_15
set_option maxHeartbeats 4000000 in
set_option maxRecDepth 100000 in
theorem c_X5_noPoint (l : Launch) (D : va_G) (cI cC cS : ClassId) (tt : Nat → Nat) (x : Int32) (X : Int) (hX_ : x.toInt = X) (y : Int32) (Y : Int) (hY_ : y.toInt = Y) : Met l yX5_noPoint wsX5_noPoint ({ frames := 1, cells := 0, slots := 0, locals := 22 } : Room) (x_PR D cI cC cS tt [] [.int x, .int y]) (QcRead (bI (decide (¬ (0 ≤ X ∧ X < 12 ∧ 0 ≤ Y ∧ Y < 12))))) 0 0 (fun _ => False) := by
  refine Met.ofW (cc := cX5_noPoint) (maxL := 2) (ret := (some .boolean)) (by decide) rfl ?_
  intro p e s m args below meth c s₁ hBd hml hv
  obtain ⟨rfl, hP, hK, hE⟩ := hv
  have hx := hBd.exec
  have hb := hBd.bytes
  have hr := hBd.returns
  have hts := atoms_spec (ws := wsX5_noPoint) hBd.pre
  have hown : s.vm.findClass RX5 = some m.cls := findClass_of_methodNamed hBd.named
  have hlocks := hBd.notSynchronized
  have hS : va_S (fun _ => False) s.heap s.heap [] := va_S.rf
  have hl := lv_entry ([.int x, .int y]) (n := 2) (Nat.le_of_ble_eq_true rfl)
  rw [lg_entry_eq]
  generalize (lg_sl ([.int x, .int y]) ++ List.replicate (2 - (lg_sl ([.int x, .int y])).length) Slot.unset).toArray = ls at hl ⊢
  have hl : lv_has ls 2 [(0, .int x), (1, .int y)] := hl
  refine x_genQ (fun Q hQ => ?_)
  refine lv_iload_n hx hb dX5_noPoint_0 rfl (lv_at hl 0 rfl) ?_
  refine lv_iconst (v := 0) hx hb dX5_noPoint_1 (by decide) ?_
  refine lv_bipush (v := 11) hx hb dX5_noPoint_2 (by decide) ?_
  refine x_callR (va_runS (As := [.int x, .int 0, .int 11]) (rest := []) ⟨hx, hb, hml, hown, hts⟩ (c_X5_in l D cI cC cS tt x X hX_ 0 0 (show (0 : Int32).toInt = 0 from by decide) 11 11 (show (11 : Int32).toInt = 11 from by decide)) (va_cwS 3 hts gX5_noPoint_X5_in rfl rfl rfl (by decide +kernel) ⟨Nat.le_of_ble_eq_true rfl, Nat.le_of_ble_eq_true rfl⟩) ⟨x_blindR, x_preR (hP.sub (ws' := []) [] rfl) hK hE hS⟩ rfl rfl hl.1 rfl (lv_room (Nat.le_of_ble_eq_true rfl)) dX5_noPoint_4 ⟨(Nat.le_of_ble_eq_true rfl), (Nat.le_of_ble_eq_true rfl)⟩) ?_
  refine x_ifB_eq (tgt := 20) hx hb dX5_noPoint_7 (by decide) (fun c_7 => ?_) (fun c_7 => ?_)
  · skip
    refine lv_iconst (v := 1) hx hb dX5_noPoint_20 (by decide) ?_
    refine lv_goto (tgt := 25) hx hb dX5_noPoint_21 (by decide) ?_
    exact x_zretR hQ hx hb hr hlocks (by decide) (bI_t (by omega)) dX5_noPoint_25
  · skip
    refine lv_iload_n hx hb dX5_noPoint_10 rfl (lv_at hl 1 rfl) ?_
    refine lv_iconst (v := 0) hx hb dX5_noPoint_11 (by decide) ?_
    refine lv_bipush (v := 11) hx hb dX5_noPoint_12 (by decide) ?_
    refine x_callR (va_runS (As := [.int y, .int 0, .int 11]) (rest := []) ⟨hx, hb, hml, hown, hts⟩ (c_X5_in l D cI cC cS tt y Y hY_ 0 0 (show (0 : Int32).toInt = 0 from by decide) 11 11 (show (11 : Int32).toInt = 11 from by decide)) (va_cwS 3 hts gX5_noPoint_X5_in rfl rfl rfl (by decide +kernel) ⟨Nat.le_of_ble_eq_true rfl, Nat.le_of_ble_eq_true rfl⟩) ⟨x_blindR, x_preR (hP.sub (ws' := []) [] rfl) hK hE hS⟩ rfl rfl hl.1 rfl (lv_room (Nat.le_of_ble_eq_true rfl)) dX5_noPoint_14 ⟨(Nat.le_of_ble_eq_true rfl), (Nat.le_of_ble_eq_true rfl)⟩) ?_
    refine x_ifB_ne (tgt := 24) hx hb dX5_noPoint_17 (by decide) (fun c_17 => ?_) (fun c_17 => ?_)
    · skip
      refine lv_iconst (v := 0) hx hb dX5_noPoint_24 (by decide) ?_
      exact x_zretR hQ hx hb hr hlocks (by decide) (bI_f (by omega)) dX5_noPoint_25
    · skip
      refine lv_iconst (v := 1) hx hb dX5_noPoint_20 (by decide) ?_
      refine lv_goto (tgt := 25) hx hb dX5_noPoint_21 (by decide) ?_
      exact x_zretR hQ hx hb hr hlocks (by decide) (bI_t (by omega)) dX5_noPoint_25
set_option maxHeartbeats 4000000 in
set_option maxRecDepth 100000 in
theorem c_X5_cell (l : Launch) (D : va_G) (cI cC cS : ClassId) (tt : Nat → Nat) (pp : Int32) (P : Int) (hP_ : pp.toInt = P) (x : Int32) (X : Int) (hX_ : x.toInt = X) (y : Int32) (Y : Int) (hY_ : y.toInt = Y) (hh0 : -100 ≤ P ∧ P ≤ 100 ∧ -1000 ≤ X ∧ X ≤ 1000 ∧ -1000 ≤ Y ∧ Y ≤ 1000) : Met l yX5_cell wsX5_cell ({ frames := 0, cells := 0, slots := 0, locals := 0 } : Room) (x_PR D cI cC cS tt [] [.int pp, .int x, .int y]) (QcRead (zI (144 * P + 12 * Y + X))) 0 0 (fun _ => False) := by
  refine Met.ofW (cc := cX5_cell) (maxL := 3) (ret := (some .int)) (by decide) rfl ?_
  intro p e s m args below meth c s₁ hBd hml hv
  obtain ⟨rfl, hP, hK, hE⟩ := hv
  have hx := hBd.exec
  have hb := hBd.bytes
  have hr := hBd.returns
  have hts := atoms_spec (ws := wsX5_cell) hBd.pre
  have hown : s.vm.findClass RX5 = some m.cls := findClass_of_methodNamed hBd.named
  have hlocks := hBd.notSynchronized
  have hS : va_S (fun _ => False) s.heap s.heap [] := va_S.rf
  have hl := lv_entry ([.int pp, .int x, .int y]) (n := 3) (Nat.le_of_ble_eq_true rfl)
  rw [lg_entry_eq]
  generalize (lg_sl ([.int pp, .int x, .int y]) ++ List.replicate (3 - (lg_sl ([.int pp, .int x, .int y])).length) Slot.unset).toArray = ls at hl ⊢
  have hl : lv_has ls 3 [(0, .int pp), (1, .int x), (2, .int y)] := hl
  refine x_genQ (fun Q hQ => ?_)
  refine lv_sipush (v := 144) hx hb dX5_cell_0 (by decide) ?_
  refine lv_iload_n hx hb dX5_cell_3 rfl (lv_at hl 0 rfl) ?_
  refine lv_imul hx hb dX5_cell_4 ?_
  refine lv_bipush (v := 12) hx hb dX5_cell_5 (by decide) ?_
  refine lv_iload_n hx hb dX5_cell_7 rfl (lv_at hl 2 rfl) ?_
  refine lv_imul hx hb dX5_cell_8 ?_
  refine lv_iadd hx hb dX5_cell_9 ?_
  refine lv_iload_n hx hb dX5_cell_10 rfl (lv_at hl 1 rfl) ?_
  refine lv_iadd hx hb dX5_cell_11 ?_
  exact x_iretR hQ hx hb hr hlocks (zI_eq (x_addI (x_addI (x_mulI (show (144 : Int32).toInt = 144 from by decide) hP_ (by omega) (by omega)) (x_mulI (show (12 : Int32).toInt = 12 from by decide) hY_ (by omega) (by omega)) (by omega) (by omega)) hX_ (by omega) (by omega)) rfl) dX5_cell_12
set_option maxHeartbeats 4000000 in
set_option maxRecDepth 100000 in
theorem c_X5_columnOf (l : Launch) (D : va_G) (cI cC cS : ClassId) (tt : Nat → Nat) (t : Nat) (hh0 : t < 9) : Met l yX5_columnOf wsX5_columnOf ({ frames := 0, cells := 0, slots := 0, locals := 0 } : Room) (x_PR D cI cC cS tt [] [.int (nI t)]) (QcRead (nI (t % 3 * 4))) 0 0 (fun _ => False) := by
  refine Met.ofW (cc := cX5_columnOf) (maxL := 1) (ret := (some .int)) (by decide) rfl ?_
  intro p e s m args below meth c s₁ hBd hml hv
  obtain ⟨rfl, hP, hK, hE⟩ := hv
  have hx := hBd.exec
  have hb := hBd.bytes
  have hr := hBd.returns
  have hts := atoms_spec (ws := wsX5_columnOf) hBd.pre
  have hown : s.vm.findClass RX5 = some m.cls := findClass_of_methodNamed hBd.named
  have hlocks := hBd.notSynchronized
  have hS : va_S (fun _ => False) s.heap s.heap [] := va_S.rf
  have hl := lv_entry ([.int (nI t)]) (n := 1) (Nat.le_of_ble_eq_true rfl)
  rw [lg_entry_eq]
  generalize (lg_sl ([.int (nI t)]) ++ List.replicate (1 - (lg_sl ([.int (nI t)])).length) Slot.unset).toArray = ls at hl ⊢
  have hl : lv_has ls 1 [(0, .int (nI t))] := hl
  refine x_genQ (fun Q hQ => ?_)
  refine lv_iconst (v := 4) hx hb dX5_columnOf_0 (by decide) ?_
  refine lv_iload_n hx hb dX5_columnOf_1 rfl (lv_at hl 0 rfl) ?_
  refine lv_iconst (v := 3) hx hb dX5_columnOf_2 (by decide) ?_
  refine lv_irem hx hb dX5_columnOf_3 (by decide) ?_
  refine x_eqi (x_rem (a := t) (d := 3) (by omega) (by decide) (by decide)) ?_
  refine lv_imul hx hb dX5_columnOf_4 ?_
  refine x_eqi (show 4 * nI (t % 3) = nI (4 * (t % 3)) from pk_mul 4 (t % 3)) ?_
  exact x_iretR hQ hx hb hr hlocks (congrArg nI (by omega)) dX5_columnOf_5
set_option maxHeartbeats 4000000 in
set_option maxRecDepth 100000 in
theorem c_X5_rowOf (l : Launch) (D : va_G) (cI cC cS : ClassId) (tt : Nat → Nat) (t : Nat) (hh0 : t < 9) : Met l yX5_rowOf wsX5_rowOf ({ frames := 0, cells := 0, slots := 0, locals := 0 } : Room) (x_PR D cI cC cS tt [] [.int (nI t)]) (QcRead (nI (t / 3 * 4))) 0 0 (fun _ => False) := by
  refine Met.ofW (cc := cX5_rowOf) (maxL := 1) (ret := (some .int)) (by decide) rfl ?_
  intro p e s m args below meth c s₁ hBd hml hv
  obtain ⟨rfl, hP, hK, hE⟩ := hv
  have hx := hBd.exec
  have hb := hBd.bytes
  have hr := hBd.returns
  have hts := atoms_spec (ws := wsX5_rowOf) hBd.pre
  have hown : s.vm.findClass RX5 = some m.cls := findClass_of_methodNamed hBd.named
  have hlocks := hBd.notSynchronized
  have hS : va_S (fun _ => False) s.heap s.heap [] := va_S.rf
  have hl := lv_entry ([.int (nI t)]) (n := 1) (Nat.le_of_ble_eq_true rfl)
  rw [lg_entry_eq]
  generalize (lg_sl ([.int (nI t)]) ++ List.replicate (1 - (lg_sl ([.int (nI t)])).length) Slot.unset).toArray = ls at hl ⊢
  have hl : lv_has ls 1 [(0, .int (nI t))] := hl
  refine x_genQ (fun Q hQ => ?_)
  refine lv_iconst (v := 4) hx hb dX5_rowOf_0 (by decide) ?_
  refine lv_iload_n hx hb dX5_rowOf_1 rfl (lv_at hl 0 rfl) ?_
  refine lv_iconst (v := 3) hx hb dX5_rowOf_2 (by decide) ?_
  refine lv_idiv hx hb dX5_rowOf_3 (by decide) ?_
  refine x_eqi (x_div (a := t) (d := 3) (by omega) (by decide) (by decide)) ?_
  refine lv_imul hx hb dX5_rowOf_4 ?_
  refine x_eqi (show 4 * nI (t / 3) = nI (4 * (t / 3)) from pk_mul 4 (t / 3)) ?_
  exact x_iretR hQ hx hb hr hlocks (congrArg nI (by omega)) dX5_rowOf_5
set_option maxHeartbeats 4000000 in
set_option maxRecDepth 100000 in
theorem c_X5_wrongFill (l : Launch) (D : va_G) (cI cC cS : ClassId) (tt : Nat → Nat) (x : Int32) (X : Int) (hX_ : x.toInt = X) (y : Int32) (Y : Int) (hY_ : y.toInt = Y) (wd : Int32) (Wd : Int) (hWd_ : wd.toInt = Wd) (hg : Int32) (Hg : Int) (hHg_ : hg.toInt = Hg) (v : Int32) (Vv : Int) (hVv_ : v.toInt = Vv) : Met l yX5_wrongFill wsX5_wrongFill ({ frames := 2, cells := 0, slots := 0, locals := 43 } : Room) (x_PR D cI cC cS tt [] [.int x, .int y, .int wd, .int hg, .int v]) (QcRead (bxE X Y Wd Hg Vv)) 0 0 (fun _ => False) := by
  refine Met.ofW (cc := cX5_wrongFill) (maxL := 5) (ret := (some .int)) (by decide) rfl ?_
  intro p e s m args below meth c s₁ hBd hml hv
  obtain ⟨rfl, hP, hK, hE⟩ := hv
  have hx := hBd.exec
  have hb := hBd.bytes
  have hr := hBd.returns
  have hts := atoms_spec (ws := wsX5_wrongFill) hBd.pre
  have hown : s.vm.findClass RX5 = some m.cls := findClass_of_methodNamed hBd.named
  have hlocks := hBd.notSynchronized
  have hS : va_S (fun _ => False) s.heap s.heap [] := va_S.rf
  have hl := lv_entry ([.int x, .int y, .int wd, .int hg, .int v]) (n := 5) (Nat.le_of_ble_eq_true rfl)
  rw [lg_entry_eq]
  generalize (lg_sl ([.int x, .int y, .int wd, .int hg, .int v]) ++ List.replicate (5 - (lg_sl ([.int x, .int y, .int wd, .int hg, .int v])).length) Slot.unset).toArray = ls at hl ⊢
  have hl : lv_has ls 5 [(0, .int x), (1, .int y), (2, .int wd), (3, .int hg), (4, .int v)] := hl
  refine x_genQ (fun Q hQ => ?_)
  refine lv_iload_n hx hb dX5_wrongFill_0 rfl (lv_at hl 0 rfl) ?_
  refine lv_iload_n hx hb dX5_wrongFill_1 rfl (lv_at hl 1 rfl) ?_
  refine x_callR (va_runS (As := [.int x, .int y]) (rest := []) ⟨hx, hb, hml, hown, hts⟩ (c_X5_noPoint l D cI cC cS tt x X hX_ y Y hY_) (va_cwS 2 hts gX5_wrongFill_X5_noPoint rfl rfl rfl (by decide +kernel) ⟨Nat.le_of_ble_eq_true rfl, Nat.le_of_ble_eq_true rfl⟩) ⟨x_blindR, x_preR (hP.sub (ws' := []) [] rfl) hK hE hS⟩ rfl rfl hl.1 rfl (lv_room (Nat.le_of_ble_eq_true rfl)) dX5_wrongFill_2 ⟨(Nat.le_of_ble_eq_true rfl), (Nat.le_of_ble_eq_true rfl)⟩) ?_
  refine x_ifB_eq (tgt := 10) hx hb dX5_wrongFill_5 (by decide) (fun c_5 => ?_) (fun c_5 => ?_)
  · skip
    refine lv_iload_n hx hb dX5_wrongFill_10 rfl (lv_at hl 2 rfl) ?_
    refine lv_iconst (v := 1) hx hb dX5_wrongFill_11 (by decide) ?_
    refine lv_bipush (v := 12) hx hb dX5_wrongFill_12 (by decide) ?_
    refine x_callR (va_runS (As := [.int wd, .int 1, .int 12]) (rest := []) ⟨hx, hb, hml, hown, hts⟩ (c_X5_in l D cI cC cS tt wd Wd hWd_ 1 1 (show (1 : Int32).toInt = 1 from by decide) 12 12 (show (12 : Int32).toInt = 12 from by decide)) (va_cwS 3 hts gX5_wrongFill_X5_in rfl rfl rfl (by decide +kernel) ⟨Nat.le_of_ble_eq_true rfl, Nat.le_of_ble_eq_true rfl⟩) ⟨x_blindR, x_preR (hP.sub (ws' := []) [] rfl) hK hE hS⟩ rfl rfl hl.1 rfl (lv_room (Nat.le_of_ble_eq_true rfl)) dX5_wrongFill_14 ⟨(Nat.le_of_ble_eq_true rfl), (Nat.le_of_ble_eq_true rfl)⟩) ?_
    refine x_ifB_eq (tgt := 45) hx hb dX5_wrongFill_17 (by decide) (fun c_17 => ?_) (fun c_17 => ?_)
    · skip
      refine lv_bipush (v := (-2)) hx hb dX5_wrongFill_45 (by decide) ?_
      exact x_iretR hQ hx hb hr hlocks (by unfold bxE; first | (rw [if_neg (by omega)]) | (rw [if_pos (by omega), if_pos (by omega)]) | (rw [if_pos (by omega), if_neg (by omega)])) dX5_wrongFill_47
    · skip
      refine lv_iload_n hx hb dX5_wrongFill_20 rfl (lv_at hl 3 rfl) ?_
      refine lv_iconst (v := 1) hx hb dX5_wrongFill_21 (by decide) ?_
      refine lv_bipush (v := 12) hx hb dX5_wrongFill_22 (by decide) ?_
      refine x_callR (va_runS (As := [.int hg, .int 1, .int 12]) (rest := []) ⟨hx, hb, hml, hown, hts⟩ (c_X5_in l D cI cC cS tt hg Hg hHg_ 1 1 (show (1 : Int32).toInt = 1 from by decide) 12 12 (show (12 : Int32).toInt = 12 from by decide)) (va_cwS 3 hts gX5_wrongFill_X5_in rfl rfl rfl (by decide +kernel) ⟨Nat.le_of_ble_eq_true rfl, Nat.le_of_ble_eq_true rfl⟩) ⟨x_blindR, x_preR (hP.sub (ws' := []) [] rfl) hK hE hS⟩ rfl rfl hl.1 rfl (lv_room (Nat.le_of_ble_eq_true rfl)) dX5_wrongFill_24 ⟨(Nat.le_of_ble_eq_true rfl), (Nat.le_of_ble_eq_true rfl)⟩) ?_
      refine x_ifB_eq (tgt := 45) hx hb dX5_wrongFill_27 (by decide) (fun c_27 => ?_) (fun c_27 => ?_)
      · skip
        refine lv_bipush (v := (-2)) hx hb dX5_wrongFill_45 (by decide) ?_
        exact x_iretR hQ hx hb hr hlocks (by unfold bxE; first | (rw [if_neg (by omega)]) | (rw [if_pos (by omega), if_pos (by omega)]) | (rw [if_pos (by omega), if_neg (by omega)])) dX5_wrongFill_47
      · skip
        refine lv_iload hx hb dX5_wrongFill_30 (lv_at hl 4 rfl) ?_
        refine lv_iconst (v := 0) hx hb dX5_wrongFill_32 (by decide) ?_
        refine lv_bipush (v := 15) hx hb dX5_wrongFill_33 (by decide) ?_
        refine x_callR (va_runS (As := [.int v, .int 0, .int 15]) (rest := []) ⟨hx, hb, hml, hown, hts⟩ (c_X5_in l D cI cC cS tt v Vv hVv_ 0 0 (show (0 : Int32).toInt = 0 from by decide) 15 15 (show (15 : Int32).toInt = 15 from by decide)) (va_cwS 3 hts gX5_wrongFill_X5_in rfl rfl rfl (by decide +kernel) ⟨Nat.le_of_ble_eq_true rfl, Nat.le_of_ble_eq_true rfl⟩) ⟨x_blindR, x_preR (hP.sub (ws' := []) [] rfl) hK hE hS⟩ rfl rfl hl.1 rfl (lv_room (Nat.le_of_ble_eq_true rfl)) dX5_wrongFill_35 ⟨(Nat.le_of_ble_eq_true rfl), (Nat.le_of_ble_eq_true rfl)⟩) ?_
        refine x_ifB_eq (tgt := 45) hx hb dX5_wrongFill_38 (by decide) (fun c_38 => ?_) (fun c_38 => ?_)
        · skip
          refine lv_bipush (v := (-2)) hx hb dX5_wrongFill_45 (by decide) ?_
          exact x_iretR hQ hx hb hr hlocks (by unfold bxE; first | (rw [if_neg (by omega)]) | (rw [if_pos (by omega), if_pos (by omega)]) | (rw [if_pos (by omega), if_neg (by omega)])) dX5_wrongFill_47
        · skip
          refine lv_iconst (v := 0) hx hb dX5_wrongFill_41 (by decide) ?_
          refine lv_goto (tgt := 47) hx hb dX5_wrongFill_42 (by decide) ?_
          exact x_iretR hQ hx hb hr hlocks (by unfold bxE; first | (rw [if_neg (by omega)]) | (rw [if_pos (by omega), if_pos (by omega)]) | (rw [if_pos (by omega), if_neg (by omega)])) dX5_wrongFill_47
  · skip
    refine lv_iconst (v := (-1)) hx hb dX5_wrongFill_8 (by decide) ?_
    exact x_iretR hQ hx hb hr hlocks (by unfold bxE; first | (rw [if_neg (by omega)]) | (rw [if_pos (by omega), if_pos (by omega)]) | (rw [if_pos (by omega), if_neg (by omega)])) dX5_wrongFill_9
set_option maxHeartbeats 4000000 in
set_option maxRecDepth 100000 in
theorem c_X5_isShift (l : Launch) (D : va_G) (cI cC cS : ClassId) (tt : Nat → Nat) (x : Int32) (X : Int) (hX_ : x.toInt = X) (y : Int32) (Y : Int) (hY_ : y.toInt = Y) : Met l yX5_isShift wsX5_isShift ({ frames := 1, cells := 0, slots := 0, locals := 22 } : Room) (x_PR D cI cC cS tt [] [.int x, .int y]) (QcRead (bI (decide (-11 ≤ X ∧ X ≤ 11 ∧ -11 ≤ Y ∧ Y ≤ 11)))) 0 0 (fun _ => False) := by
  refine Met.ofW (cc := cX5_isShift) (maxL := 2) (ret := (some .boolean)) (by decide) rfl ?_
  intro p e s m args below meth c s₁ hBd hml hv
  obtain ⟨rfl, hP, hK, hE⟩ := hv
  have hx := hBd.exec
  have hb := hBd.bytes
  have hr := hBd.returns
  have hts := atoms_spec (ws := wsX5_isShift) hBd.pre
  have hown : s.vm.findClass RX5 = some m.cls := findClass_of_methodNamed hBd.named
  have hlocks := hBd.notSynchronized
  have hS : va_S (fun _ => False) s.heap s.heap [] := va_S.rf
  have hl := lv_entry ([.int x, .int y]) (n := 2) (Nat.le_of_ble_eq_true rfl)
  rw [lg_entry_eq]
  generalize (lg_sl ([.int x, .int y]) ++ List.replicate (2 - (lg_sl ([.int x, .int y])).length) Slot.unset).toArray = ls at hl ⊢
  have hl : lv_has ls 2 [(0, .int x), (1, .int y)] := hl
  refine x_genQ (fun Q hQ => ?_)
  refine lv_iload_n hx hb dX5_isShift_0 rfl (lv_at hl 0 rfl) ?_
  refine lv_bipush (v := (-11)) hx hb dX5_isShift_1 (by decide) ?_
  refine lv_bipush (v := 11) hx hb dX5_isShift_3 (by decide) ?_
  refine x_callR (va_runS (As := [.int x, .int (-11), .int 11]) (rest := []) ⟨hx, hb, hml, hown, hts⟩ (c_X5_in l D cI cC cS tt x X hX_ (-11) (-11) (show (-11 : Int32).toInt = -11 from by decide) 11 11 (show (11 : Int32).toInt = 11 from by decide)) (va_cwS 3 hts gX5_isShift_X5_in rfl rfl rfl (by decide +kernel) ⟨Nat.le_of_ble_eq_true rfl, Nat.le_of_ble_eq_true rfl⟩) ⟨x_blindR, x_preR (hP.sub (ws' := []) [] rfl) hK hE hS⟩ rfl rfl hl.1 rfl (lv_room (Nat.le_of_ble_eq_true rfl)) dX5_isShift_5 ⟨(Nat.le_of_ble_eq_true rfl), (Nat.le_of_ble_eq_true rfl)⟩) ?_
  refine x_ifB_eq (tgt := 26) hx hb dX5_isShift_8 (by decide) (fun c_8 => ?_) (fun c_8 => ?_)
  · skip
    refine lv_iconst (v := 0) hx hb dX5_isShift_26 (by decide) ?_
    exact x_zretR hQ hx hb hr hlocks (by decide) (bI_f (by omega)) dX5_isShift_27
  · skip
    refine lv_iload_n hx hb dX5_isShift_11 rfl (lv_at hl 1 rfl) ?_
    refine lv_bipush (v := (-11)) hx hb dX5_isShift_12 (by decide) ?_
    refine lv_bipush (v := 11) hx hb dX5_isShift_14 (by decide) ?_
    refine x_callR (va_runS (As := [.int y, .int (-11), .int 11]) (rest := []) ⟨hx, hb, hml, hown, hts⟩ (c_X5_in l D cI cC cS tt y Y hY_ (-11) (-11) (show (-11 : Int32).toInt = -11 from by decide) 11 11 (show (11 : Int32).toInt = 11 from by decide)) (va_cwS 3 hts gX5_isShift_X5_in rfl rfl rfl (by decide +kernel) ⟨Nat.le_of_ble_eq_true rfl, Nat.le_of_ble_eq_true rfl⟩) ⟨x_blindR, x_preR (hP.sub (ws' := []) [] rfl) hK hE hS⟩ rfl rfl hl.1 rfl (lv_room (Nat.le_of_ble_eq_true rfl)) dX5_isShift_16 ⟨(Nat.le_of_ble_eq_true rfl), (Nat.le_of_ble_eq_true rfl)⟩) ?_
    refine x_ifB_eq (tgt := 26) hx hb dX5_isShift_19 (by decide) (fun c_19 => ?_) (fun c_19 => ?_)
    · skip
      refine lv_iconst (v := 0) hx hb dX5_isShift_26 (by decide) ?_
      exact x_zretR hQ hx hb hr hlocks (by decide) (bI_f (by omega)) dX5_isShift_27
    · skip
      refine lv_iconst (v := 1) hx hb dX5_isShift_22 (by decide) ?_
      refine lv_goto (tgt := 27) hx hb dX5_isShift_23 (by decide) ?_
      exact x_zretR hQ hx hb hr hlocks (by decide) (bI_t (by omega)) dX5_isShift_27
set_option maxHeartbeats 4000000 in
set_option maxRecDepth 100000 in
theorem c_X5_bits (l : Launch) (D : va_G) (cI cC cS : ClassId) (tt : Nat → Nat) (K1 : Nat) (hh0 : K1 ≤ 25) : Met l yX5_bits wsX5_bits ({ frames := 0, cells := 0, slots := 0, locals := 0 } : Room) (x_PR D cI cC cS tt [] [.int (nI K1)]) (QcRead (nI (btN K1))) 0 0 (fun _ => False) := by
  refine Met.ofW (cc := cX5_bits) (maxL := 1) (ret := (some .int)) (by decide) rfl ?_
  intro p e s m args below meth c s₁ hBd hml hv
  obtain ⟨rfl, hP, hK, hE⟩ := hv
  have hx := hBd.exec
  have hb := hBd.bytes
  have hr := hBd.returns
  have hts := atoms_spec (ws := wsX5_bits) hBd.pre
  have hown : s.vm.findClass RX5 = some m.cls := findClass_of_methodNamed hBd.named
  have hlocks := hBd.notSynchronized
  have hS : va_S (fun _ => False) s.heap s.heap [] := va_S.rf
  have hl := lv_entry ([.int (nI K1)]) (n := 1) (Nat.le_of_ble_eq_true rfl)
  rw [lg_entry_eq]
  generalize (lg_sl ([.int (nI K1)]) ++ List.replicate (1 - (lg_sl ([.int (nI K1)])).length) Slot.unset).toArray = ls at hl ⊢
  have hl : lv_has ls 1 [(0, .int (nI K1))] := hl
  refine x_genQ (fun Q hQ => ?_)
  refine lv_iload_n hx hb dX5_bits_0 rfl (lv_at hl 0 rfl) ?_
  refine x_if_ne (tgt := 8) hx hb dX5_bits_1 (by decide) (X := ((K1 : Nat) : Int)) (nI_toI (by omega)) (fun c_1 => ?_) (fun c_1 => ?_)
  · skip
    refine lv_iload_n hx hb dX5_bits_8 rfl (lv_at hl 0 rfl) ?_
    refine lv_iconst (v := 3) hx hb dX5_bits_9 (by decide) ?_
    refine x_icmp_ge (tgt := 17) hx hb dX5_bits_10 (by decide) (X := ((K1 : Nat) : Int)) (nI_toI (by omega)) (Y := 3) (show (3 : Int32).toInt = 3 from by decide) (fun c_10 => ?_) (fun c_10 => ?_)
    · skip
      refine lv_iload_n hx hb dX5_bits_17 rfl (lv_at hl 0 rfl) ?_
      refine lv_bipush (v := 9) hx hb dX5_bits_18 (by decide) ?_
      refine x_icmp_ge (tgt := 27) hx hb dX5_bits_20 (by decide) (X := ((K1 : Nat) : Int)) (nI_toI (by omega)) (Y := 9) (show (9 : Int32).toInt = 9 from by decide) (fun c_20 => ?_) (fun c_20 => ?_)
      · skip
        refine lv_iload_n hx hb dX5_bits_27 rfl (lv_at hl 0 rfl) ?_
        refine lv_bipush (v := 25) hx hb dX5_bits_28 (by decide) ?_
        refine x_icmp_ge (tgt := 38) hx hb dX5_bits_30 (by decide) (X := ((K1 : Nat) : Int)) (nI_toI (by omega)) (Y := 25) (show (25 : Int32).toInt = 25 from by decide) (fun c_30 => ?_) (fun c_30 => ?_)
        · skip
          refine lv_bipush (v := 66) hx hb dX5_bits_38 (by decide) ?_
          exact x_iretR hQ hx hb hr hlocks (by first | (rw [show btN K1 = 1 from by unfold btN; rw [if_pos (by omega)]]; rfl) | (rw [show btN K1 = 3 from by unfold btN; rw [if_neg (by omega), if_pos (by omega)]]; rfl) | (rw [show btN K1 = 5 from by unfold btN; rw [if_neg (by omega), if_neg (by omega), if_pos (by omega)]]; rfl) | (rw [show btN K1 = 66 from by unfold btN; rw [if_neg (by omega), if_neg (by omega), if_neg (by omega), if_pos (by omega)]]; rfl) | (rw [show btN K1 = 7 from by unfold btN; rw [if_neg (by omega), if_neg (by omega), if_neg (by omega), if_neg (by omega)]]; rfl)) dX5_bits_40
        · skip
          refine lv_bipush (v := 7) hx hb dX5_bits_33 (by decide) ?_
          refine lv_goto (tgt := 40) hx hb dX5_bits_35 (by decide) ?_
          exact x_iretR hQ hx hb hr hlocks (by first | (rw [show btN K1 = 1 from by unfold btN; rw [if_pos (by omega)]]; rfl) | (rw [show btN K1 = 3 from by unfold btN; rw [if_neg (by omega), if_pos (by omega)]]; rfl) | (rw [show btN K1 = 5 from by unfold btN; rw [if_neg (by omega), if_neg (by omega), if_pos (by omega)]]; rfl) | (rw [show btN K1 = 66 from by unfold btN; rw [if_neg (by omega), if_neg (by omega), if_neg (by omega), if_pos (by omega)]]; rfl) | (rw [show btN K1 = 7 from by unfold btN; rw [if_neg (by omega), if_neg (by omega), if_neg (by omega), if_neg (by omega)]]; rfl)) dX5_bits_40
      · skip
        refine lv_iconst (v := 5) hx hb dX5_bits_23 (by decide) ?_
        refine lv_goto (tgt := 40) hx hb dX5_bits_24 (by decide) ?_
        exact x_iretR hQ hx hb hr hlocks (by first | (rw [show btN K1 = 1 from by unfold btN; rw [if_pos (by omega)]]; rfl) | (rw [show btN K1 = 3 from by unfold btN; rw [if_neg (by omega), if_pos (by omega)]]; rfl) | (rw [show btN K1 = 5 from by unfold btN; rw [if_neg (by omega), if_neg (by omega), if_pos (by omega)]]; rfl) | (rw [show btN K1 = 66 from by unfold btN; rw [if_neg (by omega), if_neg (by omega), if_neg (by omega), if_pos (by omega)]]; rfl) | (rw [show btN K1 = 7 from by unfold btN; rw [if_neg (by omega), if_neg (by omega), if_neg (by omega), if_neg (by omega)]]; rfl)) dX5_bits_40
    · skip
      refine lv_iconst (v := 3) hx hb dX5_bits_13 (by decide) ?_
      refine lv_goto (tgt := 40) hx hb dX5_bits_14 (by decide) ?_
      exact x_iretR hQ hx hb hr hlocks (by first | (rw [show btN K1 = 1 from by unfold btN; rw [if_pos (by omega)]]; rfl) | (rw [show btN K1 = 3 from by unfold btN; rw [if_neg (by omega), if_pos (by omega)]]; rfl) | (rw [show btN K1 = 5 from by unfold btN; rw [if_neg (by omega), if_neg (by omega), if_pos (by omega)]]; rfl) | (rw [show btN K1 = 66 from by unfold btN; rw [if_neg (by omega), if_neg (by omega), if_neg (by omega), if_pos (by omega)]]; rfl) | (rw [show btN K1 = 7 from by unfold btN; rw [if_neg (by omega), if_neg (by omega), if_neg (by omega), if_neg (by omega)]]; rfl)) dX5_bits_40
  · skip
    refine lv_iconst (v := 1) hx hb dX5_bits_4 (by decide) ?_
    refine lv_goto (tgt := 40) hx hb dX5_bits_5 (by decide) ?_
    exact x_iretR hQ hx hb hr hlocks (by first | (rw [show btN K1 = 1 from by unfold btN; rw [if_pos (by omega)]]; rfl) | (rw [show btN K1 = 3 from by unfold btN; rw [if_neg (by omega), if_pos (by omega)]]; rfl) | (rw [show btN K1 = 5 from by unfold btN; rw [if_neg (by omega), if_neg (by omega), if_pos (by omega)]]; rfl) | (rw [show btN K1 = 66 from by unfold btN; rw [if_neg (by omega), if_neg (by omega), if_neg (by omega), if_pos (by omega)]]; rfl) | (rw [show btN K1 = 7 from by unfold btN; rw [if_neg (by omega), if_neg (by omega), if_neg (by omega), if_neg (by omega)]]; rfl)) dX5_bits_40
set_option maxHeartbeats 4000000 in
set_option maxRecDepth 100000 in
theorem c_X5_canKey (l : Launch) (D : va_G) (cI cC cS : ClassId) (tt : Nat → Nat) (mm : Nat) (mn : Nat) (mh : Nat) (ms : Nat) (mr : Nat) (md : Nat) (mo : Nat) (mc : Nat) (mt : Nat) (mq : Nat) (kp : Int32) (fl : Int32) (ty : Int32) (at9 : Int32) (nu : Int32) (D1 : Nat → Int32) (S1 : Nat → Int32) (R1 : Nat → Int32) (N1 : Nat → Int32) (K1 : Int32) (L1 : Nat → Int32) : Met l yX5_canKey wsX5_canKey ({ frames := 0, cells := 0, slots := 0, locals := 0 } : Room) (x_PR D cI cC cS tt [(mm, .inr (5, [.ref mn, .ref mh, .int kp, .ref ms, .int fl, .ref mr, .ref md, .ref mo, .ref mc, .int ty, .ref mt, .int at9, .int nu, .ref mq])), (mn, .inl (cI, 578, .inl (mkM D1 S1 R1 N1 K1 L1)))] [.ref mm]) (QcRead (bI (decide (594 ≤ (N1 0 + N1 3).toInt)))) 0 0 (fun _ => False) := by
  refine Met.ofW (cc := cX5_canKey) (maxL := 1) (ret := (some .boolean)) (by decide) rfl ?_
  intro p e s m args below meth c s₁ hBd hml hv
  obtain ⟨rfl, hP, hK, hE⟩ := hv
  have hx := hBd.exec
  have hb := hBd.bytes
  have hr := hBd.returns
  have hts := atoms_spec (ws := wsX5_canKey) hBd.pre
  have hown : s.vm.findClass RX5 = some m.cls := findClass_of_methodNamed hBd.named
  have hlocks := hBd.notSynchronized
  have hS : va_S (fun _ => False) s.heap s.heap [] := va_S.rf
  have hl := lv_entry ([.ref mm]) (n := 1) (Nat.le_of_ble_eq_true rfl)
  rw [lg_entry_eq]
  generalize (lg_sl ([.ref mm]) ++ List.replicate (1 - (lg_sl ([.ref mm])).length) Slot.unset).toArray = ls at hl ⊢
  have hl : lv_has ls 1 [(0, .ref mm)] := hl
  refine x_genQ (fun Q hQ => ?_)
  refine lv_sipush (v := 594) hx hb dX5_canKey_0 (by decide) ?_
  refine lv_aload_n hx hb dX5_canKey_3 rfl (lv_at hl 0 rfl) ?_
  refine va_get (v := .ref mn) (D := D) (ci := 5) (C := RX5) (T := TX5) (N := 14) hx hb hts (by decide +kernel) hown hK hP 0 rfl rfl 0 (by decide) (hts (.fieldLink RX5 7 "SpiralFramesModel" "now" "[I") (by decide +kernel)) (fun _ h9 => h9) rfl dX5_canKey_4 ?_
  refine lv_sipush (v := 432) hx hb dX5_canKey_7 (by decide) ?_
  refine x_eqi (show (432 : Int32) = nI 432 from by decide) ?_
  refine x_iald hx hb hK hP 1 0 rfl rfl (k := 432) (by omega) (by decide) dX5_canKey_10 ?_
  refine x_eqi (show (mkM D1 S1 R1 N1 K1 L1) 432 = N1 0 from (mkM_N (j := 0) (by omega) (by omega))) ?_
  refine lv_aload_n hx hb dX5_canKey_11 rfl (lv_at hl 0 rfl) ?_
  refine va_get (v := .ref mn) (D := D) (ci := 5) (C := RX5) (T := TX5) (N := 14) hx hb hts (by decide +kernel) hown hK hP 0 rfl rfl 0 (by decide) (hts (.fieldLink RX5 7 "SpiralFramesModel" "now" "[I") (by decide +kernel)) (fun _ h9 => h9) rfl dX5_canKey_12 ?_
  refine lv_sipush (v := 435) hx hb dX5_canKey_15 (by decide) ?_
  refine x_eqi (show (435 : Int32) = nI 435 from by decide) ?_
  refine x_iald hx hb hK hP 1 0 rfl rfl (k := 435) (by omega) (by decide) dX5_canKey_18 ?_
  refine x_eqi (show (mkM D1 S1 R1 N1 K1 L1) 435 = N1 3 from (mkM_N (j := 3) (by omega) (by omega))) ?_
  refine lv_iadd hx hb dX5_canKey_19 ?_
  refine x_icmp_gt (tgt := 27) hx hb dX5_canKey_20 (by decide) (X := 594) (show (594 : Int32).toInt = 594 from by decide) (Y := ((N1 0) + (N1 3)).toInt) rfl (fun c_20 => ?_) (fun c_20 => ?_)
  · skip
    refine lv_iconst (v := 0) hx hb dX5_canKey_27 (by decide) ?_
    exact x_zretR hQ hx hb hr hlocks (by decide) (bI_f (by omega)) dX5_canKey_28
  · skip
    refine lv_iconst (v := 1) hx hb dX5_canKey_23 (by decide) ?_
    refine lv_goto (tgt := 28) hx hb dX5_canKey_24 (by decide) ?_
    exact x_zretR hQ hx hb hr hlocks (by decide) (bI_t (by omega)) dX5_canKey_28
