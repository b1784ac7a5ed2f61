/-! ===== pure words of the drawing: a level at a place, sums ===== -/
/-- a point of a row of 144 levels; 0 beyond -/
def gtZ (lv : Nat → Int32) (X Y : Int) : Int32 := if 0 ≤ X ∧ X < 12 ∧ 0 ≤ Y ∧ Y < 12 then lv (Y * 12 + X).toNat else 0
def ptZ (lv : Nat → Int32) (X Y : Int) (v : Int32) : Nat → Int32 := if 0 ≤ X ∧ X < 12 ∧ 0 ≤ Y ∧ Y < 12 then upd lv (Y * 12 + X).toNat v else lv
/-- the sum of the first n -/
def sm (f : Nat → Int32) : Nat → Int32
  | 0 => 0
  | n + 1 => sm f n + f n
theorem sm_0 (f : Nat → Int32) : sm f 0 = 0 := rfl
theorem sm_s (f : Nat → Int32) (n : Nat) : sm f (n + 1) = sm f n + f n := rfl
theorem sm_c {f g : Nat → Int32} : ∀ n, (∀ j, j < n → f j = g j) → sm f n = sm g n
  | 0, _ => rfl
  | n + 1, h => by rw [sm_s, sm_s, sm_c n (fun j hj => h j (by omega)), h n (by omega)]
set_option maxHeartbeats 4000000 in
set_option maxRecDepth 100000 in
theorem c_X4_isBetween (l : Launch) (D : va_G) (cI cC cS : ClassId) (tt : Nat → Nat) (a : Int32) (A : Int) (hA_ : a.toInt = A) (b : Int32) (B : Int) (hB_ : b.toInt = B) (c0 : Int32) (C : Int) (hC_ : c0.toInt = C) : Met l yX4_isBetween wsX4_isBetween ({ frames := 0, cells := 0, slots := 0, locals := 0 } : Room) (x_PR D cI cC cS tt [] [.int a, .int b, .int c0]) (QcRead (bI (decide (B ≤ A ∧ A ≤ C)))) 0 0 (fun _ => False) := by
  refine Met.ofW (cc := cX4_isBetween) (maxL := 3) (ret := (some .boolean)) (by decide) rfl ?_
  intro p e s m args below meth c s₁ hBd hml hv
  obtain ⟨rfl, hP, hK, hE⟩ := hv
  have hx := hBd.exec
  have hb := hBd.bytes
  have hr := hBd.returns
  have hts := atoms_spec (ws := wsX4_isBetween) hBd.pre
  have hown : s.vm.findClass RX4 = some m.cls := findClass_of_methodNamed hBd.named
  have hlocks := hBd.notSynchronized
  have hS : va_S (fun _ => False) s.heap s.heap [] := va_S.rf
  have hl := lv_entry ([.int a, .int b, .int c0]) (n := 3) (Nat.le_of_ble_eq_true rfl)
  rw [lg_entry_eq]
  generalize (lg_sl ([.int a, .int b, .int c0]) ++ List.replicate (3 - (lg_sl ([.int a, .int b, .int c0])).length) Slot.unset).toArray = ls at hl ⊢
  have hl : lv_has ls 3 [(0, .int a), (1, .int b), (2, .int c0)] := hl
  refine x_genQ (fun Q hQ => ?_)
  refine lv_iload_n hx hb dX4_isBetween_0 rfl (lv_at hl 0 rfl) ?_
  refine lv_iload_n hx hb dX4_isBetween_1 rfl (lv_at hl 1 rfl) ?_
  refine x_icmp_lt (tgt := 14) hx hb dX4_isBetween_2 (by decide) (X := A) hA_ (Y := B) hB_ (fun c_2 => ?_) (fun c_2 => ?_)
  · skip
    refine lv_iconst (v := 0) hx hb dX4_isBetween_14 (by decide) ?_
    exact x_zretR hQ hx hb hr hlocks (by decide) (bI_f (by omega)) dX4_isBetween_15
  · skip
    refine lv_iload_n hx hb dX4_isBetween_5 rfl (lv_at hl 0 rfl) ?_
    refine lv_iload_n hx hb dX4_isBetween_6 rfl (lv_at hl 2 rfl) ?_
    refine x_icmp_gt (tgt := 14) hx hb dX4_isBetween_7 (by decide) (X := A) hA_ (Y := C) hC_ (fun c_7 => ?_) (fun c_7 => ?_)
    · skip
      refine lv_iconst (v := 0) hx hb dX4_isBetween_14 (by decide) ?_
      exact x_zretR hQ hx hb hr hlocks (by decide) (bI_f (by omega)) dX4_isBetween_15
    · skip
      refine lv_iconst (v := 1) hx hb dX4_isBetween_10 (by decide) ?_
      refine lv_goto (tgt := 15) hx hb dX4_isBetween_11 (by decide) ?_
      exact x_zretR hQ hx hb hr hlocks (by decide) (bI_t (by omega)) dX4_isBetween_15
set_option maxHeartbeats 4000000 in
set_option maxRecDepth 100000 in
theorem c_X4_isPoint (l : Launch) (D : va_G) (cI cC cS : ClassId) (tt : Nat → Nat) (x : Int32) (X : Int) (hX_ : x.toInt = X) (y : Int32) (Y : Int) (hY_ : y.toInt = Y) : Met l yX4_isPoint wsX4_isPoint ({ frames := 0, cells := 0, slots := 0, locals := 0 } : Room) (x_PR D cI cC cS tt [] [.int x, .int y]) (QcRead (bI (decide (0 ≤ X ∧ X < 12 ∧ 0 ≤ Y ∧ Y < 12)))) 0 0 (fun _ => False) := by
  refine Met.ofW (cc := cX4_isPoint) (maxL := 2) (ret := (some .boolean)) (by decide) rfl ?_
  intro p e s m args below meth c s₁ hBd hml hv
  obtain ⟨rfl, hP, hK, hE⟩ := hv
  have hx := hBd.exec
  have hb := hBd.bytes
  have hr := hBd.returns
  have hts := atoms_spec (ws := wsX4_isPoint) hBd.pre
  have hown : s.vm.findClass RX4 = some m.cls := findClass_of_methodNamed hBd.named
  have hlocks := hBd.notSynchronized
  have hS : va_S (fun _ => False) s.heap s.heap [] := va_S.rf
  have hl := lv_entry ([.int x, .int y]) (n := 2) (Nat.le_of_ble_eq_true rfl)
  rw [lg_entry_eq]
  generalize (lg_sl ([.int x, .int y]) ++ List.replicate (2 - (lg_sl ([.int x, .int y])).length) Slot.unset).toArray = ls at hl ⊢
  have hl : lv_has ls 2 [(0, .int x), (1, .int y)] := hl
  refine x_genQ (fun Q hQ => ?_)
  refine lv_iload_n hx hb dX4_isPoint_0 rfl (lv_at hl 0 rfl) ?_
  refine x_if_lt (tgt := 24) hx hb dX4_isPoint_1 (by decide) (X := X) hX_ (fun c_1 => ?_) (fun c_1 => ?_)
  · skip
    refine lv_iconst (v := 0) hx hb dX4_isPoint_24 (by decide) ?_
    exact x_zretR hQ hx hb hr hlocks (by decide) (bI_f (by omega)) dX4_isPoint_25
  · skip
    refine lv_iload_n hx hb dX4_isPoint_4 rfl (lv_at hl 0 rfl) ?_
    refine lv_bipush (v := 12) hx hb dX4_isPoint_5 (by decide) ?_
    refine x_icmp_ge (tgt := 24) hx hb dX4_isPoint_7 (by decide) (X := X) hX_ (Y := 12) (by decide) (fun c_7 => ?_) (fun c_7 => ?_)
    · skip
      refine lv_iconst (v := 0) hx hb dX4_isPoint_24 (by decide) ?_
      exact x_zretR hQ hx hb hr hlocks (by decide) (bI_f (by omega)) dX4_isPoint_25
    · skip
      refine lv_iload_n hx hb dX4_isPoint_10 rfl (lv_at hl 1 rfl) ?_
      refine x_if_lt (tgt := 24) hx hb dX4_isPoint_11 (by decide) (X := Y) hY_ (fun c_11 => ?_) (fun c_11 => ?_)
      · skip
        refine lv_iconst (v := 0) hx hb dX4_isPoint_24 (by decide) ?_
        exact x_zretR hQ hx hb hr hlocks (by decide) (bI_f (by omega)) dX4_isPoint_25
      · skip
        refine lv_iload_n hx hb dX4_isPoint_14 rfl (lv_at hl 1 rfl) ?_
        refine lv_bipush (v := 12) hx hb dX4_isPoint_15 (by decide) ?_
        refine x_icmp_ge (tgt := 24) hx hb dX4_isPoint_17 (by decide) (X := Y) hY_ (Y := 12) (by decide) (fun c_17 => ?_) (fun c_17 => ?_)
        · skip
          refine lv_iconst (v := 0) hx hb dX4_isPoint_24 (by decide) ?_
          exact x_zretR hQ hx hb hr hlocks (by decide) (bI_f (by omega)) dX4_isPoint_25
        · skip
          refine lv_iconst (v := 1) hx hb dX4_isPoint_20 (by decide) ?_
          refine lv_goto (tgt := 25) hx hb dX4_isPoint_21 (by decide) ?_
          exact x_zretR hQ hx hb hr hlocks (by decide) (bI_t (by omega)) dX4_isPoint_25
set_option maxHeartbeats 4000000 in
set_option maxRecDepth 100000 in
theorem c_X4_isPicture (l : Launch) (D : va_G) (cI cC cS : ClassId) (tt : Nat → Nat) (x : Int32) (X : Int) (hX_ : x.toInt = X) : Met l yX4_isPicture wsX4_isPicture ({ frames := 0, cells := 0, slots := 0, locals := 0 } : Room) (x_PR D cI cC cS tt [] [.int x]) (QcRead (bI (decide (0 ≤ X ∧ X < 3)))) 0 0 (fun _ => False) := by
  refine Met.ofW (cc := cX4_isPicture) (maxL := 1) (ret := (some .boolean)) (by decide) rfl ?_
  intro p e s m args below meth c s₁ hBd hml hv
  obtain ⟨rfl, hP, hK, hE⟩ := hv
  have hx := hBd.exec
  have hb := hBd.bytes
  have hr := hBd.returns
  have hts := atoms_spec (ws := wsX4_isPicture) hBd.pre
  have hown : s.vm.findClass RX4 = some m.cls := findClass_of_methodNamed hBd.named
  have hlocks := hBd.notSynchronized
  have hS : va_S (fun _ => False) s.heap s.heap [] := va_S.rf
  have hl := lv_entry ([.int x]) (n := 1) (Nat.le_of_ble_eq_true rfl)
  rw [lg_entry_eq]
  generalize (lg_sl ([.int x]) ++ List.replicate (1 - (lg_sl ([.int x])).length) Slot.unset).toArray = ls at hl ⊢
  have hl : lv_has ls 1 [(0, .int x)] := hl
  refine x_genQ (fun Q hQ => ?_)
  refine lv_iload_n hx hb dX4_isPicture_0 rfl (lv_at hl 0 rfl) ?_
  refine x_if_lt (tgt := 13) hx hb dX4_isPicture_1 (by decide) (X := X) hX_ (fun c_1 => ?_) (fun c_1 => ?_)
  · skip
    refine lv_iconst (v := 0) hx hb dX4_isPicture_13 (by decide) ?_
    exact x_zretR hQ hx hb hr hlocks (by decide) (bI_f (by omega)) dX4_isPicture_14
  · skip
    refine lv_iload_n hx hb dX4_isPicture_4 rfl (lv_at hl 0 rfl) ?_
    refine lv_iconst (v := 3) hx hb dX4_isPicture_5 (by decide) ?_
    refine x_icmp_ge (tgt := 13) hx hb dX4_isPicture_6 (by decide) (X := X) hX_ (Y := 3) (by decide) (fun c_6 => ?_) (fun c_6 => ?_)
    · skip
      refine lv_iconst (v := 0) hx hb dX4_isPicture_13 (by decide) ?_
      exact x_zretR hQ hx hb hr hlocks (by decide) (bI_f (by omega)) dX4_isPicture_14
    · skip
      refine lv_iconst (v := 1) hx hb dX4_isPicture_9 (by decide) ?_
      refine lv_goto (tgt := 14) hx hb dX4_isPicture_10 (by decide) ?_
      exact x_zretR hQ hx hb hr hlocks (by decide) (bI_t (by omega)) dX4_isPicture_14
set_option maxHeartbeats 4000000 in
set_option maxRecDepth 100000 in
theorem c_X4_isTile (l : Launch) (D : va_G) (cI cC cS : ClassId) (tt : Nat → Nat) (x : Int32) (X : Int) (hX_ : x.toInt = X) : Met l yX4_isTile wsX4_isTile ({ frames := 0, cells := 0, slots := 0, locals := 0 } : Room) (x_PR D cI cC cS tt [] [.int x]) (QcRead (bI (decide (0 ≤ X ∧ X < 9)))) 0 0 (fun _ => False) := by
  refine Met.ofW (cc := cX4_isTile) (maxL := 1) (ret := (some .boolean)) (by decide) rfl ?_
  intro p e s m args below meth c s₁ hBd hml hv
  obtain ⟨rfl, hP, hK, hE⟩ := hv
  have hx := hBd.exec
  have hb := hBd.bytes
  have hr := hBd.returns
  have hts := atoms_spec (ws := wsX4_isTile) hBd.pre
  have hown : s.vm.findClass RX4 = some m.cls := findClass_of_methodNamed hBd.named
  have hlocks := hBd.notSynchronized
  have hS : va_S (fun _ => False) s.heap s.heap [] := va_S.rf
  have hl := lv_entry ([.int x]) (n := 1) (Nat.le_of_ble_eq_true rfl)
  rw [lg_entry_eq]
  generalize (lg_sl ([.int x]) ++ List.replicate (1 - (lg_sl ([.int x])).length) Slot.unset).toArray = ls at hl ⊢
  have hl : lv_has ls 1 [(0, .int x)] := hl
  refine x_genQ (fun Q hQ => ?_)
  refine lv_iload_n hx hb dX4_isTile_0 rfl (lv_at hl 0 rfl) ?_
  refine x_if_lt (tgt := 14) hx hb dX4_isTile_1 (by decide) (X := X) hX_ (fun c_1 => ?_) (fun c_1 => ?_)
  · skip
    refine lv_iconst (v := 0) hx hb dX4_isTile_14 (by decide) ?_
    exact x_zretR hQ hx hb hr hlocks (by decide) (bI_f (by omega)) dX4_isTile_15
  · skip
    refine lv_iload_n hx hb dX4_isTile_4 rfl (lv_at hl 0 rfl) ?_
    refine lv_bipush (v := 9) hx hb dX4_isTile_5 (by decide) ?_
    refine x_icmp_ge (tgt := 14) hx hb dX4_isTile_7 (by decide) (X := X) hX_ (Y := 9) (by decide) (fun c_7 => ?_) (fun c_7 => ?_)
    · skip
      refine lv_iconst (v := 0) hx hb dX4_isTile_14 (by decide) ?_
      exact x_zretR hQ hx hb hr hlocks (by decide) (bI_f (by omega)) dX4_isTile_15
    · skip
      refine lv_iconst (v := 1) hx hb dX4_isTile_10 (by decide) ?_
      refine lv_goto (tgt := 15) hx hb dX4_isTile_11 (by decide) ?_
      exact x_zretR hQ hx hb hr hlocks (by decide) (bI_t (by omega)) dX4_isTile_15
set_option maxHeartbeats 4000000 in
set_option maxRecDepth 100000 in
theorem c_X4_tileColumn (l : Launch) (D : va_G) (cI cC cS : ClassId) (tt : Nat → Nat) (t : Nat) (hh0 : t < 9) : Met l yX4_tileColumn wsX4_tileColumn ({ frames := 0, cells := 0, slots := 0, locals := 0 } : Room) (x_PR D cI cC cS tt [] [.int (nI t)]) (QcRead (nI (t % 3 * 4))) 0 0 (fun _ => False) := by
  refine Met.ofW (cc := cX4_tileColumn) (maxL := 1) (ret := (some .int)) (by decide) rfl ?_
  intro p e s m args below meth c s₁ hBd hml hv
  obtain ⟨rfl, hP, hK, hE⟩ := hv
  have hx := hBd.exec
  have hb := hBd.bytes
  have hr := hBd.returns
  have hts := atoms_spec (ws := wsX4_tileColumn) hBd.pre
  have hown : s.vm.findClass RX4 = some m.cls := findClass_of_methodNamed hBd.named
  have hlocks := hBd.notSynchronized
  have hS : va_S (fun _ => False) s.heap s.heap [] := va_S.rf
  have hl := lv_entry ([.int (nI t)]) (n := 1) (Nat.le_of_ble_eq_true rfl)
  rw [lg_entry_eq]
  generalize (lg_sl ([.int (nI t)]) ++ List.replicate (1 - (lg_sl ([.int (nI t)])).length) Slot.unset).toArray = ls at hl ⊢
  have hl : lv_has ls 1 [(0, .int (nI t))] := hl
  refine x_genQ (fun Q hQ => ?_)
  refine lv_iload_n hx hb dX4_tileColumn_0 rfl (lv_at hl 0 rfl) ?_
  refine lv_iconst (v := 3) hx hb dX4_tileColumn_1 (by decide) ?_
  refine lv_irem hx hb dX4_tileColumn_2 (by decide) ?_
  refine x_eqi (x_rem (a := t) (d := 3) (by omega) (by decide) (by decide)) ?_
  refine lv_iconst (v := 4) hx hb dX4_tileColumn_3 (by decide) ?_
  refine lv_imul hx hb dX4_tileColumn_4 ?_
  refine x_eqi (show nI (t % 3) * 4 = nI ((t % 3) * 4) from pk_mul (t % 3) 4) ?_
  exact x_iretR hQ hx hb hr hlocks rfl dX4_tileColumn_5
set_option maxHeartbeats 4000000 in
set_option maxRecDepth 100000 in
theorem c_X4_tileRow (l : Launch) (D : va_G) (cI cC cS : ClassId) (tt : Nat → Nat) (t : Nat) (hh0 : t < 9) : Met l yX4_tileRow wsX4_tileRow ({ frames := 0, cells := 0, slots := 0, locals := 0 } : Room) (x_PR D cI cC cS tt [] [.int (nI t)]) (QcRead (nI (t / 3 * 4))) 0 0 (fun _ => False) := by
  refine Met.ofW (cc := cX4_tileRow) (maxL := 1) (ret := (some .int)) (by decide) rfl ?_
  intro p e s m args below meth c s₁ hBd hml hv
  obtain ⟨rfl, hP, hK, hE⟩ := hv
  have hx := hBd.exec
  have hb := hBd.bytes
  have hr := hBd.returns
  have hts := atoms_spec (ws := wsX4_tileRow) hBd.pre
  have hown : s.vm.findClass RX4 = some m.cls := findClass_of_methodNamed hBd.named
  have hlocks := hBd.notSynchronized
  have hS : va_S (fun _ => False) s.heap s.heap [] := va_S.rf
  have hl := lv_entry ([.int (nI t)]) (n := 1) (Nat.le_of_ble_eq_true rfl)
  rw [lg_entry_eq]
  generalize (lg_sl ([.int (nI t)]) ++ List.replicate (1 - (lg_sl ([.int (nI t)])).length) Slot.unset).toArray = ls at hl ⊢
  have hl : lv_has ls 1 [(0, .int (nI t))] := hl
  refine x_genQ (fun Q hQ => ?_)
  refine lv_iload_n hx hb dX4_tileRow_0 rfl (lv_at hl 0 rfl) ?_
  refine lv_iconst (v := 3) hx hb dX4_tileRow_1 (by decide) ?_
  refine lv_idiv hx hb dX4_tileRow_2 (by decide) ?_
  refine x_eqi (x_div (a := t) (d := 3) (by omega) (by decide) (by decide)) ?_
  refine lv_iconst (v := 4) hx hb dX4_tileRow_3 (by decide) ?_
  refine lv_imul hx hb dX4_tileRow_4 ?_
  refine x_eqi (show nI (t / 3) * 4 = nI ((t / 3) * 4) from pk_mul (t / 3) 4) ?_
  exact x_iretR hQ hx hb hr hlocks rfl dX4_tileRow_5
set_option maxHeartbeats 4000000 in
set_option maxRecDepth 100000 in
theorem c_X2_levelAt (l : Launch) (D : va_G) (cI cC cS : ClassId) (tt : Nat → Nat) (q0 : Nat) (q1 : Nat) (lv : Nat → Int32) (x : Int32) (X : Int) (hX_ : x.toInt = X) (y : Int32) (Y : Int) (hY_ : y.toInt = Y) : Met l yX2_levelAt wsX2_levelAt ({ frames := 1, cells := 0, slots := 0, locals := 21 } : Room) (x_PR D cI cC cS tt [(q0, .inr (2, [.ref q1])), (q1, .inl (cI, 144, .inl (lv)))] [.ref q0, .int x, .int y]) (QcRead (gtZ lv X Y)) 0 0 (fun _ => False) := by
  refine Met.ofW (cc := cX2_levelAt) (maxL := 3) (ret := (some .int)) (by decide) rfl ?_
  intro p e s m args below meth c s₁ hBd hml hv
  obtain ⟨rfl, hP, hK, hE⟩ := hv
  have hx := hBd.exec
  have hb := hBd.bytes
  have hr := hBd.returns
  have hts := atoms_spec (ws := wsX2_levelAt) hBd.pre
  have hown : s.vm.findClass RX2 = some m.cls := findClass_of_methodNamed hBd.named
  have hlocks := hBd.notSynchronized
  have hS : va_S (fun _ => False) s.heap s.heap [] := va_S.rf
  have hl := lv_entry ([.ref q0, .int x, .int y]) (n := 3) (Nat.le_of_ble_eq_true rfl)
  rw [lg_entry_eq]
  generalize (lg_sl ([.ref q0, .int x, .int y]) ++ List.replicate (3 - (lg_sl ([.ref q0, .int x, .int y])).length) Slot.unset).toArray = ls at hl ⊢
  have hl : lv_has ls 3 [(0, .ref q0), (1, .int x), (2, .int y)] := hl
  refine x_genQ (fun Q hQ => ?_)
  refine lv_iload_n hx hb dX2_levelAt_0 rfl (lv_at hl 1 rfl) ?_
  refine lv_iload_n hx hb dX2_levelAt_1 rfl (lv_at hl 2 rfl) ?_
  refine x_callR (va_runSN (As := [.int x, .int y]) (rest := []) ⟨hx, hb, hml, hown, hts⟩ (c_X4_isPoint l D cI cC cS tt x X hX_ y Y hY_) ⟨(va_cnB 2 hts gX2_levelAt_X4_isPoint_n15 rfl rfl rfl (x_nestk hE.1 (w := .methodLinkNest RX2 15 yX4_isPoint RX4) 12 rfl) (hts (.initialized RX4) (by decide +kernel)) (by decide +kernel) ⟨Nat.le_of_ble_eq_true rfl, Nat.le_of_ble_eq_true rfl⟩), hts (.static yX4_isPoint) (by decide +kernel), trivial⟩ ⟨x_blindR, x_preR (hP.sub (ws' := []) [] rfl) hK hE hS⟩ rfl rfl hl.1 rfl (lv_room (Nat.le_of_ble_eq_true rfl)) dX2_levelAt_2 ⟨(Nat.le_of_ble_eq_true rfl), (Nat.le_of_ble_eq_true rfl)⟩) ?_
  refine x_ifB_eq (tgt := 22) hx hb dX2_levelAt_5 (by decide) (fun c_5 => ?_) (fun c_5 => ?_)
  · skip
    refine lv_iconst (v := 0) hx hb dX2_levelAt_22 (by decide) ?_
    exact x_iretR hQ hx hb hr hlocks (by first | (unfold gtZ; rw [if_pos c_5]) | (unfold gtZ; rw [if_neg c_5])) dX2_levelAt_23
  · skip
    refine lv_aload_n hx hb dX2_levelAt_8 rfl (lv_at hl 0 rfl) ?_
    refine va_get (v := .ref q1) (D := D) (ci := 2) (C := RX2) (T := TX2) (N := 1) hx hb hts (by decide +kernel) hown hK hP 0 rfl rfl 0 (by decide) (hts (.fieldLink RX2 9 "SpiralFrames$Picture" "levels" "[I") (by decide +kernel)) (fun _ h9 => h9) rfl dX2_levelAt_9 ?_
    refine lv_iload_n hx hb dX2_levelAt_12 rfl (lv_at hl 2 rfl) ?_
    refine lv_bipush (v := 12) hx hb dX2_levelAt_13 (by decide) ?_
    refine lv_imul hx hb dX2_levelAt_15 ?_
    refine lv_iload_n hx hb dX2_levelAt_16 rfl (lv_at hl 1 rfl) ?_
    refine lv_iadd hx hb dX2_levelAt_17 ?_
    refine x_eqi (show (y * 12) + x = nI ((((Y * 12) + X)).toNat) from x_toNat (x_addI (x_mulI hY_ (by decide) (by omega) (by omega)) hX_ (by omega) (by omega)) (by omega)) ?_
    refine x_iald hx hb hK hP 1 0 rfl rfl (k := (((Y * 12) + X)).toNat) (by omega) (by decide) dX2_levelAt_18 ?_
    refine lv_goto (tgt := 23) hx hb dX2_levelAt_19 (by decide) ?_
    exact x_iretR hQ hx hb hr hlocks (by first | (unfold gtZ; rw [if_pos c_5]) | (unfold gtZ; rw [if_neg c_5])) dX2_levelAt_23
set_option maxHeartbeats 4000000 in
set_option maxRecDepth 100000 in
theorem c_X2_putLevel (l : Launch) (D : va_G) (cI cC cS : ClassId) (tt : Nat → Nat) (sz : Nat) (q0 : Nat) (q1 : Nat) (lv : Nat → Int32) (v : Int32) (x : Int32) (X : Int) (hX_ : x.toInt = X) (y : Int32) (Y : Int) (hY_ : y.toInt = Y) : Met l yX2_putLevel wsX2_putLevel ({ frames := 1, cells := 0, slots := 0, locals := 21 } : Room) (x_PW D cI cC cS tt [(q0, .inr (2, [.ref q1])), (q1, .inl (cI, 144, .inl (lv)))] sz [.ref q0, .int x, .int y, .int v]) (x_QWv D [(q0, .inr (2, [.ref q1])), (q1, .inl (cI, 144, .inl (lv)))] sz (fun (w : va_W) => w = [(q0, .inr (2, [.ref q1])), (q1, .inl (cI, 144, .inl (ptZ lv X Y v)))])) 0 0 (va_A [(q0, .inr (2, [.ref q1])), (q1, .inl (cI, 144, .inl (lv)))] sz) := by
  refine Met.ofW (cc := cX2_putLevel) (maxL := 4) (ret := none) (by decide) rfl ?_
  intro p e s m args below meth c s₁ hBd hml hv
  obtain ⟨rfl, hsz, hP, hK, hD0, hE⟩ := hv
  have hx := hBd.exec
  have hb := hBd.bytes
  have hr := hBd.returns
  have hts := atoms_spec (ws := wsX2_putLevel) hBd.pre
  have hown : s.vm.findClass RX2 = some m.cls := findClass_of_methodNamed hBd.named
  have hlocks := hBd.notSynchronized
  subst hsz
  obtain ⟨Ar, hAe⟩ : ∃ Ar : Nat → Prop, Ar = va_A [(q0, .inr (2, [.ref q1])), (q1, .inl (cI, 144, .inl (lv)))] s.heap.size := ⟨_, rfl⟩
  have hD : va_D Ar [(q0, .inr (2, [.ref q1])), (q1, .inl (cI, 144, .inl (lv)))] := by rw [hAe]; exact hD0.self
  have hA : ∀ q : Nat, s.heap.size ≤ q → Ar q := fun q h => by rw [hAe]; exact Or.inr h
  have hE : x_E tt Ar s := by rw [hAe]; exact hE
  have hS : va_S Ar s.heap s.heap [] := va_S.rf
  have hl := lv_entry ([.ref q0, .int x, .int y, .int v]) (n := 4) (Nat.le_of_ble_eq_true rfl)
  rw [lg_entry_eq]
  generalize (lg_sl ([.ref q0, .int x, .int y, .int v]) ++ List.replicate (4 - (lg_sl ([.ref q0, .int x, .int y, .int v])).length) Slot.unset).toArray = ls at hl ⊢
  have hl : lv_has ls 4 [(0, .ref q0), (1, .int x), (2, .int y), (3, .int v)] := hl
  refine x_genQ (fun Q hQ => ?_)
  refine lv_iload_n hx hb dX2_putLevel_0 rfl (lv_at hl 1 rfl) ?_
  refine lv_iload_n hx hb dX2_putLevel_1 rfl (lv_at hl 2 rfl) ?_
  refine x_callR (va_runSN (As := [.int x, .int y]) (rest := []) ⟨hx, hb, hml, hown, hts⟩ (c_X4_isPoint l D cI cC cS tt x X hX_ y Y hY_) ⟨(va_cnB 2 hts gX2_putLevel_X4_isPoint_n15 rfl rfl rfl (x_nestk hE.1 (w := .methodLinkNest RX2 15 yX4_isPoint RX4) 12 rfl) (hts (.initialized RX4) (by decide +kernel)) (by decide +kernel) ⟨Nat.le_of_ble_eq_true rfl, Nat.le_of_ble_eq_true rfl⟩), hts (.static yX4_isPoint) (by decide +kernel), trivial⟩ ⟨x_blindR, x_preR (hP.sub (ws' := []) [] rfl) hK hE hS⟩ rfl rfl hl.1 rfl (lv_room (Nat.le_of_ble_eq_true rfl)) dX2_putLevel_2 ⟨(Nat.le_of_ble_eq_true rfl), (Nat.le_of_ble_eq_true rfl)⟩) ?_
  refine x_ifB_eq (tgt := 20) hx hb dX2_putLevel_5 (by decide) (fun c_5 => ?_) (fun c_5 => ?_)
  · skip
    refine x_vretW (w := [(q0, .inr (2, [.ref q1])), (q1, .inl (cI, 144, .inl (lv)))]) hQ hAe hx hb hr hlocks (hP.sub [0, 1] rfl) (hD.sub [0, 1] (by decide) rfl) hS ?_ dX2_putLevel_20
    first | (unfold ptZ; rw [if_pos c_5]) | (unfold ptZ; rw [if_neg c_5])
  · skip
    refine lv_aload_n hx hb dX2_putLevel_8 rfl (lv_at hl 0 rfl) ?_
    refine va_get (v := .ref q1) (D := D) (ci := 2) (C := RX2) (T := TX2) (N := 1) hx hb hts (by decide +kernel) hown hK hP 0 rfl rfl 0 (by decide) (hts (.fieldLink RX2 9 "SpiralFrames$Picture" "levels" "[I") (by decide +kernel)) (fun _ h9 => h9) rfl dX2_putLevel_9 ?_
    refine lv_iload_n hx hb dX2_putLevel_12 rfl (lv_at hl 2 rfl) ?_
    refine lv_bipush (v := 12) hx hb dX2_putLevel_13 (by decide) ?_
    refine lv_imul hx hb dX2_putLevel_15 ?_
    refine lv_iload_n hx hb dX2_putLevel_16 rfl (lv_at hl 1 rfl) ?_
    refine lv_iadd hx hb dX2_putLevel_17 ?_
    refine lv_iload_n hx hb dX2_putLevel_18 rfl (lv_at hl 3 rfl) ?_
    refine x_eqi2 (show (y * 12) + x = nI ((((Y * 12) + X)).toNat) from x_toNat (x_addI (x_mulI hY_ (by decide) (by omega) (by omega)) hX_ (by omega) (by omega)) (by omega)) ?_
    refine x_iast hx hb hK hP hD hS 1 0 rfl rfl (k := (((Y * 12) + X)).toNat) (by omega) (by decide) dX2_putLevel_19 (fun H locs hP hD hS => ?_)
    have hP : va_P D vwCl [(q0, .inr (2, [.ref q1])), (q1, .inl (cI, 144, .inl (upd lv ((((Y * 12) + X)).toNat) v)))] H := hP
    have hD : va_D (Ar) [(q0, .inr (2, [.ref q1])), (q1, .inl (cI, 144, .inl (upd lv ((((Y * 12) + X)).toNat) v)))] := hD
    refine x_vretW (w := [(q0, .inr (2, [.ref q1])), (q1, .inl (cI, 144, .inl (upd lv ((((Y * 12) + X)).toNat) v)))]) hQ hAe hx hb hr hlocks (hP.sub [0, 1] rfl) (hD.sub [0, 1] (by decide) rfl) hS ?_ dX2_putLevel_20
    first | (unfold ptZ; rw [if_pos c_5]) | (unfold ptZ; rw [if_neg c_5])
