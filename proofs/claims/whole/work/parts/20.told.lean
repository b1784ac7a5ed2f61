/-! ===== pure words of what is told ===== -/
def pk3 (D S R : Nat → Int32) (P : Int) : Nat → Int32 := if P = 0 then D else if P = 1 then S else R
theorem pk_0 {D S R : Nat → Int32} {P : Int} (h : P = 0) : pk3 D S R P = D := if_pos h
theorem pk_1 {D S R : Nat → Int32} {P : Int} (h : P = 1) : pk3 D S R P = S := by unfold pk3; rw [if_neg (by omega), if_pos h]
theorem pk_2 {D S R : Nat → Int32} {P : Int} (h : P = 2) : pk3 D S R P = R := by unfold pk3; rw [if_neg (by omega), if_neg (by omega)]
def ptR (D S R : Nat → Int32) (P X Y : Int) : Int32 := if (0 ≤ P ∧ P < 3) ∧ 0 ≤ X ∧ X < 12 ∧ 0 ≤ Y ∧ Y < 12 then gtZ (pk3 D S R P) X Y else -1
def dfR (D S R : Nat → Int32) (P O T : Int) : Int32 := if (0 ≤ P ∧ P < 3) ∧ 0 ≤ O ∧ O < 3 then (if T = -1 then wdS (pk3 D S R P) (pk3 D S R O) else if 0 ≤ T ∧ T < 9 then tdS (pk3 D S R P) (pk3 D S R O) T.toNat 0 else -1) else -1
def spR (Pl Wh : Int) : Int32 := if 0 ≤ Pl ∧ Pl ≤ 24 then (if Wh = 0 then 100 + zI (x_sr Pl.toNat) else if Wh = 1 then 100 + zI (x_sd Pl.toNat) else if Wh = 2 then nI (btN Pl.toNat) else -2) else -1
def wcV (D S : Nat → Int32) (t : Nat) (Tl Wh : Int) : Int32 := if Wh = 0 then nI (kdN (cdV D S t Tl)) else if Wh = 1 then (if cdV D S t Tl = 25 then -5 else nI (cdV D S t Tl)) else if Wh = 2 then nI (btN (cdV D S t Tl)) else if Wh = 3 then (if cdV D S t Tl = 25 then 0 else dfv D S t (cdV D S t Tl)) else -2
def wcR (D S : Nat → Int32) (T Tl Wh : Int) : Int32 := if 0 ≤ T ∧ T < 9 then (if 0 ≤ Tl ∧ Tl ≤ 240 then wcV D S T.toNat Tl Wh else -2) else -1
def wsR (D S : Nat → Int32) (Tl : Int) : Int32 := if 0 ≤ Tl ∧ Tl ≤ 240 then bwV D S Tl else -2
theorem bsN_c {g g' : Nat → Int32} : ∀ n, (∀ j, j ≤ n → g j = g' j) → bsN g n = bsN g' n
  | 0, _ => rfl
  | n + 1, h => by
    have e := bsN_c n (fun j hj => h j (by omega))
    have l := bsN_le g' n
    unfold bsN
    rw [e, h (n + 1) (Nat.le_refl _), h (bsN g' n) (by omega)]
def btR (D S : Nat → Int32) (T Wh : Int) : Int32 := if 0 ≤ T ∧ T < 9 then (if 0 ≤ Wh ∧ Wh ≤ 1 then (if Wh = 0 then nI (bsN (dfv D S T.toNat) 24) else dfv D S T.toNat (bsN (dfv D S T.toNat) 24)) else -2) else -1
def frR (G : Nat → Int32) (fr : Nat) (Bk Wh : Int) : Int32 := if 0 ≤ Bk ∧ 0 ≤ Wh ∧ Wh ≤ 7 then (if Bk < ((min fr 8 : Nat) : Int) then G ((fr - 1 - Bk.toNat) % 8 * 17 + Wh.toNat) else -5) else -2
def seR (G : Nat → Int32) (fr : Nat) (Bk T : Int) : Int32 := if 0 ≤ Bk then (if 0 ≤ T ∧ T < 9 then (if Bk < ((min fr 8 : Nat) : Int) then G ((fr - 1 - Bk.toNat) % 8 * 17 + (8 + T.toNat)) else -5) else -1) else -2
def ctR (S R N : Nat → Int32) (hcn ln : Nat) (Wh : Int) : Int32 := if 0 ≤ Wh ∧ Wh ≤ 8 then N Wh.toNat else if Wh = 9 then uP S R else if Wh = 10 then utS S R else if Wh = 11 then nI hcn else if Wh = 12 then nI ln else -2
set_option maxHeartbeats 4000000 in
set_option maxRecDepth 100000 in
theorem c_X4_spiral (l : Launch) (D : va_G) (cI cC cS : ClassId) (tt : Nat → Nat) (x : Nat) (u0 : Nat) (hy : Nat) (og : Nat) (fg : Nat) (b0 : Nat) (cg : Nat) (hn : Int32) (hc : Int32) (sv : Value) (pl : Int32) (PL : Int) (hPL_ : pl.toInt = PL) (wh : Int32) (WH : Int) (hWH_ : wh.toInt = WH) : Met l yX4_spiral wsX4_spiral ({ frames := 1, cells := 0, slots := 0, locals := 22 } : Room) (x_PR D cI cC cS tt [(x, .inr (4, [.ref u0, .ref hy, .int hn, .int hc, sv, .ref og, .ref fg, .ref b0, .ref cg]))] [.ref x, .int pl, .int wh]) (QcRead (spR PL WH)) 0 0 (fun _ => False) := by
  refine Met.ofW (cc := cX4_spiral) (maxL := 3) (ret := (some .int)) (by decide) rfl ?_
  intro p e s m args below meth c s₁ hBd hml hv
  obtain ⟨rfl, hP, hK, hE⟩ := hv
  have hx := hBd.exec
  have hb := hBd.bytes
  have hr := hBd.returns
  have hts := atoms_spec (ws := wsX4_spiral) hBd.pre
  have hown : s.vm.findClass RX4 = some m.cls := findClass_of_methodNamed hBd.named
  have hlocks := hBd.notSynchronized
  have hS : va_S (fun _ => False) s.heap s.heap [] := va_S.rf
  have hl := lv_entry ([.ref x, .int pl, .int wh]) (n := 3) (Nat.le_of_ble_eq_true rfl)
  rw [lg_entry_eq]
  generalize (lg_sl ([.ref x, .int pl, .int wh]) ++ List.replicate (3 - (lg_sl ([.ref x, .int pl, .int wh])).length) Slot.unset).toArray = ls at hl ⊢
  have hl : lv_has ls 3 [(0, .ref x), (1, .int pl), (2, .int wh)] := hl
  refine x_genQ (fun Q hQ => ?_)
  refine lv_iload_n hx hb dX4_spiral_0 rfl (lv_at hl 1 rfl) ?_
  refine lv_iconst (v := 0) hx hb dX4_spiral_1 (by decide) ?_
  refine lv_bipush (v := 24) hx hb dX4_spiral_2 (by decide) ?_
  refine x_callR (va_runS (As := [.int pl, .int 0, .int 24]) (rest := []) ⟨hx, hb, hml, hown, hts⟩ (c_X4_isBetween l D cI cC cS tt pl PL hPL_ 0 0 (show (0 : Int32).toInt = 0 from by decide) 24 24 (show (24 : Int32).toInt = 24 from by decide)) (va_cwS 3 hts gX4_spiral_X4_isBetween rfl rfl rfl (by decide +kernel) ⟨Nat.le_of_ble_eq_true rfl, Nat.le_of_ble_eq_true rfl⟩) ⟨x_blindR, x_preR (hP.sub (ws' := []) [] rfl) hK hE hS⟩ rfl rfl hl.1 rfl (lv_room (Nat.le_of_ble_eq_true rfl)) dX4_spiral_4 ⟨(Nat.le_of_ble_eq_true rfl), (Nat.le_of_ble_eq_true rfl)⟩) ?_
  refine x_ifB_ne (tgt := 12) hx hb dX4_spiral_7 (by decide) (fun c_7 => ?_) (fun c_7 => ?_)
  · skip
    refine lv_iload_n hx hb dX4_spiral_12 rfl (lv_at hl 2 rfl) ?_
    rcases (show WH = 0 ∨ WH = 1 ∨ WH = 2 ∨ (WH < 0 ∨ 2 < WH) by omega) with hsw13 | hsw13 | hsw13 | hsw13
    · skip
      refine lv_tableIn (off := 27) (tgt := 40) hx hb dX4_spiral_13 (by rw [hWH_, hsw13]; decide) (by rw [hWH_, hsw13]; decide) (by rw [hWH_, hsw13]; rfl) (by decide) ?_
      refine lv_bipush (v := 100) hx hb dX4_spiral_40 (by decide) ?_
      refine va_gets (C := "SpiralFrames") (n := "STEPS_RIGHT") (d := "[I") (ref := "SpiralFrames") (v := .ref (tt 0)) hx hb hE.2.2.1.1 hS hown (hts (.fieldLink RX4 160 "SpiralFrames" "STEPS_RIGHT" "[I") (by decide +kernel)) (fun _ h9 => h9) dX4_spiral_42 ?_
      refine lv_iload_n hx hb dX4_spiral_45 rfl (lv_at hl 1 rfl) ?_
      refine x_eqi (show pl = nI (PL.toNat) from x_eqN hPL_ (by omega)) ?_
      refine x_tld (f := x_sr) hx hb hE.2.2.1.2 hS (k := PL.toNat) (by omega) (by decide) dX4_spiral_46 ?_
      refine lv_iadd hx hb dX4_spiral_47 ?_
      exact x_iretR hQ hx hb hr hlocks (by unfold spR; rw [if_pos c_7, if_pos hsw13]) dX4_spiral_48
    · skip
      refine lv_tableIn (off := 36) (tgt := 49) hx hb dX4_spiral_13 (by rw [hWH_, hsw13]; decide) (by rw [hWH_, hsw13]; decide) (by rw [hWH_, hsw13]; rfl) (by decide) ?_
      refine lv_bipush (v := 100) hx hb dX4_spiral_49 (by decide) ?_
      refine va_gets (C := "SpiralFrames") (n := "STEPS_DOWN") (d := "[I") (ref := "SpiralFrames") (v := .ref (tt 1)) hx hb hE.2.2.2.1.1 hS hown (hts (.fieldLink RX4 163 "SpiralFrames" "STEPS_DOWN" "[I") (by decide +kernel)) (fun _ h9 => h9) dX4_spiral_51 ?_
      refine lv_iload_n hx hb dX4_spiral_54 rfl (lv_at hl 1 rfl) ?_
      refine x_eqi (show pl = nI (PL.toNat) from x_eqN hPL_ (by omega)) ?_
      refine x_tld (f := x_sd) hx hb hE.2.2.2.1.2 hS (k := PL.toNat) (by omega) (by decide) dX4_spiral_55 ?_
      refine lv_iadd hx hb dX4_spiral_56 ?_
      exact x_iretR hQ hx hb hr hlocks (by unfold spR; rw [if_pos c_7, if_neg (by omega), if_pos hsw13]) dX4_spiral_57
    · skip
      refine lv_tableIn (off := 45) (tgt := 58) hx hb dX4_spiral_13 (by rw [hWH_, hsw13]; decide) (by rw [hWH_, hsw13]; decide) (by rw [hWH_, hsw13]; rfl) (by decide) ?_
      refine lv_iload_n hx hb dX4_spiral_58 rfl (lv_at hl 1 rfl) ?_
      refine x_eqi (show pl = nI (PL.toNat) from x_eqN hPL_ (by omega)) ?_
      refine x_callR (va_runS (As := [.int (nI (PL.toNat))]) (rest := []) ⟨hx, hb, hml, hown, hts⟩ (c_X4_bitsOf l D cI cC cS tt PL.toNat (by first | assumption | omega | decide)) (va_cwS 1 hts gX4_spiral_X4_bitsOf rfl rfl rfl (by decide +kernel) ⟨Nat.le_of_ble_eq_true rfl, Nat.le_of_ble_eq_true rfl⟩) ⟨x_blindR, x_preR (hP.sub (ws' := []) [] rfl) hK hE hS⟩ rfl rfl hl.1 rfl (lv_room (Nat.le_of_ble_eq_true rfl)) dX4_spiral_59 ⟨(Nat.le_of_ble_eq_true rfl), (Nat.le_of_ble_eq_true rfl)⟩) ?_
      exact x_iretR hQ hx hb hr hlocks (by unfold spR; rw [if_pos c_7, if_neg (by omega), if_neg (by omega), if_pos hsw13]) dX4_spiral_62
    · skip
      refine lv_tableOut (tgt := 63) hx hb dX4_spiral_13 (by rw [hWH_]; exact hsw13) (by decide) ?_
      refine lv_bipush (v := (-2)) hx hb dX4_spiral_63 (by decide) ?_
      exact x_iretR hQ hx hb hr hlocks (by unfold spR; rw [if_pos c_7, if_neg (by omega), if_neg (by omega), if_neg (by omega)]) dX4_spiral_65
  · skip
    refine lv_iconst (v := (-1)) hx hb dX4_spiral_10 (by decide) ?_
    exact x_iretR hQ hx hb hr hlocks (by unfold spR; rw [if_neg c_7]) dX4_spiral_11
set_option maxHeartbeats 4000000 in
set_option maxRecDepth 100000 in
theorem c_X4_frame (l : Launch) (D : va_G) (cI cC cS : ClassId) (tt : Nat → Nat) (x : Nat) (u0 : Nat) (hy : Nat) (og : Nat) (fg : Nat) (b0 : Nat) (cg : Nat) (hn : Int32) (hc : Int32) (sv : Value) (u1 : Nat) (u3 : Nat) (u5 : Nat) (u7 : Nat) (u8 : Nat) (fr : Nat) (N1 : Nat → Int32) (G1 : Nat → Int32) (bk : Int32) (BK : Int) (hBK_ : bk.toInt = BK) (wh : Int32) (WH : Int) (hWH_ : wh.toInt = WH) (hh0 : N1 4 = nI fr) (hh1 : fr < 100000) : Met l yX4_frame wsX4_frame ({ frames := 3, cells := 0, slots := 0, locals := 66 } : Room) (x_PR D cI cC cS tt [(x, .inr (4, [.ref u0, .ref hy, .int hn, .int hc, sv, .ref og, .ref fg, .ref b0, .ref cg])), (u0, .inr (3, [.ref u1, .ref u3, .ref u5, .ref u7, .ref u8])), (u7, .inl (cI, 9, .inl (N1))), (u8, .inl (cI, 136, .inl (G1)))] [.ref x, .int bk, .int wh]) (QcRead (frR G1 fr BK WH)) 0 0 (fun _ => False) := by
  refine Met.ofW (cc := cX4_frame) (maxL := 3) (ret := (some .int)) (by decide) rfl ?_
  intro p e s m args below meth c s₁ hBd hml hv
  obtain ⟨rfl, hP, hK, hE⟩ := hv
  have hx := hBd.exec
  have hb := hBd.bytes
  have hr := hBd.returns
  have hts := atoms_spec (ws := wsX4_frame) hBd.pre
  have hown : s.vm.findClass RX4 = some m.cls := findClass_of_methodNamed hBd.named
  have hlocks := hBd.notSynchronized
  have hS : va_S (fun _ => False) s.heap s.heap [] := va_S.rf
  have hl := lv_entry ([.ref x, .int bk, .int wh]) (n := 3) (Nat.le_of_ble_eq_true rfl)
  rw [lg_entry_eq]
  generalize (lg_sl ([.ref x, .int bk, .int wh]) ++ List.replicate (3 - (lg_sl ([.ref x, .int bk, .int wh])).length) Slot.unset).toArray = ls at hl ⊢
  have hl : lv_has ls 3 [(0, .ref x), (1, .int bk), (2, .int wh)] := hl
  refine x_genQ (fun Q hQ => ?_)
  refine lv_iload_n hx hb dX4_frame_0 rfl (lv_at hl 1 rfl) ?_
  refine x_if_lt (tgt := 14) hx hb dX4_frame_1 (by decide) (X := BK) hBK_ (fun c_1 => ?_) (fun c_1 => ?_)
  · skip
    refine lv_bipush (v := (-2)) hx hb dX4_frame_14 (by decide) ?_
    exact x_iretR hQ hx hb hr hlocks (by unfold frR; rw [if_neg (by omega)]) dX4_frame_16
  · skip
    refine lv_iload_n hx hb dX4_frame_4 rfl (lv_at hl 2 rfl) ?_
    refine lv_iconst (v := 0) hx hb dX4_frame_5 (by decide) ?_
    refine lv_bipush (v := 7) hx hb dX4_frame_6 (by decide) ?_
    refine x_callR (va_runS (As := [.int wh, .int 0, .int 7]) (rest := []) ⟨hx, hb, hml, hown, hts⟩ (c_X4_isBetween l D cI cC cS tt wh WH hWH_ 0 0 (show (0 : Int32).toInt = 0 from by decide) 7 7 (show (7 : Int32).toInt = 7 from by decide)) (va_cwS 3 hts gX4_frame_X4_isBetween rfl rfl rfl (by decide +kernel) ⟨Nat.le_of_ble_eq_true rfl, Nat.le_of_ble_eq_true rfl⟩) ⟨x_blindR, x_preR (hP.sub (ws' := []) [] rfl) hK hE hS⟩ rfl rfl hl.1 rfl (lv_room (Nat.le_of_ble_eq_true rfl)) dX4_frame_8 ⟨(Nat.le_of_ble_eq_true rfl), (Nat.le_of_ble_eq_true rfl)⟩) ?_
    refine x_ifB_ne (tgt := 17) hx hb dX4_frame_11 (by decide) (fun c_11 => ?_) (fun c_11 => ?_)
    · skip
      refine lv_aload_n hx hb dX4_frame_17 rfl (lv_at hl 0 rfl) ?_
      refine va_get (v := .ref u0) (D := D) (ci := 4) (C := RX4) (T := TX4) (N := 9) hx hb hts (by decide +kernel) hown hK hP 0 rfl rfl 0 (by decide) (hts (.fieldLink RX4 10 "SpiralFrames" "now" "LSpiralFrames$State;") (by decide +kernel)) (fun _ h9 => h9) rfl dX4_frame_18 ?_
      refine lv_iload_n hx hb dX4_frame_21 rfl (lv_at hl 1 rfl) ?_
      refine x_callR (va_runVN (As := [.int bk]) (rest := []) ⟨hx, hb, hml, hown, hts⟩ (c_X3_knowsFrame l D cI cC cS tt u0 u1 u3 u5 u7 u8 fr N1 bk BK hBK_ (by first | assumption | omega | decide) (by first | assumption | omega | decide)) ⟨(va_cnB 1 hts gX4_frame_X3_knowsFrame_n202 rfl rfl rfl (x_nestk hE.1 (w := .methodLinkNest RX4 202 yX3_knowsFrame RX4) 48 rfl) (hts (.initialized RX3) (by decide +kernel)) (by decide +kernel) ⟨Nat.le_of_ble_eq_true rfl, Nat.le_of_ble_eq_true rfl⟩), hts (.instanceMethod yX3_knowsFrame) (by decide +kernel), hts (.selects RX3 yX3_knowsFrame yX3_knowsFrame) (by decide +kernel)⟩ ⟨x_blindR, va_recv hK hP (ci := 3) (q0 := 1) rfl rfl, x_preR (hP.sub (ws' := [(u0, .inr (3, [.ref u1, .ref u3, .ref u5, .ref u7, .ref u8])), (u7, .inl (cI, 9, .inl (N1)))]) [1, 2] rfl) hK hE hS⟩ rfl rfl hl.1 rfl (lv_room (Nat.le_of_ble_eq_true rfl)) dX4_frame_22 ⟨(Nat.le_of_ble_eq_true rfl), (Nat.le_of_ble_eq_true rfl)⟩) ?_
      refine x_ifB_eq (tgt := 40) hx hb dX4_frame_25 (by decide) (fun c_25 => ?_) (fun c_25 => ?_)
      · skip
        refine lv_bipush (v := (-5)) hx hb dX4_frame_40 (by decide) ?_
        exact x_iretR hQ hx hb hr hlocks (by unfold frR; rw [if_pos (by omega)]; first | rw [if_pos c_25.2] | rw [if_neg (by omega)]) dX4_frame_42
      · skip
        refine lv_aload_n hx hb dX4_frame_28 rfl (lv_at hl 0 rfl) ?_
        refine va_get (v := .ref u0) (D := D) (ci := 4) (C := RX4) (T := TX4) (N := 9) hx hb hts (by decide +kernel) hown hK hP 0 rfl rfl 0 (by decide) (hts (.fieldLink RX4 10 "SpiralFrames" "now" "LSpiralFrames$State;") (by decide +kernel)) (fun _ h9 => h9) rfl dX4_frame_29 ?_
        refine lv_iload_n hx hb dX4_frame_32 rfl (lv_at hl 1 rfl) ?_
        refine x_eqi (show bk = nI (BK.toNat) from x_eqN hBK_ (by omega)) ?_
        refine lv_iload_n hx hb dX4_frame_33 rfl (lv_at hl 2 rfl) ?_
        refine x_eqi (show wh = nI (WH.toNat) from x_eqN hWH_ (by omega)) ?_
        refine x_callR (va_runVN (As := [.int (nI (BK.toNat)), .int (nI (WH.toNat))]) (rest := []) ⟨hx, hb, hml, hown, hts⟩ (c_X3_logged l D cI cC cS tt u0 u1 u3 u5 u7 u8 fr BK.toNat WH.toNat N1 G1 (by first | assumption | omega | decide) (by first | assumption | omega | decide) (by first | assumption | omega | decide) (by first | assumption | omega | decide)) ⟨(va_cnB 2 hts gX4_frame_X3_logged_n205 rfl rfl rfl (x_nestk hE.1 (w := .methodLinkNest RX4 205 yX3_logged RX4) 49 rfl) (hts (.initialized RX3) (by decide +kernel)) (by decide +kernel) ⟨Nat.le_of_ble_eq_true rfl, Nat.le_of_ble_eq_true rfl⟩), hts (.instanceMethod yX3_logged) (by decide +kernel), hts (.selects RX3 yX3_logged yX3_logged) (by decide +kernel)⟩ ⟨x_blindR, va_recv hK hP (ci := 3) (q0 := 1) rfl rfl, x_preR (hP.sub (ws' := [(u0, .inr (3, [.ref u1, .ref u3, .ref u5, .ref u7, .ref u8])), (u7, .inl (cI, 9, .inl (N1))), (u8, .inl (cI, 136, .inl (G1)))]) [1, 2, 3] rfl) hK hE hS⟩ rfl rfl hl.1 rfl (lv_room (Nat.le_of_ble_eq_true rfl)) dX4_frame_34 ⟨(Nat.le_of_ble_eq_true rfl), (Nat.le_of_ble_eq_true rfl)⟩) ?_
        refine lv_goto (tgt := 42) hx hb dX4_frame_37 (by decide) ?_
        exact x_iretR hQ hx hb hr hlocks (by unfold frR; rw [if_pos (by omega)]; first | rw [if_pos c_25.2] | rw [if_neg (by omega)]) dX4_frame_42
    · skip
      refine lv_bipush (v := (-2)) hx hb dX4_frame_14 (by decide) ?_
      exact x_iretR hQ hx hb hr hlocks (by unfold frR; rw [if_neg (by omega)]) dX4_frame_16
set_option maxHeartbeats 4000000 in
set_option maxRecDepth 100000 in
theorem c_X4_sent (l : Launch) (D : va_G) (cI cC cS : ClassId) (tt : Nat → Nat) (x : Nat) (u0 : Nat) (hy : Nat) (og : Nat) (fg : Nat) (b0 : Nat) (cg : Nat) (hn : Int32) (hc : Int32) (sv : Value) (u1 : Nat) (u3 : Nat) (u5 : Nat) (u7 : Nat) (u8 : Nat) (fr : Nat) (N1 : Nat → Int32) (G1 : Nat → Int32) (bk : Int32) (BK : Int) (hBK_ : bk.toInt = BK) (ti : Int32) (TI : Int) (hTI_ : ti.toInt = TI) (hh0 : N1 4 = nI fr) (hh1 : fr < 100000) : Met l yX4_sent wsX4_sent ({ frames := 3, cells := 0, slots := 0, locals := 66 } : Room) (x_PR D cI cC cS tt [(x, .inr (4, [.ref u0, .ref hy, .int hn, .int hc, sv, .ref og, .ref fg, .ref b0, .ref cg])), (u0, .inr (3, [.ref u1, .ref u3, .ref u5, .ref u7, .ref u8])), (u7, .inl (cI, 9, .inl (N1))), (u8, .inl (cI, 136, .inl (G1)))] [.ref x, .int bk, .int ti]) (QcRead (seR G1 fr BK TI)) 0 0 (fun _ => False) := by
  refine Met.ofW (cc := cX4_sent) (maxL := 3) (ret := (some .int)) (by decide) rfl ?_
  intro p e s m args below meth c s₁ hBd hml hv
  obtain ⟨rfl, hP, hK, hE⟩ := hv
  have hx := hBd.exec
  have hb := hBd.bytes
  have hr := hBd.returns
  have hts := atoms_spec (ws := wsX4_sent) hBd.pre
  have hown : s.vm.findClass RX4 = some m.cls := findClass_of_methodNamed hBd.named
  have hlocks := hBd.notSynchronized
  have hS : va_S (fun _ => False) s.heap s.heap [] := va_S.rf
  have hl := lv_entry ([.ref x, .int bk, .int ti]) (n := 3) (Nat.le_of_ble_eq_true rfl)
  rw [lg_entry_eq]
  generalize (lg_sl ([.ref x, .int bk, .int ti]) ++ List.replicate (3 - (lg_sl ([.ref x, .int bk, .int ti])).length) Slot.unset).toArray = ls at hl ⊢
  have hl : lv_has ls 3 [(0, .ref x), (1, .int bk), (2, .int ti)] := hl
  refine x_genQ (fun Q hQ => ?_)
  refine lv_iload_n hx hb dX4_sent_0 rfl (lv_at hl 1 rfl) ?_
  refine x_if_ge (tgt := 7) hx hb dX4_sent_1 (by decide) (X := BK) hBK_ (fun c_1 => ?_) (fun c_1 => ?_)
  · skip
    refine lv_iload_n hx hb dX4_sent_7 rfl (lv_at hl 2 rfl) ?_
    refine x_callR (va_runS (As := [.int ti]) (rest := []) ⟨hx, hb, hml, hown, hts⟩ (c_X4_isTile l D cI cC cS tt ti TI hTI_) (va_cwS 1 hts gX4_sent_X4_isTile rfl rfl rfl (by decide +kernel) ⟨Nat.le_of_ble_eq_true rfl, Nat.le_of_ble_eq_true rfl⟩) ⟨x_blindR, x_preR (hP.sub (ws' := []) [] rfl) hK hE hS⟩ rfl rfl hl.1 rfl (lv_room (Nat.le_of_ble_eq_true rfl)) dX4_sent_8 ⟨(Nat.le_of_ble_eq_true rfl), (Nat.le_of_ble_eq_true rfl)⟩) ?_
    refine x_ifB_ne (tgt := 16) hx hb dX4_sent_11 (by decide) (fun c_11 => ?_) (fun c_11 => ?_)
    · skip
      refine lv_aload_n hx hb dX4_sent_16 rfl (lv_at hl 0 rfl) ?_
      refine va_get (v := .ref u0) (D := D) (ci := 4) (C := RX4) (T := TX4) (N := 9) hx hb hts (by decide +kernel) hown hK hP 0 rfl rfl 0 (by decide) (hts (.fieldLink RX4 10 "SpiralFrames" "now" "LSpiralFrames$State;") (by decide +kernel)) (fun _ h9 => h9) rfl dX4_sent_17 ?_
      refine lv_iload_n hx hb dX4_sent_20 rfl (lv_at hl 1 rfl) ?_
      refine x_callR (va_runVN (As := [.int bk]) (rest := []) ⟨hx, hb, hml, hown, hts⟩ (c_X3_knowsFrame l D cI cC cS tt u0 u1 u3 u5 u7 u8 fr N1 bk BK hBK_ (by first | assumption | omega | decide) (by first | assumption | omega | decide)) ⟨(va_cnB 1 hts gX4_sent_X3_knowsFrame_n202 rfl rfl rfl (x_nestk hE.1 (w := .methodLinkNest RX4 202 yX3_knowsFrame RX4) 48 rfl) (hts (.initialized RX3) (by decide +kernel)) (by decide +kernel) ⟨Nat.le_of_ble_eq_true rfl, Nat.le_of_ble_eq_true rfl⟩), hts (.instanceMethod yX3_knowsFrame) (by decide +kernel), hts (.selects RX3 yX3_knowsFrame yX3_knowsFrame) (by decide +kernel)⟩ ⟨x_blindR, va_recv hK hP (ci := 3) (q0 := 1) rfl rfl, x_preR (hP.sub (ws' := [(u0, .inr (3, [.ref u1, .ref u3, .ref u5, .ref u7, .ref u8])), (u7, .inl (cI, 9, .inl (N1)))]) [1, 2] rfl) hK hE hS⟩ rfl rfl hl.1 rfl (lv_room (Nat.le_of_ble_eq_true rfl)) dX4_sent_21 ⟨(Nat.le_of_ble_eq_true rfl), (Nat.le_of_ble_eq_true rfl)⟩) ?_
      refine x_ifB_eq (tgt := 42) hx hb dX4_sent_24 (by decide) (fun c_24 => ?_) (fun c_24 => ?_)
      · skip
        refine lv_bipush (v := (-5)) hx hb dX4_sent_42 (by decide) ?_
        exact x_iretR hQ hx hb hr hlocks (by unfold seR; rw [if_pos c_1, if_pos c_11]; first | rw [if_pos c_24.2] | rw [if_neg (by omega)]) dX4_sent_44
      · skip
        refine lv_aload_n hx hb dX4_sent_27 rfl (lv_at hl 0 rfl) ?_
        refine va_get (v := .ref u0) (D := D) (ci := 4) (C := RX4) (T := TX4) (N := 9) hx hb hts (by decide +kernel) hown hK hP 0 rfl rfl 0 (by decide) (hts (.fieldLink RX4 10 "SpiralFrames" "now" "LSpiralFrames$State;") (by decide +kernel)) (fun _ h9 => h9) rfl dX4_sent_28 ?_
        refine lv_iload_n hx hb dX4_sent_31 rfl (lv_at hl 1 rfl) ?_
        refine x_eqi (show bk = nI (BK.toNat) from x_eqN hBK_ (by omega)) ?_
        refine lv_bipush (v := 8) hx hb dX4_sent_32 (by decide) ?_
        refine lv_iload_n hx hb dX4_sent_34 rfl (lv_at hl 2 rfl) ?_
        refine x_eqi (show ti = nI (TI.toNat) from x_eqN hTI_ (by omega)) ?_
        refine lv_iadd hx hb dX4_sent_35 ?_
        refine x_eqi (show 8 + nI (TI.toNat) = nI (8 + TI.toNat) from nI_add 8 TI.toNat) ?_
        refine x_callR (va_runVN (As := [.int (nI (BK.toNat)), .int (nI (8 + TI.toNat))]) (rest := []) ⟨hx, hb, hml, hown, hts⟩ (c_X3_logged l D cI cC cS tt u0 u1 u3 u5 u7 u8 fr BK.toNat (8 + TI.toNat) N1 G1 (by first | assumption | omega | decide) (by first | assumption | omega | decide) (by first | assumption | omega | decide) (by first | assumption | omega | decide)) ⟨(va_cnB 2 hts gX4_sent_X3_logged_n205 rfl rfl rfl (x_nestk hE.1 (w := .methodLinkNest RX4 205 yX3_logged RX4) 49 rfl) (hts (.initialized RX3) (by decide +kernel)) (by decide +kernel) ⟨Nat.le_of_ble_eq_true rfl, Nat.le_of_ble_eq_true rfl⟩), hts (.instanceMethod yX3_logged) (by decide +kernel), hts (.selects RX3 yX3_logged yX3_logged) (by decide +kernel)⟩ ⟨x_blindR, va_recv hK hP (ci := 3) (q0 := 1) rfl rfl, x_preR (hP.sub (ws' := [(u0, .inr (3, [.ref u1, .ref u3, .ref u5, .ref u7, .ref u8])), (u7, .inl (cI, 9, .inl (N1))), (u8, .inl (cI, 136, .inl (G1)))]) [1, 2, 3] rfl) hK hE hS⟩ rfl rfl hl.1 rfl (lv_room (Nat.le_of_ble_eq_true rfl)) dX4_sent_36 ⟨(Nat.le_of_ble_eq_true rfl), (Nat.le_of_ble_eq_true rfl)⟩) ?_
        refine lv_goto (tgt := 44) hx hb dX4_sent_39 (by decide) ?_
        exact x_iretR hQ hx hb hr hlocks (by unfold seR; rw [if_pos c_1, if_pos c_11]; first | rw [if_pos c_24.2] | rw [if_neg (by omega)]) dX4_sent_44
    · skip
      refine lv_iconst (v := (-1)) hx hb dX4_sent_14 (by decide) ?_
      exact x_iretR hQ hx hb hr hlocks (by unfold seR; rw [if_pos c_1, if_neg c_11]) dX4_sent_15
  · skip
    refine lv_bipush (v := (-2)) hx hb dX4_sent_4 (by decide) ?_
    exact x_iretR hQ hx hb hr hlocks (by unfold seR; rw [if_neg (by omega)]) dX4_sent_6
set_option maxHeartbeats 4000000 in
set_option maxRecDepth 100000 in
theorem c_X4_count (l : Launch) (D : va_G) (cI cC cS : ClassId) (tt : Nat → Nat) (x : Nat) (u0 : Nat) (hy : Nat) (og : Nat) (fg : Nat) (b0 : Nat) (cg : Nat) (hcn : Nat) (sg : Nat) (pr : Nat) (ln : Nat) (hn : Int32) (at9 : Int32) (to9 : Int32) (sv : Value) (u1 : Nat) (u2 : Nat) (u3 : Nat) (u4 : Nat) (u5 : Nat) (u6 : Nat) (u7 : Nat) (u8 : Nat) (D1 : Nat → Int32) (S1 : Nat → Int32) (R1 : Nat → Int32) (N1 : Nat → Int32) (G1 : Nat → Int32) (wh : Int32) (WH : Int) (hWH_ : wh.toInt = WH) : Met l yX4_count wsX4_count ({ frames := 4, cells := 0, slots := 0, locals := 96 } : Room) (x_PR D cI cC cS tt [(x, .inr (4, [.ref u0, .ref hy, .int hn, .int (nI hcn), sv, .ref og, .ref fg, .ref b0, .ref cg])), (u0, .inr (3, [.ref u1, .ref u3, .ref u5, .ref u7, .ref u8])), (u1, .inr (2, [.ref u2])), (u2, .inl (cI, 144, .inl (D1))), (u3, .inr (2, [.ref u4])), (u4, .inl (cI, 144, .inl (S1))), (u5, .inr (2, [.ref u6])), (u6, .inl (cI, 144, .inl (R1))), (u7, .inl (cI, 9, .inl (N1))), (u8, .inl (cI, 136, .inl (G1))), (og, .inr (1, [.ref sg, .int (nI ln), .int at9, .ref pr, .int to9]))] [.ref x, .int wh]) (QcRead (ctR S1 R1 N1 hcn ln WH)) 0 0 (fun _ => False) := by
  refine Met.ofW (cc := cX4_count) (maxL := 2) (ret := (some .int)) (by decide) rfl ?_
  intro p e s m args below meth c s₁ hBd hml hv
  obtain ⟨rfl, hP, hK, hE⟩ := hv
  have hx := hBd.exec
  have hb := hBd.bytes
  have hr := hBd.returns
  have hts := atoms_spec (ws := wsX4_count) hBd.pre
  have hown : s.vm.findClass RX4 = some m.cls := findClass_of_methodNamed hBd.named
  have hlocks := hBd.notSynchronized
  have hS : va_S (fun _ => False) s.heap s.heap [] := va_S.rf
  have hl := lv_entry ([.ref x, .int wh]) (n := 2) (Nat.le_of_ble_eq_true rfl)
  rw [lg_entry_eq]
  generalize (lg_sl ([.ref x, .int wh]) ++ List.replicate (2 - (lg_sl ([.ref x, .int wh])).length) Slot.unset).toArray = ls at hl ⊢
  have hl : lv_has ls 2 [(0, .ref x), (1, .int wh)] := hl
  refine x_genQ (fun Q hQ => ?_)
  refine lv_iload_n hx hb dX4_count_0 rfl (lv_at hl 1 rfl) ?_
  refine lv_iconst (v := 0) hx hb dX4_count_1 (by decide) ?_
  refine lv_bipush (v := 8) hx hb dX4_count_2 (by decide) ?_
  refine x_callR (va_runS (As := [.int wh, .int 0, .int 8]) (rest := []) ⟨hx, hb, hml, hown, hts⟩ (c_X4_isBetween l D cI cC cS tt wh WH hWH_ 0 0 (show (0 : Int32).toInt = 0 from by decide) 8 8 (show (8 : Int32).toInt = 8 from by decide)) (va_cwS 3 hts gX4_count_X4_isBetween rfl rfl rfl (by decide +kernel) ⟨Nat.le_of_ble_eq_true rfl, Nat.le_of_ble_eq_true rfl⟩) ⟨x_blindR, x_preR (hP.sub (ws' := []) [] rfl) hK hE hS⟩ rfl rfl hl.1 rfl (lv_room (Nat.le_of_ble_eq_true rfl)) dX4_count_4 ⟨(Nat.le_of_ble_eq_true rfl), (Nat.le_of_ble_eq_true rfl)⟩) ?_
  refine x_ifB_eq (tgt := 20) hx hb dX4_count_7 (by decide) (fun c_7 => ?_) (fun c_7 => ?_)
  · skip
    refine lv_iload_n hx hb dX4_count_20 rfl (lv_at hl 1 rfl) ?_
    rcases (show WH = 9 ∨ WH = 10 ∨ WH = 11 ∨ WH = 12 ∨ (WH < 9 ∨ 12 < WH) by omega) with hsw21 | hsw21 | hsw21 | hsw21 | hsw21
    · skip
      refine lv_tableIn (off := 31) (tgt := 52) hx hb dX4_count_21 (by rw [hWH_, hsw21]; decide) (by rw [hWH_, hsw21]; decide) (by rw [hWH_, hsw21]; rfl) (by decide) ?_
      refine lv_aload_n hx hb dX4_count_52 rfl (lv_at hl 0 rfl) ?_
      refine va_get (v := .ref u0) (D := D) (ci := 4) (C := RX4) (T := TX4) (N := 9) hx hb hts (by decide +kernel) hown hK hP 0 rfl rfl 0 (by decide) (hts (.fieldLink RX4 10 "SpiralFrames" "now" "LSpiralFrames$State;") (by decide +kernel)) (fun _ h9 => h9) rfl dX4_count_53 ?_
      refine va_getN (v := .ref u3) (D := D) (ci := 3) (C := RX3) (T := TX3) (N := 5) hx hb hts (by decide +kernel) hown hK hP 1 rfl rfl 1 (by decide) (va_Nw.use rfl (x_nestk hE.1 (w := .fieldLinkNest RX4 170 "SpiralFrames$State" "sender" "LSpiralFrames$Picture;" RX4) 3 rfl)) (fun _ h9 => h9) rfl dX4_count_56 ?_
      refine lv_aload_n hx hb dX4_count_59 rfl (lv_at hl 0 rfl) ?_
      refine va_get (v := .ref u0) (D := D) (ci := 4) (C := RX4) (T := TX4) (N := 9) hx hb hts (by decide +kernel) hown hK hP 0 rfl rfl 0 (by decide) (hts (.fieldLink RX4 10 "SpiralFrames" "now" "LSpiralFrames$State;") (by decide +kernel)) (fun _ h9 => h9) rfl dX4_count_60 ?_
      refine va_getN (v := .ref u5) (D := D) (ci := 3) (C := RX3) (T := TX3) (N := 5) hx hb hts (by decide +kernel) hown hK hP 1 rfl rfl 2 (by decide) (va_Nw.use rfl (x_nestk hE.1 (w := .fieldLinkNest RX4 208 "SpiralFrames$State" "receiver" "LSpiralFrames$Picture;" RX4) 4 rfl)) (fun _ h9 => h9) rfl dX4_count_63 ?_
      refine x_callR (va_runVN (As := [.ref u5]) (rest := []) ⟨hx, hb, hml, hown, hts⟩ (c_X2_unlikePoints l D cI cC cS tt u3 u4 u5 u6 S1 R1) ⟨(va_cnB 1 hts gX4_count_X2_unlikePoints_n211 rfl rfl rfl (x_nestk hE.1 (w := .methodLinkNest RX4 211 yX2_unlikePoints RX4) 50 rfl) (hts (.initialized RX2) (by decide +kernel)) (by decide +kernel) ⟨Nat.le_of_ble_eq_true rfl, Nat.le_of_ble_eq_true rfl⟩), hts (.instanceMethod yX2_unlikePoints) (by decide +kernel), hts (.selects RX2 yX2_unlikePoints yX2_unlikePoints) (by decide +kernel)⟩ ⟨x_blindR, va_recv hK hP (ci := 2) (q0 := 4) rfl rfl, x_preR (hP.sub (ws' := [(u3, .inr (2, [.ref u4])), (u4, .inl (cI, 144, .inl (S1))), (u5, .inr (2, [.ref u6])), (u6, .inl (cI, 144, .inl (R1)))]) [4, 5, 6, 7] rfl) hK hE hS⟩ rfl rfl hl.1 rfl (lv_room (Nat.le_of_ble_eq_true rfl)) dX4_count_66 ⟨(Nat.le_of_ble_eq_true rfl), (Nat.le_of_ble_eq_true rfl)⟩) ?_
      exact x_iretR hQ hx hb hr hlocks (by unfold ctR; rw [if_neg c_7, if_pos hsw21]) dX4_count_69
    · skip
      refine lv_tableIn (off := 49) (tgt := 70) hx hb dX4_count_21 (by rw [hWH_, hsw21]; decide) (by rw [hWH_, hsw21]; decide) (by rw [hWH_, hsw21]; rfl) (by decide) ?_
      refine lv_aload_n hx hb dX4_count_70 rfl (lv_at hl 0 rfl) ?_
      refine va_get (v := .ref u0) (D := D) (ci := 4) (C := RX4) (T := TX4) (N := 9) hx hb hts (by decide +kernel) hown hK hP 0 rfl rfl 0 (by decide) (hts (.fieldLink RX4 10 "SpiralFrames" "now" "LSpiralFrames$State;") (by decide +kernel)) (fun _ h9 => h9) rfl dX4_count_71 ?_
      refine va_getN (v := .ref u3) (D := D) (ci := 3) (C := RX3) (T := TX3) (N := 5) hx hb hts (by decide +kernel) hown hK hP 1 rfl rfl 1 (by decide) (va_Nw.use rfl (x_nestk hE.1 (w := .fieldLinkNest RX4 170 "SpiralFrames$State" "sender" "LSpiralFrames$Picture;" RX4) 3 rfl)) (fun _ h9 => h9) rfl dX4_count_74 ?_
      refine lv_aload_n hx hb dX4_count_77 rfl (lv_at hl 0 rfl) ?_
      refine va_get (v := .ref u0) (D := D) (ci := 4) (C := RX4) (T := TX4) (N := 9) hx hb hts (by decide +kernel) hown hK hP 0 rfl rfl 0 (by decide) (hts (.fieldLink RX4 10 "SpiralFrames" "now" "LSpiralFrames$State;") (by decide +kernel)) (fun _ h9 => h9) rfl dX4_count_78 ?_
      refine va_getN (v := .ref u5) (D := D) (ci := 3) (C := RX3) (T := TX3) (N := 5) hx hb hts (by decide +kernel) hown hK hP 1 rfl rfl 2 (by decide) (va_Nw.use rfl (x_nestk hE.1 (w := .fieldLinkNest RX4 208 "SpiralFrames$State" "receiver" "LSpiralFrames$Picture;" RX4) 4 rfl)) (fun _ h9 => h9) rfl dX4_count_81 ?_
      refine x_callR (va_runVN (As := [.ref u5]) (rest := []) ⟨hx, hb, hml, hown, hts⟩ (c_X2_unlikeTiles l D cI cC cS tt u3 u4 u5 u6 S1 R1) ⟨(va_cnB 1 hts gX4_count_X2_unlikeTiles_n214 rfl rfl rfl (x_nestk hE.1 (w := .methodLinkNest RX4 214 yX2_unlikeTiles RX4) 51 rfl) (hts (.initialized RX2) (by decide +kernel)) (by decide +kernel) ⟨Nat.le_of_ble_eq_true rfl, Nat.le_of_ble_eq_true rfl⟩), hts (.instanceMethod yX2_unlikeTiles) (by decide +kernel), hts (.selects RX2 yX2_unlikeTiles yX2_unlikeTiles) (by decide +kernel)⟩ ⟨x_blindR, va_recv hK hP (ci := 2) (q0 := 4) rfl rfl, x_preR (hP.sub (ws' := [(u3, .inr (2, [.ref u4])), (u4, .inl (cI, 144, .inl (S1))), (u5, .inr (2, [.ref u6])), (u6, .inl (cI, 144, .inl (R1)))]) [4, 5, 6, 7] rfl) hK hE hS⟩ rfl rfl hl.1 rfl (lv_room (Nat.le_of_ble_eq_true rfl)) dX4_count_84 ⟨(Nat.le_of_ble_eq_true rfl), (Nat.le_of_ble_eq_true rfl)⟩) ?_
      exact x_iretR hQ hx hb hr hlocks (by unfold ctR; rw [if_neg c_7, if_neg (by omega), if_pos hsw21]) dX4_count_87
    · skip
      refine lv_tableIn (off := 67) (tgt := 88) hx hb dX4_count_21 (by rw [hWH_, hsw21]; decide) (by rw [hWH_, hsw21]; decide) (by rw [hWH_, hsw21]; rfl) (by decide) ?_
      refine lv_aload_n hx hb dX4_count_88 rfl (lv_at hl 0 rfl) ?_
      refine va_get (v := .int (nI hcn)) (D := D) (ci := 4) (C := RX4) (T := TX4) (N := 9) hx hb hts (by decide +kernel) hown hK hP 0 rfl rfl 3 (by decide) (hts (.fieldLink RX4 24 "SpiralFrames" "historyCount" "I") (by decide +kernel)) (fun _ h9 => h9) rfl dX4_count_89 ?_
      exact x_iretR hQ hx hb hr hlocks (by unfold ctR; rw [if_neg c_7, if_neg (by omega), if_neg (by omega), if_pos hsw21]) dX4_count_92
    · skip
      refine lv_tableIn (off := 72) (tgt := 93) hx hb dX4_count_21 (by rw [hWH_, hsw21]; decide) (by rw [hWH_, hsw21]; decide) (by rw [hWH_, hsw21]; rfl) (by decide) ?_
      refine lv_aload_n hx hb dX4_count_93 rfl (lv_at hl 0 rfl) ?_
      refine va_get (v := .ref og) (D := D) (ci := 4) (C := RX4) (T := TX4) (N := 9) hx hb hts (by decide +kernel) hown hK hP 0 rfl rfl 5 (by decide) (hts (.fieldLink RX4 33 "SpiralFrames" "orders" "LSpiralFrames$Orders;") (by decide +kernel)) (fun _ h9 => h9) rfl dX4_count_94 ?_
      refine va_getN (v := .int (nI ln)) (D := D) (ci := 1) (C := RX1) (T := TX1) (N := 5) hx hb hts (by decide +kernel) hown hK hP 10 rfl rfl 1 (by decide) (va_Nw.use rfl (x_nestk hE.1 (w := .fieldLinkNest RX4 129 "SpiralFrames$Orders" "length" "I" RX4) 7 rfl)) (fun _ h9 => h9) rfl dX4_count_97 ?_
      exact x_iretR hQ hx hb hr hlocks (by unfold ctR; rw [if_neg c_7, if_neg (by omega), if_neg (by omega), if_neg (by omega), if_pos hsw21]) dX4_count_100
    · skip
      refine lv_tableOut (tgt := 101) hx hb dX4_count_21 (by rw [hWH_]; exact hsw21) (by decide) ?_
      refine lv_bipush (v := (-2)) hx hb dX4_count_101 (by decide) ?_
      exact x_iretR hQ hx hb hr hlocks (by unfold ctR; rw [if_neg c_7, if_neg (by omega), if_neg (by omega), if_neg (by omega), if_neg (by omega)]) dX4_count_103
  · skip
    refine lv_aload_n hx hb dX4_count_10 rfl (lv_at hl 0 rfl) ?_
    refine va_get (v := .ref u0) (D := D) (ci := 4) (C := RX4) (T := TX4) (N := 9) hx hb hts (by decide +kernel) hown hK hP 0 rfl rfl 0 (by decide) (hts (.fieldLink RX4 10 "SpiralFrames" "now" "LSpiralFrames$State;") (by decide +kernel)) (fun _ h9 => h9) rfl dX4_count_11 ?_
    refine va_getN (v := .ref u7) (D := D) (ci := 3) (C := RX3) (T := TX3) (N := 5) hx hb hts (by decide +kernel) hown hK hP 1 rfl rfl 3 (by decide) (va_Nw.use rfl (x_nestk hE.1 (w := .fieldLinkNest RX4 111 "SpiralFrames$State" "numbers" "[I" RX4) 5 rfl)) (fun _ h9 => h9) rfl dX4_count_14 ?_
    refine lv_iload_n hx hb dX4_count_17 rfl (lv_at hl 1 rfl) ?_
    refine x_eqi (show wh = nI (WH.toNat) from x_eqN hWH_ (by omega)) ?_
    refine x_iald hx hb hK hP 8 0 rfl rfl (k := WH.toNat) (by omega) (by decide) dX4_count_18 ?_
    exact x_iretR hQ hx hb hr hlocks (by unfold ctR; rw [if_pos c_7]) dX4_count_19
