theorem pkN_Z {D S R : Nat → Int32} {P : Int} (h : 0 ≤ P ∧ P < 3) : pkN D S R P.toNat = pk3 D S R P := by
  unfold pkN pk3
  rcases (show P = 0 ∨ P = 1 ∨ P = 2 by omega) with e | e | e <;> subst e <;> rfl
theorem dfw_e {D S : Nat → Int32} {t p : Nat} (h : wIn t p) : dfw D S t p = dfv D S t p := by
  unfold dfw dfv; rw [if_pos h, if_pos h]
theorem dfv_b {D S : Nat → Int32} (hD : lvB D) (hS : lvB S) {t p : Nat} (h : wIn t p) : 0 ≤ (dfv D S t p).toInt ∧ (dfv D S t p).toInt ≤ 240 := by
  unfold dfv; rw [if_pos h]; exact tdS_b hD hS t p
theorem dfw_lt {D S : Nat → Int32} (hD : lvB D) (hS : lvB S) {t p : Nat} {X : Int} (hX : X ≤ 240) : (¬ (dfw D S t p).toInt = -5 ∧ (dfw D S t p).toInt < X) ↔ (dfv D S t p).toInt < X := by
  have b := tdS_b hD hS t p
  unfold dfw dfv
  by_cases h : wIn t p
  · rw [if_pos h, if_pos h]; omega
  · rw [if_neg h, if_neg h, show (-5 : Int32).toInt = -5 by decide, show (1000 : Int32).toInt = 1000 by decide]; omega
theorem bsN_in {D S : Nat → Int32} (hD : lvB D) (hS : lvB S) {t : Nat} (ht : t < 9) : ∀ n, wIn t (bsN (dfv D S t) n)
  | 0 => wIn_0 ht
  | n + 1 => by
    have ih := bsN_in hD hS ht n
    have b := dfv_b hD hS ih
    unfold bsN
    split
    · rename_i h
      by_cases h2 : wIn t (n + 1)
      · exact h2
      · exfalso
        have e : dfv D S t (n + 1) = 1000 := if_neg h2
        rw [e, show (1000 : Int32).toInt = 1000 by decide] at h
        omega
    · exact ih
def frM (L : Nat → Int32) (kn : Nat) (Bk Wh : Int) : Int32 := if 0 ≤ Bk ∧ 0 ≤ Wh ∧ Wh ≤ 7 then (if Bk < ((kn : Nat) : Int) then L (17 * (kn - 1 - Bk.toNat) + Wh.toNat) else -5) else -2
def seM (L : Nat → Int32) (kn : Nat) (Bk T : Int) : Int32 := if 0 ≤ Bk then (if 0 ≤ T ∧ T < 9 then (if Bk < ((kn : Nat) : Int) then L (17 * (kn - 1 - Bk.toNat) + (8 + T.toNat)) else -5) else -1) else -2
set_option maxHeartbeats 4000000 in
set_option maxRecDepth 100000 in
theorem c_X5_point (l : Launch) (D : va_G) (cI cC cS : ClassId) (tt : Nat → Nat) (mm : Nat) (mn : Nat) (mh : Nat) (ms : Nat) (mr : Nat) (md : Nat) (mo : Nat) (mc : Nat) (mt : Nat) (mq : Nat) (kp : Int32) (fl : Int32) (ty : Int32) (at9 : Int32) (nu : Int32) (D1 : Nat → Int32) (S1 : Nat → Int32) (R1 : Nat → Int32) (N1 : Nat → Int32) (K1 : Int32) (L1 : Nat → Int32) (pi : Int32) (PI : Int) (hPI_ : pi.toInt = PI) (cx : Int32) (X : Int) (hX_ : cx.toInt = X) (cy : Int32) (Y : Int) (hY_ : cy.toInt = Y) : Met l yX5_point wsX5_point ({ frames := 2, cells := 0, slots := 0, locals := 43 } : Room) (x_PR D cI cC cS tt [(mm, .inr (5, [.ref mn, .ref mh, .int kp, .ref ms, .int fl, .ref mr, .ref md, .ref mo, .ref mc, .int ty, .ref mt, .int at9, .int nu, .ref mq])), (mn, .inl (cI, 578, .inl (mkM D1 S1 R1 N1 K1 L1)))] [.ref mm, .int pi, .int cx, .int cy]) (QcRead (ptR D1 S1 R1 PI X Y)) 0 0 (fun _ => False) := by
  refine Met.ofW (cc := cX5_point) (maxL := 4) (ret := (some .int)) (by decide) rfl ?_
  intro p e s m args below meth c s₁ hBd hml hv
  obtain ⟨rfl, hP, hK, hE⟩ := hv
  have hx := hBd.exec
  have hb := hBd.bytes
  have hr := hBd.returns
  have hts := atoms_spec (ws := wsX5_point) hBd.pre
  have hown : s.vm.findClass RX5 = some m.cls := findClass_of_methodNamed hBd.named
  have hlocks := hBd.notSynchronized
  have hS : va_S (fun _ => False) s.heap s.heap [] := va_S.rf
  have hl := lv_entry ([.ref mm, .int pi, .int cx, .int cy]) (n := 4) (Nat.le_of_ble_eq_true rfl)
  rw [lg_entry_eq]
  generalize (lg_sl ([.ref mm, .int pi, .int cx, .int cy]) ++ List.replicate (4 - (lg_sl ([.ref mm, .int pi, .int cx, .int cy])).length) Slot.unset).toArray = ls at hl ⊢
  have hl : lv_has ls 4 [(0, .ref mm), (1, .int pi), (2, .int cx), (3, .int cy)] := hl
  refine x_genQ (fun Q hQ => ?_)
  refine lv_iload_n hx hb dX5_point_0 rfl (lv_at hl 1 rfl) ?_
  refine lv_iconst (v := 0) hx hb dX5_point_1 (by decide) ?_
  refine lv_iconst (v := 2) hx hb dX5_point_2 (by decide) ?_
  refine x_callR (va_runS (As := [.int pi, .int 0, .int 2]) (rest := []) ⟨hx, hb, hml, hown, hts⟩ (c_X5_in l D cI cC cS tt pi PI hPI_ 0 0 (show (0 : Int32).toInt = 0 from by decide) 2 2 (show (2 : Int32).toInt = 2 from by decide)) (va_cwS 3 hts gX5_point_X5_in rfl rfl rfl (by decide +kernel) ⟨Nat.le_of_ble_eq_true rfl, Nat.le_of_ble_eq_true rfl⟩) ⟨x_blindR, x_preR (hP.sub (ws' := []) [] rfl) hK hE hS⟩ rfl rfl hl.1 rfl (lv_room (Nat.le_of_ble_eq_true rfl)) dX5_point_3 ⟨(Nat.le_of_ble_eq_true rfl), (Nat.le_of_ble_eq_true rfl)⟩) ?_
  refine x_ifB_eq (tgt := 17) hx hb dX5_point_6 (by decide) (fun c_6 => ?_) (fun c_6 => ?_)
  · skip
    refine lv_iconst (v := (-1)) hx hb dX5_point_17 (by decide) ?_
    refine lv_goto (tgt := 32) hx hb dX5_point_18 (by decide) ?_
    exact x_iretR hQ hx hb hr hlocks (by unfold ptR; first | rw [if_pos (by omega)] | rw [if_neg (by omega)]) dX5_point_32
  · skip
    refine lv_iload_n hx hb dX5_point_9 rfl (lv_at hl 2 rfl) ?_
    refine lv_iload_n hx hb dX5_point_10 rfl (lv_at hl 3 rfl) ?_
    refine x_callR (va_runS (As := [.int cx, .int cy]) (rest := []) ⟨hx, hb, hml, hown, hts⟩ (c_X5_noPoint l D cI cC cS tt cx X hX_ cy Y hY_) (va_cwS 2 hts gX5_point_X5_noPoint rfl rfl rfl (by decide +kernel) ⟨Nat.le_of_ble_eq_true rfl, Nat.le_of_ble_eq_true rfl⟩) ⟨x_blindR, x_preR (hP.sub (ws' := []) [] rfl) hK hE hS⟩ rfl rfl hl.1 rfl (lv_room (Nat.le_of_ble_eq_true rfl)) dX5_point_11 ⟨(Nat.le_of_ble_eq_true rfl), (Nat.le_of_ble_eq_true rfl)⟩) ?_
    refine x_ifB_eq (tgt := 21) hx hb dX5_point_14 (by decide) (fun c_14 => ?_) (fun c_14 => ?_)
    · skip
      refine lv_aload_n hx hb dX5_point_21 rfl (lv_at hl 0 rfl) ?_
      refine va_get (v := .ref mn) (D := D) (ci := 5) (C := RX5) (T := TX5) (N := 14) hx hb hts (by decide +kernel) hown hK hP 0 rfl rfl 0 (by decide) (hts (.fieldLink RX5 7 "SpiralFramesModel" "now" "[I") (by decide +kernel)) (fun _ h9 => h9) rfl dX5_point_22 ?_
      refine lv_iload_n hx hb dX5_point_25 rfl (lv_at hl 1 rfl) ?_
      refine lv_iload_n hx hb dX5_point_26 rfl (lv_at hl 2 rfl) ?_
      refine lv_iload_n hx hb dX5_point_27 rfl (lv_at hl 3 rfl) ?_
      refine x_callR (va_runS (As := [.int pi, .int cx, .int cy]) (rest := [.ref mn]) ⟨hx, hb, hml, hown, hts⟩ (c_X5_cell l D cI cC cS tt pi PI hPI_ cx X hX_ cy Y hY_ (by first | omega | assumption | decide)) (va_cwS 3 hts gX5_point_X5_cell rfl rfl rfl (by decide +kernel) ⟨Nat.le_of_ble_eq_true rfl, Nat.le_of_ble_eq_true rfl⟩) ⟨x_blindR, x_preR (hP.sub (ws' := []) [] rfl) hK hE hS⟩ rfl rfl hl.1 rfl (lv_room (Nat.le_of_ble_eq_true rfl)) dX5_point_28 ⟨(Nat.le_of_ble_eq_true rfl), (Nat.le_of_ble_eq_true rfl)⟩) ?_
      refine x_eqi (show zI (144 * PI + 12 * Y + X) = nI (((144 * PI + 12 * Y + X)).toNat) from x_toNat (zI_toInt (by omega) (by omega)) (by omega)) ?_
      refine x_iald hx hb hK hP 1 0 rfl rfl (k := ((144 * PI + 12 * Y + X)).toNat) (by omega) (by decide) dX5_point_31 ?_
      refine x_eqi (show (mkM D1 S1 R1 N1 K1 L1) (((144 * PI + 12 * Y + X)).toNat) = gtZ (pk3 D1 S1 R1 PI) X Y from (by unfold gtZ; rw [if_pos (by omega), ← pkN_Z (by omega)]; exact mkM_pk (j := (Y * 12 + X).toNat) (P := PI.toNat) (by omega) (by omega) (by omega))) ?_
      exact x_iretR hQ hx hb hr hlocks (by unfold ptR; first | rw [if_pos (by omega)] | rw [if_neg (by omega)]) dX5_point_32
    · skip
      refine lv_iconst (v := (-1)) hx hb dX5_point_17 (by decide) ?_
      refine lv_goto (tgt := 32) hx hb dX5_point_18 (by decide) ?_
      exact x_iretR hQ hx hb hr hlocks (by unfold ptR; first | rw [if_pos (by omega)] | rw [if_neg (by omega)]) dX5_point_32
set_option maxHeartbeats 4000000 in
set_option maxRecDepth 100000 in
theorem c_X5_difference (l : Launch) (D : va_G) (cI cC cS : ClassId) (tt : Nat → Nat) (mm : Nat) (mn : Nat) (mh : Nat) (ms : Nat) (mr : Nat) (md : Nat) (mo : Nat) (mc : Nat) (mt : Nat) (mq : Nat) (kp : Int32) (fl : Int32) (ty : Int32) (at9 : Int32) (nu : Int32) (D1 : Nat → Int32) (S1 : Nat → Int32) (R1 : Nat → Int32) (N1 : Nat → Int32) (K1 : Int32) (L1 : Nat → Int32) (pi : Int32) (PI : Int) (hPI_ : pi.toInt = PI) (oi : Int32) (OI : Int) (hOI_ : oi.toInt = OI) (ti : Int32) (TI : Int) (hTI_ : ti.toInt = TI) : Met l yX5_difference wsX5_difference ({ frames := 4, cells := 0, slots := 0, locals := 98 } : Room) (x_PR D cI cC cS tt [(mm, .inr (5, [.ref mn, .ref mh, .int kp, .ref ms, .int fl, .ref mr, .ref md, .ref mo, .ref mc, .int ty, .ref mt, .int at9, .int nu, .ref mq])), (mn, .inl (cI, 578, .inl (mkM D1 S1 R1 N1 K1 L1)))] [.ref mm, .int pi, .int oi, .int ti]) (QcRead (dfR D1 S1 R1 PI OI TI)) 0 0 (fun _ => False) := by
  refine Met.ofW (cc := cX5_difference) (maxL := 4) (ret := (some .int)) (by decide) rfl ?_
  intro p e s m args below meth c s₁ hBd hml hv
  obtain ⟨rfl, hP, hK, hE⟩ := hv
  have hx := hBd.exec
  have hb := hBd.bytes
  have hr := hBd.returns
  have hts := atoms_spec (ws := wsX5_difference) hBd.pre
  have hown : s.vm.findClass RX5 = some m.cls := findClass_of_methodNamed hBd.named
  have hlocks := hBd.notSynchronized
  have hS : va_S (fun _ => False) s.heap s.heap [] := va_S.rf
  have hl := lv_entry ([.ref mm, .int pi, .int oi, .int ti]) (n := 4) (Nat.le_of_ble_eq_true rfl)
  rw [lg_entry_eq]
  generalize (lg_sl ([.ref mm, .int pi, .int oi, .int ti]) ++ List.replicate (4 - (lg_sl ([.ref mm, .int pi, .int oi, .int ti])).length) Slot.unset).toArray = ls at hl ⊢
  have hl : lv_has ls 4 [(0, .ref mm), (1, .int pi), (2, .int oi), (3, .int ti)] := hl
  refine x_genQ (fun Q hQ => ?_)
  refine lv_iload_n hx hb dX5_difference_0 rfl (lv_at hl 1 rfl) ?_
  refine lv_iconst (v := 0) hx hb dX5_difference_1 (by decide) ?_
  refine lv_iconst (v := 2) hx hb dX5_difference_2 (by decide) ?_
  refine x_callR (va_runS (As := [.int pi, .int 0, .int 2]) (rest := []) ⟨hx, hb, hml, hown, hts⟩ (c_X5_in l D cI cC cS tt pi PI hPI_ 0 0 (show (0 : Int32).toInt = 0 from by decide) 2 2 (show (2 : Int32).toInt = 2 from by decide)) (va_cwS 3 hts gX5_difference_X5_in rfl rfl rfl (by decide +kernel) ⟨Nat.le_of_ble_eq_true rfl, Nat.le_of_ble_eq_true rfl⟩) ⟨x_blindR, x_preR (hP.sub (ws' := []) [] rfl) hK hE hS⟩ rfl rfl hl.1 rfl (lv_room (Nat.le_of_ble_eq_true rfl)) dX5_difference_3 ⟨(Nat.le_of_ble_eq_true rfl), (Nat.le_of_ble_eq_true rfl)⟩) ?_
  refine x_ifB_eq (tgt := 28) hx hb dX5_difference_6 (by decide) (fun c_6 => ?_) (fun c_6 => ?_)
  · skip
    refine lv_iconst (v := (-1)) hx hb dX5_difference_28 (by decide) ?_
    exact x_iretR hQ hx hb hr hlocks (by unfold dfR; first | rw [if_neg (by omega)] | rw [if_pos (by omega), if_neg (by omega), if_neg (by omega)]) dX5_difference_29
  · skip
    refine lv_iload_n hx hb dX5_difference_9 rfl (lv_at hl 2 rfl) ?_
    refine lv_iconst (v := 0) hx hb dX5_difference_10 (by decide) ?_
    refine lv_iconst (v := 2) hx hb dX5_difference_11 (by decide) ?_
    refine x_callR (va_runS (As := [.int oi, .int 0, .int 2]) (rest := []) ⟨hx, hb, hml, hown, hts⟩ (c_X5_in l D cI cC cS tt oi OI hOI_ 0 0 (show (0 : Int32).toInt = 0 from by decide) 2 2 (show (2 : Int32).toInt = 2 from by decide)) (va_cwS 3 hts gX5_difference_X5_in rfl rfl rfl (by decide +kernel) ⟨Nat.le_of_ble_eq_true rfl, Nat.le_of_ble_eq_true rfl⟩) ⟨x_blindR, x_preR (hP.sub (ws' := []) [] rfl) hK hE hS⟩ rfl rfl hl.1 rfl (lv_room (Nat.le_of_ble_eq_true rfl)) dX5_difference_12 ⟨(Nat.le_of_ble_eq_true rfl), (Nat.le_of_ble_eq_true rfl)⟩) ?_
    refine x_ifB_eq (tgt := 28) hx hb dX5_difference_15 (by decide) (fun c_15 => ?_) (fun c_15 => ?_)
    · skip
      refine lv_iconst (v := (-1)) hx hb dX5_difference_28 (by decide) ?_
      exact x_iretR hQ hx hb hr hlocks (by unfold dfR; first | rw [if_neg (by omega)] | rw [if_pos (by omega), if_neg (by omega), if_neg (by omega)]) dX5_difference_29
    · skip
      refine lv_iload_n hx hb dX5_difference_18 rfl (lv_at hl 3 rfl) ?_
      refine lv_iconst (v := (-1)) hx hb dX5_difference_19 (by decide) ?_
      refine lv_bipush (v := 8) hx hb dX5_difference_20 (by decide) ?_
      refine x_callR (va_runS (As := [.int ti, .int (-1), .int 8]) (rest := []) ⟨hx, hb, hml, hown, hts⟩ (c_X5_in l D cI cC cS tt ti TI hTI_ (-1) (-1) (show (-1 : Int32).toInt = -1 from by decide) 8 8 (show (8 : Int32).toInt = 8 from by decide)) (va_cwS 3 hts gX5_difference_X5_in rfl rfl rfl (by decide +kernel) ⟨Nat.le_of_ble_eq_true rfl, Nat.le_of_ble_eq_true rfl⟩) ⟨x_blindR, x_preR (hP.sub (ws' := []) [] rfl) hK hE hS⟩ rfl rfl hl.1 rfl (lv_room (Nat.le_of_ble_eq_true rfl)) dX5_difference_22 ⟨(Nat.le_of_ble_eq_true rfl), (Nat.le_of_ble_eq_true rfl)⟩) ?_
      refine x_ifB_ne (tgt := 30) hx hb dX5_difference_25 (by decide) (fun c_25 => ?_) (fun c_25 => ?_)
      · skip
        refine lv_iload_n hx hb dX5_difference_30 rfl (lv_at hl 3 rfl) ?_
        refine x_if_ge (tgt := 43) hx hb dX5_difference_31 (by decide) (X := TI) hTI_ (fun c_31 => ?_) (fun c_31 => ?_)
        · skip
          refine lv_aload_n hx hb dX5_difference_43 rfl (lv_at hl 0 rfl) ?_
          refine lv_iload_n hx hb dX5_difference_44 rfl (lv_at hl 1 rfl) ?_
          refine x_eqi (show pi = nI (PI.toNat) from x_eqN hPI_ (by omega)) ?_
          refine lv_iload_n hx hb dX5_difference_45 rfl (lv_at hl 2 rfl) ?_
          refine x_eqi (show oi = nI (OI.toNat) from x_eqN hOI_ (by omega)) ?_
          refine lv_iload_n hx hb dX5_difference_46 rfl (lv_at hl 3 rfl) ?_
          refine x_eqi (show ti = nI (TI.toNat) from x_eqN hTI_ (by omega)) ?_
          refine lv_iconst (v := 0) hx hb dX5_difference_47 (by decide) ?_
          refine lv_iconst (v := 0) hx hb dX5_difference_48 (by decide) ?_
          refine x_callR (va_runV (As := [.int (nI (PI.toNat)), .int (nI (OI.toNat)), .int (nI (TI.toNat)), .int 0, .int 0]) (rest := []) ⟨hx, hb, hml, hown, hts⟩ (c_X5_apart l D cI cC cS tt mm mn mh ms mr md mo mc mt mq kp fl ty at9 nu D1 S1 R1 N1 K1 L1 PI.toNat OI.toNat TI.toNat 0 0 0 (show (0 : Int32).toInt = 0 from by decide) 0 0 (show (0 : Int32).toInt = 0 from by decide) (by first | omega | assumption | decide) (by first | omega | assumption | decide) (by first | omega | assumption | decide) rfl rfl (by first | omega | assumption | decide)) (cwV 5 hts gX5_difference_X5_apart rfl rfl rfl (by decide +kernel) ⟨Nat.le_of_ble_eq_true rfl, Nat.le_of_ble_eq_true rfl⟩) ⟨x_blindR, va_recv hK hP (ci := 5) (q0 := 0) rfl rfl, x_preR (hP.sub (ws' := [(mm, .inr (5, [.ref mn, .ref mh, .int kp, .ref ms, .int fl, .ref mr, .ref md, .ref mo, .ref mc, .int ty, .ref mt, .int at9, .int nu, .ref mq])), (mn, .inl (cI, 578, .inl (mkM D1 S1 R1 N1 K1 L1)))]) [0, 1] rfl) hK hE hS⟩ rfl rfl hl.1 rfl (lv_room (Nat.le_of_ble_eq_true rfl)) dX5_difference_49 ⟨(Nat.le_of_ble_eq_true rfl), (Nat.le_of_ble_eq_true rfl)⟩) ?_
          refine x_eqi (show dfw (pkN D1 S1 R1 PI.toNat) (pkN D1 S1 R1 OI.toNat) TI.toNat 0 = tdS (pkN D1 S1 R1 PI.toNat) (pkN D1 S1 R1 OI.toNat) TI.toNat 0 from (dfw_0 (by omega))) ?_
          exact x_iretR hQ hx hb hr hlocks (by first | unfold dfR; rw [if_pos (by omega)]; rw [if_pos (by omega)]; rw [pkN_Z (by omega), pkN_Z (by omega)] | unfold dfR; rw [if_pos (by omega)]; rw [if_neg (by omega), if_pos (by omega)]; rw [pkN_Z (by omega), pkN_Z (by omega)]) dX5_difference_52
        · skip
          refine lv_aload_n hx hb dX5_difference_34 rfl (lv_at hl 0 rfl) ?_
          refine lv_iload_n hx hb dX5_difference_35 rfl (lv_at hl 1 rfl) ?_
          refine x_eqi (show pi = nI (PI.toNat) from x_eqN hPI_ (by omega)) ?_
          refine lv_iload_n hx hb dX5_difference_36 rfl (lv_at hl 2 rfl) ?_
          refine x_eqi (show oi = nI (OI.toNat) from x_eqN hOI_ (by omega)) ?_
          refine x_callR (va_runV (As := [.int (nI (PI.toNat)), .int (nI (OI.toNat))]) (rest := []) ⟨hx, hb, hml, hown, hts⟩ (c_X5_whole l D cI cC cS tt mm mn mh ms mr md mo mc mt mq kp fl ty at9 nu D1 S1 R1 N1 K1 L1 PI.toNat OI.toNat (by first | omega | assumption | decide) (by first | omega | assumption | decide)) (cwV 2 hts gX5_difference_X5_whole rfl rfl rfl (by decide +kernel) ⟨Nat.le_of_ble_eq_true rfl, Nat.le_of_ble_eq_true rfl⟩) ⟨x_blindR, va_recv hK hP (ci := 5) (q0 := 0) rfl rfl, x_preR (hP.sub (ws' := [(mm, .inr (5, [.ref mn, .ref mh, .int kp, .ref ms, .int fl, .ref mr, .ref md, .ref mo, .ref mc, .int ty, .ref mt, .int at9, .int nu, .ref mq])), (mn, .inl (cI, 578, .inl (mkM D1 S1 R1 N1 K1 L1)))]) [0, 1] rfl) hK hE hS⟩ rfl rfl hl.1 rfl (lv_room (Nat.le_of_ble_eq_true rfl)) dX5_difference_37 ⟨(Nat.le_of_ble_eq_true rfl), (Nat.le_of_ble_eq_true rfl)⟩) ?_
          refine lv_goto (tgt := 52) hx hb dX5_difference_40 (by decide) ?_
          exact x_iretR hQ hx hb hr hlocks (by first | unfold dfR; rw [if_pos (by omega)]; rw [if_pos (by omega)]; rw [pkN_Z (by omega), pkN_Z (by omega)] | unfold dfR; rw [if_pos (by omega)]; rw [if_neg (by omega), if_pos (by omega)]; rw [pkN_Z (by omega), pkN_Z (by omega)]) dX5_difference_52
      · skip
        refine lv_iconst (v := (-1)) hx hb dX5_difference_28 (by decide) ?_
        exact x_iretR hQ hx hb hr hlocks (by unfold dfR; first | rw [if_neg (by omega)] | rw [if_pos (by omega), if_neg (by omega), if_neg (by omega)]) dX5_difference_29
set_option maxHeartbeats 4000000 in
set_option maxRecDepth 100000 in
theorem c_X5_spiral (l : Launch) (D : va_G) (cI cC cS : ClassId) (tt : Nat → Nat) (mm : Nat) (mn : Nat) (mh : Nat) (ms : Nat) (mr : Nat) (md : Nat) (mo : Nat) (mc : Nat) (mt : Nat) (mq : Nat) (kp : Int32) (fl : Int32) (ty : Int32) (at9 : Int32) (nu : Int32) (pl : Int32) (PL : Int) (hPL_ : pl.toInt = PL) (wh : Int32) (WH : Int) (hWH_ : wh.toInt = WH) : Met l yX5_spiral wsX5_spiral ({ frames := 1, cells := 0, slots := 0, locals := 22 } : Room) (x_PR D cI cC cS tt [(mm, .inr (5, [.ref mn, .ref mh, .int kp, .ref ms, .int fl, .ref mr, .ref md, .ref mo, .ref mc, .int ty, .ref mt, .int at9, .int nu, .ref mq])), (mr, .inl (cI, 25, .inl (x_srF))), (md, .inl (cI, 25, .inl (x_sdF)))] [.ref mm, .int pl, .int wh]) (QcRead (spR PL WH)) 0 0 (fun _ => False) := by
  refine Met.ofW (cc := cX5_spiral) (maxL := 3) (ret := (some .int)) (by decide) rfl ?_
  intro p e s m args below meth c s₁ hBd hml hv
  obtain ⟨rfl, hP, hK, hE⟩ := hv
  have hx := hBd.exec
  have hb := hBd.bytes
  have hr := hBd.returns
  have hts := atoms_spec (ws := wsX5_spiral) hBd.pre
  have hown : s.vm.findClass RX5 = some m.cls := findClass_of_methodNamed hBd.named
  have hlocks := hBd.notSynchronized
  have hS : va_S (fun _ => False) s.heap s.heap [] := va_S.rf
  have hl := lv_entry ([.ref mm, .int pl, .int wh]) (n := 3) (Nat.le_of_ble_eq_true rfl)
  rw [lg_entry_eq]
  generalize (lg_sl ([.ref mm, .int pl, .int wh]) ++ List.replicate (3 - (lg_sl ([.ref mm, .int pl, .int wh])).length) Slot.unset).toArray = ls at hl ⊢
  have hl : lv_has ls 3 [(0, .ref mm), (1, .int pl), (2, .int wh)] := hl
  refine x_genQ (fun Q hQ => ?_)
  refine lv_iload_n hx hb dX5_spiral_0 rfl (lv_at hl 1 rfl) ?_
  refine lv_iconst (v := 0) hx hb dX5_spiral_1 (by decide) ?_
  refine lv_bipush (v := 24) hx hb dX5_spiral_2 (by decide) ?_
  refine x_callR (va_runS (As := [.int pl, .int 0, .int 24]) (rest := []) ⟨hx, hb, hml, hown, hts⟩ (c_X5_in l D cI cC cS tt pl PL hPL_ 0 0 (show (0 : Int32).toInt = 0 from by decide) 24 24 (show (24 : Int32).toInt = 24 from by decide)) (va_cwS 3 hts gX5_spiral_X5_in rfl rfl rfl (by decide +kernel) ⟨Nat.le_of_ble_eq_true rfl, Nat.le_of_ble_eq_true rfl⟩) ⟨x_blindR, x_preR (hP.sub (ws' := []) [] rfl) hK hE hS⟩ rfl rfl hl.1 rfl (lv_room (Nat.le_of_ble_eq_true rfl)) dX5_spiral_4 ⟨(Nat.le_of_ble_eq_true rfl), (Nat.le_of_ble_eq_true rfl)⟩) ?_
  refine x_ifB_ne (tgt := 12) hx hb dX5_spiral_7 (by decide) (fun c_7 => ?_) (fun c_7 => ?_)
  · skip
    refine lv_iload_n hx hb dX5_spiral_12 rfl (lv_at hl 2 rfl) ?_
    refine x_if_ne (tgt := 28) hx hb dX5_spiral_13 (by decide) (X := WH) hWH_ (fun c_13 => ?_) (fun c_13 => ?_)
    · skip
      refine lv_iload_n hx hb dX5_spiral_28 rfl (lv_at hl 2 rfl) ?_
      refine lv_iconst (v := 1) hx hb dX5_spiral_29 (by decide) ?_
      refine x_icmp_ne (tgt := 45) hx hb dX5_spiral_30 (by decide) (X := WH) hWH_ (Y := 1) (show (1 : Int32).toInt = 1 from by decide) (fun c_30 => ?_) (fun c_30 => ?_)
      · skip
        refine lv_iload_n hx hb dX5_spiral_45 rfl (lv_at hl 2 rfl) ?_
        refine lv_iconst (v := 2) hx hb dX5_spiral_46 (by decide) ?_
        refine x_icmp_ne (tgt := 57) hx hb dX5_spiral_47 (by decide) (X := WH) hWH_ (Y := 2) (show (2 : Int32).toInt = 2 from by decide) (fun c_47 => ?_) (fun c_47 => ?_)
        · skip
          refine lv_bipush (v := (-2)) hx hb dX5_spiral_57 (by decide) ?_
          exact x_iretR hQ hx hb hr hlocks (by unfold spR; rw [if_pos (by omega)]; first | rw [if_pos (by omega)] | rw [if_neg (by omega), if_pos (by omega)] | rw [if_neg (by omega), if_neg (by omega), if_pos (by omega)] | rw [if_neg (by omega), if_neg (by omega), if_neg (by omega)]) dX5_spiral_59
        · skip
          refine lv_iload_n hx hb dX5_spiral_50 rfl (lv_at hl 1 rfl) ?_
          refine x_eqi (show pl = nI (PL.toNat) from x_eqN hPL_ (by omega)) ?_
          refine x_callR (va_runS (As := [.int (nI (PL.toNat))]) (rest := []) ⟨hx, hb, hml, hown, hts⟩ (c_X5_bits l D cI cC cS tt PL.toNat (by first | omega | assumption | decide)) (va_cwS 1 hts gX5_spiral_X5_bits rfl rfl rfl (by decide +kernel) ⟨Nat.le_of_ble_eq_true rfl, Nat.le_of_ble_eq_true rfl⟩) ⟨x_blindR, x_preR (hP.sub (ws' := []) [] rfl) hK hE hS⟩ rfl rfl hl.1 rfl (lv_room (Nat.le_of_ble_eq_true rfl)) dX5_spiral_51 ⟨(Nat.le_of_ble_eq_true rfl), (Nat.le_of_ble_eq_true rfl)⟩) ?_
          refine lv_goto (tgt := 59) hx hb dX5_spiral_54 (by decide) ?_
          exact x_iretR hQ hx hb hr hlocks (by unfold spR; rw [if_pos (by omega)]; first | rw [if_pos (by omega)] | rw [if_neg (by omega), if_pos (by omega)] | rw [if_neg (by omega), if_neg (by omega), if_pos (by omega)] | rw [if_neg (by omega), if_neg (by omega), if_neg (by omega)]) dX5_spiral_59
      · skip
        refine lv_bipush (v := 100) hx hb dX5_spiral_33 (by decide) ?_
        refine lv_aload_n hx hb dX5_spiral_35 rfl (lv_at hl 0 rfl) ?_
        refine va_get (v := .ref md) (D := D) (ci := 5) (C := RX5) (T := TX5) (N := 14) hx hb hts (by decide +kernel) hown hK hP 0 rfl rfl 6 (by decide) (hts (.fieldLink RX5 22 "SpiralFramesModel" "down" "[I") (by decide +kernel)) (fun _ h9 => h9) rfl dX5_spiral_36 ?_
        refine lv_iload_n hx hb dX5_spiral_39 rfl (lv_at hl 1 rfl) ?_
        refine x_eqi (show pl = nI ((PL).toNat) from x_toNat hPL_ (by omega)) ?_
        refine x_iald hx hb hK hP 2 0 rfl rfl (k := (PL).toNat) (by omega) (by decide) dX5_spiral_40 ?_
        refine x_eqi (show x_sdF ((PL).toNat) = zI (x_sd PL.toNat) from rfl) ?_
        refine lv_iadd hx hb dX5_spiral_41 ?_
        refine lv_goto (tgt := 59) hx hb dX5_spiral_42 (by decide) ?_
        exact x_iretR hQ hx hb hr hlocks (by unfold spR; rw [if_pos (by omega)]; first | rw [if_pos (by omega)] | rw [if_neg (by omega), if_pos (by omega)] | rw [if_neg (by omega), if_neg (by omega), if_pos (by omega)] | rw [if_neg (by omega), if_neg (by omega), if_neg (by omega)]) dX5_spiral_59
    · skip
      refine lv_bipush (v := 100) hx hb dX5_spiral_16 (by decide) ?_
      refine lv_aload_n hx hb dX5_spiral_18 rfl (lv_at hl 0 rfl) ?_
      refine va_get (v := .ref mr) (D := D) (ci := 5) (C := RX5) (T := TX5) (N := 14) hx hb hts (by decide +kernel) hown hK hP 0 rfl rfl 5 (by decide) (hts (.fieldLink RX5 19 "SpiralFramesModel" "right" "[I") (by decide +kernel)) (fun _ h9 => h9) rfl dX5_spiral_19 ?_
      refine lv_iload_n hx hb dX5_spiral_22 rfl (lv_at hl 1 rfl) ?_
      refine x_eqi (show pl = nI ((PL).toNat) from x_toNat hPL_ (by omega)) ?_
      refine x_iald hx hb hK hP 1 0 rfl rfl (k := (PL).toNat) (by omega) (by decide) dX5_spiral_23 ?_
      refine x_eqi (show x_srF ((PL).toNat) = zI (x_sr PL.toNat) from rfl) ?_
      refine lv_iadd hx hb dX5_spiral_24 ?_
      refine lv_goto (tgt := 59) hx hb dX5_spiral_25 (by decide) ?_
      exact x_iretR hQ hx hb hr hlocks (by unfold spR; rw [if_pos (by omega)]; first | rw [if_pos (by omega)] | rw [if_neg (by omega), if_pos (by omega)] | rw [if_neg (by omega), if_neg (by omega), if_pos (by omega)] | rw [if_neg (by omega), if_neg (by omega), if_neg (by omega)]) dX5_spiral_59
  · skip
    refine lv_iconst (v := (-1)) hx hb dX5_spiral_10 (by decide) ?_
    exact x_iretR hQ hx hb hr hlocks (by unfold spR; rw [if_neg (by omega)]) dX5_spiral_11
set_option maxHeartbeats 4000000 in
set_option maxRecDepth 100000 in
theorem c_X5_wouldCode (l : Launch) (D : va_G) (cI cC cS : ClassId) (tt : Nat → Nat) (mm : Nat) (mn : Nat) (mh : Nat) (ms : Nat) (mr : Nat) (md : Nat) (mo : Nat) (mc : Nat) (mt : Nat) (mq : Nat) (kp : Int32) (fl : Int32) (ty : Int32) (at9 : Int32) (nu : Int32) (D1 : Nat → Int32) (S1 : Nat → Int32) (R1 : Nat → Int32) (N1 : Nat → Int32) (K1 : Int32) (L1 : Nat → Int32) (ti : Int32) (TI : Int) (hTI_ : ti.toInt = TI) (tl : Int32) (TL : Int) (hTL_ : tl.toInt = TL) (wh : Int32) (WH : Int) (hWH_ : wh.toInt = WH) (hh0 : lvB D1) (hh1 : lvB S1) : Met l yX5_wouldCode wsX5_wouldCode ({ frames := 5, cells := 0, slots := 0, locals := 120 } : Room) (x_PR D cI cC cS tt [(mm, .inr (5, [.ref mn, .ref mh, .int kp, .ref ms, .int fl, .ref mr, .ref md, .ref mo, .ref mc, .int ty, .ref mt, .int at9, .int nu, .ref mq])), (mn, .inl (cI, 578, .inl (mkM D1 S1 R1 N1 K1 L1))), (mr, .inl (cI, 25, .inl (x_srF))), (md, .inl (cI, 25, .inl (x_sdF)))] [.ref mm, .int ti, .int tl, .int wh]) (QcRead (wcR D1 S1 TI TL WH)) 0 0 (fun _ => False) := by
  refine Met.ofW (cc := cX5_wouldCode) (maxL := 5) (ret := (some .int)) (by decide) rfl ?_
  intro p e s m args below meth c s₁ hBd hml hv
  obtain ⟨rfl, hP, hK, hE⟩ := hv
  have hx := hBd.exec
  have hb := hBd.bytes
  have hr := hBd.returns
  have hts := atoms_spec (ws := wsX5_wouldCode) hBd.pre
  have hown : s.vm.findClass RX5 = some m.cls := findClass_of_methodNamed hBd.named
  have hlocks := hBd.notSynchronized
  have hS : va_S (fun _ => False) s.heap s.heap [] := va_S.rf
  have hl := lv_entry ([.ref mm, .int ti, .int tl, .int wh]) (n := 5) (Nat.le_of_ble_eq_true rfl)
  rw [lg_entry_eq]
  generalize (lg_sl ([.ref mm, .int ti, .int tl, .int wh]) ++ List.replicate (5 - (lg_sl ([.ref mm, .int ti, .int tl, .int wh])).length) Slot.unset).toArray = ls at hl ⊢
  have hl : lv_has ls 5 [(0, .ref mm), (1, .int ti), (2, .int tl), (3, .int wh)] := hl
  refine x_genQ (fun Q hQ => ?_)
  refine lv_iload_n hx hb dX5_wouldCode_0 rfl (lv_at hl 1 rfl) ?_
  refine lv_iconst (v := 0) hx hb dX5_wouldCode_1 (by decide) ?_
  refine lv_bipush (v := 8) hx hb dX5_wouldCode_2 (by decide) ?_
  refine x_callR (va_runS (As := [.int ti, .int 0, .int 8]) (rest := []) ⟨hx, hb, hml, hown, hts⟩ (c_X5_in l D cI cC cS tt ti TI hTI_ 0 0 (show (0 : Int32).toInt = 0 from by decide) 8 8 (show (8 : Int32).toInt = 8 from by decide)) (va_cwS 3 hts gX5_wouldCode_X5_in rfl rfl rfl (by decide +kernel) ⟨Nat.le_of_ble_eq_true rfl, Nat.le_of_ble_eq_true rfl⟩) ⟨x_blindR, x_preR (hP.sub (ws' := []) [] rfl) hK hE hS⟩ rfl rfl hl.1 rfl (lv_room (Nat.le_of_ble_eq_true rfl)) dX5_wouldCode_4 ⟨(Nat.le_of_ble_eq_true rfl), (Nat.le_of_ble_eq_true rfl)⟩) ?_
  refine x_ifB_ne (tgt := 12) hx hb dX5_wouldCode_7 (by decide) (fun c_7 => ?_) (fun c_7 => ?_)
  · skip
    refine lv_iload_n hx hb dX5_wouldCode_12 rfl (lv_at hl 2 rfl) ?_
    refine lv_iconst (v := 0) hx hb dX5_wouldCode_13 (by decide) ?_
    refine lv_sipush (v := 240) hx hb dX5_wouldCode_14 (by decide) ?_
    refine x_callR (va_runS (As := [.int tl, .int 0, .int 240]) (rest := []) ⟨hx, hb, hml, hown, hts⟩ (c_X5_in l D cI cC cS tt tl TL hTL_ 0 0 (show (0 : Int32).toInt = 0 from by decide) 240 240 (show (240 : Int32).toInt = 240 from by decide)) (va_cwS 3 hts gX5_wouldCode_X5_in rfl rfl rfl (by decide +kernel) ⟨Nat.le_of_ble_eq_true rfl, Nat.le_of_ble_eq_true rfl⟩) ⟨x_blindR, x_preR (hP.sub (ws' := []) [] rfl) hK hE hS⟩ rfl rfl hl.1 rfl (lv_room (Nat.le_of_ble_eq_true rfl)) dX5_wouldCode_17 ⟨(Nat.le_of_ble_eq_true rfl), (Nat.le_of_ble_eq_true rfl)⟩) ?_
    refine x_ifB_eq (tgt := 32) hx hb dX5_wouldCode_20 (by decide) (fun c_20 => ?_) (fun c_20 => ?_)
    · skip
      refine lv_bipush (v := (-2)) hx hb dX5_wouldCode_32 (by decide) ?_
      exact x_iretR hQ hx hb hr hlocks (by unfold wcR; rw [if_pos (by omega)]; first | rw [if_neg (by omega)] | (rw [if_pos (by omega)]; unfold wcV; rw [if_neg (by omega), if_neg (by omega), if_neg (by omega), if_neg (by omega)])) dX5_wouldCode_34
    · skip
      refine lv_iload_n hx hb dX5_wouldCode_23 rfl (lv_at hl 3 rfl) ?_
      refine lv_iconst (v := 0) hx hb dX5_wouldCode_24 (by decide) ?_
      refine lv_iconst (v := 3) hx hb dX5_wouldCode_25 (by decide) ?_
      refine x_callR (va_runS (As := [.int wh, .int 0, .int 3]) (rest := []) ⟨hx, hb, hml, hown, hts⟩ (c_X5_in l D cI cC cS tt wh WH hWH_ 0 0 (show (0 : Int32).toInt = 0 from by decide) 3 3 (show (3 : Int32).toInt = 3 from by decide)) (va_cwS 3 hts gX5_wouldCode_X5_in rfl rfl rfl (by decide +kernel) ⟨Nat.le_of_ble_eq_true rfl, Nat.le_of_ble_eq_true rfl⟩) ⟨x_blindR, x_preR (hP.sub (ws' := []) [] rfl) hK hE hS⟩ rfl rfl hl.1 rfl (lv_room (Nat.le_of_ble_eq_true rfl)) dX5_wouldCode_26 ⟨(Nat.le_of_ble_eq_true rfl), (Nat.le_of_ble_eq_true rfl)⟩) ?_
      refine x_ifB_ne (tgt := 35) hx hb dX5_wouldCode_29 (by decide) (fun c_29 => ?_) (fun c_29 => ?_)
      · skip
        refine lv_aload_n hx hb dX5_wouldCode_35 rfl (lv_at hl 0 rfl) ?_
        refine lv_iload_n hx hb dX5_wouldCode_36 rfl (lv_at hl 1 rfl) ?_
        refine x_eqi (show ti = nI (TI.toNat) from x_eqN hTI_ (by omega)) ?_
        refine lv_iload_n hx hb dX5_wouldCode_37 rfl (lv_at hl 2 rfl) ?_
        refine x_callR (va_runV (As := [.int (nI (TI.toNat)), .int tl]) (rest := []) ⟨hx, hb, hml, hown, hts⟩ (c_X5_code l D cI cC cS tt mm mn mh ms mr md mo mc mt mq kp fl ty at9 nu D1 S1 R1 N1 K1 L1 TI.toNat tl TL hTL_ (by first | omega | assumption | decide) (by first | omega | assumption | decide) (by first | omega | assumption | decide) (by first | omega | assumption | decide)) (cwV 2 hts gX5_wouldCode_X5_code rfl rfl rfl (by decide +kernel) ⟨Nat.le_of_ble_eq_true rfl, Nat.le_of_ble_eq_true rfl⟩) ⟨x_blindR, va_recv hK hP (ci := 5) (q0 := 0) rfl rfl, x_preR (hP.sub (ws' := [(mm, .inr (5, [.ref mn, .ref mh, .int kp, .ref ms, .int fl, .ref mr, .ref md, .ref mo, .ref mc, .int ty, .ref mt, .int at9, .int nu, .ref mq])), (mn, .inl (cI, 578, .inl (mkM D1 S1 R1 N1 K1 L1))), (mr, .inl (cI, 25, .inl (x_srF))), (md, .inl (cI, 25, .inl (x_sdF)))]) [0, 1, 2, 3] rfl) hK hE hS⟩ rfl rfl hl.1 rfl (lv_room (Nat.le_of_ble_eq_true rfl)) dX5_wouldCode_38 ⟨(Nat.le_of_ble_eq_true rfl), (Nat.le_of_ble_eq_true rfl)⟩) ?_
        refine lv_istore (lv' := [(4, .int (nI (cdV D1 S1 TI.toNat TL))), (0, .ref mm), (1, .int ti), (2, .int tl), (3, .int wh)]) hx hb dX5_wouldCode_41 hl (by decide) rfl (fun ls hl => ?_)
        have cv25 := cdV_le (D := D1) (S := S1) (t := TI.toNat) (Tl := TL)
        refine lv_iload_n hx hb dX5_wouldCode_43 rfl (lv_at hl 4 rfl) ?_
        rcases (show WH = 0 ∨ WH = 1 ∨ WH = 2 ∨ (WH < 0 ∨ 2 < WH) by omega) with hsw44 | hsw44 | hsw44 | hsw44
        · skip
          refine lv_tableIn (off := 28) (tgt := 72) hx hb dX5_wouldCode_44 (by rw [hWH_, hsw44]; decide) (by rw [hWH_, hsw44]; decide) (by rw [hWH_, hsw44]; rfl) (by decide) ?_
          refine lv_iload hx hb dX5_wouldCode_72 (lv_at hl 0 rfl) ?_
          refine x_if_ne (tgt := 81) hx hb dX5_wouldCode_74 (by decide) (X := ((cdV D1 S1 TI.toNat TL : Nat) : Int)) (nI_toI (by omega)) (fun c_74 => ?_) (fun c_74 => ?_)
          · skip
            refine lv_iload hx hb dX5_wouldCode_81 (lv_at hl 0 rfl) ?_
            refine lv_bipush (v := 25) hx hb dX5_wouldCode_83 (by decide) ?_
            refine x_icmp_ne (tgt := 92) hx hb dX5_wouldCode_85 (by decide) (X := ((cdV D1 S1 TI.toNat TL : Nat) : Int)) (nI_toI (by omega)) (Y := 25) (show (25 : Int32).toInt = 25 from by decide) (fun c_85 => ?_) (fun c_85 => ?_)
            · skip
              refine lv_iconst (v := 1) hx hb dX5_wouldCode_92 (by decide) ?_
              exact x_iretR hQ hx hb hr hlocks (by unfold wcR; rw [if_pos (by omega), if_pos (by omega)]; unfold wcV; rw [if_pos hsw44]; unfold kdN; first | (rw [if_pos (by omega)]; rfl) | (rw [if_neg (by omega), if_pos (by omega)]; rfl) | (rw [if_neg (by omega), if_neg (by omega)]; rfl)) dX5_wouldCode_93
            · skip
              refine lv_iconst (v := 2) hx hb dX5_wouldCode_88 (by decide) ?_
              refine lv_goto (tgt := 93) hx hb dX5_wouldCode_89 (by decide) ?_
              exact x_iretR hQ hx hb hr hlocks (by unfold wcR; rw [if_pos (by omega), if_pos (by omega)]; unfold wcV; rw [if_pos hsw44]; unfold kdN; first | (rw [if_pos (by omega)]; rfl) | (rw [if_neg (by omega), if_pos (by omega)]; rfl) | (rw [if_neg (by omega), if_neg (by omega)]; rfl)) dX5_wouldCode_93
          · skip
            refine lv_iconst (v := 0) hx hb dX5_wouldCode_77 (by decide) ?_
            refine lv_goto (tgt := 93) hx hb dX5_wouldCode_78 (by decide) ?_
            exact x_iretR hQ hx hb hr hlocks (by unfold wcR; rw [if_pos (by omega), if_pos (by omega)]; unfold wcV; rw [if_pos hsw44]; unfold kdN; first | (rw [if_pos (by omega)]; rfl) | (rw [if_neg (by omega), if_pos (by omega)]; rfl) | (rw [if_neg (by omega), if_neg (by omega)]; rfl)) dX5_wouldCode_93
        · skip
          refine lv_tableIn (off := 50) (tgt := 94) hx hb dX5_wouldCode_44 (by rw [hWH_, hsw44]; decide) (by rw [hWH_, hsw44]; decide) (by rw [hWH_, hsw44]; rfl) (by decide) ?_
          refine lv_iload hx hb dX5_wouldCode_94 (lv_at hl 0 rfl) ?_
          refine lv_bipush (v := 25) hx hb dX5_wouldCode_96 (by decide) ?_
          refine x_icmp_ne (tgt := 106) hx hb dX5_wouldCode_98 (by decide) (X := ((cdV D1 S1 TI.toNat TL : Nat) : Int)) (nI_toI (by omega)) (Y := 25) (show (25 : Int32).toInt = 25 from by decide) (fun c_98 => ?_) (fun c_98 => ?_)
          · skip
            refine lv_iload hx hb dX5_wouldCode_106 (lv_at hl 0 rfl) ?_
            exact x_iretR hQ hx hb hr hlocks (by unfold wcR; rw [if_pos (by omega), if_pos (by omega)]; unfold wcV; rw [if_neg (by omega), if_pos hsw44]; first | rw [if_pos (by omega)] | rw [if_neg (by omega)]) dX5_wouldCode_108
          · skip
            refine lv_bipush (v := (-5)) hx hb dX5_wouldCode_101 (by decide) ?_
            refine lv_goto (tgt := 108) hx hb dX5_wouldCode_103 (by decide) ?_
            exact x_iretR hQ hx hb hr hlocks (by unfold wcR; rw [if_pos (by omega), if_pos (by omega)]; unfold wcV; rw [if_neg (by omega), if_pos hsw44]; first | rw [if_pos (by omega)] | rw [if_neg (by omega)]) dX5_wouldCode_108
        · skip
          refine lv_tableIn (off := 65) (tgt := 109) hx hb dX5_wouldCode_44 (by rw [hWH_, hsw44]; decide) (by rw [hWH_, hsw44]; decide) (by rw [hWH_, hsw44]; rfl) (by decide) ?_
          refine lv_iload hx hb dX5_wouldCode_109 (lv_at hl 0 rfl) ?_
          refine x_callR (va_runS (As := [.int (nI (cdV D1 S1 TI.toNat TL))]) (rest := []) ⟨hx, hb, hml, hown, hts⟩ (c_X5_bits l D cI cC cS tt (cdV D1 S1 TI.toNat TL) (by first | omega | assumption | decide)) (va_cwS 1 hts gX5_wouldCode_X5_bits rfl rfl rfl (by decide +kernel) ⟨Nat.le_of_ble_eq_true rfl, Nat.le_of_ble_eq_true rfl⟩) ⟨x_blindR, x_preR (hP.sub (ws' := []) [] rfl) hK hE hS⟩ rfl rfl hl.1 rfl (lv_room (Nat.le_of_ble_eq_true rfl)) dX5_wouldCode_111 ⟨(Nat.le_of_ble_eq_true rfl), (Nat.le_of_ble_eq_true rfl)⟩) ?_
          exact x_iretR hQ hx hb hr hlocks (by unfold wcR; rw [if_pos (by omega), if_pos (by omega)]; unfold wcV; rw [if_neg (by omega), if_neg (by omega), if_pos hsw44]) dX5_wouldCode_114
        · skip
          refine lv_tableOut (tgt := 115) hx hb dX5_wouldCode_44 (by rw [hWH_]; exact hsw44) (by decide) ?_
          refine lv_iload hx hb dX5_wouldCode_115 (lv_at hl 0 rfl) ?_
          refine lv_bipush (v := 25) hx hb dX5_wouldCode_117 (by decide) ?_
          refine x_icmp_ne (tgt := 126) hx hb dX5_wouldCode_119 (by decide) (X := ((cdV D1 S1 TI.toNat TL : Nat) : Int)) (nI_toI (by omega)) (Y := 25) (show (25 : Int32).toInt = 25 from by decide) (fun c_119 => ?_) (fun c_119 => ?_)
          · skip
            have hcv : (cdV D1 S1 TI.toNat TL) < 25 ∧ wIn TI.toNat (cdV D1 S1 TI.toNat TL) := (cdV_in (by omega)).resolve_left (by omega)
            refine lv_aload_n hx hb dX5_wouldCode_126 rfl (lv_at hl 1 rfl) ?_
            refine lv_iload_n hx hb dX5_wouldCode_127 rfl (lv_at hl 2 rfl) ?_
            refine x_eqi (show ti = nI (TI.toNat) from x_eqN hTI_ (by omega)) ?_
            refine lv_iload hx hb dX5_wouldCode_128 (lv_at hl 0 rfl) ?_
            refine x_callR (va_runV (As := [.int (nI (TI.toNat)), .int (nI (cdV D1 S1 TI.toNat TL))]) (rest := []) ⟨hx, hb, hml, hown, hts⟩ (c_X5_apartBy l D cI cC cS tt mm mn mh ms mr md mo mc mt mq kp fl ty at9 nu D1 S1 R1 N1 K1 L1 TI.toNat (cdV D1 S1 TI.toNat TL) (by first | omega | assumption | decide) (by first | omega | assumption | decide)) (cwV 2 hts gX5_wouldCode_X5_apartBy rfl rfl rfl (by decide +kernel) ⟨Nat.le_of_ble_eq_true rfl, Nat.le_of_ble_eq_true rfl⟩) ⟨x_blindR, va_recv hK hP (ci := 5) (q0 := 0) rfl rfl, x_preR (hP.sub (ws' := [(mm, .inr (5, [.ref mn, .ref mh, .int kp, .ref ms, .int fl, .ref mr, .ref md, .ref mo, .ref mc, .int ty, .ref mt, .int at9, .int nu, .ref mq])), (mn, .inl (cI, 578, .inl (mkM D1 S1 R1 N1 K1 L1))), (mr, .inl (cI, 25, .inl (x_srF))), (md, .inl (cI, 25, .inl (x_sdF)))]) [0, 1, 2, 3] rfl) hK hE hS⟩ rfl rfl hl.1 rfl (lv_room (Nat.le_of_ble_eq_true rfl)) dX5_wouldCode_130 ⟨(Nat.le_of_ble_eq_true rfl), (Nat.le_of_ble_eq_true rfl)⟩) ?_
            refine x_eqi (show dfw D1 S1 TI.toNat (cdV D1 S1 TI.toNat TL) = dfv D1 S1 TI.toNat (cdV D1 S1 TI.toNat TL) from (dfw_e hcv.2)) ?_
            exact x_iretR hQ hx hb hr hlocks (by unfold wcR; rw [if_pos (by omega), if_pos (by omega)]; unfold wcV; rw [if_neg (by omega), if_neg (by omega), if_neg (by omega), if_pos (by omega)]; first | rw [if_pos (by omega)] | rw [if_neg (by omega)]) dX5_wouldCode_133
          · skip
            refine lv_iconst (v := 0) hx hb dX5_wouldCode_122 (by decide) ?_
            refine lv_goto (tgt := 133) hx hb dX5_wouldCode_123 (by decide) ?_
            exact x_iretR hQ hx hb hr hlocks (by unfold wcR; rw [if_pos (by omega), if_pos (by omega)]; unfold wcV; rw [if_neg (by omega), if_neg (by omega), if_neg (by omega), if_pos (by omega)]; first | rw [if_pos (by omega)] | rw [if_neg (by omega)]) dX5_wouldCode_133
      · skip
        refine lv_bipush (v := (-2)) hx hb dX5_wouldCode_32 (by decide) ?_
        exact x_iretR hQ hx hb hr hlocks (by unfold wcR; rw [if_pos (by omega)]; first | rw [if_neg (by omega)] | (rw [if_pos (by omega)]; unfold wcV; rw [if_neg (by omega), if_neg (by omega), if_neg (by omega), if_neg (by omega)])) dX5_wouldCode_34
  · skip
    refine lv_iconst (v := (-1)) hx hb dX5_wouldCode_10 (by decide) ?_
    exact x_iretR hQ hx hb hr hlocks (by unfold wcR; rw [if_neg (by omega)]) dX5_wouldCode_11
set_option maxHeartbeats 4000000 in
set_option maxRecDepth 100000 in
theorem c_X5_wouldSpend (l : Launch) (D : va_G) (cI cC cS : ClassId) (tt : Nat → Nat) (mm : Nat) (mn : Nat) (mh : Nat) (ms : Nat) (mr : Nat) (md : Nat) (mo : Nat) (mc : Nat) (mt : Nat) (mq : Nat) (kp : Int32) (fl : Int32) (ty : Int32) (at9 : Int32) (nu : Int32) (D1 : Nat → Int32) (S1 : Nat → Int32) (R1 : Nat → Int32) (N1 : Nat → Int32) (K1 : Int32) (L1 : Nat → Int32) (tl : Int32) (TL : Int) (hTL_ : tl.toInt = TL) (hh0 : lvB D1) (hh1 : lvB S1) : Met l yX5_wouldSpend wsX5_wouldSpend ({ frames := 6, cells := 0, slots := 0, locals := 143 } : Room) (x_PR D cI cC cS tt [(mm, .inr (5, [.ref mn, .ref mh, .int kp, .ref ms, .int fl, .ref mr, .ref md, .ref mo, .ref mc, .int ty, .ref mt, .int at9, .int nu, .ref mq])), (mn, .inl (cI, 578, .inl (mkM D1 S1 R1 N1 K1 L1))), (mr, .inl (cI, 25, .inl (x_srF))), (md, .inl (cI, 25, .inl (x_sdF)))] [.ref mm, .int tl]) (QcRead (wsR D1 S1 TL)) 0 0 (fun _ => False) := by
  refine Met.ofW (cc := cX5_wouldSpend) (maxL := 2) (ret := (some .int)) (by decide) rfl ?_
  intro p e s m args below meth c s₁ hBd hml hv
  obtain ⟨rfl, hP, hK, hE⟩ := hv
  have hx := hBd.exec
  have hb := hBd.bytes
  have hr := hBd.returns
  have hts := atoms_spec (ws := wsX5_wouldSpend) hBd.pre
  have hown : s.vm.findClass RX5 = some m.cls := findClass_of_methodNamed hBd.named
  have hlocks := hBd.notSynchronized
  have hS : va_S (fun _ => False) s.heap s.heap [] := va_S.rf
  have hl := lv_entry ([.ref mm, .int tl]) (n := 2) (Nat.le_of_ble_eq_true rfl)
  rw [lg_entry_eq]
  generalize (lg_sl ([.ref mm, .int tl]) ++ List.replicate (2 - (lg_sl ([.ref mm, .int tl])).length) Slot.unset).toArray = ls at hl ⊢
  have hl : lv_has ls 2 [(0, .ref mm), (1, .int tl)] := hl
  refine x_genQ (fun Q hQ => ?_)
  refine lv_iload_n hx hb dX5_wouldSpend_0 rfl (lv_at hl 1 rfl) ?_
  refine lv_iconst (v := 0) hx hb dX5_wouldSpend_1 (by decide) ?_
  refine lv_sipush (v := 240) hx hb dX5_wouldSpend_2 (by decide) ?_
  refine x_callR (va_runS (As := [.int tl, .int 0, .int 240]) (rest := []) ⟨hx, hb, hml, hown, hts⟩ (c_X5_in l D cI cC cS tt tl TL hTL_ 0 0 (show (0 : Int32).toInt = 0 from by decide) 240 240 (show (240 : Int32).toInt = 240 from by decide)) (va_cwS 3 hts gX5_wouldSpend_X5_in rfl rfl rfl (by decide +kernel) ⟨Nat.le_of_ble_eq_true rfl, Nat.le_of_ble_eq_true rfl⟩) ⟨x_blindR, x_preR (hP.sub (ws' := []) [] rfl) hK hE hS⟩ rfl rfl hl.1 rfl (lv_room (Nat.le_of_ble_eq_true rfl)) dX5_wouldSpend_5 ⟨(Nat.le_of_ble_eq_true rfl), (Nat.le_of_ble_eq_true rfl)⟩) ?_
  refine x_ifB_eq (tgt := 19) hx hb dX5_wouldSpend_8 (by decide) (fun c_8 => ?_) (fun c_8 => ?_)
  · skip
    refine lv_bipush (v := (-2)) hx hb dX5_wouldSpend_19 (by decide) ?_
    exact x_iretR hQ hx hb hr hlocks (by unfold wsR; first | rw [if_pos (by omega)] | rw [if_neg (by omega)]) dX5_wouldSpend_21
  · skip
    refine lv_aload_n hx hb dX5_wouldSpend_11 rfl (lv_at hl 0 rfl) ?_
    refine lv_iload_n hx hb dX5_wouldSpend_12 rfl (lv_at hl 1 rfl) ?_
    refine x_callR (va_runV (As := [.int tl]) (rest := []) ⟨hx, hb, hml, hown, hts⟩ (c_X5_spends l D cI cC cS tt mm mn mh ms mr md mo mc mt mq kp fl ty at9 nu D1 S1 R1 N1 K1 L1 tl TL hTL_ (by first | omega | assumption | decide) (by first | omega | assumption | decide) (by first | omega | assumption | decide)) (cwV 1 hts gX5_wouldSpend_X5_spends rfl rfl rfl (by decide +kernel) ⟨Nat.le_of_ble_eq_true rfl, Nat.le_of_ble_eq_true rfl⟩) ⟨x_blindR, va_recv hK hP (ci := 5) (q0 := 0) rfl rfl, x_preR (hP.sub (ws' := [(mm, .inr (5, [.ref mn, .ref mh, .int kp, .ref ms, .int fl, .ref mr, .ref md, .ref mo, .ref mc, .int ty, .ref mt, .int at9, .int nu, .ref mq])), (mn, .inl (cI, 578, .inl (mkM D1 S1 R1 N1 K1 L1))), (mr, .inl (cI, 25, .inl (x_srF))), (md, .inl (cI, 25, .inl (x_sdF)))]) [0, 1, 2, 3] rfl) hK hE hS⟩ rfl rfl hl.1 rfl (lv_room (Nat.le_of_ble_eq_true rfl)) dX5_wouldSpend_13 ⟨(Nat.le_of_ble_eq_true rfl), (Nat.le_of_ble_eq_true rfl)⟩) ?_
    refine lv_goto (tgt := 21) hx hb dX5_wouldSpend_16 (by decide) ?_
    exact x_iretR hQ hx hb hr hlocks (by unfold wsR; first | rw [if_pos (by omega)] | rw [if_neg (by omega)]) dX5_wouldSpend_21
set_option maxHeartbeats 4000000 in
set_option maxRecDepth 100000 in
theorem c_X5_wouldNeed (l : Launch) (D : va_G) (cI cC cS : ClassId) (tt : Nat → Nat) (mm : Nat) (mn : Nat) (mh : Nat) (ms : Nat) (mr : Nat) (md : Nat) (mo : Nat) (mc : Nat) (mt : Nat) (mq : Nat) (kp : Int32) (fl : Int32) (ty : Int32) (at9 : Int32) (nu : Int32) (D1 : Nat → Int32) (S1 : Nat → Int32) (R1 : Nat → Int32) (N1 : Nat → Int32) (K1 : Int32) (L1 : Nat → Int32) (Ls : Nat) (hh0 : N1 1 = nI Ls) (hh1 : Ls ≤ 240) (hh2 : 9 ≤ (N1 0 + N1 3).toInt) (hh3 : lvB D1) (hh4 : lvB S1) : Met l yX5_wouldNeed wsX5_wouldNeed ({ frames := 7, cells := 0, slots := 0, locals := 164 } : Room) (x_PR D cI cC cS tt [(mm, .inr (5, [.ref mn, .ref mh, .int kp, .ref ms, .int fl, .ref mr, .ref md, .ref mo, .ref mc, .int ty, .ref mt, .int at9, .int nu, .ref mq])), (mn, .inl (cI, 578, .inl (mkM D1 S1 R1 N1 K1 L1))), (mr, .inl (cI, 25, .inl (x_srF))), (md, .inl (cI, 25, .inl (x_sdF)))] [.ref mm]) (QcRead (nI (ntV D1 S1 Ls (N1 0 + N1 3).toInt))) 0 0 (fun _ => False) := by
  refine Met.ofW (cc := cX5_wouldNeed) (maxL := 1) (ret := (some .int)) (by decide) rfl ?_
  intro p e s m args below meth c s₁ hBd hml hv
  obtain ⟨rfl, hP, hK, hE⟩ := hv
  have hx := hBd.exec
  have hb := hBd.bytes
  have hr := hBd.returns
  have hts := atoms_spec (ws := wsX5_wouldNeed) hBd.pre
  have hown : s.vm.findClass RX5 = some m.cls := findClass_of_methodNamed hBd.named
  have hlocks := hBd.notSynchronized
  have hS : va_S (fun _ => False) s.heap s.heap [] := va_S.rf
  have hl := lv_entry ([.ref mm]) (n := 1) (Nat.le_of_ble_eq_true rfl)
  rw [lg_entry_eq]
  generalize (lg_sl ([.ref mm]) ++ List.replicate (1 - (lg_sl ([.ref mm])).length) Slot.unset).toArray = ls at hl ⊢
  have hl : lv_has ls 1 [(0, .ref mm)] := hl
  refine x_genQ (fun Q hQ => ?_)
  refine lv_aload_n hx hb dX5_wouldNeed_0 rfl (lv_at hl 0 rfl) ?_
  refine x_callR (va_runV (As := []) (rest := []) ⟨hx, hb, hml, hown, hts⟩ (c_X5_needs l D cI cC cS tt mm mn mh ms mr md mo mc mt mq kp fl ty at9 nu D1 S1 R1 N1 K1 L1 Ls (by first | omega | assumption | decide) (by first | omega | assumption | decide) (by first | omega | assumption | decide) (by first | omega | assumption | decide) (by first | omega | assumption | decide)) (cwV 0 hts gX5_wouldNeed_X5_needs rfl rfl rfl (by decide +kernel) ⟨Nat.le_of_ble_eq_true rfl, Nat.le_of_ble_eq_true rfl⟩) ⟨x_blindR, va_recv hK hP (ci := 5) (q0 := 0) rfl rfl, x_preR (hP.sub (ws' := [(mm, .inr (5, [.ref mn, .ref mh, .int kp, .ref ms, .int fl, .ref mr, .ref md, .ref mo, .ref mc, .int ty, .ref mt, .int at9, .int nu, .ref mq])), (mn, .inl (cI, 578, .inl (mkM D1 S1 R1 N1 K1 L1))), (mr, .inl (cI, 25, .inl (x_srF))), (md, .inl (cI, 25, .inl (x_sdF)))]) [0, 1, 2, 3] rfl) hK hE hS⟩ rfl rfl hl.1 rfl (lv_room (Nat.le_of_ble_eq_true rfl)) dX5_wouldNeed_1 ⟨(Nat.le_of_ble_eq_true rfl), (Nat.le_of_ble_eq_true rfl)⟩) ?_
  exact x_iretR hQ hx hb hr hlocks rfl dX5_wouldNeed_4
set_option maxHeartbeats 4000000 in
set_option maxRecDepth 100000 in
theorem c_X5_best (l : Launch) (D : va_G) (cI cC cS : ClassId) (tt : Nat → Nat) (mm : Nat) (mn : Nat) (mh : Nat) (ms : Nat) (mr : Nat) (md : Nat) (mo : Nat) (mc : Nat) (mt : Nat) (mq : Nat) (kp : Int32) (fl : Int32) (ty : Int32) (at9 : Int32) (nu : Int32) (D1 : Nat → Int32) (S1 : Nat → Int32) (R1 : Nat → Int32) (N1 : Nat → Int32) (K1 : Int32) (L1 : Nat → Int32) (ti : Int32) (TI : Int) (hTI_ : ti.toInt = TI) (wh : Int32) (WH : Int) (hWH_ : wh.toInt = WH) (hh0 : lvB D1) (hh1 : lvB S1) : Met l yX5_best wsX5_best ({ frames := 4, cells := 0, slots := 0, locals := 96 } : Room) (x_PR D cI cC cS tt [(mm, .inr (5, [.ref mn, .ref mh, .int kp, .ref ms, .int fl, .ref mr, .ref md, .ref mo, .ref mc, .int ty, .ref mt, .int at9, .int nu, .ref mq])), (mn, .inl (cI, 578, .inl (mkM D1 S1 R1 N1 K1 L1))), (mr, .inl (cI, 25, .inl (x_srF))), (md, .inl (cI, 25, .inl (x_sdF)))] [.ref mm, .int ti, .int wh]) (QcRead (btR D1 S1 TI WH)) 0 0 (fun _ => False) := by
  refine Met.ofW (cc := cX5_best) (maxL := 6) (ret := (some .int)) (by decide) rfl ?_
  intro p e s m args below meth c s₁ hBd hml hv
  obtain ⟨rfl, hP, hK, hE⟩ := hv
  have hx := hBd.exec
  have hb := hBd.bytes
  have hr := hBd.returns
  have hts := atoms_spec (ws := wsX5_best) hBd.pre
  have hown : s.vm.findClass RX5 = some m.cls := findClass_of_methodNamed hBd.named
  have hlocks := hBd.notSynchronized
  have hS : va_S (fun _ => False) s.heap s.heap [] := va_S.rf
  have hl := lv_entry ([.ref mm, .int ti, .int wh]) (n := 6) (Nat.le_of_ble_eq_true rfl)
  rw [lg_entry_eq]
  generalize (lg_sl ([.ref mm, .int ti, .int wh]) ++ List.replicate (6 - (lg_sl ([.ref mm, .int ti, .int wh])).length) Slot.unset).toArray = ls at hl ⊢
  have hl : lv_has ls 6 [(0, .ref mm), (1, .int ti), (2, .int wh)] := hl
  refine x_genQ (fun Q hQ => ?_)
  refine lv_iload_n hx hb dX5_best_0 rfl (lv_at hl 1 rfl) ?_
  refine lv_iconst (v := 0) hx hb dX5_best_1 (by decide) ?_
  refine lv_bipush (v := 8) hx hb dX5_best_2 (by decide) ?_
  refine x_callR (va_runS (As := [.int ti, .int 0, .int 8]) (rest := []) ⟨hx, hb, hml, hown, hts⟩ (c_X5_in l D cI cC cS tt ti TI hTI_ 0 0 (show (0 : Int32).toInt = 0 from by decide) 8 8 (show (8 : Int32).toInt = 8 from by decide)) (va_cwS 3 hts gX5_best_X5_in rfl rfl rfl (by decide +kernel) ⟨Nat.le_of_ble_eq_true rfl, Nat.le_of_ble_eq_true rfl⟩) ⟨x_blindR, x_preR (hP.sub (ws' := []) [] rfl) hK hE hS⟩ rfl rfl hl.1 rfl (lv_room (Nat.le_of_ble_eq_true rfl)) dX5_best_4 ⟨(Nat.le_of_ble_eq_true rfl), (Nat.le_of_ble_eq_true rfl)⟩) ?_
  refine x_ifB_ne (tgt := 12) hx hb dX5_best_7 (by decide) (fun c_7 => ?_) (fun c_7 => ?_)
  · skip
    refine lv_iload_n hx hb dX5_best_12 rfl (lv_at hl 2 rfl) ?_
    refine lv_iconst (v := 0) hx hb dX5_best_13 (by decide) ?_
    refine lv_iconst (v := 1) hx hb dX5_best_14 (by decide) ?_
    refine x_callR (va_runS (As := [.int wh, .int 0, .int 1]) (rest := []) ⟨hx, hb, hml, hown, hts⟩ (c_X5_in l D cI cC cS tt wh WH hWH_ 0 0 (show (0 : Int32).toInt = 0 from by decide) 1 1 (show (1 : Int32).toInt = 1 from by decide)) (va_cwS 3 hts gX5_best_X5_in rfl rfl rfl (by decide +kernel) ⟨Nat.le_of_ble_eq_true rfl, Nat.le_of_ble_eq_true rfl⟩) ⟨x_blindR, x_preR (hP.sub (ws' := []) [] rfl) hK hE hS⟩ rfl rfl hl.1 rfl (lv_room (Nat.le_of_ble_eq_true rfl)) dX5_best_15 ⟨(Nat.le_of_ble_eq_true rfl), (Nat.le_of_ble_eq_true rfl)⟩) ?_
    refine x_ifB_ne (tgt := 24) hx hb dX5_best_18 (by decide) (fun c_18 => ?_) (fun c_18 => ?_)
    · skip
      refine lv_iconst (v := 0) hx hb dX5_best_24 (by decide) ?_
      refine lv_istore_n (lv' := [(3, .int 0), (0, .ref mm), (1, .int ti), (2, .int wh)]) hx hb dX5_best_25 rfl hl (by decide) rfl (fun ls hl => ?_)
      refine lv_iconst (v := 1) hx hb dX5_best_26 (by decide) ?_
      refine lv_istore (lv' := [(4, .int 1), (3, .int 0), (0, .ref mm), (1, .int ti), (2, .int wh)]) hx hb dX5_best_27 hl (by decide) rfl (fun ls hl => ?_)
      have L29 : ∀ (fuel : Nat) (pl : Nat) (b : Nat), (1 ≤ pl) → (pl ≤ 25) → (b = bsN (dfv D1 S1 TI.toNat) (pl - 1)) → 25 - pl < fuel → ∀ (ls : Array Slot), lv_has ls 6 [(0, .ref mm), (1, .int ti), (2, .int wh), (3, .int (nI b)), (4, .int (nI pl))] → W p l e (headSpec wsX5_best ({ frames := 4, cells := 0, slots := 0, locals := 96 } : Room)).room s m ([.ref mm, .int ti, .int wh] : List Value).toArray below meth c s.heap [] 0 0 Q (F0 m 29 ls []) := by
        intro fuel
        induction fuel with
        | zero =>
          intro pl b hi29_0 hi29_1 hi29_2 hfu
          exact absurd hfu (Nat.not_lt_zero _)
        | succ fuel ih29 =>
          intro pl b hi29_0 hi29_1 hi29_2 hfu29 ls hl
          refine lv_iload hx hb dX5_best_29 (lv_at hl 4 rfl) ?_
          refine lv_bipush (v := 25) hx hb dX5_best_31 (by decide) ?_
          refine x_icmp_ge (tgt := 76) hx hb dX5_best_33 (by decide) (X := ((pl : Nat) : Int)) (nI_toI (by omega)) (Y := 25) (show (25 : Int32).toInt = 25 from by decide) (fun c_33 => ?_) (fun c_33 => ?_)
          · skip
            have hwb : wIn TI.toNat b := by rw [hi29_2]; exact bsN_in hh0 hh1 (by omega) _
            have hX9 := dfv_b hh0 hh1 hwb
            have b24 := bsN_le (dfv D1 S1 TI.toNat) (pl - 1)
            have hb9 : b = bsN (dfv D1 S1 TI.toNat) 24 := by rw [hi29_2, show pl - 1 = 24 by omega]
            refine lv_iload_n hx hb dX5_best_76 rfl (lv_at hl 2 rfl) ?_
            refine x_if_ne (tgt := 84) hx hb dX5_best_77 (by decide) (X := WH) hWH_ (fun c_77 => ?_) (fun c_77 => ?_)
            · skip
              refine lv_aload_n hx hb dX5_best_84 rfl (lv_at hl 0 rfl) ?_
              refine lv_iload_n hx hb dX5_best_85 rfl (lv_at hl 1 rfl) ?_
              refine x_eqi (show ti = nI (TI.toNat) from x_eqN hTI_ (by omega)) ?_
              refine lv_iload_n hx hb dX5_best_86 rfl (lv_at hl 3 rfl) ?_
              refine x_callR (va_runV (As := [.int (nI (TI.toNat)), .int (nI b)]) (rest := []) ⟨hx, hb, hml, hown, hts⟩ (c_X5_apartBy l D cI cC cS tt mm mn mh ms mr md mo mc mt mq kp fl ty at9 nu D1 S1 R1 N1 K1 L1 TI.toNat b (by first | omega | assumption | decide) (by first | omega | assumption | decide)) (cwV 2 hts gX5_best_X5_apartBy rfl rfl rfl (by decide +kernel) ⟨Nat.le_of_ble_eq_true rfl, Nat.le_of_ble_eq_true rfl⟩) ⟨x_blindR, va_recv hK hP (ci := 5) (q0 := 0) rfl rfl, x_preR (hP.sub (ws' := [(mm, .inr (5, [.ref mn, .ref mh, .int kp, .ref ms, .int fl, .ref mr, .ref md, .ref mo, .ref mc, .int ty, .ref mt, .int at9, .int nu, .ref mq])), (mn, .inl (cI, 578, .inl (mkM D1 S1 R1 N1 K1 L1))), (mr, .inl (cI, 25, .inl (x_srF))), (md, .inl (cI, 25, .inl (x_sdF)))]) [0, 1, 2, 3] rfl) hK hE hS⟩ rfl rfl hl.1 rfl (lv_room (Nat.le_of_ble_eq_true rfl)) dX5_best_87 ⟨(Nat.le_of_ble_eq_true rfl), (Nat.le_of_ble_eq_true rfl)⟩) ?_
              refine x_eqi (show dfw D1 S1 TI.toNat b = dfv D1 S1 TI.toNat b from (dfw_e hwb)) ?_
              exact x_iretR hQ hx hb hr hlocks (by unfold btR; rw [if_pos (by omega), if_pos (by omega), hb9]; first | rw [if_pos (by omega)] | rw [if_neg (by omega)]) dX5_best_90
            · skip
              refine lv_iload_n hx hb dX5_best_80 rfl (lv_at hl 3 rfl) ?_
              refine lv_goto (tgt := 90) hx hb dX5_best_81 (by decide) ?_
              exact x_iretR hQ hx hb hr hlocks (by unfold btR; rw [if_pos (by omega), if_pos (by omega), hb9]; first | rw [if_pos (by omega)] | rw [if_neg (by omega)]) dX5_best_90
          · skip
            have hwb : wIn TI.toNat b := by rw [hi29_2]; exact bsN_in hh0 hh1 (by omega) _
            have hX9 := dfv_b hh0 hh1 hwb
            have b24 := bsN_le (dfv D1 S1 TI.toNat) (pl - 1)
            refine lv_aload_n hx hb dX5_best_36 rfl (lv_at hl 0 rfl) ?_
            refine lv_iload_n hx hb dX5_best_37 rfl (lv_at hl 1 rfl) ?_
            refine x_eqi (show ti = nI (TI.toNat) from x_eqN hTI_ (by omega)) ?_
            refine lv_iload hx hb dX5_best_38 (lv_at hl 4 rfl) ?_
            refine x_callR (va_runV (As := [.int (nI (TI.toNat)), .int (nI pl)]) (rest := []) ⟨hx, hb, hml, hown, hts⟩ (c_X5_apartBy l D cI cC cS tt mm mn mh ms mr md mo mc mt mq kp fl ty at9 nu D1 S1 R1 N1 K1 L1 TI.toNat pl (by first | omega | assumption | decide) (by first | omega | assumption | decide)) (cwV 2 hts gX5_best_X5_apartBy rfl rfl rfl (by decide +kernel) ⟨Nat.le_of_ble_eq_true rfl, Nat.le_of_ble_eq_true rfl⟩) ⟨x_blindR, va_recv hK hP (ci := 5) (q0 := 0) rfl rfl, x_preR (hP.sub (ws' := [(mm, .inr (5, [.ref mn, .ref mh, .int kp, .ref ms, .int fl, .ref mr, .ref md, .ref mo, .ref mc, .int ty, .ref mt, .int at9, .int nu, .ref mq])), (mn, .inl (cI, 578, .inl (mkM D1 S1 R1 N1 K1 L1))), (mr, .inl (cI, 25, .inl (x_srF))), (md, .inl (cI, 25, .inl (x_sdF)))]) [0, 1, 2, 3] rfl) hK hE hS⟩ rfl rfl hl.1 rfl (lv_room (Nat.le_of_ble_eq_true rfl)) dX5_best_40 ⟨(Nat.le_of_ble_eq_true rfl), (Nat.le_of_ble_eq_true rfl)⟩) ?_
            refine lv_istore (lv' := [(5, .int (dfw D1 S1 TI.toNat pl)), (0, .ref mm), (1, .int ti), (2, .int wh), (3, .int (nI b)), (4, .int (nI pl))]) hx hb dX5_best_43 hl (by decide) rfl (fun ls hl => ?_)
            refine lv_iload hx hb dX5_best_45 (lv_at hl 0 rfl) ?_
            refine lv_bipush (v := (-5)) hx hb dX5_best_47 (by decide) ?_
            refine x_icmp_eq (tgt := 68) hx hb dX5_best_49 (by decide) (X := (dfw D1 S1 TI.toNat pl).toInt) rfl (Y := (-5)) (show (-5 : Int32).toInt = -5 from by decide) (fun c_49 => ?_) (fun c_49 => ?_)
            · skip
              refine lv_iload_n hx hb dX5_best_68 rfl (lv_at hl 4 rfl) ?_
              refine lv_istore_n (lv' := [(3, .int (nI b)), (5, .int (dfw D1 S1 TI.toNat pl)), (0, .ref mm), (1, .int ti), (2, .int wh), (4, .int (nI pl))]) hx hb dX5_best_69 rfl hl (by decide) rfl (fun ls hl => ?_)
              refine lv_iinc (v := nI (pl + 1)) (lv' := [(4, .int (nI (pl + 1))), (3, .int (nI b)), (5, .int (dfw D1 S1 TI.toNat pl)), (0, .ref mm), (1, .int ti), (2, .int wh)]) hx hb dX5_best_70 hl (k := 5) rfl (nI_add _ _) (by decide) rfl (fun ls hl => ?_)
              refine lv_goto (tgt := 29) hx hb dX5_best_73 (by decide) ?_
              exact ih29 (pl + 1) b (by first | omega | assumption | rfl) (by first | omega | assumption | rfl) (by rw [show pl + 1 - 1 = pl by omega, bsN_s (by omega), ← hi29_2]; first | rw [if_pos ((dfw_lt hh0 hh1 hX9.2).mp ⟨c_49, c_60⟩)] | rw [if_neg (fun z => by have z2 := (dfw_lt hh0 hh1 hX9.2).mpr z; omega)]) (by omega) ls (lv_sub hl [3, 4, 5, 1, 0] rfl)
            · skip
              refine lv_iload hx hb dX5_best_52 (lv_at hl 0 rfl) ?_
              refine lv_aload_n hx hb dX5_best_54 rfl (lv_at hl 1 rfl) ?_
              refine lv_iload_n hx hb dX5_best_55 rfl (lv_at hl 2 rfl) ?_
              refine x_eqi (show ti = nI (TI.toNat) from x_eqN hTI_ (by omega)) ?_
              refine lv_iload_n hx hb dX5_best_56 rfl (lv_at hl 4 rfl) ?_
              refine x_callR (va_runV (As := [.int (nI (TI.toNat)), .int (nI b)]) (rest := [.int (dfw D1 S1 TI.toNat pl)]) ⟨hx, hb, hml, hown, hts⟩ (c_X5_apartBy l D cI cC cS tt mm mn mh ms mr md mo mc mt mq kp fl ty at9 nu D1 S1 R1 N1 K1 L1 TI.toNat b (by first | omega | assumption | decide) (by first | omega | assumption | decide)) (cwV 2 hts gX5_best_X5_apartBy rfl rfl rfl (by decide +kernel) ⟨Nat.le_of_ble_eq_true rfl, Nat.le_of_ble_eq_true rfl⟩) ⟨x_blindR, va_recv hK hP (ci := 5) (q0 := 0) rfl rfl, x_preR (hP.sub (ws' := [(mm, .inr (5, [.ref mn, .ref mh, .int kp, .ref ms, .int fl, .ref mr, .ref md, .ref mo, .ref mc, .int ty, .ref mt, .int at9, .int nu, .ref mq])), (mn, .inl (cI, 578, .inl (mkM D1 S1 R1 N1 K1 L1))), (mr, .inl (cI, 25, .inl (x_srF))), (md, .inl (cI, 25, .inl (x_sdF)))]) [0, 1, 2, 3] rfl) hK hE hS⟩ rfl rfl hl.1 rfl (lv_room (Nat.le_of_ble_eq_true rfl)) dX5_best_57 ⟨(Nat.le_of_ble_eq_true rfl), (Nat.le_of_ble_eq_true rfl)⟩) ?_
              refine x_eqi (show dfw D1 S1 TI.toNat b = dfv D1 S1 TI.toNat b from (dfw_e hwb)) ?_
              refine x_icmp_ge (tgt := 68) hx hb dX5_best_60 (by decide) (X := (dfw D1 S1 TI.toNat pl).toInt) rfl (Y := (dfv D1 S1 TI.toNat b).toInt) rfl (fun c_60 => ?_) (fun c_60 => ?_)
              · skip
                refine lv_iload_n hx hb dX5_best_68 rfl (lv_at hl 4 rfl) ?_
                refine lv_istore_n (lv' := [(3, .int (nI b)), (5, .int (dfw D1 S1 TI.toNat pl)), (0, .ref mm), (1, .int ti), (2, .int wh), (4, .int (nI pl))]) hx hb dX5_best_69 rfl hl (by decide) rfl (fun ls hl => ?_)
                refine lv_iinc (v := nI (pl + 1)) (lv' := [(4, .int (nI (pl + 1))), (3, .int (nI b)), (5, .int (dfw D1 S1 TI.toNat pl)), (0, .ref mm), (1, .int ti), (2, .int wh)]) hx hb dX5_best_70 hl (k := 5) rfl (nI_add _ _) (by decide) rfl (fun ls hl => ?_)
                refine lv_goto (tgt := 29) hx hb dX5_best_73 (by decide) ?_
                exact ih29 (pl + 1) b (by first | omega | assumption | rfl) (by first | omega | assumption | rfl) (by rw [show pl + 1 - 1 = pl by omega, bsN_s (by omega), ← hi29_2]; first | rw [if_pos ((dfw_lt hh0 hh1 hX9.2).mp ⟨c_49, c_60⟩)] | rw [if_neg (fun z => by have z2 := (dfw_lt hh0 hh1 hX9.2).mpr z; omega)]) (by omega) ls (lv_sub hl [3, 4, 5, 1, 0] rfl)
              · skip
                refine lv_iload hx hb dX5_best_63 (lv_at hl 5 rfl) ?_
                refine lv_goto (tgt := 69) hx hb dX5_best_65 (by decide) ?_
                refine lv_istore_n (lv' := [(3, .int (nI pl)), (5, .int (dfw D1 S1 TI.toNat pl)), (0, .ref mm), (1, .int ti), (2, .int wh), (4, .int (nI pl))]) hx hb dX5_best_69 rfl hl (by decide) rfl (fun ls hl => ?_)
                refine lv_iinc (v := nI (pl + 1)) (lv' := [(4, .int (nI (pl + 1))), (3, .int (nI pl)), (5, .int (dfw D1 S1 TI.toNat pl)), (0, .ref mm), (1, .int ti), (2, .int wh)]) hx hb dX5_best_70 hl (k := 5) rfl (nI_add _ _) (by decide) rfl (fun ls hl => ?_)
                refine lv_goto (tgt := 29) hx hb dX5_best_73 (by decide) ?_
                exact ih29 (pl + 1) pl (by first | omega | assumption | rfl) (by first | omega | assumption | rfl) (by rw [show pl + 1 - 1 = pl by omega, bsN_s (by omega), ← hi29_2]; first | rw [if_pos ((dfw_lt hh0 hh1 hX9.2).mp ⟨c_49, c_60⟩)] | rw [if_neg (fun z => by have z2 := (dfw_lt hh0 hh1 hX9.2).mpr z; omega)]) (by omega) ls (lv_sub hl [3, 4, 5, 1, 0] rfl)
      exact L29 _ 1 0 (by first | omega | assumption | rfl) (by first | omega | assumption | rfl) rfl (Nat.lt_succ_self _) ls (lv_sub hl [2, 3, 4, 1, 0] rfl)
    · skip
      refine lv_bipush (v := (-2)) hx hb dX5_best_21 (by decide) ?_
      exact x_iretR hQ hx hb hr hlocks (by unfold btR; rw [if_pos (by omega), if_neg (by omega)]) dX5_best_23
  · skip
    refine lv_iconst (v := (-1)) hx hb dX5_best_10 (by decide) ?_
    exact x_iretR hQ hx hb hr hlocks (by unfold btR; rw [if_neg (by omega)]) dX5_best_11
set_option maxHeartbeats 4000000 in
set_option maxRecDepth 100000 in
theorem c_X5_frame (l : Launch) (D : va_G) (cI cC cS : ClassId) (tt : Nat → Nat) (mm : Nat) (mn : Nat) (mh : Nat) (ms : Nat) (mr : Nat) (md : Nat) (mo : Nat) (mc : Nat) (mt : Nat) (mq : Nat) (kp : Int32) (fl : Int32) (ty : Int32) (at9 : Int32) (nu : Int32) (D1 : Nat → Int32) (S1 : Nat → Int32) (R1 : Nat → Int32) (N1 : Nat → Int32) (kn : Nat) (L1 : Nat → Int32) (bk : Int32) (BK : Int) (hBK_ : bk.toInt = BK) (wh : Int32) (WH : Int) (hWH_ : wh.toInt = WH) (hh0 : kn ≤ 8) : Met l yX5_frame wsX5_frame ({ frames := 1, cells := 0, slots := 0, locals := 22 } : Room) (x_PR D cI cC cS tt [(mm, .inr (5, [.ref mn, .ref mh, .int kp, .ref ms, .int fl, .ref mr, .ref md, .ref mo, .ref mc, .int ty, .ref mt, .int at9, .int nu, .ref mq])), (mn, .inl (cI, 578, .inl (mkM D1 S1 R1 N1 (nI kn) L1)))] [.ref mm, .int bk, .int wh]) (QcRead (frM L1 kn BK WH)) 0 0 (fun _ => False) := by
  refine Met.ofW (cc := cX5_frame) (maxL := 3) (ret := (some .int)) (by decide) rfl ?_
  intro p e s m args below meth c s₁ hBd hml hv
  obtain ⟨rfl, hP, hK, hE⟩ := hv
  have hx := hBd.exec
  have hb := hBd.bytes
  have hr := hBd.returns
  have hts := atoms_spec (ws := wsX5_frame) hBd.pre
  have hown : s.vm.findClass RX5 = some m.cls := findClass_of_methodNamed hBd.named
  have hlocks := hBd.notSynchronized
  have hS : va_S (fun _ => False) s.heap s.heap [] := va_S.rf
  have hl := lv_entry ([.ref mm, .int bk, .int wh]) (n := 3) (Nat.le_of_ble_eq_true rfl)
  rw [lg_entry_eq]
  generalize (lg_sl ([.ref mm, .int bk, .int wh]) ++ List.replicate (3 - (lg_sl ([.ref mm, .int bk, .int wh])).length) Slot.unset).toArray = ls at hl ⊢
  have hl : lv_has ls 3 [(0, .ref mm), (1, .int bk), (2, .int wh)] := hl
  refine x_genQ (fun Q hQ => ?_)
  refine lv_iload_n hx hb dX5_frame_0 rfl (lv_at hl 1 rfl) ?_
  refine x_if_lt (tgt := 14) hx hb dX5_frame_1 (by decide) (X := BK) hBK_ (fun c_1 => ?_) (fun c_1 => ?_)
  · skip
    refine lv_bipush (v := (-2)) hx hb dX5_frame_14 (by decide) ?_
    exact x_iretR hQ hx hb hr hlocks (by unfold frM; rw [if_neg (by omega)]) dX5_frame_16
  · skip
    refine lv_iload_n hx hb dX5_frame_4 rfl (lv_at hl 2 rfl) ?_
    refine lv_iconst (v := 0) hx hb dX5_frame_5 (by decide) ?_
    refine lv_bipush (v := 7) hx hb dX5_frame_6 (by decide) ?_
    refine x_callR (va_runS (As := [.int wh, .int 0, .int 7]) (rest := []) ⟨hx, hb, hml, hown, hts⟩ (c_X5_in l D cI cC cS tt wh WH hWH_ 0 0 (show (0 : Int32).toInt = 0 from by decide) 7 7 (show (7 : Int32).toInt = 7 from by decide)) (va_cwS 3 hts gX5_frame_X5_in rfl rfl rfl (by decide +kernel) ⟨Nat.le_of_ble_eq_true rfl, Nat.le_of_ble_eq_true rfl⟩) ⟨x_blindR, x_preR (hP.sub (ws' := []) [] rfl) hK hE hS⟩ rfl rfl hl.1 rfl (lv_room (Nat.le_of_ble_eq_true rfl)) dX5_frame_8 ⟨(Nat.le_of_ble_eq_true rfl), (Nat.le_of_ble_eq_true rfl)⟩) ?_
    refine x_ifB_ne (tgt := 17) hx hb dX5_frame_11 (by decide) (fun c_11 => ?_) (fun c_11 => ?_)
    · skip
      refine lv_iload_n hx hb dX5_frame_17 rfl (lv_at hl 1 rfl) ?_
      refine lv_aload_n hx hb dX5_frame_18 rfl (lv_at hl 0 rfl) ?_
      refine va_get (v := .ref mn) (D := D) (ci := 5) (C := RX5) (T := TX5) (N := 14) hx hb hts (by decide +kernel) hown hK hP 0 rfl rfl 0 (by decide) (hts (.fieldLink RX5 7 "SpiralFramesModel" "now" "[I") (by decide +kernel)) (fun _ h9 => h9) rfl dX5_frame_19 ?_
      refine lv_sipush (v := 441) hx hb dX5_frame_22 (by decide) ?_
      refine x_eqi (show (441 : Int32) = nI 441 from by decide) ?_
      refine x_iald hx hb hK hP 1 0 rfl rfl (k := 441) (by omega) (by decide) dX5_frame_25 ?_
      refine x_eqi (show (mkM D1 S1 R1 N1 (nI kn) L1) 441 = (nI kn) from (mkM_K (by omega))) ?_
      refine x_icmp_ge (tgt := 58) hx hb dX5_frame_26 (by decide) (X := BK) hBK_ (Y := ((kn : Nat) : Int)) (nI_toI (by omega)) (fun c_26 => ?_) (fun c_26 => ?_)
      · skip
        refine lv_bipush (v := (-5)) hx hb dX5_frame_58 (by decide) ?_
        exact x_iretR hQ hx hb hr hlocks (by unfold frM; rw [if_pos (by omega)]; first | rw [if_pos (by omega)] | rw [if_neg (by omega)]) dX5_frame_60
      · skip
        refine lv_aload_n hx hb dX5_frame_29 rfl (lv_at hl 0 rfl) ?_
        refine va_get (v := .ref mn) (D := D) (ci := 5) (C := RX5) (T := TX5) (N := 14) hx hb hts (by decide +kernel) hown hK hP 0 rfl rfl 0 (by decide) (hts (.fieldLink RX5 7 "SpiralFramesModel" "now" "[I") (by decide +kernel)) (fun _ h9 => h9) rfl dX5_frame_30 ?_
        refine lv_sipush (v := 442) hx hb dX5_frame_33 (by decide) ?_
        refine lv_bipush (v := 17) hx hb dX5_frame_36 (by decide) ?_
        refine lv_aload_n hx hb dX5_frame_38 rfl (lv_at hl 0 rfl) ?_
        refine va_get (v := .ref mn) (D := D) (ci := 5) (C := RX5) (T := TX5) (N := 14) hx hb hts (by decide +kernel) hown hK hP 0 rfl rfl 0 (by decide) (hts (.fieldLink RX5 7 "SpiralFramesModel" "now" "[I") (by decide +kernel)) (fun _ h9 => h9) rfl dX5_frame_39 ?_
        refine lv_sipush (v := 441) hx hb dX5_frame_42 (by decide) ?_
        refine x_eqi (show (441 : Int32) = nI 441 from by decide) ?_
        refine x_iald hx hb hK hP 1 0 rfl rfl (k := 441) (by omega) (by decide) dX5_frame_45 ?_
        refine x_eqi (show (mkM D1 S1 R1 N1 (nI kn) L1) 441 = (nI kn) from (mkM_K (by omega))) ?_
        refine lv_iconst (v := 1) hx hb dX5_frame_46 (by decide) ?_
        refine lv_isub hx hb dX5_frame_47 ?_
        refine lv_iload_n hx hb dX5_frame_48 rfl (lv_at hl 1 rfl) ?_
        refine lv_isub hx hb dX5_frame_49 ?_
        refine lv_imul hx hb dX5_frame_50 ?_
        refine lv_iadd hx hb dX5_frame_51 ?_
        refine lv_iload_n hx hb dX5_frame_52 rfl (lv_at hl 2 rfl) ?_
        refine lv_iadd hx hb dX5_frame_53 ?_
        refine x_eqi (show (442 + (17 * (((nI kn) - 1) - bk))) + wh = nI ((((442 + (17 * ((((kn : Nat) : Int) - 1) - BK))) + WH)).toNat) from x_toNat (x_addI (x_addI (show (442 : Int32).toInt = 442 from by decide) (x_mulI (show (17 : Int32).toInt = 17 from by decide) (x_subI (x_subI (nI_toI (by omega)) (show (1 : Int32).toInt = 1 from by decide) (by omega) (by omega)) hBK_ (by omega) (by omega)) (by omega) (by omega)) (by omega) (by omega)) hWH_ (by omega) (by omega)) (by omega)) ?_
        refine x_iald hx hb hK hP 1 0 rfl rfl (k := (((442 + (17 * ((((kn : Nat) : Int) - 1) - BK))) + WH)).toNat) (by omega) (by decide) dX5_frame_54 ?_
        refine x_eqi (show (mkM D1 S1 R1 N1 (nI kn) L1) ((((442 + (17 * ((((kn : Nat) : Int) - 1) - BK))) + WH)).toNat) = L1 (17 * (kn - 1 - BK.toNat) + WH.toNat) from (mkM_L (j := (17 * (kn - 1 - BK.toNat) + WH.toNat)) (by omega) (by omega))) ?_
        refine lv_goto (tgt := 60) hx hb dX5_frame_55 (by decide) ?_
        exact x_iretR hQ hx hb hr hlocks (by unfold frM; rw [if_pos (by omega)]; first | rw [if_pos (by omega)] | rw [if_neg (by omega)]) dX5_frame_60
    · skip
      refine lv_bipush (v := (-2)) hx hb dX5_frame_14 (by decide) ?_
      exact x_iretR hQ hx hb hr hlocks (by unfold frM; rw [if_neg (by omega)]) dX5_frame_16
set_option maxHeartbeats 4000000 in
set_option maxRecDepth 100000 in
theorem c_X5_sent (l : Launch) (D : va_G) (cI cC cS : ClassId) (tt : Nat → Nat) (mm : Nat) (mn : Nat) (mh : Nat) (ms : Nat) (mr : Nat) (md : Nat) (mo : Nat) (mc : Nat) (mt : Nat) (mq : Nat) (kp : Int32) (fl : Int32) (ty : Int32) (at9 : Int32) (nu : Int32) (D1 : Nat → Int32) (S1 : Nat → Int32) (R1 : Nat → Int32) (N1 : Nat → Int32) (kn : Nat) (L1 : Nat → Int32) (bk : Int32) (BK : Int) (hBK_ : bk.toInt = BK) (ti : Int32) (TI : Int) (hTI_ : ti.toInt = TI) (hh0 : kn ≤ 8) : Met l yX5_sent wsX5_sent ({ frames := 1, cells := 0, slots := 0, locals := 22 } : Room) (x_PR D cI cC cS tt [(mm, .inr (5, [.ref mn, .ref mh, .int kp, .ref ms, .int fl, .ref mr, .ref md, .ref mo, .ref mc, .int ty, .ref mt, .int at9, .int nu, .ref mq])), (mn, .inl (cI, 578, .inl (mkM D1 S1 R1 N1 (nI kn) L1)))] [.ref mm, .int bk, .int ti]) (QcRead (seM L1 kn BK TI)) 0 0 (fun _ => False) := by
  refine Met.ofW (cc := cX5_sent) (maxL := 3) (ret := (some .int)) (by decide) rfl ?_
  intro p e s m args below meth c s₁ hBd hml hv
  obtain ⟨rfl, hP, hK, hE⟩ := hv
  have hx := hBd.exec
  have hb := hBd.bytes
  have hr := hBd.returns
  have hts := atoms_spec (ws := wsX5_sent) hBd.pre
  have hown : s.vm.findClass RX5 = some m.cls := findClass_of_methodNamed hBd.named
  have hlocks := hBd.notSynchronized
  have hS : va_S (fun _ => False) s.heap s.heap [] := va_S.rf
  have hl := lv_entry ([.ref mm, .int bk, .int ti]) (n := 3) (Nat.le_of_ble_eq_true rfl)
  rw [lg_entry_eq]
  generalize (lg_sl ([.ref mm, .int bk, .int ti]) ++ List.replicate (3 - (lg_sl ([.ref mm, .int bk, .int ti])).length) Slot.unset).toArray = ls at hl ⊢
  have hl : lv_has ls 3 [(0, .ref mm), (1, .int bk), (2, .int ti)] := hl
  refine x_genQ (fun Q hQ => ?_)
  refine lv_iload_n hx hb dX5_sent_0 rfl (lv_at hl 1 rfl) ?_
  refine x_if_ge (tgt := 7) hx hb dX5_sent_1 (by decide) (X := BK) hBK_ (fun c_1 => ?_) (fun c_1 => ?_)
  · skip
    refine lv_iload_n hx hb dX5_sent_7 rfl (lv_at hl 2 rfl) ?_
    refine lv_iconst (v := 0) hx hb dX5_sent_8 (by decide) ?_
    refine lv_bipush (v := 8) hx hb dX5_sent_9 (by decide) ?_
    refine x_callR (va_runS (As := [.int ti, .int 0, .int 8]) (rest := []) ⟨hx, hb, hml, hown, hts⟩ (c_X5_in l D cI cC cS tt ti TI hTI_ 0 0 (show (0 : Int32).toInt = 0 from by decide) 8 8 (show (8 : Int32).toInt = 8 from by decide)) (va_cwS 3 hts gX5_sent_X5_in rfl rfl rfl (by decide +kernel) ⟨Nat.le_of_ble_eq_true rfl, Nat.le_of_ble_eq_true rfl⟩) ⟨x_blindR, x_preR (hP.sub (ws' := []) [] rfl) hK hE hS⟩ rfl rfl hl.1 rfl (lv_room (Nat.le_of_ble_eq_true rfl)) dX5_sent_11 ⟨(Nat.le_of_ble_eq_true rfl), (Nat.le_of_ble_eq_true rfl)⟩) ?_
    refine x_ifB_ne (tgt := 19) hx hb dX5_sent_14 (by decide) (fun c_14 => ?_) (fun c_14 => ?_)
    · skip
      refine lv_iload_n hx hb dX5_sent_19 rfl (lv_at hl 1 rfl) ?_
      refine lv_aload_n hx hb dX5_sent_20 rfl (lv_at hl 0 rfl) ?_
      refine va_get (v := .ref mn) (D := D) (ci := 5) (C := RX5) (T := TX5) (N := 14) hx hb hts (by decide +kernel) hown hK hP 0 rfl rfl 0 (by decide) (hts (.fieldLink RX5 7 "SpiralFramesModel" "now" "[I") (by decide +kernel)) (fun _ h9 => h9) rfl dX5_sent_21 ?_
      refine lv_sipush (v := 441) hx hb dX5_sent_24 (by decide) ?_
      refine x_eqi (show (441 : Int32) = nI 441 from by decide) ?_
      refine x_iald hx hb hK hP 1 0 rfl rfl (k := 441) (by omega) (by decide) dX5_sent_27 ?_
      refine x_eqi (show (mkM D1 S1 R1 N1 (nI kn) L1) 441 = (nI kn) from (mkM_K (by omega))) ?_
      refine x_icmp_ge (tgt := 63) hx hb dX5_sent_28 (by decide) (X := BK) hBK_ (Y := ((kn : Nat) : Int)) (nI_toI (by omega)) (fun c_28 => ?_) (fun c_28 => ?_)
      · skip
        refine lv_bipush (v := (-5)) hx hb dX5_sent_63 (by decide) ?_
        exact x_iretR hQ hx hb hr hlocks (by unfold seM; rw [if_pos (by omega), if_pos (by omega)]; first | rw [if_pos (by omega)] | rw [if_neg (by omega)]) dX5_sent_65
      · skip
        refine lv_aload_n hx hb dX5_sent_31 rfl (lv_at hl 0 rfl) ?_
        refine va_get (v := .ref mn) (D := D) (ci := 5) (C := RX5) (T := TX5) (N := 14) hx hb hts (by decide +kernel) hown hK hP 0 rfl rfl 0 (by decide) (hts (.fieldLink RX5 7 "SpiralFramesModel" "now" "[I") (by decide +kernel)) (fun _ h9 => h9) rfl dX5_sent_32 ?_
        refine lv_sipush (v := 442) hx hb dX5_sent_35 (by decide) ?_
        refine lv_bipush (v := 17) hx hb dX5_sent_38 (by decide) ?_
        refine lv_aload_n hx hb dX5_sent_40 rfl (lv_at hl 0 rfl) ?_
        refine va_get (v := .ref mn) (D := D) (ci := 5) (C := RX5) (T := TX5) (N := 14) hx hb hts (by decide +kernel) hown hK hP 0 rfl rfl 0 (by decide) (hts (.fieldLink RX5 7 "SpiralFramesModel" "now" "[I") (by decide +kernel)) (fun _ h9 => h9) rfl dX5_sent_41 ?_
        refine lv_sipush (v := 441) hx hb dX5_sent_44 (by decide) ?_
        refine x_eqi (show (441 : Int32) = nI 441 from by decide) ?_
        refine x_iald hx hb hK hP 1 0 rfl rfl (k := 441) (by omega) (by decide) dX5_sent_47 ?_
        refine x_eqi (show (mkM D1 S1 R1 N1 (nI kn) L1) 441 = (nI kn) from (mkM_K (by omega))) ?_
        refine lv_iconst (v := 1) hx hb dX5_sent_48 (by decide) ?_
        refine lv_isub hx hb dX5_sent_49 ?_
        refine lv_iload_n hx hb dX5_sent_50 rfl (lv_at hl 1 rfl) ?_
        refine lv_isub hx hb dX5_sent_51 ?_
        refine lv_imul hx hb dX5_sent_52 ?_
        refine lv_iadd hx hb dX5_sent_53 ?_
        refine lv_bipush (v := 8) hx hb dX5_sent_54 (by decide) ?_
        refine lv_iadd hx hb dX5_sent_56 ?_
        refine lv_iload_n hx hb dX5_sent_57 rfl (lv_at hl 2 rfl) ?_
        refine lv_iadd hx hb dX5_sent_58 ?_
        refine x_eqi (show ((442 + (17 * (((nI kn) - 1) - bk))) + 8) + ti = nI (((((442 + (17 * ((((kn : Nat) : Int) - 1) - BK))) + 8) + TI)).toNat) from x_toNat (x_addI (x_addI (x_addI (show (442 : Int32).toInt = 442 from by decide) (x_mulI (show (17 : Int32).toInt = 17 from by decide) (x_subI (x_subI (nI_toI (by omega)) (show (1 : Int32).toInt = 1 from by decide) (by omega) (by omega)) hBK_ (by omega) (by omega)) (by omega) (by omega)) (by omega) (by omega)) (show (8 : Int32).toInt = 8 from by decide) (by omega) (by omega)) hTI_ (by omega) (by omega)) (by omega)) ?_
        refine x_iald hx hb hK hP 1 0 rfl rfl (k := ((((442 + (17 * ((((kn : Nat) : Int) - 1) - BK))) + 8) + TI)).toNat) (by omega) (by decide) dX5_sent_59 ?_
        refine x_eqi (show (mkM D1 S1 R1 N1 (nI kn) L1) (((((442 + (17 * ((((kn : Nat) : Int) - 1) - BK))) + 8) + TI)).toNat) = L1 (17 * (kn - 1 - BK.toNat) + (8 + TI.toNat)) from (mkM_L (j := (17 * (kn - 1 - BK.toNat) + (8 + TI.toNat))) (by omega) (by omega))) ?_
        refine lv_goto (tgt := 65) hx hb dX5_sent_60 (by decide) ?_
        exact x_iretR hQ hx hb hr hlocks (by unfold seM; rw [if_pos (by omega), if_pos (by omega)]; first | rw [if_pos (by omega)] | rw [if_neg (by omega)]) dX5_sent_65
    · skip
      refine lv_iconst (v := (-1)) hx hb dX5_sent_17 (by decide) ?_
      exact x_iretR hQ hx hb hr hlocks (by unfold seM; rw [if_pos (by omega), if_neg (by omega)]) dX5_sent_18
  · skip
    refine lv_bipush (v := (-2)) hx hb dX5_sent_4 (by decide) ?_
    exact x_iretR hQ hx hb hr hlocks (by unfold seM; rw [if_neg (by omega)]) dX5_sent_6
set_option maxHeartbeats 4000000 in
set_option maxRecDepth 100000 in
theorem c_X5_pointsApart (l : Launch) (D : va_G) (cI cC cS : ClassId) (tt : Nat → Nat) (mm : Nat) (mn : Nat) (mh : Nat) (ms : Nat) (mr : Nat) (md : Nat) (mo : Nat) (mc : Nat) (mt : Nat) (mq : Nat) (kp : Int32) (fl : Int32) (ty : Int32) (at9 : Int32) (nu : Int32) (D1 : Nat → Int32) (S1 : Nat → Int32) (R1 : Nat → Int32) (N1 : Nat → Int32) (K1 : Int32) (L1 : Nat → Int32) : Met l yX5_pointsApart wsX5_pointsApart ({ frames := 0, cells := 0, slots := 0, locals := 0 } : Room) (x_PR D cI cC cS tt [(mm, .inr (5, [.ref mn, .ref mh, .int kp, .ref ms, .int fl, .ref mr, .ref md, .ref mo, .ref mc, .int ty, .ref mt, .int at9, .int nu, .ref mq])), (mn, .inl (cI, 578, .inl (mkM D1 S1 R1 N1 K1 L1)))] [.ref mm]) (QcRead (uP S1 R1)) 0 0 (fun _ => False) := by
  refine Met.ofW (cc := cX5_pointsApart) (maxL := 3) (ret := (some .int)) (by decide) rfl ?_
  intro p e s m args below meth c s₁ hBd hml hv
  obtain ⟨rfl, hP, hK, hE⟩ := hv
  have hx := hBd.exec
  have hb := hBd.bytes
  have hr := hBd.returns
  have hts := atoms_spec (ws := wsX5_pointsApart) hBd.pre
  have hown : s.vm.findClass RX5 = some m.cls := findClass_of_methodNamed hBd.named
  have hlocks := hBd.notSynchronized
  have hS : va_S (fun _ => False) s.heap s.heap [] := va_S.rf
  have hl := lv_entry ([.ref mm]) (n := 3) (Nat.le_of_ble_eq_true rfl)
  rw [lg_entry_eq]
  generalize (lg_sl ([.ref mm]) ++ List.replicate (3 - (lg_sl ([.ref mm])).length) Slot.unset).toArray = ls at hl ⊢
  have hl : lv_has ls 3 [(0, .ref mm)] := hl
  refine x_genQ (fun Q hQ => ?_)
  refine lv_iconst (v := 0) hx hb dX5_pointsApart_0 (by decide) ?_
  refine lv_istore_n (lv' := [(1, .int 0), (0, .ref mm)]) hx hb dX5_pointsApart_1 rfl hl (by decide) rfl (fun ls hl => ?_)
  refine lv_iconst (v := 0) hx hb dX5_pointsApart_2 (by decide) ?_
  refine lv_istore_n (lv' := [(2, .int 0), (1, .int 0), (0, .ref mm)]) hx hb dX5_pointsApart_3 rfl hl (by decide) rfl (fun ls hl => ?_)
  have L4 : ∀ (fuel : Nat) (j : Nat) (n : Int32), (j ≤ 144) → (n = sm (fun k => if S1 k = R1 k then 0 else 1) j) → 144 - j < fuel → ∀ (ls : Array Slot), lv_has ls 3 [(0, .ref mm), (1, .int n), (2, .int (nI j))] → W p l e (headSpec wsX5_pointsApart ({ frames := 0, cells := 0, slots := 0, locals := 0 } : Room)).room s m ([.ref mm] : List Value).toArray below meth c s.heap [] 0 0 Q (F0 m 4 ls []) := by
    intro fuel
    induction fuel with
    | zero =>
      intro j n hi4_0 hi4_1 hfu
      exact absurd hfu (Nat.not_lt_zero _)
    | succ fuel ih4 =>
      intro j n hi4_0 hi4_1 hfu4 ls hl
      refine lv_iload_n hx hb dX5_pointsApart_4 rfl (lv_at hl 2 rfl) ?_
      refine lv_sipush (v := 144) hx hb dX5_pointsApart_5 (by decide) ?_
      refine x_icmp_ge (tgt := 48) hx hb dX5_pointsApart_8 (by decide) (X := ((j : Nat) : Int)) (nI_toI (by omega)) (Y := 144) (show (144 : Int32).toInt = 144 from by decide) (fun c_8 => ?_) (fun c_8 => ?_)
      · skip
        refine lv_iload_n hx hb dX5_pointsApart_48 rfl (lv_at hl 1 rfl) ?_
        exact x_iretR hQ hx hb hr hlocks (by rw [hi4_1, show j = 144 by omega]; rfl) dX5_pointsApart_49
      · skip
        refine lv_iload_n hx hb dX5_pointsApart_11 rfl (lv_at hl 1 rfl) ?_
        refine lv_aload_n hx hb dX5_pointsApart_12 rfl (lv_at hl 0 rfl) ?_
        refine va_get (v := .ref mn) (D := D) (ci := 5) (C := RX5) (T := TX5) (N := 14) hx hb hts (by decide +kernel) hown hK hP 0 rfl rfl 0 (by decide) (hts (.fieldLink RX5 7 "SpiralFramesModel" "now" "[I") (by decide +kernel)) (fun _ h9 => h9) rfl dX5_pointsApart_13 ?_
        refine lv_sipush (v := 144) hx hb dX5_pointsApart_16 (by decide) ?_
        refine lv_iload_n hx hb dX5_pointsApart_19 rfl (lv_at hl 2 rfl) ?_
        refine lv_iadd hx hb dX5_pointsApart_20 ?_
        refine x_eqi (show 144 + nI j = nI (144 + j) from nI_add 144 j) ?_
        refine x_iald hx hb hK hP 1 0 rfl rfl (k := 144 + j) (by omega) (by decide) dX5_pointsApart_21 ?_
        refine x_eqi (show (mkM D1 S1 R1 N1 K1 L1) (144 + j) = S1 j from (mkM_S (j := j) (by omega) (by omega))) ?_
        refine lv_aload_n hx hb dX5_pointsApart_22 rfl (lv_at hl 0 rfl) ?_
        refine va_get (v := .ref mn) (D := D) (ci := 5) (C := RX5) (T := TX5) (N := 14) hx hb hts (by decide +kernel) hown hK hP 0 rfl rfl 0 (by decide) (hts (.fieldLink RX5 7 "SpiralFramesModel" "now" "[I") (by decide +kernel)) (fun _ h9 => h9) rfl dX5_pointsApart_23 ?_
        refine lv_sipush (v := 288) hx hb dX5_pointsApart_26 (by decide) ?_
        refine lv_iload_n hx hb dX5_pointsApart_29 rfl (lv_at hl 2 rfl) ?_
        refine lv_iadd hx hb dX5_pointsApart_30 ?_
        refine x_eqi (show 288 + nI j = nI (288 + j) from nI_add 288 j) ?_
        refine x_iald hx hb hK hP 1 0 rfl rfl (k := 288 + j) (by omega) (by decide) dX5_pointsApart_31 ?_
        refine x_eqi (show (mkM D1 S1 R1 N1 K1 L1) (288 + j) = R1 j from (mkM_R (j := j) (by omega) (by omega))) ?_
        refine lv_icmp_ne (tgt := 39) hx hb dX5_pointsApart_32 (by decide) (fun c_32 => ?_) (fun c_32 => ?_)
        · skip
          refine lv_iconst (v := 1) hx hb dX5_pointsApart_39 (by decide) ?_
          refine lv_iadd hx hb dX5_pointsApart_40 ?_
          refine lv_istore_n (lv' := [(1, .int (n + 1)), (0, .ref mm), (2, .int (nI j))]) hx hb dX5_pointsApart_41 rfl hl (by decide) rfl (fun ls hl => ?_)
          refine lv_iinc (v := nI (j + 1)) (lv' := [(2, .int (nI (j + 1))), (1, .int (n + 1)), (0, .ref mm)]) hx hb dX5_pointsApart_42 hl (k := 2) rfl (nI_add _ _) (by decide) rfl (fun ls hl => ?_)
          refine lv_goto (tgt := 4) hx hb dX5_pointsApart_45 (by decide) ?_
          exact ih4 (j + 1) (n + 1) (by first | omega | assumption | rfl) (by rw [sm_s, ← hi4_1]; first | rw [if_pos c_32] | rw [if_neg c_32]) (by omega) ls (lv_sub hl [2, 1, 0] rfl)
        · skip
          refine lv_iconst (v := 0) hx hb dX5_pointsApart_35 (by decide) ?_
          refine lv_goto (tgt := 40) hx hb dX5_pointsApart_36 (by decide) ?_
          refine lv_iadd hx hb dX5_pointsApart_40 ?_
          refine lv_istore_n (lv' := [(1, .int (n + 0)), (0, .ref mm), (2, .int (nI j))]) hx hb dX5_pointsApart_41 rfl hl (by decide) rfl (fun ls hl => ?_)
          refine lv_iinc (v := nI (j + 1)) (lv' := [(2, .int (nI (j + 1))), (1, .int (n + 0)), (0, .ref mm)]) hx hb dX5_pointsApart_42 hl (k := 2) rfl (nI_add _ _) (by decide) rfl (fun ls hl => ?_)
          refine lv_goto (tgt := 4) hx hb dX5_pointsApart_45 (by decide) ?_
          exact ih4 (j + 1) (n + 0) (by first | omega | assumption | rfl) (by rw [sm_s, ← hi4_1]; first | rw [if_pos c_32] | rw [if_neg c_32]) (by omega) ls (lv_sub hl [2, 1, 0] rfl)
  exact L4 _ 0 0 (by first | omega | assumption | rfl) rfl (Nat.lt_succ_self _) ls (lv_sub hl [2, 1, 0] rfl)
set_option maxHeartbeats 4000000 in
set_option maxRecDepth 100000 in
theorem c_X5_tilesApart (l : Launch) (D : va_G) (cI cC cS : ClassId) (tt : Nat → Nat) (mm : Nat) (mn : Nat) (mh : Nat) (ms : Nat) (mr : Nat) (md : Nat) (mo : Nat) (mc : Nat) (mt : Nat) (mq : Nat) (kp : Int32) (fl : Int32) (ty : Int32) (at9 : Int32) (nu : Int32) (D1 : Nat → Int32) (S1 : Nat → Int32) (R1 : Nat → Int32) (N1 : Nat → Int32) (K1 : Int32) (L1 : Nat → Int32) (hh0 : lvB S1) (hh1 : lvB R1) : Met l yX5_tilesApart wsX5_tilesApart ({ frames := 3, cells := 0, slots := 0, locals := 74 } : Room) (x_PR D cI cC cS tt [(mm, .inr (5, [.ref mn, .ref mh, .int kp, .ref ms, .int fl, .ref mr, .ref md, .ref mo, .ref mc, .int ty, .ref mt, .int at9, .int nu, .ref mq])), (mn, .inl (cI, 578, .inl (mkM D1 S1 R1 N1 K1 L1)))] [.ref mm]) (QcRead (utS S1 R1)) 0 0 (fun _ => False) := by
  refine Met.ofW (cc := cX5_tilesApart) (maxL := 3) (ret := (some .int)) (by decide) rfl ?_
  intro p e s m args below meth c s₁ hBd hml hv
  obtain ⟨rfl, hP, hK, hE⟩ := hv
  have hx := hBd.exec
  have hb := hBd.bytes
  have hr := hBd.returns
  have hts := atoms_spec (ws := wsX5_tilesApart) hBd.pre
  have hown : s.vm.findClass RX5 = some m.cls := findClass_of_methodNamed hBd.named
  have hlocks := hBd.notSynchronized
  have hS : va_S (fun _ => False) s.heap s.heap [] := va_S.rf
  have hl := lv_entry ([.ref mm]) (n := 3) (Nat.le_of_ble_eq_true rfl)
  rw [lg_entry_eq]
  generalize (lg_sl ([.ref mm]) ++ List.replicate (3 - (lg_sl ([.ref mm])).length) Slot.unset).toArray = ls at hl ⊢
  have hl : lv_has ls 3 [(0, .ref mm)] := hl
  refine x_genQ (fun Q hQ => ?_)
  refine lv_iconst (v := 0) hx hb dX5_tilesApart_0 (by decide) ?_
  refine lv_istore_n (lv' := [(1, .int 0), (0, .ref mm)]) hx hb dX5_tilesApart_1 rfl hl (by decide) rfl (fun ls hl => ?_)
  refine lv_iconst (v := 0) hx hb dX5_tilesApart_2 (by decide) ?_
  refine lv_istore_n (lv' := [(2, .int 0), (1, .int 0), (0, .ref mm)]) hx hb dX5_tilesApart_3 rfl hl (by decide) rfl (fun ls hl => ?_)
  have L4 : ∀ (fuel : Nat) (j : Nat) (n : Int32), (j ≤ 9) → (n = sm (fun t => if tdS S1 R1 t 0 = 0 then 0 else 1) j) → 9 - j < fuel → ∀ (ls : Array Slot), lv_has ls 3 [(0, .ref mm), (1, .int n), (2, .int (nI j))] → W p l e (headSpec wsX5_tilesApart ({ frames := 3, cells := 0, slots := 0, locals := 74 } : Room)).room s m ([.ref mm] : List Value).toArray below meth c s.heap [] 0 0 Q (F0 m 4 ls []) := by
    intro fuel
    induction fuel with
    | zero =>
      intro j n hi4_0 hi4_1 hfu
      exact absurd hfu (Nat.not_lt_zero _)
    | succ fuel ih4 =>
      intro j n hi4_0 hi4_1 hfu4 ls hl
      refine lv_iload_n hx hb dX5_tilesApart_4 rfl (lv_at hl 2 rfl) ?_
      refine lv_bipush (v := 9) hx hb dX5_tilesApart_5 (by decide) ?_
      refine x_icmp_ge (tgt := 36) hx hb dX5_tilesApart_7 (by decide) (X := ((j : Nat) : Int)) (nI_toI (by omega)) (Y := 9) (show (9 : Int32).toInt = 9 from by decide) (fun c_7 => ?_) (fun c_7 => ?_)
      · skip
        refine lv_iload_n hx hb dX5_tilesApart_36 rfl (lv_at hl 1 rfl) ?_
        exact x_iretR hQ hx hb hr hlocks (by rw [hi4_1, show j = 9 by omega]; rfl) dX5_tilesApart_37
      · skip
        refine lv_iload_n hx hb dX5_tilesApart_10 rfl (lv_at hl 1 rfl) ?_
        refine lv_aload_n hx hb dX5_tilesApart_11 rfl (lv_at hl 0 rfl) ?_
        refine lv_iconst (v := 1) hx hb dX5_tilesApart_12 (by decide) ?_
        refine lv_iconst (v := 2) hx hb dX5_tilesApart_13 (by decide) ?_
        refine lv_iload_n hx hb dX5_tilesApart_14 rfl (lv_at hl 2 rfl) ?_
        refine lv_iconst (v := 0) hx hb dX5_tilesApart_15 (by decide) ?_
        refine lv_iconst (v := 0) hx hb dX5_tilesApart_16 (by decide) ?_
        refine x_callR (va_runV (As := [.int 1, .int 2, .int (nI j), .int 0, .int 0]) (rest := [.int n]) ⟨hx, hb, hml, hown, hts⟩ (c_X5_apart l D cI cC cS tt mm mn mh ms mr md mo mc mt mq kp fl ty at9 nu D1 S1 R1 N1 K1 L1 1 2 j 0 0 0 (show (0 : Int32).toInt = 0 from by decide) 0 0 (show (0 : Int32).toInt = 0 from by decide) (by first | omega | assumption | decide) (by first | omega | assumption | decide) (by first | omega | assumption | decide) rfl rfl (by first | omega | assumption | decide)) (cwV 5 hts gX5_tilesApart_X5_apart rfl rfl rfl (by decide +kernel) ⟨Nat.le_of_ble_eq_true rfl, Nat.le_of_ble_eq_true rfl⟩) ⟨x_blindR, va_recv hK hP (ci := 5) (q0 := 0) rfl rfl, x_preR (hP.sub (ws' := [(mm, .inr (5, [.ref mn, .ref mh, .int kp, .ref ms, .int fl, .ref mr, .ref md, .ref mo, .ref mc, .int ty, .ref mt, .int at9, .int nu, .ref mq])), (mn, .inl (cI, 578, .inl (mkM D1 S1 R1 N1 K1 L1)))]) [0, 1] rfl) hK hE hS⟩ rfl rfl hl.1 rfl (lv_room (Nat.le_of_ble_eq_true rfl)) dX5_tilesApart_17 ⟨(Nat.le_of_ble_eq_true rfl), (Nat.le_of_ble_eq_true rfl)⟩) ?_
        refine x_eqi (show dfw (pkN D1 S1 R1 1) (pkN D1 S1 R1 2) j 0 = tdS S1 R1 j 0 from (dfw_0 (by omega))) ?_
        have tb9 := tdS_b hh0 hh1 j 0
        refine x_if_le (tgt := 27) hx hb dX5_tilesApart_20 (by decide) (X := (tdS S1 R1 j 0).toInt) rfl (fun c_20 => ?_) (fun c_20 => ?_)
        · skip
          refine lv_iconst (v := 0) hx hb dX5_tilesApart_27 (by decide) ?_
          refine lv_iadd hx hb dX5_tilesApart_28 ?_
          refine lv_istore_n (lv' := [(1, .int (n + 0)), (0, .ref mm), (2, .int (nI j))]) hx hb dX5_tilesApart_29 rfl hl (by decide) rfl (fun ls hl => ?_)
          refine lv_iinc (v := nI (j + 1)) (lv' := [(2, .int (nI (j + 1))), (1, .int (n + 0)), (0, .ref mm)]) hx hb dX5_tilesApart_30 hl (k := 2) rfl (nI_add _ _) (by decide) rfl (fun ls hl => ?_)
          refine lv_goto (tgt := 4) hx hb dX5_tilesApart_33 (by decide) ?_
          exact ih4 (j + 1) (n + 0) (by first | omega | assumption | rfl) (by rw [sm_s, ← hi4_1]; first | rw [if_pos (x_toI0 (by omega))] | rw [if_neg (fun z => by rw [z, show (0 : Int32).toInt = 0 by decide] at c_20; omega)]) (by omega) ls (lv_sub hl [2, 1, 0] rfl)
        · skip
          refine lv_iconst (v := 1) hx hb dX5_tilesApart_23 (by decide) ?_
          refine lv_goto (tgt := 28) hx hb dX5_tilesApart_24 (by decide) ?_
          refine lv_iadd hx hb dX5_tilesApart_28 ?_
          refine lv_istore_n (lv' := [(1, .int (n + 1)), (0, .ref mm), (2, .int (nI j))]) hx hb dX5_tilesApart_29 rfl hl (by decide) rfl (fun ls hl => ?_)
          refine lv_iinc (v := nI (j + 1)) (lv' := [(2, .int (nI (j + 1))), (1, .int (n + 1)), (0, .ref mm)]) hx hb dX5_tilesApart_30 hl (k := 2) rfl (nI_add _ _) (by decide) rfl (fun ls hl => ?_)
          refine lv_goto (tgt := 4) hx hb dX5_tilesApart_33 (by decide) ?_
          exact ih4 (j + 1) (n + 1) (by first | omega | assumption | rfl) (by rw [sm_s, ← hi4_1]; first | rw [if_pos (x_toI0 (by omega))] | rw [if_neg (fun z => by rw [z, show (0 : Int32).toInt = 0 by decide] at c_20; omega)]) (by omega) ls (lv_sub hl [2, 1, 0] rfl)
  exact L4 _ 0 0 (by first | omega | assumption | rfl) rfl (Nat.lt_succ_self _) ls (lv_sub hl [2, 1, 0] rfl)
set_option maxHeartbeats 4000000 in
set_option maxRecDepth 100000 in
theorem c_X5_count (l : Launch) (D : va_G) (cI cC cS : ClassId) (tt : Nat → Nat) (mm : Nat) (mn : Nat) (mh : Nat) (ms : Nat) (mr : Nat) (md : Nat) (mo : Nat) (mc : Nat) (mt : Nat) (mq : Nat) (fl : Int32) (at9 : Int32) (nu : Int32) (D1 : Nat → Int32) (S1 : Nat → Int32) (R1 : Nat → Int32) (N1 : Nat → Int32) (K1 : Int32) (L1 : Nat → Int32) (k : Nat) (ln : Nat) (wh : Int32) (WH : Int) (hWH_ : wh.toInt = WH) (hh0 : lvB S1) (hh1 : lvB R1) : Met l yX5_count wsX5_count ({ frames := 4, cells := 0, slots := 0, locals := 96 } : Room) (x_PR D cI cC cS tt [(mm, .inr (5, [.ref mn, .ref mh, .int (nI k), .ref ms, .int fl, .ref mr, .ref md, .ref mo, .ref mc, .int (nI ln), .ref mt, .int at9, .int nu, .ref mq])), (mn, .inl (cI, 578, .inl (mkM D1 S1 R1 N1 K1 L1)))] [.ref mm, .int wh]) (QcRead (ctR S1 R1 N1 k ln WH)) 0 0 (fun _ => False) := by
  refine Met.ofW (cc := cX5_count) (maxL := 2) (ret := (some .int)) (by decide) rfl ?_
  intro p e s m args below meth c s₁ hBd hml hv
  obtain ⟨rfl, hP, hK, hE⟩ := hv
  have hx := hBd.exec
  have hb := hBd.bytes
  have hr := hBd.returns
  have hts := atoms_spec (ws := wsX5_count) hBd.pre
  have hown : s.vm.findClass RX5 = some m.cls := findClass_of_methodNamed hBd.named
  have hlocks := hBd.notSynchronized
  have hS : va_S (fun _ => False) s.heap s.heap [] := va_S.rf
  have hl := lv_entry ([.ref mm, .int wh]) (n := 2) (Nat.le_of_ble_eq_true rfl)
  rw [lg_entry_eq]
  generalize (lg_sl ([.ref mm, .int wh]) ++ List.replicate (2 - (lg_sl ([.ref mm, .int wh])).length) Slot.unset).toArray = ls at hl ⊢
  have hl : lv_has ls 2 [(0, .ref mm), (1, .int wh)] := hl
  refine x_genQ (fun Q hQ => ?_)
  refine lv_iload_n hx hb dX5_count_0 rfl (lv_at hl 1 rfl) ?_
  rcases (show WH = 0 ∨ WH = 1 ∨ WH = 2 ∨ WH = 3 ∨ WH = 4 ∨ WH = 5 ∨ WH = 6 ∨ WH = 7 ∨ WH = 8 ∨ WH = 9 ∨ WH = 10 ∨ WH = 11 ∨ WH = 12 ∨ (WH < 0 ∨ 12 < WH) by omega) with hsw1 | hsw1 | hsw1 | hsw1 | hsw1 | hsw1 | hsw1 | hsw1 | hsw1 | hsw1 | hsw1 | hsw1 | hsw1 | hsw1
  · skip
    refine lv_tableIn (off := 67) (tgt := 68) hx hb dX5_count_1 (by rw [hWH_, hsw1]; decide) (by rw [hWH_, hsw1]; decide) (by rw [hWH_, hsw1]; rfl) (by decide) ?_
    refine lv_aload_n hx hb dX5_count_68 rfl (lv_at hl 0 rfl) ?_
    refine va_get (v := .ref mn) (D := D) (ci := 5) (C := RX5) (T := TX5) (N := 14) hx hb hts (by decide +kernel) hown hK hP 0 rfl rfl 0 (by decide) (hts (.fieldLink RX5 7 "SpiralFramesModel" "now" "[I") (by decide +kernel)) (fun _ h9 => h9) rfl dX5_count_69 ?_
    refine lv_sipush (v := 432) hx hb dX5_count_72 (by decide) ?_
    refine lv_iload_n hx hb dX5_count_75 rfl (lv_at hl 1 rfl) ?_
    refine lv_iadd hx hb dX5_count_76 ?_
    refine x_eqi (show 432 + wh = nI (((432 + WH)).toNat) from x_toNat (x_addI (show (432 : Int32).toInt = 432 from by decide) hWH_ (by omega) (by omega)) (by omega)) ?_
    refine x_iald hx hb hK hP 1 0 rfl rfl (k := ((432 + WH)).toNat) (by omega) (by decide) dX5_count_77 ?_
    refine x_eqi (show (mkM D1 S1 R1 N1 K1 L1) (((432 + WH)).toNat) = N1 WH.toNat from (mkM_N (j := WH.toNat) (by omega) (by omega))) ?_
    exact x_iretR hQ hx hb hr hlocks (by unfold ctR; rw [if_pos (by omega)]) dX5_count_78
  · skip
    refine lv_tableIn (off := 67) (tgt := 68) hx hb dX5_count_1 (by rw [hWH_, hsw1]; decide) (by rw [hWH_, hsw1]; decide) (by rw [hWH_, hsw1]; rfl) (by decide) ?_
    refine lv_aload_n hx hb dX5_count_68 rfl (lv_at hl 0 rfl) ?_
    refine va_get (v := .ref mn) (D := D) (ci := 5) (C := RX5) (T := TX5) (N := 14) hx hb hts (by decide +kernel) hown hK hP 0 rfl rfl 0 (by decide) (hts (.fieldLink RX5 7 "SpiralFramesModel" "now" "[I") (by decide +kernel)) (fun _ h9 => h9) rfl dX5_count_69 ?_
    refine lv_sipush (v := 432) hx hb dX5_count_72 (by decide) ?_
    refine lv_iload_n hx hb dX5_count_75 rfl (lv_at hl 1 rfl) ?_
    refine lv_iadd hx hb dX5_count_76 ?_
    refine x_eqi (show 432 + wh = nI (((432 + WH)).toNat) from x_toNat (x_addI (show (432 : Int32).toInt = 432 from by decide) hWH_ (by omega) (by omega)) (by omega)) ?_
    refine x_iald hx hb hK hP 1 0 rfl rfl (k := ((432 + WH)).toNat) (by omega) (by decide) dX5_count_77 ?_
    refine x_eqi (show (mkM D1 S1 R1 N1 K1 L1) (((432 + WH)).toNat) = N1 WH.toNat from (mkM_N (j := WH.toNat) (by omega) (by omega))) ?_
    exact x_iretR hQ hx hb hr hlocks (by unfold ctR; rw [if_pos (by omega)]) dX5_count_78
  · skip
    refine lv_tableIn (off := 67) (tgt := 68) hx hb dX5_count_1 (by rw [hWH_, hsw1]; decide) (by rw [hWH_, hsw1]; decide) (by rw [hWH_, hsw1]; rfl) (by decide) ?_
    refine lv_aload_n hx hb dX5_count_68 rfl (lv_at hl 0 rfl) ?_
    refine va_get (v := .ref mn) (D := D) (ci := 5) (C := RX5) (T := TX5) (N := 14) hx hb hts (by decide +kernel) hown hK hP 0 rfl rfl 0 (by decide) (hts (.fieldLink RX5 7 "SpiralFramesModel" "now" "[I") (by decide +kernel)) (fun _ h9 => h9) rfl dX5_count_69 ?_
    refine lv_sipush (v := 432) hx hb dX5_count_72 (by decide) ?_
    refine lv_iload_n hx hb dX5_count_75 rfl (lv_at hl 1 rfl) ?_
    refine lv_iadd hx hb dX5_count_76 ?_
    refine x_eqi (show 432 + wh = nI (((432 + WH)).toNat) from x_toNat (x_addI (show (432 : Int32).toInt = 432 from by decide) hWH_ (by omega) (by omega)) (by omega)) ?_
    refine x_iald hx hb hK hP 1 0 rfl rfl (k := ((432 + WH)).toNat) (by omega) (by decide) dX5_count_77 ?_
    refine x_eqi (show (mkM D1 S1 R1 N1 K1 L1) (((432 + WH)).toNat) = N1 WH.toNat from (mkM_N (j := WH.toNat) (by omega) (by omega))) ?_
    exact x_iretR hQ hx hb hr hlocks (by unfold ctR; rw [if_pos (by omega)]) dX5_count_78
  · skip
    refine lv_tableIn (off := 67) (tgt := 68) hx hb dX5_count_1 (by rw [hWH_, hsw1]; decide) (by rw [hWH_, hsw1]; decide) (by rw [hWH_, hsw1]; rfl) (by decide) ?_
    refine lv_aload_n hx hb dX5_count_68 rfl (lv_at hl 0 rfl) ?_
    refine va_get (v := .ref mn) (D := D) (ci := 5) (C := RX5) (T := TX5) (N := 14) hx hb hts (by decide +kernel) hown hK hP 0 rfl rfl 0 (by decide) (hts (.fieldLink RX5 7 "SpiralFramesModel" "now" "[I") (by decide +kernel)) (fun _ h9 => h9) rfl dX5_count_69 ?_
    refine lv_sipush (v := 432) hx hb dX5_count_72 (by decide) ?_
    refine lv_iload_n hx hb dX5_count_75 rfl (lv_at hl 1 rfl) ?_
    refine lv_iadd hx hb dX5_count_76 ?_
    refine x_eqi (show 432 + wh = nI (((432 + WH)).toNat) from x_toNat (x_addI (show (432 : Int32).toInt = 432 from by decide) hWH_ (by omega) (by omega)) (by omega)) ?_
    refine x_iald hx hb hK hP 1 0 rfl rfl (k := ((432 + WH)).toNat) (by omega) (by decide) dX5_count_77 ?_
    refine x_eqi (show (mkM D1 S1 R1 N1 K1 L1) (((432 + WH)).toNat) = N1 WH.toNat from (mkM_N (j := WH.toNat) (by omega) (by omega))) ?_
    exact x_iretR hQ hx hb hr hlocks (by unfold ctR; rw [if_pos (by omega)]) dX5_count_78
  · skip
    refine lv_tableIn (off := 67) (tgt := 68) hx hb dX5_count_1 (by rw [hWH_, hsw1]; decide) (by rw [hWH_, hsw1]; decide) (by rw [hWH_, hsw1]; rfl) (by decide) ?_
    refine lv_aload_n hx hb dX5_count_68 rfl (lv_at hl 0 rfl) ?_
    refine va_get (v := .ref mn) (D := D) (ci := 5) (C := RX5) (T := TX5) (N := 14) hx hb hts (by decide +kernel) hown hK hP 0 rfl rfl 0 (by decide) (hts (.fieldLink RX5 7 "SpiralFramesModel" "now" "[I") (by decide +kernel)) (fun _ h9 => h9) rfl dX5_count_69 ?_
    refine lv_sipush (v := 432) hx hb dX5_count_72 (by decide) ?_
    refine lv_iload_n hx hb dX5_count_75 rfl (lv_at hl 1 rfl) ?_
    refine lv_iadd hx hb dX5_count_76 ?_
    refine x_eqi (show 432 + wh = nI (((432 + WH)).toNat) from x_toNat (x_addI (show (432 : Int32).toInt = 432 from by decide) hWH_ (by omega) (by omega)) (by omega)) ?_
    refine x_iald hx hb hK hP 1 0 rfl rfl (k := ((432 + WH)).toNat) (by omega) (by decide) dX5_count_77 ?_
    refine x_eqi (show (mkM D1 S1 R1 N1 K1 L1) (((432 + WH)).toNat) = N1 WH.toNat from (mkM_N (j := WH.toNat) (by omega) (by omega))) ?_
    exact x_iretR hQ hx hb hr hlocks (by unfold ctR; rw [if_pos (by omega)]) dX5_count_78
  · skip
    refine lv_tableIn (off := 67) (tgt := 68) hx hb dX5_count_1 (by rw [hWH_, hsw1]; decide) (by rw [hWH_, hsw1]; decide) (by rw [hWH_, hsw1]; rfl) (by decide) ?_
    refine lv_aload_n hx hb dX5_count_68 rfl (lv_at hl 0 rfl) ?_
    refine va_get (v := .ref mn) (D := D) (ci := 5) (C := RX5) (T := TX5) (N := 14) hx hb hts (by decide +kernel) hown hK hP 0 rfl rfl 0 (by decide) (hts (.fieldLink RX5 7 "SpiralFramesModel" "now" "[I") (by decide +kernel)) (fun _ h9 => h9) rfl dX5_count_69 ?_
    refine lv_sipush (v := 432) hx hb dX5_count_72 (by decide) ?_
    refine lv_iload_n hx hb dX5_count_75 rfl (lv_at hl 1 rfl) ?_
    refine lv_iadd hx hb dX5_count_76 ?_
    refine x_eqi (show 432 + wh = nI (((432 + WH)).toNat) from x_toNat (x_addI (show (432 : Int32).toInt = 432 from by decide) hWH_ (by omega) (by omega)) (by omega)) ?_
    refine x_iald hx hb hK hP 1 0 rfl rfl (k := ((432 + WH)).toNat) (by omega) (by decide) dX5_count_77 ?_
    refine x_eqi (show (mkM D1 S1 R1 N1 K1 L1) (((432 + WH)).toNat) = N1 WH.toNat from (mkM_N (j := WH.toNat) (by omega) (by omega))) ?_
    exact x_iretR hQ hx hb hr hlocks (by unfold ctR; rw [if_pos (by omega)]) dX5_count_78
  · skip
    refine lv_tableIn (off := 67) (tgt := 68) hx hb dX5_count_1 (by rw [hWH_, hsw1]; decide) (by rw [hWH_, hsw1]; decide) (by rw [hWH_, hsw1]; rfl) (by decide) ?_
    refine lv_aload_n hx hb dX5_count_68 rfl (lv_at hl 0 rfl) ?_
    refine va_get (v := .ref mn) (D := D) (ci := 5) (C := RX5) (T := TX5) (N := 14) hx hb hts (by decide +kernel) hown hK hP 0 rfl rfl 0 (by decide) (hts (.fieldLink RX5 7 "SpiralFramesModel" "now" "[I") (by decide +kernel)) (fun _ h9 => h9) rfl dX5_count_69 ?_
    refine lv_sipush (v := 432) hx hb dX5_count_72 (by decide) ?_
    refine lv_iload_n hx hb dX5_count_75 rfl (lv_at hl 1 rfl) ?_
    refine lv_iadd hx hb dX5_count_76 ?_
    refine x_eqi (show 432 + wh = nI (((432 + WH)).toNat) from x_toNat (x_addI (show (432 : Int32).toInt = 432 from by decide) hWH_ (by omega) (by omega)) (by omega)) ?_
    refine x_iald hx hb hK hP 1 0 rfl rfl (k := ((432 + WH)).toNat) (by omega) (by decide) dX5_count_77 ?_
    refine x_eqi (show (mkM D1 S1 R1 N1 K1 L1) (((432 + WH)).toNat) = N1 WH.toNat from (mkM_N (j := WH.toNat) (by omega) (by omega))) ?_
    exact x_iretR hQ hx hb hr hlocks (by unfold ctR; rw [if_pos (by omega)]) dX5_count_78
  · skip
    refine lv_tableIn (off := 67) (tgt := 68) hx hb dX5_count_1 (by rw [hWH_, hsw1]; decide) (by rw [hWH_, hsw1]; decide) (by rw [hWH_, hsw1]; rfl) (by decide) ?_
    refine lv_aload_n hx hb dX5_count_68 rfl (lv_at hl 0 rfl) ?_
    refine va_get (v := .ref mn) (D := D) (ci := 5) (C := RX5) (T := TX5) (N := 14) hx hb hts (by decide +kernel) hown hK hP 0 rfl rfl 0 (by decide) (hts (.fieldLink RX5 7 "SpiralFramesModel" "now" "[I") (by decide +kernel)) (fun _ h9 => h9) rfl dX5_count_69 ?_
    refine lv_sipush (v := 432) hx hb dX5_count_72 (by decide) ?_
    refine lv_iload_n hx hb dX5_count_75 rfl (lv_at hl 1 rfl) ?_
    refine lv_iadd hx hb dX5_count_76 ?_
    refine x_eqi (show 432 + wh = nI (((432 + WH)).toNat) from x_toNat (x_addI (show (432 : Int32).toInt = 432 from by decide) hWH_ (by omega) (by omega)) (by omega)) ?_
    refine x_iald hx hb hK hP 1 0 rfl rfl (k := ((432 + WH)).toNat) (by omega) (by decide) dX5_count_77 ?_
    refine x_eqi (show (mkM D1 S1 R1 N1 K1 L1) (((432 + WH)).toNat) = N1 WH.toNat from (mkM_N (j := WH.toNat) (by omega) (by omega))) ?_
    exact x_iretR hQ hx hb hr hlocks (by unfold ctR; rw [if_pos (by omega)]) dX5_count_78
  · skip
    refine lv_tableIn (off := 67) (tgt := 68) hx hb dX5_count_1 (by rw [hWH_, hsw1]; decide) (by rw [hWH_, hsw1]; decide) (by rw [hWH_, hsw1]; rfl) (by decide) ?_
    refine lv_aload_n hx hb dX5_count_68 rfl (lv_at hl 0 rfl) ?_
    refine va_get (v := .ref mn) (D := D) (ci := 5) (C := RX5) (T := TX5) (N := 14) hx hb hts (by decide +kernel) hown hK hP 0 rfl rfl 0 (by decide) (hts (.fieldLink RX5 7 "SpiralFramesModel" "now" "[I") (by decide +kernel)) (fun _ h9 => h9) rfl dX5_count_69 ?_
    refine lv_sipush (v := 432) hx hb dX5_count_72 (by decide) ?_
    refine lv_iload_n hx hb dX5_count_75 rfl (lv_at hl 1 rfl) ?_
    refine lv_iadd hx hb dX5_count_76 ?_
    refine x_eqi (show 432 + wh = nI (((432 + WH)).toNat) from x_toNat (x_addI (show (432 : Int32).toInt = 432 from by decide) hWH_ (by omega) (by omega)) (by omega)) ?_
    refine x_iald hx hb hK hP 1 0 rfl rfl (k := ((432 + WH)).toNat) (by omega) (by decide) dX5_count_77 ?_
    refine x_eqi (show (mkM D1 S1 R1 N1 K1 L1) (((432 + WH)).toNat) = N1 WH.toNat from (mkM_N (j := WH.toNat) (by omega) (by omega))) ?_
    exact x_iretR hQ hx hb hr hlocks (by unfold ctR; rw [if_pos (by omega)]) dX5_count_78
  · skip
    refine lv_tableIn (off := 78) (tgt := 79) hx hb dX5_count_1 (by rw [hWH_, hsw1]; decide) (by rw [hWH_, hsw1]; decide) (by rw [hWH_, hsw1]; rfl) (by decide) ?_
    refine lv_aload_n hx hb dX5_count_79 rfl (lv_at hl 0 rfl) ?_
    refine x_callR (va_runV (As := []) (rest := []) ⟨hx, hb, hml, hown, hts⟩ (c_X5_pointsApart l D cI cC cS tt mm mn mh ms mr md mo mc mt mq (nI k) fl (nI ln) at9 nu D1 S1 R1 N1 K1 L1) (cwV 0 hts gX5_count_X5_pointsApart rfl rfl rfl (by decide +kernel) ⟨Nat.le_of_ble_eq_true rfl, Nat.le_of_ble_eq_true rfl⟩) ⟨x_blindR, va_recv hK hP (ci := 5) (q0 := 0) rfl rfl, x_preR (hP.sub (ws' := [(mm, .inr (5, [.ref mn, .ref mh, .int (nI k), .ref ms, .int fl, .ref mr, .ref md, .ref mo, .ref mc, .int (nI ln), .ref mt, .int at9, .int nu, .ref mq])), (mn, .inl (cI, 578, .inl (mkM D1 S1 R1 N1 K1 L1)))]) [0, 1] rfl) hK hE hS⟩ rfl rfl hl.1 rfl (lv_room (Nat.le_of_ble_eq_true rfl)) dX5_count_80 ⟨(Nat.le_of_ble_eq_true rfl), (Nat.le_of_ble_eq_true rfl)⟩) ?_
    exact x_iretR hQ hx hb hr hlocks (by unfold ctR; rw [if_neg (by omega), if_pos (by omega)]) dX5_count_83
  · skip
    refine lv_tableIn (off := 83) (tgt := 84) hx hb dX5_count_1 (by rw [hWH_, hsw1]; decide) (by rw [hWH_, hsw1]; decide) (by rw [hWH_, hsw1]; rfl) (by decide) ?_
    refine lv_aload_n hx hb dX5_count_84 rfl (lv_at hl 0 rfl) ?_
    refine x_callR (va_runV (As := []) (rest := []) ⟨hx, hb, hml, hown, hts⟩ (c_X5_tilesApart l D cI cC cS tt mm mn mh ms mr md mo mc mt mq (nI k) fl (nI ln) at9 nu D1 S1 R1 N1 K1 L1 (by first | omega | assumption | decide) (by first | omega | assumption | decide)) (cwV 0 hts gX5_count_X5_tilesApart rfl rfl rfl (by decide +kernel) ⟨Nat.le_of_ble_eq_true rfl, Nat.le_of_ble_eq_true rfl⟩) ⟨x_blindR, va_recv hK hP (ci := 5) (q0 := 0) rfl rfl, x_preR (hP.sub (ws' := [(mm, .inr (5, [.ref mn, .ref mh, .int (nI k), .ref ms, .int fl, .ref mr, .ref md, .ref mo, .ref mc, .int (nI ln), .ref mt, .int at9, .int nu, .ref mq])), (mn, .inl (cI, 578, .inl (mkM D1 S1 R1 N1 K1 L1)))]) [0, 1] rfl) hK hE hS⟩ rfl rfl hl.1 rfl (lv_room (Nat.le_of_ble_eq_true rfl)) dX5_count_85 ⟨(Nat.le_of_ble_eq_true rfl), (Nat.le_of_ble_eq_true rfl)⟩) ?_
    exact x_iretR hQ hx hb hr hlocks (by unfold ctR; rw [if_neg (by omega), if_neg (by omega), if_pos (by omega)]) dX5_count_88
  · skip
    refine lv_tableIn (off := 88) (tgt := 89) hx hb dX5_count_1 (by rw [hWH_, hsw1]; decide) (by rw [hWH_, hsw1]; decide) (by rw [hWH_, hsw1]; rfl) (by decide) ?_
    refine lv_aload_n hx hb dX5_count_89 rfl (lv_at hl 0 rfl) ?_
    refine va_get (v := .int (nI k)) (D := D) (ci := 5) (C := RX5) (T := TX5) (N := 14) hx hb hts (by decide +kernel) hown hK hP 0 rfl rfl 2 (by decide) (hts (.fieldLink RX5 46 "SpiralFramesModel" "kept" "I") (by decide +kernel)) (fun _ h9 => h9) rfl dX5_count_90 ?_
    exact x_iretR hQ hx hb hr hlocks (by unfold ctR; rw [if_neg (by omega), if_neg (by omega), if_neg (by omega), if_pos (by omega)]) dX5_count_93
  · skip
    refine lv_tableIn (off := 93) (tgt := 94) hx hb dX5_count_1 (by rw [hWH_, hsw1]; decide) (by rw [hWH_, hsw1]; decide) (by rw [hWH_, hsw1]; rfl) (by decide) ?_
    refine lv_aload_n hx hb dX5_count_94 rfl (lv_at hl 0 rfl) ?_
    refine va_get (v := .int (nI ln)) (D := D) (ci := 5) (C := RX5) (T := TX5) (N := 14) hx hb hts (by decide +kernel) hown hK hP 0 rfl rfl 9 (by decide) (hts (.fieldLink RX5 120 "SpiralFramesModel" "typed" "I") (by decide +kernel)) (fun _ h9 => h9) rfl dX5_count_95 ?_
    exact x_iretR hQ hx hb hr hlocks (by unfold ctR; rw [if_neg (by omega), if_neg (by omega), if_neg (by omega), if_neg (by omega), if_pos (by omega)]) dX5_count_98
  · skip
    refine lv_tableOut (tgt := 99) hx hb dX5_count_1 (by rw [hWH_]; exact hsw1) (by decide) ?_
    refine lv_bipush (v := (-2)) hx hb dX5_count_99 (by decide) ?_
    exact x_iretR hQ hx hb hr hlocks (by unfold ctR; rw [if_neg (by omega), if_neg (by omega), if_neg (by omega), if_neg (by omega), if_neg (by omega)]) dX5_count_101
