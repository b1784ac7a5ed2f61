set_option maxHeartbeats 4000000 in
set_option maxRecDepth 100000 in
theorem c_X5_isDigit (l : Launch) (D : va_G) (cI cC cS : ClassId) (tt : Nat → Nat) (mm : Nat) (mn : Nat) (mh : Nat) (ms : Nat) (mr : Nat) (md : Nat) (mo : Nat) (mc : Nat) (mt : Nat) (mq : Nat) (ln : Nat) (at9 : Nat) (kp : Int32) (fl : Int32) (nu : Int32) (tx : Nat → Int32) (hh0 : ln ≤ 60) (hh1 : at9 ≤ ln) : Met l yX5_isDigit wsX5_isDigit ({ frames := 1, cells := 0, slots := 0, locals := 22 } : Room) (x_PR D cI cC cS tt [(mm, .inr (5, [.ref mn, .ref mh, .int kp, .ref ms, .int fl, .ref mr, .ref md, .ref mo, .ref mc, .int (nI ln), .ref mt, .int (nI at9), .int nu, .ref mq])), (mt, .inl (cC, 60, .inl (tx)))] [.ref mm]) (QcRead (bI (decide (isD tx ln at9)))) 0 0 (fun _ => False) := by
  refine Met.ofW (cc := cX5_isDigit) (maxL := 1) (ret := (some .boolean)) (by decide) rfl ?_
  intro p e s m args below meth c s₁ hBd hml hv
  obtain ⟨rfl, hP, hK, hE⟩ := hv
  have hx := hBd.exec
  have hb := hBd.bytes
  have hr := hBd.returns
  have hts := atoms_spec (ws := wsX5_isDigit) hBd.pre
  have hown : s.vm.findClass RX5 = some m.cls := findClass_of_methodNamed hBd.named
  have hlocks := hBd.notSynchronized
  have hS : va_S (fun _ => False) s.heap s.heap [] := va_S.rf
  have hl := lv_entry ([.ref mm]) (n := 1) (Nat.le_of_ble_eq_true rfl)
  rw [lg_entry_eq]
  generalize (lg_sl ([.ref mm]) ++ List.replicate (1 - (lg_sl ([.ref mm])).length) Slot.unset).toArray = ls at hl ⊢
  have hl : lv_has ls 1 [(0, .ref mm)] := hl
  refine x_genQ (fun Q hQ => ?_)
  refine lv_aload_n hx hb dX5_isDigit_0 rfl (lv_at hl 0 rfl) ?_
  refine va_get (v := .int (nI at9)) (D := D) (ci := 5) (C := RX5) (T := TX5) (N := 14) hx hb hts (by decide +kernel) hown hK hP 0 rfl rfl 11 (by decide) (hts (.fieldLink RX5 123 "SpiralFramesModel" "at" "I") (by decide +kernel)) (fun _ h9 => h9) rfl dX5_isDigit_1 ?_
  refine lv_aload_n hx hb dX5_isDigit_4 rfl (lv_at hl 0 rfl) ?_
  refine va_get (v := .int (nI ln)) (D := D) (ci := 5) (C := RX5) (T := TX5) (N := 14) hx hb hts (by decide +kernel) hown hK hP 0 rfl rfl 9 (by decide) (hts (.fieldLink RX5 120 "SpiralFramesModel" "typed" "I") (by decide +kernel)) (fun _ h9 => h9) rfl dX5_isDigit_5 ?_
  refine x_icmp_ge (tgt := 34) hx hb dX5_isDigit_8 (by decide) (X := ((at9 : Nat) : Int)) (nI_toI (by omega)) (Y := ((ln : Nat) : Int)) (nI_toI (by omega)) (fun c_8 => ?_) (fun c_8 => ?_)
  · skip
    refine lv_iconst (v := 0) hx hb dX5_isDigit_34 (by decide) ?_
    exact x_zretR hQ hx hb hr hlocks (by decide) (bI_f (by omega)) dX5_isDigit_35
  · skip
    refine lv_aload_n hx hb dX5_isDigit_11 rfl (lv_at hl 0 rfl) ?_
    refine va_get (v := .ref mt) (D := D) (ci := 5) (C := RX5) (T := TX5) (N := 14) hx hb hts (by decide +kernel) hown hK hP 0 rfl rfl 10 (by decide) (hts (.fieldLink RX5 31 "SpiralFramesModel" "text" "[C") (by decide +kernel)) (fun _ h9 => h9) rfl dX5_isDigit_12 ?_
    refine lv_aload_n hx hb dX5_isDigit_15 rfl (lv_at hl 0 rfl) ?_
    refine va_get (v := .int (nI at9)) (D := D) (ci := 5) (C := RX5) (T := TX5) (N := 14) hx hb hts (by decide +kernel) hown hK hP 0 rfl rfl 11 (by decide) (hts (.fieldLink RX5 123 "SpiralFramesModel" "at" "I") (by decide +kernel)) (fun _ h9 => h9) rfl dX5_isDigit_16 ?_
    refine x_cald hx hb hK hP 1 1 rfl rfl (k := at9) (by omega) (by decide) dX5_isDigit_19 ?_
    refine lv_bipush (v := 48) hx hb dX5_isDigit_20 (by decide) ?_
    refine lv_bipush (v := 57) hx hb dX5_isDigit_22 (by decide) ?_
    refine x_callR (va_runS (As := [.int (tx at9), .int 48, .int 57]) (rest := []) ⟨hx, hb, hml, hown, hts⟩ (c_X5_in l D cI cC cS tt (tx at9) ((tx at9).toInt) rfl 48 48 (show (48 : Int32).toInt = 48 from by decide) 57 57 (show (57 : Int32).toInt = 57 from by decide)) (va_cwS 3 hts gX5_isDigit_X5_in rfl rfl rfl (by decide +kernel) ⟨Nat.le_of_ble_eq_true rfl, Nat.le_of_ble_eq_true rfl⟩) ⟨x_blindR, x_preR (hP.sub (ws' := []) [] rfl) hK hE hS⟩ rfl rfl hl.1 rfl (lv_room (Nat.le_of_ble_eq_true rfl)) dX5_isDigit_24 ⟨(Nat.le_of_ble_eq_true rfl), (Nat.le_of_ble_eq_true rfl)⟩) ?_
    refine x_ifB_eq (tgt := 34) hx hb dX5_isDigit_27 (by decide) (fun c_27 => ?_) (fun c_27 => ?_)
    · skip
      refine lv_iconst (v := 0) hx hb dX5_isDigit_34 (by decide) ?_
      exact x_zretR hQ hx hb hr hlocks (by decide) (bI_f (by omega)) dX5_isDigit_35
    · skip
      refine lv_iconst (v := 1) hx hb dX5_isDigit_30 (by decide) ?_
      refine lv_goto (tgt := 35) hx hb dX5_isDigit_31 (by decide) ?_
      exact x_zretR hQ hx hb hr hlocks (by decide) (bI_t (by omega)) dX5_isDigit_35
set_option maxHeartbeats 4000000 in
set_option maxRecDepth 100000 in
theorem c_X5_takes (l : Launch) (D : va_G) (cI cC cS : ClassId) (tt : Nat → Nat) (sz : Nat) (mm : Nat) (mn : Nat) (mh : Nat) (ms : Nat) (mr : Nat) (md : Nat) (mo : Nat) (mc : Nat) (mt : Nat) (mq : Nat) (ln : Nat) (at9 : Nat) (kp : Int32) (fl : Int32) (nu : Int32) (tx : Nat → Int32) (c9 : Int32) (Cc : Int) (hCc_ : c9.toInt = Cc) (hh0 : ln ≤ 60) (hh1 : at9 ≤ ln) : Met l yX5_takes wsX5_takes ({ frames := 0, cells := 0, slots := 0, locals := 0 } : Room) (x_PW D cI cC cS tt [(mm, .inr (5, [.ref mn, .ref mh, .int kp, .ref ms, .int fl, .ref mr, .ref md, .ref mo, .ref mc, .int (nI ln), .ref mt, .int (nI at9), .int nu, .ref mq])), (mt, .inl (cC, 60, .inl (tx)))] sz [.ref mm, .int c9]) (x_QWi D [(mm, .inr (5, [.ref mn, .ref mh, .int kp, .ref ms, .int fl, .ref mr, .ref md, .ref mo, .ref mc, .int (nI ln), .ref mt, .int (nI at9), .int nu, .ref mq])), (mt, .inl (cC, 60, .inl (tx)))] sz (fun (r : Int32) (w : va_W) => (r = 1 ∧ w = [(mm, .inr (5, [.ref mn, .ref mh, .int kp, .ref ms, .int fl, .ref mr, .ref md, .ref mo, .ref mc, .int (nI ln), .ref mt, .int (nI (at9 + 1)), .int nu, .ref mq])), (mt, .inl (cC, 60, .inl (tx)))] ∧ (tk tx ln at9 Cc)) ∨ (r = 0 ∧ w = [(mm, .inr (5, [.ref mn, .ref mh, .int kp, .ref ms, .int fl, .ref mr, .ref md, .ref mo, .ref mc, .int (nI ln), .ref mt, .int (nI at9), .int nu, .ref mq])), (mt, .inl (cC, 60, .inl (tx)))] ∧ (¬ tk tx ln at9 Cc)))) 0 0 (va_A [(mm, .inr (5, [.ref mn, .ref mh, .int kp, .ref ms, .int fl, .ref mr, .ref md, .ref mo, .ref mc, .int (nI ln), .ref mt, .int (nI at9), .int nu, .ref mq])), (mt, .inl (cC, 60, .inl (tx)))] sz) := by
  refine Met.ofW (cc := cX5_takes) (maxL := 2) (ret := (some .boolean)) (by decide) rfl ?_
  intro p e s m args below meth c s₁ hBd hml hv
  obtain ⟨rfl, hsz, hP, hK, hD0, hE0⟩ := hv
  have hx := hBd.exec
  have hb := hBd.bytes
  have hr := hBd.returns
  have hts := atoms_spec (ws := wsX5_takes) hBd.pre
  have hown : s.vm.findClass RX5 = some m.cls := findClass_of_methodNamed hBd.named
  have hlocks := hBd.notSynchronized
  subst hsz
  obtain ⟨Ar, hAe⟩ : ∃ Ar : Nat → Prop, Ar = va_A [(mm, .inr (5, [.ref mn, .ref mh, .int kp, .ref ms, .int fl, .ref mr, .ref md, .ref mo, .ref mc, .int (nI ln), .ref mt, .int (nI at9), .int nu, .ref mq])), (mt, .inl (cC, 60, .inl (tx)))] s.heap.size := ⟨_, rfl⟩
  have hD : va_D Ar [(mm, .inr (5, [.ref mn, .ref mh, .int kp, .ref ms, .int fl, .ref mr, .ref md, .ref mo, .ref mc, .int (nI ln), .ref mt, .int (nI at9), .int nu, .ref mq])), (mt, .inl (cC, 60, .inl (tx)))] := by rw [hAe]; exact hD0.self
  have hA : ∀ q : Nat, s.heap.size ≤ q → Ar q := fun q h => by rw [hAe]; exact Or.inr h
  have hE : x_E tt Ar s := by rw [hAe]; exact hE0
  have hS : va_S Ar s.heap s.heap [] := va_S.rf
  have hl := lv_entry ([.ref mm, .int c9]) (n := 2) (Nat.le_of_ble_eq_true rfl)
  rw [lg_entry_eq]
  generalize (lg_sl ([.ref mm, .int c9]) ++ List.replicate (2 - (lg_sl ([.ref mm, .int c9])).length) Slot.unset).toArray = ls at hl ⊢
  have hl : lv_has ls 2 [(0, .ref mm), (1, .int c9)] := hl
  refine x_genQ (fun Q hQ => ?_)
  refine lv_aload_n hx hb dX5_takes_0 rfl (lv_at hl 0 rfl) ?_
  refine va_get (v := .int (nI at9)) (D := D) (ci := 5) (C := RX5) (T := TX5) (N := 14) hx hb hts (by decide +kernel) hown hK hP 0 rfl rfl 11 (by decide) (hts (.fieldLink RX5 123 "SpiralFramesModel" "at" "I") (by decide +kernel)) (fun _ h9 => h9) rfl dX5_takes_1 ?_
  refine lv_aload_n hx hb dX5_takes_4 rfl (lv_at hl 0 rfl) ?_
  refine va_get (v := .int (nI ln)) (D := D) (ci := 5) (C := RX5) (T := TX5) (N := 14) hx hb hts (by decide +kernel) hown hK hP 0 rfl rfl 9 (by decide) (hts (.fieldLink RX5 120 "SpiralFramesModel" "typed" "I") (by decide +kernel)) (fun _ h9 => h9) rfl dX5_takes_5 ?_
  refine x_icmp_eq (tgt := 24) hx hb dX5_takes_8 (by decide) (X := ((at9 : Nat) : Int)) (nI_toI (by omega)) (Y := ((ln : Nat) : Int)) (nI_toI (by omega)) (fun c_8 => ?_) (fun c_8 => ?_)
  · skip
    refine lv_iconst (v := 0) hx hb dX5_takes_24 (by decide) ?_
    refine x_zretW (w := [(mm, .inr (5, [.ref mn, .ref mh, .int kp, .ref ms, .int fl, .ref mr, .ref md, .ref mo, .ref mc, .int (nI ln), .ref mt, .int (nI at9), .int nu, .ref mq])), (mt, .inl (cC, 60, .inl (tx)))]) hQ hAe hx hb hr hlocks (by decide) (hP.sub [0, 1] rfl) (hD.sub [0, 1] (by decide) rfl) hS ?_ dX5_takes_25
    refine Or.inr (?_)
    exact ⟨rfl, rfl, by omega⟩
  · skip
    refine lv_aload_n hx hb dX5_takes_11 rfl (lv_at hl 0 rfl) ?_
    refine va_get (v := .ref mt) (D := D) (ci := 5) (C := RX5) (T := TX5) (N := 14) hx hb hts (by decide +kernel) hown hK hP 0 rfl rfl 10 (by decide) (hts (.fieldLink RX5 31 "SpiralFramesModel" "text" "[C") (by decide +kernel)) (fun _ h9 => h9) rfl dX5_takes_12 ?_
    refine lv_aload_n hx hb dX5_takes_15 rfl (lv_at hl 0 rfl) ?_
    refine va_get (v := .int (nI at9)) (D := D) (ci := 5) (C := RX5) (T := TX5) (N := 14) hx hb hts (by decide +kernel) hown hK hP 0 rfl rfl 11 (by decide) (hts (.fieldLink RX5 123 "SpiralFramesModel" "at" "I") (by decide +kernel)) (fun _ h9 => h9) rfl dX5_takes_16 ?_
    refine x_cald hx hb hK hP 1 1 rfl rfl (k := at9) (by omega) (by decide) dX5_takes_19 ?_
    refine x_eqi (show tx at9 = tx at9 from rfl) ?_
    refine lv_iload_n hx hb dX5_takes_20 rfl (lv_at hl 1 rfl) ?_
    refine x_icmp_eq (tgt := 26) hx hb dX5_takes_21 (by decide) (X := (tx at9).toInt) rfl (Y := Cc) hCc_ (fun c_21 => ?_) (fun c_21 => ?_)
    · skip
      refine lv_aload_n hx hb dX5_takes_26 rfl (lv_at hl 0 rfl) ?_
      refine lv_dup hx hb dX5_takes_27 rfl ?_
      refine va_get (v := .int (nI at9)) (D := D) (ci := 5) (C := RX5) (T := TX5) (N := 14) hx hb hts (by decide +kernel) hown hK hP 0 rfl rfl 11 (by decide) (hts (.fieldLink RX5 123 "SpiralFramesModel" "at" "I") (by decide +kernel)) (fun _ h9 => h9) rfl dX5_takes_28 ?_
      refine lv_iconst (v := 1) hx hb dX5_takes_31 (by decide) ?_
      refine lv_iadd hx hb dX5_takes_32 ?_
      refine x_eqi (show nI at9 + 1 = nI (at9 + 1) from nI_add at9 1) ?_
      refine va_put (v := .int (nI (at9 + 1))) (ty := .int) (D := D) (ci := 5) (C := RX5) (T := TX5) (N := 14) hx hb hts (by decide +kernel) tyX5 tyX5_ok nmX5 hown hK hP hD hS 0 rfl rfl 11 (by decide) (hts (.fieldLink RX5 123 "SpiralFramesModel" "at" "I") (by decide +kernel)) (fun _ h9 => h9) rfl (by decide +kernel) rfl rfl (Nat.le_of_ble_eq_true rfl) dX5_takes_33 (fun H locs hP hD hS => ?_)
      have hP : va_P D vwCl [(mm, .inr (5, [.ref mn, .ref mh, .int kp, .ref ms, .int fl, .ref mr, .ref md, .ref mo, .ref mc, .int (nI ln), .ref mt, .int (nI (at9 + 1)), .int nu, .ref mq])), (mt, .inl (cC, 60, .inl (tx)))] H := hP
      have hD : va_D (Ar) [(mm, .inr (5, [.ref mn, .ref mh, .int kp, .ref ms, .int fl, .ref mr, .ref md, .ref mo, .ref mc, .int (nI ln), .ref mt, .int (nI (at9 + 1)), .int nu, .ref mq])), (mt, .inl (cC, 60, .inl (tx)))] := hD
      refine lv_iconst (v := 1) hx hb dX5_takes_36 (by decide) ?_
      refine x_zretW (w := [(mm, .inr (5, [.ref mn, .ref mh, .int kp, .ref ms, .int fl, .ref mr, .ref md, .ref mo, .ref mc, .int (nI ln), .ref mt, .int (nI (at9 + 1)), .int nu, .ref mq])), (mt, .inl (cC, 60, .inl (tx)))]) hQ hAe hx hb hr hlocks (by decide) (hP.sub [0, 1] rfl) (hD.sub [0, 1] (by decide) rfl) hS ?_ dX5_takes_37
      refine Or.inl ?_
      exact ⟨rfl, rfl, by omega⟩
    · skip
      refine lv_iconst (v := 0) hx hb dX5_takes_24 (by decide) ?_
      refine x_zretW (w := [(mm, .inr (5, [.ref mn, .ref mh, .int kp, .ref ms, .int fl, .ref mr, .ref md, .ref mo, .ref mc, .int (nI ln), .ref mt, .int (nI at9), .int nu, .ref mq])), (mt, .inl (cC, 60, .inl (tx)))]) hQ hAe hx hb hr hlocks (by decide) (hP.sub [0, 1] rfl) (hD.sub [0, 1] (by decide) rfl) hS ?_ dX5_takes_25
      refine Or.inr (?_)
      exact ⟨rfl, rfl, by omega⟩
set_option maxHeartbeats 4000000 in
set_option maxRecDepth 100000 in
theorem c_X5_takesNumber_0 (l : Launch) (D : va_G) (cI cC cS : ClassId) (tt : Nat → Nat) (sz : Nat) (mm : Nat) (mn : Nat) (mh : Nat) (ms : Nat) (mr : Nat) (md : Nat) (mo : Nat) (mc : Nat) (mt : Nat) (mq : Nat) (ln : Nat) (at9 : Nat) (kp : Int32) (fl : Int32) (nu : Int32) (tx : Nat → Int32) (hh0 : ln ≤ 60) (hh1 : at9 ≤ ln) : Met l yX5_takesNumber wsX5_takesNumber ({ frames := 2, cells := 0, slots := 0, locals := 42 } : Room) (x_PW D cI cC cS tt [(mm, .inr (5, [.ref mn, .ref mh, .int kp, .ref ms, .int fl, .ref mr, .ref md, .ref mo, .ref mc, .int (nI ln), .ref mt, .int (nI at9), .int nu, .ref mq])), (mt, .inl (cC, 60, .inl (tx)))] sz [.ref mm, .int 0]) (x_QWi D [(mm, .inr (5, [.ref mn, .ref mh, .int kp, .ref ms, .int fl, .ref mr, .ref md, .ref mo, .ref mc, .int (nI ln), .ref mt, .int (nI at9), .int nu, .ref mq])), (mt, .inl (cC, 60, .inl (tx)))] sz (fun (r : Int32) (w : va_W) => (r = 1 ∧ w = [(mm, .inr (5, [.ref mn, .ref mh, .int kp, .ref ms, .int fl, .ref mr, .ref md, .ref mo, .ref mc, .int (nI ln), .ref mt, .int (nI (dE tx ln at9)), .int (zI (dV tx ln at9)), .ref mq])), (mt, .inl (cC, 60, .inl (tx)))] ∧ (isD tx ln at9) ∧ (at9 < dE tx ln at9 ∧ dE tx ln at9 ≤ ln)) ∨ (r = 0 ∧ w = [(mm, .inr (5, [.ref mn, .ref mh, .int kp, .ref ms, .int fl, .ref mr, .ref md, .ref mo, .ref mc, .int (nI ln), .ref mt, .int (nI at9), .int nu, .ref mq])), (mt, .inl (cC, 60, .inl (tx)))] ∧ (¬ isD tx ln at9)))) 0 0 (va_A [(mm, .inr (5, [.ref mn, .ref mh, .int kp, .ref ms, .int fl, .ref mr, .ref md, .ref mo, .ref mc, .int (nI ln), .ref mt, .int (nI at9), .int nu, .ref mq])), (mt, .inl (cC, 60, .inl (tx)))] sz) := by
  refine Met.ofW (cc := cX5_takesNumber) (maxL := 3) (ret := (some .boolean)) (by decide) rfl ?_
  intro p e s m args below meth c s₁ hBd hml hv
  obtain ⟨rfl, hsz, hP, hK, hD0, hE0⟩ := hv
  have hx := hBd.exec
  have hb := hBd.bytes
  have hr := hBd.returns
  have hts := atoms_spec (ws := wsX5_takesNumber) hBd.pre
  have hown : s.vm.findClass RX5 = some m.cls := findClass_of_methodNamed hBd.named
  have hlocks := hBd.notSynchronized
  subst hsz
  obtain ⟨Ar, hAe⟩ : ∃ Ar : Nat → Prop, Ar = va_A [(mm, .inr (5, [.ref mn, .ref mh, .int kp, .ref ms, .int fl, .ref mr, .ref md, .ref mo, .ref mc, .int (nI ln), .ref mt, .int (nI at9), .int nu, .ref mq])), (mt, .inl (cC, 60, .inl (tx)))] s.heap.size := ⟨_, rfl⟩
  have hD : va_D Ar [(mm, .inr (5, [.ref mn, .ref mh, .int kp, .ref ms, .int fl, .ref mr, .ref md, .ref mo, .ref mc, .int (nI ln), .ref mt, .int (nI at9), .int nu, .ref mq])), (mt, .inl (cC, 60, .inl (tx)))] := by rw [hAe]; exact hD0.self
  have hA : ∀ q : Nat, s.heap.size ≤ q → Ar q := fun q h => by rw [hAe]; exact Or.inr h
  have hE : x_E tt Ar s := by rw [hAe]; exact hE0
  have hS : va_S Ar s.heap s.heap [] := va_S.rf
  have hl := lv_entry ([.ref mm, .int 0]) (n := 3) (Nat.le_of_ble_eq_true rfl)
  rw [lg_entry_eq]
  generalize (lg_sl ([.ref mm, .int 0]) ++ List.replicate (3 - (lg_sl ([.ref mm, .int 0])).length) Slot.unset).toArray = ls at hl ⊢
  have hl : lv_has ls 3 [(0, .ref mm), (1, .int 0)] := hl
  refine x_genQ (fun Q hQ => ?_)
  refine lv_iload_n hx hb dX5_takesNumber_0 rfl (lv_at hl 1 rfl) ?_
  refine lv_if_eq (tgt := 17) hx hb dX5_takesNumber_1 (by decide) (fun _ => ?_) (fun h => False.elim (by revert h; decide))
  refine lv_iconst (v := 0) hx hb dX5_takesNumber_17 (by decide) ?_
  refine lv_istore_n (lv' := [(2, .int 0), (0, .ref mm), (1, .int 0)]) hx hb dX5_takesNumber_18 rfl hl (by decide) rfl (fun ls hl => ?_)
  refine lv_aload_n hx hb dX5_takesNumber_19 rfl (lv_at hl 1 rfl) ?_
  refine x_callR (va_runV (As := []) (rest := []) ⟨hx, hb, hml, hown, hts⟩ (c_X5_isDigit l D cI cC cS tt mm mn mh ms mr md mo mc mt mq ln at9 kp fl nu tx (by first | omega | assumption | decide) (by first | omega | assumption | decide)) (cwV 0 hts gX5_takesNumber_X5_isDigit rfl rfl rfl (by decide +kernel) ⟨Nat.le_of_ble_eq_true rfl, Nat.le_of_ble_eq_true rfl⟩) ⟨x_blindR, va_recv hK hP (ci := 5) (q0 := 0) rfl rfl, x_preR (hP.sub (ws' := [(mm, .inr (5, [.ref mn, .ref mh, .int kp, .ref ms, .int fl, .ref mr, .ref md, .ref mo, .ref mc, .int (nI ln), .ref mt, .int (nI at9), .int nu, .ref mq])), (mt, .inl (cC, 60, .inl (tx)))]) [0, 1] rfl) hK hE hS⟩ rfl rfl hl.1 rfl (lv_room (Nat.le_of_ble_eq_true rfl)) dX5_takesNumber_20 ⟨(Nat.le_of_ble_eq_true rfl), (Nat.le_of_ble_eq_true rfl)⟩) ?_
  refine x_ifB_eq (tgt := 44) hx hb dX5_takesNumber_23 (by decide) (fun c_23 => ?_) (fun c_23 => ?_)
  · skip
    refine lv_iconst (v := 0) hx hb dX5_takesNumber_44 (by decide) ?_
    refine x_zretW (w := [(mm, .inr (5, [.ref mn, .ref mh, .int kp, .ref ms, .int fl, .ref mr, .ref md, .ref mo, .ref mc, .int (nI ln), .ref mt, .int (nI at9), .int nu, .ref mq])), (mt, .inl (cC, 60, .inl (tx)))]) hQ hAe hx hb hr hlocks (by decide) (hP.sub [0, 1] rfl) (hD.sub [0, 1] (by decide) rfl) hS ?_ dX5_takesNumber_45
    refine Or.inr (?_)
    exact ⟨rfl, rfl, by omega⟩
  · skip
    refine lv_iload_n hx hb dX5_takesNumber_26 rfl (lv_at hl 0 rfl) ?_
    refine lv_if_eq (tgt := 46) hx hb dX5_takesNumber_27 (by decide) (fun _ => ?_) (fun h => False.elim (by revert h; decide))
    refine lv_aload_n hx hb dX5_takesNumber_46 rfl (lv_at hl 1 rfl) ?_
    refine lv_aload_n hx hb dX5_takesNumber_47 rfl (lv_at hl 1 rfl) ?_
    refine va_get (v := .ref mt) (D := D) (ci := 5) (C := RX5) (T := TX5) (N := 14) hx hb hts (by decide +kernel) hown hK hP 0 rfl rfl 10 (by decide) (hts (.fieldLink RX5 31 "SpiralFramesModel" "text" "[C") (by decide +kernel)) (fun _ h9 => h9) rfl dX5_takesNumber_48 ?_
    refine lv_aload_n hx hb dX5_takesNumber_51 rfl (lv_at hl 1 rfl) ?_
    refine va_get (v := .int (nI at9)) (D := D) (ci := 5) (C := RX5) (T := TX5) (N := 14) hx hb hts (by decide +kernel) hown hK hP 0 rfl rfl 11 (by decide) (hts (.fieldLink RX5 123 "SpiralFramesModel" "at" "I") (by decide +kernel)) (fun _ h9 => h9) rfl dX5_takesNumber_52 ?_
    refine x_cald hx hb hK hP 1 1 rfl rfl (k := at9) (by omega) (by decide) dX5_takesNumber_55 ?_
    refine x_eqi (show tx at9 = tx at9 from rfl) ?_
    refine lv_bipush (v := 48) hx hb dX5_takesNumber_56 (by decide) ?_
    refine lv_isub hx hb dX5_takesNumber_58 ?_
    refine va_put (v := .int ((tx at9) - 48)) (ty := .int) (D := D) (ci := 5) (C := RX5) (T := TX5) (N := 14) hx hb hts (by decide +kernel) tyX5 tyX5_ok nmX5 hown hK hP hD hS 0 rfl rfl 12 (by decide) (hts (.fieldLink RX5 133 "SpiralFramesModel" "number" "I") (by decide +kernel)) (fun _ h9 => h9) rfl (by decide +kernel) rfl rfl (Nat.le_of_ble_eq_true rfl) dX5_takesNumber_59 (fun H locs hP hD hS => ?_)
    have hP : va_P D vwCl [(mm, .inr (5, [.ref mn, .ref mh, .int kp, .ref ms, .int fl, .ref mr, .ref md, .ref mo, .ref mc, .int (nI ln), .ref mt, .int (nI at9), .int ((tx at9) - 48), .ref mq])), (mt, .inl (cC, 60, .inl (tx)))] H := hP
    have hD : va_D (Ar) [(mm, .inr (5, [.ref mn, .ref mh, .int kp, .ref ms, .int fl, .ref mr, .ref md, .ref mo, .ref mc, .int (nI ln), .ref mt, .int (nI at9), .int ((tx at9) - 48), .ref mq])), (mt, .inl (cC, 60, .inl (tx)))] := hD
    refine lv_aload_n hx hb dX5_takesNumber_62 rfl (lv_at hl 1 rfl) ?_
    refine lv_dup hx hb dX5_takesNumber_63 rfl ?_
    refine va_get (v := .int (nI at9)) (D := D) (ci := 5) (C := RX5) (T := TX5) (N := 14) hx hb hts (by decide +kernel) hown hK hP 0 rfl rfl 11 (by decide) (hts (.fieldLink RX5 123 "SpiralFramesModel" "at" "I") (by decide +kernel)) (fun _ h9 => h9) rfl dX5_takesNumber_64 ?_
    refine lv_iconst (v := 1) hx hb dX5_takesNumber_67 (by decide) ?_
    refine lv_iadd hx hb dX5_takesNumber_68 ?_
    refine x_eqi (show nI at9 + 1 = nI (at9 + 1) from nI_add at9 1) ?_
    refine va_put (v := .int (nI (at9 + 1))) (ty := .int) (D := D) (ci := 5) (C := RX5) (T := TX5) (N := 14) hx hb hts (by decide +kernel) tyX5 tyX5_ok nmX5 hown hK hP hD hS 0 rfl rfl 11 (by decide) (hts (.fieldLink RX5 123 "SpiralFramesModel" "at" "I") (by decide +kernel)) (fun _ h9 => h9) rfl (by decide +kernel) rfl rfl (Nat.le_of_ble_eq_true rfl) dX5_takesNumber_69 (fun H locs hP hD hS => ?_)
    have hP : va_P D vwCl [(mm, .inr (5, [.ref mn, .ref mh, .int kp, .ref ms, .int fl, .ref mr, .ref md, .ref mo, .ref mc, .int (nI ln), .ref mt, .int (nI (at9 + 1)), .int ((tx at9) - 48), .ref mq])), (mt, .inl (cC, 60, .inl (tx)))] H := hP
    have hD : va_D (Ar) [(mm, .inr (5, [.ref mn, .ref mh, .int kp, .ref ms, .int fl, .ref mr, .ref md, .ref mo, .ref mc, .int (nI ln), .ref mt, .int (nI (at9 + 1)), .int ((tx at9) - 48), .ref mq])), (mt, .inl (cC, 60, .inl (tx)))] := hD
    refine lv_aload_n hx hb dX5_takesNumber_72 rfl (lv_at hl 1 rfl) ?_
    refine va_get (v := .int ((tx at9) - 48)) (D := D) (ci := 5) (C := RX5) (T := TX5) (N := 14) hx hb hts (by decide +kernel) hown hK hP 0 rfl rfl 12 (by decide) (hts (.fieldLink RX5 133 "SpiralFramesModel" "number" "I") (by decide +kernel)) (fun _ h9 => h9) rfl dX5_takesNumber_73 ?_
    refine x_if_le (tgt := 120) hx hb dX5_takesNumber_76 (by decide) (X := ((tx at9).toInt - 48)) (x_subI rfl (show (48 : Int32).toInt = 48 from by decide) (by omega) (by omega)) (fun c_76 => ?_) (fun c_76 => ?_)
    · skip
      refine lv_aload_n hx hb dX5_takesNumber_120 rfl (lv_at hl 1 rfl) ?_
      refine lv_iload_n hx hb dX5_takesNumber_121 rfl (lv_at hl 0 rfl) ?_
      refine lv_if_eq (tgt := 133) hx hb dX5_takesNumber_122 (by decide) (fun _ => ?_) (fun h => False.elim (by revert h; decide))
      refine lv_aload_n hx hb dX5_takesNumber_133 rfl (lv_at hl 1 rfl) ?_
      refine va_get (v := .int ((tx at9) - 48)) (D := D) (ci := 5) (C := RX5) (T := TX5) (N := 14) hx hb hts (by decide +kernel) hown hK hP 0 rfl rfl 12 (by decide) (hts (.fieldLink RX5 133 "SpiralFramesModel" "number" "I") (by decide +kernel)) (fun _ h9 => h9) rfl dX5_takesNumber_134 ?_
      refine x_eqi (show (tx at9) - 48 = zI (dV tx ln at9) from zI_eq (x_subI rfl (show (48 : Int32).toInt = 48 from by decide) (by omega) (by omega)) (by unfold dV; split <;> omega)) ?_
      refine va_put (v := .int (zI (dV tx ln at9))) (ty := .int) (D := D) (ci := 5) (C := RX5) (T := TX5) (N := 14) hx hb hts (by decide +kernel) tyX5 tyX5_ok nmX5 hown hK hP hD hS 0 rfl rfl 12 (by decide) (hts (.fieldLink RX5 133 "SpiralFramesModel" "number" "I") (by decide +kernel)) (fun _ h9 => h9) rfl (by decide +kernel) rfl rfl (Nat.le_of_ble_eq_true rfl) dX5_takesNumber_137 (fun H locs hP hD hS => ?_)
      have hP : va_P D vwCl [(mm, .inr (5, [.ref mn, .ref mh, .int kp, .ref ms, .int fl, .ref mr, .ref md, .ref mo, .ref mc, .int (nI ln), .ref mt, .int (nI (at9 + 1)), .int (zI (dV tx ln at9)), .ref mq])), (mt, .inl (cC, 60, .inl (tx)))] H := hP
      have hD : va_D (Ar) [(mm, .inr (5, [.ref mn, .ref mh, .int kp, .ref ms, .int fl, .ref mr, .ref md, .ref mo, .ref mc, .int (nI ln), .ref mt, .int (nI (at9 + 1)), .int (zI (dV tx ln at9)), .ref mq])), (mt, .inl (cC, 60, .inl (tx)))] := hD
      refine lv_iconst (v := 1) hx hb dX5_takesNumber_140 (by decide) ?_
      refine x_zretW (w := [(mm, .inr (5, [.ref mn, .ref mh, .int kp, .ref ms, .int fl, .ref mr, .ref md, .ref mo, .ref mc, .int (nI ln), .ref mt, .int (nI (at9 + 1)), .int (zI (dV tx ln at9)), .ref mq])), (mt, .inl (cC, 60, .inl (tx)))]) hQ hAe hx hb hr hlocks (by decide) (hP.sub [0, 1] rfl) (hD.sub [0, 1] (by decide) rfl) hS ?_ dX5_takesNumber_141
      refine Or.inl ?_
      exact ⟨rfl, by first | rw [dE_2 (by omega)] | rw [dE_1 (by omega)], by omega, dE_le (by omega)⟩
    · skip
      refine lv_aload_n hx hb dX5_takesNumber_79 rfl (lv_at hl 1 rfl) ?_
      refine x_callR (va_runV (As := []) (rest := []) ⟨hx, hb, hml, hown, hts⟩ (c_X5_isDigit l D cI cC cS tt mm mn mh ms mr md mo mc mt mq ln (at9 + 1) kp fl ((tx at9) - 48) tx (by first | omega | assumption | decide) (by first | omega | assumption | decide)) (cwV 0 hts gX5_takesNumber_X5_isDigit rfl rfl rfl (by decide +kernel) ⟨Nat.le_of_ble_eq_true rfl, Nat.le_of_ble_eq_true rfl⟩) ⟨x_blindR, va_recv hK hP (ci := 5) (q0 := 0) rfl rfl, x_preR (hP.sub (ws' := [(mm, .inr (5, [.ref mn, .ref mh, .int kp, .ref ms, .int fl, .ref mr, .ref md, .ref mo, .ref mc, .int (nI ln), .ref mt, .int (nI ((at9 + 1))), .int ((tx at9) - 48), .ref mq])), (mt, .inl (cC, 60, .inl (tx)))]) [0, 1] rfl) hK hE hS⟩ rfl rfl hl.1 rfl (lv_room (Nat.le_of_ble_eq_true rfl)) dX5_takesNumber_80 ⟨(Nat.le_of_ble_eq_true rfl), (Nat.le_of_ble_eq_true rfl)⟩) ?_
      refine x_ifB_eq (tgt := 120) hx hb dX5_takesNumber_83 (by decide) (fun c_83 => ?_) (fun c_83 => ?_)
      · skip
        refine lv_aload_n hx hb dX5_takesNumber_120 rfl (lv_at hl 1 rfl) ?_
        refine lv_iload_n hx hb dX5_takesNumber_121 rfl (lv_at hl 0 rfl) ?_
        refine lv_if_eq (tgt := 133) hx hb dX5_takesNumber_122 (by decide) (fun _ => ?_) (fun h => False.elim (by revert h; decide))
        refine lv_aload_n hx hb dX5_takesNumber_133 rfl (lv_at hl 1 rfl) ?_
        refine va_get (v := .int ((tx at9) - 48)) (D := D) (ci := 5) (C := RX5) (T := TX5) (N := 14) hx hb hts (by decide +kernel) hown hK hP 0 rfl rfl 12 (by decide) (hts (.fieldLink RX5 133 "SpiralFramesModel" "number" "I") (by decide +kernel)) (fun _ h9 => h9) rfl dX5_takesNumber_134 ?_
        refine x_eqi (show (tx at9) - 48 = zI (dV tx ln at9) from zI_eq (x_subI rfl (show (48 : Int32).toInt = 48 from by decide) (by omega) (by omega)) (by unfold dV; split <;> omega)) ?_
        refine va_put (v := .int (zI (dV tx ln at9))) (ty := .int) (D := D) (ci := 5) (C := RX5) (T := TX5) (N := 14) hx hb hts (by decide +kernel) tyX5 tyX5_ok nmX5 hown hK hP hD hS 0 rfl rfl 12 (by decide) (hts (.fieldLink RX5 133 "SpiralFramesModel" "number" "I") (by decide +kernel)) (fun _ h9 => h9) rfl (by decide +kernel) rfl rfl (Nat.le_of_ble_eq_true rfl) dX5_takesNumber_137 (fun H locs hP hD hS => ?_)
        have hP : va_P D vwCl [(mm, .inr (5, [.ref mn, .ref mh, .int kp, .ref ms, .int fl, .ref mr, .ref md, .ref mo, .ref mc, .int (nI ln), .ref mt, .int (nI (at9 + 1)), .int (zI (dV tx ln at9)), .ref mq])), (mt, .inl (cC, 60, .inl (tx)))] H := hP
        have hD : va_D (Ar) [(mm, .inr (5, [.ref mn, .ref mh, .int kp, .ref ms, .int fl, .ref mr, .ref md, .ref mo, .ref mc, .int (nI ln), .ref mt, .int (nI (at9 + 1)), .int (zI (dV tx ln at9)), .ref mq])), (mt, .inl (cC, 60, .inl (tx)))] := hD
        refine lv_iconst (v := 1) hx hb dX5_takesNumber_140 (by decide) ?_
        refine x_zretW (w := [(mm, .inr (5, [.ref mn, .ref mh, .int kp, .ref ms, .int fl, .ref mr, .ref md, .ref mo, .ref mc, .int (nI ln), .ref mt, .int (nI (at9 + 1)), .int (zI (dV tx ln at9)), .ref mq])), (mt, .inl (cC, 60, .inl (tx)))]) hQ hAe hx hb hr hlocks (by decide) (hP.sub [0, 1] rfl) (hD.sub [0, 1] (by decide) rfl) hS ?_ dX5_takesNumber_141
        refine Or.inl ?_
        exact ⟨rfl, by first | rw [dE_2 (by omega)] | rw [dE_1 (by omega)], by omega, dE_le (by omega)⟩
      · skip
        refine lv_aload_n hx hb dX5_takesNumber_86 rfl (lv_at hl 1 rfl) ?_
        refine lv_bipush (v := 10) hx hb dX5_takesNumber_87 (by decide) ?_
        refine lv_aload_n hx hb dX5_takesNumber_89 rfl (lv_at hl 1 rfl) ?_
        refine va_get (v := .int ((tx at9) - 48)) (D := D) (ci := 5) (C := RX5) (T := TX5) (N := 14) hx hb hts (by decide +kernel) hown hK hP 0 rfl rfl 12 (by decide) (hts (.fieldLink RX5 133 "SpiralFramesModel" "number" "I") (by decide +kernel)) (fun _ h9 => h9) rfl dX5_takesNumber_90 ?_
        refine lv_imul hx hb dX5_takesNumber_93 ?_
        refine lv_aload_n hx hb dX5_takesNumber_94 rfl (lv_at hl 1 rfl) ?_
        refine va_get (v := .ref mt) (D := D) (ci := 5) (C := RX5) (T := TX5) (N := 14) hx hb hts (by decide +kernel) hown hK hP 0 rfl rfl 10 (by decide) (hts (.fieldLink RX5 31 "SpiralFramesModel" "text" "[C") (by decide +kernel)) (fun _ h9 => h9) rfl dX5_takesNumber_95 ?_
        refine lv_aload_n hx hb dX5_takesNumber_98 rfl (lv_at hl 1 rfl) ?_
        refine va_get (v := .int (nI (at9 + 1))) (D := D) (ci := 5) (C := RX5) (T := TX5) (N := 14) hx hb hts (by decide +kernel) hown hK hP 0 rfl rfl 11 (by decide) (hts (.fieldLink RX5 123 "SpiralFramesModel" "at" "I") (by decide +kernel)) (fun _ h9 => h9) rfl dX5_takesNumber_99 ?_
        refine x_cald hx hb hK hP 1 1 rfl rfl (k := at9 + 1) (by omega) (by decide) dX5_takesNumber_102 ?_
        refine x_eqi (show tx (at9 + 1) = tx (at9 + 1) from rfl) ?_
        refine lv_iadd hx hb dX5_takesNumber_103 ?_
        refine lv_bipush (v := 48) hx hb dX5_takesNumber_104 (by decide) ?_
        refine lv_isub hx hb dX5_takesNumber_106 ?_
        refine va_put (v := .int (((10 * ((tx at9) - 48)) + (tx (at9 + 1))) - 48)) (ty := .int) (D := D) (ci := 5) (C := RX5) (T := TX5) (N := 14) hx hb hts (by decide +kernel) tyX5 tyX5_ok nmX5 hown hK hP hD hS 0 rfl rfl 12 (by decide) (hts (.fieldLink RX5 133 "SpiralFramesModel" "number" "I") (by decide +kernel)) (fun _ h9 => h9) rfl (by decide +kernel) rfl rfl (Nat.le_of_ble_eq_true rfl) dX5_takesNumber_107 (fun H locs hP hD hS => ?_)
        have hP : va_P D vwCl [(mm, .inr (5, [.ref mn, .ref mh, .int kp, .ref ms, .int fl, .ref mr, .ref md, .ref mo, .ref mc, .int (nI ln), .ref mt, .int (nI (at9 + 1)), .int (((10 * ((tx at9) - 48)) + (tx (at9 + 1))) - 48), .ref mq])), (mt, .inl (cC, 60, .inl (tx)))] H := hP
        have hD : va_D (Ar) [(mm, .inr (5, [.ref mn, .ref mh, .int kp, .ref ms, .int fl, .ref mr, .ref md, .ref mo, .ref mc, .int (nI ln), .ref mt, .int (nI (at9 + 1)), .int (((10 * ((tx at9) - 48)) + (tx (at9 + 1))) - 48), .ref mq])), (mt, .inl (cC, 60, .inl (tx)))] := hD
        refine lv_aload_n hx hb dX5_takesNumber_110 rfl (lv_at hl 1 rfl) ?_
        refine lv_dup hx hb dX5_takesNumber_111 rfl ?_
        refine va_get (v := .int (nI (at9 + 1))) (D := D) (ci := 5) (C := RX5) (T := TX5) (N := 14) hx hb hts (by decide +kernel) hown hK hP 0 rfl rfl 11 (by decide) (hts (.fieldLink RX5 123 "SpiralFramesModel" "at" "I") (by decide +kernel)) (fun _ h9 => h9) rfl dX5_takesNumber_112 ?_
        refine lv_iconst (v := 1) hx hb dX5_takesNumber_115 (by decide) ?_
        refine lv_iadd hx hb dX5_takesNumber_116 ?_
        refine x_eqi (show nI (at9 + 1) + 1 = nI ((at9 + 1) + 1) from nI_add (at9 + 1) 1) ?_
        refine va_put (v := .int (nI ((at9 + 1) + 1))) (ty := .int) (D := D) (ci := 5) (C := RX5) (T := TX5) (N := 14) hx hb hts (by decide +kernel) tyX5 tyX5_ok nmX5 hown hK hP hD hS 0 rfl rfl 11 (by decide) (hts (.fieldLink RX5 123 "SpiralFramesModel" "at" "I") (by decide +kernel)) (fun _ h9 => h9) rfl (by decide +kernel) rfl rfl (Nat.le_of_ble_eq_true rfl) dX5_takesNumber_117 (fun H locs hP hD hS => ?_)
        have hP : va_P D vwCl [(mm, .inr (5, [.ref mn, .ref mh, .int kp, .ref ms, .int fl, .ref mr, .ref md, .ref mo, .ref mc, .int (nI ln), .ref mt, .int (nI ((at9 + 1) + 1)), .int (((10 * ((tx at9) - 48)) + (tx (at9 + 1))) - 48), .ref mq])), (mt, .inl (cC, 60, .inl (tx)))] H := hP
        have hD : va_D (Ar) [(mm, .inr (5, [.ref mn, .ref mh, .int kp, .ref ms, .int fl, .ref mr, .ref md, .ref mo, .ref mc, .int (nI ln), .ref mt, .int (nI ((at9 + 1) + 1)), .int (((10 * ((tx at9) - 48)) + (tx (at9 + 1))) - 48), .ref mq])), (mt, .inl (cC, 60, .inl (tx)))] := hD
        refine lv_aload_n hx hb dX5_takesNumber_120 rfl (lv_at hl 1 rfl) ?_
        refine lv_iload_n hx hb dX5_takesNumber_121 rfl (lv_at hl 0 rfl) ?_
        refine lv_if_eq (tgt := 133) hx hb dX5_takesNumber_122 (by decide) (fun _ => ?_) (fun h => False.elim (by revert h; decide))
        refine lv_aload_n hx hb dX5_takesNumber_133 rfl (lv_at hl 1 rfl) ?_
        refine va_get (v := .int (((10 * ((tx at9) - 48)) + (tx (at9 + 1))) - 48)) (D := D) (ci := 5) (C := RX5) (T := TX5) (N := 14) hx hb hts (by decide +kernel) hown hK hP 0 rfl rfl 12 (by decide) (hts (.fieldLink RX5 133 "SpiralFramesModel" "number" "I") (by decide +kernel)) (fun _ h9 => h9) rfl dX5_takesNumber_134 ?_
        refine x_eqi (show ((10 * ((tx at9) - 48)) + (tx (at9 + 1))) - 48 = zI (dV tx ln at9) from zI_eq (x_subI (x_addI (x_mulI (show (10 : Int32).toInt = 10 from by decide) (x_subI rfl (show (48 : Int32).toInt = 48 from by decide) (by omega) (by omega)) (by omega) (by omega)) rfl (by omega) (by omega)) (show (48 : Int32).toInt = 48 from by decide) (by omega) (by omega)) (by unfold dV; split <;> omega)) ?_
        refine va_put (v := .int (zI (dV tx ln at9))) (ty := .int) (D := D) (ci := 5) (C := RX5) (T := TX5) (N := 14) hx hb hts (by decide +kernel) tyX5 tyX5_ok nmX5 hown hK hP hD hS 0 rfl rfl 12 (by decide) (hts (.fieldLink RX5 133 "SpiralFramesModel" "number" "I") (by decide +kernel)) (fun _ h9 => h9) rfl (by decide +kernel) rfl rfl (Nat.le_of_ble_eq_true rfl) dX5_takesNumber_137 (fun H locs hP hD hS => ?_)
        have hP : va_P D vwCl [(mm, .inr (5, [.ref mn, .ref mh, .int kp, .ref ms, .int fl, .ref mr, .ref md, .ref mo, .ref mc, .int (nI ln), .ref mt, .int (nI ((at9 + 1) + 1)), .int (zI (dV tx ln at9)), .ref mq])), (mt, .inl (cC, 60, .inl (tx)))] H := hP
        have hD : va_D (Ar) [(mm, .inr (5, [.ref mn, .ref mh, .int kp, .ref ms, .int fl, .ref mr, .ref md, .ref mo, .ref mc, .int (nI ln), .ref mt, .int (nI ((at9 + 1) + 1)), .int (zI (dV tx ln at9)), .ref mq])), (mt, .inl (cC, 60, .inl (tx)))] := hD
        refine lv_iconst (v := 1) hx hb dX5_takesNumber_140 (by decide) ?_
        refine x_zretW (w := [(mm, .inr (5, [.ref mn, .ref mh, .int kp, .ref ms, .int fl, .ref mr, .ref md, .ref mo, .ref mc, .int (nI ln), .ref mt, .int (nI ((at9 + 1) + 1)), .int (zI (dV tx ln at9)), .ref mq])), (mt, .inl (cC, 60, .inl (tx)))]) hQ hAe hx hb hr hlocks (by decide) (hP.sub [0, 1] rfl) (hD.sub [0, 1] (by decide) rfl) hS ?_ dX5_takesNumber_141
        refine Or.inl ?_
        exact ⟨rfl, by first | rw [dE_2 (by omega)] | rw [dE_1 (by omega)], by omega, dE_le (by omega)⟩
set_option maxHeartbeats 4000000 in
set_option maxRecDepth 100000 in
theorem c_X5_takesNumber_1 (l : Launch) (D : va_G) (cI cC cS : ClassId) (tt : Nat → Nat) (sz : Nat) (mm : Nat) (mn : Nat) (mh : Nat) (ms : Nat) (mr : Nat) (md : Nat) (mo : Nat) (mc : Nat) (mt : Nat) (mq : Nat) (ln : Nat) (at9 : Nat) (kp : Int32) (fl : Int32) (nu : Int32) (tx : Nat → Int32) (hh0 : ln ≤ 60) (hh1 : at9 ≤ ln) : Met l yX5_takesNumber wsX5_takesNumber ({ frames := 2, cells := 0, slots := 0, locals := 42 } : Room) (x_PW D cI cC cS tt [(mm, .inr (5, [.ref mn, .ref mh, .int kp, .ref ms, .int fl, .ref mr, .ref md, .ref mo, .ref mc, .int (nI ln), .ref mt, .int (nI at9), .int nu, .ref mq])), (mt, .inl (cC, 60, .inl (tx)))] sz [.ref mm, .int 1]) (x_QWi D [(mm, .inr (5, [.ref mn, .ref mh, .int kp, .ref ms, .int fl, .ref mr, .ref md, .ref mo, .ref mc, .int (nI ln), .ref mt, .int (nI at9), .int nu, .ref mq])), (mt, .inl (cC, 60, .inl (tx)))] sz (fun (r : Int32) (w : va_W) => (r = 1 ∧ w = [(mm, .inr (5, [.ref mn, .ref mh, .int kp, .ref ms, .int fl, .ref mr, .ref md, .ref mo, .ref mc, .int (nI ln), .ref mt, .int (nI (nE tx ln at9)), .int (zI (nV tx ln at9)), .ref mq])), (mt, .inl (cC, 60, .inl (tx)))] ∧ (nOk tx ln at9) ∧ (at9 < nE tx ln at9 ∧ nE tx ln at9 ≤ ln)) ∨ (r = 0 ∧ w = [(mm, .inr (5, [.ref mn, .ref mh, .int kp, .ref ms, .int fl, .ref mr, .ref md, .ref mo, .ref mc, .int (nI ln), .ref mt, .int (nI (nF tx ln at9)), .int nu, .ref mq])), (mt, .inl (cC, 60, .inl (tx)))] ∧ (¬ nOk tx ln at9)))) 0 0 (va_A [(mm, .inr (5, [.ref mn, .ref mh, .int kp, .ref ms, .int fl, .ref mr, .ref md, .ref mo, .ref mc, .int (nI ln), .ref mt, .int (nI at9), .int nu, .ref mq])), (mt, .inl (cC, 60, .inl (tx)))] sz) := by
  refine Met.ofW (cc := cX5_takesNumber) (maxL := 3) (ret := (some .boolean)) (by decide) rfl ?_
  intro p e s m args below meth c s₁ hBd hml hv
  obtain ⟨rfl, hsz, hP, hK, hD0, hE0⟩ := hv
  have hx := hBd.exec
  have hb := hBd.bytes
  have hr := hBd.returns
  have hts := atoms_spec (ws := wsX5_takesNumber) hBd.pre
  have hown : s.vm.findClass RX5 = some m.cls := findClass_of_methodNamed hBd.named
  have hlocks := hBd.notSynchronized
  subst hsz
  obtain ⟨Ar, hAe⟩ : ∃ Ar : Nat → Prop, Ar = va_A [(mm, .inr (5, [.ref mn, .ref mh, .int kp, .ref ms, .int fl, .ref mr, .ref md, .ref mo, .ref mc, .int (nI ln), .ref mt, .int (nI at9), .int nu, .ref mq])), (mt, .inl (cC, 60, .inl (tx)))] s.heap.size := ⟨_, rfl⟩
  have hD : va_D Ar [(mm, .inr (5, [.ref mn, .ref mh, .int kp, .ref ms, .int fl, .ref mr, .ref md, .ref mo, .ref mc, .int (nI ln), .ref mt, .int (nI at9), .int nu, .ref mq])), (mt, .inl (cC, 60, .inl (tx)))] := by rw [hAe]; exact hD0.self
  have hA : ∀ q : Nat, s.heap.size ≤ q → Ar q := fun q h => by rw [hAe]; exact Or.inr h
  have hE : x_E tt Ar s := by rw [hAe]; exact hE0
  have hS : va_S Ar s.heap s.heap [] := va_S.rf
  have hl := lv_entry ([.ref mm, .int 1]) (n := 3) (Nat.le_of_ble_eq_true rfl)
  rw [lg_entry_eq]
  generalize (lg_sl ([.ref mm, .int 1]) ++ List.replicate (3 - (lg_sl ([.ref mm, .int 1])).length) Slot.unset).toArray = ls at hl ⊢
  have hl : lv_has ls 3 [(0, .ref mm), (1, .int 1)] := hl
  refine x_genQ (fun Q hQ => ?_)
  refine lv_iload_n hx hb dX5_takesNumber_0 rfl (lv_at hl 1 rfl) ?_
  refine lv_if_eq (tgt := 17) hx hb dX5_takesNumber_1 (by decide) (fun h => False.elim (by revert h; decide)) (fun _ => ?_)
  refine lv_aload_n hx hb dX5_takesNumber_4 rfl (lv_at hl 0 rfl) ?_
  refine lv_bipush (v := 45) hx hb dX5_takesNumber_5 (by decide) ?_
  refine x_callWi (wc := [(mm, .inr (5, [.ref mn, .ref mh, .int kp, .ref ms, .int fl, .ref mr, .ref md, .ref mo, .ref mc, .int (nI ln), .ref mt, .int (nI at9), .int nu, .ref mq])), (mt, .inl (cC, 60, .inl (tx)))]) (wr := []) (va_runV (As := [.int 45]) (rest := []) ⟨hx, hb, hml, hown, hts⟩ (c_X5_takes l D cI cC cS tt s.heap.size mm mn mh ms mr md mo mc mt mq ln at9 kp fl nu tx 45 45 (show (45 : Int32).toInt = 45 from by decide) (by first | omega | assumption | decide) (by first | omega | assumption | decide)) (cwV 1 hts gX5_takesNumber_X5_takes rfl rfl rfl (by decide +kernel) ⟨Nat.le_of_ble_eq_true rfl, Nat.le_of_ble_eq_true rfl⟩) ⟨x_blindW, va_recv hK hP (ci := 5) (q0 := 0) rfl rfl, x_preW hP hD hK hE hS hA [0, 1] rfl (by decide)⟩ rfl rfl hl.1 rfl (lv_room (Nat.le_of_ble_eq_true rfl)) dX5_takesNumber_7 ⟨(Nat.le_of_ble_eq_true rfl), (Nat.le_of_ble_eq_true rfl)⟩) hP hD hS hA [0, 1] [] rfl rfl (by decide) (by decide) (fun r_1 w1 H locs hw hP hD hS => ?_)
  rcases hw with ⟨rfl, rfl, hf7_0⟩ | ⟨rfl, rfl, hf7_0⟩
  · skip
    have hP : va_P D vwCl [(mm, .inr (5, [.ref mn, .ref mh, .int kp, .ref ms, .int fl, .ref mr, .ref md, .ref mo, .ref mc, .int (nI ln), .ref mt, .int (nI (at9 + 1)), .int nu, .ref mq])), (mt, .inl (cC, 60, .inl (tx)))] H := hP
    have hD : va_D (Ar) [(mm, .inr (5, [.ref mn, .ref mh, .int kp, .ref ms, .int fl, .ref mr, .ref md, .ref mo, .ref mc, .int (nI ln), .ref mt, .int (nI (at9 + 1)), .int nu, .ref mq])), (mt, .inl (cC, 60, .inl (tx)))] := hD
    refine lv_if_eq (tgt := 17) hx hb dX5_takesNumber_10 (by decide) (fun h => False.elim (by revert h; decide)) (fun _ => ?_)
    refine lv_iconst (v := 1) hx hb dX5_takesNumber_13 (by decide) ?_
    refine lv_goto (tgt := 18) hx hb dX5_takesNumber_14 (by decide) ?_
    refine lv_istore_n (lv' := [(2, .int 1), (0, .ref mm), (1, .int 1)]) hx hb dX5_takesNumber_18 rfl hl (by decide) rfl (fun ls hl => ?_)
    refine lv_aload_n hx hb dX5_takesNumber_19 rfl (lv_at hl 1 rfl) ?_
    refine x_callR (va_runV (As := []) (rest := []) ⟨hx, hb, hml, hown, hts⟩ (c_X5_isDigit l D cI cC cS tt mm mn mh ms mr md mo mc mt mq ln (at9 + 1) kp fl nu tx (by first | omega | assumption | decide) (by first | omega | assumption | decide)) (cwV 0 hts gX5_takesNumber_X5_isDigit rfl rfl rfl (by decide +kernel) ⟨Nat.le_of_ble_eq_true rfl, Nat.le_of_ble_eq_true rfl⟩) ⟨x_blindR, va_recv hK hP (ci := 5) (q0 := 0) rfl rfl, x_preR (hP.sub (ws' := [(mm, .inr (5, [.ref mn, .ref mh, .int kp, .ref ms, .int fl, .ref mr, .ref md, .ref mo, .ref mc, .int (nI ln), .ref mt, .int (nI ((at9 + 1))), .int nu, .ref mq])), (mt, .inl (cC, 60, .inl (tx)))]) [0, 1] rfl) hK hE hS⟩ rfl rfl hl.1 rfl (lv_room (Nat.le_of_ble_eq_true rfl)) dX5_takesNumber_20 ⟨(Nat.le_of_ble_eq_true rfl), (Nat.le_of_ble_eq_true rfl)⟩) ?_
    refine x_ifB_eq (tgt := 44) hx hb dX5_takesNumber_23 (by decide) (fun c_23 => ?_) (fun c_23 => ?_)
    · skip
      refine lv_iconst (v := 0) hx hb dX5_takesNumber_44 (by decide) ?_
      refine x_zretW (w := [(mm, .inr (5, [.ref mn, .ref mh, .int kp, .ref ms, .int fl, .ref mr, .ref md, .ref mo, .ref mc, .int (nI ln), .ref mt, .int (nI (at9 + 1)), .int nu, .ref mq])), (mt, .inl (cC, 60, .inl (tx)))]) hQ hAe hx hb hr hlocks (by decide) (hP.sub [0, 1] rfl) (hD.sub [0, 1] (by decide) rfl) hS ?_ dX5_takesNumber_45
      refine Or.inr (?_)
      exact ⟨rfl, by first | rw [nF_0 hf7_0] | rw [nF_1 hf7_0], by first | (rw [nOk_0 hf7_0]; omega) | (rw [nOk_1 hf7_0]; omega)⟩
    · skip
      refine lv_iload_n hx hb dX5_takesNumber_26 rfl (lv_at hl 0 rfl) ?_
      refine lv_if_eq (tgt := 46) hx hb dX5_takesNumber_27 (by decide) (fun h => False.elim (by revert h; decide)) (fun _ => ?_)
      refine lv_aload_n hx hb dX5_takesNumber_30 rfl (lv_at hl 1 rfl) ?_
      refine va_get (v := .ref mt) (D := D) (ci := 5) (C := RX5) (T := TX5) (N := 14) hx hb hts (by decide +kernel) hown hK hP 0 rfl rfl 10 (by decide) (hts (.fieldLink RX5 31 "SpiralFramesModel" "text" "[C") (by decide +kernel)) (fun _ h9 => h9) rfl dX5_takesNumber_31 ?_
      refine lv_aload_n hx hb dX5_takesNumber_34 rfl (lv_at hl 1 rfl) ?_
      refine va_get (v := .int (nI (at9 + 1))) (D := D) (ci := 5) (C := RX5) (T := TX5) (N := 14) hx hb hts (by decide +kernel) hown hK hP 0 rfl rfl 11 (by decide) (hts (.fieldLink RX5 123 "SpiralFramesModel" "at" "I") (by decide +kernel)) (fun _ h9 => h9) rfl dX5_takesNumber_35 ?_
      refine x_cald hx hb hK hP 1 1 rfl rfl (k := at9 + 1) (by omega) (by decide) dX5_takesNumber_38 ?_
      refine x_eqi (show tx (at9 + 1) = tx (at9 + 1) from rfl) ?_
      refine lv_bipush (v := 48) hx hb dX5_takesNumber_39 (by decide) ?_
      refine x_icmp_ne (tgt := 46) hx hb dX5_takesNumber_41 (by decide) (X := (tx (at9 + 1)).toInt) rfl (Y := 48) (show (48 : Int32).toInt = 48 from by decide) (fun c_41 => ?_) (fun c_41 => ?_)
      · skip
        refine lv_aload_n hx hb dX5_takesNumber_46 rfl (lv_at hl 1 rfl) ?_
        refine lv_aload_n hx hb dX5_takesNumber_47 rfl (lv_at hl 1 rfl) ?_
        refine va_get (v := .ref mt) (D := D) (ci := 5) (C := RX5) (T := TX5) (N := 14) hx hb hts (by decide +kernel) hown hK hP 0 rfl rfl 10 (by decide) (hts (.fieldLink RX5 31 "SpiralFramesModel" "text" "[C") (by decide +kernel)) (fun _ h9 => h9) rfl dX5_takesNumber_48 ?_
        refine lv_aload_n hx hb dX5_takesNumber_51 rfl (lv_at hl 1 rfl) ?_
        refine va_get (v := .int (nI (at9 + 1))) (D := D) (ci := 5) (C := RX5) (T := TX5) (N := 14) hx hb hts (by decide +kernel) hown hK hP 0 rfl rfl 11 (by decide) (hts (.fieldLink RX5 123 "SpiralFramesModel" "at" "I") (by decide +kernel)) (fun _ h9 => h9) rfl dX5_takesNumber_52 ?_
        refine x_cald hx hb hK hP 1 1 rfl rfl (k := at9 + 1) (by omega) (by decide) dX5_takesNumber_55 ?_
        refine x_eqi (show tx (at9 + 1) = tx (at9 + 1) from rfl) ?_
        refine lv_bipush (v := 48) hx hb dX5_takesNumber_56 (by decide) ?_
        refine lv_isub hx hb dX5_takesNumber_58 ?_
        refine va_put (v := .int ((tx (at9 + 1)) - 48)) (ty := .int) (D := D) (ci := 5) (C := RX5) (T := TX5) (N := 14) hx hb hts (by decide +kernel) tyX5 tyX5_ok nmX5 hown hK hP hD hS 0 rfl rfl 12 (by decide) (hts (.fieldLink RX5 133 "SpiralFramesModel" "number" "I") (by decide +kernel)) (fun _ h9 => h9) rfl (by decide +kernel) rfl rfl (Nat.le_of_ble_eq_true rfl) dX5_takesNumber_59 (fun H locs hP hD hS => ?_)
        have hP : va_P D vwCl [(mm, .inr (5, [.ref mn, .ref mh, .int kp, .ref ms, .int fl, .ref mr, .ref md, .ref mo, .ref mc, .int (nI ln), .ref mt, .int (nI (at9 + 1)), .int ((tx (at9 + 1)) - 48), .ref mq])), (mt, .inl (cC, 60, .inl (tx)))] H := hP
        have hD : va_D (Ar) [(mm, .inr (5, [.ref mn, .ref mh, .int kp, .ref ms, .int fl, .ref mr, .ref md, .ref mo, .ref mc, .int (nI ln), .ref mt, .int (nI (at9 + 1)), .int ((tx (at9 + 1)) - 48), .ref mq])), (mt, .inl (cC, 60, .inl (tx)))] := hD
        refine lv_aload_n hx hb dX5_takesNumber_62 rfl (lv_at hl 1 rfl) ?_
        refine lv_dup hx hb dX5_takesNumber_63 rfl ?_
        refine va_get (v := .int (nI (at9 + 1))) (D := D) (ci := 5) (C := RX5) (T := TX5) (N := 14) hx hb hts (by decide +kernel) hown hK hP 0 rfl rfl 11 (by decide) (hts (.fieldLink RX5 123 "SpiralFramesModel" "at" "I") (by decide +kernel)) (fun _ h9 => h9) rfl dX5_takesNumber_64 ?_
        refine lv_iconst (v := 1) hx hb dX5_takesNumber_67 (by decide) ?_
        refine lv_iadd hx hb dX5_takesNumber_68 ?_
        refine x_eqi (show nI (at9 + 1) + 1 = nI ((at9 + 1) + 1) from nI_add (at9 + 1) 1) ?_
        refine va_put (v := .int (nI ((at9 + 1) + 1))) (ty := .int) (D := D) (ci := 5) (C := RX5) (T := TX5) (N := 14) hx hb hts (by decide +kernel) tyX5 tyX5_ok nmX5 hown hK hP hD hS 0 rfl rfl 11 (by decide) (hts (.fieldLink RX5 123 "SpiralFramesModel" "at" "I") (by decide +kernel)) (fun _ h9 => h9) rfl (by decide +kernel) rfl rfl (Nat.le_of_ble_eq_true rfl) dX5_takesNumber_69 (fun H locs hP hD hS => ?_)
        have hP : va_P D vwCl [(mm, .inr (5, [.ref mn, .ref mh, .int kp, .ref ms, .int fl, .ref mr, .ref md, .ref mo, .ref mc, .int (nI ln), .ref mt, .int (nI ((at9 + 1) + 1)), .int ((tx (at9 + 1)) - 48), .ref mq])), (mt, .inl (cC, 60, .inl (tx)))] H := hP
        have hD : va_D (Ar) [(mm, .inr (5, [.ref mn, .ref mh, .int kp, .ref ms, .int fl, .ref mr, .ref md, .ref mo, .ref mc, .int (nI ln), .ref mt, .int (nI ((at9 + 1) + 1)), .int ((tx (at9 + 1)) - 48), .ref mq])), (mt, .inl (cC, 60, .inl (tx)))] := hD
        refine lv_aload_n hx hb dX5_takesNumber_72 rfl (lv_at hl 1 rfl) ?_
        refine va_get (v := .int ((tx (at9 + 1)) - 48)) (D := D) (ci := 5) (C := RX5) (T := TX5) (N := 14) hx hb hts (by decide +kernel) hown hK hP 0 rfl rfl 12 (by decide) (hts (.fieldLink RX5 133 "SpiralFramesModel" "number" "I") (by decide +kernel)) (fun _ h9 => h9) rfl dX5_takesNumber_73 ?_
        refine x_if_le (tgt := 120) hx hb dX5_takesNumber_76 (by decide) (X := ((tx (at9 + 1)).toInt - 48)) (x_subI rfl (show (48 : Int32).toInt = 48 from by decide) (by omega) (by omega)) (fun c_76 => ?_) (fun c_76 => ?_)
        · skip
          refine lv_aload_n hx hb dX5_takesNumber_120 rfl (lv_at hl 1 rfl) ?_
          refine lv_iload_n hx hb dX5_takesNumber_121 rfl (lv_at hl 0 rfl) ?_
          refine lv_if_eq (tgt := 133) hx hb dX5_takesNumber_122 (by decide) (fun h => False.elim (by revert h; decide)) (fun _ => ?_)
          refine lv_aload_n hx hb dX5_takesNumber_125 rfl (lv_at hl 1 rfl) ?_
          refine va_get (v := .int ((tx (at9 + 1)) - 48)) (D := D) (ci := 5) (C := RX5) (T := TX5) (N := 14) hx hb hts (by decide +kernel) hown hK hP 0 rfl rfl 12 (by decide) (hts (.fieldLink RX5 133 "SpiralFramesModel" "number" "I") (by decide +kernel)) (fun _ h9 => h9) rfl dX5_takesNumber_126 ?_
          refine lv_ineg hx hb dX5_takesNumber_129 ?_
          refine x_eqi (show -((tx (at9 + 1)) - 48) = zI (nV tx ln at9) from zI_eq (x_negI (x_subI rfl (show (48 : Int32).toInt = 48 from by decide) (by omega) (by omega)) (by omega)) (by rw [nV_1 hf7_0]; unfold dV; split <;> omega)) ?_
          refine lv_goto (tgt := 137) hx hb dX5_takesNumber_130 (by decide) ?_
          refine va_put (v := .int (zI (nV tx ln at9))) (ty := .int) (D := D) (ci := 5) (C := RX5) (T := TX5) (N := 14) hx hb hts (by decide +kernel) tyX5 tyX5_ok nmX5 hown hK hP hD hS 0 rfl rfl 12 (by decide) (hts (.fieldLink RX5 133 "SpiralFramesModel" "number" "I") (by decide +kernel)) (fun _ h9 => h9) rfl (by decide +kernel) rfl rfl (Nat.le_of_ble_eq_true rfl) dX5_takesNumber_137 (fun H locs hP hD hS => ?_)
          have hP : va_P D vwCl [(mm, .inr (5, [.ref mn, .ref mh, .int kp, .ref ms, .int fl, .ref mr, .ref md, .ref mo, .ref mc, .int (nI ln), .ref mt, .int (nI ((at9 + 1) + 1)), .int (zI (nV tx ln at9)), .ref mq])), (mt, .inl (cC, 60, .inl (tx)))] H := hP
          have hD : va_D (Ar) [(mm, .inr (5, [.ref mn, .ref mh, .int kp, .ref ms, .int fl, .ref mr, .ref md, .ref mo, .ref mc, .int (nI ln), .ref mt, .int (nI ((at9 + 1) + 1)), .int (zI (nV tx ln at9)), .ref mq])), (mt, .inl (cC, 60, .inl (tx)))] := hD
          refine lv_iconst (v := 1) hx hb dX5_takesNumber_140 (by decide) ?_
          refine x_zretW (w := [(mm, .inr (5, [.ref mn, .ref mh, .int kp, .ref ms, .int fl, .ref mr, .ref md, .ref mo, .ref mc, .int (nI ln), .ref mt, .int (nI ((at9 + 1) + 1)), .int (zI (nV tx ln at9)), .ref mq])), (mt, .inl (cC, 60, .inl (tx)))]) hQ hAe hx hb hr hlocks (by decide) (hP.sub [0, 1] rfl) (hD.sub [0, 1] (by decide) rfl) hS ?_ dX5_takesNumber_141
          refine Or.inl ?_
          first | (exfalso; omega) | (have ok9 : nOk tx ln at9 := (nOk_0 hf7_0).mpr (by omega); exact ⟨rfl, by rw [nE_0 hf7_0]; first | rw [dE_2 (by omega)] | rw [dE_1 (by omega)], ok9, nE_le ok9⟩) | (have ok9 : nOk tx ln at9 := (nOk_1 hf7_0).mpr (by omega); exact ⟨rfl, by rw [nE_1 hf7_0]; first | rw [dE_2 (by omega)] | rw [dE_1 (by omega)], ok9, nE_le ok9⟩)
        · skip
          refine lv_aload_n hx hb dX5_takesNumber_79 rfl (lv_at hl 1 rfl) ?_
          refine x_callR (va_runV (As := []) (rest := []) ⟨hx, hb, hml, hown, hts⟩ (c_X5_isDigit l D cI cC cS tt mm mn mh ms mr md mo mc mt mq ln ((at9 + 1) + 1) kp fl ((tx (at9 + 1)) - 48) tx (by first | omega | assumption | decide) (by first | omega | assumption | decide)) (cwV 0 hts gX5_takesNumber_X5_isDigit rfl rfl rfl (by decide +kernel) ⟨Nat.le_of_ble_eq_true rfl, Nat.le_of_ble_eq_true rfl⟩) ⟨x_blindR, va_recv hK hP (ci := 5) (q0 := 0) rfl rfl, x_preR (hP.sub (ws' := [(mm, .inr (5, [.ref mn, .ref mh, .int kp, .ref ms, .int fl, .ref mr, .ref md, .ref mo, .ref mc, .int (nI ln), .ref mt, .int (nI (((at9 + 1) + 1))), .int ((tx (at9 + 1)) - 48), .ref mq])), (mt, .inl (cC, 60, .inl (tx)))]) [0, 1] rfl) hK hE hS⟩ rfl rfl hl.1 rfl (lv_room (Nat.le_of_ble_eq_true rfl)) dX5_takesNumber_80 ⟨(Nat.le_of_ble_eq_true rfl), (Nat.le_of_ble_eq_true rfl)⟩) ?_
          refine x_ifB_eq (tgt := 120) hx hb dX5_takesNumber_83 (by decide) (fun c_83 => ?_) (fun c_83 => ?_)
          · skip
            refine lv_aload_n hx hb dX5_takesNumber_120 rfl (lv_at hl 1 rfl) ?_
            refine lv_iload_n hx hb dX5_takesNumber_121 rfl (lv_at hl 0 rfl) ?_
            refine lv_if_eq (tgt := 133) hx hb dX5_takesNumber_122 (by decide) (fun h => False.elim (by revert h; decide)) (fun _ => ?_)
            refine lv_aload_n hx hb dX5_takesNumber_125 rfl (lv_at hl 1 rfl) ?_
            refine va_get (v := .int ((tx (at9 + 1)) - 48)) (D := D) (ci := 5) (C := RX5) (T := TX5) (N := 14) hx hb hts (by decide +kernel) hown hK hP 0 rfl rfl 12 (by decide) (hts (.fieldLink RX5 133 "SpiralFramesModel" "number" "I") (by decide +kernel)) (fun _ h9 => h9) rfl dX5_takesNumber_126 ?_
            refine lv_ineg hx hb dX5_takesNumber_129 ?_
            refine x_eqi (show -((tx (at9 + 1)) - 48) = zI (nV tx ln at9) from zI_eq (x_negI (x_subI rfl (show (48 : Int32).toInt = 48 from by decide) (by omega) (by omega)) (by omega)) (by rw [nV_1 hf7_0]; unfold dV; split <;> omega)) ?_
            refine lv_goto (tgt := 137) hx hb dX5_takesNumber_130 (by decide) ?_
            refine va_put (v := .int (zI (nV tx ln at9))) (ty := .int) (D := D) (ci := 5) (C := RX5) (T := TX5) (N := 14) hx hb hts (by decide +kernel) tyX5 tyX5_ok nmX5 hown hK hP hD hS 0 rfl rfl 12 (by decide) (hts (.fieldLink RX5 133 "SpiralFramesModel" "number" "I") (by decide +kernel)) (fun _ h9 => h9) rfl (by decide +kernel) rfl rfl (Nat.le_of_ble_eq_true rfl) dX5_takesNumber_137 (fun H locs hP hD hS => ?_)
            have hP : va_P D vwCl [(mm, .inr (5, [.ref mn, .ref mh, .int kp, .ref ms, .int fl, .ref mr, .ref md, .ref mo, .ref mc, .int (nI ln), .ref mt, .int (nI ((at9 + 1) + 1)), .int (zI (nV tx ln at9)), .ref mq])), (mt, .inl (cC, 60, .inl (tx)))] H := hP
            have hD : va_D (Ar) [(mm, .inr (5, [.ref mn, .ref mh, .int kp, .ref ms, .int fl, .ref mr, .ref md, .ref mo, .ref mc, .int (nI ln), .ref mt, .int (nI ((at9 + 1) + 1)), .int (zI (nV tx ln at9)), .ref mq])), (mt, .inl (cC, 60, .inl (tx)))] := hD
            refine lv_iconst (v := 1) hx hb dX5_takesNumber_140 (by decide) ?_
            refine x_zretW (w := [(mm, .inr (5, [.ref mn, .ref mh, .int kp, .ref ms, .int fl, .ref mr, .ref md, .ref mo, .ref mc, .int (nI ln), .ref mt, .int (nI ((at9 + 1) + 1)), .int (zI (nV tx ln at9)), .ref mq])), (mt, .inl (cC, 60, .inl (tx)))]) hQ hAe hx hb hr hlocks (by decide) (hP.sub [0, 1] rfl) (hD.sub [0, 1] (by decide) rfl) hS ?_ dX5_takesNumber_141
            refine Or.inl ?_
            first | (exfalso; omega) | (have ok9 : nOk tx ln at9 := (nOk_0 hf7_0).mpr (by omega); exact ⟨rfl, by rw [nE_0 hf7_0]; first | rw [dE_2 (by omega)] | rw [dE_1 (by omega)], ok9, nE_le ok9⟩) | (have ok9 : nOk tx ln at9 := (nOk_1 hf7_0).mpr (by omega); exact ⟨rfl, by rw [nE_1 hf7_0]; first | rw [dE_2 (by omega)] | rw [dE_1 (by omega)], ok9, nE_le ok9⟩)
          · skip
            refine lv_aload_n hx hb dX5_takesNumber_86 rfl (lv_at hl 1 rfl) ?_
            refine lv_bipush (v := 10) hx hb dX5_takesNumber_87 (by decide) ?_
            refine lv_aload_n hx hb dX5_takesNumber_89 rfl (lv_at hl 1 rfl) ?_
            refine va_get (v := .int ((tx (at9 + 1)) - 48)) (D := D) (ci := 5) (C := RX5) (T := TX5) (N := 14) hx hb hts (by decide +kernel) hown hK hP 0 rfl rfl 12 (by decide) (hts (.fieldLink RX5 133 "SpiralFramesModel" "number" "I") (by decide +kernel)) (fun _ h9 => h9) rfl dX5_takesNumber_90 ?_
            refine lv_imul hx hb dX5_takesNumber_93 ?_
            refine lv_aload_n hx hb dX5_takesNumber_94 rfl (lv_at hl 1 rfl) ?_
            refine va_get (v := .ref mt) (D := D) (ci := 5) (C := RX5) (T := TX5) (N := 14) hx hb hts (by decide +kernel) hown hK hP 0 rfl rfl 10 (by decide) (hts (.fieldLink RX5 31 "SpiralFramesModel" "text" "[C") (by decide +kernel)) (fun _ h9 => h9) rfl dX5_takesNumber_95 ?_
            refine lv_aload_n hx hb dX5_takesNumber_98 rfl (lv_at hl 1 rfl) ?_
            refine va_get (v := .int (nI ((at9 + 1) + 1))) (D := D) (ci := 5) (C := RX5) (T := TX5) (N := 14) hx hb hts (by decide +kernel) hown hK hP 0 rfl rfl 11 (by decide) (hts (.fieldLink RX5 123 "SpiralFramesModel" "at" "I") (by decide +kernel)) (fun _ h9 => h9) rfl dX5_takesNumber_99 ?_
            refine x_cald hx hb hK hP 1 1 rfl rfl (k := (at9 + 1) + 1) (by omega) (by decide) dX5_takesNumber_102 ?_
            refine x_eqi (show tx ((at9 + 1) + 1) = tx ((at9 + 1) + 1) from rfl) ?_
            refine lv_iadd hx hb dX5_takesNumber_103 ?_
            refine lv_bipush (v := 48) hx hb dX5_takesNumber_104 (by decide) ?_
            refine lv_isub hx hb dX5_takesNumber_106 ?_
            refine va_put (v := .int (((10 * ((tx (at9 + 1)) - 48)) + (tx ((at9 + 1) + 1))) - 48)) (ty := .int) (D := D) (ci := 5) (C := RX5) (T := TX5) (N := 14) hx hb hts (by decide +kernel) tyX5 tyX5_ok nmX5 hown hK hP hD hS 0 rfl rfl 12 (by decide) (hts (.fieldLink RX5 133 "SpiralFramesModel" "number" "I") (by decide +kernel)) (fun _ h9 => h9) rfl (by decide +kernel) rfl rfl (Nat.le_of_ble_eq_true rfl) dX5_takesNumber_107 (fun H locs hP hD hS => ?_)
            have hP : va_P D vwCl [(mm, .inr (5, [.ref mn, .ref mh, .int kp, .ref ms, .int fl, .ref mr, .ref md, .ref mo, .ref mc, .int (nI ln), .ref mt, .int (nI ((at9 + 1) + 1)), .int (((10 * ((tx (at9 + 1)) - 48)) + (tx ((at9 + 1) + 1))) - 48), .ref mq])), (mt, .inl (cC, 60, .inl (tx)))] H := hP
            have hD : va_D (Ar) [(mm, .inr (5, [.ref mn, .ref mh, .int kp, .ref ms, .int fl, .ref mr, .ref md, .ref mo, .ref mc, .int (nI ln), .ref mt, .int (nI ((at9 + 1) + 1)), .int (((10 * ((tx (at9 + 1)) - 48)) + (tx ((at9 + 1) + 1))) - 48), .ref mq])), (mt, .inl (cC, 60, .inl (tx)))] := hD
            refine lv_aload_n hx hb dX5_takesNumber_110 rfl (lv_at hl 1 rfl) ?_
            refine lv_dup hx hb dX5_takesNumber_111 rfl ?_
            refine va_get (v := .int (nI ((at9 + 1) + 1))) (D := D) (ci := 5) (C := RX5) (T := TX5) (N := 14) hx hb hts (by decide +kernel) hown hK hP 0 rfl rfl 11 (by decide) (hts (.fieldLink RX5 123 "SpiralFramesModel" "at" "I") (by decide +kernel)) (fun _ h9 => h9) rfl dX5_takesNumber_112 ?_
            refine lv_iconst (v := 1) hx hb dX5_takesNumber_115 (by decide) ?_
            refine lv_iadd hx hb dX5_takesNumber_116 ?_
            refine x_eqi (show nI ((at9 + 1) + 1) + 1 = nI (((at9 + 1) + 1) + 1) from nI_add ((at9 + 1) + 1) 1) ?_
            refine va_put (v := .int (nI (((at9 + 1) + 1) + 1))) (ty := .int) (D := D) (ci := 5) (C := RX5) (T := TX5) (N := 14) hx hb hts (by decide +kernel) tyX5 tyX5_ok nmX5 hown hK hP hD hS 0 rfl rfl 11 (by decide) (hts (.fieldLink RX5 123 "SpiralFramesModel" "at" "I") (by decide +kernel)) (fun _ h9 => h9) rfl (by decide +kernel) rfl rfl (Nat.le_of_ble_eq_true rfl) dX5_takesNumber_117 (fun H locs hP hD hS => ?_)
            have hP : va_P D vwCl [(mm, .inr (5, [.ref mn, .ref mh, .int kp, .ref ms, .int fl, .ref mr, .ref md, .ref mo, .ref mc, .int (nI ln), .ref mt, .int (nI (((at9 + 1) + 1) + 1)), .int (((10 * ((tx (at9 + 1)) - 48)) + (tx ((at9 + 1) + 1))) - 48), .ref mq])), (mt, .inl (cC, 60, .inl (tx)))] H := hP
            have hD : va_D (Ar) [(mm, .inr (5, [.ref mn, .ref mh, .int kp, .ref ms, .int fl, .ref mr, .ref md, .ref mo, .ref mc, .int (nI ln), .ref mt, .int (nI (((at9 + 1) + 1) + 1)), .int (((10 * ((tx (at9 + 1)) - 48)) + (tx ((at9 + 1) + 1))) - 48), .ref mq])), (mt, .inl (cC, 60, .inl (tx)))] := hD
            refine lv_aload_n hx hb dX5_takesNumber_120 rfl (lv_at hl 1 rfl) ?_
            refine lv_iload_n hx hb dX5_takesNumber_121 rfl (lv_at hl 0 rfl) ?_
            refine lv_if_eq (tgt := 133) hx hb dX5_takesNumber_122 (by decide) (fun h => False.elim (by revert h; decide)) (fun _ => ?_)
            refine lv_aload_n hx hb dX5_takesNumber_125 rfl (lv_at hl 1 rfl) ?_
            refine va_get (v := .int (((10 * ((tx (at9 + 1)) - 48)) + (tx ((at9 + 1) + 1))) - 48)) (D := D) (ci := 5) (C := RX5) (T := TX5) (N := 14) hx hb hts (by decide +kernel) hown hK hP 0 rfl rfl 12 (by decide) (hts (.fieldLink RX5 133 "SpiralFramesModel" "number" "I") (by decide +kernel)) (fun _ h9 => h9) rfl dX5_takesNumber_126 ?_
            refine lv_ineg hx hb dX5_takesNumber_129 ?_
            refine x_eqi (show -(((10 * ((tx (at9 + 1)) - 48)) + (tx ((at9 + 1) + 1))) - 48) = zI (nV tx ln at9) from zI_eq (x_negI (x_subI (x_addI (x_mulI (show (10 : Int32).toInt = 10 from by decide) (x_subI rfl (show (48 : Int32).toInt = 48 from by decide) (by omega) (by omega)) (by omega) (by omega)) rfl (by omega) (by omega)) (show (48 : Int32).toInt = 48 from by decide) (by omega) (by omega)) (by omega)) (by rw [nV_1 hf7_0]; unfold dV; split <;> omega)) ?_
            refine lv_goto (tgt := 137) hx hb dX5_takesNumber_130 (by decide) ?_
            refine va_put (v := .int (zI (nV tx ln at9))) (ty := .int) (D := D) (ci := 5) (C := RX5) (T := TX5) (N := 14) hx hb hts (by decide +kernel) tyX5 tyX5_ok nmX5 hown hK hP hD hS 0 rfl rfl 12 (by decide) (hts (.fieldLink RX5 133 "SpiralFramesModel" "number" "I") (by decide +kernel)) (fun _ h9 => h9) rfl (by decide +kernel) rfl rfl (Nat.le_of_ble_eq_true rfl) dX5_takesNumber_137 (fun H locs hP hD hS => ?_)
            have hP : va_P D vwCl [(mm, .inr (5, [.ref mn, .ref mh, .int kp, .ref ms, .int fl, .ref mr, .ref md, .ref mo, .ref mc, .int (nI ln), .ref mt, .int (nI (((at9 + 1) + 1) + 1)), .int (zI (nV tx ln at9)), .ref mq])), (mt, .inl (cC, 60, .inl (tx)))] H := hP
            have hD : va_D (Ar) [(mm, .inr (5, [.ref mn, .ref mh, .int kp, .ref ms, .int fl, .ref mr, .ref md, .ref mo, .ref mc, .int (nI ln), .ref mt, .int (nI (((at9 + 1) + 1) + 1)), .int (zI (nV tx ln at9)), .ref mq])), (mt, .inl (cC, 60, .inl (tx)))] := hD
            refine lv_iconst (v := 1) hx hb dX5_takesNumber_140 (by decide) ?_
            refine x_zretW (w := [(mm, .inr (5, [.ref mn, .ref mh, .int kp, .ref ms, .int fl, .ref mr, .ref md, .ref mo, .ref mc, .int (nI ln), .ref mt, .int (nI (((at9 + 1) + 1) + 1)), .int (zI (nV tx ln at9)), .ref mq])), (mt, .inl (cC, 60, .inl (tx)))]) hQ hAe hx hb hr hlocks (by decide) (hP.sub [0, 1] rfl) (hD.sub [0, 1] (by decide) rfl) hS ?_ dX5_takesNumber_141
            refine Or.inl ?_
            first | (exfalso; omega) | (have ok9 : nOk tx ln at9 := (nOk_0 hf7_0).mpr (by omega); exact ⟨rfl, by rw [nE_0 hf7_0]; first | rw [dE_2 (by omega)] | rw [dE_1 (by omega)], ok9, nE_le ok9⟩) | (have ok9 : nOk tx ln at9 := (nOk_1 hf7_0).mpr (by omega); exact ⟨rfl, by rw [nE_1 hf7_0]; first | rw [dE_2 (by omega)] | rw [dE_1 (by omega)], ok9, nE_le ok9⟩)
      · skip
        refine lv_iconst (v := 0) hx hb dX5_takesNumber_44 (by decide) ?_
        refine x_zretW (w := [(mm, .inr (5, [.ref mn, .ref mh, .int kp, .ref ms, .int fl, .ref mr, .ref md, .ref mo, .ref mc, .int (nI ln), .ref mt, .int (nI (at9 + 1)), .int nu, .ref mq])), (mt, .inl (cC, 60, .inl (tx)))]) hQ hAe hx hb hr hlocks (by decide) (hP.sub [0, 1] rfl) (hD.sub [0, 1] (by decide) rfl) hS ?_ dX5_takesNumber_45
        refine Or.inr (?_)
        exact ⟨rfl, by first | rw [nF_0 hf7_0] | rw [nF_1 hf7_0], by first | (rw [nOk_0 hf7_0]; omega) | (rw [nOk_1 hf7_0]; omega)⟩
  · skip
    have hP : va_P D vwCl [(mm, .inr (5, [.ref mn, .ref mh, .int kp, .ref ms, .int fl, .ref mr, .ref md, .ref mo, .ref mc, .int (nI ln), .ref mt, .int (nI at9), .int nu, .ref mq])), (mt, .inl (cC, 60, .inl (tx)))] H := hP
    have hD : va_D (Ar) [(mm, .inr (5, [.ref mn, .ref mh, .int kp, .ref ms, .int fl, .ref mr, .ref md, .ref mo, .ref mc, .int (nI ln), .ref mt, .int (nI at9), .int nu, .ref mq])), (mt, .inl (cC, 60, .inl (tx)))] := hD
    refine lv_if_eq (tgt := 17) hx hb dX5_takesNumber_10 (by decide) (fun _ => ?_) (fun h => False.elim (by revert h; decide))
    refine lv_iconst (v := 0) hx hb dX5_takesNumber_17 (by decide) ?_
    refine lv_istore_n (lv' := [(2, .int 0), (0, .ref mm), (1, .int 1)]) hx hb dX5_takesNumber_18 rfl hl (by decide) rfl (fun ls hl => ?_)
    refine lv_aload_n hx hb dX5_takesNumber_19 rfl (lv_at hl 1 rfl) ?_
    refine x_callR (va_runV (As := []) (rest := []) ⟨hx, hb, hml, hown, hts⟩ (c_X5_isDigit l D cI cC cS tt mm mn mh ms mr md mo mc mt mq ln at9 kp fl nu tx (by first | omega | assumption | decide) (by first | omega | assumption | decide)) (cwV 0 hts gX5_takesNumber_X5_isDigit rfl rfl rfl (by decide +kernel) ⟨Nat.le_of_ble_eq_true rfl, Nat.le_of_ble_eq_true rfl⟩) ⟨x_blindR, va_recv hK hP (ci := 5) (q0 := 0) rfl rfl, x_preR (hP.sub (ws' := [(mm, .inr (5, [.ref mn, .ref mh, .int kp, .ref ms, .int fl, .ref mr, .ref md, .ref mo, .ref mc, .int (nI ln), .ref mt, .int (nI at9), .int nu, .ref mq])), (mt, .inl (cC, 60, .inl (tx)))]) [0, 1] rfl) hK hE hS⟩ rfl rfl hl.1 rfl (lv_room (Nat.le_of_ble_eq_true rfl)) dX5_takesNumber_20 ⟨(Nat.le_of_ble_eq_true rfl), (Nat.le_of_ble_eq_true rfl)⟩) ?_
    refine x_ifB_eq (tgt := 44) hx hb dX5_takesNumber_23 (by decide) (fun c_23 => ?_) (fun c_23 => ?_)
    · skip
      refine lv_iconst (v := 0) hx hb dX5_takesNumber_44 (by decide) ?_
      refine x_zretW (w := [(mm, .inr (5, [.ref mn, .ref mh, .int kp, .ref ms, .int fl, .ref mr, .ref md, .ref mo, .ref mc, .int (nI ln), .ref mt, .int (nI at9), .int nu, .ref mq])), (mt, .inl (cC, 60, .inl (tx)))]) hQ hAe hx hb hr hlocks (by decide) (hP.sub [0, 1] rfl) (hD.sub [0, 1] (by decide) rfl) hS ?_ dX5_takesNumber_45
      refine Or.inr (?_)
      exact ⟨rfl, by first | rw [nF_0 hf7_0] | rw [nF_1 hf7_0], by first | (rw [nOk_0 hf7_0]; omega) | (rw [nOk_1 hf7_0]; omega)⟩
    · skip
      refine lv_iload_n hx hb dX5_takesNumber_26 rfl (lv_at hl 0 rfl) ?_
      refine lv_if_eq (tgt := 46) hx hb dX5_takesNumber_27 (by decide) (fun _ => ?_) (fun h => False.elim (by revert h; decide))
      refine lv_aload_n hx hb dX5_takesNumber_46 rfl (lv_at hl 1 rfl) ?_
      refine lv_aload_n hx hb dX5_takesNumber_47 rfl (lv_at hl 1 rfl) ?_
      refine va_get (v := .ref mt) (D := D) (ci := 5) (C := RX5) (T := TX5) (N := 14) hx hb hts (by decide +kernel) hown hK hP 0 rfl rfl 10 (by decide) (hts (.fieldLink RX5 31 "SpiralFramesModel" "text" "[C") (by decide +kernel)) (fun _ h9 => h9) rfl dX5_takesNumber_48 ?_
      refine lv_aload_n hx hb dX5_takesNumber_51 rfl (lv_at hl 1 rfl) ?_
      refine va_get (v := .int (nI at9)) (D := D) (ci := 5) (C := RX5) (T := TX5) (N := 14) hx hb hts (by decide +kernel) hown hK hP 0 rfl rfl 11 (by decide) (hts (.fieldLink RX5 123 "SpiralFramesModel" "at" "I") (by decide +kernel)) (fun _ h9 => h9) rfl dX5_takesNumber_52 ?_
      refine x_cald hx hb hK hP 1 1 rfl rfl (k := at9) (by omega) (by decide) dX5_takesNumber_55 ?_
      refine x_eqi (show tx at9 = tx at9 from rfl) ?_
      refine lv_bipush (v := 48) hx hb dX5_takesNumber_56 (by decide) ?_
      refine lv_isub hx hb dX5_takesNumber_58 ?_
      refine va_put (v := .int ((tx at9) - 48)) (ty := .int) (D := D) (ci := 5) (C := RX5) (T := TX5) (N := 14) hx hb hts (by decide +kernel) tyX5 tyX5_ok nmX5 hown hK hP hD hS 0 rfl rfl 12 (by decide) (hts (.fieldLink RX5 133 "SpiralFramesModel" "number" "I") (by decide +kernel)) (fun _ h9 => h9) rfl (by decide +kernel) rfl rfl (Nat.le_of_ble_eq_true rfl) dX5_takesNumber_59 (fun H locs hP hD hS => ?_)
      have hP : va_P D vwCl [(mm, .inr (5, [.ref mn, .ref mh, .int kp, .ref ms, .int fl, .ref mr, .ref md, .ref mo, .ref mc, .int (nI ln), .ref mt, .int (nI at9), .int ((tx at9) - 48), .ref mq])), (mt, .inl (cC, 60, .inl (tx)))] H := hP
      have hD : va_D (Ar) [(mm, .inr (5, [.ref mn, .ref mh, .int kp, .ref ms, .int fl, .ref mr, .ref md, .ref mo, .ref mc, .int (nI ln), .ref mt, .int (nI at9), .int ((tx at9) - 48), .ref mq])), (mt, .inl (cC, 60, .inl (tx)))] := hD
      refine lv_aload_n hx hb dX5_takesNumber_62 rfl (lv_at hl 1 rfl) ?_
      refine lv_dup hx hb dX5_takesNumber_63 rfl ?_
      refine va_get (v := .int (nI at9)) (D := D) (ci := 5) (C := RX5) (T := TX5) (N := 14) hx hb hts (by decide +kernel) hown hK hP 0 rfl rfl 11 (by decide) (hts (.fieldLink RX5 123 "SpiralFramesModel" "at" "I") (by decide +kernel)) (fun _ h9 => h9) rfl dX5_takesNumber_64 ?_
      refine lv_iconst (v := 1) hx hb dX5_takesNumber_67 (by decide) ?_
      refine lv_iadd hx hb dX5_takesNumber_68 ?_
      refine x_eqi (show nI at9 + 1 = nI (at9 + 1) from nI_add at9 1) ?_
      refine va_put (v := .int (nI (at9 + 1))) (ty := .int) (D := D) (ci := 5) (C := RX5) (T := TX5) (N := 14) hx hb hts (by decide +kernel) tyX5 tyX5_ok nmX5 hown hK hP hD hS 0 rfl rfl 11 (by decide) (hts (.fieldLink RX5 123 "SpiralFramesModel" "at" "I") (by decide +kernel)) (fun _ h9 => h9) rfl (by decide +kernel) rfl rfl (Nat.le_of_ble_eq_true rfl) dX5_takesNumber_69 (fun H locs hP hD hS => ?_)
      have hP : va_P D vwCl [(mm, .inr (5, [.ref mn, .ref mh, .int kp, .ref ms, .int fl, .ref mr, .ref md, .ref mo, .ref mc, .int (nI ln), .ref mt, .int (nI (at9 + 1)), .int ((tx at9) - 48), .ref mq])), (mt, .inl (cC, 60, .inl (tx)))] H := hP
      have hD : va_D (Ar) [(mm, .inr (5, [.ref mn, .ref mh, .int kp, .ref ms, .int fl, .ref mr, .ref md, .ref mo, .ref mc, .int (nI ln), .ref mt, .int (nI (at9 + 1)), .int ((tx at9) - 48), .ref mq])), (mt, .inl (cC, 60, .inl (tx)))] := hD
      refine lv_aload_n hx hb dX5_takesNumber_72 rfl (lv_at hl 1 rfl) ?_
      refine va_get (v := .int ((tx at9) - 48)) (D := D) (ci := 5) (C := RX5) (T := TX5) (N := 14) hx hb hts (by decide +kernel) hown hK hP 0 rfl rfl 12 (by decide) (hts (.fieldLink RX5 133 "SpiralFramesModel" "number" "I") (by decide +kernel)) (fun _ h9 => h9) rfl dX5_takesNumber_73 ?_
      refine x_if_le (tgt := 120) hx hb dX5_takesNumber_76 (by decide) (X := ((tx at9).toInt - 48)) (x_subI rfl (show (48 : Int32).toInt = 48 from by decide) (by omega) (by omega)) (fun c_76 => ?_) (fun c_76 => ?_)
      · skip
        refine lv_aload_n hx hb dX5_takesNumber_120 rfl (lv_at hl 1 rfl) ?_
        refine lv_iload_n hx hb dX5_takesNumber_121 rfl (lv_at hl 0 rfl) ?_
        refine lv_if_eq (tgt := 133) hx hb dX5_takesNumber_122 (by decide) (fun _ => ?_) (fun h => False.elim (by revert h; decide))
        refine lv_aload_n hx hb dX5_takesNumber_133 rfl (lv_at hl 1 rfl) ?_
        refine va_get (v := .int ((tx at9) - 48)) (D := D) (ci := 5) (C := RX5) (T := TX5) (N := 14) hx hb hts (by decide +kernel) hown hK hP 0 rfl rfl 12 (by decide) (hts (.fieldLink RX5 133 "SpiralFramesModel" "number" "I") (by decide +kernel)) (fun _ h9 => h9) rfl dX5_takesNumber_134 ?_
        refine x_eqi (show (tx at9) - 48 = zI (nV tx ln at9) from zI_eq (x_subI rfl (show (48 : Int32).toInt = 48 from by decide) (by omega) (by omega)) (by rw [nV_0 hf7_0]; unfold dV; split <;> omega)) ?_
        refine va_put (v := .int (zI (nV tx ln at9))) (ty := .int) (D := D) (ci := 5) (C := RX5) (T := TX5) (N := 14) hx hb hts (by decide +kernel) tyX5 tyX5_ok nmX5 hown hK hP hD hS 0 rfl rfl 12 (by decide) (hts (.fieldLink RX5 133 "SpiralFramesModel" "number" "I") (by decide +kernel)) (fun _ h9 => h9) rfl (by decide +kernel) rfl rfl (Nat.le_of_ble_eq_true rfl) dX5_takesNumber_137 (fun H locs hP hD hS => ?_)
        have hP : va_P D vwCl [(mm, .inr (5, [.ref mn, .ref mh, .int kp, .ref ms, .int fl, .ref mr, .ref md, .ref mo, .ref mc, .int (nI ln), .ref mt, .int (nI (at9 + 1)), .int (zI (nV tx ln at9)), .ref mq])), (mt, .inl (cC, 60, .inl (tx)))] H := hP
        have hD : va_D (Ar) [(mm, .inr (5, [.ref mn, .ref mh, .int kp, .ref ms, .int fl, .ref mr, .ref md, .ref mo, .ref mc, .int (nI ln), .ref mt, .int (nI (at9 + 1)), .int (zI (nV tx ln at9)), .ref mq])), (mt, .inl (cC, 60, .inl (tx)))] := hD
        refine lv_iconst (v := 1) hx hb dX5_takesNumber_140 (by decide) ?_
        refine x_zretW (w := [(mm, .inr (5, [.ref mn, .ref mh, .int kp, .ref ms, .int fl, .ref mr, .ref md, .ref mo, .ref mc, .int (nI ln), .ref mt, .int (nI (at9 + 1)), .int (zI (nV tx ln at9)), .ref mq])), (mt, .inl (cC, 60, .inl (tx)))]) hQ hAe hx hb hr hlocks (by decide) (hP.sub [0, 1] rfl) (hD.sub [0, 1] (by decide) rfl) hS ?_ dX5_takesNumber_141
        refine Or.inl ?_
        first | (exfalso; omega) | (have ok9 : nOk tx ln at9 := (nOk_0 hf7_0).mpr (by omega); exact ⟨rfl, by rw [nE_0 hf7_0]; first | rw [dE_2 (by omega)] | rw [dE_1 (by omega)], ok9, nE_le ok9⟩) | (have ok9 : nOk tx ln at9 := (nOk_1 hf7_0).mpr (by omega); exact ⟨rfl, by rw [nE_1 hf7_0]; first | rw [dE_2 (by omega)] | rw [dE_1 (by omega)], ok9, nE_le ok9⟩)
      · skip
        refine lv_aload_n hx hb dX5_takesNumber_79 rfl (lv_at hl 1 rfl) ?_
        refine x_callR (va_runV (As := []) (rest := []) ⟨hx, hb, hml, hown, hts⟩ (c_X5_isDigit l D cI cC cS tt mm mn mh ms mr md mo mc mt mq ln (at9 + 1) kp fl ((tx at9) - 48) tx (by first | omega | assumption | decide) (by first | omega | assumption | decide)) (cwV 0 hts gX5_takesNumber_X5_isDigit rfl rfl rfl (by decide +kernel) ⟨Nat.le_of_ble_eq_true rfl, Nat.le_of_ble_eq_true rfl⟩) ⟨x_blindR, va_recv hK hP (ci := 5) (q0 := 0) rfl rfl, x_preR (hP.sub (ws' := [(mm, .inr (5, [.ref mn, .ref mh, .int kp, .ref ms, .int fl, .ref mr, .ref md, .ref mo, .ref mc, .int (nI ln), .ref mt, .int (nI ((at9 + 1))), .int ((tx at9) - 48), .ref mq])), (mt, .inl (cC, 60, .inl (tx)))]) [0, 1] rfl) hK hE hS⟩ rfl rfl hl.1 rfl (lv_room (Nat.le_of_ble_eq_true rfl)) dX5_takesNumber_80 ⟨(Nat.le_of_ble_eq_true rfl), (Nat.le_of_ble_eq_true rfl)⟩) ?_
        refine x_ifB_eq (tgt := 120) hx hb dX5_takesNumber_83 (by decide) (fun c_83 => ?_) (fun c_83 => ?_)
        · skip
          refine lv_aload_n hx hb dX5_takesNumber_120 rfl (lv_at hl 1 rfl) ?_
          refine lv_iload_n hx hb dX5_takesNumber_121 rfl (lv_at hl 0 rfl) ?_
          refine lv_if_eq (tgt := 133) hx hb dX5_takesNumber_122 (by decide) (fun _ => ?_) (fun h => False.elim (by revert h; decide))
          refine lv_aload_n hx hb dX5_takesNumber_133 rfl (lv_at hl 1 rfl) ?_
          refine va_get (v := .int ((tx at9) - 48)) (D := D) (ci := 5) (C := RX5) (T := TX5) (N := 14) hx hb hts (by decide +kernel) hown hK hP 0 rfl rfl 12 (by decide) (hts (.fieldLink RX5 133 "SpiralFramesModel" "number" "I") (by decide +kernel)) (fun _ h9 => h9) rfl dX5_takesNumber_134 ?_
          refine x_eqi (show (tx at9) - 48 = zI (nV tx ln at9) from zI_eq (x_subI rfl (show (48 : Int32).toInt = 48 from by decide) (by omega) (by omega)) (by rw [nV_0 hf7_0]; unfold dV; split <;> omega)) ?_
          refine va_put (v := .int (zI (nV tx ln at9))) (ty := .int) (D := D) (ci := 5) (C := RX5) (T := TX5) (N := 14) hx hb hts (by decide +kernel) tyX5 tyX5_ok nmX5 hown hK hP hD hS 0 rfl rfl 12 (by decide) (hts (.fieldLink RX5 133 "SpiralFramesModel" "number" "I") (by decide +kernel)) (fun _ h9 => h9) rfl (by decide +kernel) rfl rfl (Nat.le_of_ble_eq_true rfl) dX5_takesNumber_137 (fun H locs hP hD hS => ?_)
          have hP : va_P D vwCl [(mm, .inr (5, [.ref mn, .ref mh, .int kp, .ref ms, .int fl, .ref mr, .ref md, .ref mo, .ref mc, .int (nI ln), .ref mt, .int (nI (at9 + 1)), .int (zI (nV tx ln at9)), .ref mq])), (mt, .inl (cC, 60, .inl (tx)))] H := hP
          have hD : va_D (Ar) [(mm, .inr (5, [.ref mn, .ref mh, .int kp, .ref ms, .int fl, .ref mr, .ref md, .ref mo, .ref mc, .int (nI ln), .ref mt, .int (nI (at9 + 1)), .int (zI (nV tx ln at9)), .ref mq])), (mt, .inl (cC, 60, .inl (tx)))] := hD
          refine lv_iconst (v := 1) hx hb dX5_takesNumber_140 (by decide) ?_
          refine x_zretW (w := [(mm, .inr (5, [.ref mn, .ref mh, .int kp, .ref ms, .int fl, .ref mr, .ref md, .ref mo, .ref mc, .int (nI ln), .ref mt, .int (nI (at9 + 1)), .int (zI (nV tx ln at9)), .ref mq])), (mt, .inl (cC, 60, .inl (tx)))]) hQ hAe hx hb hr hlocks (by decide) (hP.sub [0, 1] rfl) (hD.sub [0, 1] (by decide) rfl) hS ?_ dX5_takesNumber_141
          refine Or.inl ?_
          first | (exfalso; omega) | (have ok9 : nOk tx ln at9 := (nOk_0 hf7_0).mpr (by omega); exact ⟨rfl, by rw [nE_0 hf7_0]; first | rw [dE_2 (by omega)] | rw [dE_1 (by omega)], ok9, nE_le ok9⟩) | (have ok9 : nOk tx ln at9 := (nOk_1 hf7_0).mpr (by omega); exact ⟨rfl, by rw [nE_1 hf7_0]; first | rw [dE_2 (by omega)] | rw [dE_1 (by omega)], ok9, nE_le ok9⟩)
        · skip
          refine lv_aload_n hx hb dX5_takesNumber_86 rfl (lv_at hl 1 rfl) ?_
          refine lv_bipush (v := 10) hx hb dX5_takesNumber_87 (by decide) ?_
          refine lv_aload_n hx hb dX5_takesNumber_89 rfl (lv_at hl 1 rfl) ?_
          refine va_get (v := .int ((tx at9) - 48)) (D := D) (ci := 5) (C := RX5) (T := TX5) (N := 14) hx hb hts (by decide +kernel) hown hK hP 0 rfl rfl 12 (by decide) (hts (.fieldLink RX5 133 "SpiralFramesModel" "number" "I") (by decide +kernel)) (fun _ h9 => h9) rfl dX5_takesNumber_90 ?_
          refine lv_imul hx hb dX5_takesNumber_93 ?_
          refine lv_aload_n hx hb dX5_takesNumber_94 rfl (lv_at hl 1 rfl) ?_
          refine va_get (v := .ref mt) (D := D) (ci := 5) (C := RX5) (T := TX5) (N := 14) hx hb hts (by decide +kernel) hown hK hP 0 rfl rfl 10 (by decide) (hts (.fieldLink RX5 31 "SpiralFramesModel" "text" "[C") (by decide +kernel)) (fun _ h9 => h9) rfl dX5_takesNumber_95 ?_
          refine lv_aload_n hx hb dX5_takesNumber_98 rfl (lv_at hl 1 rfl) ?_
          refine va_get (v := .int (nI (at9 + 1))) (D := D) (ci := 5) (C := RX5) (T := TX5) (N := 14) hx hb hts (by decide +kernel) hown hK hP 0 rfl rfl 11 (by decide) (hts (.fieldLink RX5 123 "SpiralFramesModel" "at" "I") (by decide +kernel)) (fun _ h9 => h9) rfl dX5_takesNumber_99 ?_
          refine x_cald hx hb hK hP 1 1 rfl rfl (k := at9 + 1) (by omega) (by decide) dX5_takesNumber_102 ?_
          refine x_eqi (show tx (at9 + 1) = tx (at9 + 1) from rfl) ?_
          refine lv_iadd hx hb dX5_takesNumber_103 ?_
          refine lv_bipush (v := 48) hx hb dX5_takesNumber_104 (by decide) ?_
          refine lv_isub hx hb dX5_takesNumber_106 ?_
          refine va_put (v := .int (((10 * ((tx at9) - 48)) + (tx (at9 + 1))) - 48)) (ty := .int) (D := D) (ci := 5) (C := RX5) (T := TX5) (N := 14) hx hb hts (by decide +kernel) tyX5 tyX5_ok nmX5 hown hK hP hD hS 0 rfl rfl 12 (by decide) (hts (.fieldLink RX5 133 "SpiralFramesModel" "number" "I") (by decide +kernel)) (fun _ h9 => h9) rfl (by decide +kernel) rfl rfl (Nat.le_of_ble_eq_true rfl) dX5_takesNumber_107 (fun H locs hP hD hS => ?_)
          have hP : va_P D vwCl [(mm, .inr (5, [.ref mn, .ref mh, .int kp, .ref ms, .int fl, .ref mr, .ref md, .ref mo, .ref mc, .int (nI ln), .ref mt, .int (nI (at9 + 1)), .int (((10 * ((tx at9) - 48)) + (tx (at9 + 1))) - 48), .ref mq])), (mt, .inl (cC, 60, .inl (tx)))] H := hP
          have hD : va_D (Ar) [(mm, .inr (5, [.ref mn, .ref mh, .int kp, .ref ms, .int fl, .ref mr, .ref md, .ref mo, .ref mc, .int (nI ln), .ref mt, .int (nI (at9 + 1)), .int (((10 * ((tx at9) - 48)) + (tx (at9 + 1))) - 48), .ref mq])), (mt, .inl (cC, 60, .inl (tx)))] := hD
          refine lv_aload_n hx hb dX5_takesNumber_110 rfl (lv_at hl 1 rfl) ?_
          refine lv_dup hx hb dX5_takesNumber_111 rfl ?_
          refine va_get (v := .int (nI (at9 + 1))) (D := D) (ci := 5) (C := RX5) (T := TX5) (N := 14) hx hb hts (by decide +kernel) hown hK hP 0 rfl rfl 11 (by decide) (hts (.fieldLink RX5 123 "SpiralFramesModel" "at" "I") (by decide +kernel)) (fun _ h9 => h9) rfl dX5_takesNumber_112 ?_
          refine lv_iconst (v := 1) hx hb dX5_takesNumber_115 (by decide) ?_
          refine lv_iadd hx hb dX5_takesNumber_116 ?_
          refine x_eqi (show nI (at9 + 1) + 1 = nI ((at9 + 1) + 1) from nI_add (at9 + 1) 1) ?_
          refine va_put (v := .int (nI ((at9 + 1) + 1))) (ty := .int) (D := D) (ci := 5) (C := RX5) (T := TX5) (N := 14) hx hb hts (by decide +kernel) tyX5 tyX5_ok nmX5 hown hK hP hD hS 0 rfl rfl 11 (by decide) (hts (.fieldLink RX5 123 "SpiralFramesModel" "at" "I") (by decide +kernel)) (fun _ h9 => h9) rfl (by decide +kernel) rfl rfl (Nat.le_of_ble_eq_true rfl) dX5_takesNumber_117 (fun H locs hP hD hS => ?_)
          have hP : va_P D vwCl [(mm, .inr (5, [.ref mn, .ref mh, .int kp, .ref ms, .int fl, .ref mr, .ref md, .ref mo, .ref mc, .int (nI ln), .ref mt, .int (nI ((at9 + 1) + 1)), .int (((10 * ((tx at9) - 48)) + (tx (at9 + 1))) - 48), .ref mq])), (mt, .inl (cC, 60, .inl (tx)))] H := hP
          have hD : va_D (Ar) [(mm, .inr (5, [.ref mn, .ref mh, .int kp, .ref ms, .int fl, .ref mr, .ref md, .ref mo, .ref mc, .int (nI ln), .ref mt, .int (nI ((at9 + 1) + 1)), .int (((10 * ((tx at9) - 48)) + (tx (at9 + 1))) - 48), .ref mq])), (mt, .inl (cC, 60, .inl (tx)))] := hD
          refine lv_aload_n hx hb dX5_takesNumber_120 rfl (lv_at hl 1 rfl) ?_
          refine lv_iload_n hx hb dX5_takesNumber_121 rfl (lv_at hl 0 rfl) ?_
          refine lv_if_eq (tgt := 133) hx hb dX5_takesNumber_122 (by decide) (fun _ => ?_) (fun h => False.elim (by revert h; decide))
          refine lv_aload_n hx hb dX5_takesNumber_133 rfl (lv_at hl 1 rfl) ?_
          refine va_get (v := .int (((10 * ((tx at9) - 48)) + (tx (at9 + 1))) - 48)) (D := D) (ci := 5) (C := RX5) (T := TX5) (N := 14) hx hb hts (by decide +kernel) hown hK hP 0 rfl rfl 12 (by decide) (hts (.fieldLink RX5 133 "SpiralFramesModel" "number" "I") (by decide +kernel)) (fun _ h9 => h9) rfl dX5_takesNumber_134 ?_
          refine x_eqi (show ((10 * ((tx at9) - 48)) + (tx (at9 + 1))) - 48 = zI (nV tx ln at9) from zI_eq (x_subI (x_addI (x_mulI (show (10 : Int32).toInt = 10 from by decide) (x_subI rfl (show (48 : Int32).toInt = 48 from by decide) (by omega) (by omega)) (by omega) (by omega)) rfl (by omega) (by omega)) (show (48 : Int32).toInt = 48 from by decide) (by omega) (by omega)) (by rw [nV_0 hf7_0]; unfold dV; split <;> omega)) ?_
          refine va_put (v := .int (zI (nV tx ln at9))) (ty := .int) (D := D) (ci := 5) (C := RX5) (T := TX5) (N := 14) hx hb hts (by decide +kernel) tyX5 tyX5_ok nmX5 hown hK hP hD hS 0 rfl rfl 12 (by decide) (hts (.fieldLink RX5 133 "SpiralFramesModel" "number" "I") (by decide +kernel)) (fun _ h9 => h9) rfl (by decide +kernel) rfl rfl (Nat.le_of_ble_eq_true rfl) dX5_takesNumber_137 (fun H locs hP hD hS => ?_)
          have hP : va_P D vwCl [(mm, .inr (5, [.ref mn, .ref mh, .int kp, .ref ms, .int fl, .ref mr, .ref md, .ref mo, .ref mc, .int (nI ln), .ref mt, .int (nI ((at9 + 1) + 1)), .int (zI (nV tx ln at9)), .ref mq])), (mt, .inl (cC, 60, .inl (tx)))] H := hP
          have hD : va_D (Ar) [(mm, .inr (5, [.ref mn, .ref mh, .int kp, .ref ms, .int fl, .ref mr, .ref md, .ref mo, .ref mc, .int (nI ln), .ref mt, .int (nI ((at9 + 1) + 1)), .int (zI (nV tx ln at9)), .ref mq])), (mt, .inl (cC, 60, .inl (tx)))] := hD
          refine lv_iconst (v := 1) hx hb dX5_takesNumber_140 (by decide) ?_
          refine x_zretW (w := [(mm, .inr (5, [.ref mn, .ref mh, .int kp, .ref ms, .int fl, .ref mr, .ref md, .ref mo, .ref mc, .int (nI ln), .ref mt, .int (nI ((at9 + 1) + 1)), .int (zI (nV tx ln at9)), .ref mq])), (mt, .inl (cC, 60, .inl (tx)))]) hQ hAe hx hb hr hlocks (by decide) (hP.sub [0, 1] rfl) (hD.sub [0, 1] (by decide) rfl) hS ?_ dX5_takesNumber_141
          refine Or.inl ?_
          first | (exfalso; omega) | (have ok9 : nOk tx ln at9 := (nOk_0 hf7_0).mpr (by omega); exact ⟨rfl, by rw [nE_0 hf7_0]; first | rw [dE_2 (by omega)] | rw [dE_1 (by omega)], ok9, nE_le ok9⟩) | (have ok9 : nOk tx ln at9 := (nOk_1 hf7_0).mpr (by omega); exact ⟨rfl, by rw [nE_1 hf7_0]; first | rw [dE_2 (by omega)] | rw [dE_1 (by omega)], ok9, nE_le ok9⟩)
