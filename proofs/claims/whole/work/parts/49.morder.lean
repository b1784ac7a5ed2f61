set_option maxHeartbeats 4000000 in
set_option maxRecDepth 100000 in
theorem c_X5_takesOrder (l : Launch) (D : va_G) (cI cC cS : ClassId) (tt : Nat → Nat) (sz : Nat) (mm : Nat) (mn : Nat) (mh : Nat) (ms : Nat) (mr : Nat) (md : Nat) (mo : Nat) (mc : Nat) (mt : Nat) (mq : Nat) (ln : Nat) (at9 : Nat) (kp : Int32) (fl : Int32) (nu : Int32) (tx : Nat → Int32) (od : Nat → Int32) (hh0 : ln ≤ 60) (hh1 : at9 ≤ ln) : Met l yX5_takesOrder wsX5_takesOrder ({ frames := 3, cells := 0, slots := 0, locals := 64 } : Room) (x_PW D cI cC cS tt [(mm, .inr (5, [.ref mn, .ref mh, .int kp, .ref ms, .int fl, .ref mr, .ref md, .ref mo, .ref mc, .int (nI ln), .ref mt, .int (nI at9), .int nu, .ref mq])), (mt, .inl (cC, 60, .inl (tx))), (mq, .inl (cI, 6, .inl (od)))] sz [.ref mm]) (x_QWi D [(mm, .inr (5, [.ref mn, .ref mh, .int kp, .ref ms, .int fl, .ref mr, .ref md, .ref mo, .ref mc, .int (nI ln), .ref mt, .int (nI at9), .int nu, .ref mq])), (mt, .inl (cC, 60, .inl (tx))), (mq, .inl (cI, 6, .inl (od)))] sz (fun (r : Int32) (w : va_W) => (∃ (nu2 : Int32) (od2 : Nat → Int32), r = 1 ∧ w = [(mm, .inr (5, [.ref mn, .ref mh, .int kp, .ref ms, .int fl, .ref mr, .ref md, .ref mo, .ref mc, .int (nI ln), .ref mt, .int (nI ((oRes tx ln at9).2)), .int nu2, .ref mq])), (mt, .inl (cC, 60, .inl (tx))), (mq, .inl (cI, 6, .inl (od2)))] ∧ ((oRes tx ln at9).1 = true) ∧ (∀ k9, 1 ≤ k9 → k9 < oK tx ln at9 → od2 k9 = zI (oV tx ln at9 k9)) ∧ (od2 0 = (if tk tx ln at9 98 then 98 else 115))) ∨ (∃ (nu2 : Int32) (od2 : Nat → Int32), r = 0 ∧ w = [(mm, .inr (5, [.ref mn, .ref mh, .int kp, .ref ms, .int fl, .ref mr, .ref md, .ref mo, .ref mc, .int (nI ln), .ref mt, .int (nI ((oRes tx ln at9).2)), .int nu2, .ref mq])), (mt, .inl (cC, 60, .inl (tx))), (mq, .inl (cI, 6, .inl (od2)))] ∧ ((oRes tx ln at9).1 = false)))) 0 0 (va_A [(mm, .inr (5, [.ref mn, .ref mh, .int kp, .ref ms, .int fl, .ref mr, .ref md, .ref mo, .ref mc, .int (nI ln), .ref mt, .int (nI at9), .int nu, .ref mq])), (mt, .inl (cC, 60, .inl (tx))), (mq, .inl (cI, 6, .inl (od)))] sz) := by
  refine Met.ofW (cc := cX5_takesOrder) (maxL := 3) (ret := (some .boolean)) (by decide) rfl ?_
  intro p e s m args below meth c s₁ hBd hml hv
  obtain ⟨rfl, hsz, hP, hK, hD0, hE0⟩ := hv
  have hx := hBd.exec
  have hb := hBd.bytes
  have hr := hBd.returns
  have hts := atoms_spec (ws := wsX5_takesOrder) hBd.pre
  have hown : s.vm.findClass RX5 = some m.cls := findClass_of_methodNamed hBd.named
  have hlocks := hBd.notSynchronized
  subst hsz
  obtain ⟨Ar, hAe⟩ : ∃ Ar : Nat → Prop, Ar = va_A [(mm, .inr (5, [.ref mn, .ref mh, .int kp, .ref ms, .int fl, .ref mr, .ref md, .ref mo, .ref mc, .int (nI ln), .ref mt, .int (nI at9), .int nu, .ref mq])), (mt, .inl (cC, 60, .inl (tx))), (mq, .inl (cI, 6, .inl (od)))] s.heap.size := ⟨_, rfl⟩
  have hD : va_D Ar [(mm, .inr (5, [.ref mn, .ref mh, .int kp, .ref ms, .int fl, .ref mr, .ref md, .ref mo, .ref mc, .int (nI ln), .ref mt, .int (nI at9), .int nu, .ref mq])), (mt, .inl (cC, 60, .inl (tx))), (mq, .inl (cI, 6, .inl (od)))] := by rw [hAe]; exact hD0.self
  have hA : ∀ q : Nat, s.heap.size ≤ q → Ar q := fun q h => by rw [hAe]; exact Or.inr h
  have hE : x_E tt Ar s := by rw [hAe]; exact hE0
  have hS : va_S Ar s.heap s.heap [] := va_S.rf
  have hl := lv_entry ([.ref mm]) (n := 3) (Nat.le_of_ble_eq_true rfl)
  rw [lg_entry_eq]
  generalize (lg_sl ([.ref mm]) ++ List.replicate (3 - (lg_sl ([.ref mm])).length) Slot.unset).toArray = ls at hl ⊢
  have hl : lv_has ls 3 [(0, .ref mm)] := hl
  refine x_genQ (fun Q hQ => ?_)
  refine lv_aload_n hx hb dX5_takesOrder_0 rfl (lv_at hl 0 rfl) ?_
  refine va_get (v := .int (nI at9)) (D := D) (ci := 5) (C := RX5) (T := TX5) (N := 14) hx hb hts (by decide +kernel) hown hK hP 0 rfl rfl 11 (by decide) (hts (.fieldLink RX5 123 "SpiralFramesModel" "at" "I") (by decide +kernel)) (fun _ h9 => h9) rfl dX5_takesOrder_1 ?_
  refine lv_aload_n hx hb dX5_takesOrder_4 rfl (lv_at hl 0 rfl) ?_
  refine va_get (v := .int (nI ln)) (D := D) (ci := 5) (C := RX5) (T := TX5) (N := 14) hx hb hts (by decide +kernel) hown hK hP 0 rfl rfl 9 (by decide) (hts (.fieldLink RX5 120 "SpiralFramesModel" "typed" "I") (by decide +kernel)) (fun _ h9 => h9) rfl dX5_takesOrder_5 ?_
  refine x_icmp_eq (tgt := 39) hx hb dX5_takesOrder_8 (by decide) (X := ((at9 : Nat) : Int)) (nI_toI (by omega)) (Y := ((ln : Nat) : Int)) (nI_toI (by omega)) (fun c_8 => ?_) (fun c_8 => ?_)
  · skip
    refine lv_iconst (v := 0) hx hb dX5_takesOrder_39 (by decide) ?_
    refine x_zretW (w := [(mm, .inr (5, [.ref mn, .ref mh, .int kp, .ref ms, .int fl, .ref mr, .ref md, .ref mo, .ref mc, .int (nI ln), .ref mt, .int (nI at9), .int nu, .ref mq])), (mt, .inl (cC, 60, .inl (tx))), (mq, .inl (cI, 6, .inl (od)))]) hQ hAe hx hb hr hlocks (by decide) (hP.sub [0, 1, 2] rfl) (hD.sub [0, 1, 2] (by decide) rfl) hS ?_ dX5_takesOrder_40
    refine Or.inr (?_)
    have n98 : ¬ tk tx ln at9 98 := by omega
    have n115 : ¬ tk tx ln at9 115 := by omega
    have hOR : oRes tx ln at9 = (false, at9) := by unfold oRes; rw [if_neg n98, if_neg n115]
    exact ⟨nu, od, rfl, by rw [hOR], by rw [hOR]⟩
  · skip
    refine lv_aload_n hx hb dX5_takesOrder_11 rfl (lv_at hl 0 rfl) ?_
    refine va_get (v := .ref mt) (D := D) (ci := 5) (C := RX5) (T := TX5) (N := 14) hx hb hts (by decide +kernel) hown hK hP 0 rfl rfl 10 (by decide) (hts (.fieldLink RX5 31 "SpiralFramesModel" "text" "[C") (by decide +kernel)) (fun _ h9 => h9) rfl dX5_takesOrder_12 ?_
    refine lv_aload_n hx hb dX5_takesOrder_15 rfl (lv_at hl 0 rfl) ?_
    refine va_get (v := .int (nI at9)) (D := D) (ci := 5) (C := RX5) (T := TX5) (N := 14) hx hb hts (by decide +kernel) hown hK hP 0 rfl rfl 11 (by decide) (hts (.fieldLink RX5 123 "SpiralFramesModel" "at" "I") (by decide +kernel)) (fun _ h9 => h9) rfl dX5_takesOrder_16 ?_
    refine x_cald hx hb hK hP 1 1 rfl rfl (k := at9) (by omega) (by decide) dX5_takesOrder_19 ?_
    refine x_eqi (show tx at9 = tx at9 from rfl) ?_
    refine lv_bipush (v := 98) hx hb dX5_takesOrder_20 (by decide) ?_
    refine x_icmp_eq (tgt := 41) hx hb dX5_takesOrder_22 (by decide) (X := (tx at9).toInt) rfl (Y := 98) (show (98 : Int32).toInt = 98 from by decide) (fun c_22 => ?_) (fun c_22 => ?_)
    · skip
      refine lv_aload_n hx hb dX5_takesOrder_41 rfl (lv_at hl 0 rfl) ?_
      refine va_get (v := .ref mq) (D := D) (ci := 5) (C := RX5) (T := TX5) (N := 14) hx hb hts (by decide +kernel) hown hK hP 0 rfl rfl 13 (by decide) (hts (.fieldLink RX5 35 "SpiralFramesModel" "order" "[I") (by decide +kernel)) (fun _ h9 => h9) rfl dX5_takesOrder_42 ?_
      refine lv_iconst (v := 0) hx hb dX5_takesOrder_45 (by decide) ?_
      refine lv_aload_n hx hb dX5_takesOrder_46 rfl (lv_at hl 0 rfl) ?_
      refine va_get (v := .ref mt) (D := D) (ci := 5) (C := RX5) (T := TX5) (N := 14) hx hb hts (by decide +kernel) hown hK hP 0 rfl rfl 10 (by decide) (hts (.fieldLink RX5 31 "SpiralFramesModel" "text" "[C") (by decide +kernel)) (fun _ h9 => h9) rfl dX5_takesOrder_47 ?_
      refine lv_aload_n hx hb dX5_takesOrder_50 rfl (lv_at hl 0 rfl) ?_
      refine va_get (v := .int (nI at9)) (D := D) (ci := 5) (C := RX5) (T := TX5) (N := 14) hx hb hts (by decide +kernel) hown hK hP 0 rfl rfl 11 (by decide) (hts (.fieldLink RX5 123 "SpiralFramesModel" "at" "I") (by decide +kernel)) (fun _ h9 => h9) rfl dX5_takesOrder_51 ?_
      refine x_cald hx hb hK hP 1 1 rfl rfl (k := at9) (by omega) (by decide) dX5_takesOrder_54 ?_
      refine x_eqi2 (show (0 : Int32) = nI 0 from by decide) ?_
      refine x_iast hx hb hK hP hD hS 2 0 rfl rfl (k := 0) (by omega) (by decide) dX5_takesOrder_55 (fun H locs hP hD hS => ?_)
      have hP : va_P D vwCl [(mm, .inr (5, [.ref mn, .ref mh, .int kp, .ref ms, .int fl, .ref mr, .ref md, .ref mo, .ref mc, .int (nI ln), .ref mt, .int (nI at9), .int nu, .ref mq])), (mt, .inl (cC, 60, .inl (tx))), (mq, .inl (cI, 6, .inl (upd od 0 (tx at9))))] H := hP
      have hD : va_D (Ar) [(mm, .inr (5, [.ref mn, .ref mh, .int kp, .ref ms, .int fl, .ref mr, .ref md, .ref mo, .ref mc, .int (nI ln), .ref mt, .int (nI at9), .int nu, .ref mq])), (mt, .inl (cC, 60, .inl (tx))), (mq, .inl (cI, 6, .inl (upd od 0 (tx at9))))] := hD
      refine lv_aload_n hx hb dX5_takesOrder_56 rfl (lv_at hl 0 rfl) ?_
      refine lv_dup hx hb dX5_takesOrder_57 rfl ?_
      refine va_get (v := .int (nI at9)) (D := D) (ci := 5) (C := RX5) (T := TX5) (N := 14) hx hb hts (by decide +kernel) hown hK hP 0 rfl rfl 11 (by decide) (hts (.fieldLink RX5 123 "SpiralFramesModel" "at" "I") (by decide +kernel)) (fun _ h9 => h9) rfl dX5_takesOrder_58 ?_
      refine lv_iconst (v := 1) hx hb dX5_takesOrder_61 (by decide) ?_
      refine lv_iadd hx hb dX5_takesOrder_62 ?_
      refine x_eqi (show nI at9 + 1 = nI (at9 + 1) from nI_add at9 1) ?_
      refine va_put (v := .int (nI (at9 + 1))) (ty := .int) (D := D) (ci := 5) (C := RX5) (T := TX5) (N := 14) hx hb hts (by decide +kernel) tyX5 tyX5_ok nmX5 hown hK hP hD hS 0 rfl rfl 11 (by decide) (hts (.fieldLink RX5 123 "SpiralFramesModel" "at" "I") (by decide +kernel)) (fun _ h9 => h9) rfl (by decide +kernel) rfl rfl (Nat.le_of_ble_eq_true rfl) dX5_takesOrder_63 (fun H locs hP hD hS => ?_)
      have hP : va_P D vwCl [(mm, .inr (5, [.ref mn, .ref mh, .int kp, .ref ms, .int fl, .ref mr, .ref md, .ref mo, .ref mc, .int (nI ln), .ref mt, .int (nI (at9 + 1)), .int nu, .ref mq])), (mt, .inl (cC, 60, .inl (tx))), (mq, .inl (cI, 6, .inl (upd od 0 (tx at9))))] H := hP
      have hD : va_D (Ar) [(mm, .inr (5, [.ref mn, .ref mh, .int kp, .ref ms, .int fl, .ref mr, .ref md, .ref mo, .ref mc, .int (nI ln), .ref mt, .int (nI (at9 + 1)), .int nu, .ref mq])), (mt, .inl (cC, 60, .inl (tx))), (mq, .inl (cI, 6, .inl (upd od 0 (tx at9))))] := hD
      refine lv_aload_n hx hb dX5_takesOrder_66 rfl (lv_at hl 0 rfl) ?_
      refine va_get (v := .ref mq) (D := D) (ci := 5) (C := RX5) (T := TX5) (N := 14) hx hb hts (by decide +kernel) hown hK hP 0 rfl rfl 13 (by decide) (hts (.fieldLink RX5 35 "SpiralFramesModel" "order" "[I") (by decide +kernel)) (fun _ h9 => h9) rfl dX5_takesOrder_67 ?_
      refine lv_iconst (v := 0) hx hb dX5_takesOrder_70 (by decide) ?_
      refine x_eqi (show (0 : Int32) = nI 0 from by decide) ?_
      refine x_iald hx hb hK hP 2 0 rfl rfl (k := 0) (by omega) (by decide) dX5_takesOrder_71 ?_
      refine x_eqi (show (upd od 0 (tx at9)) 0 = tx at9 from rfl) ?_
      refine lv_bipush (v := 98) hx hb dX5_takesOrder_72 (by decide) ?_
      refine x_icmp_ne (tgt := 81) hx hb dX5_takesOrder_74 (by decide) (X := (tx at9).toInt) rfl (Y := 98) (show (98 : Int32).toInt = 98 from by decide) (fun c_74 => ?_) (fun c_74 => ?_)
      · exfalso; omega
      refine lv_iconst (v := 1) hx hb dX5_takesOrder_77 (by decide) ?_
      refine lv_goto (tgt := 82) hx hb dX5_takesOrder_78 (by decide) ?_
      refine lv_istore_n (lv' := [(1, .int 1), (0, .ref mm)]) hx hb dX5_takesOrder_82 rfl hl (by decide) rfl (fun ls hl => ?_)
      refine lv_iconst (v := 1) hx hb dX5_takesOrder_83 (by decide) ?_
      refine lv_istore_n (lv' := [(2, .int 1), (1, .int 1), (0, .ref mm)]) hx hb dX5_takesOrder_84 rfl hl (by decide) rfl (fun ls hl => ?_)
      refine lv_iload_n hx hb dX5_takesOrder_85 rfl (lv_at hl 0 rfl) ?_
      refine lv_iload_n hx hb dX5_takesOrder_86 rfl (lv_at hl 1 rfl) ?_
      refine lv_if_eq (tgt := 95) hx hb dX5_takesOrder_87 (by decide) (fun h => False.elim (by revert h; decide)) (fun _ => ?_)
      refine lv_bipush (v := 6) hx hb dX5_takesOrder_90 (by decide) ?_
      refine lv_goto (tgt := 96) hx hb dX5_takesOrder_92 (by decide) ?_
      refine lv_icmp_ge (tgt := 159) hx hb dX5_takesOrder_96 (by decide) (fun h => False.elim (by revert h; decide)) (fun _ => ?_)
      refine lv_iload_n hx hb dX5_takesOrder_99 rfl (lv_at hl 0 rfl) ?_
      refine lv_iconst (v := 1) hx hb dX5_takesOrder_100 (by decide) ?_
      refine lv_icmp_le (tgt := 125) hx hb dX5_takesOrder_101 (by decide) (fun _ => ?_) (fun h => False.elim (by revert h; decide))
      refine lv_aload_n hx hb dX5_takesOrder_125 rfl (lv_at hl 2 rfl) ?_
      refine lv_iload_n hx hb dX5_takesOrder_126 rfl (lv_at hl 1 rfl) ?_
      refine lv_if_ne (tgt := 134) hx hb dX5_takesOrder_127 (by decide) (fun _ => ?_) (fun h => False.elim (by revert h; decide))
      refine lv_iconst (v := 0) hx hb dX5_takesOrder_134 (by decide) ?_
      refine x_callWi (wc := [(mm, .inr (5, [.ref mn, .ref mh, .int kp, .ref ms, .int fl, .ref mr, .ref md, .ref mo, .ref mc, .int (nI ln), .ref mt, .int (nI ((at9 + 1))), .int nu, .ref mq])), (mt, .inl (cC, 60, .inl (tx)))]) (wr := [(mq, .inl (cI, 6, .inl (upd od 0 (tx at9))))]) (va_runV (As := [.int 0]) (rest := []) ⟨hx, hb, hml, hown, hts⟩ (c_X5_takesNumber_0 l D cI cC cS tt H.size mm mn mh ms mr md mo mc mt mq ln (at9 + 1) kp fl nu tx (by first | omega | assumption | decide) (by first | omega | assumption | decide)) (cwV 1 hts gX5_takesOrder_X5_takesNumber rfl rfl rfl (by decide +kernel) ⟨Nat.le_of_ble_eq_true rfl, Nat.le_of_ble_eq_true rfl⟩) ⟨x_blindW, va_recv hK hP (ci := 5) (q0 := 0) rfl rfl, x_preW hP hD hK hE hS hA [0, 1] rfl (by decide)⟩ rfl rfl hl.1 rfl (lv_room (Nat.le_of_ble_eq_true rfl)) dX5_takesOrder_135 ⟨(Nat.le_of_ble_eq_true rfl), (Nat.le_of_ble_eq_true rfl)⟩) hP hD hS hA [0, 1] [2] rfl rfl (by decide) (by decide) (fun r_1 w1 H locs hw hP hD hS => ?_)
      rcases hw with ⟨rfl, rfl, hf135_0, hf135_1⟩ | ⟨rfl, rfl, hf135_0⟩
      · skip
        have hP : va_P D vwCl [(mm, .inr (5, [.ref mn, .ref mh, .int kp, .ref ms, .int fl, .ref mr, .ref md, .ref mo, .ref mc, .int (nI ln), .ref mt, .int (nI (dE tx ln (at9 + 1))), .int (zI (dV tx ln (at9 + 1))), .ref mq])), (mt, .inl (cC, 60, .inl (tx))), (mq, .inl (cI, 6, .inl (upd od 0 (tx at9))))] H := hP
        have hD : va_D (Ar) [(mm, .inr (5, [.ref mn, .ref mh, .int kp, .ref ms, .int fl, .ref mr, .ref md, .ref mo, .ref mc, .int (nI ln), .ref mt, .int (nI (dE tx ln (at9 + 1))), .int (zI (dV tx ln (at9 + 1))), .ref mq])), (mt, .inl (cC, 60, .inl (tx))), (mq, .inl (cI, 6, .inl (upd od 0 (tx at9))))] := hD
        refine lv_if_ne (tgt := 143) hx hb dX5_takesOrder_138 (by decide) (fun _ => ?_) (fun h => False.elim (by revert h; decide))
        refine lv_aload_n hx hb dX5_takesOrder_143 rfl (lv_at hl 2 rfl) ?_
        refine va_get (v := .ref mq) (D := D) (ci := 5) (C := RX5) (T := TX5) (N := 14) hx hb hts (by decide +kernel) hown hK hP 0 rfl rfl 13 (by decide) (hts (.fieldLink RX5 35 "SpiralFramesModel" "order" "[I") (by decide +kernel)) (fun _ h9 => h9) rfl dX5_takesOrder_144 ?_
        refine lv_iload_n hx hb dX5_takesOrder_147 rfl (lv_at hl 0 rfl) ?_
        refine lv_aload_n hx hb dX5_takesOrder_148 rfl (lv_at hl 2 rfl) ?_
        refine va_get (v := .int (zI (dV tx ln (at9 + 1)))) (D := D) (ci := 5) (C := RX5) (T := TX5) (N := 14) hx hb hts (by decide +kernel) hown hK hP 0 rfl rfl 12 (by decide) (hts (.fieldLink RX5 133 "SpiralFramesModel" "number" "I") (by decide +kernel)) (fun _ h9 => h9) rfl dX5_takesOrder_149 ?_
        refine x_eqi2 (show (1 : Int32) = nI 1 from by decide) ?_
        refine x_iast hx hb hK hP hD hS 2 0 rfl rfl (k := 1) (by omega) (by decide) dX5_takesOrder_152 (fun H locs hP hD hS => ?_)
        have hP : va_P D vwCl [(mm, .inr (5, [.ref mn, .ref mh, .int kp, .ref ms, .int fl, .ref mr, .ref md, .ref mo, .ref mc, .int (nI ln), .ref mt, .int (nI (dE tx ln (at9 + 1))), .int (zI (dV tx ln (at9 + 1))), .ref mq])), (mt, .inl (cC, 60, .inl (tx))), (mq, .inl (cI, 6, .inl (upd (upd od 0 (tx at9)) 1 (zI (dV tx ln (at9 + 1))))))] H := hP
        have hD : va_D (Ar) [(mm, .inr (5, [.ref mn, .ref mh, .int kp, .ref ms, .int fl, .ref mr, .ref md, .ref mo, .ref mc, .int (nI ln), .ref mt, .int (nI (dE tx ln (at9 + 1))), .int (zI (dV tx ln (at9 + 1))), .ref mq])), (mt, .inl (cC, 60, .inl (tx))), (mq, .inl (cI, 6, .inl (upd (upd od 0 (tx at9)) 1 (zI (dV tx ln (at9 + 1))))))] := hD
        refine lv_iinc (v := 2) (lv' := [(2, .int 2), (1, .int 1), (0, .ref mm)]) hx hb dX5_takesOrder_153 hl (k := 0) rfl (by decide) (by decide) rfl (fun ls hl => ?_)
        refine lv_goto (tgt := 85) hx hb dX5_takesOrder_156 (by decide) ?_
        refine lv_iload_n hx hb dX5_takesOrder_85 rfl (lv_at hl 0 rfl) ?_
        refine lv_iload_n hx hb dX5_takesOrder_86 rfl (lv_at hl 1 rfl) ?_
        refine lv_if_eq (tgt := 95) hx hb dX5_takesOrder_87 (by decide) (fun h => False.elim (by revert h; decide)) (fun _ => ?_)
        refine lv_bipush (v := 6) hx hb dX5_takesOrder_90 (by decide) ?_
        refine lv_goto (tgt := 96) hx hb dX5_takesOrder_92 (by decide) ?_
        refine lv_icmp_ge (tgt := 159) hx hb dX5_takesOrder_96 (by decide) (fun h => False.elim (by revert h; decide)) (fun _ => ?_)
        refine lv_iload_n hx hb dX5_takesOrder_99 rfl (lv_at hl 0 rfl) ?_
        refine lv_iconst (v := 1) hx hb dX5_takesOrder_100 (by decide) ?_
        refine lv_icmp_le (tgt := 125) hx hb dX5_takesOrder_101 (by decide) (fun h => False.elim (by revert h; decide)) (fun _ => ?_)
        refine lv_aload_n hx hb dX5_takesOrder_104 rfl (lv_at hl 2 rfl) ?_
        refine lv_iload_n hx hb dX5_takesOrder_105 rfl (lv_at hl 0 rfl) ?_
        refine lv_iconst (v := 5) hx hb dX5_takesOrder_106 (by decide) ?_
        refine lv_icmp_ne (tgt := 115) hx hb dX5_takesOrder_107 (by decide) (fun _ => ?_) (fun h => False.elim (by revert h; decide))
        refine lv_bipush (v := 44) hx hb dX5_takesOrder_115 (by decide) ?_
        refine x_callWi (wc := [(mm, .inr (5, [.ref mn, .ref mh, .int kp, .ref ms, .int fl, .ref mr, .ref md, .ref mo, .ref mc, .int (nI ln), .ref mt, .int (nI ((dE tx ln (at9 + 1)))), .int (zI (dV tx ln (at9 + 1))), .ref mq])), (mt, .inl (cC, 60, .inl (tx)))]) (wr := [(mq, .inl (cI, 6, .inl (upd (upd od 0 (tx at9)) 1 (zI (dV tx ln (at9 + 1))))))]) (va_runV (As := [.int 44]) (rest := []) ⟨hx, hb, hml, hown, hts⟩ (c_X5_takes l D cI cC cS tt H.size mm mn mh ms mr md mo mc mt mq ln (dE tx ln (at9 + 1)) kp fl (zI (dV tx ln (at9 + 1))) tx 44 44 (show (44 : Int32).toInt = 44 from by decide) (by first | omega | assumption | decide) (by first | omega | assumption | decide)) (cwV 1 hts gX5_takesOrder_X5_takes rfl rfl rfl (by decide +kernel) ⟨Nat.le_of_ble_eq_true rfl, Nat.le_of_ble_eq_true rfl⟩) ⟨x_blindW, va_recv hK hP (ci := 5) (q0 := 0) rfl rfl, x_preW hP hD hK hE hS hA [0, 1] rfl (by decide)⟩ rfl rfl hl.1 rfl (lv_room (Nat.le_of_ble_eq_true rfl)) dX5_takesOrder_117 ⟨(Nat.le_of_ble_eq_true rfl), (Nat.le_of_ble_eq_true rfl)⟩) hP hD hS hA [0, 1] [2] rfl rfl (by decide) (by decide) (fun r_2 w1 H locs hw hP hD hS => ?_)
        rcases hw with ⟨rfl, rfl, hf117_0⟩ | ⟨rfl, rfl, hf117_0⟩
        · skip
          have hP : va_P D vwCl [(mm, .inr (5, [.ref mn, .ref mh, .int kp, .ref ms, .int fl, .ref mr, .ref md, .ref mo, .ref mc, .int (nI ln), .ref mt, .int (nI ((dE tx ln (at9 + 1)) + 1)), .int (zI (dV tx ln (at9 + 1))), .ref mq])), (mt, .inl (cC, 60, .inl (tx))), (mq, .inl (cI, 6, .inl (upd (upd od 0 (tx at9)) 1 (zI (dV tx ln (at9 + 1))))))] H := hP
          have hD : va_D (Ar) [(mm, .inr (5, [.ref mn, .ref mh, .int kp, .ref ms, .int fl, .ref mr, .ref md, .ref mo, .ref mc, .int (nI ln), .ref mt, .int (nI ((dE tx ln (at9 + 1)) + 1)), .int (zI (dV tx ln (at9 + 1))), .ref mq])), (mt, .inl (cC, 60, .inl (tx))), (mq, .inl (cI, 6, .inl (upd (upd od 0 (tx at9)) 1 (zI (dV tx ln (at9 + 1))))))] := hD
          refine lv_if_ne (tgt := 125) hx hb dX5_takesOrder_120 (by decide) (fun _ => ?_) (fun h => False.elim (by revert h; decide))
          refine lv_aload_n hx hb dX5_takesOrder_125 rfl (lv_at hl 2 rfl) ?_
          refine lv_iload_n hx hb dX5_takesOrder_126 rfl (lv_at hl 1 rfl) ?_
          refine lv_if_ne (tgt := 134) hx hb dX5_takesOrder_127 (by decide) (fun _ => ?_) (fun h => False.elim (by revert h; decide))
          refine lv_iconst (v := 0) hx hb dX5_takesOrder_134 (by decide) ?_
          refine x_callWi (wc := [(mm, .inr (5, [.ref mn, .ref mh, .int kp, .ref ms, .int fl, .ref mr, .ref md, .ref mo, .ref mc, .int (nI ln), .ref mt, .int (nI (((dE tx ln (at9 + 1)) + 1))), .int (zI (dV tx ln (at9 + 1))), .ref mq])), (mt, .inl (cC, 60, .inl (tx)))]) (wr := [(mq, .inl (cI, 6, .inl (upd (upd od 0 (tx at9)) 1 (zI (dV tx ln (at9 + 1))))))]) (va_runV (As := [.int 0]) (rest := []) ⟨hx, hb, hml, hown, hts⟩ (c_X5_takesNumber_0 l D cI cC cS tt H.size mm mn mh ms mr md mo mc mt mq ln ((dE tx ln (at9 + 1)) + 1) kp fl (zI (dV tx ln (at9 + 1))) tx (by first | omega | assumption | decide) (by first | omega | assumption | decide)) (cwV 1 hts gX5_takesOrder_X5_takesNumber rfl rfl rfl (by decide +kernel) ⟨Nat.le_of_ble_eq_true rfl, Nat.le_of_ble_eq_true rfl⟩) ⟨x_blindW, va_recv hK hP (ci := 5) (q0 := 0) rfl rfl, x_preW hP hD hK hE hS hA [0, 1] rfl (by decide)⟩ rfl rfl hl.1 rfl (lv_room (Nat.le_of_ble_eq_true rfl)) dX5_takesOrder_135 ⟨(Nat.le_of_ble_eq_true rfl), (Nat.le_of_ble_eq_true rfl)⟩) hP hD hS hA [0, 1] [2] rfl rfl (by decide) (by decide) (fun r_3 w1 H locs hw hP hD hS => ?_)
          rcases hw with ⟨rfl, rfl, hf135v1_0, hf135v1_1⟩ | ⟨rfl, rfl, hf135v1_0⟩
          · skip
            have hP : va_P D vwCl [(mm, .inr (5, [.ref mn, .ref mh, .int kp, .ref ms, .int fl, .ref mr, .ref md, .ref mo, .ref mc, .int (nI ln), .ref mt, .int (nI (dE tx ln ((dE tx ln (at9 + 1)) + 1))), .int (zI (dV tx ln ((dE tx ln (at9 + 1)) + 1))), .ref mq])), (mt, .inl (cC, 60, .inl (tx))), (mq, .inl (cI, 6, .inl (upd (upd od 0 (tx at9)) 1 (zI (dV tx ln (at9 + 1))))))] H := hP
            have hD : va_D (Ar) [(mm, .inr (5, [.ref mn, .ref mh, .int kp, .ref ms, .int fl, .ref mr, .ref md, .ref mo, .ref mc, .int (nI ln), .ref mt, .int (nI (dE tx ln ((dE tx ln (at9 + 1)) + 1))), .int (zI (dV tx ln ((dE tx ln (at9 + 1)) + 1))), .ref mq])), (mt, .inl (cC, 60, .inl (tx))), (mq, .inl (cI, 6, .inl (upd (upd od 0 (tx at9)) 1 (zI (dV tx ln (at9 + 1))))))] := hD
            refine lv_if_ne (tgt := 143) hx hb dX5_takesOrder_138 (by decide) (fun _ => ?_) (fun h => False.elim (by revert h; decide))
            refine lv_aload_n hx hb dX5_takesOrder_143 rfl (lv_at hl 2 rfl) ?_
            refine va_get (v := .ref mq) (D := D) (ci := 5) (C := RX5) (T := TX5) (N := 14) hx hb hts (by decide +kernel) hown hK hP 0 rfl rfl 13 (by decide) (hts (.fieldLink RX5 35 "SpiralFramesModel" "order" "[I") (by decide +kernel)) (fun _ h9 => h9) rfl dX5_takesOrder_144 ?_
            refine lv_iload_n hx hb dX5_takesOrder_147 rfl (lv_at hl 0 rfl) ?_
            refine lv_aload_n hx hb dX5_takesOrder_148 rfl (lv_at hl 2 rfl) ?_
            refine va_get (v := .int (zI (dV tx ln ((dE tx ln (at9 + 1)) + 1)))) (D := D) (ci := 5) (C := RX5) (T := TX5) (N := 14) hx hb hts (by decide +kernel) hown hK hP 0 rfl rfl 12 (by decide) (hts (.fieldLink RX5 133 "SpiralFramesModel" "number" "I") (by decide +kernel)) (fun _ h9 => h9) rfl dX5_takesOrder_149 ?_
            refine x_eqi2 (show (2 : Int32) = nI 2 from by decide) ?_
            refine x_iast hx hb hK hP hD hS 2 0 rfl rfl (k := 2) (by omega) (by decide) dX5_takesOrder_152 (fun H locs hP hD hS => ?_)
            have hP : va_P D vwCl [(mm, .inr (5, [.ref mn, .ref mh, .int kp, .ref ms, .int fl, .ref mr, .ref md, .ref mo, .ref mc, .int (nI ln), .ref mt, .int (nI (dE tx ln ((dE tx ln (at9 + 1)) + 1))), .int (zI (dV tx ln ((dE tx ln (at9 + 1)) + 1))), .ref mq])), (mt, .inl (cC, 60, .inl (tx))), (mq, .inl (cI, 6, .inl (upd (upd (upd od 0 (tx at9)) 1 (zI (dV tx ln (at9 + 1)))) 2 (zI (dV tx ln ((dE tx ln (at9 + 1)) + 1))))))] H := hP
            have hD : va_D (Ar) [(mm, .inr (5, [.ref mn, .ref mh, .int kp, .ref ms, .int fl, .ref mr, .ref md, .ref mo, .ref mc, .int (nI ln), .ref mt, .int (nI (dE tx ln ((dE tx ln (at9 + 1)) + 1))), .int (zI (dV tx ln ((dE tx ln (at9 + 1)) + 1))), .ref mq])), (mt, .inl (cC, 60, .inl (tx))), (mq, .inl (cI, 6, .inl (upd (upd (upd od 0 (tx at9)) 1 (zI (dV tx ln (at9 + 1)))) 2 (zI (dV tx ln ((dE tx ln (at9 + 1)) + 1))))))] := hD
            refine lv_iinc (v := 3) (lv' := [(2, .int 3), (1, .int 1), (0, .ref mm)]) hx hb dX5_takesOrder_153 hl (k := 0) rfl (by decide) (by decide) rfl (fun ls hl => ?_)
            refine lv_goto (tgt := 85) hx hb dX5_takesOrder_156 (by decide) ?_
            refine lv_iload_n hx hb dX5_takesOrder_85 rfl (lv_at hl 0 rfl) ?_
            refine lv_iload_n hx hb dX5_takesOrder_86 rfl (lv_at hl 1 rfl) ?_
            refine lv_if_eq (tgt := 95) hx hb dX5_takesOrder_87 (by decide) (fun h => False.elim (by revert h; decide)) (fun _ => ?_)
            refine lv_bipush (v := 6) hx hb dX5_takesOrder_90 (by decide) ?_
            refine lv_goto (tgt := 96) hx hb dX5_takesOrder_92 (by decide) ?_
            refine lv_icmp_ge (tgt := 159) hx hb dX5_takesOrder_96 (by decide) (fun h => False.elim (by revert h; decide)) (fun _ => ?_)
            refine lv_iload_n hx hb dX5_takesOrder_99 rfl (lv_at hl 0 rfl) ?_
            refine lv_iconst (v := 1) hx hb dX5_takesOrder_100 (by decide) ?_
            refine lv_icmp_le (tgt := 125) hx hb dX5_takesOrder_101 (by decide) (fun h => False.elim (by revert h; decide)) (fun _ => ?_)
            refine lv_aload_n hx hb dX5_takesOrder_104 rfl (lv_at hl 2 rfl) ?_
            refine lv_iload_n hx hb dX5_takesOrder_105 rfl (lv_at hl 0 rfl) ?_
            refine lv_iconst (v := 5) hx hb dX5_takesOrder_106 (by decide) ?_
            refine lv_icmp_ne (tgt := 115) hx hb dX5_takesOrder_107 (by decide) (fun _ => ?_) (fun h => False.elim (by revert h; decide))
            refine lv_bipush (v := 44) hx hb dX5_takesOrder_115 (by decide) ?_
            refine x_callWi (wc := [(mm, .inr (5, [.ref mn, .ref mh, .int kp, .ref ms, .int fl, .ref mr, .ref md, .ref mo, .ref mc, .int (nI ln), .ref mt, .int (nI ((dE tx ln ((dE tx ln (at9 + 1)) + 1)))), .int (zI (dV tx ln ((dE tx ln (at9 + 1)) + 1))), .ref mq])), (mt, .inl (cC, 60, .inl (tx)))]) (wr := [(mq, .inl (cI, 6, .inl (upd (upd (upd od 0 (tx at9)) 1 (zI (dV tx ln (at9 + 1)))) 2 (zI (dV tx ln ((dE tx ln (at9 + 1)) + 1))))))]) (va_runV (As := [.int 44]) (rest := []) ⟨hx, hb, hml, hown, hts⟩ (c_X5_takes l D cI cC cS tt H.size mm mn mh ms mr md mo mc mt mq ln (dE tx ln ((dE tx ln (at9 + 1)) + 1)) kp fl (zI (dV tx ln ((dE tx ln (at9 + 1)) + 1))) tx 44 44 (show (44 : Int32).toInt = 44 from by decide) (by first | omega | assumption | decide) (by first | omega | assumption | decide)) (cwV 1 hts gX5_takesOrder_X5_takes rfl rfl rfl (by decide +kernel) ⟨Nat.le_of_ble_eq_true rfl, Nat.le_of_ble_eq_true rfl⟩) ⟨x_blindW, va_recv hK hP (ci := 5) (q0 := 0) rfl rfl, x_preW hP hD hK hE hS hA [0, 1] rfl (by decide)⟩ rfl rfl hl.1 rfl (lv_room (Nat.le_of_ble_eq_true rfl)) dX5_takesOrder_117 ⟨(Nat.le_of_ble_eq_true rfl), (Nat.le_of_ble_eq_true rfl)⟩) hP hD hS hA [0, 1] [2] rfl rfl (by decide) (by decide) (fun r_4 w1 H locs hw hP hD hS => ?_)
            rcases hw with ⟨rfl, rfl, hf117v1_0⟩ | ⟨rfl, rfl, hf117v1_0⟩
            · skip
              have hP : va_P D vwCl [(mm, .inr (5, [.ref mn, .ref mh, .int kp, .ref ms, .int fl, .ref mr, .ref md, .ref mo, .ref mc, .int (nI ln), .ref mt, .int (nI ((dE tx ln ((dE tx ln (at9 + 1)) + 1)) + 1)), .int (zI (dV tx ln ((dE tx ln (at9 + 1)) + 1))), .ref mq])), (mt, .inl (cC, 60, .inl (tx))), (mq, .inl (cI, 6, .inl (upd (upd (upd od 0 (tx at9)) 1 (zI (dV tx ln (at9 + 1)))) 2 (zI (dV tx ln ((dE tx ln (at9 + 1)) + 1))))))] H := hP
              have hD : va_D (Ar) [(mm, .inr (5, [.ref mn, .ref mh, .int kp, .ref ms, .int fl, .ref mr, .ref md, .ref mo, .ref mc, .int (nI ln), .ref mt, .int (nI ((dE tx ln ((dE tx ln (at9 + 1)) + 1)) + 1)), .int (zI (dV tx ln ((dE tx ln (at9 + 1)) + 1))), .ref mq])), (mt, .inl (cC, 60, .inl (tx))), (mq, .inl (cI, 6, .inl (upd (upd (upd od 0 (tx at9)) 1 (zI (dV tx ln (at9 + 1)))) 2 (zI (dV tx ln ((dE tx ln (at9 + 1)) + 1))))))] := hD
              refine lv_if_ne (tgt := 125) hx hb dX5_takesOrder_120 (by decide) (fun _ => ?_) (fun h => False.elim (by revert h; decide))
              refine lv_aload_n hx hb dX5_takesOrder_125 rfl (lv_at hl 2 rfl) ?_
              refine lv_iload_n hx hb dX5_takesOrder_126 rfl (lv_at hl 1 rfl) ?_
              refine lv_if_ne (tgt := 134) hx hb dX5_takesOrder_127 (by decide) (fun _ => ?_) (fun h => False.elim (by revert h; decide))
              refine lv_iconst (v := 0) hx hb dX5_takesOrder_134 (by decide) ?_
              refine x_callWi (wc := [(mm, .inr (5, [.ref mn, .ref mh, .int kp, .ref ms, .int fl, .ref mr, .ref md, .ref mo, .ref mc, .int (nI ln), .ref mt, .int (nI (((dE tx ln ((dE tx ln (at9 + 1)) + 1)) + 1))), .int (zI (dV tx ln ((dE tx ln (at9 + 1)) + 1))), .ref mq])), (mt, .inl (cC, 60, .inl (tx)))]) (wr := [(mq, .inl (cI, 6, .inl (upd (upd (upd od 0 (tx at9)) 1 (zI (dV tx ln (at9 + 1)))) 2 (zI (dV tx ln ((dE tx ln (at9 + 1)) + 1))))))]) (va_runV (As := [.int 0]) (rest := []) ⟨hx, hb, hml, hown, hts⟩ (c_X5_takesNumber_0 l D cI cC cS tt H.size mm mn mh ms mr md mo mc mt mq ln ((dE tx ln ((dE tx ln (at9 + 1)) + 1)) + 1) kp fl (zI (dV tx ln ((dE tx ln (at9 + 1)) + 1))) tx (by first | omega | assumption | decide) (by first | omega | assumption | decide)) (cwV 1 hts gX5_takesOrder_X5_takesNumber rfl rfl rfl (by decide +kernel) ⟨Nat.le_of_ble_eq_true rfl, Nat.le_of_ble_eq_true rfl⟩) ⟨x_blindW, va_recv hK hP (ci := 5) (q0 := 0) rfl rfl, x_preW hP hD hK hE hS hA [0, 1] rfl (by decide)⟩ rfl rfl hl.1 rfl (lv_room (Nat.le_of_ble_eq_true rfl)) dX5_takesOrder_135 ⟨(Nat.le_of_ble_eq_true rfl), (Nat.le_of_ble_eq_true rfl)⟩) hP hD hS hA [0, 1] [2] rfl rfl (by decide) (by decide) (fun r_5 w1 H locs hw hP hD hS => ?_)
              rcases hw with ⟨rfl, rfl, hf135v2_0, hf135v2_1⟩ | ⟨rfl, rfl, hf135v2_0⟩
              · skip
                have hP : va_P D vwCl [(mm, .inr (5, [.ref mn, .ref mh, .int kp, .ref ms, .int fl, .ref mr, .ref md, .ref mo, .ref mc, .int (nI ln), .ref mt, .int (nI (dE tx ln ((dE tx ln ((dE tx ln (at9 + 1)) + 1)) + 1))), .int (zI (dV tx ln ((dE tx ln ((dE tx ln (at9 + 1)) + 1)) + 1))), .ref mq])), (mt, .inl (cC, 60, .inl (tx))), (mq, .inl (cI, 6, .inl (upd (upd (upd od 0 (tx at9)) 1 (zI (dV tx ln (at9 + 1)))) 2 (zI (dV tx ln ((dE tx ln (at9 + 1)) + 1))))))] H := hP
                have hD : va_D (Ar) [(mm, .inr (5, [.ref mn, .ref mh, .int kp, .ref ms, .int fl, .ref mr, .ref md, .ref mo, .ref mc, .int (nI ln), .ref mt, .int (nI (dE tx ln ((dE tx ln ((dE tx ln (at9 + 1)) + 1)) + 1))), .int (zI (dV tx ln ((dE tx ln ((dE tx ln (at9 + 1)) + 1)) + 1))), .ref mq])), (mt, .inl (cC, 60, .inl (tx))), (mq, .inl (cI, 6, .inl (upd (upd (upd od 0 (tx at9)) 1 (zI (dV tx ln (at9 + 1)))) 2 (zI (dV tx ln ((dE tx ln (at9 + 1)) + 1))))))] := hD
                refine lv_if_ne (tgt := 143) hx hb dX5_takesOrder_138 (by decide) (fun _ => ?_) (fun h => False.elim (by revert h; decide))
                refine lv_aload_n hx hb dX5_takesOrder_143 rfl (lv_at hl 2 rfl) ?_
                refine va_get (v := .ref mq) (D := D) (ci := 5) (C := RX5) (T := TX5) (N := 14) hx hb hts (by decide +kernel) hown hK hP 0 rfl rfl 13 (by decide) (hts (.fieldLink RX5 35 "SpiralFramesModel" "order" "[I") (by decide +kernel)) (fun _ h9 => h9) rfl dX5_takesOrder_144 ?_
                refine lv_iload_n hx hb dX5_takesOrder_147 rfl (lv_at hl 0 rfl) ?_
                refine lv_aload_n hx hb dX5_takesOrder_148 rfl (lv_at hl 2 rfl) ?_
                refine va_get (v := .int (zI (dV tx ln ((dE tx ln ((dE tx ln (at9 + 1)) + 1)) + 1)))) (D := D) (ci := 5) (C := RX5) (T := TX5) (N := 14) hx hb hts (by decide +kernel) hown hK hP 0 rfl rfl 12 (by decide) (hts (.fieldLink RX5 133 "SpiralFramesModel" "number" "I") (by decide +kernel)) (fun _ h9 => h9) rfl dX5_takesOrder_149 ?_
                refine x_eqi2 (show (3 : Int32) = nI 3 from by decide) ?_
                refine x_iast hx hb hK hP hD hS 2 0 rfl rfl (k := 3) (by omega) (by decide) dX5_takesOrder_152 (fun H locs hP hD hS => ?_)
                have hP : va_P D vwCl [(mm, .inr (5, [.ref mn, .ref mh, .int kp, .ref ms, .int fl, .ref mr, .ref md, .ref mo, .ref mc, .int (nI ln), .ref mt, .int (nI (dE tx ln ((dE tx ln ((dE tx ln (at9 + 1)) + 1)) + 1))), .int (zI (dV tx ln ((dE tx ln ((dE tx ln (at9 + 1)) + 1)) + 1))), .ref mq])), (mt, .inl (cC, 60, .inl (tx))), (mq, .inl (cI, 6, .inl (upd (upd (upd (upd od 0 (tx at9)) 1 (zI (dV tx ln (at9 + 1)))) 2 (zI (dV tx ln ((dE tx ln (at9 + 1)) + 1)))) 3 (zI (dV tx ln ((dE tx ln ((dE tx ln (at9 + 1)) + 1)) + 1))))))] H := hP
                have hD : va_D (Ar) [(mm, .inr (5, [.ref mn, .ref mh, .int kp, .ref ms, .int fl, .ref mr, .ref md, .ref mo, .ref mc, .int (nI ln), .ref mt, .int (nI (dE tx ln ((dE tx ln ((dE tx ln (at9 + 1)) + 1)) + 1))), .int (zI (dV tx ln ((dE tx ln ((dE tx ln (at9 + 1)) + 1)) + 1))), .ref mq])), (mt, .inl (cC, 60, .inl (tx))), (mq, .inl (cI, 6, .inl (upd (upd (upd (upd od 0 (tx at9)) 1 (zI (dV tx ln (at9 + 1)))) 2 (zI (dV tx ln ((dE tx ln (at9 + 1)) + 1)))) 3 (zI (dV tx ln ((dE tx ln ((dE tx ln (at9 + 1)) + 1)) + 1))))))] := hD
                refine lv_iinc (v := 4) (lv' := [(2, .int 4), (1, .int 1), (0, .ref mm)]) hx hb dX5_takesOrder_153 hl (k := 0) rfl (by decide) (by decide) rfl (fun ls hl => ?_)
                refine lv_goto (tgt := 85) hx hb dX5_takesOrder_156 (by decide) ?_
                refine lv_iload_n hx hb dX5_takesOrder_85 rfl (lv_at hl 0 rfl) ?_
                refine lv_iload_n hx hb dX5_takesOrder_86 rfl (lv_at hl 1 rfl) ?_
                refine lv_if_eq (tgt := 95) hx hb dX5_takesOrder_87 (by decide) (fun h => False.elim (by revert h; decide)) (fun _ => ?_)
                refine lv_bipush (v := 6) hx hb dX5_takesOrder_90 (by decide) ?_
                refine lv_goto (tgt := 96) hx hb dX5_takesOrder_92 (by decide) ?_
                refine lv_icmp_ge (tgt := 159) hx hb dX5_takesOrder_96 (by decide) (fun h => False.elim (by revert h; decide)) (fun _ => ?_)
                refine lv_iload_n hx hb dX5_takesOrder_99 rfl (lv_at hl 0 rfl) ?_
                refine lv_iconst (v := 1) hx hb dX5_takesOrder_100 (by decide) ?_
                refine lv_icmp_le (tgt := 125) hx hb dX5_takesOrder_101 (by decide) (fun h => False.elim (by revert h; decide)) (fun _ => ?_)
                refine lv_aload_n hx hb dX5_takesOrder_104 rfl (lv_at hl 2 rfl) ?_
                refine lv_iload_n hx hb dX5_takesOrder_105 rfl (lv_at hl 0 rfl) ?_
                refine lv_iconst (v := 5) hx hb dX5_takesOrder_106 (by decide) ?_
                refine lv_icmp_ne (tgt := 115) hx hb dX5_takesOrder_107 (by decide) (fun _ => ?_) (fun h => False.elim (by revert h; decide))
                refine lv_bipush (v := 44) hx hb dX5_takesOrder_115 (by decide) ?_
                refine x_callWi (wc := [(mm, .inr (5, [.ref mn, .ref mh, .int kp, .ref ms, .int fl, .ref mr, .ref md, .ref mo, .ref mc, .int (nI ln), .ref mt, .int (nI ((dE tx ln ((dE tx ln ((dE tx ln (at9 + 1)) + 1)) + 1)))), .int (zI (dV tx ln ((dE tx ln ((dE tx ln (at9 + 1)) + 1)) + 1))), .ref mq])), (mt, .inl (cC, 60, .inl (tx)))]) (wr := [(mq, .inl (cI, 6, .inl (upd (upd (upd (upd od 0 (tx at9)) 1 (zI (dV tx ln (at9 + 1)))) 2 (zI (dV tx ln ((dE tx ln (at9 + 1)) + 1)))) 3 (zI (dV tx ln ((dE tx ln ((dE tx ln (at9 + 1)) + 1)) + 1))))))]) (va_runV (As := [.int 44]) (rest := []) ⟨hx, hb, hml, hown, hts⟩ (c_X5_takes l D cI cC cS tt H.size mm mn mh ms mr md mo mc mt mq ln (dE tx ln ((dE tx ln ((dE tx ln (at9 + 1)) + 1)) + 1)) kp fl (zI (dV tx ln ((dE tx ln ((dE tx ln (at9 + 1)) + 1)) + 1))) tx 44 44 (show (44 : Int32).toInt = 44 from by decide) (by first | omega | assumption | decide) (by first | omega | assumption | decide)) (cwV 1 hts gX5_takesOrder_X5_takes rfl rfl rfl (by decide +kernel) ⟨Nat.le_of_ble_eq_true rfl, Nat.le_of_ble_eq_true rfl⟩) ⟨x_blindW, va_recv hK hP (ci := 5) (q0 := 0) rfl rfl, x_preW hP hD hK hE hS hA [0, 1] rfl (by decide)⟩ rfl rfl hl.1 rfl (lv_room (Nat.le_of_ble_eq_true rfl)) dX5_takesOrder_117 ⟨(Nat.le_of_ble_eq_true rfl), (Nat.le_of_ble_eq_true rfl)⟩) hP hD hS hA [0, 1] [2] rfl rfl (by decide) (by decide) (fun r_6 w1 H locs hw hP hD hS => ?_)
                rcases hw with ⟨rfl, rfl, hf117v2_0⟩ | ⟨rfl, rfl, hf117v2_0⟩
                · skip
                  have hP : va_P D vwCl [(mm, .inr (5, [.ref mn, .ref mh, .int kp, .ref ms, .int fl, .ref mr, .ref md, .ref mo, .ref mc, .int (nI ln), .ref mt, .int (nI ((dE tx ln ((dE tx ln ((dE tx ln (at9 + 1)) + 1)) + 1)) + 1)), .int (zI (dV tx ln ((dE tx ln ((dE tx ln (at9 + 1)) + 1)) + 1))), .ref mq])), (mt, .inl (cC, 60, .inl (tx))), (mq, .inl (cI, 6, .inl (upd (upd (upd (upd od 0 (tx at9)) 1 (zI (dV tx ln (at9 + 1)))) 2 (zI (dV tx ln ((dE tx ln (at9 + 1)) + 1)))) 3 (zI (dV tx ln ((dE tx ln ((dE tx ln (at9 + 1)) + 1)) + 1))))))] H := hP
                  have hD : va_D (Ar) [(mm, .inr (5, [.ref mn, .ref mh, .int kp, .ref ms, .int fl, .ref mr, .ref md, .ref mo, .ref mc, .int (nI ln), .ref mt, .int (nI ((dE tx ln ((dE tx ln ((dE tx ln (at9 + 1)) + 1)) + 1)) + 1)), .int (zI (dV tx ln ((dE tx ln ((dE tx ln (at9 + 1)) + 1)) + 1))), .ref mq])), (mt, .inl (cC, 60, .inl (tx))), (mq, .inl (cI, 6, .inl (upd (upd (upd (upd od 0 (tx at9)) 1 (zI (dV tx ln (at9 + 1)))) 2 (zI (dV tx ln ((dE tx ln (at9 + 1)) + 1)))) 3 (zI (dV tx ln ((dE tx ln ((dE tx ln (at9 + 1)) + 1)) + 1))))))] := hD
                  refine lv_if_ne (tgt := 125) hx hb dX5_takesOrder_120 (by decide) (fun _ => ?_) (fun h => False.elim (by revert h; decide))
                  refine lv_aload_n hx hb dX5_takesOrder_125 rfl (lv_at hl 2 rfl) ?_
                  refine lv_iload_n hx hb dX5_takesOrder_126 rfl (lv_at hl 1 rfl) ?_
                  refine lv_if_ne (tgt := 134) hx hb dX5_takesOrder_127 (by decide) (fun _ => ?_) (fun h => False.elim (by revert h; decide))
                  refine lv_iconst (v := 0) hx hb dX5_takesOrder_134 (by decide) ?_
                  refine x_callWi (wc := [(mm, .inr (5, [.ref mn, .ref mh, .int kp, .ref ms, .int fl, .ref mr, .ref md, .ref mo, .ref mc, .int (nI ln), .ref mt, .int (nI (((dE tx ln ((dE tx ln ((dE tx ln (at9 + 1)) + 1)) + 1)) + 1))), .int (zI (dV tx ln ((dE tx ln ((dE tx ln (at9 + 1)) + 1)) + 1))), .ref mq])), (mt, .inl (cC, 60, .inl (tx)))]) (wr := [(mq, .inl (cI, 6, .inl (upd (upd (upd (upd od 0 (tx at9)) 1 (zI (dV tx ln (at9 + 1)))) 2 (zI (dV tx ln ((dE tx ln (at9 + 1)) + 1)))) 3 (zI (dV tx ln ((dE tx ln ((dE tx ln (at9 + 1)) + 1)) + 1))))))]) (va_runV (As := [.int 0]) (rest := []) ⟨hx, hb, hml, hown, hts⟩ (c_X5_takesNumber_0 l D cI cC cS tt H.size mm mn mh ms mr md mo mc mt mq ln ((dE tx ln ((dE tx ln ((dE tx ln (at9 + 1)) + 1)) + 1)) + 1) kp fl (zI (dV tx ln ((dE tx ln ((dE tx ln (at9 + 1)) + 1)) + 1))) tx (by first | omega | assumption | decide) (by first | omega | assumption | decide)) (cwV 1 hts gX5_takesOrder_X5_takesNumber rfl rfl rfl (by decide +kernel) ⟨Nat.le_of_ble_eq_true rfl, Nat.le_of_ble_eq_true rfl⟩) ⟨x_blindW, va_recv hK hP (ci := 5) (q0 := 0) rfl rfl, x_preW hP hD hK hE hS hA [0, 1] rfl (by decide)⟩ rfl rfl hl.1 rfl (lv_room (Nat.le_of_ble_eq_true rfl)) dX5_takesOrder_135 ⟨(Nat.le_of_ble_eq_true rfl), (Nat.le_of_ble_eq_true rfl)⟩) hP hD hS hA [0, 1] [2] rfl rfl (by decide) (by decide) (fun r_7 w1 H locs hw hP hD hS => ?_)
                  rcases hw with ⟨rfl, rfl, hf135v3_0, hf135v3_1⟩ | ⟨rfl, rfl, hf135v3_0⟩
                  · skip
                    have hP : va_P D vwCl [(mm, .inr (5, [.ref mn, .ref mh, .int kp, .ref ms, .int fl, .ref mr, .ref md, .ref mo, .ref mc, .int (nI ln), .ref mt, .int (nI (dE tx ln ((dE tx ln ((dE tx ln ((dE tx ln (at9 + 1)) + 1)) + 1)) + 1))), .int (zI (dV tx ln ((dE tx ln ((dE tx ln ((dE tx ln (at9 + 1)) + 1)) + 1)) + 1))), .ref mq])), (mt, .inl (cC, 60, .inl (tx))), (mq, .inl (cI, 6, .inl (upd (upd (upd (upd od 0 (tx at9)) 1 (zI (dV tx ln (at9 + 1)))) 2 (zI (dV tx ln ((dE tx ln (at9 + 1)) + 1)))) 3 (zI (dV tx ln ((dE tx ln ((dE tx ln (at9 + 1)) + 1)) + 1))))))] H := hP
                    have hD : va_D (Ar) [(mm, .inr (5, [.ref mn, .ref mh, .int kp, .ref ms, .int fl, .ref mr, .ref md, .ref mo, .ref mc, .int (nI ln), .ref mt, .int (nI (dE tx ln ((dE tx ln ((dE tx ln ((dE tx ln (at9 + 1)) + 1)) + 1)) + 1))), .int (zI (dV tx ln ((dE tx ln ((dE tx ln ((dE tx ln (at9 + 1)) + 1)) + 1)) + 1))), .ref mq])), (mt, .inl (cC, 60, .inl (tx))), (mq, .inl (cI, 6, .inl (upd (upd (upd (upd od 0 (tx at9)) 1 (zI (dV tx ln (at9 + 1)))) 2 (zI (dV tx ln ((dE tx ln (at9 + 1)) + 1)))) 3 (zI (dV tx ln ((dE tx ln ((dE tx ln (at9 + 1)) + 1)) + 1))))))] := hD
                    refine lv_if_ne (tgt := 143) hx hb dX5_takesOrder_138 (by decide) (fun _ => ?_) (fun h => False.elim (by revert h; decide))
                    refine lv_aload_n hx hb dX5_takesOrder_143 rfl (lv_at hl 2 rfl) ?_
                    refine va_get (v := .ref mq) (D := D) (ci := 5) (C := RX5) (T := TX5) (N := 14) hx hb hts (by decide +kernel) hown hK hP 0 rfl rfl 13 (by decide) (hts (.fieldLink RX5 35 "SpiralFramesModel" "order" "[I") (by decide +kernel)) (fun _ h9 => h9) rfl dX5_takesOrder_144 ?_
                    refine lv_iload_n hx hb dX5_takesOrder_147 rfl (lv_at hl 0 rfl) ?_
                    refine lv_aload_n hx hb dX5_takesOrder_148 rfl (lv_at hl 2 rfl) ?_
                    refine va_get (v := .int (zI (dV tx ln ((dE tx ln ((dE tx ln ((dE tx ln (at9 + 1)) + 1)) + 1)) + 1)))) (D := D) (ci := 5) (C := RX5) (T := TX5) (N := 14) hx hb hts (by decide +kernel) hown hK hP 0 rfl rfl 12 (by decide) (hts (.fieldLink RX5 133 "SpiralFramesModel" "number" "I") (by decide +kernel)) (fun _ h9 => h9) rfl dX5_takesOrder_149 ?_
                    refine x_eqi2 (show (4 : Int32) = nI 4 from by decide) ?_
                    refine x_iast hx hb hK hP hD hS 2 0 rfl rfl (k := 4) (by omega) (by decide) dX5_takesOrder_152 (fun H locs hP hD hS => ?_)
                    have hP : va_P D vwCl [(mm, .inr (5, [.ref mn, .ref mh, .int kp, .ref ms, .int fl, .ref mr, .ref md, .ref mo, .ref mc, .int (nI ln), .ref mt, .int (nI (dE tx ln ((dE tx ln ((dE tx ln ((dE tx ln (at9 + 1)) + 1)) + 1)) + 1))), .int (zI (dV tx ln ((dE tx ln ((dE tx ln ((dE tx ln (at9 + 1)) + 1)) + 1)) + 1))), .ref mq])), (mt, .inl (cC, 60, .inl (tx))), (mq, .inl (cI, 6, .inl (upd (upd (upd (upd (upd od 0 (tx at9)) 1 (zI (dV tx ln (at9 + 1)))) 2 (zI (dV tx ln ((dE tx ln (at9 + 1)) + 1)))) 3 (zI (dV tx ln ((dE tx ln ((dE tx ln (at9 + 1)) + 1)) + 1)))) 4 (zI (dV tx ln ((dE tx ln ((dE tx ln ((dE tx ln (at9 + 1)) + 1)) + 1)) + 1))))))] H := hP
                    have hD : va_D (Ar) [(mm, .inr (5, [.ref mn, .ref mh, .int kp, .ref ms, .int fl, .ref mr, .ref md, .ref mo, .ref mc, .int (nI ln), .ref mt, .int (nI (dE tx ln ((dE tx ln ((dE tx ln ((dE tx ln (at9 + 1)) + 1)) + 1)) + 1))), .int (zI (dV tx ln ((dE tx ln ((dE tx ln ((dE tx ln (at9 + 1)) + 1)) + 1)) + 1))), .ref mq])), (mt, .inl (cC, 60, .inl (tx))), (mq, .inl (cI, 6, .inl (upd (upd (upd (upd (upd od 0 (tx at9)) 1 (zI (dV tx ln (at9 + 1)))) 2 (zI (dV tx ln ((dE tx ln (at9 + 1)) + 1)))) 3 (zI (dV tx ln ((dE tx ln ((dE tx ln (at9 + 1)) + 1)) + 1)))) 4 (zI (dV tx ln ((dE tx ln ((dE tx ln ((dE tx ln (at9 + 1)) + 1)) + 1)) + 1))))))] := hD
                    refine lv_iinc (v := 5) (lv' := [(2, .int 5), (1, .int 1), (0, .ref mm)]) hx hb dX5_takesOrder_153 hl (k := 0) rfl (by decide) (by decide) rfl (fun ls hl => ?_)
                    refine lv_goto (tgt := 85) hx hb dX5_takesOrder_156 (by decide) ?_
                    refine lv_iload_n hx hb dX5_takesOrder_85 rfl (lv_at hl 0 rfl) ?_
                    refine lv_iload_n hx hb dX5_takesOrder_86 rfl (lv_at hl 1 rfl) ?_
                    refine lv_if_eq (tgt := 95) hx hb dX5_takesOrder_87 (by decide) (fun h => False.elim (by revert h; decide)) (fun _ => ?_)
                    refine lv_bipush (v := 6) hx hb dX5_takesOrder_90 (by decide) ?_
                    refine lv_goto (tgt := 96) hx hb dX5_takesOrder_92 (by decide) ?_
                    refine lv_icmp_ge (tgt := 159) hx hb dX5_takesOrder_96 (by decide) (fun h => False.elim (by revert h; decide)) (fun _ => ?_)
                    refine lv_iload_n hx hb dX5_takesOrder_99 rfl (lv_at hl 0 rfl) ?_
                    refine lv_iconst (v := 1) hx hb dX5_takesOrder_100 (by decide) ?_
                    refine lv_icmp_le (tgt := 125) hx hb dX5_takesOrder_101 (by decide) (fun h => False.elim (by revert h; decide)) (fun _ => ?_)
                    refine lv_aload_n hx hb dX5_takesOrder_104 rfl (lv_at hl 2 rfl) ?_
                    refine lv_iload_n hx hb dX5_takesOrder_105 rfl (lv_at hl 0 rfl) ?_
                    refine lv_iconst (v := 5) hx hb dX5_takesOrder_106 (by decide) ?_
                    refine lv_icmp_ne (tgt := 115) hx hb dX5_takesOrder_107 (by decide) (fun h => False.elim (by revert h; decide)) (fun _ => ?_)
                    refine lv_bipush (v := 61) hx hb dX5_takesOrder_110 (by decide) ?_
                    refine lv_goto (tgt := 117) hx hb dX5_takesOrder_112 (by decide) ?_
                    refine x_callWi (wc := [(mm, .inr (5, [.ref mn, .ref mh, .int kp, .ref ms, .int fl, .ref mr, .ref md, .ref mo, .ref mc, .int (nI ln), .ref mt, .int (nI ((dE tx ln ((dE tx ln ((dE tx ln ((dE tx ln (at9 + 1)) + 1)) + 1)) + 1)))), .int (zI (dV tx ln ((dE tx ln ((dE tx ln ((dE tx ln (at9 + 1)) + 1)) + 1)) + 1))), .ref mq])), (mt, .inl (cC, 60, .inl (tx)))]) (wr := [(mq, .inl (cI, 6, .inl (upd (upd (upd (upd (upd od 0 (tx at9)) 1 (zI (dV tx ln (at9 + 1)))) 2 (zI (dV tx ln ((dE tx ln (at9 + 1)) + 1)))) 3 (zI (dV tx ln ((dE tx ln ((dE tx ln (at9 + 1)) + 1)) + 1)))) 4 (zI (dV tx ln ((dE tx ln ((dE tx ln ((dE tx ln (at9 + 1)) + 1)) + 1)) + 1))))))]) (va_runV (As := [.int 61]) (rest := []) ⟨hx, hb, hml, hown, hts⟩ (c_X5_takes l D cI cC cS tt H.size mm mn mh ms mr md mo mc mt mq ln (dE tx ln ((dE tx ln ((dE tx ln ((dE tx ln (at9 + 1)) + 1)) + 1)) + 1)) kp fl (zI (dV tx ln ((dE tx ln ((dE tx ln ((dE tx ln (at9 + 1)) + 1)) + 1)) + 1))) tx 61 61 (show (61 : Int32).toInt = 61 from by decide) (by first | omega | assumption | decide) (by first | omega | assumption | decide)) (cwV 1 hts gX5_takesOrder_X5_takes rfl rfl rfl (by decide +kernel) ⟨Nat.le_of_ble_eq_true rfl, Nat.le_of_ble_eq_true rfl⟩) ⟨x_blindW, va_recv hK hP (ci := 5) (q0 := 0) rfl rfl, x_preW hP hD hK hE hS hA [0, 1] rfl (by decide)⟩ rfl rfl hl.1 rfl (lv_room (Nat.le_of_ble_eq_true rfl)) dX5_takesOrder_117 ⟨(Nat.le_of_ble_eq_true rfl), (Nat.le_of_ble_eq_true rfl)⟩) hP hD hS hA [0, 1] [2] rfl rfl (by decide) (by decide) (fun r_8 w1 H locs hw hP hD hS => ?_)
                    rcases hw with ⟨rfl, rfl, hf117v3_0⟩ | ⟨rfl, rfl, hf117v3_0⟩
                    · skip
                      have hP : va_P D vwCl [(mm, .inr (5, [.ref mn, .ref mh, .int kp, .ref ms, .int fl, .ref mr, .ref md, .ref mo, .ref mc, .int (nI ln), .ref mt, .int (nI ((dE tx ln ((dE tx ln ((dE tx ln ((dE tx ln (at9 + 1)) + 1)) + 1)) + 1)) + 1)), .int (zI (dV tx ln ((dE tx ln ((dE tx ln ((dE tx ln (at9 + 1)) + 1)) + 1)) + 1))), .ref mq])), (mt, .inl (cC, 60, .inl (tx))), (mq, .inl (cI, 6, .inl (upd (upd (upd (upd (upd od 0 (tx at9)) 1 (zI (dV tx ln (at9 + 1)))) 2 (zI (dV tx ln ((dE tx ln (at9 + 1)) + 1)))) 3 (zI (dV tx ln ((dE tx ln ((dE tx ln (at9 + 1)) + 1)) + 1)))) 4 (zI (dV tx ln ((dE tx ln ((dE tx ln ((dE tx ln (at9 + 1)) + 1)) + 1)) + 1))))))] H := hP
                      have hD : va_D (Ar) [(mm, .inr (5, [.ref mn, .ref mh, .int kp, .ref ms, .int fl, .ref mr, .ref md, .ref mo, .ref mc, .int (nI ln), .ref mt, .int (nI ((dE tx ln ((dE tx ln ((dE tx ln ((dE tx ln (at9 + 1)) + 1)) + 1)) + 1)) + 1)), .int (zI (dV tx ln ((dE tx ln ((dE tx ln ((dE tx ln (at9 + 1)) + 1)) + 1)) + 1))), .ref mq])), (mt, .inl (cC, 60, .inl (tx))), (mq, .inl (cI, 6, .inl (upd (upd (upd (upd (upd od 0 (tx at9)) 1 (zI (dV tx ln (at9 + 1)))) 2 (zI (dV tx ln ((dE tx ln (at9 + 1)) + 1)))) 3 (zI (dV tx ln ((dE tx ln ((dE tx ln (at9 + 1)) + 1)) + 1)))) 4 (zI (dV tx ln ((dE tx ln ((dE tx ln ((dE tx ln (at9 + 1)) + 1)) + 1)) + 1))))))] := hD
                      refine lv_if_ne (tgt := 125) hx hb dX5_takesOrder_120 (by decide) (fun _ => ?_) (fun h => False.elim (by revert h; decide))
                      refine lv_aload_n hx hb dX5_takesOrder_125 rfl (lv_at hl 2 rfl) ?_
                      refine lv_iload_n hx hb dX5_takesOrder_126 rfl (lv_at hl 1 rfl) ?_
                      refine lv_if_ne (tgt := 134) hx hb dX5_takesOrder_127 (by decide) (fun _ => ?_) (fun h => False.elim (by revert h; decide))
                      refine lv_iconst (v := 0) hx hb dX5_takesOrder_134 (by decide) ?_
                      refine x_callWi (wc := [(mm, .inr (5, [.ref mn, .ref mh, .int kp, .ref ms, .int fl, .ref mr, .ref md, .ref mo, .ref mc, .int (nI ln), .ref mt, .int (nI (((dE tx ln ((dE tx ln ((dE tx ln ((dE tx ln (at9 + 1)) + 1)) + 1)) + 1)) + 1))), .int (zI (dV tx ln ((dE tx ln ((dE tx ln ((dE tx ln (at9 + 1)) + 1)) + 1)) + 1))), .ref mq])), (mt, .inl (cC, 60, .inl (tx)))]) (wr := [(mq, .inl (cI, 6, .inl (upd (upd (upd (upd (upd od 0 (tx at9)) 1 (zI (dV tx ln (at9 + 1)))) 2 (zI (dV tx ln ((dE tx ln (at9 + 1)) + 1)))) 3 (zI (dV tx ln ((dE tx ln ((dE tx ln (at9 + 1)) + 1)) + 1)))) 4 (zI (dV tx ln ((dE tx ln ((dE tx ln ((dE tx ln (at9 + 1)) + 1)) + 1)) + 1))))))]) (va_runV (As := [.int 0]) (rest := []) ⟨hx, hb, hml, hown, hts⟩ (c_X5_takesNumber_0 l D cI cC cS tt H.size mm mn mh ms mr md mo mc mt mq ln ((dE tx ln ((dE tx ln ((dE tx ln ((dE tx ln (at9 + 1)) + 1)) + 1)) + 1)) + 1) kp fl (zI (dV tx ln ((dE tx ln ((dE tx ln ((dE tx ln (at9 + 1)) + 1)) + 1)) + 1))) tx (by first | omega | assumption | decide) (by first | omega | assumption | decide)) (cwV 1 hts gX5_takesOrder_X5_takesNumber rfl rfl rfl (by decide +kernel) ⟨Nat.le_of_ble_eq_true rfl, Nat.le_of_ble_eq_true rfl⟩) ⟨x_blindW, va_recv hK hP (ci := 5) (q0 := 0) rfl rfl, x_preW hP hD hK hE hS hA [0, 1] rfl (by decide)⟩ rfl rfl hl.1 rfl (lv_room (Nat.le_of_ble_eq_true rfl)) dX5_takesOrder_135 ⟨(Nat.le_of_ble_eq_true rfl), (Nat.le_of_ble_eq_true rfl)⟩) hP hD hS hA [0, 1] [2] rfl rfl (by decide) (by decide) (fun r_9 w1 H locs hw hP hD hS => ?_)
                      rcases hw with ⟨rfl, rfl, hf135v4_0, hf135v4_1⟩ | ⟨rfl, rfl, hf135v4_0⟩
                      · skip
                        have hP : va_P D vwCl [(mm, .inr (5, [.ref mn, .ref mh, .int kp, .ref ms, .int fl, .ref mr, .ref md, .ref mo, .ref mc, .int (nI ln), .ref mt, .int (nI (dE tx ln ((dE tx ln ((dE tx ln ((dE tx ln ((dE tx ln (at9 + 1)) + 1)) + 1)) + 1)) + 1))), .int (zI (dV tx ln ((dE tx ln ((dE tx ln ((dE tx ln ((dE tx ln (at9 + 1)) + 1)) + 1)) + 1)) + 1))), .ref mq])), (mt, .inl (cC, 60, .inl (tx))), (mq, .inl (cI, 6, .inl (upd (upd (upd (upd (upd od 0 (tx at9)) 1 (zI (dV tx ln (at9 + 1)))) 2 (zI (dV tx ln ((dE tx ln (at9 + 1)) + 1)))) 3 (zI (dV tx ln ((dE tx ln ((dE tx ln (at9 + 1)) + 1)) + 1)))) 4 (zI (dV tx ln ((dE tx ln ((dE tx ln ((dE tx ln (at9 + 1)) + 1)) + 1)) + 1))))))] H := hP
                        have hD : va_D (Ar) [(mm, .inr (5, [.ref mn, .ref mh, .int kp, .ref ms, .int fl, .ref mr, .ref md, .ref mo, .ref mc, .int (nI ln), .ref mt, .int (nI (dE tx ln ((dE tx ln ((dE tx ln ((dE tx ln ((dE tx ln (at9 + 1)) + 1)) + 1)) + 1)) + 1))), .int (zI (dV tx ln ((dE tx ln ((dE tx ln ((dE tx ln ((dE tx ln (at9 + 1)) + 1)) + 1)) + 1)) + 1))), .ref mq])), (mt, .inl (cC, 60, .inl (tx))), (mq, .inl (cI, 6, .inl (upd (upd (upd (upd (upd od 0 (tx at9)) 1 (zI (dV tx ln (at9 + 1)))) 2 (zI (dV tx ln ((dE tx ln (at9 + 1)) + 1)))) 3 (zI (dV tx ln ((dE tx ln ((dE tx ln (at9 + 1)) + 1)) + 1)))) 4 (zI (dV tx ln ((dE tx ln ((dE tx ln ((dE tx ln (at9 + 1)) + 1)) + 1)) + 1))))))] := hD
                        refine lv_if_ne (tgt := 143) hx hb dX5_takesOrder_138 (by decide) (fun _ => ?_) (fun h => False.elim (by revert h; decide))
                        refine lv_aload_n hx hb dX5_takesOrder_143 rfl (lv_at hl 2 rfl) ?_
                        refine va_get (v := .ref mq) (D := D) (ci := 5) (C := RX5) (T := TX5) (N := 14) hx hb hts (by decide +kernel) hown hK hP 0 rfl rfl 13 (by decide) (hts (.fieldLink RX5 35 "SpiralFramesModel" "order" "[I") (by decide +kernel)) (fun _ h9 => h9) rfl dX5_takesOrder_144 ?_
                        refine lv_iload_n hx hb dX5_takesOrder_147 rfl (lv_at hl 0 rfl) ?_
                        refine lv_aload_n hx hb dX5_takesOrder_148 rfl (lv_at hl 2 rfl) ?_
                        refine va_get (v := .int (zI (dV tx ln ((dE tx ln ((dE tx ln ((dE tx ln ((dE tx ln (at9 + 1)) + 1)) + 1)) + 1)) + 1)))) (D := D) (ci := 5) (C := RX5) (T := TX5) (N := 14) hx hb hts (by decide +kernel) hown hK hP 0 rfl rfl 12 (by decide) (hts (.fieldLink RX5 133 "SpiralFramesModel" "number" "I") (by decide +kernel)) (fun _ h9 => h9) rfl dX5_takesOrder_149 ?_
                        refine x_eqi2 (show (5 : Int32) = nI 5 from by decide) ?_
                        refine x_iast hx hb hK hP hD hS 2 0 rfl rfl (k := 5) (by omega) (by decide) dX5_takesOrder_152 (fun H locs hP hD hS => ?_)
                        have hP : va_P D vwCl [(mm, .inr (5, [.ref mn, .ref mh, .int kp, .ref ms, .int fl, .ref mr, .ref md, .ref mo, .ref mc, .int (nI ln), .ref mt, .int (nI (dE tx ln ((dE tx ln ((dE tx ln ((dE tx ln ((dE tx ln (at9 + 1)) + 1)) + 1)) + 1)) + 1))), .int (zI (dV tx ln ((dE tx ln ((dE tx ln ((dE tx ln ((dE tx ln (at9 + 1)) + 1)) + 1)) + 1)) + 1))), .ref mq])), (mt, .inl (cC, 60, .inl (tx))), (mq, .inl (cI, 6, .inl (upd (upd (upd (upd (upd (upd od 0 (tx at9)) 1 (zI (dV tx ln (at9 + 1)))) 2 (zI (dV tx ln ((dE tx ln (at9 + 1)) + 1)))) 3 (zI (dV tx ln ((dE tx ln ((dE tx ln (at9 + 1)) + 1)) + 1)))) 4 (zI (dV tx ln ((dE tx ln ((dE tx ln ((dE tx ln (at9 + 1)) + 1)) + 1)) + 1)))) 5 (zI (dV tx ln ((dE tx ln ((dE tx ln ((dE tx ln ((dE tx ln (at9 + 1)) + 1)) + 1)) + 1)) + 1))))))] H := hP
                        have hD : va_D (Ar) [(mm, .inr (5, [.ref mn, .ref mh, .int kp, .ref ms, .int fl, .ref mr, .ref md, .ref mo, .ref mc, .int (nI ln), .ref mt, .int (nI (dE tx ln ((dE tx ln ((dE tx ln ((dE tx ln ((dE tx ln (at9 + 1)) + 1)) + 1)) + 1)) + 1))), .int (zI (dV tx ln ((dE tx ln ((dE tx ln ((dE tx ln ((dE tx ln (at9 + 1)) + 1)) + 1)) + 1)) + 1))), .ref mq])), (mt, .inl (cC, 60, .inl (tx))), (mq, .inl (cI, 6, .inl (upd (upd (upd (upd (upd (upd od 0 (tx at9)) 1 (zI (dV tx ln (at9 + 1)))) 2 (zI (dV tx ln ((dE tx ln (at9 + 1)) + 1)))) 3 (zI (dV tx ln ((dE tx ln ((dE tx ln (at9 + 1)) + 1)) + 1)))) 4 (zI (dV tx ln ((dE tx ln ((dE tx ln ((dE tx ln (at9 + 1)) + 1)) + 1)) + 1)))) 5 (zI (dV tx ln ((dE tx ln ((dE tx ln ((dE tx ln ((dE tx ln (at9 + 1)) + 1)) + 1)) + 1)) + 1))))))] := hD
                        refine lv_iinc (v := 6) (lv' := [(2, .int 6), (1, .int 1), (0, .ref mm)]) hx hb dX5_takesOrder_153 hl (k := 0) rfl (by decide) (by decide) rfl (fun ls hl => ?_)
                        refine lv_goto (tgt := 85) hx hb dX5_takesOrder_156 (by decide) ?_
                        refine lv_iload_n hx hb dX5_takesOrder_85 rfl (lv_at hl 0 rfl) ?_
                        refine lv_iload_n hx hb dX5_takesOrder_86 rfl (lv_at hl 1 rfl) ?_
                        refine lv_if_eq (tgt := 95) hx hb dX5_takesOrder_87 (by decide) (fun h => False.elim (by revert h; decide)) (fun _ => ?_)
                        refine lv_bipush (v := 6) hx hb dX5_takesOrder_90 (by decide) ?_
                        refine lv_goto (tgt := 96) hx hb dX5_takesOrder_92 (by decide) ?_
                        refine lv_icmp_ge (tgt := 159) hx hb dX5_takesOrder_96 (by decide) (fun _ => ?_) (fun h => False.elim (by revert h; decide))
                        refine lv_iconst (v := 1) hx hb dX5_takesOrder_159 (by decide) ?_
                        refine x_zretW (w := [(mm, .inr (5, [.ref mn, .ref mh, .int kp, .ref ms, .int fl, .ref mr, .ref md, .ref mo, .ref mc, .int (nI ln), .ref mt, .int (nI (dE tx ln ((dE tx ln ((dE tx ln ((dE tx ln ((dE tx ln (at9 + 1)) + 1)) + 1)) + 1)) + 1))), .int (zI (dV tx ln ((dE tx ln ((dE tx ln ((dE tx ln ((dE tx ln (at9 + 1)) + 1)) + 1)) + 1)) + 1))), .ref mq])), (mt, .inl (cC, 60, .inl (tx))), (mq, .inl (cI, 6, .inl (upd (upd (upd (upd (upd (upd od 0 (tx at9)) 1 (zI (dV tx ln (at9 + 1)))) 2 (zI (dV tx ln ((dE tx ln (at9 + 1)) + 1)))) 3 (zI (dV tx ln ((dE tx ln ((dE tx ln (at9 + 1)) + 1)) + 1)))) 4 (zI (dV tx ln ((dE tx ln ((dE tx ln ((dE tx ln (at9 + 1)) + 1)) + 1)) + 1)))) 5 (zI (dV tx ln ((dE tx ln ((dE tx ln ((dE tx ln ((dE tx ln (at9 + 1)) + 1)) + 1)) + 1)) + 1))))))]) hQ hAe hx hb hr hlocks (by decide) (hP.sub [0, 1, 2] rfl) (hD.sub [0, 1, 2] (by decide) rfl) hS ?_ dX5_takesOrder_160
                        refine Or.inl ?_
                        have h98 : tk tx ln at9 98 := ⟨by omega, c_22⟩
                        have hOR : oRes tx ln at9 = (true, dE tx ln ((dE tx ln ((dE tx ln ((dE tx ln ((dE tx ln (at9 + 1)) + 1)) + 1)) + 1)) + 1)) := by unfold oRes; rw [if_pos h98, if_pos hf135_0, if_pos hf117_0, if_pos hf135v1_0, if_pos hf117v1_0, if_pos hf135v2_0, if_pos hf117v2_0, if_pos hf135v3_0, if_pos hf117v3_0, if_pos hf135v4_0]
                        exact ⟨(zI (dV tx ln ((dE tx ln ((dE tx ln ((dE tx ln ((dE tx ln (at9 + 1)) + 1)) + 1)) + 1)) + 1))), (upd (upd (upd (upd (upd (upd od 0 (tx at9)) 1 (zI (dV tx ln (at9 + 1)))) 2 (zI (dV tx ln ((dE tx ln (at9 + 1)) + 1)))) 3 (zI (dV tx ln ((dE tx ln ((dE tx ln (at9 + 1)) + 1)) + 1)))) 4 (zI (dV tx ln ((dE tx ln ((dE tx ln ((dE tx ln (at9 + 1)) + 1)) + 1)) + 1)))) 5 (zI (dV tx ln ((dE tx ln ((dE tx ln ((dE tx ln ((dE tx ln (at9 + 1)) + 1)) + 1)) + 1)) + 1)))), rfl, by rw [hOR], by rw [hOR], (fun k9 h8 h9 => by unfold oK at h9; rw [if_pos h98] at h9; unfold oV; rw [if_pos h98]; rcases (show k9 = 1 ∨ k9 = 2 ∨ k9 = 3 ∨ k9 = 4 ∨ k9 = 5 by omega) with rfl | rfl | rfl | rfl | rfl <;> simp [upd] <;> rfl), by rw [if_pos h98]; exact Int32.toInt_inj.mp (by show (tx at9).toInt = _; rw [c_22]; rfl)⟩
                      · skip
                        have hP : va_P D vwCl [(mm, .inr (5, [.ref mn, .ref mh, .int kp, .ref ms, .int fl, .ref mr, .ref md, .ref mo, .ref mc, .int (nI ln), .ref mt, .int (nI (((dE tx ln ((dE tx ln ((dE tx ln ((dE tx ln (at9 + 1)) + 1)) + 1)) + 1)) + 1))), .int (zI (dV tx ln ((dE tx ln ((dE tx ln ((dE tx ln (at9 + 1)) + 1)) + 1)) + 1))), .ref mq])), (mt, .inl (cC, 60, .inl (tx))), (mq, .inl (cI, 6, .inl (upd (upd (upd (upd (upd od 0 (tx at9)) 1 (zI (dV tx ln (at9 + 1)))) 2 (zI (dV tx ln ((dE tx ln (at9 + 1)) + 1)))) 3 (zI (dV tx ln ((dE tx ln ((dE tx ln (at9 + 1)) + 1)) + 1)))) 4 (zI (dV tx ln ((dE tx ln ((dE tx ln ((dE tx ln (at9 + 1)) + 1)) + 1)) + 1))))))] H := hP
                        have hD : va_D (Ar) [(mm, .inr (5, [.ref mn, .ref mh, .int kp, .ref ms, .int fl, .ref mr, .ref md, .ref mo, .ref mc, .int (nI ln), .ref mt, .int (nI (((dE tx ln ((dE tx ln ((dE tx ln ((dE tx ln (at9 + 1)) + 1)) + 1)) + 1)) + 1))), .int (zI (dV tx ln ((dE tx ln ((dE tx ln ((dE tx ln (at9 + 1)) + 1)) + 1)) + 1))), .ref mq])), (mt, .inl (cC, 60, .inl (tx))), (mq, .inl (cI, 6, .inl (upd (upd (upd (upd (upd od 0 (tx at9)) 1 (zI (dV tx ln (at9 + 1)))) 2 (zI (dV tx ln ((dE tx ln (at9 + 1)) + 1)))) 3 (zI (dV tx ln ((dE tx ln ((dE tx ln (at9 + 1)) + 1)) + 1)))) 4 (zI (dV tx ln ((dE tx ln ((dE tx ln ((dE tx ln (at9 + 1)) + 1)) + 1)) + 1))))))] := hD
                        refine lv_if_ne (tgt := 143) hx hb dX5_takesOrder_138 (by decide) (fun h => False.elim (by revert h; decide)) (fun _ => ?_)
                        refine lv_iconst (v := 0) hx hb dX5_takesOrder_141 (by decide) ?_
                        refine x_zretW (w := [(mm, .inr (5, [.ref mn, .ref mh, .int kp, .ref ms, .int fl, .ref mr, .ref md, .ref mo, .ref mc, .int (nI ln), .ref mt, .int (nI (((dE tx ln ((dE tx ln ((dE tx ln ((dE tx ln (at9 + 1)) + 1)) + 1)) + 1)) + 1))), .int (zI (dV tx ln ((dE tx ln ((dE tx ln ((dE tx ln (at9 + 1)) + 1)) + 1)) + 1))), .ref mq])), (mt, .inl (cC, 60, .inl (tx))), (mq, .inl (cI, 6, .inl (upd (upd (upd (upd (upd od 0 (tx at9)) 1 (zI (dV tx ln (at9 + 1)))) 2 (zI (dV tx ln ((dE tx ln (at9 + 1)) + 1)))) 3 (zI (dV tx ln ((dE tx ln ((dE tx ln (at9 + 1)) + 1)) + 1)))) 4 (zI (dV tx ln ((dE tx ln ((dE tx ln ((dE tx ln (at9 + 1)) + 1)) + 1)) + 1))))))]) hQ hAe hx hb hr hlocks (by decide) (hP.sub [0, 1, 2] rfl) (hD.sub [0, 1, 2] (by decide) rfl) hS ?_ dX5_takesOrder_142
                        refine Or.inr (?_)
                        have h98 : tk tx ln at9 98 := ⟨by omega, c_22⟩
                        have hOR : oRes tx ln at9 = (false, ((dE tx ln ((dE tx ln ((dE tx ln ((dE tx ln (at9 + 1)) + 1)) + 1)) + 1)) + 1)) := by unfold oRes; rw [if_pos h98, if_pos hf135_0, if_pos hf117_0, if_pos hf135v1_0, if_pos hf117v1_0, if_pos hf135v2_0, if_pos hf117v2_0, if_pos hf135v3_0, if_pos hf117v3_0, if_neg hf135v4_0]
                        exact ⟨(zI (dV tx ln ((dE tx ln ((dE tx ln ((dE tx ln (at9 + 1)) + 1)) + 1)) + 1))), (upd (upd (upd (upd (upd od 0 (tx at9)) 1 (zI (dV tx ln (at9 + 1)))) 2 (zI (dV tx ln ((dE tx ln (at9 + 1)) + 1)))) 3 (zI (dV tx ln ((dE tx ln ((dE tx ln (at9 + 1)) + 1)) + 1)))) 4 (zI (dV tx ln ((dE tx ln ((dE tx ln ((dE tx ln (at9 + 1)) + 1)) + 1)) + 1)))), rfl, by rw [hOR], by rw [hOR]⟩
                    · skip
                      have hP : va_P D vwCl [(mm, .inr (5, [.ref mn, .ref mh, .int kp, .ref ms, .int fl, .ref mr, .ref md, .ref mo, .ref mc, .int (nI ln), .ref mt, .int (nI ((dE tx ln ((dE tx ln ((dE tx ln ((dE tx ln (at9 + 1)) + 1)) + 1)) + 1)))), .int (zI (dV tx ln ((dE tx ln ((dE tx ln ((dE tx ln (at9 + 1)) + 1)) + 1)) + 1))), .ref mq])), (mt, .inl (cC, 60, .inl (tx))), (mq, .inl (cI, 6, .inl (upd (upd (upd (upd (upd od 0 (tx at9)) 1 (zI (dV tx ln (at9 + 1)))) 2 (zI (dV tx ln ((dE tx ln (at9 + 1)) + 1)))) 3 (zI (dV tx ln ((dE tx ln ((dE tx ln (at9 + 1)) + 1)) + 1)))) 4 (zI (dV tx ln ((dE tx ln ((dE tx ln ((dE tx ln (at9 + 1)) + 1)) + 1)) + 1))))))] H := hP
                      have hD : va_D (Ar) [(mm, .inr (5, [.ref mn, .ref mh, .int kp, .ref ms, .int fl, .ref mr, .ref md, .ref mo, .ref mc, .int (nI ln), .ref mt, .int (nI ((dE tx ln ((dE tx ln ((dE tx ln ((dE tx ln (at9 + 1)) + 1)) + 1)) + 1)))), .int (zI (dV tx ln ((dE tx ln ((dE tx ln ((dE tx ln (at9 + 1)) + 1)) + 1)) + 1))), .ref mq])), (mt, .inl (cC, 60, .inl (tx))), (mq, .inl (cI, 6, .inl (upd (upd (upd (upd (upd od 0 (tx at9)) 1 (zI (dV tx ln (at9 + 1)))) 2 (zI (dV tx ln ((dE tx ln (at9 + 1)) + 1)))) 3 (zI (dV tx ln ((dE tx ln ((dE tx ln (at9 + 1)) + 1)) + 1)))) 4 (zI (dV tx ln ((dE tx ln ((dE tx ln ((dE tx ln (at9 + 1)) + 1)) + 1)) + 1))))))] := hD
                      refine lv_if_ne (tgt := 125) hx hb dX5_takesOrder_120 (by decide) (fun h => False.elim (by revert h; decide)) (fun _ => ?_)
                      refine lv_iconst (v := 0) hx hb dX5_takesOrder_123 (by decide) ?_
                      refine x_zretW (w := [(mm, .inr (5, [.ref mn, .ref mh, .int kp, .ref ms, .int fl, .ref mr, .ref md, .ref mo, .ref mc, .int (nI ln), .ref mt, .int (nI ((dE tx ln ((dE tx ln ((dE tx ln ((dE tx ln (at9 + 1)) + 1)) + 1)) + 1)))), .int (zI (dV tx ln ((dE tx ln ((dE tx ln ((dE tx ln (at9 + 1)) + 1)) + 1)) + 1))), .ref mq])), (mt, .inl (cC, 60, .inl (tx))), (mq, .inl (cI, 6, .inl (upd (upd (upd (upd (upd od 0 (tx at9)) 1 (zI (dV tx ln (at9 + 1)))) 2 (zI (dV tx ln ((dE tx ln (at9 + 1)) + 1)))) 3 (zI (dV tx ln ((dE tx ln ((dE tx ln (at9 + 1)) + 1)) + 1)))) 4 (zI (dV tx ln ((dE tx ln ((dE tx ln ((dE tx ln (at9 + 1)) + 1)) + 1)) + 1))))))]) hQ hAe hx hb hr hlocks (by decide) (hP.sub [0, 1, 2] rfl) (hD.sub [0, 1, 2] (by decide) rfl) hS ?_ dX5_takesOrder_124
                      refine Or.inr (?_)
                      have h98 : tk tx ln at9 98 := ⟨by omega, c_22⟩
                      have hOR : oRes tx ln at9 = (false, (dE tx ln ((dE tx ln ((dE tx ln ((dE tx ln (at9 + 1)) + 1)) + 1)) + 1))) := by unfold oRes; rw [if_pos h98, if_pos hf135_0, if_pos hf117_0, if_pos hf135v1_0, if_pos hf117v1_0, if_pos hf135v2_0, if_pos hf117v2_0, if_pos hf135v3_0, if_neg hf117v3_0]
                      exact ⟨(zI (dV tx ln ((dE tx ln ((dE tx ln ((dE tx ln (at9 + 1)) + 1)) + 1)) + 1))), (upd (upd (upd (upd (upd od 0 (tx at9)) 1 (zI (dV tx ln (at9 + 1)))) 2 (zI (dV tx ln ((dE tx ln (at9 + 1)) + 1)))) 3 (zI (dV tx ln ((dE tx ln ((dE tx ln (at9 + 1)) + 1)) + 1)))) 4 (zI (dV tx ln ((dE tx ln ((dE tx ln ((dE tx ln (at9 + 1)) + 1)) + 1)) + 1)))), rfl, by rw [hOR], by rw [hOR]⟩
                  · skip
                    have hP : va_P D vwCl [(mm, .inr (5, [.ref mn, .ref mh, .int kp, .ref ms, .int fl, .ref mr, .ref md, .ref mo, .ref mc, .int (nI ln), .ref mt, .int (nI (((dE tx ln ((dE tx ln ((dE tx ln (at9 + 1)) + 1)) + 1)) + 1))), .int (zI (dV tx ln ((dE tx ln ((dE tx ln (at9 + 1)) + 1)) + 1))), .ref mq])), (mt, .inl (cC, 60, .inl (tx))), (mq, .inl (cI, 6, .inl (upd (upd (upd (upd od 0 (tx at9)) 1 (zI (dV tx ln (at9 + 1)))) 2 (zI (dV tx ln ((dE tx ln (at9 + 1)) + 1)))) 3 (zI (dV tx ln ((dE tx ln ((dE tx ln (at9 + 1)) + 1)) + 1))))))] H := hP
                    have hD : va_D (Ar) [(mm, .inr (5, [.ref mn, .ref mh, .int kp, .ref ms, .int fl, .ref mr, .ref md, .ref mo, .ref mc, .int (nI ln), .ref mt, .int (nI (((dE tx ln ((dE tx ln ((dE tx ln (at9 + 1)) + 1)) + 1)) + 1))), .int (zI (dV tx ln ((dE tx ln ((dE tx ln (at9 + 1)) + 1)) + 1))), .ref mq])), (mt, .inl (cC, 60, .inl (tx))), (mq, .inl (cI, 6, .inl (upd (upd (upd (upd od 0 (tx at9)) 1 (zI (dV tx ln (at9 + 1)))) 2 (zI (dV tx ln ((dE tx ln (at9 + 1)) + 1)))) 3 (zI (dV tx ln ((dE tx ln ((dE tx ln (at9 + 1)) + 1)) + 1))))))] := hD
                    refine lv_if_ne (tgt := 143) hx hb dX5_takesOrder_138 (by decide) (fun h => False.elim (by revert h; decide)) (fun _ => ?_)
                    refine lv_iconst (v := 0) hx hb dX5_takesOrder_141 (by decide) ?_
                    refine x_zretW (w := [(mm, .inr (5, [.ref mn, .ref mh, .int kp, .ref ms, .int fl, .ref mr, .ref md, .ref mo, .ref mc, .int (nI ln), .ref mt, .int (nI (((dE tx ln ((dE tx ln ((dE tx ln (at9 + 1)) + 1)) + 1)) + 1))), .int (zI (dV tx ln ((dE tx ln ((dE tx ln (at9 + 1)) + 1)) + 1))), .ref mq])), (mt, .inl (cC, 60, .inl (tx))), (mq, .inl (cI, 6, .inl (upd (upd (upd (upd od 0 (tx at9)) 1 (zI (dV tx ln (at9 + 1)))) 2 (zI (dV tx ln ((dE tx ln (at9 + 1)) + 1)))) 3 (zI (dV tx ln ((dE tx ln ((dE tx ln (at9 + 1)) + 1)) + 1))))))]) hQ hAe hx hb hr hlocks (by decide) (hP.sub [0, 1, 2] rfl) (hD.sub [0, 1, 2] (by decide) rfl) hS ?_ dX5_takesOrder_142
                    refine Or.inr (?_)
                    have h98 : tk tx ln at9 98 := ⟨by omega, c_22⟩
                    have hOR : oRes tx ln at9 = (false, ((dE tx ln ((dE tx ln ((dE tx ln (at9 + 1)) + 1)) + 1)) + 1)) := by unfold oRes; rw [if_pos h98, if_pos hf135_0, if_pos hf117_0, if_pos hf135v1_0, if_pos hf117v1_0, if_pos hf135v2_0, if_pos hf117v2_0, if_neg hf135v3_0]
                    exact ⟨(zI (dV tx ln ((dE tx ln ((dE tx ln (at9 + 1)) + 1)) + 1))), (upd (upd (upd (upd od 0 (tx at9)) 1 (zI (dV tx ln (at9 + 1)))) 2 (zI (dV tx ln ((dE tx ln (at9 + 1)) + 1)))) 3 (zI (dV tx ln ((dE tx ln ((dE tx ln (at9 + 1)) + 1)) + 1)))), rfl, by rw [hOR], by rw [hOR]⟩
                · skip
                  have hP : va_P D vwCl [(mm, .inr (5, [.ref mn, .ref mh, .int kp, .ref ms, .int fl, .ref mr, .ref md, .ref mo, .ref mc, .int (nI ln), .ref mt, .int (nI ((dE tx ln ((dE tx ln ((dE tx ln (at9 + 1)) + 1)) + 1)))), .int (zI (dV tx ln ((dE tx ln ((dE tx ln (at9 + 1)) + 1)) + 1))), .ref mq])), (mt, .inl (cC, 60, .inl (tx))), (mq, .inl (cI, 6, .inl (upd (upd (upd (upd od 0 (tx at9)) 1 (zI (dV tx ln (at9 + 1)))) 2 (zI (dV tx ln ((dE tx ln (at9 + 1)) + 1)))) 3 (zI (dV tx ln ((dE tx ln ((dE tx ln (at9 + 1)) + 1)) + 1))))))] H := hP
                  have hD : va_D (Ar) [(mm, .inr (5, [.ref mn, .ref mh, .int kp, .ref ms, .int fl, .ref mr, .ref md, .ref mo, .ref mc, .int (nI ln), .ref mt, .int (nI ((dE tx ln ((dE tx ln ((dE tx ln (at9 + 1)) + 1)) + 1)))), .int (zI (dV tx ln ((dE tx ln ((dE tx ln (at9 + 1)) + 1)) + 1))), .ref mq])), (mt, .inl (cC, 60, .inl (tx))), (mq, .inl (cI, 6, .inl (upd (upd (upd (upd od 0 (tx at9)) 1 (zI (dV tx ln (at9 + 1)))) 2 (zI (dV tx ln ((dE tx ln (at9 + 1)) + 1)))) 3 (zI (dV tx ln ((dE tx ln ((dE tx ln (at9 + 1)) + 1)) + 1))))))] := hD
                  refine lv_if_ne (tgt := 125) hx hb dX5_takesOrder_120 (by decide) (fun h => False.elim (by revert h; decide)) (fun _ => ?_)
                  refine lv_iconst (v := 0) hx hb dX5_takesOrder_123 (by decide) ?_
                  refine x_zretW (w := [(mm, .inr (5, [.ref mn, .ref mh, .int kp, .ref ms, .int fl, .ref mr, .ref md, .ref mo, .ref mc, .int (nI ln), .ref mt, .int (nI ((dE tx ln ((dE tx ln ((dE tx ln (at9 + 1)) + 1)) + 1)))), .int (zI (dV tx ln ((dE tx ln ((dE tx ln (at9 + 1)) + 1)) + 1))), .ref mq])), (mt, .inl (cC, 60, .inl (tx))), (mq, .inl (cI, 6, .inl (upd (upd (upd (upd od 0 (tx at9)) 1 (zI (dV tx ln (at9 + 1)))) 2 (zI (dV tx ln ((dE tx ln (at9 + 1)) + 1)))) 3 (zI (dV tx ln ((dE tx ln ((dE tx ln (at9 + 1)) + 1)) + 1))))))]) hQ hAe hx hb hr hlocks (by decide) (hP.sub [0, 1, 2] rfl) (hD.sub [0, 1, 2] (by decide) rfl) hS ?_ dX5_takesOrder_124
                  refine Or.inr (?_)
                  have h98 : tk tx ln at9 98 := ⟨by omega, c_22⟩
                  have hOR : oRes tx ln at9 = (false, (dE tx ln ((dE tx ln ((dE tx ln (at9 + 1)) + 1)) + 1))) := by unfold oRes; rw [if_pos h98, if_pos hf135_0, if_pos hf117_0, if_pos hf135v1_0, if_pos hf117v1_0, if_pos hf135v2_0, if_neg hf117v2_0]
                  exact ⟨(zI (dV tx ln ((dE tx ln ((dE tx ln (at9 + 1)) + 1)) + 1))), (upd (upd (upd (upd od 0 (tx at9)) 1 (zI (dV tx ln (at9 + 1)))) 2 (zI (dV tx ln ((dE tx ln (at9 + 1)) + 1)))) 3 (zI (dV tx ln ((dE tx ln ((dE tx ln (at9 + 1)) + 1)) + 1)))), rfl, by rw [hOR], by rw [hOR]⟩
              · skip
                have hP : va_P D vwCl [(mm, .inr (5, [.ref mn, .ref mh, .int kp, .ref ms, .int fl, .ref mr, .ref md, .ref mo, .ref mc, .int (nI ln), .ref mt, .int (nI (((dE tx ln ((dE tx ln (at9 + 1)) + 1)) + 1))), .int (zI (dV tx ln ((dE tx ln (at9 + 1)) + 1))), .ref mq])), (mt, .inl (cC, 60, .inl (tx))), (mq, .inl (cI, 6, .inl (upd (upd (upd od 0 (tx at9)) 1 (zI (dV tx ln (at9 + 1)))) 2 (zI (dV tx ln ((dE tx ln (at9 + 1)) + 1))))))] H := hP
                have hD : va_D (Ar) [(mm, .inr (5, [.ref mn, .ref mh, .int kp, .ref ms, .int fl, .ref mr, .ref md, .ref mo, .ref mc, .int (nI ln), .ref mt, .int (nI (((dE tx ln ((dE tx ln (at9 + 1)) + 1)) + 1))), .int (zI (dV tx ln ((dE tx ln (at9 + 1)) + 1))), .ref mq])), (mt, .inl (cC, 60, .inl (tx))), (mq, .inl (cI, 6, .inl (upd (upd (upd od 0 (tx at9)) 1 (zI (dV tx ln (at9 + 1)))) 2 (zI (dV tx ln ((dE tx ln (at9 + 1)) + 1))))))] := hD
                refine lv_if_ne (tgt := 143) hx hb dX5_takesOrder_138 (by decide) (fun h => False.elim (by revert h; decide)) (fun _ => ?_)
                refine lv_iconst (v := 0) hx hb dX5_takesOrder_141 (by decide) ?_
                refine x_zretW (w := [(mm, .inr (5, [.ref mn, .ref mh, .int kp, .ref ms, .int fl, .ref mr, .ref md, .ref mo, .ref mc, .int (nI ln), .ref mt, .int (nI (((dE tx ln ((dE tx ln (at9 + 1)) + 1)) + 1))), .int (zI (dV tx ln ((dE tx ln (at9 + 1)) + 1))), .ref mq])), (mt, .inl (cC, 60, .inl (tx))), (mq, .inl (cI, 6, .inl (upd (upd (upd od 0 (tx at9)) 1 (zI (dV tx ln (at9 + 1)))) 2 (zI (dV tx ln ((dE tx ln (at9 + 1)) + 1))))))]) hQ hAe hx hb hr hlocks (by decide) (hP.sub [0, 1, 2] rfl) (hD.sub [0, 1, 2] (by decide) rfl) hS ?_ dX5_takesOrder_142
                refine Or.inr (?_)
                have h98 : tk tx ln at9 98 := ⟨by omega, c_22⟩
                have hOR : oRes tx ln at9 = (false, ((dE tx ln ((dE tx ln (at9 + 1)) + 1)) + 1)) := by unfold oRes; rw [if_pos h98, if_pos hf135_0, if_pos hf117_0, if_pos hf135v1_0, if_pos hf117v1_0, if_neg hf135v2_0]
                exact ⟨(zI (dV tx ln ((dE tx ln (at9 + 1)) + 1))), (upd (upd (upd od 0 (tx at9)) 1 (zI (dV tx ln (at9 + 1)))) 2 (zI (dV tx ln ((dE tx ln (at9 + 1)) + 1)))), rfl, by rw [hOR], by rw [hOR]⟩
            · skip
              have hP : va_P D vwCl [(mm, .inr (5, [.ref mn, .ref mh, .int kp, .ref ms, .int fl, .ref mr, .ref md, .ref mo, .ref mc, .int (nI ln), .ref mt, .int (nI ((dE tx ln ((dE tx ln (at9 + 1)) + 1)))), .int (zI (dV tx ln ((dE tx ln (at9 + 1)) + 1))), .ref mq])), (mt, .inl (cC, 60, .inl (tx))), (mq, .inl (cI, 6, .inl (upd (upd (upd od 0 (tx at9)) 1 (zI (dV tx ln (at9 + 1)))) 2 (zI (dV tx ln ((dE tx ln (at9 + 1)) + 1))))))] H := hP
              have hD : va_D (Ar) [(mm, .inr (5, [.ref mn, .ref mh, .int kp, .ref ms, .int fl, .ref mr, .ref md, .ref mo, .ref mc, .int (nI ln), .ref mt, .int (nI ((dE tx ln ((dE tx ln (at9 + 1)) + 1)))), .int (zI (dV tx ln ((dE tx ln (at9 + 1)) + 1))), .ref mq])), (mt, .inl (cC, 60, .inl (tx))), (mq, .inl (cI, 6, .inl (upd (upd (upd od 0 (tx at9)) 1 (zI (dV tx ln (at9 + 1)))) 2 (zI (dV tx ln ((dE tx ln (at9 + 1)) + 1))))))] := hD
              refine lv_if_ne (tgt := 125) hx hb dX5_takesOrder_120 (by decide) (fun h => False.elim (by revert h; decide)) (fun _ => ?_)
              refine lv_iconst (v := 0) hx hb dX5_takesOrder_123 (by decide) ?_
              refine x_zretW (w := [(mm, .inr (5, [.ref mn, .ref mh, .int kp, .ref ms, .int fl, .ref mr, .ref md, .ref mo, .ref mc, .int (nI ln), .ref mt, .int (nI ((dE tx ln ((dE tx ln (at9 + 1)) + 1)))), .int (zI (dV tx ln ((dE tx ln (at9 + 1)) + 1))), .ref mq])), (mt, .inl (cC, 60, .inl (tx))), (mq, .inl (cI, 6, .inl (upd (upd (upd od 0 (tx at9)) 1 (zI (dV tx ln (at9 + 1)))) 2 (zI (dV tx ln ((dE tx ln (at9 + 1)) + 1))))))]) hQ hAe hx hb hr hlocks (by decide) (hP.sub [0, 1, 2] rfl) (hD.sub [0, 1, 2] (by decide) rfl) hS ?_ dX5_takesOrder_124
              refine Or.inr (?_)
              have h98 : tk tx ln at9 98 := ⟨by omega, c_22⟩
              have hOR : oRes tx ln at9 = (false, (dE tx ln ((dE tx ln (at9 + 1)) + 1))) := by unfold oRes; rw [if_pos h98, if_pos hf135_0, if_pos hf117_0, if_pos hf135v1_0, if_neg hf117v1_0]
              exact ⟨(zI (dV tx ln ((dE tx ln (at9 + 1)) + 1))), (upd (upd (upd od 0 (tx at9)) 1 (zI (dV tx ln (at9 + 1)))) 2 (zI (dV tx ln ((dE tx ln (at9 + 1)) + 1)))), rfl, by rw [hOR], by rw [hOR]⟩
          · skip
            have hP : va_P D vwCl [(mm, .inr (5, [.ref mn, .ref mh, .int kp, .ref ms, .int fl, .ref mr, .ref md, .ref mo, .ref mc, .int (nI ln), .ref mt, .int (nI (((dE tx ln (at9 + 1)) + 1))), .int (zI (dV tx ln (at9 + 1))), .ref mq])), (mt, .inl (cC, 60, .inl (tx))), (mq, .inl (cI, 6, .inl (upd (upd od 0 (tx at9)) 1 (zI (dV tx ln (at9 + 1))))))] H := hP
            have hD : va_D (Ar) [(mm, .inr (5, [.ref mn, .ref mh, .int kp, .ref ms, .int fl, .ref mr, .ref md, .ref mo, .ref mc, .int (nI ln), .ref mt, .int (nI (((dE tx ln (at9 + 1)) + 1))), .int (zI (dV tx ln (at9 + 1))), .ref mq])), (mt, .inl (cC, 60, .inl (tx))), (mq, .inl (cI, 6, .inl (upd (upd od 0 (tx at9)) 1 (zI (dV tx ln (at9 + 1))))))] := hD
            refine lv_if_ne (tgt := 143) hx hb dX5_takesOrder_138 (by decide) (fun h => False.elim (by revert h; decide)) (fun _ => ?_)
            refine lv_iconst (v := 0) hx hb dX5_takesOrder_141 (by decide) ?_
            refine x_zretW (w := [(mm, .inr (5, [.ref mn, .ref mh, .int kp, .ref ms, .int fl, .ref mr, .ref md, .ref mo, .ref mc, .int (nI ln), .ref mt, .int (nI (((dE tx ln (at9 + 1)) + 1))), .int (zI (dV tx ln (at9 + 1))), .ref mq])), (mt, .inl (cC, 60, .inl (tx))), (mq, .inl (cI, 6, .inl (upd (upd od 0 (tx at9)) 1 (zI (dV tx ln (at9 + 1))))))]) hQ hAe hx hb hr hlocks (by decide) (hP.sub [0, 1, 2] rfl) (hD.sub [0, 1, 2] (by decide) rfl) hS ?_ dX5_takesOrder_142
            refine Or.inr (?_)
            have h98 : tk tx ln at9 98 := ⟨by omega, c_22⟩
            have hOR : oRes tx ln at9 = (false, ((dE tx ln (at9 + 1)) + 1)) := by unfold oRes; rw [if_pos h98, if_pos hf135_0, if_pos hf117_0, if_neg hf135v1_0]
            exact ⟨(zI (dV tx ln (at9 + 1))), (upd (upd od 0 (tx at9)) 1 (zI (dV tx ln (at9 + 1)))), rfl, by rw [hOR], by rw [hOR]⟩
        · skip
          have hP : va_P D vwCl [(mm, .inr (5, [.ref mn, .ref mh, .int kp, .ref ms, .int fl, .ref mr, .ref md, .ref mo, .ref mc, .int (nI ln), .ref mt, .int (nI ((dE tx ln (at9 + 1)))), .int (zI (dV tx ln (at9 + 1))), .ref mq])), (mt, .inl (cC, 60, .inl (tx))), (mq, .inl (cI, 6, .inl (upd (upd od 0 (tx at9)) 1 (zI (dV tx ln (at9 + 1))))))] H := hP
          have hD : va_D (Ar) [(mm, .inr (5, [.ref mn, .ref mh, .int kp, .ref ms, .int fl, .ref mr, .ref md, .ref mo, .ref mc, .int (nI ln), .ref mt, .int (nI ((dE tx ln (at9 + 1)))), .int (zI (dV tx ln (at9 + 1))), .ref mq])), (mt, .inl (cC, 60, .inl (tx))), (mq, .inl (cI, 6, .inl (upd (upd od 0 (tx at9)) 1 (zI (dV tx ln (at9 + 1))))))] := hD
          refine lv_if_ne (tgt := 125) hx hb dX5_takesOrder_120 (by decide) (fun h => False.elim (by revert h; decide)) (fun _ => ?_)
          refine lv_iconst (v := 0) hx hb dX5_takesOrder_123 (by decide) ?_
          refine x_zretW (w := [(mm, .inr (5, [.ref mn, .ref mh, .int kp, .ref ms, .int fl, .ref mr, .ref md, .ref mo, .ref mc, .int (nI ln), .ref mt, .int (nI ((dE tx ln (at9 + 1)))), .int (zI (dV tx ln (at9 + 1))), .ref mq])), (mt, .inl (cC, 60, .inl (tx))), (mq, .inl (cI, 6, .inl (upd (upd od 0 (tx at9)) 1 (zI (dV tx ln (at9 + 1))))))]) hQ hAe hx hb hr hlocks (by decide) (hP.sub [0, 1, 2] rfl) (hD.sub [0, 1, 2] (by decide) rfl) hS ?_ dX5_takesOrder_124
          refine Or.inr (?_)
          have h98 : tk tx ln at9 98 := ⟨by omega, c_22⟩
          have hOR : oRes tx ln at9 = (false, (dE tx ln (at9 + 1))) := by unfold oRes; rw [if_pos h98, if_pos hf135_0, if_neg hf117_0]
          exact ⟨(zI (dV tx ln (at9 + 1))), (upd (upd od 0 (tx at9)) 1 (zI (dV tx ln (at9 + 1)))), rfl, by rw [hOR], by rw [hOR]⟩
      · skip
        have hP : va_P D vwCl [(mm, .inr (5, [.ref mn, .ref mh, .int kp, .ref ms, .int fl, .ref mr, .ref md, .ref mo, .ref mc, .int (nI ln), .ref mt, .int (nI ((at9 + 1))), .int nu, .ref mq])), (mt, .inl (cC, 60, .inl (tx))), (mq, .inl (cI, 6, .inl (upd od 0 (tx at9))))] H := hP
        have hD : va_D (Ar) [(mm, .inr (5, [.ref mn, .ref mh, .int kp, .ref ms, .int fl, .ref mr, .ref md, .ref mo, .ref mc, .int (nI ln), .ref mt, .int (nI ((at9 + 1))), .int nu, .ref mq])), (mt, .inl (cC, 60, .inl (tx))), (mq, .inl (cI, 6, .inl (upd od 0 (tx at9))))] := hD
        refine lv_if_ne (tgt := 143) hx hb dX5_takesOrder_138 (by decide) (fun h => False.elim (by revert h; decide)) (fun _ => ?_)
        refine lv_iconst (v := 0) hx hb dX5_takesOrder_141 (by decide) ?_
        refine x_zretW (w := [(mm, .inr (5, [.ref mn, .ref mh, .int kp, .ref ms, .int fl, .ref mr, .ref md, .ref mo, .ref mc, .int (nI ln), .ref mt, .int (nI ((at9 + 1))), .int nu, .ref mq])), (mt, .inl (cC, 60, .inl (tx))), (mq, .inl (cI, 6, .inl (upd od 0 (tx at9))))]) hQ hAe hx hb hr hlocks (by decide) (hP.sub [0, 1, 2] rfl) (hD.sub [0, 1, 2] (by decide) rfl) hS ?_ dX5_takesOrder_142
        refine Or.inr (?_)
        have h98 : tk tx ln at9 98 := ⟨by omega, c_22⟩
        have hOR : oRes tx ln at9 = (false, (at9 + 1)) := by unfold oRes; rw [if_pos h98, if_neg hf135_0]
        exact ⟨nu, (upd od 0 (tx at9)), rfl, by rw [hOR], by rw [hOR]⟩
    · skip
      refine lv_aload_n hx hb dX5_takesOrder_25 rfl (lv_at hl 0 rfl) ?_
      refine va_get (v := .ref mt) (D := D) (ci := 5) (C := RX5) (T := TX5) (N := 14) hx hb hts (by decide +kernel) hown hK hP 0 rfl rfl 10 (by decide) (hts (.fieldLink RX5 31 "SpiralFramesModel" "text" "[C") (by decide +kernel)) (fun _ h9 => h9) rfl dX5_takesOrder_26 ?_
      refine lv_aload_n hx hb dX5_takesOrder_29 rfl (lv_at hl 0 rfl) ?_
      refine va_get (v := .int (nI at9)) (D := D) (ci := 5) (C := RX5) (T := TX5) (N := 14) hx hb hts (by decide +kernel) hown hK hP 0 rfl rfl 11 (by decide) (hts (.fieldLink RX5 123 "SpiralFramesModel" "at" "I") (by decide +kernel)) (fun _ h9 => h9) rfl dX5_takesOrder_30 ?_
      refine x_cald hx hb hK hP 1 1 rfl rfl (k := at9) (by omega) (by decide) dX5_takesOrder_33 ?_
      refine x_eqi (show tx at9 = tx at9 from rfl) ?_
      refine lv_bipush (v := 115) hx hb dX5_takesOrder_34 (by decide) ?_
      refine x_icmp_eq (tgt := 41) hx hb dX5_takesOrder_36 (by decide) (X := (tx at9).toInt) rfl (Y := 115) (show (115 : Int32).toInt = 115 from by decide) (fun c_36 => ?_) (fun c_36 => ?_)
      · skip
        refine lv_aload_n hx hb dX5_takesOrder_41 rfl (lv_at hl 0 rfl) ?_
        refine va_get (v := .ref mq) (D := D) (ci := 5) (C := RX5) (T := TX5) (N := 14) hx hb hts (by decide +kernel) hown hK hP 0 rfl rfl 13 (by decide) (hts (.fieldLink RX5 35 "SpiralFramesModel" "order" "[I") (by decide +kernel)) (fun _ h9 => h9) rfl dX5_takesOrder_42 ?_
        refine lv_iconst (v := 0) hx hb dX5_takesOrder_45 (by decide) ?_
        refine lv_aload_n hx hb dX5_takesOrder_46 rfl (lv_at hl 0 rfl) ?_
        refine va_get (v := .ref mt) (D := D) (ci := 5) (C := RX5) (T := TX5) (N := 14) hx hb hts (by decide +kernel) hown hK hP 0 rfl rfl 10 (by decide) (hts (.fieldLink RX5 31 "SpiralFramesModel" "text" "[C") (by decide +kernel)) (fun _ h9 => h9) rfl dX5_takesOrder_47 ?_
        refine lv_aload_n hx hb dX5_takesOrder_50 rfl (lv_at hl 0 rfl) ?_
        refine va_get (v := .int (nI at9)) (D := D) (ci := 5) (C := RX5) (T := TX5) (N := 14) hx hb hts (by decide +kernel) hown hK hP 0 rfl rfl 11 (by decide) (hts (.fieldLink RX5 123 "SpiralFramesModel" "at" "I") (by decide +kernel)) (fun _ h9 => h9) rfl dX5_takesOrder_51 ?_
        refine x_cald hx hb hK hP 1 1 rfl rfl (k := at9) (by omega) (by decide) dX5_takesOrder_54 ?_
        refine x_eqi2 (show (0 : Int32) = nI 0 from by decide) ?_
        refine x_iast hx hb hK hP hD hS 2 0 rfl rfl (k := 0) (by omega) (by decide) dX5_takesOrder_55 (fun H locs hP hD hS => ?_)
        have hP : va_P D vwCl [(mm, .inr (5, [.ref mn, .ref mh, .int kp, .ref ms, .int fl, .ref mr, .ref md, .ref mo, .ref mc, .int (nI ln), .ref mt, .int (nI at9), .int nu, .ref mq])), (mt, .inl (cC, 60, .inl (tx))), (mq, .inl (cI, 6, .inl (upd od 0 (tx at9))))] H := hP
        have hD : va_D (Ar) [(mm, .inr (5, [.ref mn, .ref mh, .int kp, .ref ms, .int fl, .ref mr, .ref md, .ref mo, .ref mc, .int (nI ln), .ref mt, .int (nI at9), .int nu, .ref mq])), (mt, .inl (cC, 60, .inl (tx))), (mq, .inl (cI, 6, .inl (upd od 0 (tx at9))))] := hD
        refine lv_aload_n hx hb dX5_takesOrder_56 rfl (lv_at hl 0 rfl) ?_
        refine lv_dup hx hb dX5_takesOrder_57 rfl ?_
        refine va_get (v := .int (nI at9)) (D := D) (ci := 5) (C := RX5) (T := TX5) (N := 14) hx hb hts (by decide +kernel) hown hK hP 0 rfl rfl 11 (by decide) (hts (.fieldLink RX5 123 "SpiralFramesModel" "at" "I") (by decide +kernel)) (fun _ h9 => h9) rfl dX5_takesOrder_58 ?_
        refine lv_iconst (v := 1) hx hb dX5_takesOrder_61 (by decide) ?_
        refine lv_iadd hx hb dX5_takesOrder_62 ?_
        refine x_eqi (show nI at9 + 1 = nI (at9 + 1) from nI_add at9 1) ?_
        refine va_put (v := .int (nI (at9 + 1))) (ty := .int) (D := D) (ci := 5) (C := RX5) (T := TX5) (N := 14) hx hb hts (by decide +kernel) tyX5 tyX5_ok nmX5 hown hK hP hD hS 0 rfl rfl 11 (by decide) (hts (.fieldLink RX5 123 "SpiralFramesModel" "at" "I") (by decide +kernel)) (fun _ h9 => h9) rfl (by decide +kernel) rfl rfl (Nat.le_of_ble_eq_true rfl) dX5_takesOrder_63 (fun H locs hP hD hS => ?_)
        have hP : va_P D vwCl [(mm, .inr (5, [.ref mn, .ref mh, .int kp, .ref ms, .int fl, .ref mr, .ref md, .ref mo, .ref mc, .int (nI ln), .ref mt, .int (nI (at9 + 1)), .int nu, .ref mq])), (mt, .inl (cC, 60, .inl (tx))), (mq, .inl (cI, 6, .inl (upd od 0 (tx at9))))] H := hP
        have hD : va_D (Ar) [(mm, .inr (5, [.ref mn, .ref mh, .int kp, .ref ms, .int fl, .ref mr, .ref md, .ref mo, .ref mc, .int (nI ln), .ref mt, .int (nI (at9 + 1)), .int nu, .ref mq])), (mt, .inl (cC, 60, .inl (tx))), (mq, .inl (cI, 6, .inl (upd od 0 (tx at9))))] := hD
        refine lv_aload_n hx hb dX5_takesOrder_66 rfl (lv_at hl 0 rfl) ?_
        refine va_get (v := .ref mq) (D := D) (ci := 5) (C := RX5) (T := TX5) (N := 14) hx hb hts (by decide +kernel) hown hK hP 0 rfl rfl 13 (by decide) (hts (.fieldLink RX5 35 "SpiralFramesModel" "order" "[I") (by decide +kernel)) (fun _ h9 => h9) rfl dX5_takesOrder_67 ?_
        refine lv_iconst (v := 0) hx hb dX5_takesOrder_70 (by decide) ?_
        refine x_eqi (show (0 : Int32) = nI 0 from by decide) ?_
        refine x_iald hx hb hK hP 2 0 rfl rfl (k := 0) (by omega) (by decide) dX5_takesOrder_71 ?_
        refine x_eqi (show (upd od 0 (tx at9)) 0 = tx at9 from rfl) ?_
        refine lv_bipush (v := 98) hx hb dX5_takesOrder_72 (by decide) ?_
        refine x_icmp_ne (tgt := 81) hx hb dX5_takesOrder_74 (by decide) (X := (tx at9).toInt) rfl (Y := 98) (show (98 : Int32).toInt = 98 from by decide) (fun c_74 => ?_) (fun c_74 => ?_)
        rotate_left
        · exfalso; omega
        refine lv_iconst (v := 0) hx hb dX5_takesOrder_81 (by decide) ?_
        refine lv_istore_n (lv' := [(1, .int 0), (0, .ref mm)]) hx hb dX5_takesOrder_82 rfl hl (by decide) rfl (fun ls hl => ?_)
        refine lv_iconst (v := 1) hx hb dX5_takesOrder_83 (by decide) ?_
        refine lv_istore_n (lv' := [(2, .int 1), (1, .int 0), (0, .ref mm)]) hx hb dX5_takesOrder_84 rfl hl (by decide) rfl (fun ls hl => ?_)
        refine lv_iload_n hx hb dX5_takesOrder_85 rfl (lv_at hl 0 rfl) ?_
        refine lv_iload_n hx hb dX5_takesOrder_86 rfl (lv_at hl 1 rfl) ?_
        refine lv_if_eq (tgt := 95) hx hb dX5_takesOrder_87 (by decide) (fun _ => ?_) (fun h => False.elim (by revert h; decide))
        refine lv_iconst (v := 3) hx hb dX5_takesOrder_95 (by decide) ?_
        refine lv_icmp_ge (tgt := 159) hx hb dX5_takesOrder_96 (by decide) (fun h => False.elim (by revert h; decide)) (fun _ => ?_)
        refine lv_iload_n hx hb dX5_takesOrder_99 rfl (lv_at hl 0 rfl) ?_
        refine lv_iconst (v := 1) hx hb dX5_takesOrder_100 (by decide) ?_
        refine lv_icmp_le (tgt := 125) hx hb dX5_takesOrder_101 (by decide) (fun _ => ?_) (fun h => False.elim (by revert h; decide))
        refine lv_aload_n hx hb dX5_takesOrder_125 rfl (lv_at hl 2 rfl) ?_
        refine lv_iload_n hx hb dX5_takesOrder_126 rfl (lv_at hl 1 rfl) ?_
        refine lv_if_ne (tgt := 134) hx hb dX5_takesOrder_127 (by decide) (fun h => False.elim (by revert h; decide)) (fun _ => ?_)
        refine lv_iconst (v := 1) hx hb dX5_takesOrder_130 (by decide) ?_
        refine lv_goto (tgt := 135) hx hb dX5_takesOrder_131 (by decide) ?_
        refine x_callWi (wc := [(mm, .inr (5, [.ref mn, .ref mh, .int kp, .ref ms, .int fl, .ref mr, .ref md, .ref mo, .ref mc, .int (nI ln), .ref mt, .int (nI ((at9 + 1))), .int nu, .ref mq])), (mt, .inl (cC, 60, .inl (tx)))]) (wr := [(mq, .inl (cI, 6, .inl (upd od 0 (tx at9))))]) (va_runV (As := [.int 1]) (rest := []) ⟨hx, hb, hml, hown, hts⟩ (c_X5_takesNumber_1 l D cI cC cS tt H.size mm mn mh ms mr md mo mc mt mq ln (at9 + 1) kp fl nu tx (by first | omega | assumption | decide) (by first | omega | assumption | decide)) (cwV 1 hts gX5_takesOrder_X5_takesNumber rfl rfl rfl (by decide +kernel) ⟨Nat.le_of_ble_eq_true rfl, Nat.le_of_ble_eq_true rfl⟩) ⟨x_blindW, va_recv hK hP (ci := 5) (q0 := 0) rfl rfl, x_preW hP hD hK hE hS hA [0, 1] rfl (by decide)⟩ rfl rfl hl.1 rfl (lv_room (Nat.le_of_ble_eq_true rfl)) dX5_takesOrder_135 ⟨(Nat.le_of_ble_eq_true rfl), (Nat.le_of_ble_eq_true rfl)⟩) hP hD hS hA [0, 1] [2] rfl rfl (by decide) (by decide) (fun r_10 w1 H locs hw hP hD hS => ?_)
        rcases hw with ⟨rfl, rfl, hf135_0, hf135_1⟩ | ⟨rfl, rfl, hf135_0⟩
        · skip
          have hP : va_P D vwCl [(mm, .inr (5, [.ref mn, .ref mh, .int kp, .ref ms, .int fl, .ref mr, .ref md, .ref mo, .ref mc, .int (nI ln), .ref mt, .int (nI (nE tx ln (at9 + 1))), .int (zI (nV tx ln (at9 + 1))), .ref mq])), (mt, .inl (cC, 60, .inl (tx))), (mq, .inl (cI, 6, .inl (upd od 0 (tx at9))))] H := hP
          have hD : va_D (Ar) [(mm, .inr (5, [.ref mn, .ref mh, .int kp, .ref ms, .int fl, .ref mr, .ref md, .ref mo, .ref mc, .int (nI ln), .ref mt, .int (nI (nE tx ln (at9 + 1))), .int (zI (nV tx ln (at9 + 1))), .ref mq])), (mt, .inl (cC, 60, .inl (tx))), (mq, .inl (cI, 6, .inl (upd od 0 (tx at9))))] := hD
          refine lv_if_ne (tgt := 143) hx hb dX5_takesOrder_138 (by decide) (fun _ => ?_) (fun h => False.elim (by revert h; decide))
          refine lv_aload_n hx hb dX5_takesOrder_143 rfl (lv_at hl 2 rfl) ?_
          refine va_get (v := .ref mq) (D := D) (ci := 5) (C := RX5) (T := TX5) (N := 14) hx hb hts (by decide +kernel) hown hK hP 0 rfl rfl 13 (by decide) (hts (.fieldLink RX5 35 "SpiralFramesModel" "order" "[I") (by decide +kernel)) (fun _ h9 => h9) rfl dX5_takesOrder_144 ?_
          refine lv_iload_n hx hb dX5_takesOrder_147 rfl (lv_at hl 0 rfl) ?_
          refine lv_aload_n hx hb dX5_takesOrder_148 rfl (lv_at hl 2 rfl) ?_
          refine va_get (v := .int (zI (nV tx ln (at9 + 1)))) (D := D) (ci := 5) (C := RX5) (T := TX5) (N := 14) hx hb hts (by decide +kernel) hown hK hP 0 rfl rfl 12 (by decide) (hts (.fieldLink RX5 133 "SpiralFramesModel" "number" "I") (by decide +kernel)) (fun _ h9 => h9) rfl dX5_takesOrder_149 ?_
          refine x_eqi2 (show (1 : Int32) = nI 1 from by decide) ?_
          refine x_iast hx hb hK hP hD hS 2 0 rfl rfl (k := 1) (by omega) (by decide) dX5_takesOrder_152 (fun H locs hP hD hS => ?_)
          have hP : va_P D vwCl [(mm, .inr (5, [.ref mn, .ref mh, .int kp, .ref ms, .int fl, .ref mr, .ref md, .ref mo, .ref mc, .int (nI ln), .ref mt, .int (nI (nE tx ln (at9 + 1))), .int (zI (nV tx ln (at9 + 1))), .ref mq])), (mt, .inl (cC, 60, .inl (tx))), (mq, .inl (cI, 6, .inl (upd (upd od 0 (tx at9)) 1 (zI (nV tx ln (at9 + 1))))))] H := hP
          have hD : va_D (Ar) [(mm, .inr (5, [.ref mn, .ref mh, .int kp, .ref ms, .int fl, .ref mr, .ref md, .ref mo, .ref mc, .int (nI ln), .ref mt, .int (nI (nE tx ln (at9 + 1))), .int (zI (nV tx ln (at9 + 1))), .ref mq])), (mt, .inl (cC, 60, .inl (tx))), (mq, .inl (cI, 6, .inl (upd (upd od 0 (tx at9)) 1 (zI (nV tx ln (at9 + 1))))))] := hD
          refine lv_iinc (v := 2) (lv' := [(2, .int 2), (1, .int 0), (0, .ref mm)]) hx hb dX5_takesOrder_153 hl (k := 0) rfl (by decide) (by decide) rfl (fun ls hl => ?_)
          refine lv_goto (tgt := 85) hx hb dX5_takesOrder_156 (by decide) ?_
          refine lv_iload_n hx hb dX5_takesOrder_85 rfl (lv_at hl 0 rfl) ?_
          refine lv_iload_n hx hb dX5_takesOrder_86 rfl (lv_at hl 1 rfl) ?_
          refine lv_if_eq (tgt := 95) hx hb dX5_takesOrder_87 (by decide) (fun _ => ?_) (fun h => False.elim (by revert h; decide))
          refine lv_iconst (v := 3) hx hb dX5_takesOrder_95 (by decide) ?_
          refine lv_icmp_ge (tgt := 159) hx hb dX5_takesOrder_96 (by decide) (fun h => False.elim (by revert h; decide)) (fun _ => ?_)
          refine lv_iload_n hx hb dX5_takesOrder_99 rfl (lv_at hl 0 rfl) ?_
          refine lv_iconst (v := 1) hx hb dX5_takesOrder_100 (by decide) ?_
          refine lv_icmp_le (tgt := 125) hx hb dX5_takesOrder_101 (by decide) (fun h => False.elim (by revert h; decide)) (fun _ => ?_)
          refine lv_aload_n hx hb dX5_takesOrder_104 rfl (lv_at hl 2 rfl) ?_
          refine lv_iload_n hx hb dX5_takesOrder_105 rfl (lv_at hl 0 rfl) ?_
          refine lv_iconst (v := 5) hx hb dX5_takesOrder_106 (by decide) ?_
          refine lv_icmp_ne (tgt := 115) hx hb dX5_takesOrder_107 (by decide) (fun _ => ?_) (fun h => False.elim (by revert h; decide))
          refine lv_bipush (v := 44) hx hb dX5_takesOrder_115 (by decide) ?_
          refine x_callWi (wc := [(mm, .inr (5, [.ref mn, .ref mh, .int kp, .ref ms, .int fl, .ref mr, .ref md, .ref mo, .ref mc, .int (nI ln), .ref mt, .int (nI ((nE tx ln (at9 + 1)))), .int (zI (nV tx ln (at9 + 1))), .ref mq])), (mt, .inl (cC, 60, .inl (tx)))]) (wr := [(mq, .inl (cI, 6, .inl (upd (upd od 0 (tx at9)) 1 (zI (nV tx ln (at9 + 1))))))]) (va_runV (As := [.int 44]) (rest := []) ⟨hx, hb, hml, hown, hts⟩ (c_X5_takes l D cI cC cS tt H.size mm mn mh ms mr md mo mc mt mq ln (nE tx ln (at9 + 1)) kp fl (zI (nV tx ln (at9 + 1))) tx 44 44 (show (44 : Int32).toInt = 44 from by decide) (by first | omega | assumption | decide) (by first | omega | assumption | decide)) (cwV 1 hts gX5_takesOrder_X5_takes rfl rfl rfl (by decide +kernel) ⟨Nat.le_of_ble_eq_true rfl, Nat.le_of_ble_eq_true rfl⟩) ⟨x_blindW, va_recv hK hP (ci := 5) (q0 := 0) rfl rfl, x_preW hP hD hK hE hS hA [0, 1] rfl (by decide)⟩ rfl rfl hl.1 rfl (lv_room (Nat.le_of_ble_eq_true rfl)) dX5_takesOrder_117 ⟨(Nat.le_of_ble_eq_true rfl), (Nat.le_of_ble_eq_true rfl)⟩) hP hD hS hA [0, 1] [2] rfl rfl (by decide) (by decide) (fun r_11 w1 H locs hw hP hD hS => ?_)
          rcases hw with ⟨rfl, rfl, hf117_0⟩ | ⟨rfl, rfl, hf117_0⟩
          · skip
            have hP : va_P D vwCl [(mm, .inr (5, [.ref mn, .ref mh, .int kp, .ref ms, .int fl, .ref mr, .ref md, .ref mo, .ref mc, .int (nI ln), .ref mt, .int (nI ((nE tx ln (at9 + 1)) + 1)), .int (zI (nV tx ln (at9 + 1))), .ref mq])), (mt, .inl (cC, 60, .inl (tx))), (mq, .inl (cI, 6, .inl (upd (upd od 0 (tx at9)) 1 (zI (nV tx ln (at9 + 1))))))] H := hP
            have hD : va_D (Ar) [(mm, .inr (5, [.ref mn, .ref mh, .int kp, .ref ms, .int fl, .ref mr, .ref md, .ref mo, .ref mc, .int (nI ln), .ref mt, .int (nI ((nE tx ln (at9 + 1)) + 1)), .int (zI (nV tx ln (at9 + 1))), .ref mq])), (mt, .inl (cC, 60, .inl (tx))), (mq, .inl (cI, 6, .inl (upd (upd od 0 (tx at9)) 1 (zI (nV tx ln (at9 + 1))))))] := hD
            refine lv_if_ne (tgt := 125) hx hb dX5_takesOrder_120 (by decide) (fun _ => ?_) (fun h => False.elim (by revert h; decide))
            refine lv_aload_n hx hb dX5_takesOrder_125 rfl (lv_at hl 2 rfl) ?_
            refine lv_iload_n hx hb dX5_takesOrder_126 rfl (lv_at hl 1 rfl) ?_
            refine lv_if_ne (tgt := 134) hx hb dX5_takesOrder_127 (by decide) (fun h => False.elim (by revert h; decide)) (fun _ => ?_)
            refine lv_iconst (v := 1) hx hb dX5_takesOrder_130 (by decide) ?_
            refine lv_goto (tgt := 135) hx hb dX5_takesOrder_131 (by decide) ?_
            refine x_callWi (wc := [(mm, .inr (5, [.ref mn, .ref mh, .int kp, .ref ms, .int fl, .ref mr, .ref md, .ref mo, .ref mc, .int (nI ln), .ref mt, .int (nI (((nE tx ln (at9 + 1)) + 1))), .int (zI (nV tx ln (at9 + 1))), .ref mq])), (mt, .inl (cC, 60, .inl (tx)))]) (wr := [(mq, .inl (cI, 6, .inl (upd (upd od 0 (tx at9)) 1 (zI (nV tx ln (at9 + 1))))))]) (va_runV (As := [.int 1]) (rest := []) ⟨hx, hb, hml, hown, hts⟩ (c_X5_takesNumber_1 l D cI cC cS tt H.size mm mn mh ms mr md mo mc mt mq ln ((nE tx ln (at9 + 1)) + 1) kp fl (zI (nV tx ln (at9 + 1))) tx (by first | omega | assumption | decide) (by first | omega | assumption | decide)) (cwV 1 hts gX5_takesOrder_X5_takesNumber rfl rfl rfl (by decide +kernel) ⟨Nat.le_of_ble_eq_true rfl, Nat.le_of_ble_eq_true rfl⟩) ⟨x_blindW, va_recv hK hP (ci := 5) (q0 := 0) rfl rfl, x_preW hP hD hK hE hS hA [0, 1] rfl (by decide)⟩ rfl rfl hl.1 rfl (lv_room (Nat.le_of_ble_eq_true rfl)) dX5_takesOrder_135 ⟨(Nat.le_of_ble_eq_true rfl), (Nat.le_of_ble_eq_true rfl)⟩) hP hD hS hA [0, 1] [2] rfl rfl (by decide) (by decide) (fun r_12 w1 H locs hw hP hD hS => ?_)
            rcases hw with ⟨rfl, rfl, hf135v1_0, hf135v1_1⟩ | ⟨rfl, rfl, hf135v1_0⟩
            · skip
              have hP : va_P D vwCl [(mm, .inr (5, [.ref mn, .ref mh, .int kp, .ref ms, .int fl, .ref mr, .ref md, .ref mo, .ref mc, .int (nI ln), .ref mt, .int (nI (nE tx ln ((nE tx ln (at9 + 1)) + 1))), .int (zI (nV tx ln ((nE tx ln (at9 + 1)) + 1))), .ref mq])), (mt, .inl (cC, 60, .inl (tx))), (mq, .inl (cI, 6, .inl (upd (upd od 0 (tx at9)) 1 (zI (nV tx ln (at9 + 1))))))] H := hP
              have hD : va_D (Ar) [(mm, .inr (5, [.ref mn, .ref mh, .int kp, .ref ms, .int fl, .ref mr, .ref md, .ref mo, .ref mc, .int (nI ln), .ref mt, .int (nI (nE tx ln ((nE tx ln (at9 + 1)) + 1))), .int (zI (nV tx ln ((nE tx ln (at9 + 1)) + 1))), .ref mq])), (mt, .inl (cC, 60, .inl (tx))), (mq, .inl (cI, 6, .inl (upd (upd od 0 (tx at9)) 1 (zI (nV tx ln (at9 + 1))))))] := hD
              refine lv_if_ne (tgt := 143) hx hb dX5_takesOrder_138 (by decide) (fun _ => ?_) (fun h => False.elim (by revert h; decide))
              refine lv_aload_n hx hb dX5_takesOrder_143 rfl (lv_at hl 2 rfl) ?_
              refine va_get (v := .ref mq) (D := D) (ci := 5) (C := RX5) (T := TX5) (N := 14) hx hb hts (by decide +kernel) hown hK hP 0 rfl rfl 13 (by decide) (hts (.fieldLink RX5 35 "SpiralFramesModel" "order" "[I") (by decide +kernel)) (fun _ h9 => h9) rfl dX5_takesOrder_144 ?_
              refine lv_iload_n hx hb dX5_takesOrder_147 rfl (lv_at hl 0 rfl) ?_
              refine lv_aload_n hx hb dX5_takesOrder_148 rfl (lv_at hl 2 rfl) ?_
              refine va_get (v := .int (zI (nV tx ln ((nE tx ln (at9 + 1)) + 1)))) (D := D) (ci := 5) (C := RX5) (T := TX5) (N := 14) hx hb hts (by decide +kernel) hown hK hP 0 rfl rfl 12 (by decide) (hts (.fieldLink RX5 133 "SpiralFramesModel" "number" "I") (by decide +kernel)) (fun _ h9 => h9) rfl dX5_takesOrder_149 ?_
              refine x_eqi2 (show (2 : Int32) = nI 2 from by decide) ?_
              refine x_iast hx hb hK hP hD hS 2 0 rfl rfl (k := 2) (by omega) (by decide) dX5_takesOrder_152 (fun H locs hP hD hS => ?_)
              have hP : va_P D vwCl [(mm, .inr (5, [.ref mn, .ref mh, .int kp, .ref ms, .int fl, .ref mr, .ref md, .ref mo, .ref mc, .int (nI ln), .ref mt, .int (nI (nE tx ln ((nE tx ln (at9 + 1)) + 1))), .int (zI (nV tx ln ((nE tx ln (at9 + 1)) + 1))), .ref mq])), (mt, .inl (cC, 60, .inl (tx))), (mq, .inl (cI, 6, .inl (upd (upd (upd od 0 (tx at9)) 1 (zI (nV tx ln (at9 + 1)))) 2 (zI (nV tx ln ((nE tx ln (at9 + 1)) + 1))))))] H := hP
              have hD : va_D (Ar) [(mm, .inr (5, [.ref mn, .ref mh, .int kp, .ref ms, .int fl, .ref mr, .ref md, .ref mo, .ref mc, .int (nI ln), .ref mt, .int (nI (nE tx ln ((nE tx ln (at9 + 1)) + 1))), .int (zI (nV tx ln ((nE tx ln (at9 + 1)) + 1))), .ref mq])), (mt, .inl (cC, 60, .inl (tx))), (mq, .inl (cI, 6, .inl (upd (upd (upd od 0 (tx at9)) 1 (zI (nV tx ln (at9 + 1)))) 2 (zI (nV tx ln ((nE tx ln (at9 + 1)) + 1))))))] := hD
              refine lv_iinc (v := 3) (lv' := [(2, .int 3), (1, .int 0), (0, .ref mm)]) hx hb dX5_takesOrder_153 hl (k := 0) rfl (by decide) (by decide) rfl (fun ls hl => ?_)
              refine lv_goto (tgt := 85) hx hb dX5_takesOrder_156 (by decide) ?_
              refine lv_iload_n hx hb dX5_takesOrder_85 rfl (lv_at hl 0 rfl) ?_
              refine lv_iload_n hx hb dX5_takesOrder_86 rfl (lv_at hl 1 rfl) ?_
              refine lv_if_eq (tgt := 95) hx hb dX5_takesOrder_87 (by decide) (fun _ => ?_) (fun h => False.elim (by revert h; decide))
              refine lv_iconst (v := 3) hx hb dX5_takesOrder_95 (by decide) ?_
              refine lv_icmp_ge (tgt := 159) hx hb dX5_takesOrder_96 (by decide) (fun _ => ?_) (fun h => False.elim (by revert h; decide))
              refine lv_iconst (v := 1) hx hb dX5_takesOrder_159 (by decide) ?_
              refine x_zretW (w := [(mm, .inr (5, [.ref mn, .ref mh, .int kp, .ref ms, .int fl, .ref mr, .ref md, .ref mo, .ref mc, .int (nI ln), .ref mt, .int (nI (nE tx ln ((nE tx ln (at9 + 1)) + 1))), .int (zI (nV tx ln ((nE tx ln (at9 + 1)) + 1))), .ref mq])), (mt, .inl (cC, 60, .inl (tx))), (mq, .inl (cI, 6, .inl (upd (upd (upd od 0 (tx at9)) 1 (zI (nV tx ln (at9 + 1)))) 2 (zI (nV tx ln ((nE tx ln (at9 + 1)) + 1))))))]) hQ hAe hx hb hr hlocks (by decide) (hP.sub [0, 1, 2] rfl) (hD.sub [0, 1, 2] (by decide) rfl) hS ?_ dX5_takesOrder_160
              refine Or.inl ?_
              have n98 : ¬ tk tx ln at9 98 := by omega
              have h115 : tk tx ln at9 115 := ⟨by omega, c_36⟩
              have hOR : oRes tx ln at9 = (true, nE tx ln ((nE tx ln (at9 + 1)) + 1)) := by unfold oRes; rw [if_neg n98, if_pos h115, if_pos hf135_0, if_pos hf117_0, if_pos hf135v1_0]
              exact ⟨(zI (nV tx ln ((nE tx ln (at9 + 1)) + 1))), (upd (upd (upd od 0 (tx at9)) 1 (zI (nV tx ln (at9 + 1)))) 2 (zI (nV tx ln ((nE tx ln (at9 + 1)) + 1)))), rfl, by rw [hOR], by rw [hOR], (fun k9 h8 h9 => by unfold oK at h9; rw [if_neg n98] at h9; unfold oV; rw [if_neg n98]; rcases (show k9 = 1 ∨ k9 = 2 by omega) with rfl | rfl <;> simp [upd] <;> rfl), by rw [if_neg n98]; exact Int32.toInt_inj.mp (by show (tx at9).toInt = _; rw [c_36]; rfl)⟩
            · skip
              have hP : va_P D vwCl [(mm, .inr (5, [.ref mn, .ref mh, .int kp, .ref ms, .int fl, .ref mr, .ref md, .ref mo, .ref mc, .int (nI ln), .ref mt, .int (nI (nF tx ln ((nE tx ln (at9 + 1)) + 1))), .int (zI (nV tx ln (at9 + 1))), .ref mq])), (mt, .inl (cC, 60, .inl (tx))), (mq, .inl (cI, 6, .inl (upd (upd od 0 (tx at9)) 1 (zI (nV tx ln (at9 + 1))))))] H := hP
              have hD : va_D (Ar) [(mm, .inr (5, [.ref mn, .ref mh, .int kp, .ref ms, .int fl, .ref mr, .ref md, .ref mo, .ref mc, .int (nI ln), .ref mt, .int (nI (nF tx ln ((nE tx ln (at9 + 1)) + 1))), .int (zI (nV tx ln (at9 + 1))), .ref mq])), (mt, .inl (cC, 60, .inl (tx))), (mq, .inl (cI, 6, .inl (upd (upd od 0 (tx at9)) 1 (zI (nV tx ln (at9 + 1))))))] := hD
              refine lv_if_ne (tgt := 143) hx hb dX5_takesOrder_138 (by decide) (fun h => False.elim (by revert h; decide)) (fun _ => ?_)
              refine lv_iconst (v := 0) hx hb dX5_takesOrder_141 (by decide) ?_
              refine x_zretW (w := [(mm, .inr (5, [.ref mn, .ref mh, .int kp, .ref ms, .int fl, .ref mr, .ref md, .ref mo, .ref mc, .int (nI ln), .ref mt, .int (nI (nF tx ln ((nE tx ln (at9 + 1)) + 1))), .int (zI (nV tx ln (at9 + 1))), .ref mq])), (mt, .inl (cC, 60, .inl (tx))), (mq, .inl (cI, 6, .inl (upd (upd od 0 (tx at9)) 1 (zI (nV tx ln (at9 + 1))))))]) hQ hAe hx hb hr hlocks (by decide) (hP.sub [0, 1, 2] rfl) (hD.sub [0, 1, 2] (by decide) rfl) hS ?_ dX5_takesOrder_142
              refine Or.inr (?_)
              have n98 : ¬ tk tx ln at9 98 := by omega
              have h115 : tk tx ln at9 115 := ⟨by omega, c_36⟩
              have hOR : oRes tx ln at9 = (false, nF tx ln ((nE tx ln (at9 + 1)) + 1)) := by unfold oRes; rw [if_neg n98, if_pos h115, if_pos hf135_0, if_pos hf117_0, if_neg hf135v1_0]
              exact ⟨(zI (nV tx ln (at9 + 1))), (upd (upd od 0 (tx at9)) 1 (zI (nV tx ln (at9 + 1)))), rfl, by rw [hOR], by rw [hOR]⟩
          · skip
            have hP : va_P D vwCl [(mm, .inr (5, [.ref mn, .ref mh, .int kp, .ref ms, .int fl, .ref mr, .ref md, .ref mo, .ref mc, .int (nI ln), .ref mt, .int (nI ((nE tx ln (at9 + 1)))), .int (zI (nV tx ln (at9 + 1))), .ref mq])), (mt, .inl (cC, 60, .inl (tx))), (mq, .inl (cI, 6, .inl (upd (upd od 0 (tx at9)) 1 (zI (nV tx ln (at9 + 1))))))] H := hP
            have hD : va_D (Ar) [(mm, .inr (5, [.ref mn, .ref mh, .int kp, .ref ms, .int fl, .ref mr, .ref md, .ref mo, .ref mc, .int (nI ln), .ref mt, .int (nI ((nE tx ln (at9 + 1)))), .int (zI (nV tx ln (at9 + 1))), .ref mq])), (mt, .inl (cC, 60, .inl (tx))), (mq, .inl (cI, 6, .inl (upd (upd od 0 (tx at9)) 1 (zI (nV tx ln (at9 + 1))))))] := hD
            refine lv_if_ne (tgt := 125) hx hb dX5_takesOrder_120 (by decide) (fun h => False.elim (by revert h; decide)) (fun _ => ?_)
            refine lv_iconst (v := 0) hx hb dX5_takesOrder_123 (by decide) ?_
            refine x_zretW (w := [(mm, .inr (5, [.ref mn, .ref mh, .int kp, .ref ms, .int fl, .ref mr, .ref md, .ref mo, .ref mc, .int (nI ln), .ref mt, .int (nI ((nE tx ln (at9 + 1)))), .int (zI (nV tx ln (at9 + 1))), .ref mq])), (mt, .inl (cC, 60, .inl (tx))), (mq, .inl (cI, 6, .inl (upd (upd od 0 (tx at9)) 1 (zI (nV tx ln (at9 + 1))))))]) hQ hAe hx hb hr hlocks (by decide) (hP.sub [0, 1, 2] rfl) (hD.sub [0, 1, 2] (by decide) rfl) hS ?_ dX5_takesOrder_124
            refine Or.inr (?_)
            have n98 : ¬ tk tx ln at9 98 := by omega
            have h115 : tk tx ln at9 115 := ⟨by omega, c_36⟩
            have hOR : oRes tx ln at9 = (false, (nE tx ln (at9 + 1))) := by unfold oRes; rw [if_neg n98, if_pos h115, if_pos hf135_0, if_neg hf117_0]
            exact ⟨(zI (nV tx ln (at9 + 1))), (upd (upd od 0 (tx at9)) 1 (zI (nV tx ln (at9 + 1)))), rfl, by rw [hOR], by rw [hOR]⟩
        · skip
          have hP : va_P D vwCl [(mm, .inr (5, [.ref mn, .ref mh, .int kp, .ref ms, .int fl, .ref mr, .ref md, .ref mo, .ref mc, .int (nI ln), .ref mt, .int (nI (nF tx ln (at9 + 1))), .int nu, .ref mq])), (mt, .inl (cC, 60, .inl (tx))), (mq, .inl (cI, 6, .inl (upd od 0 (tx at9))))] H := hP
          have hD : va_D (Ar) [(mm, .inr (5, [.ref mn, .ref mh, .int kp, .ref ms, .int fl, .ref mr, .ref md, .ref mo, .ref mc, .int (nI ln), .ref mt, .int (nI (nF tx ln (at9 + 1))), .int nu, .ref mq])), (mt, .inl (cC, 60, .inl (tx))), (mq, .inl (cI, 6, .inl (upd od 0 (tx at9))))] := hD
          refine lv_if_ne (tgt := 143) hx hb dX5_takesOrder_138 (by decide) (fun h => False.elim (by revert h; decide)) (fun _ => ?_)
          refine lv_iconst (v := 0) hx hb dX5_takesOrder_141 (by decide) ?_
          refine x_zretW (w := [(mm, .inr (5, [.ref mn, .ref mh, .int kp, .ref ms, .int fl, .ref mr, .ref md, .ref mo, .ref mc, .int (nI ln), .ref mt, .int (nI (nF tx ln (at9 + 1))), .int nu, .ref mq])), (mt, .inl (cC, 60, .inl (tx))), (mq, .inl (cI, 6, .inl (upd od 0 (tx at9))))]) hQ hAe hx hb hr hlocks (by decide) (hP.sub [0, 1, 2] rfl) (hD.sub [0, 1, 2] (by decide) rfl) hS ?_ dX5_takesOrder_142
          refine Or.inr (?_)
          have n98 : ¬ tk tx ln at9 98 := by omega
          have h115 : tk tx ln at9 115 := ⟨by omega, c_36⟩
          have hOR : oRes tx ln at9 = (false, nF tx ln (at9 + 1)) := by unfold oRes; rw [if_neg n98, if_pos h115, if_neg hf135_0]
          exact ⟨nu, (upd od 0 (tx at9)), rfl, by rw [hOR], by rw [hOR]⟩
      · skip
        refine lv_iconst (v := 0) hx hb dX5_takesOrder_39 (by decide) ?_
        refine x_zretW (w := [(mm, .inr (5, [.ref mn, .ref mh, .int kp, .ref ms, .int fl, .ref mr, .ref md, .ref mo, .ref mc, .int (nI ln), .ref mt, .int (nI at9), .int nu, .ref mq])), (mt, .inl (cC, 60, .inl (tx))), (mq, .inl (cI, 6, .inl (od)))]) hQ hAe hx hb hr hlocks (by decide) (hP.sub [0, 1, 2] rfl) (hD.sub [0, 1, 2] (by decide) rfl) hS ?_ dX5_takesOrder_40
        refine Or.inr (?_)
        have n98 : ¬ tk tx ln at9 98 := by omega
        have n115 : ¬ tk tx ln at9 115 := by omega
        have hOR : oRes tx ln at9 = (false, at9) := by unfold oRes; rw [if_neg n98, if_neg n115]
        exact ⟨nu, od, rfl, by rw [hOR], by rw [hOR]⟩
