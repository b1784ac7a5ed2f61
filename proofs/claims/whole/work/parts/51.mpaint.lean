set_option maxHeartbeats 4000000 in
set_option maxRecDepth 100000 in
theorem c_X5_paint (l : Launch) (D : va_G) (cI cC cS : ClassId) (tt : Nat → Nat) (sz : Nat) (mm : Nat) (mn : Nat) (mh : Nat) (ms : Nat) (mr : Nat) (md : Nat) (mo : Nat) (mc : Nat) (mt : Nat) (mq : Nat) (k : Nat) (ln : Nat) (fl : Int32) (at9 : Int32) (nu : Int32) (D1 : Nat → Int32) (S1 : Nat → Int32) (R1 : Nat → Int32) (N1 : Nat → Int32) (K1 : Int32) (L1 : Nat → Int32) (Hs : Nat → Int32) (tx : Nat → Int32) (od : Nat → Int32) (ol : Nat → Int32) (hh0 : k ≤ 4) (hh1 : ln ≤ 60) : Met l yX5_paint wsX5_paint ({ frames := 5, cells := 0, slots := 0, locals := 108 } : Room) (x_PW D cI cC cS tt [(mm, .inr (5, [.ref mn, .ref mh, .int (nI k), .ref ms, .int fl, .ref mr, .ref md, .ref mo, .ref mc, .int (nI ln), .ref mt, .int at9, .int nu, .ref mq])), (mn, .inl (cI, 578, .inl (mkM D1 S1 R1 N1 K1 L1))), (mh, .inl (cI, 2312, .inl (Hs))), (mt, .inl (cC, 60, .inl (tx))), (mq, .inl (cI, 6, .inl (od))), (mo, .inl (cI, 144, .inl (ol)))] sz [.ref mm]) (x_QWi D [(mm, .inr (5, [.ref mn, .ref mh, .int (nI k), .ref ms, .int fl, .ref mr, .ref md, .ref mo, .ref mc, .int (nI ln), .ref mt, .int at9, .int nu, .ref mq])), (mn, .inl (cI, 578, .inl (mkM D1 S1 R1 N1 K1 L1))), (mh, .inl (cI, 2312, .inl (Hs))), (mt, .inl (cC, 60, .inl (tx))), (mq, .inl (cI, 6, .inl (od))), (mo, .inl (cI, 144, .inl (ol)))] sz (fun (r : Int32) (w : va_W) => (∃ (at2 nu2 : Int32) (od2 : Nat → Int32), r = ((-100) - nI ((tRes tx ln 13 0 0).2.1)) ∧ w = [(mm, .inr (5, [.ref mn, .ref mh, .int (nI k), .ref ms, .int fl, .ref mr, .ref md, .ref mo, .ref mc, .int (nI ln), .ref mt, .int at2, .int nu2, .ref mq])), (mn, .inl (cI, 578, .inl (mkM D1 S1 R1 N1 K1 L1))), (mh, .inl (cI, 2312, .inl (Hs))), (mt, .inl (cC, 60, .inl (tx))), (mq, .inl (cI, 6, .inl (od2))), (mo, .inl (cI, 144, .inl (ol)))] ∧ ((tRes tx ln 13 0 0).1 = false)) ∨ (∃ (at2 nu2 : Int32) (od2 : Nat → Int32), r = (feQ (ptE tx ln) 0 (tRes tx ln 13 0 0).2.2) ∧ w = [(mm, .inr (5, [.ref mn, .ref mh, .int (nI k), .ref ms, .int fl, .ref mr, .ref md, .ref mo, .ref mc, .int (nI ln), .ref mt, .int at2, .int nu2, .ref mq])), (mn, .inl (cI, 578, .inl (mkM D1 S1 R1 N1 K1 L1))), (mh, .inl (cI, 2312, .inl (Hs))), (mt, .inl (cC, 60, .inl (tx))), (mq, .inl (cI, 6, .inl (od2))), (mo, .inl (cI, 144, .inl (ol)))] ∧ ((tRes tx ln 13 0 0).1 = true ∧ ¬ (feQ (ptE tx ln) 0 (tRes tx ln 13 0 0).2.2).toInt = 0)) ∨ (∃ (at2 nu2 : Int32) (od2 : Nat → Int32) (ol2 : Nat → Int32), r = (nI ((tRes tx ln 13 0 0).2.2)) ∧ w = [(mm, .inr (5, [.ref mn, .ref mh, .int (nI (min (k + 1) 4)), .ref ms, .int fl, .ref mr, .ref md, .ref mo, .ref mc, .int (nI ln), .ref mt, .int at2, .int nu2, .ref mq])), (mn, .inl (cI, 578, .inl (mkM (oDs tx ln D1 (tRes tx ln 13 0 0).2.2) S1 R1 N1 K1 L1))), (mh, .inl (cI, 2312, .inl (rcH Hs (mkM D1 S1 R1 N1 K1 L1) k))), (mt, .inl (cC, 60, .inl (tx))), (mq, .inl (cI, 6, .inl (od2))), (mo, .inl (cI, 144, .inl (ol2)))] ∧ ((tRes tx ln 13 0 0).1 = true ∧ (feQ (ptE tx ln) 0 (tRes tx ln 13 0 0).2.2).toInt = 0)))) 0 0 (va_A [(mm, .inr (5, [.ref mn, .ref mh, .int (nI k), .ref ms, .int fl, .ref mr, .ref md, .ref mo, .ref mc, .int (nI ln), .ref mt, .int at9, .int nu, .ref mq])), (mn, .inl (cI, 578, .inl (mkM D1 S1 R1 N1 K1 L1))), (mh, .inl (cI, 2312, .inl (Hs))), (mt, .inl (cC, 60, .inl (tx))), (mq, .inl (cI, 6, .inl (od))), (mo, .inl (cI, 144, .inl (ol)))] sz) := by
  refine Met.ofW (cc := cX5_paint) (maxL := 4) (ret := (some .int)) (by decide) rfl ?_
  intro p e s m args below meth c s₁ hBd hml hv
  obtain ⟨rfl, hsz, hP, hK, hD0, hE0⟩ := hv
  have hx := hBd.exec
  have hb := hBd.bytes
  have hr := hBd.returns
  have hts := atoms_spec (ws := wsX5_paint) hBd.pre
  have hown : s.vm.findClass RX5 = some m.cls := findClass_of_methodNamed hBd.named
  have hlocks := hBd.notSynchronized
  subst hsz
  obtain ⟨Ar, hAe⟩ : ∃ Ar : Nat → Prop, Ar = va_A [(mm, .inr (5, [.ref mn, .ref mh, .int (nI k), .ref ms, .int fl, .ref mr, .ref md, .ref mo, .ref mc, .int (nI ln), .ref mt, .int at9, .int nu, .ref mq])), (mn, .inl (cI, 578, .inl (mkM D1 S1 R1 N1 K1 L1))), (mh, .inl (cI, 2312, .inl (Hs))), (mt, .inl (cC, 60, .inl (tx))), (mq, .inl (cI, 6, .inl (od))), (mo, .inl (cI, 144, .inl (ol)))] s.heap.size := ⟨_, rfl⟩
  have hD : va_D Ar [(mm, .inr (5, [.ref mn, .ref mh, .int (nI k), .ref ms, .int fl, .ref mr, .ref md, .ref mo, .ref mc, .int (nI ln), .ref mt, .int at9, .int nu, .ref mq])), (mn, .inl (cI, 578, .inl (mkM D1 S1 R1 N1 K1 L1))), (mh, .inl (cI, 2312, .inl (Hs))), (mt, .inl (cC, 60, .inl (tx))), (mq, .inl (cI, 6, .inl (od))), (mo, .inl (cI, 144, .inl (ol)))] := by rw [hAe]; exact hD0.self
  have hA : ∀ q : Nat, s.heap.size ≤ q → Ar q := fun q h => by rw [hAe]; exact Or.inr h
  have hE : x_E tt Ar s := by rw [hAe]; exact hE0
  have hS : va_S Ar s.heap s.heap [] := va_S.rf
  have hl := lv_entry ([.ref mm]) (n := 4) (Nat.le_of_ble_eq_true rfl)
  rw [lg_entry_eq]
  generalize (lg_sl ([.ref mm]) ++ List.replicate (4 - (lg_sl ([.ref mm])).length) Slot.unset).toArray = ls at hl ⊢
  have hl : lv_has ls 4 [(0, .ref mm)] := hl
  refine x_genQ (fun Q hQ => ?_)
  refine lv_aload_n hx hb dX5_paint_0 rfl (lv_at hl 0 rfl) ?_
  refine x_callWi (wc := [(mm, .inr (5, [.ref mn, .ref mh, .int (nI k), .ref ms, .int fl, .ref mr, .ref md, .ref mo, .ref mc, .int (nI ln), .ref mt, .int at9, .int nu, .ref mq])), (mt, .inl (cC, 60, .inl (tx))), (mq, .inl (cI, 6, .inl (od)))]) (wr := [(mn, .inl (cI, 578, .inl (mkM D1 S1 R1 N1 K1 L1))), (mh, .inl (cI, 2312, .inl (Hs))), (mo, .inl (cI, 144, .inl (ol)))]) (va_runV (As := []) (rest := []) ⟨hx, hb, hml, hown, hts⟩ (c_X5_orders l D cI cC cS tt s.heap.size mm mn mh ms mr md mo mc mt mq ln (nI k) fl at9 nu tx od (by first | omega | assumption | decide)) (cwV 0 hts gX5_paint_X5_orders rfl rfl rfl (by decide +kernel) ⟨Nat.le_of_ble_eq_true rfl, Nat.le_of_ble_eq_true rfl⟩) ⟨x_blindW, va_recv hK hP (ci := 5) (q0 := 0) rfl rfl, x_preW hP hD hK hE hS hA [0, 3, 4] rfl (by decide)⟩ rfl rfl hl.1 rfl (lv_room (Nat.le_of_ble_eq_true rfl)) dX5_paint_1 ⟨(Nat.le_of_ble_eq_true rfl), (Nat.le_of_ble_eq_true rfl)⟩) hP hD hS hA [0, 3, 4] [1, 2, 5] rfl rfl (by decide) (by decide) (fun r_1 w1 H locs hw hP hD hS => ?_)
  rcases hw with ⟨a9, n9, nu2_2, od2_3, rfl, rfl, hf1_0, hf1_1, hf1_2⟩ | ⟨nu2_4, od2_5, rfl, rfl, hf1_0, hf1_1⟩
  · skip
    have hP : va_P D vwCl [(mm, .inr (5, [.ref mn, .ref mh, .int (nI k), .ref ms, .int fl, .ref mr, .ref md, .ref mo, .ref mc, .int (nI ln), .ref mt, .int (nI a9), .int nu2_2, .ref mq])), (mt, .inl (cC, 60, .inl (tx))), (mq, .inl (cI, 6, .inl (od2_3))), (mn, .inl (cI, 578, .inl (mkM D1 S1 R1 N1 K1 L1))), (mh, .inl (cI, 2312, .inl (Hs))), (mo, .inl (cI, 144, .inl (ol)))] H := hP
    have hD : va_D (Ar) [(mm, .inr (5, [.ref mn, .ref mh, .int (nI k), .ref ms, .int fl, .ref mr, .ref md, .ref mo, .ref mc, .int (nI ln), .ref mt, .int (nI a9), .int nu2_2, .ref mq])), (mt, .inl (cC, 60, .inl (tx))), (mq, .inl (cI, 6, .inl (od2_3))), (mn, .inl (cI, 578, .inl (mkM D1 S1 R1 N1 K1 L1))), (mh, .inl (cI, 2312, .inl (Hs))), (mo, .inl (cI, 144, .inl (ol)))] := hD
    refine lv_istore_n (lv' := [(1, .int (nI n9)), (0, .ref mm)]) hx hb dX5_paint_4 rfl hl (by decide) rfl (fun ls hl => ?_)
    refine lv_iload_n hx hb dX5_paint_5 rfl (lv_at hl 0 rfl) ?_
    refine lv_bipush (v := (-5)) hx hb dX5_paint_6 (by decide) ?_
    refine x_icmp_ne (tgt := 19) hx hb dX5_paint_8 (by decide) (X := ((n9 : Nat) : Int)) (nI_toI (by omega)) (Y := (-5)) (show (-5 : Int32).toInt = -5 from by decide) (fun c_8 => ?_) (fun c_8 => ?_)
    rotate_left
    · exfalso; omega
    have hok9 := tRes_ok (tx := tx) (ln := ln) 13 0 0 rfl hf1_0
    have hgd9 : oGd tx ln n9 := fun o ho => hok9.2 o (Nat.zero_le _) (by rw [← hf1_1]; exact ho)
    refine lv_aload_n hx hb dX5_paint_19 rfl (lv_at hl 1 rfl) ?_
    refine lv_iconst (v := 0) hx hb dX5_paint_20 (by decide) ?_
    refine x_eqi (show 0 = nI (oS tx ln 0) from rfl) ?_
    refine va_put (v := .int (nI (oS tx ln 0))) (ty := .int) (D := D) (ci := 5) (C := RX5) (T := TX5) (N := 14) hx hb hts (by decide +kernel) tyX5 tyX5_ok nmX5 hown hK hP hD hS 0 rfl rfl 11 (by decide) (hts (.fieldLink RX5 123 "SpiralFramesModel" "at" "I") (by decide +kernel)) (fun _ h9 => h9) rfl (by decide +kernel) rfl rfl (Nat.le_of_ble_eq_true rfl) dX5_paint_21 (fun H locs hP hD hS => ?_)
    have hP : va_P D vwCl [(mm, .inr (5, [.ref mn, .ref mh, .int (nI k), .ref ms, .int fl, .ref mr, .ref md, .ref mo, .ref mc, .int (nI ln), .ref mt, .int (nI (oS tx ln 0)), .int nu2_2, .ref mq])), (mt, .inl (cC, 60, .inl (tx))), (mq, .inl (cI, 6, .inl (od2_3))), (mn, .inl (cI, 578, .inl (mkM D1 S1 R1 N1 K1 L1))), (mh, .inl (cI, 2312, .inl (Hs))), (mo, .inl (cI, 144, .inl (ol)))] H := hP
    have hD : va_D (Ar) [(mm, .inr (5, [.ref mn, .ref mh, .int (nI k), .ref ms, .int fl, .ref mr, .ref md, .ref mo, .ref mc, .int (nI ln), .ref mt, .int (nI (oS tx ln 0)), .int nu2_2, .ref mq])), (mt, .inl (cC, 60, .inl (tx))), (mq, .inl (cI, 6, .inl (od2_3))), (mn, .inl (cI, 578, .inl (mkM D1 S1 R1 N1 K1 L1))), (mh, .inl (cI, 2312, .inl (Hs))), (mo, .inl (cI, 144, .inl (ol)))] := hD
    refine lv_iconst (v := 0) hx hb dX5_paint_24 (by decide) ?_
    refine lv_istore_n (lv' := [(2, .int 0), (1, .int (nI n9)), (0, .ref mm)]) hx hb dX5_paint_25 rfl hl (by decide) rfl (fun ls hl => ?_)
    have L26 : ∀ (fuel : Nat) (o9 : Nat) (nu3 : Int32) (od3 : Nat → Int32), (o9 ≤ n9) → (feQ (ptE tx ln) 0 n9 = feQ (ptE tx ln) o9 (n9 - o9)) → n9 - o9 < fuel → ∀ (H : Heap) (locs : List Loc), va_P D vwCl [(mm, .inr (5, [.ref mn, .ref mh, .int (nI k), .ref ms, .int fl, .ref mr, .ref md, .ref mo, .ref mc, .int (nI ln), .ref mt, .int (nI (oS tx ln o9)), .int nu3, .ref mq])), (mn, .inl (cI, 578, .inl (mkM D1 S1 R1 N1 K1 L1))), (mh, .inl (cI, 2312, .inl (Hs))), (mt, .inl (cC, 60, .inl (tx))), (mq, .inl (cI, 6, .inl (od3))), (mo, .inl (cI, 144, .inl (ol)))] H → va_D (Ar) [(mm, .inr (5, [.ref mn, .ref mh, .int (nI k), .ref ms, .int fl, .ref mr, .ref md, .ref mo, .ref mc, .int (nI ln), .ref mt, .int (nI (oS tx ln o9)), .int nu3, .ref mq])), (mn, .inl (cI, 578, .inl (mkM D1 S1 R1 N1 K1 L1))), (mh, .inl (cI, 2312, .inl (Hs))), (mt, .inl (cC, 60, .inl (tx))), (mq, .inl (cI, 6, .inl (od3))), (mo, .inl (cI, 144, .inl (ol)))] → va_S (Ar) s.heap H locs → ∀ (ls : Array Slot), lv_has ls 4 [(0, .ref mm), (1, .int (nI n9)), (2, .int (nI o9))] → W p l e (headSpec wsX5_paint ({ frames := 5, cells := 0, slots := 0, locals := 108 } : Room)).room s m ([.ref mm] : List Value).toArray below meth c H locs 0 0 Q (F0 m 26 ls []) := by
      intro fuel
      induction fuel with
      | zero =>
        intro o9 nu3 od3 hi26_0 hi26_1 hfu
        exact absurd hfu (Nat.not_lt_zero _)
      | succ fuel ih26 =>
        intro o9 nu3 od3 hi26_0 hi26_1 hfu26 H locs hP hD hS ls hl
        refine lv_iload_n hx hb dX5_paint_26 rfl (lv_at hl 2 rfl) ?_
        refine lv_iload_n hx hb dX5_paint_27 rfl (lv_at hl 1 rfl) ?_
        refine x_icmp_ge (tgt := 63) hx hb dX5_paint_28 (by decide) (X := ((o9 : Nat) : Int)) (nI_toI (by omega)) (Y := ((n9 : Nat) : Int)) (nI_toI (by omega)) (fun c_28 => ?_) (fun c_28 => ?_)
        · skip
          have hfe9 : (feQ (ptE tx ln) 0 n9).toInt = 0 := by rw [hi26_1, show n9 - o9 = 0 by omega]; exact (show (0 : Int32).toInt = 0 by decide)
          refine lv_aload_n hx hb dX5_paint_63 rfl (lv_at hl 0 rfl) ?_
          refine x_callWv (wc := [(mm, .inr (5, [.ref mn, .ref mh, .int (nI k), .ref ms, .int fl, .ref mr, .ref md, .ref mo, .ref mc, .int (nI ln), .ref mt, .int (nI (oS tx ln o9)), .int nu3, .ref mq])), (mn, .inl (cI, 578, .inl (mkM D1 S1 R1 N1 K1 L1))), (mh, .inl (cI, 2312, .inl (Hs)))]) (wr := [(mt, .inl (cC, 60, .inl (tx))), (mq, .inl (cI, 6, .inl (od3))), (mo, .inl (cI, 144, .inl (ol)))]) (va_runV (As := []) (rest := []) ⟨hx, hb, hml, hown, hts⟩ (c_X5_record l D cI cC cS tt H.size mm mn mh ms mr md mo mc mt mq fl (nI ln) (nI (oS tx ln o9)) nu3 k (mkM D1 S1 R1 N1 K1 L1) Hs (by first | omega | assumption | decide)) (cwV 0 hts gX5_paint_X5_record rfl rfl rfl (by decide +kernel) ⟨Nat.le_of_ble_eq_true rfl, Nat.le_of_ble_eq_true rfl⟩) ⟨x_blindW, va_recv hK hP (ci := 5) (q0 := 0) rfl rfl, x_preW hP hD hK hE hS hA [0, 1, 2] rfl (by decide)⟩ rfl rfl hl.1 rfl (lv_room (Nat.le_of_ble_eq_true rfl)) dX5_paint_64 ⟨(Nat.le_of_ble_eq_true rfl), (Nat.le_of_ble_eq_true rfl)⟩) hP hD hS hA [0, 1, 2] [3, 4, 5] rfl rfl (by decide) (by decide) (fun w1 H locs hw hP hD hS => ?_)
          obtain rfl := hw
          have hP : va_P D vwCl [(mm, .inr (5, [.ref mn, .ref mh, .int (nI (min (k + 1) 4)), .ref ms, .int fl, .ref mr, .ref md, .ref mo, .ref mc, .int (nI ln), .ref mt, .int (nI (oS tx ln o9)), .int nu3, .ref mq])), (mn, .inl (cI, 578, .inl (mkM D1 S1 R1 N1 K1 L1))), (mh, .inl (cI, 2312, .inl (rcH Hs (mkM D1 S1 R1 N1 K1 L1) k))), (mt, .inl (cC, 60, .inl (tx))), (mq, .inl (cI, 6, .inl (od3))), (mo, .inl (cI, 144, .inl (ol)))] H := hP
          have hD : va_D (Ar) [(mm, .inr (5, [.ref mn, .ref mh, .int (nI (min (k + 1) 4)), .ref ms, .int fl, .ref mr, .ref md, .ref mo, .ref mc, .int (nI ln), .ref mt, .int (nI (oS tx ln o9)), .int nu3, .ref mq])), (mn, .inl (cI, 578, .inl (mkM D1 S1 R1 N1 K1 L1))), (mh, .inl (cI, 2312, .inl (rcH Hs (mkM D1 S1 R1 N1 K1 L1) k))), (mt, .inl (cC, 60, .inl (tx))), (mq, .inl (cI, 6, .inl (od3))), (mo, .inl (cI, 144, .inl (ol)))] := hD
          refine lv_aload_n hx hb dX5_paint_67 rfl (lv_at hl 0 rfl) ?_
          refine lv_iconst (v := 0) hx hb dX5_paint_68 (by decide) ?_
          refine x_eqi (show 0 = nI (oS tx ln 0) from rfl) ?_
          refine va_put (v := .int (nI (oS tx ln 0))) (ty := .int) (D := D) (ci := 5) (C := RX5) (T := TX5) (N := 14) hx hb hts (by decide +kernel) tyX5 tyX5_ok nmX5 hown hK hP hD hS 0 rfl rfl 11 (by decide) (hts (.fieldLink RX5 123 "SpiralFramesModel" "at" "I") (by decide +kernel)) (fun _ h9 => h9) rfl (by decide +kernel) rfl rfl (Nat.le_of_ble_eq_true rfl) dX5_paint_69 (fun H locs hP hD hS => ?_)
          have hP : va_P D vwCl [(mm, .inr (5, [.ref mn, .ref mh, .int (nI (min (k + 1) 4)), .ref ms, .int fl, .ref mr, .ref md, .ref mo, .ref mc, .int (nI ln), .ref mt, .int (nI (oS tx ln 0)), .int nu3, .ref mq])), (mn, .inl (cI, 578, .inl (mkM D1 S1 R1 N1 K1 L1))), (mh, .inl (cI, 2312, .inl (rcH Hs (mkM D1 S1 R1 N1 K1 L1) k))), (mt, .inl (cC, 60, .inl (tx))), (mq, .inl (cI, 6, .inl (od3))), (mo, .inl (cI, 144, .inl (ol)))] H := hP
          have hD : va_D (Ar) [(mm, .inr (5, [.ref mn, .ref mh, .int (nI (min (k + 1) 4)), .ref ms, .int fl, .ref mr, .ref md, .ref mo, .ref mc, .int (nI ln), .ref mt, .int (nI (oS tx ln 0)), .int nu3, .ref mq])), (mn, .inl (cI, 578, .inl (mkM D1 S1 R1 N1 K1 L1))), (mh, .inl (cI, 2312, .inl (rcH Hs (mkM D1 S1 R1 N1 K1 L1) k))), (mt, .inl (cC, 60, .inl (tx))), (mq, .inl (cI, 6, .inl (od3))), (mo, .inl (cI, 144, .inl (ol)))] := hD
          refine lv_iconst (v := 0) hx hb dX5_paint_72 (by decide) ?_
          refine lv_istore_n (lv' := [(2, .int 0), (0, .ref mm), (1, .int (nI n9))]) hx hb dX5_paint_73 rfl hl (by decide) rfl (fun ls hl => ?_)
          have L74 : ∀ (fuel : Nat) (o9 : Nat) (nu3 : Int32) (od3 : Nat → Int32) (f : Nat → Int32) (ol3 : Nat → Int32), (o9 ≤ n9) → (f = oDs tx ln D1 o9) → n9 - o9 < fuel → ∀ (H : Heap) (locs : List Loc), va_P D vwCl [(mm, .inr (5, [.ref mn, .ref mh, .int (nI (min (k + 1) 4)), .ref ms, .int fl, .ref mr, .ref md, .ref mo, .ref mc, .int (nI ln), .ref mt, .int (nI (oS tx ln o9)), .int nu3, .ref mq])), (mn, .inl (cI, 578, .inl (mkM f S1 R1 N1 K1 L1))), (mh, .inl (cI, 2312, .inl (rcH Hs (mkM D1 S1 R1 N1 K1 L1) k))), (mt, .inl (cC, 60, .inl (tx))), (mq, .inl (cI, 6, .inl (od3))), (mo, .inl (cI, 144, .inl (ol3)))] H → va_D (Ar) [(mm, .inr (5, [.ref mn, .ref mh, .int (nI (min (k + 1) 4)), .ref ms, .int fl, .ref mr, .ref md, .ref mo, .ref mc, .int (nI ln), .ref mt, .int (nI (oS tx ln o9)), .int nu3, .ref mq])), (mn, .inl (cI, 578, .inl (mkM f S1 R1 N1 K1 L1))), (mh, .inl (cI, 2312, .inl (rcH Hs (mkM D1 S1 R1 N1 K1 L1) k))), (mt, .inl (cC, 60, .inl (tx))), (mq, .inl (cI, 6, .inl (od3))), (mo, .inl (cI, 144, .inl (ol3)))] → va_S (Ar) s.heap H locs → ∀ (ls : Array Slot), lv_has ls 4 [(0, .ref mm), (1, .int (nI n9)), (2, .int (nI o9))] → W p l e (headSpec wsX5_paint ({ frames := 5, cells := 0, slots := 0, locals := 108 } : Room)).room s m ([.ref mm] : List Value).toArray below meth c H locs 0 0 Q (F0 m 74 ls []) := by
            intro fuel
            induction fuel with
            | zero =>
              intro o9 nu3 od3 f ol3 hi74_0 hi74_1 hfu
              exact absurd hfu (Nat.not_lt_zero _)
            | succ fuel ih74 =>
              intro o9 nu3 od3 f ol3 hi74_0 hi74_1 hfu74 H locs hP hD hS ls hl
              refine lv_iload_n hx hb dX5_paint_74 rfl (lv_at hl 2 rfl) ?_
              refine lv_iload_n hx hb dX5_paint_75 rfl (lv_at hl 1 rfl) ?_
              refine x_icmp_ge (tgt := 166) hx hb dX5_paint_76 (by decide) (X := ((o9 : Nat) : Int)) (nI_toI (by omega)) (Y := ((n9 : Nat) : Int)) (nI_toI (by omega)) (fun c_76 => ?_) (fun c_76 => ?_)
              · skip
                refine lv_iload_n hx hb dX5_paint_166 rfl (lv_at hl 1 rfl) ?_
                refine x_iretW (w := [(mm, .inr (5, [.ref mn, .ref mh, .int (nI (min (k + 1) 4)), .ref ms, .int fl, .ref mr, .ref md, .ref mo, .ref mc, .int (nI ln), .ref mt, .int (nI (oS tx ln o9)), .int nu3, .ref mq])), (mn, .inl (cI, 578, .inl (mkM f S1 R1 N1 K1 L1))), (mh, .inl (cI, 2312, .inl (rcH Hs (mkM D1 S1 R1 N1 K1 L1) k))), (mt, .inl (cC, 60, .inl (tx))), (mq, .inl (cI, 6, .inl (od3))), (mo, .inl (cI, 144, .inl (ol3)))]) hQ hAe hx hb hr hlocks (hP.sub [0, 1, 2, 3, 4, 5] rfl) (hD.sub [0, 1, 2, 3, 4, 5] (by decide) rfl) hS ?_ dX5_paint_167
                refine Or.inr (Or.inr (?_))
                have hfin : f = oDs tx ln D1 (tRes tx ln 13 0 0).2.2 := by rw [← hf1_1, hi74_1, show o9 = n9 by omega]
                exact ⟨_, _, _, _, by rw [← hf1_1], by rw [hfin], hf1_0, by rw [← hf1_1]; exact hfe9⟩
              · skip
                have e4 := oRes_4 (hgd9 o9 (by omega))
                refine lv_aload_n hx hb dX5_paint_79 rfl (lv_at hl 0 rfl) ?_
                refine x_callWi (wc := [(mm, .inr (5, [.ref mn, .ref mh, .int (nI (min (k + 1) 4)), .ref ms, .int fl, .ref mr, .ref md, .ref mo, .ref mc, .int (nI ln), .ref mt, .int (nI ((oS tx ln o9))), .int nu3, .ref mq])), (mt, .inl (cC, 60, .inl (tx))), (mq, .inl (cI, 6, .inl (od3)))]) (wr := [(mn, .inl (cI, 578, .inl (mkM f S1 R1 N1 K1 L1))), (mh, .inl (cI, 2312, .inl (rcH Hs (mkM D1 S1 R1 N1 K1 L1) k))), (mo, .inl (cI, 144, .inl (ol3)))]) (va_runV (As := []) (rest := []) ⟨hx, hb, hml, hown, hts⟩ (c_X5_takesOrder l D cI cC cS tt H.size mm mn mh ms mr md mo mc mt mq ln (oS tx ln o9) (nI (min (k + 1) 4)) fl nu3 tx od3 (by first | omega | assumption | decide) (by first | omega | assumption | decide)) (cwV 0 hts gX5_paint_X5_takesOrder rfl rfl rfl (by decide +kernel) ⟨Nat.le_of_ble_eq_true rfl, Nat.le_of_ble_eq_true rfl⟩) ⟨x_blindW, va_recv hK hP (ci := 5) (q0 := 0) rfl rfl, x_preW hP hD hK hE hS hA [0, 3, 4] rfl (by decide)⟩ rfl rfl hl.1 rfl (lv_room (Nat.le_of_ble_eq_true rfl)) dX5_paint_80 ⟨(Nat.le_of_ble_eq_true rfl), (Nat.le_of_ble_eq_true rfl)⟩) hP hD hS hA [0, 3, 4] [1, 2, 5] rfl rfl (by decide) (by decide) (fun r_7 w1 H locs hw hP hD hS => ?_)
                rcases hw with ⟨nu2_8, od2_9, rfl, rfl, hf80_0, hf80_1, hf80_2⟩ | ⟨nu2_10, od2_11, rfl, rfl, hf80_0⟩
                · skip
                  have hP : va_P D vwCl [(mm, .inr (5, [.ref mn, .ref mh, .int (nI (min (k + 1) 4)), .ref ms, .int fl, .ref mr, .ref md, .ref mo, .ref mc, .int (nI ln), .ref mt, .int (nI ((oRes tx ln (oS tx ln o9)).2)), .int nu2_8, .ref mq])), (mt, .inl (cC, 60, .inl (tx))), (mq, .inl (cI, 6, .inl (od2_9))), (mn, .inl (cI, 578, .inl (mkM f S1 R1 N1 K1 L1))), (mh, .inl (cI, 2312, .inl (rcH Hs (mkM D1 S1 R1 N1 K1 L1) k))), (mo, .inl (cI, 144, .inl (ol3)))] H := hP
                  have hD : va_D (Ar) [(mm, .inr (5, [.ref mn, .ref mh, .int (nI (min (k + 1) 4)), .ref ms, .int fl, .ref mr, .ref md, .ref mo, .ref mc, .int (nI ln), .ref mt, .int (nI ((oRes tx ln (oS tx ln o9)).2)), .int nu2_8, .ref mq])), (mt, .inl (cC, 60, .inl (tx))), (mq, .inl (cI, 6, .inl (od2_9))), (mn, .inl (cI, 578, .inl (mkM f S1 R1 N1 K1 L1))), (mh, .inl (cI, 2312, .inl (rcH Hs (mkM D1 S1 R1 N1 K1 L1) k))), (mo, .inl (cI, 144, .inl (ol3)))] := hD
                  refine lv_pop hx hb dX5_paint_83 rfl ?_
                  refine lv_aload_n hx hb dX5_paint_84 rfl (lv_at hl 0 rfl) ?_
                  refine lv_dup hx hb dX5_paint_85 rfl ?_
                  refine va_get (v := .int (nI ((oRes tx ln (oS tx ln o9)).2))) (D := D) (ci := 5) (C := RX5) (T := TX5) (N := 14) hx hb hts (by decide +kernel) hown hK hP 0 rfl rfl 11 (by decide) (hts (.fieldLink RX5 123 "SpiralFramesModel" "at" "I") (by decide +kernel)) (fun _ h9 => h9) rfl dX5_paint_86 ?_
                  refine lv_iconst (v := 1) hx hb dX5_paint_89 (by decide) ?_
                  refine lv_iadd hx hb dX5_paint_90 ?_
                  refine x_eqi (show nI ((oRes tx ln (oS tx ln o9)).2) + 1 = nI (((oRes tx ln (oS tx ln o9)).2) + 1) from nI_add ((oRes tx ln (oS tx ln o9)).2) 1) ?_
                  refine va_put (v := .int (nI (((oRes tx ln (oS tx ln o9)).2) + 1))) (ty := .int) (D := D) (ci := 5) (C := RX5) (T := TX5) (N := 14) hx hb hts (by decide +kernel) tyX5 tyX5_ok nmX5 hown hK hP hD hS 0 rfl rfl 11 (by decide) (hts (.fieldLink RX5 123 "SpiralFramesModel" "at" "I") (by decide +kernel)) (fun _ h9 => h9) rfl (by decide +kernel) rfl rfl (Nat.le_of_ble_eq_true rfl) dX5_paint_91 (fun H locs hP hD hS => ?_)
                  have hP : va_P D vwCl [(mm, .inr (5, [.ref mn, .ref mh, .int (nI (min (k + 1) 4)), .ref ms, .int fl, .ref mr, .ref md, .ref mo, .ref mc, .int (nI ln), .ref mt, .int (nI (((oRes tx ln (oS tx ln o9)).2) + 1)), .int nu2_8, .ref mq])), (mt, .inl (cC, 60, .inl (tx))), (mq, .inl (cI, 6, .inl (od2_9))), (mn, .inl (cI, 578, .inl (mkM f S1 R1 N1 K1 L1))), (mh, .inl (cI, 2312, .inl (rcH Hs (mkM D1 S1 R1 N1 K1 L1) k))), (mo, .inl (cI, 144, .inl (ol3)))] H := hP
                  have hD : va_D (Ar) [(mm, .inr (5, [.ref mn, .ref mh, .int (nI (min (k + 1) 4)), .ref ms, .int fl, .ref mr, .ref md, .ref mo, .ref mc, .int (nI ln), .ref mt, .int (nI (((oRes tx ln (oS tx ln o9)).2) + 1)), .int nu2_8, .ref mq])), (mt, .inl (cC, 60, .inl (tx))), (mq, .inl (cI, 6, .inl (od2_9))), (mn, .inl (cI, 578, .inl (mkM f S1 R1 N1 K1 L1))), (mh, .inl (cI, 2312, .inl (rcH Hs (mkM D1 S1 R1 N1 K1 L1) k))), (mo, .inl (cI, 144, .inl (ol3)))] := hD
                  by_cases htk : tk tx ln (oS tx ln o9) 98
                  · skip
                    have hoe : ptE tx ln o9 = bxE (oV tx ln (oS tx ln o9) 1) (oV tx ln (oS tx ln o9) 2) (oV tx ln (oS tx ln o9) 3) (oV tx ln (oS tx ln o9) 4) (oV tx ln (oS tx ln o9) 5) := if_pos htk
                    have he9 := feQ_n n9 0 hfe9 o9 (Nat.zero_le _) (by omega)
                    rw [hoe] at he9
                    have hbx := bxE_0 he9
                    have wb1 := oV_b (k := 1) (hgd9 o9 (by omega)) (by unfold oK; rw [if_pos htk]; omega)
                    have wb2 := oV_b (k := 2) (hgd9 o9 (by omega)) (by unfold oK; rw [if_pos htk]; omega)
                    have wb3 := oV_b (k := 3) (hgd9 o9 (by omega)) (by unfold oK; rw [if_pos htk]; omega)
                    have wb4 := oV_b (k := 4) (hgd9 o9 (by omega)) (by unfold oK; rw [if_pos htk]; omega)
                    have wb5 := oV_b (k := 5) (hgd9 o9 (by omega)) (by unfold oK; rw [if_pos htk]; omega)
                    refine lv_aload_n hx hb dX5_paint_94 rfl (lv_at hl 0 rfl) ?_
                    refine va_get (v := .ref mq) (D := D) (ci := 5) (C := RX5) (T := TX5) (N := 14) hx hb hts (by decide +kernel) hown hK hP 0 rfl rfl 13 (by decide) (hts (.fieldLink RX5 35 "SpiralFramesModel" "order" "[I") (by decide +kernel)) (fun _ h9 => h9) rfl dX5_paint_95 ?_
                    refine lv_iconst (v := 0) hx hb dX5_paint_98 (by decide) ?_
                    refine x_eqi (show (0 : Int32) = nI 0 from by decide) ?_
                    refine x_iald hx hb hK hP 2 0 rfl rfl (k := 0) (by omega) (by decide) dX5_paint_99 ?_
                    refine x_eqi (show od2_9 0 = 98 from (by rw [hf80_2, if_pos htk])) ?_
                    refine lv_bipush (v := 98) hx hb dX5_paint_100 (by decide) ?_
                    refine lv_icmp_ne (tgt := 143) hx hb dX5_paint_102 (by decide) (fun h => False.elim (by revert h; decide)) (fun _ => ?_)
                    refine lv_aload_n hx hb dX5_paint_105 rfl (lv_at hl 0 rfl) ?_
                    refine lv_aload_n hx hb dX5_paint_106 rfl (lv_at hl 0 rfl) ?_
                    refine va_get (v := .ref mq) (D := D) (ci := 5) (C := RX5) (T := TX5) (N := 14) hx hb hts (by decide +kernel) hown hK hP 0 rfl rfl 13 (by decide) (hts (.fieldLink RX5 35 "SpiralFramesModel" "order" "[I") (by decide +kernel)) (fun _ h9 => h9) rfl dX5_paint_107 ?_
                    refine lv_iconst (v := 1) hx hb dX5_paint_110 (by decide) ?_
                    refine x_eqi (show (1 : Int32) = nI 1 from by decide) ?_
                    refine x_iald hx hb hK hP 2 0 rfl rfl (k := 1) (by omega) (by decide) dX5_paint_111 ?_
                    refine x_eqi (show od2_9 1 = nI (((oV tx ln (oS tx ln o9)) 1).toNat) from (hf80_1 1 (by omega) (by unfold oK; rw [if_pos htk]; omega)).trans (zI_nat (by omega))) ?_
                    refine lv_aload_n hx hb dX5_paint_112 rfl (lv_at hl 0 rfl) ?_
                    refine va_get (v := .ref mq) (D := D) (ci := 5) (C := RX5) (T := TX5) (N := 14) hx hb hts (by decide +kernel) hown hK hP 0 rfl rfl 13 (by decide) (hts (.fieldLink RX5 35 "SpiralFramesModel" "order" "[I") (by decide +kernel)) (fun _ h9 => h9) rfl dX5_paint_113 ?_
                    refine lv_iconst (v := 2) hx hb dX5_paint_116 (by decide) ?_
                    refine x_eqi (show (2 : Int32) = nI 2 from by decide) ?_
                    refine x_iald hx hb hK hP 2 0 rfl rfl (k := 2) (by omega) (by decide) dX5_paint_117 ?_
                    refine x_eqi (show od2_9 2 = nI (((oV tx ln (oS tx ln o9)) 2).toNat) from (hf80_1 2 (by omega) (by unfold oK; rw [if_pos htk]; omega)).trans (zI_nat (by omega))) ?_
                    refine lv_aload_n hx hb dX5_paint_118 rfl (lv_at hl 0 rfl) ?_
                    refine va_get (v := .ref mq) (D := D) (ci := 5) (C := RX5) (T := TX5) (N := 14) hx hb hts (by decide +kernel) hown hK hP 0 rfl rfl 13 (by decide) (hts (.fieldLink RX5 35 "SpiralFramesModel" "order" "[I") (by decide +kernel)) (fun _ h9 => h9) rfl dX5_paint_119 ?_
                    refine lv_iconst (v := 3) hx hb dX5_paint_122 (by decide) ?_
                    refine x_eqi (show (3 : Int32) = nI 3 from by decide) ?_
                    refine x_iald hx hb hK hP 2 0 rfl rfl (k := 3) (by omega) (by decide) dX5_paint_123 ?_
                    refine x_eqi (show od2_9 3 = nI (((oV tx ln (oS tx ln o9)) 3).toNat) from (hf80_1 3 (by omega) (by unfold oK; rw [if_pos htk]; omega)).trans (zI_nat (by omega))) ?_
                    refine lv_aload_n hx hb dX5_paint_124 rfl (lv_at hl 0 rfl) ?_
                    refine va_get (v := .ref mq) (D := D) (ci := 5) (C := RX5) (T := TX5) (N := 14) hx hb hts (by decide +kernel) hown hK hP 0 rfl rfl 13 (by decide) (hts (.fieldLink RX5 35 "SpiralFramesModel" "order" "[I") (by decide +kernel)) (fun _ h9 => h9) rfl dX5_paint_125 ?_
                    refine lv_iconst (v := 4) hx hb dX5_paint_128 (by decide) ?_
                    refine x_eqi (show (4 : Int32) = nI 4 from by decide) ?_
                    refine x_iald hx hb hK hP 2 0 rfl rfl (k := 4) (by omega) (by decide) dX5_paint_129 ?_
                    refine x_eqi (show od2_9 4 = nI (((oV tx ln (oS tx ln o9)) 4).toNat) from (hf80_1 4 (by omega) (by unfold oK; rw [if_pos htk]; omega)).trans (zI_nat (by omega))) ?_
                    refine lv_aload_n hx hb dX5_paint_130 rfl (lv_at hl 0 rfl) ?_
                    refine va_get (v := .ref mq) (D := D) (ci := 5) (C := RX5) (T := TX5) (N := 14) hx hb hts (by decide +kernel) hown hK hP 0 rfl rfl 13 (by decide) (hts (.fieldLink RX5 35 "SpiralFramesModel" "order" "[I") (by decide +kernel)) (fun _ h9 => h9) rfl dX5_paint_131 ?_
                    refine lv_iconst (v := 5) hx hb dX5_paint_134 (by decide) ?_
                    refine x_eqi (show (5 : Int32) = nI 5 from by decide) ?_
                    refine x_iald hx hb hK hP 2 0 rfl rfl (k := 5) (by omega) (by decide) dX5_paint_135 ?_
                    refine x_eqi (show od2_9 5 = zI ((oV tx ln (oS tx ln o9)) 5) from (hf80_1 5 (by omega) (by unfold oK; rw [if_pos htk]; omega))) ?_
                    refine x_callWi (wc := [(mm, .inr (5, [.ref mn, .ref mh, .int (nI (min (k + 1) 4)), .ref ms, .int fl, .ref mr, .ref md, .ref mo, .ref mc, .int (nI ln), .ref mt, .int (nI (((oRes tx ln (oS tx ln o9)).2) + 1)), .int nu2_8, .ref mq])), (mn, .inl (cI, 578, .inl (mkM f S1 R1 N1 K1 L1)))]) (wr := [(mt, .inl (cC, 60, .inl (tx))), (mq, .inl (cI, 6, .inl (od2_9))), (mh, .inl (cI, 2312, .inl (rcH Hs (mkM D1 S1 R1 N1 K1 L1) k))), (mo, .inl (cI, 144, .inl (ol3)))]) (va_runV (As := [.int (nI (((oV tx ln (oS tx ln o9)) 1).toNat)), .int (nI (((oV tx ln (oS tx ln o9)) 2).toNat)), .int (nI (((oV tx ln (oS tx ln o9)) 3).toNat)), .int (nI (((oV tx ln (oS tx ln o9)) 4).toNat)), .int (zI ((oV tx ln (oS tx ln o9)) 5))]) (rest := []) ⟨hx, hb, hml, hown, hts⟩ (c_X5_fills l D cI cC cS tt H.size mm mn mh ms mr md mo mc mt mq (nI (min (k + 1) 4)) fl (nI ln) (nI (((oRes tx ln (oS tx ln o9)).2) + 1)) nu2_8 f S1 R1 N1 K1 L1 (((oV tx ln (oS tx ln o9)) 1).toNat) (((oV tx ln (oS tx ln o9)) 2).toNat) (((oV tx ln (oS tx ln o9)) 3).toNat) (((oV tx ln (oS tx ln o9)) 4).toNat) (zI ((oV tx ln (oS tx ln o9)) 5)) (by first | omega | assumption | decide) (by first | omega | assumption | decide) (by first | omega | assumption | decide) (by first | omega | assumption | decide) (by first | omega | assumption | decide) (by first | omega | assumption | decide)) (cwV 5 hts gX5_paint_X5_fills rfl rfl rfl (by decide +kernel) ⟨Nat.le_of_ble_eq_true rfl, Nat.le_of_ble_eq_true rfl⟩) ⟨x_blindW, va_recv hK hP (ci := 5) (q0 := 0) rfl rfl, x_preW hP hD hK hE hS hA [0, 3] rfl (by decide)⟩ rfl rfl hl.1 rfl (lv_room (Nat.le_of_ble_eq_true rfl)) dX5_paint_136 ⟨(Nat.le_of_ble_eq_true rfl), (Nat.le_of_ble_eq_true rfl)⟩) hP hD hS hA [0, 3] [1, 2, 4, 5] rfl rfl (by decide) (by decide) (fun r_12 w1 H locs hw hP hD hS => ?_)
                    obtain ⟨rfl, rfl⟩ := hw
                    have hP : va_P D vwCl [(mm, .inr (5, [.ref mn, .ref mh, .int (nI (min (k + 1) 4)), .ref ms, .int fl, .ref mr, .ref md, .ref mo, .ref mc, .int (nI ln), .ref mt, .int (nI (((oRes tx ln (oS tx ln o9)).2) + 1)), .int nu2_8, .ref mq])), (mn, .inl (cI, 578, .inl (mkM (bxN f (((oV tx ln (oS tx ln o9)) 1).toNat) (min ((((oV tx ln (oS tx ln o9)) 1).toNat) + (((oV tx ln (oS tx ln o9)) 3).toNat)) 12) (((oV tx ln (oS tx ln o9)) 2).toNat) (min ((((oV tx ln (oS tx ln o9)) 2).toNat) + (((oV tx ln (oS tx ln o9)) 4).toNat)) 12) (zI ((oV tx ln (oS tx ln o9)) 5))) S1 R1 N1 K1 L1))), (mt, .inl (cC, 60, .inl (tx))), (mq, .inl (cI, 6, .inl (od2_9))), (mh, .inl (cI, 2312, .inl (rcH Hs (mkM D1 S1 R1 N1 K1 L1) k))), (mo, .inl (cI, 144, .inl (ol3)))] H := hP
                    have hD : va_D (Ar) [(mm, .inr (5, [.ref mn, .ref mh, .int (nI (min (k + 1) 4)), .ref ms, .int fl, .ref mr, .ref md, .ref mo, .ref mc, .int (nI ln), .ref mt, .int (nI (((oRes tx ln (oS tx ln o9)).2) + 1)), .int nu2_8, .ref mq])), (mn, .inl (cI, 578, .inl (mkM (bxN f (((oV tx ln (oS tx ln o9)) 1).toNat) (min ((((oV tx ln (oS tx ln o9)) 1).toNat) + (((oV tx ln (oS tx ln o9)) 3).toNat)) 12) (((oV tx ln (oS tx ln o9)) 2).toNat) (min ((((oV tx ln (oS tx ln o9)) 2).toNat) + (((oV tx ln (oS tx ln o9)) 4).toNat)) 12) (zI ((oV tx ln (oS tx ln o9)) 5))) S1 R1 N1 K1 L1))), (mt, .inl (cC, 60, .inl (tx))), (mq, .inl (cI, 6, .inl (od2_9))), (mh, .inl (cI, 2312, .inl (rcH Hs (mkM D1 S1 R1 N1 K1 L1) k))), (mo, .inl (cI, 144, .inl (ol3)))] := hD
                    refine lv_pop hx hb dX5_paint_139 rfl ?_
                    refine lv_goto (tgt := 160) hx hb dX5_paint_140 (by decide) ?_
                    refine lv_iinc (v := nI (o9 + 1)) (lv' := [(2, .int (nI (o9 + 1))), (0, .ref mm), (1, .int (nI n9))]) hx hb dX5_paint_160 hl (k := 2) rfl (nI_add _ _) (by decide) rfl (fun ls hl => ?_)
                    refine lv_goto (tgt := 74) hx hb dX5_paint_163 (by decide) ?_
                    exact ih74 (o9 + 1) nu2_8 od2_9 (bxN f (((oV tx ln (oS tx ln o9)) 1).toNat) (min ((((oV tx ln (oS tx ln o9)) 1).toNat) + (((oV tx ln (oS tx ln o9)) 3).toNat)) 12) (((oV tx ln (oS tx ln o9)) 2).toNat) (min ((((oV tx ln (oS tx ln o9)) 2).toNat) + (((oV tx ln (oS tx ln o9)) 4).toNat)) 12) (zI ((oV tx ln (oS tx ln o9)) 5))) ol3 (by first | omega | assumption | rfl) (by rw [hi74_1]; show _ = oDo tx ln (oS tx ln o9) (oDs tx ln D1 o9); unfold oDo; first | (rw [if_pos htk]; rfl) | (rw [if_neg htk])) (by omega) H locs (hP.sub [0, 1, 4, 2, 3, 5] rfl) (hD.sub [0, 1, 4, 2, 3, 5] (by decide) rfl) hS ls (lv_sub hl [1, 2, 0] rfl)
                  · skip
                    have hoe : ptE tx ln o9 = stE (oV tx ln (oS tx ln o9) 1) (oV tx ln (oS tx ln o9) 2) := if_neg htk
                    have he9 := feQ_n n9 0 hfe9 o9 (Nat.zero_le _) (by omega)
                    rw [hoe] at he9
                    have hst := stE_0 he9
                    have wb1 := oV_b (k := 1) (hgd9 o9 (by omega)) (by unfold oK; rw [if_neg htk]; omega)
                    have wb2 := oV_b (k := 2) (hgd9 o9 (by omega)) (by unfold oK; rw [if_neg htk]; omega)
                    refine lv_aload_n hx hb dX5_paint_94 rfl (lv_at hl 0 rfl) ?_
                    refine va_get (v := .ref mq) (D := D) (ci := 5) (C := RX5) (T := TX5) (N := 14) hx hb hts (by decide +kernel) hown hK hP 0 rfl rfl 13 (by decide) (hts (.fieldLink RX5 35 "SpiralFramesModel" "order" "[I") (by decide +kernel)) (fun _ h9 => h9) rfl dX5_paint_95 ?_
                    refine lv_iconst (v := 0) hx hb dX5_paint_98 (by decide) ?_
                    refine x_eqi (show (0 : Int32) = nI 0 from by decide) ?_
                    refine x_iald hx hb hK hP 2 0 rfl rfl (k := 0) (by omega) (by decide) dX5_paint_99 ?_
                    refine x_eqi (show od2_9 0 = 115 from (by rw [hf80_2, if_neg htk])) ?_
                    refine lv_bipush (v := 98) hx hb dX5_paint_100 (by decide) ?_
                    refine lv_icmp_ne (tgt := 143) hx hb dX5_paint_102 (by decide) (fun _ => ?_) (fun h => False.elim (by revert h; decide))
                    refine lv_aload_n hx hb dX5_paint_143 rfl (lv_at hl 0 rfl) ?_
                    refine lv_aload_n hx hb dX5_paint_144 rfl (lv_at hl 0 rfl) ?_
                    refine va_get (v := .ref mq) (D := D) (ci := 5) (C := RX5) (T := TX5) (N := 14) hx hb hts (by decide +kernel) hown hK hP 0 rfl rfl 13 (by decide) (hts (.fieldLink RX5 35 "SpiralFramesModel" "order" "[I") (by decide +kernel)) (fun _ h9 => h9) rfl dX5_paint_145 ?_
                    refine lv_iconst (v := 1) hx hb dX5_paint_148 (by decide) ?_
                    refine x_eqi (show (1 : Int32) = nI 1 from by decide) ?_
                    refine x_iald hx hb hK hP 2 0 rfl rfl (k := 1) (by omega) (by decide) dX5_paint_149 ?_
                    refine x_eqi (show od2_9 1 = zI ((oV tx ln (oS tx ln o9)) 1) from (hf80_1 1 (by omega) (by unfold oK; rw [if_neg htk]; omega))) ?_
                    refine lv_aload_n hx hb dX5_paint_150 rfl (lv_at hl 0 rfl) ?_
                    refine va_get (v := .ref mq) (D := D) (ci := 5) (C := RX5) (T := TX5) (N := 14) hx hb hts (by decide +kernel) hown hK hP 0 rfl rfl 13 (by decide) (hts (.fieldLink RX5 35 "SpiralFramesModel" "order" "[I") (by decide +kernel)) (fun _ h9 => h9) rfl dX5_paint_151 ?_
                    refine lv_iconst (v := 2) hx hb dX5_paint_154 (by decide) ?_
                    refine x_eqi (show (2 : Int32) = nI 2 from by decide) ?_
                    refine x_iald hx hb hK hP 2 0 rfl rfl (k := 2) (by omega) (by decide) dX5_paint_155 ?_
                    refine x_eqi (show od2_9 2 = zI ((oV tx ln (oS tx ln o9)) 2) from (hf80_1 2 (by omega) (by unfold oK; rw [if_neg htk]; omega))) ?_
                    refine x_callWi (wc := [(mm, .inr (5, [.ref mn, .ref mh, .int (nI (min (k + 1) 4)), .ref ms, .int fl, .ref mr, .ref md, .ref mo, .ref mc, .int (nI ln), .ref mt, .int (nI (((oRes tx ln (oS tx ln o9)).2) + 1)), .int nu2_8, .ref mq])), (mn, .inl (cI, 578, .inl (mkM f S1 R1 N1 K1 L1))), (mo, .inl (cI, 144, .inl (ol3)))]) (wr := [(mt, .inl (cC, 60, .inl (tx))), (mq, .inl (cI, 6, .inl (od2_9))), (mh, .inl (cI, 2312, .inl (rcH Hs (mkM D1 S1 R1 N1 K1 L1) k)))]) (va_runV (As := [.int (zI ((oV tx ln (oS tx ln o9)) 1)), .int (zI ((oV tx ln (oS tx ln o9)) 2))]) (rest := []) ⟨hx, hb, hml, hown, hts⟩ (c_X5_shifts l D cI cC cS tt H.size mm mn mh ms mr md mo mc mt mq (nI (min (k + 1) 4)) fl (nI ln) (nI (((oRes tx ln (oS tx ln o9)).2) + 1)) nu2_8 f S1 R1 N1 K1 L1 ol3 (zI ((oV tx ln (oS tx ln o9)) 1)) ((oV tx ln (oS tx ln o9)) 1) (zI_toInt (by omega) (by omega)) (zI ((oV tx ln (oS tx ln o9)) 2)) ((oV tx ln (oS tx ln o9)) 2) (zI_toInt (by omega) (by omega)) (by first | omega | assumption | decide) (by first | omega | assumption | decide) (by first | omega | assumption | decide) (by first | omega | assumption | decide)) (cwV 2 hts gX5_paint_X5_shifts rfl rfl rfl (by decide +kernel) ⟨Nat.le_of_ble_eq_true rfl, Nat.le_of_ble_eq_true rfl⟩) ⟨x_blindW, va_recv hK hP (ci := 5) (q0 := 0) rfl rfl, x_preW hP hD hK hE hS hA [0, 3, 5] rfl (by decide)⟩ rfl rfl hl.1 rfl (lv_room (Nat.le_of_ble_eq_true rfl)) dX5_paint_156 ⟨(Nat.le_of_ble_eq_true rfl), (Nat.le_of_ble_eq_true rfl)⟩) hP hD hS hA [0, 3, 5] [1, 2, 4] rfl rfl (by decide) (by decide) (fun r_13 w1 H locs hw hP hD hS => ?_)
                    obtain ⟨ol2_14, rfl, rfl⟩ := hw
                    have hP : va_P D vwCl [(mm, .inr (5, [.ref mn, .ref mh, .int (nI (min (k + 1) 4)), .ref ms, .int fl, .ref mr, .ref md, .ref mo, .ref mc, .int (nI ln), .ref mt, .int (nI (((oRes tx ln (oS tx ln o9)).2) + 1)), .int nu2_8, .ref mq])), (mn, .inl (cI, 578, .inl (mkM (mvN f ((oV tx ln (oS tx ln o9)) 1) ((oV tx ln (oS tx ln o9)) 2)) S1 R1 N1 K1 L1))), (mo, .inl (cI, 144, .inl (ol2_14))), (mt, .inl (cC, 60, .inl (tx))), (mq, .inl (cI, 6, .inl (od2_9))), (mh, .inl (cI, 2312, .inl (rcH Hs (mkM D1 S1 R1 N1 K1 L1) k)))] H := hP
                    have hD : va_D (Ar) [(mm, .inr (5, [.ref mn, .ref mh, .int (nI (min (k + 1) 4)), .ref ms, .int fl, .ref mr, .ref md, .ref mo, .ref mc, .int (nI ln), .ref mt, .int (nI (((oRes tx ln (oS tx ln o9)).2) + 1)), .int nu2_8, .ref mq])), (mn, .inl (cI, 578, .inl (mkM (mvN f ((oV tx ln (oS tx ln o9)) 1) ((oV tx ln (oS tx ln o9)) 2)) S1 R1 N1 K1 L1))), (mo, .inl (cI, 144, .inl (ol2_14))), (mt, .inl (cC, 60, .inl (tx))), (mq, .inl (cI, 6, .inl (od2_9))), (mh, .inl (cI, 2312, .inl (rcH Hs (mkM D1 S1 R1 N1 K1 L1) k)))] := hD
                    refine lv_pop hx hb dX5_paint_159 rfl ?_
                    refine lv_iinc (v := nI (o9 + 1)) (lv' := [(2, .int (nI (o9 + 1))), (0, .ref mm), (1, .int (nI n9))]) hx hb dX5_paint_160 hl (k := 2) rfl (nI_add _ _) (by decide) rfl (fun ls hl => ?_)
                    refine lv_goto (tgt := 74) hx hb dX5_paint_163 (by decide) ?_
                    exact ih74 (o9 + 1) nu2_8 od2_9 (mvN f ((oV tx ln (oS tx ln o9)) 1) ((oV tx ln (oS tx ln o9)) 2)) ol2_14 (by first | omega | assumption | rfl) (by rw [hi74_1]; show _ = oDo tx ln (oS tx ln o9) (oDs tx ln D1 o9); unfold oDo; first | (rw [if_pos htk]; rfl) | (rw [if_neg htk])) (by omega) H locs (hP.sub [0, 1, 5, 3, 4, 2] rfl) (hD.sub [0, 1, 5, 3, 4, 2] (by decide) rfl) hS ls (lv_sub hl [1, 2, 0] rfl)
                · skip
                  exact absurd (hgd9 o9 (by omega)) (by rw [hf80_0]; exact Bool.false_ne_true)
          exact L74 _ 0 nu3 od3 D1 ol (by first | omega | assumption | rfl) rfl (Nat.lt_succ_self _) H locs (hP.sub [0, 1, 2, 3, 4, 5] rfl) (hD.sub [0, 1, 2, 3, 4, 5] (by decide) rfl) hS ls (lv_sub hl [1, 2, 0] rfl)
        · skip
          have e4 := oRes_4 (hgd9 o9 (by omega))
          refine lv_aload_n hx hb dX5_paint_31 rfl (lv_at hl 0 rfl) ?_
          refine x_callWi (wc := [(mm, .inr (5, [.ref mn, .ref mh, .int (nI k), .ref ms, .int fl, .ref mr, .ref md, .ref mo, .ref mc, .int (nI ln), .ref mt, .int (nI ((oS tx ln o9))), .int nu3, .ref mq])), (mt, .inl (cC, 60, .inl (tx))), (mq, .inl (cI, 6, .inl (od3)))]) (wr := [(mn, .inl (cI, 578, .inl (mkM D1 S1 R1 N1 K1 L1))), (mh, .inl (cI, 2312, .inl (Hs))), (mo, .inl (cI, 144, .inl (ol)))]) (va_runV (As := []) (rest := []) ⟨hx, hb, hml, hown, hts⟩ (c_X5_takesOrder l D cI cC cS tt H.size mm mn mh ms mr md mo mc mt mq ln (oS tx ln o9) (nI k) fl nu3 tx od3 (by first | omega | assumption | decide) (by first | omega | assumption | decide)) (cwV 0 hts gX5_paint_X5_takesOrder rfl rfl rfl (by decide +kernel) ⟨Nat.le_of_ble_eq_true rfl, Nat.le_of_ble_eq_true rfl⟩) ⟨x_blindW, va_recv hK hP (ci := 5) (q0 := 0) rfl rfl, x_preW hP hD hK hE hS hA [0, 3, 4] rfl (by decide)⟩ rfl rfl hl.1 rfl (lv_room (Nat.le_of_ble_eq_true rfl)) dX5_paint_32 ⟨(Nat.le_of_ble_eq_true rfl), (Nat.le_of_ble_eq_true rfl)⟩) hP hD hS hA [0, 3, 4] [1, 2, 5] rfl rfl (by decide) (by decide) (fun r_15 w1 H locs hw hP hD hS => ?_)
          rcases hw with ⟨nu2_16, od2_17, rfl, rfl, hf32_0, hf32_1, hf32_2⟩ | ⟨nu2_18, od2_19, rfl, rfl, hf32_0⟩
          · skip
            have hP : va_P D vwCl [(mm, .inr (5, [.ref mn, .ref mh, .int (nI k), .ref ms, .int fl, .ref mr, .ref md, .ref mo, .ref mc, .int (nI ln), .ref mt, .int (nI ((oRes tx ln (oS tx ln o9)).2)), .int nu2_16, .ref mq])), (mt, .inl (cC, 60, .inl (tx))), (mq, .inl (cI, 6, .inl (od2_17))), (mn, .inl (cI, 578, .inl (mkM D1 S1 R1 N1 K1 L1))), (mh, .inl (cI, 2312, .inl (Hs))), (mo, .inl (cI, 144, .inl (ol)))] H := hP
            have hD : va_D (Ar) [(mm, .inr (5, [.ref mn, .ref mh, .int (nI k), .ref ms, .int fl, .ref mr, .ref md, .ref mo, .ref mc, .int (nI ln), .ref mt, .int (nI ((oRes tx ln (oS tx ln o9)).2)), .int nu2_16, .ref mq])), (mt, .inl (cC, 60, .inl (tx))), (mq, .inl (cI, 6, .inl (od2_17))), (mn, .inl (cI, 578, .inl (mkM D1 S1 R1 N1 K1 L1))), (mh, .inl (cI, 2312, .inl (Hs))), (mo, .inl (cI, 144, .inl (ol)))] := hD
            refine lv_pop hx hb dX5_paint_35 rfl ?_
            refine lv_aload_n hx hb dX5_paint_36 rfl (lv_at hl 0 rfl) ?_
            refine lv_dup hx hb dX5_paint_37 rfl ?_
            refine va_get (v := .int (nI ((oRes tx ln (oS tx ln o9)).2))) (D := D) (ci := 5) (C := RX5) (T := TX5) (N := 14) hx hb hts (by decide +kernel) hown hK hP 0 rfl rfl 11 (by decide) (hts (.fieldLink RX5 123 "SpiralFramesModel" "at" "I") (by decide +kernel)) (fun _ h9 => h9) rfl dX5_paint_38 ?_
            refine lv_iconst (v := 1) hx hb dX5_paint_41 (by decide) ?_
            refine lv_iadd hx hb dX5_paint_42 ?_
            refine x_eqi (show nI ((oRes tx ln (oS tx ln o9)).2) + 1 = nI (((oRes tx ln (oS tx ln o9)).2) + 1) from nI_add ((oRes tx ln (oS tx ln o9)).2) 1) ?_
            refine va_put (v := .int (nI (((oRes tx ln (oS tx ln o9)).2) + 1))) (ty := .int) (D := D) (ci := 5) (C := RX5) (T := TX5) (N := 14) hx hb hts (by decide +kernel) tyX5 tyX5_ok nmX5 hown hK hP hD hS 0 rfl rfl 11 (by decide) (hts (.fieldLink RX5 123 "SpiralFramesModel" "at" "I") (by decide +kernel)) (fun _ h9 => h9) rfl (by decide +kernel) rfl rfl (Nat.le_of_ble_eq_true rfl) dX5_paint_43 (fun H locs hP hD hS => ?_)
            have hP : va_P D vwCl [(mm, .inr (5, [.ref mn, .ref mh, .int (nI k), .ref ms, .int fl, .ref mr, .ref md, .ref mo, .ref mc, .int (nI ln), .ref mt, .int (nI (((oRes tx ln (oS tx ln o9)).2) + 1)), .int nu2_16, .ref mq])), (mt, .inl (cC, 60, .inl (tx))), (mq, .inl (cI, 6, .inl (od2_17))), (mn, .inl (cI, 578, .inl (mkM D1 S1 R1 N1 K1 L1))), (mh, .inl (cI, 2312, .inl (Hs))), (mo, .inl (cI, 144, .inl (ol)))] H := hP
            have hD : va_D (Ar) [(mm, .inr (5, [.ref mn, .ref mh, .int (nI k), .ref ms, .int fl, .ref mr, .ref md, .ref mo, .ref mc, .int (nI ln), .ref mt, .int (nI (((oRes tx ln (oS tx ln o9)).2) + 1)), .int nu2_16, .ref mq])), (mt, .inl (cC, 60, .inl (tx))), (mq, .inl (cI, 6, .inl (od2_17))), (mn, .inl (cI, 578, .inl (mkM D1 S1 R1 N1 K1 L1))), (mh, .inl (cI, 2312, .inl (Hs))), (mo, .inl (cI, 144, .inl (ol)))] := hD
            by_cases htk : tk tx ln (oS tx ln o9) 98
            · skip
              have hoe : ptE tx ln o9 = bxE (oV tx ln (oS tx ln o9) 1) (oV tx ln (oS tx ln o9) 2) (oV tx ln (oS tx ln o9) 3) (oV tx ln (oS tx ln o9) 4) (oV tx ln (oS tx ln o9) 5) := if_pos htk
              refine lv_aload_n hx hb dX5_paint_46 rfl (lv_at hl 0 rfl) ?_
              refine x_callR (va_runV (As := []) (rest := []) ⟨hx, hb, hml, hown, hts⟩ (c_X5_wrongOrder_b l D cI cC cS tt mm mn mh ms mr md mo mc mt mq (nI k) fl (nI ln) (nI (((oRes tx ln (oS tx ln o9)).2) + 1)) nu2_16 od2_17 (oV tx ln (oS tx ln o9)) (fun k9 h8 h9 => hf32_1 k9 h8 (by unfold oK; rw [if_pos htk]; exact h9)) (fun k9 h8 h9 => oV_b (hgd9 o9 (by omega)) (by unfold oK; rw [if_pos htk]; exact h9)) (by rw [hf32_2, if_pos htk])) (cwV 0 hts gX5_paint_X5_wrongOrder rfl rfl rfl (by decide +kernel) ⟨Nat.le_of_ble_eq_true rfl, Nat.le_of_ble_eq_true rfl⟩) ⟨x_blindR, va_recv hK hP (ci := 5) (q0 := 0) rfl rfl, x_preR (hP.sub (ws' := [(mm, .inr (5, [.ref mn, .ref mh, .int (nI k), .ref ms, .int fl, .ref mr, .ref md, .ref mo, .ref mc, .int (nI ln), .ref mt, .int (nI (((oRes tx ln (oS tx ln o9)).2) + 1)), .int nu2_16, .ref mq])), (mq, .inl (cI, 6, .inl (od2_17)))]) [0, 2] rfl) hK hE hS⟩ rfl rfl hl.1 rfl (lv_room (Nat.le_of_ble_eq_true rfl)) dX5_paint_47 ⟨(Nat.le_of_ble_eq_true rfl), (Nat.le_of_ble_eq_true rfl)⟩) ?_
              refine lv_istore_n (lv' := [(3, .int (bxE ((oV tx ln (oS tx ln o9)) 1) ((oV tx ln (oS tx ln o9)) 2) ((oV tx ln (oS tx ln o9)) 3) ((oV tx ln (oS tx ln o9)) 4) ((oV tx ln (oS tx ln o9)) 5))), (0, .ref mm), (1, .int (nI n9)), (2, .int (nI o9))]) hx hb dX5_paint_50 rfl hl (by decide) rfl (fun ls hl => ?_)
              refine lv_iload_n hx hb dX5_paint_51 rfl (lv_at hl 0 rfl) ?_
              refine x_if_eq (tgt := 57) hx hb dX5_paint_52 (by decide) (X := (bxE ((oV tx ln (oS tx ln o9)) 1) ((oV tx ln (oS tx ln o9)) 2) ((oV tx ln (oS tx ln o9)) 3) ((oV tx ln (oS tx ln o9)) 4) ((oV tx ln (oS tx ln o9)) 5)).toInt) rfl (fun c_52 => ?_) (fun c_52 => ?_)
              · skip
                refine lv_iinc (v := nI (o9 + 1)) (lv' := [(2, .int (nI (o9 + 1))), (3, .int (bxE ((oV tx ln (oS tx ln o9)) 1) ((oV tx ln (oS tx ln o9)) 2) ((oV tx ln (oS tx ln o9)) 3) ((oV tx ln (oS tx ln o9)) 4) ((oV tx ln (oS tx ln o9)) 5))), (0, .ref mm), (1, .int (nI n9))]) hx hb dX5_paint_57 hl (k := 3) rfl (nI_add _ _) (by decide) rfl (fun ls hl => ?_)
                refine lv_goto (tgt := 26) hx hb dX5_paint_60 (by decide) ?_
                exact ih26 (o9 + 1) nu2_16 od2_17 (by first | omega | assumption | rfl) (by rw [hi26_1, feQ_0 (by omega) (by rw [hoe]; exact c_52), show n9 - o9 - 1 = n9 - (o9 + 1) by omega]) (by omega) H locs (hP.sub [0, 3, 4, 1, 2, 5] rfl) (hD.sub [0, 3, 4, 1, 2, 5] (by decide) rfl) hS ls (lv_sub hl [2, 3, 0] rfl)
              · skip
                refine lv_iload_n hx hb dX5_paint_55 rfl (lv_at hl 0 rfl) ?_
                refine x_iretW (w := [(mm, .inr (5, [.ref mn, .ref mh, .int (nI k), .ref ms, .int fl, .ref mr, .ref md, .ref mo, .ref mc, .int (nI ln), .ref mt, .int (nI (((oRes tx ln (oS tx ln o9)).2) + 1)), .int nu2_16, .ref mq])), (mn, .inl (cI, 578, .inl (mkM D1 S1 R1 N1 K1 L1))), (mh, .inl (cI, 2312, .inl (Hs))), (mt, .inl (cC, 60, .inl (tx))), (mq, .inl (cI, 6, .inl (od2_17))), (mo, .inl (cI, 144, .inl (ol)))]) hQ hAe hx hb hr hlocks (hP.sub [0, 3, 4, 1, 2, 5] rfl) (hD.sub [0, 3, 4, 1, 2, 5] (by decide) rfl) hS ?_ dX5_paint_56
                refine Or.inr (Or.inl ?_)
                exact ⟨_, _, _, by rw [← hf1_1, hi26_1, feQ_1 (by omega) (by rw [hoe]; exact c_52), hoe], rfl, hf1_0, by rw [← hf1_1, hi26_1, feQ_1 (by omega) (by rw [hoe]; exact c_52), hoe]; exact c_52⟩
            · skip
              have hoe : ptE tx ln o9 = stE (oV tx ln (oS tx ln o9) 1) (oV tx ln (oS tx ln o9) 2) := if_neg htk
              refine lv_aload_n hx hb dX5_paint_46 rfl (lv_at hl 0 rfl) ?_
              refine x_callR (va_runV (As := []) (rest := []) ⟨hx, hb, hml, hown, hts⟩ (c_X5_wrongOrder_s l D cI cC cS tt mm mn mh ms mr md mo mc mt mq (nI k) fl (nI ln) (nI (((oRes tx ln (oS tx ln o9)).2) + 1)) nu2_16 od2_17 (oV tx ln (oS tx ln o9)) (fun k9 h8 h9 => hf32_1 k9 h8 (by unfold oK; rw [if_neg htk]; exact h9)) (fun k9 h8 h9 => oV_b (hgd9 o9 (by omega)) (by unfold oK; rw [if_neg htk]; exact h9)) (by rw [hf32_2, if_neg htk])) (cwV 0 hts gX5_paint_X5_wrongOrder rfl rfl rfl (by decide +kernel) ⟨Nat.le_of_ble_eq_true rfl, Nat.le_of_ble_eq_true rfl⟩) ⟨x_blindR, va_recv hK hP (ci := 5) (q0 := 0) rfl rfl, x_preR (hP.sub (ws' := [(mm, .inr (5, [.ref mn, .ref mh, .int (nI k), .ref ms, .int fl, .ref mr, .ref md, .ref mo, .ref mc, .int (nI ln), .ref mt, .int (nI (((oRes tx ln (oS tx ln o9)).2) + 1)), .int nu2_16, .ref mq])), (mq, .inl (cI, 6, .inl (od2_17)))]) [0, 2] rfl) hK hE hS⟩ rfl rfl hl.1 rfl (lv_room (Nat.le_of_ble_eq_true rfl)) dX5_paint_47 ⟨(Nat.le_of_ble_eq_true rfl), (Nat.le_of_ble_eq_true rfl)⟩) ?_
              refine lv_istore_n (lv' := [(3, .int (stE ((oV tx ln (oS tx ln o9)) 1) ((oV tx ln (oS tx ln o9)) 2))), (0, .ref mm), (1, .int (nI n9)), (2, .int (nI o9))]) hx hb dX5_paint_50 rfl hl (by decide) rfl (fun ls hl => ?_)
              refine lv_iload_n hx hb dX5_paint_51 rfl (lv_at hl 0 rfl) ?_
              refine x_if_eq (tgt := 57) hx hb dX5_paint_52 (by decide) (X := (stE ((oV tx ln (oS tx ln o9)) 1) ((oV tx ln (oS tx ln o9)) 2)).toInt) rfl (fun c_52 => ?_) (fun c_52 => ?_)
              · skip
                refine lv_iinc (v := nI (o9 + 1)) (lv' := [(2, .int (nI (o9 + 1))), (3, .int (stE ((oV tx ln (oS tx ln o9)) 1) ((oV tx ln (oS tx ln o9)) 2))), (0, .ref mm), (1, .int (nI n9))]) hx hb dX5_paint_57 hl (k := 3) rfl (nI_add _ _) (by decide) rfl (fun ls hl => ?_)
                refine lv_goto (tgt := 26) hx hb dX5_paint_60 (by decide) ?_
                exact ih26 (o9 + 1) nu2_16 od2_17 (by first | omega | assumption | rfl) (by rw [hi26_1, feQ_0 (by omega) (by rw [hoe]; exact c_52), show n9 - o9 - 1 = n9 - (o9 + 1) by omega]) (by omega) H locs (hP.sub [0, 3, 4, 1, 2, 5] rfl) (hD.sub [0, 3, 4, 1, 2, 5] (by decide) rfl) hS ls (lv_sub hl [2, 3, 0] rfl)
              · skip
                refine lv_iload_n hx hb dX5_paint_55 rfl (lv_at hl 0 rfl) ?_
                refine x_iretW (w := [(mm, .inr (5, [.ref mn, .ref mh, .int (nI k), .ref ms, .int fl, .ref mr, .ref md, .ref mo, .ref mc, .int (nI ln), .ref mt, .int (nI (((oRes tx ln (oS tx ln o9)).2) + 1)), .int nu2_16, .ref mq])), (mn, .inl (cI, 578, .inl (mkM D1 S1 R1 N1 K1 L1))), (mh, .inl (cI, 2312, .inl (Hs))), (mt, .inl (cC, 60, .inl (tx))), (mq, .inl (cI, 6, .inl (od2_17))), (mo, .inl (cI, 144, .inl (ol)))]) hQ hAe hx hb hr hlocks (hP.sub [0, 3, 4, 1, 2, 5] rfl) (hD.sub [0, 3, 4, 1, 2, 5] (by decide) rfl) hS ?_ dX5_paint_56
                refine Or.inr (Or.inl ?_)
                exact ⟨_, _, _, by rw [← hf1_1, hi26_1, feQ_1 (by omega) (by rw [hoe]; exact c_52), hoe], rfl, hf1_0, by rw [← hf1_1, hi26_1, feQ_1 (by omega) (by rw [hoe]; exact c_52), hoe]; exact c_52⟩
          · skip
            exact absurd (hgd9 o9 (by omega)) (by rw [hf32_0]; exact Bool.false_ne_true)
    exact L26 _ 0 nu2_2 od2_3 (by first | omega | assumption | rfl) rfl (Nat.lt_succ_self _) H locs (hP.sub [0, 3, 4, 1, 2, 5] rfl) (hD.sub [0, 3, 4, 1, 2, 5] (by decide) rfl) hS ls (lv_sub hl [2, 1, 0] rfl)
  · skip
    have hP : va_P D vwCl [(mm, .inr (5, [.ref mn, .ref mh, .int (nI k), .ref ms, .int fl, .ref mr, .ref md, .ref mo, .ref mc, .int (nI ln), .ref mt, .int (nI ((tRes tx ln 13 0 0).2.1)), .int nu2_4, .ref mq])), (mt, .inl (cC, 60, .inl (tx))), (mq, .inl (cI, 6, .inl (od2_5))), (mn, .inl (cI, 578, .inl (mkM D1 S1 R1 N1 K1 L1))), (mh, .inl (cI, 2312, .inl (Hs))), (mo, .inl (cI, 144, .inl (ol)))] H := hP
    have hD : va_D (Ar) [(mm, .inr (5, [.ref mn, .ref mh, .int (nI k), .ref ms, .int fl, .ref mr, .ref md, .ref mo, .ref mc, .int (nI ln), .ref mt, .int (nI ((tRes tx ln 13 0 0).2.1)), .int nu2_4, .ref mq])), (mt, .inl (cC, 60, .inl (tx))), (mq, .inl (cI, 6, .inl (od2_5))), (mn, .inl (cI, 578, .inl (mkM D1 S1 R1 N1 K1 L1))), (mh, .inl (cI, 2312, .inl (Hs))), (mo, .inl (cI, 144, .inl (ol)))] := hD
    refine lv_istore_n (lv' := [(1, .int (-5)), (0, .ref mm)]) hx hb dX5_paint_4 rfl hl (by decide) rfl (fun ls hl => ?_)
    refine lv_iload_n hx hb dX5_paint_5 rfl (lv_at hl 0 rfl) ?_
    refine lv_bipush (v := (-5)) hx hb dX5_paint_6 (by decide) ?_
    refine lv_icmp_ne (tgt := 19) hx hb dX5_paint_8 (by decide) (fun h => False.elim (by revert h; decide)) (fun _ => ?_)
    refine lv_bipush (v := (-100)) hx hb dX5_paint_11 (by decide) ?_
    refine lv_aload_n hx hb dX5_paint_13 rfl (lv_at hl 1 rfl) ?_
    refine va_get (v := .int (nI ((tRes tx ln 13 0 0).2.1))) (D := D) (ci := 5) (C := RX5) (T := TX5) (N := 14) hx hb hts (by decide +kernel) hown hK hP 0 rfl rfl 11 (by decide) (hts (.fieldLink RX5 123 "SpiralFramesModel" "at" "I") (by decide +kernel)) (fun _ h9 => h9) rfl dX5_paint_14 ?_
    refine lv_isub hx hb dX5_paint_17 ?_
    refine x_iretW (w := [(mm, .inr (5, [.ref mn, .ref mh, .int (nI k), .ref ms, .int fl, .ref mr, .ref md, .ref mo, .ref mc, .int (nI ln), .ref mt, .int (nI ((tRes tx ln 13 0 0).2.1)), .int nu2_4, .ref mq])), (mn, .inl (cI, 578, .inl (mkM D1 S1 R1 N1 K1 L1))), (mh, .inl (cI, 2312, .inl (Hs))), (mt, .inl (cC, 60, .inl (tx))), (mq, .inl (cI, 6, .inl (od2_5))), (mo, .inl (cI, 144, .inl (ol)))]) hQ hAe hx hb hr hlocks (hP.sub [0, 3, 4, 1, 2, 5] rfl) (hD.sub [0, 3, 4, 1, 2, 5] (by decide) rfl) hS ?_ dX5_paint_18
    refine Or.inl ?_
    exact ⟨_, _, _, rfl, rfl, hf1_0⟩
