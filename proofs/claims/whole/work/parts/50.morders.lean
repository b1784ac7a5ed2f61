set_option maxHeartbeats 4000000 in
set_option maxRecDepth 100000 in
theorem c_X5_orders (l : Launch) (D : va_G) (cI cC cS : ClassId) (tt : Nat → Nat) (sz : Nat) (mm : Nat) (mn : Nat) (mh : Nat) (ms : Nat) (mr : Nat) (md : Nat) (mo : Nat) (mc : Nat) (mt : Nat) (mq : Nat) (ln : Nat) (kp : Int32) (fl : Int32) (at9 : Int32) (nu : Int32) (tx : Nat → Int32) (od : Nat → Int32) (hh0 : ln ≤ 60) : Met l yX5_orders wsX5_orders ({ frames := 4, cells := 0, slots := 0, locals := 86 } : Room) (x_PW D cI cC cS tt [(mm, .inr (5, [.ref mn, .ref mh, .int kp, .ref ms, .int fl, .ref mr, .ref md, .ref mo, .ref mc, .int (nI ln), .ref mt, .int at9, .int nu, .ref mq])), (mt, .inl (cC, 60, .inl (tx))), (mq, .inl (cI, 6, .inl (od)))] sz [.ref mm]) (x_QWi D [(mm, .inr (5, [.ref mn, .ref mh, .int kp, .ref ms, .int fl, .ref mr, .ref md, .ref mo, .ref mc, .int (nI ln), .ref mt, .int at9, .int nu, .ref mq])), (mt, .inl (cC, 60, .inl (tx))), (mq, .inl (cI, 6, .inl (od)))] sz (fun (r : Int32) (w : va_W) => (∃ (a9 n9 : Nat) (nu2 : Int32) (od2 : Nat → Int32), r = (nI n9) ∧ w = [(mm, .inr (5, [.ref mn, .ref mh, .int kp, .ref ms, .int fl, .ref mr, .ref md, .ref mo, .ref mc, .int (nI ln), .ref mt, .int (nI a9), .int nu2, .ref mq])), (mt, .inl (cC, 60, .inl (tx))), (mq, .inl (cI, 6, .inl (od2)))] ∧ ((tRes tx ln 13 0 0).1 = true) ∧ (n9 = (tRes tx ln 13 0 0).2.2) ∧ (1 ≤ n9 ∧ n9 ≤ 12)) ∨ (∃ (nu2 : Int32) (od2 : Nat → Int32), r = (-5) ∧ w = [(mm, .inr (5, [.ref mn, .ref mh, .int kp, .ref ms, .int fl, .ref mr, .ref md, .ref mo, .ref mc, .int (nI ln), .ref mt, .int (nI ((tRes tx ln 13 0 0).2.1)), .int nu2, .ref mq])), (mt, .inl (cC, 60, .inl (tx))), (mq, .inl (cI, 6, .inl (od2)))] ∧ ((tRes tx ln 13 0 0).1 = false) ∧ ((tRes tx ln 13 0 0).2.1 ≤ ln)))) 0 0 (va_A [(mm, .inr (5, [.ref mn, .ref mh, .int kp, .ref ms, .int fl, .ref mr, .ref md, .ref mo, .ref mc, .int (nI ln), .ref mt, .int at9, .int nu, .ref mq])), (mt, .inl (cC, 60, .inl (tx))), (mq, .inl (cI, 6, .inl (od)))] sz) := by
  refine Met.ofW (cc := cX5_orders) (maxL := 3) (ret := (some .int)) (by decide) rfl ?_
  intro p e s m args below meth c s₁ hBd hml hv
  obtain ⟨rfl, hsz, hP, hK, hD0, hE0⟩ := hv
  have hx := hBd.exec
  have hb := hBd.bytes
  have hr := hBd.returns
  have hts := atoms_spec (ws := wsX5_orders) hBd.pre
  have hown : s.vm.findClass RX5 = some m.cls := findClass_of_methodNamed hBd.named
  have hlocks := hBd.notSynchronized
  subst hsz
  obtain ⟨Ar, hAe⟩ : ∃ Ar : Nat → Prop, Ar = va_A [(mm, .inr (5, [.ref mn, .ref mh, .int kp, .ref ms, .int fl, .ref mr, .ref md, .ref mo, .ref mc, .int (nI ln), .ref mt, .int at9, .int nu, .ref mq])), (mt, .inl (cC, 60, .inl (tx))), (mq, .inl (cI, 6, .inl (od)))] s.heap.size := ⟨_, rfl⟩
  have hD : va_D Ar [(mm, .inr (5, [.ref mn, .ref mh, .int kp, .ref ms, .int fl, .ref mr, .ref md, .ref mo, .ref mc, .int (nI ln), .ref mt, .int at9, .int nu, .ref mq])), (mt, .inl (cC, 60, .inl (tx))), (mq, .inl (cI, 6, .inl (od)))] := by rw [hAe]; exact hD0.self
  have hA : ∀ q : Nat, s.heap.size ≤ q → Ar q := fun q h => by rw [hAe]; exact Or.inr h
  have hE : x_E tt Ar s := by rw [hAe]; exact hE0
  have hS : va_S Ar s.heap s.heap [] := va_S.rf
  have hl := lv_entry ([.ref mm]) (n := 3) (Nat.le_of_ble_eq_true rfl)
  rw [lg_entry_eq]
  generalize (lg_sl ([.ref mm]) ++ List.replicate (3 - (lg_sl ([.ref mm])).length) Slot.unset).toArray = ls at hl ⊢
  have hl : lv_has ls 3 [(0, .ref mm)] := hl
  refine x_genQ (fun Q hQ => ?_)
  refine lv_aload_n hx hb dX5_orders_0 rfl (lv_at hl 0 rfl) ?_
  refine lv_iconst (v := 0) hx hb dX5_orders_1 (by decide) ?_
  refine va_put (v := .int 0) (ty := .int) (D := D) (ci := 5) (C := RX5) (T := TX5) (N := 14) hx hb hts (by decide +kernel) tyX5 tyX5_ok nmX5 hown hK hP hD hS 0 rfl rfl 11 (by decide) (hts (.fieldLink RX5 123 "SpiralFramesModel" "at" "I") (by decide +kernel)) (fun _ h9 => h9) rfl (by decide +kernel) rfl rfl (Nat.le_of_ble_eq_true rfl) dX5_orders_2 (fun H locs hP hD hS => ?_)
  have hP : va_P D vwCl [(mm, .inr (5, [.ref mn, .ref mh, .int kp, .ref ms, .int fl, .ref mr, .ref md, .ref mo, .ref mc, .int (nI ln), .ref mt, .int 0, .int nu, .ref mq])), (mt, .inl (cC, 60, .inl (tx))), (mq, .inl (cI, 6, .inl (od)))] H := hP
  have hD : va_D (Ar) [(mm, .inr (5, [.ref mn, .ref mh, .int kp, .ref ms, .int fl, .ref mr, .ref md, .ref mo, .ref mc, .int (nI ln), .ref mt, .int 0, .int nu, .ref mq])), (mt, .inl (cC, 60, .inl (tx))), (mq, .inl (cI, 6, .inl (od)))] := hD
  refine lv_iconst (v := 0) hx hb dX5_orders_5 (by decide) ?_
  refine lv_istore_n (lv' := [(1, .int 0), (0, .ref mm)]) hx hb dX5_orders_6 rfl hl (by decide) rfl (fun ls hl => ?_)
  refine lv_iconst (v := 1) hx hb dX5_orders_7 (by decide) ?_
  refine lv_istore_n (lv' := [(2, .int 1), (1, .int 0), (0, .ref mm)]) hx hb dX5_orders_8 rfl hl (by decide) rfl (fun ls hl => ?_)
  refine lv_iload_n hx hb dX5_orders_9 rfl (lv_at hl 0 rfl) ?_
  refine lv_if_eq (tgt := 59) hx hb dX5_orders_10 (by decide) (fun h => False.elim (by revert h; decide)) (fun _ => ?_)
  have L13 : ∀ (fuel : Nat) (o9 : Nat) (a9 : Nat) (nu3 : Int32) (f : Nat → Int32), (o9 ≤ 12) → (5 * o9 ≤ a9 ∧ a9 ≤ ln) → (a9 = oS tx ln o9) → (tRes tx ln 13 0 0 = tRes tx ln (13 - o9) a9 o9) → 13 - o9 < fuel → ∀ (H : Heap) (locs : List Loc), va_P D vwCl [(mm, .inr (5, [.ref mn, .ref mh, .int kp, .ref ms, .int fl, .ref mr, .ref md, .ref mo, .ref mc, .int (nI ln), .ref mt, .int (nI a9), .int nu3, .ref mq])), (mt, .inl (cC, 60, .inl (tx))), (mq, .inl (cI, 6, .inl (f)))] H → va_D (Ar) [(mm, .inr (5, [.ref mn, .ref mh, .int kp, .ref ms, .int fl, .ref mr, .ref md, .ref mo, .ref mc, .int (nI ln), .ref mt, .int (nI a9), .int nu3, .ref mq])), (mt, .inl (cC, 60, .inl (tx))), (mq, .inl (cI, 6, .inl (f)))] → va_S (Ar) s.heap H locs → ∀ (ls : Array Slot), lv_has ls 3 [(0, .ref mm), (1, .int (nI o9)), (2, .int 1)] → W p l e (headSpec wsX5_orders ({ frames := 4, cells := 0, slots := 0, locals := 86 } : Room)).room s m ([.ref mm] : List Value).toArray below meth c H locs 0 0 Q (F0 m 13 ls []) := by
    intro fuel
    induction fuel with
    | zero =>
      intro o9 a9 nu3 f hi13_0 hi13_1 hi13_2 hi13_3 hfu
      exact absurd hfu (Nat.not_lt_zero _)
    | succ fuel ih13 =>
      intro o9 a9 nu3 f hi13_0 hi13_1 hi13_2 hi13_3 hfu13 H locs hP hD hS ls hl
      refine lv_aload_n hx hb dX5_orders_13 rfl (lv_at hl 0 rfl) ?_
      refine x_callWi (wc := [(mm, .inr (5, [.ref mn, .ref mh, .int kp, .ref ms, .int fl, .ref mr, .ref md, .ref mo, .ref mc, .int (nI ln), .ref mt, .int (nI a9), .int nu3, .ref mq])), (mt, .inl (cC, 60, .inl (tx))), (mq, .inl (cI, 6, .inl (f)))]) (wr := []) (va_runV (As := []) (rest := []) ⟨hx, hb, hml, hown, hts⟩ (c_X5_takesOrder l D cI cC cS tt H.size mm mn mh ms mr md mo mc mt mq ln a9 kp fl nu3 tx f (by first | omega | assumption | decide) (by first | omega | assumption | decide)) (cwV 0 hts gX5_orders_X5_takesOrder rfl rfl rfl (by decide +kernel) ⟨Nat.le_of_ble_eq_true rfl, Nat.le_of_ble_eq_true rfl⟩) ⟨x_blindW, va_recv hK hP (ci := 5) (q0 := 0) rfl rfl, x_preW hP hD hK hE hS hA [0, 1, 2] rfl (by decide)⟩ rfl rfl hl.1 rfl (lv_room (Nat.le_of_ble_eq_true rfl)) dX5_orders_14 ⟨(Nat.le_of_ble_eq_true rfl), (Nat.le_of_ble_eq_true rfl)⟩) hP hD hS hA [0, 1, 2] [] rfl rfl (by decide) (by decide) (fun r_1 w1 H locs hw hP hD hS => ?_)
      rcases hw with ⟨nu2_2, od2_3, rfl, rfl, hf14_0, hf14_1, hf14_2⟩ | ⟨nu2_4, od2_5, rfl, rfl, hf14_0⟩
      · skip
        have hP : va_P D vwCl [(mm, .inr (5, [.ref mn, .ref mh, .int kp, .ref ms, .int fl, .ref mr, .ref md, .ref mo, .ref mc, .int (nI ln), .ref mt, .int (nI ((oRes tx ln a9).2)), .int nu2_2, .ref mq])), (mt, .inl (cC, 60, .inl (tx))), (mq, .inl (cI, 6, .inl (od2_3)))] H := hP
        have hD : va_D (Ar) [(mm, .inr (5, [.ref mn, .ref mh, .int kp, .ref ms, .int fl, .ref mr, .ref md, .ref mo, .ref mc, .int (nI ln), .ref mt, .int (nI ((oRes tx ln a9).2)), .int nu2_2, .ref mq])), (mt, .inl (cC, 60, .inl (tx))), (mq, .inl (cI, 6, .inl (od2_3)))] := hD
        refine lv_if_ne (tgt := 23) hx hb dX5_orders_17 (by decide) (fun _ => ?_) (fun h => False.elim (by revert h; decide))
        refine lv_iinc (v := nI (o9 + 1)) (lv' := [(1, .int (nI (o9 + 1))), (0, .ref mm), (2, .int 1)]) hx hb dX5_orders_23 hl (k := 1) rfl (nI_add _ _) (by decide) rfl (fun ls hl => ?_)
        have e4 := oRes_4 hf14_0
        refine lv_aload_n hx hb dX5_orders_26 rfl (lv_at hl 1 rfl) ?_
        refine va_get (v := .int (nI ((oRes tx ln a9).2))) (D := D) (ci := 5) (C := RX5) (T := TX5) (N := 14) hx hb hts (by decide +kernel) hown hK hP 0 rfl rfl 11 (by decide) (hts (.fieldLink RX5 123 "SpiralFramesModel" "at" "I") (by decide +kernel)) (fun _ h9 => h9) rfl dX5_orders_27 ?_
        refine lv_aload_n hx hb dX5_orders_30 rfl (lv_at hl 1 rfl) ?_
        refine va_get (v := .int (nI ln)) (D := D) (ci := 5) (C := RX5) (T := TX5) (N := 14) hx hb hts (by decide +kernel) hown hK hP 0 rfl rfl 9 (by decide) (hts (.fieldLink RX5 120 "SpiralFramesModel" "typed" "I") (by decide +kernel)) (fun _ h9 => h9) rfl dX5_orders_31 ?_
        refine x_icmp_ge (tgt := 41) hx hb dX5_orders_34 (by decide) (X := (((oRes tx ln a9).2 : Nat) : Int)) (nI_toI (by omega)) (Y := ((ln : Nat) : Int)) (nI_toI (by omega)) (fun c_34 => ?_) (fun c_34 => ?_)
        · skip
          refine lv_iconst (v := 0) hx hb dX5_orders_41 (by decide) ?_
          refine lv_istore_n (lv' := [(2, .int 0), (1, .int (nI (o9 + 1))), (0, .ref mm)]) hx hb dX5_orders_42 rfl hl (by decide) rfl (fun ls hl => ?_)
          refine lv_iload_n hx hb dX5_orders_43 rfl (lv_at hl 0 rfl) ?_
          refine lv_if_eq (tgt := 9) hx hb dX5_orders_44 (by decide) (fun _ => ?_) (fun h => False.elim (by revert h; decide))
          refine lv_iload_n hx hb dX5_orders_9 rfl (lv_at hl 0 rfl) ?_
          refine lv_if_eq (tgt := 59) hx hb dX5_orders_10 (by decide) (fun _ => ?_) (fun h => False.elim (by revert h; decide))
          refine lv_iload_n hx hb dX5_orders_59 rfl (lv_at hl 1 rfl) ?_
          refine x_iretW (w := [(mm, .inr (5, [.ref mn, .ref mh, .int kp, .ref ms, .int fl, .ref mr, .ref md, .ref mo, .ref mc, .int (nI ln), .ref mt, .int (nI ((oRes tx ln a9).2)), .int nu2_2, .ref mq])), (mt, .inl (cC, 60, .inl (tx))), (mq, .inl (cI, 6, .inl (od2_3)))]) hQ hAe hx hb hr hlocks (hP.sub [0, 1, 2] rfl) (hD.sub [0, 1, 2] (by decide) rfl) hS ?_ dX5_orders_60
          refine Or.inl ?_
          have tr : tRes tx ln 13 0 0 = (true, (oRes tx ln a9).2, o9 + 1) := by rw [hi13_3, tRes_s (by omega), if_pos hf14_0, if_neg (by omega)]
          exact ⟨_, o9 + 1, nu2_2, od2_3, rfl, rfl, by rw [tr], by rw [tr], by omega⟩
        · skip
          refine lv_iconst (v := 1) hx hb dX5_orders_37 (by decide) ?_
          refine lv_goto (tgt := 42) hx hb dX5_orders_38 (by decide) ?_
          refine lv_istore_n (lv' := [(2, .int 1), (1, .int (nI (o9 + 1))), (0, .ref mm)]) hx hb dX5_orders_42 rfl hl (by decide) rfl (fun ls hl => ?_)
          refine lv_iload_n hx hb dX5_orders_43 rfl (lv_at hl 0 rfl) ?_
          refine lv_if_eq (tgt := 9) hx hb dX5_orders_44 (by decide) (fun h => False.elim (by revert h; decide)) (fun _ => ?_)
          refine lv_aload_n hx hb dX5_orders_47 rfl (lv_at hl 2 rfl) ?_
          refine lv_bipush (v := 59) hx hb dX5_orders_48 (by decide) ?_
          refine x_callWi (wc := [(mm, .inr (5, [.ref mn, .ref mh, .int kp, .ref ms, .int fl, .ref mr, .ref md, .ref mo, .ref mc, .int (nI ln), .ref mt, .int (nI (((oRes tx ln a9).2))), .int nu2_2, .ref mq])), (mt, .inl (cC, 60, .inl (tx)))]) (wr := [(mq, .inl (cI, 6, .inl (od2_3)))]) (va_runV (As := [.int 59]) (rest := []) ⟨hx, hb, hml, hown, hts⟩ (c_X5_takes l D cI cC cS tt H.size mm mn mh ms mr md mo mc mt mq ln ((oRes tx ln a9).2) kp fl nu2_2 tx 59 59 (show (59 : Int32).toInt = 59 from by decide) (by first | omega | assumption | decide) (by first | omega | assumption | decide)) (cwV 1 hts gX5_orders_X5_takes rfl rfl rfl (by decide +kernel) ⟨Nat.le_of_ble_eq_true rfl, Nat.le_of_ble_eq_true rfl⟩) ⟨x_blindW, va_recv hK hP (ci := 5) (q0 := 0) rfl rfl, x_preW hP hD hK hE hS hA [0, 1] rfl (by decide)⟩ rfl rfl hl.1 rfl (lv_room (Nat.le_of_ble_eq_true rfl)) dX5_orders_50 ⟨(Nat.le_of_ble_eq_true rfl), (Nat.le_of_ble_eq_true rfl)⟩) hP hD hS hA [0, 1] [2] rfl rfl (by decide) (by decide) (fun r_6 w1 H locs hw hP hD hS => ?_)
          rcases hw with ⟨rfl, rfl, hf50_0⟩ | ⟨rfl, rfl, hf50_0⟩
          · skip
            have hP : va_P D vwCl [(mm, .inr (5, [.ref mn, .ref mh, .int kp, .ref ms, .int fl, .ref mr, .ref md, .ref mo, .ref mc, .int (nI ln), .ref mt, .int (nI (((oRes tx ln a9).2) + 1)), .int nu2_2, .ref mq])), (mt, .inl (cC, 60, .inl (tx))), (mq, .inl (cI, 6, .inl (od2_3)))] H := hP
            have hD : va_D (Ar) [(mm, .inr (5, [.ref mn, .ref mh, .int kp, .ref ms, .int fl, .ref mr, .ref md, .ref mo, .ref mc, .int (nI ln), .ref mt, .int (nI (((oRes tx ln a9).2) + 1)), .int nu2_2, .ref mq])), (mt, .inl (cC, 60, .inl (tx))), (mq, .inl (cI, 6, .inl (od2_3)))] := hD
            refine lv_if_ne (tgt := 9) hx hb dX5_orders_53 (by decide) (fun _ => ?_) (fun h => False.elim (by revert h; decide))
            refine lv_iload_n hx hb dX5_orders_9 rfl (lv_at hl 0 rfl) ?_
            refine lv_if_eq (tgt := 59) hx hb dX5_orders_10 (by decide) (fun h => False.elim (by revert h; decide)) (fun _ => ?_)
            exact ih13 (o9 + 1) (((oRes tx ln a9).2) + 1) nu2_2 od2_3 (by have e4 := oRes_4 hf14_0; omega) (by have e4 := oRes_4 hf14_0; omega) (by show _ = (oRes tx ln (oS tx ln o9)).2 + 1; rw [← hi13_2]) (by have e4 := oRes_4 hf14_0; rw [hi13_3, tRes_s (by omega), if_pos hf14_0, if_pos (by omega), if_pos hf50_0, show 13 - o9 - 1 = 13 - (o9 + 1) by omega]) (by have e4 := oRes_4 hf14_0; omega) H locs (hP.sub [0, 1, 2] rfl) (hD.sub [0, 1, 2] (by decide) rfl) hS ls (lv_sub hl [2, 1, 0] rfl)
          · skip
            have hP : va_P D vwCl [(mm, .inr (5, [.ref mn, .ref mh, .int kp, .ref ms, .int fl, .ref mr, .ref md, .ref mo, .ref mc, .int (nI ln), .ref mt, .int (nI (((oRes tx ln a9).2))), .int nu2_2, .ref mq])), (mt, .inl (cC, 60, .inl (tx))), (mq, .inl (cI, 6, .inl (od2_3)))] H := hP
            have hD : va_D (Ar) [(mm, .inr (5, [.ref mn, .ref mh, .int kp, .ref ms, .int fl, .ref mr, .ref md, .ref mo, .ref mc, .int (nI ln), .ref mt, .int (nI (((oRes tx ln a9).2))), .int nu2_2, .ref mq])), (mt, .inl (cC, 60, .inl (tx))), (mq, .inl (cI, 6, .inl (od2_3)))] := hD
            refine lv_if_ne (tgt := 9) hx hb dX5_orders_53 (by decide) (fun h => False.elim (by revert h; decide)) (fun _ => ?_)
            refine lv_bipush (v := (-5)) hx hb dX5_orders_56 (by decide) ?_
            refine x_iretW (w := [(mm, .inr (5, [.ref mn, .ref mh, .int kp, .ref ms, .int fl, .ref mr, .ref md, .ref mo, .ref mc, .int (nI ln), .ref mt, .int (nI (((oRes tx ln a9).2))), .int nu2_2, .ref mq])), (mt, .inl (cC, 60, .inl (tx))), (mq, .inl (cI, 6, .inl (od2_3)))]) hQ hAe hx hb hr hlocks (hP.sub [0, 1, 2] rfl) (hD.sub [0, 1, 2] (by decide) rfl) hS ?_ dX5_orders_58
            refine Or.inr (?_)
            have tr : tRes tx ln 13 0 0 = (false, (oRes tx ln a9).2, o9 + 1) := by rw [hi13_3, tRes_s (by omega), if_pos hf14_0, if_pos (by omega), if_neg hf50_0]
            exact ⟨nu2_2, od2_3, rfl, by rw [tr], by rw [tr], by rw [tr]; exact (oRes_4 hf14_0).2⟩
      · skip
        have hP : va_P D vwCl [(mm, .inr (5, [.ref mn, .ref mh, .int kp, .ref ms, .int fl, .ref mr, .ref md, .ref mo, .ref mc, .int (nI ln), .ref mt, .int (nI ((oRes tx ln a9).2)), .int nu2_4, .ref mq])), (mt, .inl (cC, 60, .inl (tx))), (mq, .inl (cI, 6, .inl (od2_5)))] H := hP
        have hD : va_D (Ar) [(mm, .inr (5, [.ref mn, .ref mh, .int kp, .ref ms, .int fl, .ref mr, .ref md, .ref mo, .ref mc, .int (nI ln), .ref mt, .int (nI ((oRes tx ln a9).2)), .int nu2_4, .ref mq])), (mt, .inl (cC, 60, .inl (tx))), (mq, .inl (cI, 6, .inl (od2_5)))] := hD
        refine lv_if_ne (tgt := 23) hx hb dX5_orders_17 (by decide) (fun h => False.elim (by revert h; decide)) (fun _ => ?_)
        refine lv_bipush (v := (-5)) hx hb dX5_orders_20 (by decide) ?_
        refine x_iretW (w := [(mm, .inr (5, [.ref mn, .ref mh, .int kp, .ref ms, .int fl, .ref mr, .ref md, .ref mo, .ref mc, .int (nI ln), .ref mt, .int (nI ((oRes tx ln a9).2)), .int nu2_4, .ref mq])), (mt, .inl (cC, 60, .inl (tx))), (mq, .inl (cI, 6, .inl (od2_5)))]) hQ hAe hx hb hr hlocks (hP.sub [0, 1, 2] rfl) (hD.sub [0, 1, 2] (by decide) rfl) hS ?_ dX5_orders_22
        refine Or.inr (?_)
        have tr : tRes tx ln 13 0 0 = (false, (oRes tx ln a9).2, o9) := by rw [hi13_3, tRes_s (by omega), if_neg (by rw [hf14_0]; exact Bool.false_ne_true)]
        exact ⟨nu2_4, od2_5, rfl, by rw [tr], by rw [tr], by rw [tr]; exact oRes_le (by omega)⟩
  exact L13 _ 0 0 nu od (by first | omega | assumption | rfl) (by omega) rfl rfl (Nat.lt_succ_self _) H locs (hP.sub [0, 1, 2] rfl) (hD.sub [0, 1, 2] (by decide) rfl) hS ls (lv_sub hl [2, 1, 0] rfl)
set_option maxHeartbeats 4000000 in
set_option maxRecDepth 100000 in
theorem c_X5_wrongOrder_b (l : Launch) (D : va_G) (cI cC cS : ClassId) (tt : Nat → Nat) (mm : Nat) (mn : Nat) (mh : Nat) (ms : Nat) (mr : Nat) (md : Nat) (mo : Nat) (mc : Nat) (mt : Nat) (mq : Nat) (kp : Int32) (fl : Int32) (ty : Int32) (at9 : Int32) (nu : Int32) (od : Nat → Int32) (w9 : Nat → Int) (hh0 : ∀ k9, 1 ≤ k9 → k9 < 6 → od k9 = zI (w9 k9)) (hh1 : ∀ k9, 1 ≤ k9 → k9 < 6 → -99 ≤ w9 k9 ∧ w9 k9 ≤ 99) (hh2 : od 0 = 98) : Met l yX5_wrongOrder wsX5_wrongOrder ({ frames := 3, cells := 0, slots := 0, locals := 67 } : Room) (x_PR D cI cC cS tt [(mm, .inr (5, [.ref mn, .ref mh, .int kp, .ref ms, .int fl, .ref mr, .ref md, .ref mo, .ref mc, .int ty, .ref mt, .int at9, .int nu, .ref mq])), (mq, .inl (cI, 6, .inl (od)))] [.ref mm]) (QcRead (bxE (w9 1) (w9 2) (w9 3) (w9 4) (w9 5))) 0 0 (fun _ => False) := by
  refine Met.ofW (cc := cX5_wrongOrder) (maxL := 1) (ret := (some .int)) (by decide) rfl ?_
  intro p e s m args below meth c s₁ hBd hml hv
  obtain ⟨rfl, hP, hK, hE⟩ := hv
  have hx := hBd.exec
  have hb := hBd.bytes
  have hr := hBd.returns
  have hts := atoms_spec (ws := wsX5_wrongOrder) hBd.pre
  have hown : s.vm.findClass RX5 = some m.cls := findClass_of_methodNamed hBd.named
  have hlocks := hBd.notSynchronized
  have hS : va_S (fun _ => False) s.heap s.heap [] := va_S.rf
  have hl := lv_entry ([.ref mm]) (n := 1) (Nat.le_of_ble_eq_true rfl)
  rw [lg_entry_eq]
  generalize (lg_sl ([.ref mm]) ++ List.replicate (1 - (lg_sl ([.ref mm])).length) Slot.unset).toArray = ls at hl ⊢
  have hl : lv_has ls 1 [(0, .ref mm)] := hl
  refine x_genQ (fun Q hQ => ?_)
  have wb1 := hh1 1 (by omega) (by omega)
  have wb2 := hh1 2 (by omega) (by omega)
  have wb3 := hh1 3 (by omega) (by omega)
  have wb4 := hh1 4 (by omega) (by omega)
  have wb5 := hh1 5 (by omega) (by omega)
  refine lv_aload_n hx hb dX5_wrongOrder_0 rfl (lv_at hl 0 rfl) ?_
  refine va_get (v := .ref mq) (D := D) (ci := 5) (C := RX5) (T := TX5) (N := 14) hx hb hts (by decide +kernel) hown hK hP 0 rfl rfl 13 (by decide) (hts (.fieldLink RX5 35 "SpiralFramesModel" "order" "[I") (by decide +kernel)) (fun _ h9 => h9) rfl dX5_wrongOrder_1 ?_
  refine lv_iconst (v := 0) hx hb dX5_wrongOrder_4 (by decide) ?_
  refine x_eqi (show (0 : Int32) = nI 0 from by decide) ?_
  refine x_iald hx hb hK hP 1 0 rfl rfl (k := 0) (by omega) (by decide) dX5_wrongOrder_5 ?_
  refine x_eqi (show od 0 = 98 from hh2) ?_
  refine lv_bipush (v := 98) hx hb dX5_wrongOrder_6 (by decide) ?_
  refine lv_icmp_ne (tgt := 47) hx hb dX5_wrongOrder_8 (by decide) (fun h => False.elim (by revert h; decide)) (fun _ => ?_)
  refine lv_aload_n hx hb dX5_wrongOrder_11 rfl (lv_at hl 0 rfl) ?_
  refine va_get (v := .ref mq) (D := D) (ci := 5) (C := RX5) (T := TX5) (N := 14) hx hb hts (by decide +kernel) hown hK hP 0 rfl rfl 13 (by decide) (hts (.fieldLink RX5 35 "SpiralFramesModel" "order" "[I") (by decide +kernel)) (fun _ h9 => h9) rfl dX5_wrongOrder_12 ?_
  refine lv_iconst (v := 1) hx hb dX5_wrongOrder_15 (by decide) ?_
  refine x_eqi (show (1 : Int32) = nI 1 from by decide) ?_
  refine x_iald hx hb hK hP 1 0 rfl rfl (k := 1) (by omega) (by decide) dX5_wrongOrder_16 ?_
  refine x_eqi (show od 1 = zI (w9 1) from hh0 1 (by omega) (by omega)) ?_
  refine lv_aload_n hx hb dX5_wrongOrder_17 rfl (lv_at hl 0 rfl) ?_
  refine va_get (v := .ref mq) (D := D) (ci := 5) (C := RX5) (T := TX5) (N := 14) hx hb hts (by decide +kernel) hown hK hP 0 rfl rfl 13 (by decide) (hts (.fieldLink RX5 35 "SpiralFramesModel" "order" "[I") (by decide +kernel)) (fun _ h9 => h9) rfl dX5_wrongOrder_18 ?_
  refine lv_iconst (v := 2) hx hb dX5_wrongOrder_21 (by decide) ?_
  refine x_eqi (show (2 : Int32) = nI 2 from by decide) ?_
  refine x_iald hx hb hK hP 1 0 rfl rfl (k := 2) (by omega) (by decide) dX5_wrongOrder_22 ?_
  refine x_eqi (show od 2 = zI (w9 2) from hh0 2 (by omega) (by omega)) ?_
  refine lv_aload_n hx hb dX5_wrongOrder_23 rfl (lv_at hl 0 rfl) ?_
  refine va_get (v := .ref mq) (D := D) (ci := 5) (C := RX5) (T := TX5) (N := 14) hx hb hts (by decide +kernel) hown hK hP 0 rfl rfl 13 (by decide) (hts (.fieldLink RX5 35 "SpiralFramesModel" "order" "[I") (by decide +kernel)) (fun _ h9 => h9) rfl dX5_wrongOrder_24 ?_
  refine lv_iconst (v := 3) hx hb dX5_wrongOrder_27 (by decide) ?_
  refine x_eqi (show (3 : Int32) = nI 3 from by decide) ?_
  refine x_iald hx hb hK hP 1 0 rfl rfl (k := 3) (by omega) (by decide) dX5_wrongOrder_28 ?_
  refine x_eqi (show od 3 = zI (w9 3) from hh0 3 (by omega) (by omega)) ?_
  refine lv_aload_n hx hb dX5_wrongOrder_29 rfl (lv_at hl 0 rfl) ?_
  refine va_get (v := .ref mq) (D := D) (ci := 5) (C := RX5) (T := TX5) (N := 14) hx hb hts (by decide +kernel) hown hK hP 0 rfl rfl 13 (by decide) (hts (.fieldLink RX5 35 "SpiralFramesModel" "order" "[I") (by decide +kernel)) (fun _ h9 => h9) rfl dX5_wrongOrder_30 ?_
  refine lv_iconst (v := 4) hx hb dX5_wrongOrder_33 (by decide) ?_
  refine x_eqi (show (4 : Int32) = nI 4 from by decide) ?_
  refine x_iald hx hb hK hP 1 0 rfl rfl (k := 4) (by omega) (by decide) dX5_wrongOrder_34 ?_
  refine x_eqi (show od 4 = zI (w9 4) from hh0 4 (by omega) (by omega)) ?_
  refine lv_aload_n hx hb dX5_wrongOrder_35 rfl (lv_at hl 0 rfl) ?_
  refine va_get (v := .ref mq) (D := D) (ci := 5) (C := RX5) (T := TX5) (N := 14) hx hb hts (by decide +kernel) hown hK hP 0 rfl rfl 13 (by decide) (hts (.fieldLink RX5 35 "SpiralFramesModel" "order" "[I") (by decide +kernel)) (fun _ h9 => h9) rfl dX5_wrongOrder_36 ?_
  refine lv_iconst (v := 5) hx hb dX5_wrongOrder_39 (by decide) ?_
  refine x_eqi (show (5 : Int32) = nI 5 from by decide) ?_
  refine x_iald hx hb hK hP 1 0 rfl rfl (k := 5) (by omega) (by decide) dX5_wrongOrder_40 ?_
  refine x_eqi (show od 5 = zI (w9 5) from hh0 5 (by omega) (by omega)) ?_
  refine x_callR (va_runS (As := [.int (zI (w9 1)), .int (zI (w9 2)), .int (zI (w9 3)), .int (zI (w9 4)), .int (zI (w9 5))]) (rest := []) ⟨hx, hb, hml, hown, hts⟩ (c_X5_wrongFill l D cI cC cS tt (zI (w9 1)) (w9 1) (zI_toInt (by omega) (by omega)) (zI (w9 2)) (w9 2) (zI_toInt (by omega) (by omega)) (zI (w9 3)) (w9 3) (zI_toInt (by omega) (by omega)) (zI (w9 4)) (w9 4) (zI_toInt (by omega) (by omega)) (zI (w9 5)) (w9 5) (zI_toInt (by omega) (by omega))) (va_cwS 5 hts gX5_wrongOrder_X5_wrongFill rfl rfl rfl (by decide +kernel) ⟨Nat.le_of_ble_eq_true rfl, Nat.le_of_ble_eq_true rfl⟩) ⟨x_blindR, x_preR (hP.sub (ws' := []) [] rfl) hK hE hS⟩ rfl rfl hl.1 rfl (lv_room (Nat.le_of_ble_eq_true rfl)) dX5_wrongOrder_41 ⟨(Nat.le_of_ble_eq_true rfl), (Nat.le_of_ble_eq_true rfl)⟩) ?_
  refine lv_goto (tgt := 71) hx hb dX5_wrongOrder_44 (by decide) ?_
  exact x_iretR hQ hx hb hr hlocks rfl dX5_wrongOrder_71
set_option maxHeartbeats 4000000 in
set_option maxRecDepth 100000 in
theorem c_X5_wrongOrder_s (l : Launch) (D : va_G) (cI cC cS : ClassId) (tt : Nat → Nat) (mm : Nat) (mn : Nat) (mh : Nat) (ms : Nat) (mr : Nat) (md : Nat) (mo : Nat) (mc : Nat) (mt : Nat) (mq : Nat) (kp : Int32) (fl : Int32) (ty : Int32) (at9 : Int32) (nu : Int32) (od : Nat → Int32) (w9 : Nat → Int) (hh0 : ∀ k9, 1 ≤ k9 → k9 < 3 → od k9 = zI (w9 k9)) (hh1 : ∀ k9, 1 ≤ k9 → k9 < 3 → -99 ≤ w9 k9 ∧ w9 k9 ≤ 99) (hh2 : od 0 = 115) : Met l yX5_wrongOrder wsX5_wrongOrder ({ frames := 2, cells := 0, slots := 0, locals := 43 } : Room) (x_PR D cI cC cS tt [(mm, .inr (5, [.ref mn, .ref mh, .int kp, .ref ms, .int fl, .ref mr, .ref md, .ref mo, .ref mc, .int ty, .ref mt, .int at9, .int nu, .ref mq])), (mq, .inl (cI, 6, .inl (od)))] [.ref mm]) (QcRead (stE (w9 1) (w9 2))) 0 0 (fun _ => False) := by
  refine Met.ofW (cc := cX5_wrongOrder) (maxL := 1) (ret := (some .int)) (by decide) rfl ?_
  intro p e s m args below meth c s₁ hBd hml hv
  obtain ⟨rfl, hP, hK, hE⟩ := hv
  have hx := hBd.exec
  have hb := hBd.bytes
  have hr := hBd.returns
  have hts := atoms_spec (ws := wsX5_wrongOrder) hBd.pre
  have hown : s.vm.findClass RX5 = some m.cls := findClass_of_methodNamed hBd.named
  have hlocks := hBd.notSynchronized
  have hS : va_S (fun _ => False) s.heap s.heap [] := va_S.rf
  have hl := lv_entry ([.ref mm]) (n := 1) (Nat.le_of_ble_eq_true rfl)
  rw [lg_entry_eq]
  generalize (lg_sl ([.ref mm]) ++ List.replicate (1 - (lg_sl ([.ref mm])).length) Slot.unset).toArray = ls at hl ⊢
  have hl : lv_has ls 1 [(0, .ref mm)] := hl
  refine x_genQ (fun Q hQ => ?_)
  have wb1 := hh1 1 (by omega) (by omega)
  have wb2 := hh1 2 (by omega) (by omega)
  refine lv_aload_n hx hb dX5_wrongOrder_0 rfl (lv_at hl 0 rfl) ?_
  refine va_get (v := .ref mq) (D := D) (ci := 5) (C := RX5) (T := TX5) (N := 14) hx hb hts (by decide +kernel) hown hK hP 0 rfl rfl 13 (by decide) (hts (.fieldLink RX5 35 "SpiralFramesModel" "order" "[I") (by decide +kernel)) (fun _ h9 => h9) rfl dX5_wrongOrder_1 ?_
  refine lv_iconst (v := 0) hx hb dX5_wrongOrder_4 (by decide) ?_
  refine x_eqi (show (0 : Int32) = nI 0 from by decide) ?_
  refine x_iald hx hb hK hP 1 0 rfl rfl (k := 0) (by omega) (by decide) dX5_wrongOrder_5 ?_
  refine x_eqi (show od 0 = 115 from hh2) ?_
  refine lv_bipush (v := 98) hx hb dX5_wrongOrder_6 (by decide) ?_
  refine lv_icmp_ne (tgt := 47) hx hb dX5_wrongOrder_8 (by decide) (fun _ => ?_) (fun h => False.elim (by revert h; decide))
  refine lv_aload_n hx hb dX5_wrongOrder_47 rfl (lv_at hl 0 rfl) ?_
  refine va_get (v := .ref mq) (D := D) (ci := 5) (C := RX5) (T := TX5) (N := 14) hx hb hts (by decide +kernel) hown hK hP 0 rfl rfl 13 (by decide) (hts (.fieldLink RX5 35 "SpiralFramesModel" "order" "[I") (by decide +kernel)) (fun _ h9 => h9) rfl dX5_wrongOrder_48 ?_
  refine lv_iconst (v := 1) hx hb dX5_wrongOrder_51 (by decide) ?_
  refine x_eqi (show (1 : Int32) = nI 1 from by decide) ?_
  refine x_iald hx hb hK hP 1 0 rfl rfl (k := 1) (by omega) (by decide) dX5_wrongOrder_52 ?_
  refine x_eqi (show od 1 = zI (w9 1) from hh0 1 (by omega) (by omega)) ?_
  refine lv_aload_n hx hb dX5_wrongOrder_53 rfl (lv_at hl 0 rfl) ?_
  refine va_get (v := .ref mq) (D := D) (ci := 5) (C := RX5) (T := TX5) (N := 14) hx hb hts (by decide +kernel) hown hK hP 0 rfl rfl 13 (by decide) (hts (.fieldLink RX5 35 "SpiralFramesModel" "order" "[I") (by decide +kernel)) (fun _ h9 => h9) rfl dX5_wrongOrder_54 ?_
  refine lv_iconst (v := 2) hx hb dX5_wrongOrder_57 (by decide) ?_
  refine x_eqi (show (2 : Int32) = nI 2 from by decide) ?_
  refine x_iald hx hb hK hP 1 0 rfl rfl (k := 2) (by omega) (by decide) dX5_wrongOrder_58 ?_
  refine x_eqi (show od 2 = zI (w9 2) from hh0 2 (by omega) (by omega)) ?_
  refine x_callR (va_runS (As := [.int (zI (w9 1)), .int (zI (w9 2))]) (rest := []) ⟨hx, hb, hml, hown, hts⟩ (c_X5_isShift l D cI cC cS tt (zI (w9 1)) (w9 1) (zI_toInt (by omega) (by omega)) (zI (w9 2)) (w9 2) (zI_toInt (by omega) (by omega))) (va_cwS 2 hts gX5_wrongOrder_X5_isShift rfl rfl rfl (by decide +kernel) ⟨Nat.le_of_ble_eq_true rfl, Nat.le_of_ble_eq_true rfl⟩) ⟨x_blindR, x_preR (hP.sub (ws' := []) [] rfl) hK hE hS⟩ rfl rfl hl.1 rfl (lv_room (Nat.le_of_ble_eq_true rfl)) dX5_wrongOrder_59 ⟨(Nat.le_of_ble_eq_true rfl), (Nat.le_of_ble_eq_true rfl)⟩) ?_
  refine x_ifB_eq (tgt := 69) hx hb dX5_wrongOrder_62 (by decide) (fun c_62 => ?_) (fun c_62 => ?_)
  · skip
    refine lv_bipush (v := (-2)) hx hb dX5_wrongOrder_69 (by decide) ?_
    exact x_iretR hQ hx hb hr hlocks (by unfold stE; first | rw [if_pos (by omega)] | rw [if_neg (by omega)]) dX5_wrongOrder_71
  · skip
    refine lv_iconst (v := 0) hx hb dX5_wrongOrder_65 (by decide) ?_
    refine lv_goto (tgt := 71) hx hb dX5_wrongOrder_66 (by decide) ?_
    exact x_iretR hQ hx hb hr hlocks (by unfold stE; first | rw [if_pos (by omega)] | rw [if_neg (by omega)]) dX5_wrongOrder_71
