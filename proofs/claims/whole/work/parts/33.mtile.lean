set_option maxHeartbeats 4000000 in
set_option maxRecDepth 100000 in
theorem c_X5_apart (l : Launch) (D : va_G) (cI cC cS : ClassId) (tt : Nat → Nat) (mm : Nat) (mn : Nat) (mh : Nat) (ms : Nat) (mr : Nat) (md : Nat) (mo : Nat) (mc : Nat) (mt : Nat) (mq : Nat) (kp : Int32) (fl : Int32) (ty : Int32) (at9 : Int32) (nu : Int32) (D1 : Nat → Int32) (S1 : Nat → Int32) (R1 : Nat → Int32) (N1 : Nat → Int32) (K1 : Int32) (L1 : Nat → Int32) (Pi : Nat) (Po : Nat) (T : Nat) (Pl : Nat) (dc : Int32) (DC : Int) (hDC_ : dc.toInt = DC) (dr : Int32) (DR : Int) (hDR_ : dr.toInt = DR) (hh0 : Pi < 3) (hh1 : Po < 3) (hh2 : T < 9) (hh3 : DC = x_sr Pl) (hh4 : DR = x_sd Pl) (hh5 : -2 ≤ DC ∧ DC ≤ 2 ∧ -2 ≤ DR ∧ DR ≤ 2) : Met l yX5_apart wsX5_apart ({ frames := 2, cells := 0, slots := 0, locals := 43 } : Room) (x_PR D cI cC cS tt [(mm, .inr (5, [.ref mn, .ref mh, .int kp, .ref ms, .int fl, .ref mr, .ref md, .ref mo, .ref mc, .int ty, .ref mt, .int at9, .int nu, .ref mq])), (mn, .inl (cI, 578, .inl (mkM D1 S1 R1 N1 K1 L1)))] [.ref mm, .int (nI Pi), .int (nI Po), .int (nI T), .int dc, .int dr]) (QcRead (dfw (pkN D1 S1 R1 Pi) (pkN D1 S1 R1 Po) T Pl)) 0 0 (fun _ => False) := by
  refine Met.ofW (cc := cX5_apart) (maxL := 12) (ret := (some .int)) (by decide) rfl ?_
  intro p e s m args below meth c s₁ hBd hml hv
  obtain ⟨rfl, hP, hK, hE⟩ := hv
  have hx := hBd.exec
  have hb := hBd.bytes
  have hr := hBd.returns
  have hts := atoms_spec (ws := wsX5_apart) hBd.pre
  have hown : s.vm.findClass RX5 = some m.cls := findClass_of_methodNamed hBd.named
  have hlocks := hBd.notSynchronized
  have hS : va_S (fun _ => False) s.heap s.heap [] := va_S.rf
  have hl := lv_entry ([.ref mm, .int (nI Pi), .int (nI Po), .int (nI T), .int dc, .int dr]) (n := 12) (Nat.le_of_ble_eq_true rfl)
  rw [lg_entry_eq]
  generalize (lg_sl ([.ref mm, .int (nI Pi), .int (nI Po), .int (nI T), .int dc, .int dr]) ++ List.replicate (12 - (lg_sl ([.ref mm, .int (nI Pi), .int (nI Po), .int (nI T), .int dc, .int dr])).length) Slot.unset).toArray = ls at hl ⊢
  have hl : lv_has ls 12 [(0, .ref mm), (1, .int (nI Pi)), (2, .int (nI Po)), (3, .int (nI T)), (4, .int dc), (5, .int dr)] := hl
  refine x_genQ (fun Q hQ => ?_)
  refine lv_iload_n hx hb dX5_apart_0 rfl (lv_at hl 3 rfl) ?_
  refine x_callR (va_runS (As := [.int (nI T)]) (rest := []) ⟨hx, hb, hml, hown, hts⟩ (c_X5_columnOf l D cI cC cS tt T (by first | omega | assumption | decide)) (va_cwS 1 hts gX5_apart_X5_columnOf rfl rfl rfl (by decide +kernel) ⟨Nat.le_of_ble_eq_true rfl, Nat.le_of_ble_eq_true rfl⟩) ⟨x_blindR, x_preR (hP.sub (ws' := []) [] rfl) hK hE hS⟩ rfl rfl hl.1 rfl (lv_room (Nat.le_of_ble_eq_true rfl)) dX5_apart_1 ⟨(Nat.le_of_ble_eq_true rfl), (Nat.le_of_ble_eq_true rfl)⟩) ?_
  refine lv_istore (lv' := [(6, .int (nI (T % 3 * 4))), (0, .ref mm), (1, .int (nI Pi)), (2, .int (nI Po)), (3, .int (nI T)), (4, .int dc), (5, .int dr)]) hx hb dX5_apart_4 hl (by decide) rfl (fun ls hl => ?_)
  refine lv_iload_n hx hb dX5_apart_6 rfl (lv_at hl 4 rfl) ?_
  refine x_callR (va_runS (As := [.int (nI T)]) (rest := []) ⟨hx, hb, hml, hown, hts⟩ (c_X5_rowOf l D cI cC cS tt T (by first | omega | assumption | decide)) (va_cwS 1 hts gX5_apart_X5_rowOf rfl rfl rfl (by decide +kernel) ⟨Nat.le_of_ble_eq_true rfl, Nat.le_of_ble_eq_true rfl⟩) ⟨x_blindR, x_preR (hP.sub (ws' := []) [] rfl) hK hE hS⟩ rfl rfl hl.1 rfl (lv_room (Nat.le_of_ble_eq_true rfl)) dX5_apart_7 ⟨(Nat.le_of_ble_eq_true rfl), (Nat.le_of_ble_eq_true rfl)⟩) ?_
  refine lv_istore (lv' := [(7, .int (nI (T / 3 * 4))), (6, .int (nI (T % 3 * 4))), (0, .ref mm), (1, .int (nI Pi)), (2, .int (nI Po)), (3, .int (nI T)), (4, .int dc), (5, .int dr)]) hx hb dX5_apart_10 hl (by decide) rfl (fun ls hl => ?_)
  refine lv_iload hx hb dX5_apart_12 (lv_at hl 1 rfl) ?_
  refine lv_iload hx hb dX5_apart_14 (lv_at hl 6 rfl) ?_
  refine lv_iadd hx hb dX5_apart_16 ?_
  refine lv_iload hx hb dX5_apart_17 (lv_at hl 0 rfl) ?_
  refine lv_iload hx hb dX5_apart_19 (lv_at hl 7 rfl) ?_
  refine lv_iadd hx hb dX5_apart_21 ?_
  refine x_callR (va_runS (As := [.int ((nI (T % 3 * 4)) + dc), .int ((nI (T / 3 * 4)) + dr)]) (rest := []) ⟨hx, hb, hml, hown, hts⟩ (c_X5_noPoint l D cI cC cS tt ((nI (T % 3 * 4)) + dc) (((T % 3 * 4 : Nat) : Int) + DC) (x_addI (nI_toI (by omega)) hDC_ (by omega) (by omega)) ((nI (T / 3 * 4)) + dr) (((T / 3 * 4 : Nat) : Int) + DR) (x_addI (nI_toI (by omega)) hDR_ (by omega) (by omega))) (va_cwS 2 hts gX5_apart_X5_noPoint rfl rfl rfl (by decide +kernel) ⟨Nat.le_of_ble_eq_true rfl, Nat.le_of_ble_eq_true rfl⟩) ⟨x_blindR, x_preR (hP.sub (ws' := []) [] rfl) hK hE hS⟩ rfl rfl hl.1 rfl (lv_room (Nat.le_of_ble_eq_true rfl)) dX5_apart_22 ⟨(Nat.le_of_ble_eq_true rfl), (Nat.le_of_ble_eq_true rfl)⟩) ?_
  refine x_ifB_ne (tgt := 48) hx hb dX5_apart_25 (by decide) (fun c_25 => ?_) (fun c_25 => ?_)
  · skip
    refine lv_bipush (v := (-5)) hx hb dX5_apart_48 (by decide) ?_
    exact x_iretR hQ hx hb hr hlocks (by unfold dfw; rw [if_neg (by unfold wIn; omega)]) dX5_apart_50
  · skip
    refine lv_iload hx hb dX5_apart_28 (lv_at hl 1 rfl) ?_
    refine lv_iload hx hb dX5_apart_30 (lv_at hl 6 rfl) ?_
    refine lv_iadd hx hb dX5_apart_32 ?_
    refine lv_iconst (v := 3) hx hb dX5_apart_33 (by decide) ?_
    refine lv_iadd hx hb dX5_apart_34 ?_
    refine lv_iload hx hb dX5_apart_35 (lv_at hl 0 rfl) ?_
    refine lv_iload hx hb dX5_apart_37 (lv_at hl 7 rfl) ?_
    refine lv_iadd hx hb dX5_apart_39 ?_
    refine lv_iconst (v := 3) hx hb dX5_apart_40 (by decide) ?_
    refine lv_iadd hx hb dX5_apart_41 ?_
    refine x_callR (va_runS (As := [.int (((nI (T % 3 * 4)) + dc) + 3), .int (((nI (T / 3 * 4)) + dr) + 3)]) (rest := []) ⟨hx, hb, hml, hown, hts⟩ (c_X5_noPoint l D cI cC cS tt (((nI (T % 3 * 4)) + dc) + 3) ((((T % 3 * 4 : Nat) : Int) + DC) + 3) (x_addI (x_addI (nI_toI (by omega)) hDC_ (by omega) (by omega)) (show (3 : Int32).toInt = 3 from by decide) (by omega) (by omega)) (((nI (T / 3 * 4)) + dr) + 3) ((((T / 3 * 4 : Nat) : Int) + DR) + 3) (x_addI (x_addI (nI_toI (by omega)) hDR_ (by omega) (by omega)) (show (3 : Int32).toInt = 3 from by decide) (by omega) (by omega))) (va_cwS 2 hts gX5_apart_X5_noPoint rfl rfl rfl (by decide +kernel) ⟨Nat.le_of_ble_eq_true rfl, Nat.le_of_ble_eq_true rfl⟩) ⟨x_blindR, x_preR (hP.sub (ws' := []) [] rfl) hK hE hS⟩ rfl rfl hl.1 rfl (lv_room (Nat.le_of_ble_eq_true rfl)) dX5_apart_42 ⟨(Nat.le_of_ble_eq_true rfl), (Nat.le_of_ble_eq_true rfl)⟩) ?_
    refine x_ifB_eq (tgt := 51) hx hb dX5_apart_45 (by decide) (fun c_45 => ?_) (fun c_45 => ?_)
    · skip
      refine lv_iconst (v := 0) hx hb dX5_apart_51 (by decide) ?_
      refine lv_istore (lv' := [(8, .int 0), (7, .int (nI (T / 3 * 4))), (6, .int (nI (T % 3 * 4))), (0, .ref mm), (1, .int (nI Pi)), (2, .int (nI Po)), (3, .int (nI T)), (4, .int dc), (5, .int dr)]) hx hb dX5_apart_52 hl (by decide) rfl (fun ls hl => ?_)
      refine lv_iload hx hb dX5_apart_54 (lv_at hl 1 rfl) ?_
      refine lv_istore (lv' := [(9, .int (nI (T / 3 * 4))), (8, .int 0), (7, .int (nI (T / 3 * 4))), (6, .int (nI (T % 3 * 4))), (0, .ref mm), (1, .int (nI Pi)), (2, .int (nI Po)), (3, .int (nI T)), (4, .int dc), (5, .int dr)]) hx hb dX5_apart_56 hl (by decide) rfl (fun ls hl => ?_)
      have L58 : ∀ (fuel : Nat) (yy : Nat) (n : Int32), (T / 3 * 4 ≤ yy) → (yy ≤ T / 3 * 4 + 4) → (n = sm (fun j => tdR (pkN D1 S1 R1 Pi) (pkN D1 S1 R1 Po) T Pl (T / 3 * 4 + j)) (yy - T / 3 * 4)) → (wIn T Pl) → 12 - yy < fuel → ∀ (ls : Array Slot), lv_has ls 12 [(0, .ref mm), (1, .int (nI Pi)), (2, .int (nI Po)), (4, .int dc), (5, .int dr), (6, .int (nI (T % 3 * 4))), (7, .int (nI (T / 3 * 4))), (8, .int n), (9, .int (nI yy))] → W p l e (headSpec wsX5_apart ({ frames := 2, cells := 0, slots := 0, locals := 43 } : Room)).room s m ([.ref mm, .int (nI Pi), .int (nI Po), .int (nI T), .int dc, .int dr] : List Value).toArray below meth c s.heap [] 0 0 Q (F0 m 58 ls []) := by
        intro fuel
        induction fuel with
        | zero =>
          intro yy n hi58_0 hi58_1 hi58_2 hi58_3 hfu
          exact absurd hfu (Nat.not_lt_zero _)
        | succ fuel ih58 =>
          intro yy n hi58_0 hi58_1 hi58_2 hi58_3 hfu58 ls hl
          refine lv_iload hx hb dX5_apart_58 (lv_at hl 8 rfl) ?_
          refine lv_iload hx hb dX5_apart_60 (lv_at hl 6 rfl) ?_
          refine lv_iconst (v := 4) hx hb dX5_apart_62 (by decide) ?_
          refine lv_iadd hx hb dX5_apart_63 ?_
          refine x_eqi (show nI (T / 3 * 4) + 4 = nI ((T / 3 * 4) + 4) from nI_add (T / 3 * 4) 4) ?_
          refine x_icmp_ge (tgt := 145) hx hb dX5_apart_64 (by decide) (X := ((yy : Nat) : Int)) (nI_toI (by omega)) (Y := (((T / 3 * 4) + 4 : Nat) : Int)) (nI_toI (by omega)) (fun c_64 => ?_) (fun c_64 => ?_)
          · skip
            refine lv_iload hx hb dX5_apart_145 (lv_at hl 7 rfl) ?_
            exact x_iretR hQ hx hb hr hlocks (by unfold dfw; rw [if_pos hi58_3, hi58_2, show yy - T / 3 * 4 = 4 by omega]; rfl) dX5_apart_147
          · skip
            refine lv_iload hx hb dX5_apart_67 (lv_at hl 5 rfl) ?_
            refine lv_istore (lv' := [(10, .int (nI (T % 3 * 4))), (0, .ref mm), (1, .int (nI Pi)), (2, .int (nI Po)), (4, .int dc), (5, .int dr), (6, .int (nI (T % 3 * 4))), (7, .int (nI (T / 3 * 4))), (8, .int n), (9, .int (nI yy))]) hx hb dX5_apart_69 hl (by decide) rfl (fun ls hl => ?_)
            have L71 : ∀ (fuel : Nat) (xx : Nat) (n : Int32), (T % 3 * 4 ≤ xx) → (xx ≤ T % 3 * 4 + 4) → (n = sm (fun j => tdR (pkN D1 S1 R1 Pi) (pkN D1 S1 R1 Po) T Pl (T / 3 * 4 + j)) (yy - T / 3 * 4) + sm (fun i => tdT (pkN D1 S1 R1 Pi) (pkN D1 S1 R1 Po) Pl (T % 3 * 4 + i) yy) (xx - T % 3 * 4)) → 12 - xx < fuel → ∀ (ls : Array Slot), lv_has ls 12 [(0, .ref mm), (1, .int (nI Pi)), (2, .int (nI Po)), (4, .int dc), (5, .int dr), (6, .int (nI (T % 3 * 4))), (7, .int (nI (T / 3 * 4))), (8, .int n), (9, .int (nI yy)), (10, .int (nI xx))] → W p l e (headSpec wsX5_apart ({ frames := 2, cells := 0, slots := 0, locals := 43 } : Room)).room s m ([.ref mm, .int (nI Pi), .int (nI Po), .int (nI T), .int dc, .int dr] : List Value).toArray below meth c s.heap [] 0 0 Q (F0 m 71 ls []) := by
              intro fuel
              induction fuel with
              | zero =>
                intro xx n hi71_0 hi71_1 hi71_2 hfu
                exact absurd hfu (Nat.not_lt_zero _)
              | succ fuel ih71 =>
                intro xx n hi71_0 hi71_1 hi71_2 hfu71 ls hl
                refine lv_iload hx hb dX5_apart_71 (lv_at hl 9 rfl) ?_
                refine lv_iload hx hb dX5_apart_73 (lv_at hl 5 rfl) ?_
                refine lv_iconst (v := 4) hx hb dX5_apart_75 (by decide) ?_
                refine lv_iadd hx hb dX5_apart_76 ?_
                refine x_eqi (show nI (T % 3 * 4) + 4 = nI ((T % 3 * 4) + 4) from nI_add (T % 3 * 4) 4) ?_
                refine x_icmp_ge (tgt := 139) hx hb dX5_apart_77 (by decide) (X := ((xx : Nat) : Int)) (nI_toI (by omega)) (Y := (((T % 3 * 4) + 4 : Nat) : Int)) (nI_toI (by omega)) (fun c_77 => ?_) (fun c_77 => ?_)
                · skip
                  refine lv_iinc (v := nI (yy + 1)) (lv' := [(9, .int (nI (yy + 1))), (0, .ref mm), (1, .int (nI Pi)), (2, .int (nI Po)), (4, .int dc), (5, .int dr), (6, .int (nI (T % 3 * 4))), (7, .int (nI (T / 3 * 4))), (8, .int n), (10, .int (nI xx))]) hx hb dX5_apart_139 hl (k := 8) rfl (nI_add _ _) (by decide) rfl (fun ls hl => ?_)
                  refine lv_goto (tgt := 58) hx hb dX5_apart_142 (by decide) ?_
                  exact ih58 (yy + 1) n (by first | omega | assumption | rfl) (by first | omega | assumption | rfl) (by rw [hi71_2, show yy + 1 - T / 3 * 4 = (yy - T / 3 * 4) + 1 by omega, sm_s, show xx - T % 3 * 4 = 4 by omega]; exact congrArg _ (by rw [show T / 3 * 4 + (yy - T / 3 * 4) = yy by omega]; rfl)) hi58_3 (by omega) ls (lv_sub hl [1, 2, 3, 4, 5, 6, 7, 8, 0] rfl)
                · skip
                  refine lv_aload_n hx hb dX5_apart_80 rfl (lv_at hl 0 rfl) ?_
                  refine va_get (v := .ref mn) (D := D) (ci := 5) (C := RX5) (T := TX5) (N := 14) hx hb hts (by decide +kernel) hown hK hP 0 rfl rfl 0 (by decide) (hts (.fieldLink RX5 7 "SpiralFramesModel" "now" "[I") (by decide +kernel)) (fun _ h9 => h9) rfl dX5_apart_81 ?_
                  refine lv_iload_n hx hb dX5_apart_84 rfl (lv_at hl 1 rfl) ?_
                  refine lv_iload hx hb dX5_apart_85 (lv_at hl 9 rfl) ?_
                  refine lv_iload hx hb dX5_apart_87 (lv_at hl 8 rfl) ?_
                  refine x_callR (va_runS (As := [.int (nI Pi), .int (nI xx), .int (nI yy)]) (rest := [.ref mn]) ⟨hx, hb, hml, hown, hts⟩ (c_X5_cell l D cI cC cS tt (nI Pi) ((Pi : Nat) : Int) (nI_toI (by omega)) (nI xx) ((xx : Nat) : Int) (nI_toI (by omega)) (nI yy) ((yy : Nat) : Int) (nI_toI (by omega)) (by first | omega | assumption | decide)) (va_cwS 3 hts gX5_apart_X5_cell rfl rfl rfl (by decide +kernel) ⟨Nat.le_of_ble_eq_true rfl, Nat.le_of_ble_eq_true rfl⟩) ⟨x_blindR, x_preR (hP.sub (ws' := []) [] rfl) hK hE hS⟩ rfl rfl hl.1 rfl (lv_room (Nat.le_of_ble_eq_true rfl)) dX5_apart_89 ⟨(Nat.le_of_ble_eq_true rfl), (Nat.le_of_ble_eq_true rfl)⟩) ?_
                  refine x_eqi (show zI (144 * ((Pi : Nat) : Int) + 12 * ((yy : Nat) : Int) + ((xx : Nat) : Int)) = nI (((144 * ((Pi : Nat) : Int) + 12 * ((yy : Nat) : Int) + ((xx : Nat) : Int))).toNat) from x_toNat (zI_toInt (by omega) (by omega)) (by omega)) ?_
                  refine x_iald hx hb hK hP 1 0 rfl rfl (k := ((144 * ((Pi : Nat) : Int) + 12 * ((yy : Nat) : Int) + ((xx : Nat) : Int))).toNat) (by omega) (by decide) dX5_apart_92 ?_
                  refine x_eqi (show (mkM D1 S1 R1 N1 K1 L1) (((144 * ((Pi : Nat) : Int) + 12 * ((yy : Nat) : Int) + ((xx : Nat) : Int))).toNat) = (pkN D1 S1 R1 Pi) (yy * 12 + xx) from (mkM_pk hh0 (by omega) (by omega))) ?_
                  refine lv_aload_n hx hb dX5_apart_93 rfl (lv_at hl 0 rfl) ?_
                  refine va_get (v := .ref mn) (D := D) (ci := 5) (C := RX5) (T := TX5) (N := 14) hx hb hts (by decide +kernel) hown hK hP 0 rfl rfl 0 (by decide) (hts (.fieldLink RX5 7 "SpiralFramesModel" "now" "[I") (by decide +kernel)) (fun _ h9 => h9) rfl dX5_apart_94 ?_
                  refine lv_iload_n hx hb dX5_apart_97 rfl (lv_at hl 2 rfl) ?_
                  refine lv_iload hx hb dX5_apart_98 (lv_at hl 9 rfl) ?_
                  refine lv_iload hx hb dX5_apart_100 (lv_at hl 3 rfl) ?_
                  refine lv_iadd hx hb dX5_apart_102 ?_
                  refine lv_iload hx hb dX5_apart_103 (lv_at hl 8 rfl) ?_
                  refine lv_iload hx hb dX5_apart_105 (lv_at hl 4 rfl) ?_
                  refine lv_iadd hx hb dX5_apart_107 ?_
                  refine x_callR (va_runS (As := [.int (nI Po), .int ((nI xx) + dc), .int ((nI yy) + dr)]) (rest := [.ref mn, .int ((pkN D1 S1 R1 Pi) (yy * 12 + xx))]) ⟨hx, hb, hml, hown, hts⟩ (c_X5_cell l D cI cC cS tt (nI Po) ((Po : Nat) : Int) (nI_toI (by omega)) ((nI xx) + dc) (((xx : Nat) : Int) + DC) (x_addI (nI_toI (by omega)) hDC_ (by omega) (by omega)) ((nI yy) + dr) (((yy : Nat) : Int) + DR) (x_addI (nI_toI (by omega)) hDR_ (by omega) (by omega)) (by first | omega | assumption | decide)) (va_cwS 3 hts gX5_apart_X5_cell rfl rfl rfl (by decide +kernel) ⟨Nat.le_of_ble_eq_true rfl, Nat.le_of_ble_eq_true rfl⟩) ⟨x_blindR, x_preR (hP.sub (ws' := []) [] rfl) hK hE hS⟩ rfl rfl hl.1 rfl (lv_room (Nat.le_of_ble_eq_true rfl)) dX5_apart_108 ⟨(Nat.le_of_ble_eq_true rfl), (Nat.le_of_ble_eq_true rfl)⟩) ?_
                  refine x_eqi (show zI (144 * ((Po : Nat) : Int) + 12 * (((yy : Nat) : Int) + DR) + (((xx : Nat) : Int) + DC)) = nI (((144 * ((Po : Nat) : Int) + 12 * (((yy : Nat) : Int) + DR) + (((xx : Nat) : Int) + DC))).toNat) from x_toNat (zI_toInt (by omega) (by omega)) (by omega)) ?_
                  refine x_iald hx hb hK hP 1 0 rfl rfl (k := ((144 * ((Po : Nat) : Int) + 12 * (((yy : Nat) : Int) + DR) + (((xx : Nat) : Int) + DC))).toNat) (by omega) (by decide) dX5_apart_111 ?_
                  refine x_eqi (show (mkM D1 S1 R1 N1 K1 L1) (((144 * ((Po : Nat) : Int) + 12 * (((yy : Nat) : Int) + DR) + (((xx : Nat) : Int) + DC))).toNat) = gtZ (pkN D1 S1 R1 Po) (((xx : Nat) : Int) + x_sr Pl) (((yy : Nat) : Int) + x_sd Pl) from (by unfold gtZ; rw [if_pos (by omega), mkM_pk (j := ((((yy : Nat) : Int) + x_sd Pl) * 12 + (((xx : Nat) : Int) + x_sr Pl)).toNat) hh1 (by omega) (by omega)])) ?_
                  refine lv_isub hx hb dX5_apart_112 ?_
                  refine lv_istore (lv' := [(11, .int (((pkN D1 S1 R1 Pi) (yy * 12 + xx)) - (gtZ (pkN D1 S1 R1 Po) (((xx : Nat) : Int) + x_sr Pl) (((yy : Nat) : Int) + x_sd Pl)))), (0, .ref mm), (1, .int (nI Pi)), (2, .int (nI Po)), (4, .int dc), (5, .int dr), (6, .int (nI (T % 3 * 4))), (7, .int (nI (T / 3 * 4))), (8, .int n), (9, .int (nI yy)), (10, .int (nI xx))]) hx hb dX5_apart_113 hl (by decide) rfl (fun ls hl => ?_)
                  refine lv_iload hx hb dX5_apart_115 (lv_at hl 8 rfl) ?_
                  refine lv_iload hx hb dX5_apart_117 (lv_at hl 0 rfl) ?_
                  refine x_if_ge (tgt := 128) hx hb dX5_apart_119 (by decide) (X := (((pkN D1 S1 R1 Pi) (yy * 12 + xx)) - (gtZ (pkN D1 S1 R1 Po) (((xx : Nat) : Int) + x_sr Pl) (((yy : Nat) : Int) + x_sd Pl))).toInt) rfl (fun c_119 => ?_) (fun c_119 => ?_)
                  · skip
                    refine lv_iload hx hb dX5_apart_128 (lv_at hl 0 rfl) ?_
                    refine lv_iadd hx hb dX5_apart_130 ?_
                    refine x_eqi (show n + (((pkN D1 S1 R1 Pi) (yy * 12 + xx)) - (gtZ (pkN D1 S1 R1 Po) (((xx : Nat) : Int) + x_sr Pl) (((yy : Nat) : Int) + x_sd Pl))) = n + (tdT (pkN D1 S1 R1 Pi) (pkN D1 S1 R1 Po) Pl xx yy) from (congrArg (fun z => n + z) (by first | exact absI_p c_119 | exact absI_n c_119))) ?_
                    refine lv_istore (lv' := [(8, .int (n + (tdT (pkN D1 S1 R1 Pi) (pkN D1 S1 R1 Po) Pl xx yy))), (11, .int (((pkN D1 S1 R1 Pi) (yy * 12 + xx)) - (gtZ (pkN D1 S1 R1 Po) (((xx : Nat) : Int) + x_sr Pl) (((yy : Nat) : Int) + x_sd Pl)))), (0, .ref mm), (1, .int (nI Pi)), (2, .int (nI Po)), (4, .int dc), (5, .int dr), (6, .int (nI (T % 3 * 4))), (7, .int (nI (T / 3 * 4))), (9, .int (nI yy)), (10, .int (nI xx))]) hx hb dX5_apart_131 hl (by decide) rfl (fun ls hl => ?_)
                    refine lv_iinc (v := nI (xx + 1)) (lv' := [(10, .int (nI (xx + 1))), (8, .int (n + (tdT (pkN D1 S1 R1 Pi) (pkN D1 S1 R1 Po) Pl xx yy))), (11, .int (((pkN D1 S1 R1 Pi) (yy * 12 + xx)) - (gtZ (pkN D1 S1 R1 Po) (((xx : Nat) : Int) + x_sr Pl) (((yy : Nat) : Int) + x_sd Pl)))), (0, .ref mm), (1, .int (nI Pi)), (2, .int (nI Po)), (4, .int dc), (5, .int dr), (6, .int (nI (T % 3 * 4))), (7, .int (nI (T / 3 * 4))), (9, .int (nI yy))]) hx hb dX5_apart_133 hl (k := 10) rfl (nI_add _ _) (by decide) rfl (fun ls hl => ?_)
                    refine lv_goto (tgt := 71) hx hb dX5_apart_136 (by decide) ?_
                    exact ih71 (xx + 1) (n + (tdT (pkN D1 S1 R1 Pi) (pkN D1 S1 R1 Po) Pl xx yy)) (by first | omega | assumption | rfl) (by first | omega | assumption | rfl) (by rw [show xx + 1 - T % 3 * 4 = (xx - T % 3 * 4) + 1 by omega, sm_s, ← Int32.add_assoc, ← hi71_2, show T % 3 * 4 + (xx - T % 3 * 4) = xx by omega]) (by omega) ls (lv_sub hl [3, 4, 5, 6, 7, 8, 9, 1, 10, 0] rfl)
                  · skip
                    refine lv_iload hx hb dX5_apart_122 (lv_at hl 0 rfl) ?_
                    refine lv_ineg hx hb dX5_apart_124 ?_
                    refine lv_goto (tgt := 130) hx hb dX5_apart_125 (by decide) ?_
                    refine lv_iadd hx hb dX5_apart_130 ?_
                    refine x_eqi (show n + (-(((pkN D1 S1 R1 Pi) (yy * 12 + xx)) - (gtZ (pkN D1 S1 R1 Po) (((xx : Nat) : Int) + x_sr Pl) (((yy : Nat) : Int) + x_sd Pl)))) = n + (tdT (pkN D1 S1 R1 Pi) (pkN D1 S1 R1 Po) Pl xx yy) from (congrArg (fun z => n + z) (by first | exact absI_p c_119 | exact absI_n c_119))) ?_
                    refine lv_istore (lv' := [(8, .int (n + (tdT (pkN D1 S1 R1 Pi) (pkN D1 S1 R1 Po) Pl xx yy))), (11, .int (((pkN D1 S1 R1 Pi) (yy * 12 + xx)) - (gtZ (pkN D1 S1 R1 Po) (((xx : Nat) : Int) + x_sr Pl) (((yy : Nat) : Int) + x_sd Pl)))), (0, .ref mm), (1, .int (nI Pi)), (2, .int (nI Po)), (4, .int dc), (5, .int dr), (6, .int (nI (T % 3 * 4))), (7, .int (nI (T / 3 * 4))), (9, .int (nI yy)), (10, .int (nI xx))]) hx hb dX5_apart_131 hl (by decide) rfl (fun ls hl => ?_)
                    refine lv_iinc (v := nI (xx + 1)) (lv' := [(10, .int (nI (xx + 1))), (8, .int (n + (tdT (pkN D1 S1 R1 Pi) (pkN D1 S1 R1 Po) Pl xx yy))), (11, .int (((pkN D1 S1 R1 Pi) (yy * 12 + xx)) - (gtZ (pkN D1 S1 R1 Po) (((xx : Nat) : Int) + x_sr Pl) (((yy : Nat) : Int) + x_sd Pl)))), (0, .ref mm), (1, .int (nI Pi)), (2, .int (nI Po)), (4, .int dc), (5, .int dr), (6, .int (nI (T % 3 * 4))), (7, .int (nI (T / 3 * 4))), (9, .int (nI yy))]) hx hb dX5_apart_133 hl (k := 10) rfl (nI_add _ _) (by decide) rfl (fun ls hl => ?_)
                    refine lv_goto (tgt := 71) hx hb dX5_apart_136 (by decide) ?_
                    exact ih71 (xx + 1) (n + (tdT (pkN D1 S1 R1 Pi) (pkN D1 S1 R1 Po) Pl xx yy)) (by first | omega | assumption | rfl) (by first | omega | assumption | rfl) (by rw [show xx + 1 - T % 3 * 4 = (xx - T % 3 * 4) + 1 by omega, sm_s, ← Int32.add_assoc, ← hi71_2, show T % 3 * 4 + (xx - T % 3 * 4) = xx by omega]) (by omega) ls (lv_sub hl [3, 4, 5, 6, 7, 8, 9, 1, 10, 0] rfl)
            exact L71 _ (T % 3 * 4) n (by first | omega | assumption | rfl) (by first | omega | assumption | rfl) (by rw [hi58_2, Nat.sub_self, sm_0, Int32.add_zero]) (Nat.lt_succ_self _) ls (lv_sub hl [1, 2, 3, 4, 5, 6, 7, 8, 9, 0] rfl)
      exact L58 _ (T / 3 * 4) 0 (by first | omega | assumption | rfl) (by first | omega | assumption | rfl) (by rw [Nat.sub_self]; rfl) (by unfold wIn; omega) (Nat.lt_succ_self _) ls (lv_sub hl [4, 5, 6, 8, 9, 3, 2, 1, 0] rfl)
    · skip
      refine lv_bipush (v := (-5)) hx hb dX5_apart_48 (by decide) ?_
      exact x_iretR hQ hx hb hr hlocks (by unfold dfw; rw [if_neg (by unfold wIn; omega)]) dX5_apart_50
set_option maxHeartbeats 4000000 in
set_option maxRecDepth 100000 in
theorem c_X5_apartBy (l : Launch) (D : va_G) (cI cC cS : ClassId) (tt : Nat → Nat) (mm : Nat) (mn : Nat) (mh : Nat) (ms : Nat) (mr : Nat) (md : Nat) (mo : Nat) (mc : Nat) (mt : Nat) (mq : Nat) (kp : Int32) (fl : Int32) (ty : Int32) (at9 : Int32) (nu : Int32) (D1 : Nat → Int32) (S1 : Nat → Int32) (R1 : Nat → Int32) (N1 : Nat → Int32) (K1 : Int32) (L1 : Nat → Int32) (T : Nat) (Pl : Nat) (hh0 : T < 9) (hh1 : Pl < 25) : Met l yX5_apartBy wsX5_apartBy ({ frames := 3, cells := 0, slots := 0, locals := 74 } : Room) (x_PR D cI cC cS tt [(mm, .inr (5, [.ref mn, .ref mh, .int kp, .ref ms, .int fl, .ref mr, .ref md, .ref mo, .ref mc, .int ty, .ref mt, .int at9, .int nu, .ref mq])), (mn, .inl (cI, 578, .inl (mkM D1 S1 R1 N1 K1 L1))), (mr, .inl (cI, 25, .inl (x_srF))), (md, .inl (cI, 25, .inl (x_sdF)))] [.ref mm, .int (nI T), .int (nI Pl)]) (QcRead (dfw D1 S1 T Pl)) 0 0 (fun _ => False) := by
  refine Met.ofW (cc := cX5_apartBy) (maxL := 3) (ret := (some .int)) (by decide) rfl ?_
  intro p e s m args below meth c s₁ hBd hml hv
  obtain ⟨rfl, hP, hK, hE⟩ := hv
  have hx := hBd.exec
  have hb := hBd.bytes
  have hr := hBd.returns
  have hts := atoms_spec (ws := wsX5_apartBy) hBd.pre
  have hown : s.vm.findClass RX5 = some m.cls := findClass_of_methodNamed hBd.named
  have hlocks := hBd.notSynchronized
  have hS : va_S (fun _ => False) s.heap s.heap [] := va_S.rf
  have hl := lv_entry ([.ref mm, .int (nI T), .int (nI Pl)]) (n := 3) (Nat.le_of_ble_eq_true rfl)
  rw [lg_entry_eq]
  generalize (lg_sl ([.ref mm, .int (nI T), .int (nI Pl)]) ++ List.replicate (3 - (lg_sl ([.ref mm, .int (nI T), .int (nI Pl)])).length) Slot.unset).toArray = ls at hl ⊢
  have hl : lv_has ls 3 [(0, .ref mm), (1, .int (nI T)), (2, .int (nI Pl))] := hl
  refine x_genQ (fun Q hQ => ?_)
  have bsr := x_sr_b Pl hh1
  have bsd := x_sd_b Pl hh1
  refine lv_aload_n hx hb dX5_apartBy_0 rfl (lv_at hl 0 rfl) ?_
  refine lv_iconst (v := 0) hx hb dX5_apartBy_1 (by decide) ?_
  refine lv_iconst (v := 1) hx hb dX5_apartBy_2 (by decide) ?_
  refine lv_iload_n hx hb dX5_apartBy_3 rfl (lv_at hl 1 rfl) ?_
  refine lv_aload_n hx hb dX5_apartBy_4 rfl (lv_at hl 0 rfl) ?_
  refine va_get (v := .ref mr) (D := D) (ci := 5) (C := RX5) (T := TX5) (N := 14) hx hb hts (by decide +kernel) hown hK hP 0 rfl rfl 5 (by decide) (hts (.fieldLink RX5 19 "SpiralFramesModel" "right" "[I") (by decide +kernel)) (fun _ h9 => h9) rfl dX5_apartBy_5 ?_
  refine lv_iload_n hx hb dX5_apartBy_8 rfl (lv_at hl 2 rfl) ?_
  refine x_iald hx hb hK hP 2 0 rfl rfl (k := Pl) (by omega) (by decide) dX5_apartBy_9 ?_
  refine x_eqi (show x_srF Pl = zI (x_sr Pl) from rfl) ?_
  refine lv_aload_n hx hb dX5_apartBy_10 rfl (lv_at hl 0 rfl) ?_
  refine va_get (v := .ref md) (D := D) (ci := 5) (C := RX5) (T := TX5) (N := 14) hx hb hts (by decide +kernel) hown hK hP 0 rfl rfl 6 (by decide) (hts (.fieldLink RX5 22 "SpiralFramesModel" "down" "[I") (by decide +kernel)) (fun _ h9 => h9) rfl dX5_apartBy_11 ?_
  refine lv_iload_n hx hb dX5_apartBy_14 rfl (lv_at hl 2 rfl) ?_
  refine x_iald hx hb hK hP 3 0 rfl rfl (k := Pl) (by omega) (by decide) dX5_apartBy_15 ?_
  refine x_eqi (show x_sdF Pl = zI (x_sd Pl) from rfl) ?_
  refine x_callR (va_runV (As := [.int 0, .int 1, .int (nI T), .int (zI (x_sr Pl)), .int (zI (x_sd Pl))]) (rest := []) ⟨hx, hb, hml, hown, hts⟩ (c_X5_apart l D cI cC cS tt mm mn mh ms mr md mo mc mt mq kp fl ty at9 nu D1 S1 R1 N1 K1 L1 0 1 T Pl (zI (x_sr Pl)) (x_sr Pl) (x_sr_toI Pl) (zI (x_sd Pl)) (x_sd Pl) (x_sd_toI Pl) (by first | omega | assumption | decide) (by first | omega | assumption | decide) (by first | omega | assumption | decide) (by first | omega | assumption | decide) (by first | omega | assumption | decide) (by first | omega | assumption | decide)) (cwV 5 hts gX5_apartBy_X5_apart rfl rfl rfl (by decide +kernel) ⟨Nat.le_of_ble_eq_true rfl, Nat.le_of_ble_eq_true rfl⟩) ⟨x_blindR, va_recv hK hP (ci := 5) (q0 := 0) rfl rfl, x_preR (hP.sub (ws' := [(mm, .inr (5, [.ref mn, .ref mh, .int kp, .ref ms, .int fl, .ref mr, .ref md, .ref mo, .ref mc, .int ty, .ref mt, .int at9, .int nu, .ref mq])), (mn, .inl (cI, 578, .inl (mkM D1 S1 R1 N1 K1 L1)))]) [0, 1] rfl) hK hE hS⟩ rfl rfl hl.1 rfl (lv_room (Nat.le_of_ble_eq_true rfl)) dX5_apartBy_16 ⟨(Nat.le_of_ble_eq_true rfl), (Nat.le_of_ble_eq_true rfl)⟩) ?_
  exact x_iretR hQ hx hb hr hlocks rfl dX5_apartBy_19
set_option maxHeartbeats 4000000 in
set_option maxRecDepth 100000 in
theorem c_X5_code (l : Launch) (D : va_G) (cI cC cS : ClassId) (tt : Nat → Nat) (mm : Nat) (mn : Nat) (mh : Nat) (ms : Nat) (mr : Nat) (md : Nat) (mo : Nat) (mc : Nat) (mt : Nat) (mq : Nat) (kp : Int32) (fl : Int32) (ty : Int32) (at9 : Int32) (nu : Int32) (D1 : Nat → Int32) (S1 : Nat → Int32) (R1 : Nat → Int32) (N1 : Nat → Int32) (K1 : Int32) (L1 : Nat → Int32) (T : Nat) (tl : Int32) (Tl : Int) (hTl_ : tl.toInt = Tl) (hh0 : T < 9) (hh1 : Tl ≤ 240) (hh2 : lvB D1) (hh3 : lvB S1) : Met l yX5_code wsX5_code ({ frames := 4, cells := 0, slots := 0, locals := 96 } : Room) (x_PR D cI cC cS tt [(mm, .inr (5, [.ref mn, .ref mh, .int kp, .ref ms, .int fl, .ref mr, .ref md, .ref mo, .ref mc, .int ty, .ref mt, .int at9, .int nu, .ref mq])), (mn, .inl (cI, 578, .inl (mkM D1 S1 R1 N1 K1 L1))), (mr, .inl (cI, 25, .inl (x_srF))), (md, .inl (cI, 25, .inl (x_sdF)))] [.ref mm, .int (nI T), .int tl]) (QcRead (nI (cdV D1 S1 T Tl))) 0 0 (fun _ => False) := by
  refine Met.ofW (cc := cX5_code) (maxL := 5) (ret := (some .int)) (by decide) rfl ?_
  intro p e s m args below meth c s₁ hBd hml hv
  obtain ⟨rfl, hP, hK, hE⟩ := hv
  have hx := hBd.exec
  have hb := hBd.bytes
  have hr := hBd.returns
  have hts := atoms_spec (ws := wsX5_code) hBd.pre
  have hown : s.vm.findClass RX5 = some m.cls := findClass_of_methodNamed hBd.named
  have hlocks := hBd.notSynchronized
  have hS : va_S (fun _ => False) s.heap s.heap [] := va_S.rf
  have hl := lv_entry ([.ref mm, .int (nI T), .int tl]) (n := 5) (Nat.le_of_ble_eq_true rfl)
  rw [lg_entry_eq]
  generalize (lg_sl ([.ref mm, .int (nI T), .int tl]) ++ List.replicate (5 - (lg_sl ([.ref mm, .int (nI T), .int tl])).length) Slot.unset).toArray = ls at hl ⊢
  have hl : lv_has ls 5 [(0, .ref mm), (1, .int (nI T)), (2, .int tl)] := hl
  refine x_genQ (fun Q hQ => ?_)
  refine lv_iconst (v := 0) hx hb dX5_code_0 (by decide) ?_
  refine lv_istore_n (lv' := [(3, .int 0), (0, .ref mm), (1, .int (nI T)), (2, .int tl)]) hx hb dX5_code_1 rfl hl (by decide) rfl (fun ls hl => ?_)
  have L2 : ∀ (fuel : Nat) (pl : Nat), (pl ≤ 25) → (cdV D1 S1 T Tl = fsQ (fun p => decide ((dfv D1 S1 T p).toInt ≤ Tl)) pl (25 - pl)) → 25 - pl < fuel → ∀ (ls : Array Slot), lv_has ls 5 [(0, .ref mm), (1, .int (nI T)), (2, .int tl), (3, .int (nI pl))] → W p l e (headSpec wsX5_code ({ frames := 4, cells := 0, slots := 0, locals := 96 } : Room)).room s m ([.ref mm, .int (nI T), .int tl] : List Value).toArray below meth c s.heap [] 0 0 Q (F0 m 2 ls []) := by
    intro fuel
    induction fuel with
    | zero =>
      intro pl hi2_0 hi2_1 hfu
      exact absurd hfu (Nat.not_lt_zero _)
    | succ fuel ih2 =>
      intro pl hi2_0 hi2_1 hfu2 ls hl
      refine lv_iload_n hx hb dX5_code_2 rfl (lv_at hl 3 rfl) ?_
      refine lv_bipush (v := 25) hx hb dX5_code_3 (by decide) ?_
      refine x_icmp_ge (tgt := 37) hx hb dX5_code_5 (by decide) (X := ((pl : Nat) : Int)) (nI_toI (by omega)) (Y := 25) (show (25 : Int32).toInt = 25 from by decide) (fun c_5 => ?_) (fun c_5 => ?_)
      · skip
        refine lv_bipush (v := 25) hx hb dX5_code_37 (by decide) ?_
        exact x_iretR hQ hx hb hr hlocks (by rw [hi2_1, show pl = 25 by omega]; rfl) dX5_code_39
      · skip
        refine lv_aload_n hx hb dX5_code_8 rfl (lv_at hl 0 rfl) ?_
        refine lv_iload_n hx hb dX5_code_9 rfl (lv_at hl 1 rfl) ?_
        refine lv_iload_n hx hb dX5_code_10 rfl (lv_at hl 3 rfl) ?_
        refine x_callR (va_runV (As := [.int (nI T), .int (nI pl)]) (rest := []) ⟨hx, hb, hml, hown, hts⟩ (c_X5_apartBy l D cI cC cS tt mm mn mh ms mr md mo mc mt mq kp fl ty at9 nu D1 S1 R1 N1 K1 L1 T pl (by first | omega | assumption | decide) (by first | omega | assumption | decide)) (cwV 2 hts gX5_code_X5_apartBy rfl rfl rfl (by decide +kernel) ⟨Nat.le_of_ble_eq_true rfl, Nat.le_of_ble_eq_true rfl⟩) ⟨x_blindR, va_recv hK hP (ci := 5) (q0 := 0) rfl rfl, x_preR (hP.sub (ws' := [(mm, .inr (5, [.ref mn, .ref mh, .int kp, .ref ms, .int fl, .ref mr, .ref md, .ref mo, .ref mc, .int ty, .ref mt, .int at9, .int nu, .ref mq])), (mn, .inl (cI, 578, .inl (mkM D1 S1 R1 N1 K1 L1))), (mr, .inl (cI, 25, .inl (x_srF))), (md, .inl (cI, 25, .inl (x_sdF)))]) [0, 1, 2, 3] rfl) hK hE hS⟩ rfl rfl hl.1 rfl (lv_room (Nat.le_of_ble_eq_true rfl)) dX5_code_11 ⟨(Nat.le_of_ble_eq_true rfl), (Nat.le_of_ble_eq_true rfl)⟩) ?_
        refine lv_istore (lv' := [(4, .int (dfw D1 S1 T pl)), (0, .ref mm), (1, .int (nI T)), (2, .int tl), (3, .int (nI pl))]) hx hb dX5_code_14 hl (by decide) rfl (fun ls hl => ?_)
        refine lv_iload hx hb dX5_code_16 (lv_at hl 0 rfl) ?_
        refine lv_bipush (v := (-5)) hx hb dX5_code_18 (by decide) ?_
        refine x_icmp_eq (tgt := 31) hx hb dX5_code_20 (by decide) (X := (dfw D1 S1 T pl).toInt) rfl (Y := (-5)) (show (-5 : Int32).toInt = -5 from by decide) (fun c_20 => ?_) (fun c_20 => ?_)
        · skip
          refine lv_iinc (v := nI (pl + 1)) (lv' := [(3, .int (nI (pl + 1))), (4, .int (dfw D1 S1 T pl)), (0, .ref mm), (1, .int (nI T)), (2, .int tl)]) hx hb dX5_code_31 hl (k := 4) rfl (nI_add _ _) (by decide) rfl (fun ls hl => ?_)
          refine lv_goto (tgt := 2) hx hb dX5_code_34 (by decide) ?_
          exact ih2 (pl + 1) (by first | omega | assumption | rfl) (by rw [hi2_1, fsQ_f (by omega) (fun z => by have z2 := (dfw_v hh2 hh3 (t := T) (p := pl) hh1).mpr (of_decide_eq_true z); omega), show 25 - pl - 1 = 25 - (pl + 1) by omega]) (by omega) ls (lv_sub hl [2, 3, 4, 0] rfl)
        · skip
          refine lv_iload hx hb dX5_code_23 (lv_at hl 0 rfl) ?_
          refine lv_iload_n hx hb dX5_code_25 rfl (lv_at hl 3 rfl) ?_
          refine x_icmp_gt (tgt := 31) hx hb dX5_code_26 (by decide) (X := (dfw D1 S1 T pl).toInt) rfl (Y := Tl) hTl_ (fun c_26 => ?_) (fun c_26 => ?_)
          · skip
            refine lv_iinc (v := nI (pl + 1)) (lv' := [(3, .int (nI (pl + 1))), (4, .int (dfw D1 S1 T pl)), (0, .ref mm), (1, .int (nI T)), (2, .int tl)]) hx hb dX5_code_31 hl (k := 4) rfl (nI_add _ _) (by decide) rfl (fun ls hl => ?_)
            refine lv_goto (tgt := 2) hx hb dX5_code_34 (by decide) ?_
            exact ih2 (pl + 1) (by first | omega | assumption | rfl) (by rw [hi2_1, fsQ_f (by omega) (fun z => by have z2 := (dfw_v hh2 hh3 (t := T) (p := pl) hh1).mpr (of_decide_eq_true z); omega), show 25 - pl - 1 = 25 - (pl + 1) by omega]) (by omega) ls (lv_sub hl [2, 3, 4, 0] rfl)
          · skip
            refine lv_iload_n hx hb dX5_code_29 rfl (lv_at hl 4 rfl) ?_
            exact x_iretR hQ hx hb hr hlocks (by rw [hi2_1, fsQ_t (by omega) (decide_eq_true ((dfw_v hh2 hh3 (t := T) (p := pl) hh1).mp (by omega)))]) dX5_code_30
  exact L2 _ 0 (by first | omega | assumption | rfl) rfl (Nat.lt_succ_self _) ls (lv_sub hl [1, 2, 3, 0] rfl)
set_option maxHeartbeats 4000000 in
set_option maxRecDepth 100000 in
theorem c_X5_spends (l : Launch) (D : va_G) (cI cC cS : ClassId) (tt : Nat → Nat) (mm : Nat) (mn : Nat) (mh : Nat) (ms : Nat) (mr : Nat) (md : Nat) (mo : Nat) (mc : Nat) (mt : Nat) (mq : Nat) (kp : Int32) (fl : Int32) (ty : Int32) (at9 : Int32) (nu : Int32) (D1 : Nat → Int32) (S1 : Nat → Int32) (R1 : Nat → Int32) (N1 : Nat → Int32) (K1 : Int32) (L1 : Nat → Int32) (tl : Int32) (Tl : Int) (hTl_ : tl.toInt = Tl) (hh0 : Tl ≤ 240) (hh1 : lvB D1) (hh2 : lvB S1) : Met l yX5_spends wsX5_spends ({ frames := 5, cells := 0, slots := 0, locals := 120 } : Room) (x_PR D cI cC cS tt [(mm, .inr (5, [.ref mn, .ref mh, .int kp, .ref ms, .int fl, .ref mr, .ref md, .ref mo, .ref mc, .int ty, .ref mt, .int at9, .int nu, .ref mq])), (mn, .inl (cI, 578, .inl (mkM D1 S1 R1 N1 K1 L1))), (mr, .inl (cI, 25, .inl (x_srF))), (md, .inl (cI, 25, .inl (x_sdF)))] [.ref mm, .int tl]) (QcRead (bwV D1 S1 Tl)) 0 0 (fun _ => False) := by
  refine Met.ofW (cc := cX5_spends) (maxL := 4) (ret := (some .int)) (by decide) rfl ?_
  intro p e s m args below meth c s₁ hBd hml hv
  obtain ⟨rfl, hP, hK, hE⟩ := hv
  have hx := hBd.exec
  have hb := hBd.bytes
  have hr := hBd.returns
  have hts := atoms_spec (ws := wsX5_spends) hBd.pre
  have hown : s.vm.findClass RX5 = some m.cls := findClass_of_methodNamed hBd.named
  have hlocks := hBd.notSynchronized
  have hS : va_S (fun _ => False) s.heap s.heap [] := va_S.rf
  have hl := lv_entry ([.ref mm, .int tl]) (n := 4) (Nat.le_of_ble_eq_true rfl)
  rw [lg_entry_eq]
  generalize (lg_sl ([.ref mm, .int tl]) ++ List.replicate (4 - (lg_sl ([.ref mm, .int tl])).length) Slot.unset).toArray = ls at hl ⊢
  have hl : lv_has ls 4 [(0, .ref mm), (1, .int tl)] := hl
  refine x_genQ (fun Q hQ => ?_)
  refine lv_iconst (v := 0) hx hb dX5_spends_0 (by decide) ?_
  refine lv_istore_n (lv' := [(2, .int 0), (0, .ref mm), (1, .int tl)]) hx hb dX5_spends_1 rfl hl (by decide) rfl (fun ls hl => ?_)
  refine lv_iconst (v := 0) hx hb dX5_spends_2 (by decide) ?_
  refine lv_istore_n (lv' := [(3, .int 0), (2, .int 0), (0, .ref mm), (1, .int tl)]) hx hb dX5_spends_3 rfl hl (by decide) rfl (fun ls hl => ?_)
  have L4 : ∀ (fuel : Nat) (j : Nat) (n : Int32), (j ≤ 9) → (n = sm (fun t => nI (btN (cdV D1 S1 t Tl))) j) → 9 - j < fuel → ∀ (ls : Array Slot), lv_has ls 4 [(0, .ref mm), (1, .int tl), (2, .int n), (3, .int (nI j))] → W p l e (headSpec wsX5_spends ({ frames := 5, cells := 0, slots := 0, locals := 120 } : Room)).room s m ([.ref mm, .int tl] : List Value).toArray below meth c s.heap [] 0 0 Q (F0 m 4 ls []) := by
    intro fuel
    induction fuel with
    | zero =>
      intro j n hi4_0 hi4_1 hfu
      exact absurd hfu (Nat.not_lt_zero _)
    | succ fuel ih4 =>
      intro j n hi4_0 hi4_1 hfu4 ls hl
      refine lv_iload_n hx hb dX5_spends_4 rfl (lv_at hl 3 rfl) ?_
      refine lv_bipush (v := 9) hx hb dX5_spends_5 (by decide) ?_
      refine x_icmp_ge (tgt := 28) hx hb dX5_spends_7 (by decide) (X := ((j : Nat) : Int)) (nI_toI (by omega)) (Y := 9) (show (9 : Int32).toInt = 9 from by decide) (fun c_7 => ?_) (fun c_7 => ?_)
      · skip
        refine lv_iload_n hx hb dX5_spends_28 rfl (lv_at hl 2 rfl) ?_
        exact x_iretR hQ hx hb hr hlocks (by rw [hi4_1, show j = 9 by omega]; rfl) dX5_spends_29
      · skip
        refine lv_iload_n hx hb dX5_spends_10 rfl (lv_at hl 2 rfl) ?_
        refine lv_aload_n hx hb dX5_spends_11 rfl (lv_at hl 0 rfl) ?_
        refine lv_iload_n hx hb dX5_spends_12 rfl (lv_at hl 3 rfl) ?_
        refine lv_iload_n hx hb dX5_spends_13 rfl (lv_at hl 1 rfl) ?_
        refine x_callR (va_runV (As := [.int (nI j), .int tl]) (rest := [.int n]) ⟨hx, hb, hml, hown, hts⟩ (c_X5_code l D cI cC cS tt mm mn mh ms mr md mo mc mt mq kp fl ty at9 nu D1 S1 R1 N1 K1 L1 j tl Tl hTl_ (by first | omega | assumption | decide) (by first | omega | assumption | decide) (by first | omega | assumption | decide) (by first | omega | assumption | decide)) (cwV 2 hts gX5_spends_X5_code rfl rfl rfl (by decide +kernel) ⟨Nat.le_of_ble_eq_true rfl, Nat.le_of_ble_eq_true rfl⟩) ⟨x_blindR, va_recv hK hP (ci := 5) (q0 := 0) rfl rfl, x_preR (hP.sub (ws' := [(mm, .inr (5, [.ref mn, .ref mh, .int kp, .ref ms, .int fl, .ref mr, .ref md, .ref mo, .ref mc, .int ty, .ref mt, .int at9, .int nu, .ref mq])), (mn, .inl (cI, 578, .inl (mkM D1 S1 R1 N1 K1 L1))), (mr, .inl (cI, 25, .inl (x_srF))), (md, .inl (cI, 25, .inl (x_sdF)))]) [0, 1, 2, 3] rfl) hK hE hS⟩ rfl rfl hl.1 rfl (lv_room (Nat.le_of_ble_eq_true rfl)) dX5_spends_14 ⟨(Nat.le_of_ble_eq_true rfl), (Nat.le_of_ble_eq_true rfl)⟩) ?_
        have cv25 := cdV_le (D := D1) (S := S1) (t := j) (Tl := Tl)
        refine x_callR (va_runS (As := [.int (nI (cdV D1 S1 j Tl))]) (rest := [.int n]) ⟨hx, hb, hml, hown, hts⟩ (c_X5_bits l D cI cC cS tt (cdV D1 S1 j Tl) (by first | omega | assumption | decide)) (va_cwS 1 hts gX5_spends_X5_bits rfl rfl rfl (by decide +kernel) ⟨Nat.le_of_ble_eq_true rfl, Nat.le_of_ble_eq_true rfl⟩) ⟨x_blindR, x_preR (hP.sub (ws' := []) [] rfl) hK hE hS⟩ rfl rfl hl.1 rfl (lv_room (Nat.le_of_ble_eq_true rfl)) dX5_spends_17 ⟨(Nat.le_of_ble_eq_true rfl), (Nat.le_of_ble_eq_true rfl)⟩) ?_
        refine lv_iadd hx hb dX5_spends_20 ?_
        refine lv_istore_n (lv' := [(2, .int (n + (nI (btN (cdV D1 S1 j Tl))))), (0, .ref mm), (1, .int tl), (3, .int (nI j))]) hx hb dX5_spends_21 rfl hl (by decide) rfl (fun ls hl => ?_)
        refine lv_iinc (v := nI (j + 1)) (lv' := [(3, .int (nI (j + 1))), (2, .int (n + (nI (btN (cdV D1 S1 j Tl))))), (0, .ref mm), (1, .int tl)]) hx hb dX5_spends_22 hl (k := 3) rfl (nI_add _ _) (by decide) rfl (fun ls hl => ?_)
        refine lv_goto (tgt := 4) hx hb dX5_spends_25 (by decide) ?_
        exact ih4 (j + 1) (n + (nI (btN (cdV D1 S1 j Tl)))) (by first | omega | assumption | rfl) (by rw [sm_s, ← hi4_1]) (by omega) ls (lv_sub hl [2, 3, 1, 0] rfl)
  exact L4 _ 0 0 (by first | omega | assumption | rfl) rfl (Nat.lt_succ_self _) ls (lv_sub hl [2, 3, 1, 0] rfl)
set_option maxHeartbeats 4000000 in
set_option maxRecDepth 100000 in
theorem c_X5_needs (l : Launch) (D : va_G) (cI cC cS : ClassId) (tt : Nat → Nat) (mm : Nat) (mn : Nat) (mh : Nat) (ms : Nat) (mr : Nat) (md : Nat) (mo : Nat) (mc : Nat) (mt : Nat) (mq : Nat) (kp : Int32) (fl : Int32) (ty : Int32) (at9 : Int32) (nu : Int32) (D1 : Nat → Int32) (S1 : Nat → Int32) (R1 : Nat → Int32) (N1 : Nat → Int32) (K1 : Int32) (L1 : Nat → Int32) (Ls : Nat) (hh0 : N1 1 = nI Ls) (hh1 : Ls ≤ 240) (hh2 : 9 ≤ (N1 0 + N1 3).toInt) (hh3 : lvB D1) (hh4 : lvB S1) : Met l yX5_needs wsX5_needs ({ frames := 6, cells := 0, slots := 0, locals := 143 } : Room) (x_PR D cI cC cS tt [(mm, .inr (5, [.ref mn, .ref mh, .int kp, .ref ms, .int fl, .ref mr, .ref md, .ref mo, .ref mc, .int ty, .ref mt, .int at9, .int nu, .ref mq])), (mn, .inl (cI, 578, .inl (mkM D1 S1 R1 N1 K1 L1))), (mr, .inl (cI, 25, .inl (x_srF))), (md, .inl (cI, 25, .inl (x_sdF)))] [.ref mm]) (QcRead (nI (ntV D1 S1 Ls (N1 0 + N1 3).toInt))) 0 0 (fun _ => False) := by
  refine Met.ofW (cc := cX5_needs) (maxL := 2) (ret := (some .int)) (by decide) rfl ?_
  intro p e s m args below meth c s₁ hBd hml hv
  obtain ⟨rfl, hP, hK, hE⟩ := hv
  have hx := hBd.exec
  have hb := hBd.bytes
  have hr := hBd.returns
  have hts := atoms_spec (ws := wsX5_needs) hBd.pre
  have hown : s.vm.findClass RX5 = some m.cls := findClass_of_methodNamed hBd.named
  have hlocks := hBd.notSynchronized
  have hS : va_S (fun _ => False) s.heap s.heap [] := va_S.rf
  have hl := lv_entry ([.ref mm]) (n := 2) (Nat.le_of_ble_eq_true rfl)
  rw [lg_entry_eq]
  generalize (lg_sl ([.ref mm]) ++ List.replicate (2 - (lg_sl ([.ref mm])).length) Slot.unset).toArray = ls at hl ⊢
  have hl : lv_has ls 2 [(0, .ref mm)] := hl
  refine x_genQ (fun Q hQ => ?_)
  refine lv_aload_n hx hb dX5_needs_0 rfl (lv_at hl 0 rfl) ?_
  refine va_get (v := .ref mn) (D := D) (ci := 5) (C := RX5) (T := TX5) (N := 14) hx hb hts (by decide +kernel) hown hK hP 0 rfl rfl 0 (by decide) (hts (.fieldLink RX5 7 "SpiralFramesModel" "now" "[I") (by decide +kernel)) (fun _ h9 => h9) rfl dX5_needs_1 ?_
  refine lv_sipush (v := 433) hx hb dX5_needs_4 (by decide) ?_
  refine x_eqi (show (433 : Int32) = nI 433 from by decide) ?_
  refine x_iald hx hb hK hP 1 0 rfl rfl (k := 433) (by omega) (by decide) dX5_needs_7 ?_
  refine x_eqi (show (mkM D1 S1 R1 N1 K1 L1) 433 = N1 1 from (mkM_N (j := 1) (by omega) (by omega))) ?_
  refine x_eqi (show N1 1 = nI Ls from hh0) ?_
  refine lv_istore_n (lv' := [(1, .int (nI Ls)), (0, .ref mm)]) hx hb dX5_needs_8 rfl hl (by decide) rfl (fun ls hl => ?_)
  have L9 : ∀ (fuel : Nat) (q : Nat), (q ≤ 240) → (ntV D1 S1 Ls (N1 0 + N1 3).toInt = fsQ (fun t => decide ((bwV D1 S1 ((t : Nat) : Int)).toInt ≤ (N1 0 + N1 3).toInt)) q (240 - q)) → 241 - q < fuel → ∀ (ls : Array Slot), lv_has ls 2 [(0, .ref mm), (1, .int (nI q))] → W p l e (headSpec wsX5_needs ({ frames := 6, cells := 0, slots := 0, locals := 143 } : Room)).room s m ([.ref mm] : List Value).toArray below meth c s.heap [] 0 0 Q (F0 m 9 ls []) := by
    intro fuel
    induction fuel with
    | zero =>
      intro q hi9_0 hi9_1 hfu
      exact absurd hfu (Nat.not_lt_zero _)
    | succ fuel ih9 =>
      intro q hi9_0 hi9_1 hfu9 ls hl
      refine lv_aload_n hx hb dX5_needs_9 rfl (lv_at hl 0 rfl) ?_
      refine lv_iload_n hx hb dX5_needs_10 rfl (lv_at hl 1 rfl) ?_
      refine x_callR (va_runV (As := [.int (nI q)]) (rest := []) ⟨hx, hb, hml, hown, hts⟩ (c_X5_spends l D cI cC cS tt mm mn mh ms mr md mo mc mt mq kp fl ty at9 nu D1 S1 R1 N1 K1 L1 (nI q) ((q : Nat) : Int) (nI_toI (by omega)) (by first | omega | assumption | decide) (by first | omega | assumption | decide) (by first | omega | assumption | decide)) (cwV 1 hts gX5_needs_X5_spends rfl rfl rfl (by decide +kernel) ⟨Nat.le_of_ble_eq_true rfl, Nat.le_of_ble_eq_true rfl⟩) ⟨x_blindR, va_recv hK hP (ci := 5) (q0 := 0) rfl rfl, x_preR (hP.sub (ws' := [(mm, .inr (5, [.ref mn, .ref mh, .int kp, .ref ms, .int fl, .ref mr, .ref md, .ref mo, .ref mc, .int ty, .ref mt, .int at9, .int nu, .ref mq])), (mn, .inl (cI, 578, .inl (mkM D1 S1 R1 N1 K1 L1))), (mr, .inl (cI, 25, .inl (x_srF))), (md, .inl (cI, 25, .inl (x_sdF)))]) [0, 1, 2, 3] rfl) hK hE hS⟩ rfl rfl hl.1 rfl (lv_room (Nat.le_of_ble_eq_true rfl)) dX5_needs_11 ⟨(Nat.le_of_ble_eq_true rfl), (Nat.le_of_ble_eq_true rfl)⟩) ?_
      refine lv_aload_n hx hb dX5_needs_14 rfl (lv_at hl 0 rfl) ?_
      refine va_get (v := .ref mn) (D := D) (ci := 5) (C := RX5) (T := TX5) (N := 14) hx hb hts (by decide +kernel) hown hK hP 0 rfl rfl 0 (by decide) (hts (.fieldLink RX5 7 "SpiralFramesModel" "now" "[I") (by decide +kernel)) (fun _ h9 => h9) rfl dX5_needs_15 ?_
      refine lv_sipush (v := 432) hx hb dX5_needs_18 (by decide) ?_
      refine x_eqi (show (432 : Int32) = nI 432 from by decide) ?_
      refine x_iald hx hb hK hP 1 0 rfl rfl (k := 432) (by omega) (by decide) dX5_needs_21 ?_
      refine x_eqi (show (mkM D1 S1 R1 N1 K1 L1) 432 = N1 0 from (mkM_N (j := 0) (by omega) (by omega))) ?_
      refine lv_aload_n hx hb dX5_needs_22 rfl (lv_at hl 0 rfl) ?_
      refine va_get (v := .ref mn) (D := D) (ci := 5) (C := RX5) (T := TX5) (N := 14) hx hb hts (by decide +kernel) hown hK hP 0 rfl rfl 0 (by decide) (hts (.fieldLink RX5 7 "SpiralFramesModel" "now" "[I") (by decide +kernel)) (fun _ h9 => h9) rfl dX5_needs_23 ?_
      refine lv_sipush (v := 435) hx hb dX5_needs_26 (by decide) ?_
      refine x_eqi (show (435 : Int32) = nI 435 from by decide) ?_
      refine x_iald hx hb hK hP 1 0 rfl rfl (k := 435) (by omega) (by decide) dX5_needs_29 ?_
      refine x_eqi (show (mkM D1 S1 R1 N1 K1 L1) 435 = N1 3 from (mkM_N (j := 3) (by omega) (by omega))) ?_
      refine lv_iadd hx hb dX5_needs_30 ?_
      refine x_icmp_le (tgt := 40) hx hb dX5_needs_31 (by decide) (X := (bwV D1 S1 ((q : Nat) : Int)).toInt) rfl (Y := ((N1 0) + (N1 3)).toInt) rfl (fun c_31 => ?_) (fun c_31 => ?_)
      · skip
        refine lv_iload_n hx hb dX5_needs_40 rfl (lv_at hl 1 rfl) ?_
        exact x_iretR hQ hx hb hr hlocks (by rw [hi9_1]; rcases (show q < 240 ∨ q = 240 by omega) with z | z; rw [fsQ_t (by omega) (decide_eq_true (by omega))]; subst z; rfl) dX5_needs_41
      · skip
        refine lv_iinc (v := nI (q + 1)) (lv' := [(1, .int (nI (q + 1))), (0, .ref mm)]) hx hb dX5_needs_34 hl (k := 1) rfl (nI_add _ _) (by decide) rfl (fun ls hl => ?_)
        refine lv_goto (tgt := 9) hx hb dX5_needs_37 (by decide) ?_
        exact ih9 (q + 1) (by have e := nt_lt hh3 hh4 hh2 hi9_0 c_31; omega) (by have e := nt_lt hh3 hh4 hh2 hi9_0 c_31; rw [hi9_1, fsQ_f (by omega) (fun z => absurd (of_decide_eq_true z) (by omega)), show 240 - q - 1 = 240 - (q + 1) by omega]) (by have e := nt_lt hh3 hh4 hh2 hi9_0 c_31; omega) ls (lv_sub hl [1, 0] rfl)
  exact L9 _ Ls (by first | omega | assumption | rfl) rfl (Nat.lt_succ_self _) ls (lv_sub hl [1, 0] rfl)
set_option maxHeartbeats 4000000 in
set_option maxRecDepth 100000 in
theorem c_X5_whole (l : Launch) (D : va_G) (cI cC cS : ClassId) (tt : Nat → Nat) (mm : Nat) (mn : Nat) (mh : Nat) (ms : Nat) (mr : Nat) (md : Nat) (mo : Nat) (mc : Nat) (mt : Nat) (mq : Nat) (kp : Int32) (fl : Int32) (ty : Int32) (at9 : Int32) (nu : Int32) (D1 : Nat → Int32) (S1 : Nat → Int32) (R1 : Nat → Int32) (N1 : Nat → Int32) (K1 : Int32) (L1 : Nat → Int32) (Pi : Nat) (Po : Nat) (hh0 : Pi < 3) (hh1 : Po < 3) : Met l yX5_whole wsX5_whole ({ frames := 3, cells := 0, slots := 0, locals := 74 } : Room) (x_PR D cI cC cS tt [(mm, .inr (5, [.ref mn, .ref mh, .int kp, .ref ms, .int fl, .ref mr, .ref md, .ref mo, .ref mc, .int ty, .ref mt, .int at9, .int nu, .ref mq])), (mn, .inl (cI, 578, .inl (mkM D1 S1 R1 N1 K1 L1)))] [.ref mm, .int (nI Pi), .int (nI Po)]) (QcRead (wdS (pkN D1 S1 R1 Pi) (pkN D1 S1 R1 Po))) 0 0 (fun _ => False) := by
  refine Met.ofW (cc := cX5_whole) (maxL := 5) (ret := (some .int)) (by decide) rfl ?_
  intro p e s m args below meth c s₁ hBd hml hv
  obtain ⟨rfl, hP, hK, hE⟩ := hv
  have hx := hBd.exec
  have hb := hBd.bytes
  have hr := hBd.returns
  have hts := atoms_spec (ws := wsX5_whole) hBd.pre
  have hown : s.vm.findClass RX5 = some m.cls := findClass_of_methodNamed hBd.named
  have hlocks := hBd.notSynchronized
  have hS : va_S (fun _ => False) s.heap s.heap [] := va_S.rf
  have hl := lv_entry ([.ref mm, .int (nI Pi), .int (nI Po)]) (n := 5) (Nat.le_of_ble_eq_true rfl)
  rw [lg_entry_eq]
  generalize (lg_sl ([.ref mm, .int (nI Pi), .int (nI Po)]) ++ List.replicate (5 - (lg_sl ([.ref mm, .int (nI Pi), .int (nI Po)])).length) Slot.unset).toArray = ls at hl ⊢
  have hl : lv_has ls 5 [(0, .ref mm), (1, .int (nI Pi)), (2, .int (nI Po))] := hl
  refine x_genQ (fun Q hQ => ?_)
  refine lv_iconst (v := 0) hx hb dX5_whole_0 (by decide) ?_
  refine lv_istore_n (lv' := [(3, .int 0), (0, .ref mm), (1, .int (nI Pi)), (2, .int (nI Po))]) hx hb dX5_whole_1 rfl hl (by decide) rfl (fun ls hl => ?_)
  refine lv_iconst (v := 0) hx hb dX5_whole_2 (by decide) ?_
  refine lv_istore (lv' := [(4, .int 0), (3, .int 0), (0, .ref mm), (1, .int (nI Pi)), (2, .int (nI Po))]) hx hb dX5_whole_3 hl (by decide) rfl (fun ls hl => ?_)
  have L5 : ∀ (fuel : Nat) (j : Nat) (n : Int32), (j ≤ 9) → (n = sm (fun t => tdS (pkN D1 S1 R1 Pi) (pkN D1 S1 R1 Po) t 0) j) → 9 - j < fuel → ∀ (ls : Array Slot), lv_has ls 5 [(0, .ref mm), (1, .int (nI Pi)), (2, .int (nI Po)), (3, .int n), (4, .int (nI j))] → W p l e (headSpec wsX5_whole ({ frames := 3, cells := 0, slots := 0, locals := 74 } : Room)).room s m ([.ref mm, .int (nI Pi), .int (nI Po)] : List Value).toArray below meth c s.heap [] 0 0 Q (F0 m 5 ls []) := by
    intro fuel
    induction fuel with
    | zero =>
      intro j n hi5_0 hi5_1 hfu
      exact absurd hfu (Nat.not_lt_zero _)
    | succ fuel ih5 =>
      intro j n hi5_0 hi5_1 hfu5 ls hl
      refine lv_iload hx hb dX5_whole_5 (lv_at hl 4 rfl) ?_
      refine lv_bipush (v := 9) hx hb dX5_whole_7 (by decide) ?_
      refine x_icmp_ge (tgt := 31) hx hb dX5_whole_9 (by decide) (X := ((j : Nat) : Int)) (nI_toI (by omega)) (Y := 9) (show (9 : Int32).toInt = 9 from by decide) (fun c_9 => ?_) (fun c_9 => ?_)
      · skip
        refine lv_iload_n hx hb dX5_whole_31 rfl (lv_at hl 3 rfl) ?_
        exact x_iretR hQ hx hb hr hlocks (by rw [hi5_1, show j = 9 by omega]; rfl) dX5_whole_32
      · skip
        refine lv_iload_n hx hb dX5_whole_12 rfl (lv_at hl 3 rfl) ?_
        refine lv_aload_n hx hb dX5_whole_13 rfl (lv_at hl 0 rfl) ?_
        refine lv_iload_n hx hb dX5_whole_14 rfl (lv_at hl 1 rfl) ?_
        refine lv_iload_n hx hb dX5_whole_15 rfl (lv_at hl 2 rfl) ?_
        refine lv_iload hx hb dX5_whole_16 (lv_at hl 4 rfl) ?_
        refine lv_iconst (v := 0) hx hb dX5_whole_18 (by decide) ?_
        refine lv_iconst (v := 0) hx hb dX5_whole_19 (by decide) ?_
        refine x_callR (va_runV (As := [.int (nI Pi), .int (nI Po), .int (nI j), .int 0, .int 0]) (rest := [.int n]) ⟨hx, hb, hml, hown, hts⟩ (c_X5_apart l D cI cC cS tt mm mn mh ms mr md mo mc mt mq kp fl ty at9 nu D1 S1 R1 N1 K1 L1 Pi Po j 0 0 0 (show (0 : Int32).toInt = 0 from by decide) 0 0 (show (0 : Int32).toInt = 0 from by decide) (by first | omega | assumption | decide) (by first | omega | assumption | decide) (by first | omega | assumption | decide) rfl rfl (by first | omega | assumption | decide)) (cwV 5 hts gX5_whole_X5_apart rfl rfl rfl (by decide +kernel) ⟨Nat.le_of_ble_eq_true rfl, Nat.le_of_ble_eq_true rfl⟩) ⟨x_blindR, va_recv hK hP (ci := 5) (q0 := 0) rfl rfl, x_preR (hP.sub (ws' := [(mm, .inr (5, [.ref mn, .ref mh, .int kp, .ref ms, .int fl, .ref mr, .ref md, .ref mo, .ref mc, .int ty, .ref mt, .int at9, .int nu, .ref mq])), (mn, .inl (cI, 578, .inl (mkM D1 S1 R1 N1 K1 L1)))]) [0, 1] rfl) hK hE hS⟩ rfl rfl hl.1 rfl (lv_room (Nat.le_of_ble_eq_true rfl)) dX5_whole_20 ⟨(Nat.le_of_ble_eq_true rfl), (Nat.le_of_ble_eq_true rfl)⟩) ?_
        refine x_eqi (show dfw (pkN D1 S1 R1 Pi) (pkN D1 S1 R1 Po) j 0 = tdS (pkN D1 S1 R1 Pi) (pkN D1 S1 R1 Po) j 0 from (dfw_0 (by omega))) ?_
        refine lv_iadd hx hb dX5_whole_23 ?_
        refine lv_istore_n (lv' := [(3, .int (n + (tdS (pkN D1 S1 R1 Pi) (pkN D1 S1 R1 Po) j 0))), (0, .ref mm), (1, .int (nI Pi)), (2, .int (nI Po)), (4, .int (nI j))]) hx hb dX5_whole_24 rfl hl (by decide) rfl (fun ls hl => ?_)
        refine lv_iinc (v := nI (j + 1)) (lv' := [(4, .int (nI (j + 1))), (3, .int (n + (tdS (pkN D1 S1 R1 Pi) (pkN D1 S1 R1 Po) j 0))), (0, .ref mm), (1, .int (nI Pi)), (2, .int (nI Po))]) hx hb dX5_whole_25 hl (k := 4) rfl (nI_add _ _) (by decide) rfl (fun ls hl => ?_)
        refine lv_goto (tgt := 5) hx hb dX5_whole_28 (by decide) ?_
        exact ih5 (j + 1) (n + (tdS (pkN D1 S1 R1 Pi) (pkN D1 S1 R1 Po) j 0)) (by first | omega | assumption | rfl) (by rw [sm_s, ← hi5_1]) (by omega) ls (lv_sub hl [2, 3, 4, 1, 0] rfl)
  exact L5 _ 0 0 (by first | omega | assumption | rfl) rfl (Nat.lt_succ_self _) ls (lv_sub hl [2, 3, 4, 1, 0] rfl)
