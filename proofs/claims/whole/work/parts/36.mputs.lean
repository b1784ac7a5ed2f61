set_option maxHeartbeats 4000000 in
set_option maxRecDepth 100000 in
theorem c_X5_puts_1 (l : Launch) (D : va_G) (cI cC cS : ClassId) (tt : Nat → Nat) (sz : Nat) (mm : Nat) (mn : Nat) (mh : Nat) (ms : Nat) (mr : Nat) (md : Nat) (mo : Nat) (mc : Nat) (mt : Nat) (mq : Nat) (kp : Int32) (fl : Int32) (ty : Int32) (at9 : Int32) (nu : Int32) (D1 : Nat → Int32) (S1 : Nat → Int32) (R1 : Nat → Int32) (N1 : Nat → Int32) (K1 : Int32) (L1 : Nat → Int32) (ol : Nat → Int32) (cq : Nat → Int32) (cd : Nat → Nat) (hh0 : ∀ t9, t9 < 9 → cq t9 = nI (cd t9)) (hh1 : ∀ t9, t9 < 9 → cd t9 = 25 ∨ (cd t9 < 25 ∧ wIn t9 (cd t9))) : Met l yX5_puts wsX5_puts ({ frames := 1, cells := 0, slots := 0, locals := 22 } : Room) (x_PW D cI cC cS tt [(mm, .inr (5, [.ref mn, .ref mh, .int kp, .ref ms, .int fl, .ref mr, .ref md, .ref mo, .ref mc, .int ty, .ref mt, .int at9, .int nu, .ref mq])), (mn, .inl (cI, 578, .inl (mkM D1 S1 R1 N1 K1 L1))), (mr, .inl (cI, 25, .inl (x_srF))), (md, .inl (cI, 25, .inl (x_sdF))), (mo, .inl (cI, 144, .inl (ol))), (mc, .inl (cI, 9, .inl (cq)))] sz [.ref mm, .int 1]) (x_QWv D [(mm, .inr (5, [.ref mn, .ref mh, .int kp, .ref ms, .int fl, .ref mr, .ref md, .ref mo, .ref mc, .int ty, .ref mt, .int at9, .int nu, .ref mq])), (mn, .inl (cI, 578, .inl (mkM D1 S1 R1 N1 K1 L1))), (mr, .inl (cI, 25, .inl (x_srF))), (md, .inl (cI, 25, .inl (x_sdF))), (mo, .inl (cI, 144, .inl (ol))), (mc, .inl (cI, 9, .inl (cq)))] sz (fun (w : va_W) => ∃ (ol2 : Nat → Int32), w = [(mm, .inr (5, [.ref mn, .ref mh, .int kp, .ref ms, .int fl, .ref mr, .ref md, .ref mo, .ref mc, .int ty, .ref mt, .int at9, .int nu, .ref mq])), (mn, .inl (cI, 578, .inl (mkM D1 (apS D1 S1 cd) R1 N1 K1 L1))), (mr, .inl (cI, 25, .inl (x_srF))), (md, .inl (cI, 25, .inl (x_sdF))), (mo, .inl (cI, 144, .inl (ol2))), (mc, .inl (cI, 9, .inl (cq)))])) 0 0 (va_A [(mm, .inr (5, [.ref mn, .ref mh, .int kp, .ref ms, .int fl, .ref mr, .ref md, .ref mo, .ref mc, .int ty, .ref mt, .int at9, .int nu, .ref mq])), (mn, .inl (cI, 578, .inl (mkM D1 S1 R1 N1 K1 L1))), (mr, .inl (cI, 25, .inl (x_srF))), (md, .inl (cI, 25, .inl (x_sdF))), (mo, .inl (cI, 144, .inl (ol))), (mc, .inl (cI, 9, .inl (cq)))] sz) := by
  refine Met.ofW (cc := cX5_puts) (maxL := 7) (ret := none) (by decide) rfl ?_
  intro p e s m args below meth c s₁ hBd hml hv
  obtain ⟨rfl, hsz, hP, hK, hD0, hE0⟩ := hv
  have hx := hBd.exec
  have hb := hBd.bytes
  have hr := hBd.returns
  have hts := atoms_spec (ws := wsX5_puts) hBd.pre
  have hown : s.vm.findClass RX5 = some m.cls := findClass_of_methodNamed hBd.named
  have hlocks := hBd.notSynchronized
  subst hsz
  obtain ⟨Ar, hAe⟩ : ∃ Ar : Nat → Prop, Ar = va_A [(mm, .inr (5, [.ref mn, .ref mh, .int kp, .ref ms, .int fl, .ref mr, .ref md, .ref mo, .ref mc, .int ty, .ref mt, .int at9, .int nu, .ref mq])), (mn, .inl (cI, 578, .inl (mkM D1 S1 R1 N1 K1 L1))), (mr, .inl (cI, 25, .inl (x_srF))), (md, .inl (cI, 25, .inl (x_sdF))), (mo, .inl (cI, 144, .inl (ol))), (mc, .inl (cI, 9, .inl (cq)))] s.heap.size := ⟨_, rfl⟩
  have hD : va_D Ar [(mm, .inr (5, [.ref mn, .ref mh, .int kp, .ref ms, .int fl, .ref mr, .ref md, .ref mo, .ref mc, .int ty, .ref mt, .int at9, .int nu, .ref mq])), (mn, .inl (cI, 578, .inl (mkM D1 S1 R1 N1 K1 L1))), (mr, .inl (cI, 25, .inl (x_srF))), (md, .inl (cI, 25, .inl (x_sdF))), (mo, .inl (cI, 144, .inl (ol))), (mc, .inl (cI, 9, .inl (cq)))] := by rw [hAe]; exact hD0.self
  have hA : ∀ q : Nat, s.heap.size ≤ q → Ar q := fun q h => by rw [hAe]; exact Or.inr h
  have hE : x_E tt Ar s := by rw [hAe]; exact hE0
  have hS : va_S Ar s.heap s.heap [] := va_S.rf
  have hl := lv_entry ([.ref mm, .int 1]) (n := 7) (Nat.le_of_ble_eq_true rfl)
  rw [lg_entry_eq]
  generalize (lg_sl ([.ref mm, .int 1]) ++ List.replicate (7 - (lg_sl ([.ref mm, .int 1])).length) Slot.unset).toArray = ls at hl ⊢
  have hl : lv_has ls 7 [(0, .ref mm), (1, .int 1)] := hl
  refine x_genQ (fun Q hQ => ?_)
  refine lv_iconst (v := 0) hx hb dX5_puts_0 (by decide) ?_
  refine lv_istore_n (lv' := [(2, .int 0), (0, .ref mm), (1, .int 1)]) hx hb dX5_puts_1 rfl hl (by decide) rfl (fun ls hl => ?_)
  have L2 : ∀ (fuel : Nat) (j : Nat) (f : Nat → Int32), (j ≤ 144) → (f = cpF ol S1 0 j) → 144 - j < fuel → ∀ (H : Heap) (locs : List Loc), va_P D vwCl [(mm, .inr (5, [.ref mn, .ref mh, .int kp, .ref ms, .int fl, .ref mr, .ref md, .ref mo, .ref mc, .int ty, .ref mt, .int at9, .int nu, .ref mq])), (mn, .inl (cI, 578, .inl (mkM D1 S1 R1 N1 K1 L1))), (mr, .inl (cI, 25, .inl (x_srF))), (md, .inl (cI, 25, .inl (x_sdF))), (mo, .inl (cI, 144, .inl (f))), (mc, .inl (cI, 9, .inl (cq)))] H → va_D (Ar) [(mm, .inr (5, [.ref mn, .ref mh, .int kp, .ref ms, .int fl, .ref mr, .ref md, .ref mo, .ref mc, .int ty, .ref mt, .int at9, .int nu, .ref mq])), (mn, .inl (cI, 578, .inl (mkM D1 S1 R1 N1 K1 L1))), (mr, .inl (cI, 25, .inl (x_srF))), (md, .inl (cI, 25, .inl (x_sdF))), (mo, .inl (cI, 144, .inl (f))), (mc, .inl (cI, 9, .inl (cq)))] → va_S (Ar) s.heap H locs → ∀ (ls : Array Slot), lv_has ls 7 [(0, .ref mm), (1, .int 1), (2, .int (nI j))] → W p l e (headSpec wsX5_puts ({ frames := 1, cells := 0, slots := 0, locals := 22 } : Room)).room s m ([.ref mm, .int 1] : List Value).toArray below meth c H locs 0 0 Q (F0 m 2 ls []) := by
    intro fuel
    induction fuel with
    | zero =>
      intro j f hi2_0 hi2_1 hfu
      exact absurd hfu (Nat.not_lt_zero _)
    | succ fuel ih2 =>
      intro j f hi2_0 hi2_1 hfu2 H locs hP hD hS ls hl
      refine lv_iload_n hx hb dX5_puts_2 rfl (lv_at hl 2 rfl) ?_
      refine lv_sipush (v := 144) hx hb dX5_puts_3 (by decide) ?_
      refine x_icmp_ge (tgt := 33) hx hb dX5_puts_6 (by decide) (X := ((j : Nat) : Int)) (nI_toI (by omega)) (Y := 144) (show (144 : Int32).toInt = 144 from by decide) (fun c_6 => ?_) (fun c_6 => ?_)
      · skip
        refine lv_iconst (v := 0) hx hb dX5_puts_33 (by decide) ?_
        refine lv_istore_n (lv' := [(2, .int 0), (0, .ref mm), (1, .int 1)]) hx hb dX5_puts_34 rfl hl (by decide) rfl (fun ls hl => ?_)
        have L35 : ∀ (fuel : Nat) (t : Nat) (g : Nat → Int32), (t ≤ 9) → (g = apF D1 S1 cd t) → 9 - t < fuel → ∀ (H : Heap) (locs : List Loc), va_P D vwCl [(mm, .inr (5, [.ref mn, .ref mh, .int kp, .ref ms, .int fl, .ref mr, .ref md, .ref mo, .ref mc, .int ty, .ref mt, .int at9, .int nu, .ref mq])), (mn, .inl (cI, 578, .inl (mkM D1 g R1 N1 K1 L1))), (mr, .inl (cI, 25, .inl (x_srF))), (md, .inl (cI, 25, .inl (x_sdF))), (mo, .inl (cI, 144, .inl (f))), (mc, .inl (cI, 9, .inl (cq)))] H → va_D (Ar) [(mm, .inr (5, [.ref mn, .ref mh, .int kp, .ref ms, .int fl, .ref mr, .ref md, .ref mo, .ref mc, .int ty, .ref mt, .int at9, .int nu, .ref mq])), (mn, .inl (cI, 578, .inl (mkM D1 g R1 N1 K1 L1))), (mr, .inl (cI, 25, .inl (x_srF))), (md, .inl (cI, 25, .inl (x_sdF))), (mo, .inl (cI, 144, .inl (f))), (mc, .inl (cI, 9, .inl (cq)))] → va_S (Ar) s.heap H locs → ∀ (ls : Array Slot), lv_has ls 7 [(0, .ref mm), (1, .int 1), (2, .int (nI t))] → W p l e (headSpec wsX5_puts ({ frames := 1, cells := 0, slots := 0, locals := 22 } : Room)).room s m ([.ref mm, .int 1] : List Value).toArray below meth c H locs 0 0 Q (F0 m 35 ls []) := by
          intro fuel
          induction fuel with
          | zero =>
            intro t g hi35_0 hi35_1 hfu
            exact absurd hfu (Nat.not_lt_zero _)
          | succ fuel ih35 =>
            intro t g hi35_0 hi35_1 hfu35 H locs hP hD hS ls hl
            refine lv_iload_n hx hb dX5_puts_35 rfl (lv_at hl 2 rfl) ?_
            refine lv_bipush (v := 9) hx hb dX5_puts_36 (by decide) ?_
            refine x_icmp_ge (tgt := 154) hx hb dX5_puts_38 (by decide) (X := ((t : Nat) : Int)) (nI_toI (by omega)) (Y := 9) (show (9 : Int32).toInt = 9 from by decide) (fun c_38 => ?_) (fun c_38 => ?_)
            · skip
              refine x_vretW (w := [(mm, .inr (5, [.ref mn, .ref mh, .int kp, .ref ms, .int fl, .ref mr, .ref md, .ref mo, .ref mc, .int ty, .ref mt, .int at9, .int nu, .ref mq])), (mn, .inl (cI, 578, .inl (mkM D1 g R1 N1 K1 L1))), (mr, .inl (cI, 25, .inl (x_srF))), (md, .inl (cI, 25, .inl (x_sdF))), (mo, .inl (cI, 144, .inl (f))), (mc, .inl (cI, 9, .inl (cq)))]) hQ hAe hx hb hr hlocks (hP.sub [0, 1, 2, 3, 4, 5] rfl) (hD.sub [0, 1, 2, 3, 4, 5] (by decide) rfl) hS ?_ dX5_puts_154
              exact ⟨_, by rw [hi35_1, apF_end (by omega)]⟩
            · skip
              refine lv_iconst (v := 0) hx hb dX5_puts_41 (by decide) ?_
              refine lv_istore_n (lv' := [(3, .int 0), (0, .ref mm), (1, .int 1), (2, .int (nI t))]) hx hb dX5_puts_42 rfl hl (by decide) rfl (fun ls hl => ?_)
              have L43 : ∀ (fuel : Nat) (k : Nat) (g : Nat → Int32), (k ≤ 16) → (g = apK D1 S1 cd t k) → 16 - k < fuel → ∀ (H : Heap) (locs : List Loc), va_P D vwCl [(mm, .inr (5, [.ref mn, .ref mh, .int kp, .ref ms, .int fl, .ref mr, .ref md, .ref mo, .ref mc, .int ty, .ref mt, .int at9, .int nu, .ref mq])), (mn, .inl (cI, 578, .inl (mkM D1 g R1 N1 K1 L1))), (mr, .inl (cI, 25, .inl (x_srF))), (md, .inl (cI, 25, .inl (x_sdF))), (mo, .inl (cI, 144, .inl (f))), (mc, .inl (cI, 9, .inl (cq)))] H → va_D (Ar) [(mm, .inr (5, [.ref mn, .ref mh, .int kp, .ref ms, .int fl, .ref mr, .ref md, .ref mo, .ref mc, .int ty, .ref mt, .int at9, .int nu, .ref mq])), (mn, .inl (cI, 578, .inl (mkM D1 g R1 N1 K1 L1))), (mr, .inl (cI, 25, .inl (x_srF))), (md, .inl (cI, 25, .inl (x_sdF))), (mo, .inl (cI, 144, .inl (f))), (mc, .inl (cI, 9, .inl (cq)))] → va_S (Ar) s.heap H locs → ∀ (ls : Array Slot), lv_has ls 7 [(0, .ref mm), (1, .int 1), (2, .int (nI t)), (3, .int (nI k))] → W p l e (headSpec wsX5_puts ({ frames := 1, cells := 0, slots := 0, locals := 22 } : Room)).room s m ([.ref mm, .int 1] : List Value).toArray below meth c H locs 0 0 Q (F0 m 43 ls []) := by
                intro fuel
                induction fuel with
                | zero =>
                  intro k g hi43_0 hi43_1 hfu
                  exact absurd hfu (Nat.not_lt_zero _)
                | succ fuel ih43 =>
                  intro k g hi43_0 hi43_1 hfu43 H locs hP hD hS ls hl
                  refine lv_iload_n hx hb dX5_puts_43 rfl (lv_at hl 3 rfl) ?_
                  refine lv_bipush (v := 16) hx hb dX5_puts_44 (by decide) ?_
                  refine x_icmp_ge (tgt := 148) hx hb dX5_puts_46 (by decide) (X := ((k : Nat) : Int)) (nI_toI (by omega)) (Y := 16) (show (16 : Int32).toInt = 16 from by decide) (fun c_46 => ?_) (fun c_46 => ?_)
                  · skip
                    refine lv_iinc (v := nI (t + 1)) (lv' := [(2, .int (nI (t + 1))), (0, .ref mm), (1, .int 1), (3, .int (nI k))]) hx hb dX5_puts_148 hl (k := 2) rfl (nI_add _ _) (by decide) rfl (fun ls hl => ?_)
                    refine lv_goto (tgt := 35) hx hb dX5_puts_151 (by decide) ?_
                    exact ih35 (t + 1) g (by first | omega | assumption | rfl) (by rw [hi43_1]; exact apK_16 (by omega)) (by omega) H locs (hP.sub [0, 1, 2, 3, 4, 5] rfl) (hD.sub [0, 1, 2, 3, 4, 5] (by decide) rfl) hS ls (lv_sub hl [1, 2, 0] rfl)
                  · skip
                    refine lv_iload_n hx hb dX5_puts_49 rfl (lv_at hl 2 rfl) ?_
                    refine x_callR (va_runS (As := [.int (nI t)]) (rest := []) ⟨hx, hb, hml, hown, hts⟩ (c_X5_columnOf l D cI cC cS tt t (by first | omega | assumption | decide)) (va_cwS 1 hts gX5_puts_X5_columnOf rfl rfl rfl (by decide +kernel) ⟨Nat.le_of_ble_eq_true rfl, Nat.le_of_ble_eq_true rfl⟩) ⟨x_blindR, x_preR (hP.sub (ws' := []) [] rfl) hK hE hS⟩ rfl rfl hl.1 rfl (lv_room (Nat.le_of_ble_eq_true rfl)) dX5_puts_50 ⟨(Nat.le_of_ble_eq_true rfl), (Nat.le_of_ble_eq_true rfl)⟩) ?_
                    refine lv_iload_n hx hb dX5_puts_53 rfl (lv_at hl 3 rfl) ?_
                    refine lv_iconst (v := 4) hx hb dX5_puts_54 (by decide) ?_
                    refine lv_irem hx hb dX5_puts_55 (by decide) ?_
                    refine x_eqi (x_rem (a := k) (d := 4) (by omega) (by decide) (by decide)) ?_
                    refine lv_iadd hx hb dX5_puts_56 ?_
                    refine x_eqi (show nI (t % 3 * 4) + nI (k % 4) = nI ((t % 3 * 4) + (k % 4)) from nI_add (t % 3 * 4) (k % 4)) ?_
                    refine lv_istore (lv' := [(4, .int (nI ((t % 3 * 4) + (k % 4)))), (0, .ref mm), (1, .int 1), (2, .int (nI t)), (3, .int (nI k))]) hx hb dX5_puts_57 hl (by decide) rfl (fun ls hl => ?_)
                    refine lv_iload_n hx hb dX5_puts_59 rfl (lv_at hl 3 rfl) ?_
                    refine x_callR (va_runS (As := [.int (nI t)]) (rest := []) ⟨hx, hb, hml, hown, hts⟩ (c_X5_rowOf l D cI cC cS tt t (by first | omega | assumption | decide)) (va_cwS 1 hts gX5_puts_X5_rowOf rfl rfl rfl (by decide +kernel) ⟨Nat.le_of_ble_eq_true rfl, Nat.le_of_ble_eq_true rfl⟩) ⟨x_blindR, x_preR (hP.sub (ws' := []) [] rfl) hK hE hS⟩ rfl rfl hl.1 rfl (lv_room (Nat.le_of_ble_eq_true rfl)) dX5_puts_60 ⟨(Nat.le_of_ble_eq_true rfl), (Nat.le_of_ble_eq_true rfl)⟩) ?_
                    refine lv_iload_n hx hb dX5_puts_63 rfl (lv_at hl 4 rfl) ?_
                    refine lv_iconst (v := 4) hx hb dX5_puts_64 (by decide) ?_
                    refine lv_idiv hx hb dX5_puts_65 (by decide) ?_
                    refine x_eqi (x_div (a := k) (d := 4) (by omega) (by decide) (by decide)) ?_
                    refine lv_iadd hx hb dX5_puts_66 ?_
                    refine x_eqi (show nI (t / 3 * 4) + nI (k / 4) = nI ((t / 3 * 4) + (k / 4)) from nI_add (t / 3 * 4) (k / 4)) ?_
                    refine lv_istore (lv' := [(5, .int (nI ((t / 3 * 4) + (k / 4)))), (4, .int (nI ((t % 3 * 4) + (k % 4)))), (0, .ref mm), (1, .int 1), (2, .int (nI t)), (3, .int (nI k))]) hx hb dX5_puts_67 hl (by decide) rfl (fun ls hl => ?_)
                    refine lv_aload_n hx hb dX5_puts_69 rfl (lv_at hl 2 rfl) ?_
                    refine va_get (v := .ref mc) (D := D) (ci := 5) (C := RX5) (T := TX5) (N := 14) hx hb hts (by decide +kernel) hown hK hP 0 rfl rfl 8 (by decide) (hts (.fieldLink RX5 28 "SpiralFramesModel" "codes" "[I") (by decide +kernel)) (fun _ h9 => h9) rfl dX5_puts_70 ?_
                    refine lv_iload_n hx hb dX5_puts_73 rfl (lv_at hl 4 rfl) ?_
                    refine x_iald hx hb hK hP 5 0 rfl rfl (k := t) (by omega) (by decide) dX5_puts_74 ?_
                    refine x_eqi (show cq t = nI (cd t) from hh0 t (by omega)) ?_
                    refine lv_istore (lv' := [(6, .int (nI (cd t))), (5, .int (nI ((t / 3 * 4) + (k / 4)))), (4, .int (nI ((t % 3 * 4) + (k % 4)))), (0, .ref mm), (1, .int 1), (2, .int (nI t)), (3, .int (nI k))]) hx hb dX5_puts_75 hl (by decide) rfl (fun ls hl => ?_)
                    refine lv_aload_n hx hb dX5_puts_77 rfl (lv_at hl 3 rfl) ?_
                    refine va_get (v := .ref mn) (D := D) (ci := 5) (C := RX5) (T := TX5) (N := 14) hx hb hts (by decide +kernel) hown hK hP 0 rfl rfl 0 (by decide) (hts (.fieldLink RX5 7 "SpiralFramesModel" "now" "[I") (by decide +kernel)) (fun _ h9 => h9) rfl dX5_puts_78 ?_
                    refine lv_iload_n hx hb dX5_puts_81 rfl (lv_at hl 4 rfl) ?_
                    refine lv_iload hx hb dX5_puts_82 (lv_at hl 2 rfl) ?_
                    refine lv_iload hx hb dX5_puts_84 (lv_at hl 1 rfl) ?_
                    refine x_callR (va_runS (As := [.int 1, .int (nI ((t % 3 * 4) + (k % 4))), .int (nI ((t / 3 * 4) + (k / 4)))]) (rest := [.ref mn]) ⟨hx, hb, hml, hown, hts⟩ (c_X5_cell l D cI cC cS tt 1 1 (show (1 : Int32).toInt = 1 from by decide) (nI ((t % 3 * 4) + (k % 4))) (((t % 3 * 4) + (k % 4) : Nat) : Int) (nI_toI (by omega)) (nI ((t / 3 * 4) + (k / 4))) (((t / 3 * 4) + (k / 4) : Nat) : Int) (nI_toI (by omega)) (by first | omega | assumption | decide)) (va_cwS 3 hts gX5_puts_X5_cell rfl rfl rfl (by decide +kernel) ⟨Nat.le_of_ble_eq_true rfl, Nat.le_of_ble_eq_true rfl⟩) ⟨x_blindR, x_preR (hP.sub (ws' := []) [] rfl) hK hE hS⟩ rfl rfl hl.1 rfl (lv_room (Nat.le_of_ble_eq_true rfl)) dX5_puts_86 ⟨(Nat.le_of_ble_eq_true rfl), (Nat.le_of_ble_eq_true rfl)⟩) ?_
                    refine lv_iload hx hb dX5_puts_89 (lv_at hl 0 rfl) ?_
                    refine lv_bipush (v := 25) hx hb dX5_puts_91 (by decide) ?_
                    have cd26 := hh1 t (by omega)
                    refine x_icmp_ne (tgt := 112) hx hb dX5_puts_93 (by decide) (X := ((cd t : Nat) : Int)) (nI_toI (by omega)) (Y := 25) (show (25 : Int32).toInt = 25 from by decide) (fun c_93 => ?_) (fun c_93 => ?_)
                    · skip
                      have hw9 : cd t < 25 ∧ wIn t (cd t) := by (rcases hh1 t (by omega) with z | z; omega; exact z)
                      have bsr := x_sr_b (cd t) hw9.1
                      have bsd := x_sd_b (cd t) hw9.1
                      have hw8 := hw9.2
                      refine lv_aload_n hx hb dX5_puts_112 rfl (lv_at hl 3 rfl) ?_
                      refine va_get (v := .ref mo) (D := D) (ci := 5) (C := RX5) (T := TX5) (N := 14) hx hb hts (by decide +kernel) hown hK hP 0 rfl rfl 7 (by decide) (hts (.fieldLink RX5 25 "SpiralFramesModel" "old" "[I") (by decide +kernel)) (fun _ h9 => h9) rfl dX5_puts_113 ?_
                      refine lv_iconst (v := 0) hx hb dX5_puts_116 (by decide) ?_
                      refine lv_iload hx hb dX5_puts_117 (lv_at hl 2 rfl) ?_
                      refine lv_aload_n hx hb dX5_puts_119 rfl (lv_at hl 3 rfl) ?_
                      refine va_get (v := .ref mr) (D := D) (ci := 5) (C := RX5) (T := TX5) (N := 14) hx hb hts (by decide +kernel) hown hK hP 0 rfl rfl 5 (by decide) (hts (.fieldLink RX5 19 "SpiralFramesModel" "right" "[I") (by decide +kernel)) (fun _ h9 => h9) rfl dX5_puts_120 ?_
                      refine lv_iload hx hb dX5_puts_123 (lv_at hl 0 rfl) ?_
                      refine x_iald hx hb hK hP 2 0 rfl rfl (k := cd t) (by omega) (by decide) dX5_puts_125 ?_
                      refine x_eqi (show x_srF (cd t) = zI (x_sr (cd t)) from rfl) ?_
                      refine lv_iadd hx hb dX5_puts_126 ?_
                      refine lv_iload hx hb dX5_puts_127 (lv_at hl 1 rfl) ?_
                      refine lv_aload_n hx hb dX5_puts_129 rfl (lv_at hl 3 rfl) ?_
                      refine va_get (v := .ref md) (D := D) (ci := 5) (C := RX5) (T := TX5) (N := 14) hx hb hts (by decide +kernel) hown hK hP 0 rfl rfl 6 (by decide) (hts (.fieldLink RX5 22 "SpiralFramesModel" "down" "[I") (by decide +kernel)) (fun _ h9 => h9) rfl dX5_puts_130 ?_
                      refine lv_iload hx hb dX5_puts_133 (lv_at hl 0 rfl) ?_
                      refine x_iald hx hb hK hP 3 0 rfl rfl (k := cd t) (by omega) (by decide) dX5_puts_135 ?_
                      refine x_eqi (show x_sdF (cd t) = zI (x_sd (cd t)) from rfl) ?_
                      refine lv_iadd hx hb dX5_puts_136 ?_
                      refine x_callR (va_runS (As := [.int 0, .int ((nI ((t % 3 * 4) + (k % 4))) + (zI (x_sr (cd t)))), .int ((nI ((t / 3 * 4) + (k / 4))) + (zI (x_sd (cd t))))]) (rest := [.ref mo, .int (zI (144 * 1 + 12 * (((t / 3 * 4) + (k / 4) : Nat) : Int) + (((t % 3 * 4) + (k % 4) : Nat) : Int))), .ref mn]) ⟨hx, hb, hml, hown, hts⟩ (c_X5_cell l D cI cC cS tt 0 0 (show (0 : Int32).toInt = 0 from by decide) ((nI ((t % 3 * 4) + (k % 4))) + (zI (x_sr (cd t)))) ((((t % 3 * 4) + (k % 4) : Nat) : Int) + x_sr (cd t)) (x_addI (nI_toI (by omega)) (x_sr_toI (cd t)) (by omega) (by omega)) ((nI ((t / 3 * 4) + (k / 4))) + (zI (x_sd (cd t)))) ((((t / 3 * 4) + (k / 4) : Nat) : Int) + x_sd (cd t)) (x_addI (nI_toI (by omega)) (x_sd_toI (cd t)) (by omega) (by omega)) (by first | omega | assumption | decide)) (va_cwS 3 hts gX5_puts_X5_cell rfl rfl rfl (by decide +kernel) ⟨Nat.le_of_ble_eq_true rfl, Nat.le_of_ble_eq_true rfl⟩) ⟨x_blindR, x_preR (hP.sub (ws' := []) [] rfl) hK hE hS⟩ rfl rfl hl.1 rfl (lv_room (Nat.le_of_ble_eq_true rfl)) dX5_puts_137 ⟨(Nat.le_of_ble_eq_true rfl), (Nat.le_of_ble_eq_true rfl)⟩) ?_
                      refine x_eqi (show zI (144 * 0 + 12 * ((((t / 3 * 4) + (k / 4) : Nat) : Int) + x_sd (cd t)) + ((((t % 3 * 4) + (k % 4) : Nat) : Int) + x_sr (cd t))) = nI (((144 * 0 + 12 * ((((t / 3 * 4) + (k / 4) : Nat) : Int) + x_sd (cd t)) + ((((t % 3 * 4) + (k % 4) : Nat) : Int) + x_sr (cd t)))).toNat) from x_toNat (zI_toInt (by omega) (by omega)) (by omega)) ?_
                      refine x_iald hx hb hK hP 4 0 rfl rfl (k := ((144 * 0 + 12 * ((((t / 3 * 4) + (k / 4) : Nat) : Int) + x_sd (cd t)) + ((((t % 3 * 4) + (k % 4) : Nat) : Int) + x_sr (cd t)))).toNat) (by omega) (by decide) dX5_puts_140 ?_
                      refine x_eqi (show f (((144 * 0 + 12 * ((((t / 3 * 4) + (k / 4) : Nat) : Int) + x_sd (cd t)) + ((((t % 3 * 4) + (k % 4) : Nat) : Int) + x_sr (cd t)))).toNat) = apP D1 S1 cd ((t / 3 * 4 + k / 4) * 12 + (t % 3 * 4 + k % 4)) from (by rw [hi2_1, cpF_at (by omega)]; exact apP_m (by omega) (by omega) (by omega) hw9.2 (by omega))) ?_
                      refine x_eqi2 (show zI (144 * 1 + 12 * (((t / 3 * 4) + (k / 4) : Nat) : Int) + (((t % 3 * 4) + (k % 4) : Nat) : Int)) = nI (((144 * 1 + 12 * (((t / 3 * 4) + (k / 4) : Nat) : Int) + (((t % 3 * 4) + (k % 4) : Nat) : Int))).toNat) from x_toNat (zI_toInt (by omega) (by omega)) (by omega)) ?_
                      refine x_iastE hx hb hK hP hD hS 1 0 rfl rfl (k := ((144 * 1 + 12 * (((t / 3 * 4) + (k / 4) : Nat) : Int) + (((t % 3 * 4) + (k % 4) : Nat) : Int))).toNat) (g := mkM D1 (upd g ((t / 3 * 4 + k / 4) * 12 + (t % 3 * 4 + k % 4)) (apP D1 S1 cd ((t / 3 * 4 + k / 4) * 12 + (t % 3 * 4 + k % 4)))) R1 N1 K1 L1) (upM_S (j := ((t / 3 * 4 + k / 4) * 12 + (t % 3 * 4 + k % 4))) (by omega) (by omega)) (by omega) (by decide) dX5_puts_141 (fun H locs hP hD hS => ?_)
                      have hP : va_P D vwCl [(mm, .inr (5, [.ref mn, .ref mh, .int kp, .ref ms, .int fl, .ref mr, .ref md, .ref mo, .ref mc, .int ty, .ref mt, .int at9, .int nu, .ref mq])), (mn, .inl (cI, 578, .inl (mkM D1 (upd g ((t / 3 * 4 + k / 4) * 12 + (t % 3 * 4 + k % 4)) (apP D1 S1 cd ((t / 3 * 4 + k / 4) * 12 + (t % 3 * 4 + k % 4)))) R1 N1 K1 L1))), (mr, .inl (cI, 25, .inl (x_srF))), (md, .inl (cI, 25, .inl (x_sdF))), (mo, .inl (cI, 144, .inl (f))), (mc, .inl (cI, 9, .inl (cq)))] H := hP
                      have hD : va_D (Ar) [(mm, .inr (5, [.ref mn, .ref mh, .int kp, .ref ms, .int fl, .ref mr, .ref md, .ref mo, .ref mc, .int ty, .ref mt, .int at9, .int nu, .ref mq])), (mn, .inl (cI, 578, .inl (mkM D1 (upd g ((t / 3 * 4 + k / 4) * 12 + (t % 3 * 4 + k % 4)) (apP D1 S1 cd ((t / 3 * 4 + k / 4) * 12 + (t % 3 * 4 + k % 4)))) R1 N1 K1 L1))), (mr, .inl (cI, 25, .inl (x_srF))), (md, .inl (cI, 25, .inl (x_sdF))), (mo, .inl (cI, 144, .inl (f))), (mc, .inl (cI, 9, .inl (cq)))] := hD
                      refine lv_iinc (v := nI (k + 1)) (lv' := [(3, .int (nI (k + 1))), (6, .int (nI (cd t))), (5, .int (nI ((t / 3 * 4) + (k / 4)))), (4, .int (nI ((t % 3 * 4) + (k % 4)))), (0, .ref mm), (1, .int 1), (2, .int (nI t))]) hx hb dX5_puts_142 hl (k := 6) rfl (nI_add _ _) (by decide) rfl (fun ls hl => ?_)
                      refine lv_goto (tgt := 43) hx hb dX5_puts_145 (by decide) ?_
                      exact ih43 (k + 1) (upd g ((t / 3 * 4 + k / 4) * 12 + (t % 3 * 4 + k % 4)) (apP D1 S1 cd ((t / 3 * 4 + k / 4) * 12 + (t % 3 * 4 + k % 4)))) (by first | omega | assumption | rfl) (by rw [hi43_1]; exact apK_s (by omega) (by omega) rfl) (by omega) H locs (hP.sub [0, 1, 2, 3, 4, 5] rfl) (hD.sub [0, 1, 2, 3, 4, 5] (by decide) rfl) hS ls (lv_sub hl [4, 5, 6, 0] rfl)
                    · skip
                      refine lv_aload_n hx hb dX5_puts_96 rfl (lv_at hl 3 rfl) ?_
                      refine va_get (v := .ref mn) (D := D) (ci := 5) (C := RX5) (T := TX5) (N := 14) hx hb hts (by decide +kernel) hown hK hP 0 rfl rfl 0 (by decide) (hts (.fieldLink RX5 7 "SpiralFramesModel" "now" "[I") (by decide +kernel)) (fun _ h9 => h9) rfl dX5_puts_97 ?_
                      refine lv_iconst (v := 0) hx hb dX5_puts_100 (by decide) ?_
                      refine lv_iload hx hb dX5_puts_101 (lv_at hl 2 rfl) ?_
                      refine lv_iload hx hb dX5_puts_103 (lv_at hl 1 rfl) ?_
                      refine x_callR (va_runS (As := [.int 0, .int (nI ((t % 3 * 4) + (k % 4))), .int (nI ((t / 3 * 4) + (k / 4)))]) (rest := [.ref mn, .int (zI (144 * 1 + 12 * (((t / 3 * 4) + (k / 4) : Nat) : Int) + (((t % 3 * 4) + (k % 4) : Nat) : Int))), .ref mn]) ⟨hx, hb, hml, hown, hts⟩ (c_X5_cell l D cI cC cS tt 0 0 (show (0 : Int32).toInt = 0 from by decide) (nI ((t % 3 * 4) + (k % 4))) (((t % 3 * 4) + (k % 4) : Nat) : Int) (nI_toI (by omega)) (nI ((t / 3 * 4) + (k / 4))) (((t / 3 * 4) + (k / 4) : Nat) : Int) (nI_toI (by omega)) (by first | omega | assumption | decide)) (va_cwS 3 hts gX5_puts_X5_cell rfl rfl rfl (by decide +kernel) ⟨Nat.le_of_ble_eq_true rfl, Nat.le_of_ble_eq_true rfl⟩) ⟨x_blindR, x_preR (hP.sub (ws' := []) [] rfl) hK hE hS⟩ rfl rfl hl.1 rfl (lv_room (Nat.le_of_ble_eq_true rfl)) dX5_puts_105 ⟨(Nat.le_of_ble_eq_true rfl), (Nat.le_of_ble_eq_true rfl)⟩) ?_
                      refine x_eqi (show zI (144 * 0 + 12 * (((t / 3 * 4) + (k / 4) : Nat) : Int) + (((t % 3 * 4) + (k % 4) : Nat) : Int)) = nI (((144 * 0 + 12 * (((t / 3 * 4) + (k / 4) : Nat) : Int) + (((t % 3 * 4) + (k % 4) : Nat) : Int))).toNat) from x_toNat (zI_toInt (by omega) (by omega)) (by omega)) ?_
                      refine x_iald hx hb hK hP 1 0 rfl rfl (k := ((144 * 0 + 12 * (((t / 3 * 4) + (k / 4) : Nat) : Int) + (((t % 3 * 4) + (k % 4) : Nat) : Int))).toNat) (by omega) (by decide) dX5_puts_108 ?_
                      refine x_eqi (show (mkM D1 g R1 N1 K1 L1) (((144 * 0 + 12 * (((t / 3 * 4) + (k / 4) : Nat) : Int) + (((t % 3 * 4) + (k % 4) : Nat) : Int))).toNat) = D1 ((t / 3 * 4 + k / 4) * 12 + (t % 3 * 4 + k % 4)) from (mkM_D (j := ((t / 3 * 4 + k / 4) * 12 + (t % 3 * 4 + k % 4))) (by omega) (by omega))) ?_
                      refine x_eqi (show D1 ((t / 3 * 4 + k / 4) * 12 + (t % 3 * 4 + k % 4)) = apP D1 S1 cd ((t / 3 * 4 + k / 4) * 12 + (t % 3 * 4 + k % 4)) from (apP_w (by omega) (by omega) (by omega))) ?_
                      refine lv_goto (tgt := 141) hx hb dX5_puts_109 (by decide) ?_
                      refine x_eqi2 (show zI (144 * 1 + 12 * (((t / 3 * 4) + (k / 4) : Nat) : Int) + (((t % 3 * 4) + (k % 4) : Nat) : Int)) = nI (((144 * 1 + 12 * (((t / 3 * 4) + (k / 4) : Nat) : Int) + (((t % 3 * 4) + (k % 4) : Nat) : Int))).toNat) from x_toNat (zI_toInt (by omega) (by omega)) (by omega)) ?_
                      refine x_iastE hx hb hK hP hD hS 1 0 rfl rfl (k := ((144 * 1 + 12 * (((t / 3 * 4) + (k / 4) : Nat) : Int) + (((t % 3 * 4) + (k % 4) : Nat) : Int))).toNat) (g := mkM D1 (upd g ((t / 3 * 4 + k / 4) * 12 + (t % 3 * 4 + k % 4)) (apP D1 S1 cd ((t / 3 * 4 + k / 4) * 12 + (t % 3 * 4 + k % 4)))) R1 N1 K1 L1) (upM_S (j := ((t / 3 * 4 + k / 4) * 12 + (t % 3 * 4 + k % 4))) (by omega) (by omega)) (by omega) (by decide) dX5_puts_141 (fun H locs hP hD hS => ?_)
                      have hP : va_P D vwCl [(mm, .inr (5, [.ref mn, .ref mh, .int kp, .ref ms, .int fl, .ref mr, .ref md, .ref mo, .ref mc, .int ty, .ref mt, .int at9, .int nu, .ref mq])), (mn, .inl (cI, 578, .inl (mkM D1 (upd g ((t / 3 * 4 + k / 4) * 12 + (t % 3 * 4 + k % 4)) (apP D1 S1 cd ((t / 3 * 4 + k / 4) * 12 + (t % 3 * 4 + k % 4)))) R1 N1 K1 L1))), (mr, .inl (cI, 25, .inl (x_srF))), (md, .inl (cI, 25, .inl (x_sdF))), (mo, .inl (cI, 144, .inl (f))), (mc, .inl (cI, 9, .inl (cq)))] H := hP
                      have hD : va_D (Ar) [(mm, .inr (5, [.ref mn, .ref mh, .int kp, .ref ms, .int fl, .ref mr, .ref md, .ref mo, .ref mc, .int ty, .ref mt, .int at9, .int nu, .ref mq])), (mn, .inl (cI, 578, .inl (mkM D1 (upd g ((t / 3 * 4 + k / 4) * 12 + (t % 3 * 4 + k % 4)) (apP D1 S1 cd ((t / 3 * 4 + k / 4) * 12 + (t % 3 * 4 + k % 4)))) R1 N1 K1 L1))), (mr, .inl (cI, 25, .inl (x_srF))), (md, .inl (cI, 25, .inl (x_sdF))), (mo, .inl (cI, 144, .inl (f))), (mc, .inl (cI, 9, .inl (cq)))] := hD
                      refine lv_iinc (v := nI (k + 1)) (lv' := [(3, .int (nI (k + 1))), (6, .int (nI (cd t))), (5, .int (nI ((t / 3 * 4) + (k / 4)))), (4, .int (nI ((t % 3 * 4) + (k % 4)))), (0, .ref mm), (1, .int 1), (2, .int (nI t))]) hx hb dX5_puts_142 hl (k := 6) rfl (nI_add _ _) (by decide) rfl (fun ls hl => ?_)
                      refine lv_goto (tgt := 43) hx hb dX5_puts_145 (by decide) ?_
                      exact ih43 (k + 1) (upd g ((t / 3 * 4 + k / 4) * 12 + (t % 3 * 4 + k % 4)) (apP D1 S1 cd ((t / 3 * 4 + k / 4) * 12 + (t % 3 * 4 + k % 4)))) (by first | omega | assumption | rfl) (by rw [hi43_1]; exact apK_s (by omega) (by omega) rfl) (by omega) H locs (hP.sub [0, 1, 2, 3, 4, 5] rfl) (hD.sub [0, 1, 2, 3, 4, 5] (by decide) rfl) hS ls (lv_sub hl [4, 5, 6, 0] rfl)
              exact L43 _ 0 g (by first | omega | assumption | rfl) (by rw [hi35_1]; exact apK_0) (Nat.lt_succ_self _) H locs (hP.sub [0, 1, 2, 3, 4, 5] rfl) (hD.sub [0, 1, 2, 3, 4, 5] (by decide) rfl) hS ls (lv_sub hl [1, 2, 3, 0] rfl)
        exact L35 _ 0 S1 (by first | omega | assumption | rfl) apF_0 (Nat.lt_succ_self _) H locs (hP.sub [0, 1, 2, 3, 4, 5] rfl) (hD.sub [0, 1, 2, 3, 4, 5] (by decide) rfl) hS ls (lv_sub hl [1, 2, 0] rfl)
      · skip
        refine lv_aload_n hx hb dX5_puts_9 rfl (lv_at hl 0 rfl) ?_
        refine va_get (v := .ref mo) (D := D) (ci := 5) (C := RX5) (T := TX5) (N := 14) hx hb hts (by decide +kernel) hown hK hP 0 rfl rfl 7 (by decide) (hts (.fieldLink RX5 25 "SpiralFramesModel" "old" "[I") (by decide +kernel)) (fun _ h9 => h9) rfl dX5_puts_10 ?_
        refine lv_iload_n hx hb dX5_puts_13 rfl (lv_at hl 2 rfl) ?_
        refine lv_aload_n hx hb dX5_puts_14 rfl (lv_at hl 0 rfl) ?_
        refine va_get (v := .ref mn) (D := D) (ci := 5) (C := RX5) (T := TX5) (N := 14) hx hb hts (by decide +kernel) hown hK hP 0 rfl rfl 0 (by decide) (hts (.fieldLink RX5 7 "SpiralFramesModel" "now" "[I") (by decide +kernel)) (fun _ h9 => h9) rfl dX5_puts_15 ?_
        refine lv_sipush (v := 144) hx hb dX5_puts_18 (by decide) ?_
        refine lv_iload_n hx hb dX5_puts_21 rfl (lv_at hl 1 rfl) ?_
        refine lv_imul hx hb dX5_puts_22 ?_
        refine x_eqi (show (144 : Int32) * 1 = 144 from by decide) ?_
        refine lv_iload_n hx hb dX5_puts_23 rfl (lv_at hl 2 rfl) ?_
        refine lv_iadd hx hb dX5_puts_24 ?_
        refine x_eqi (show 144 + nI j = nI (144 + j) from nI_add 144 j) ?_
        refine x_iald hx hb hK hP 1 0 rfl rfl (k := 144 + j) (by omega) (by decide) dX5_puts_25 ?_
        refine x_eqi (show (mkM D1 S1 R1 N1 K1 L1) (144 + j) = S1 j from (mkM_S (j := j) (by omega) (by omega))) ?_
        refine x_iast hx hb hK hP hD hS 4 0 rfl rfl (k := j) (by omega) (by decide) dX5_puts_26 (fun H locs hP hD hS => ?_)
        have hP : va_P D vwCl [(mm, .inr (5, [.ref mn, .ref mh, .int kp, .ref ms, .int fl, .ref mr, .ref md, .ref mo, .ref mc, .int ty, .ref mt, .int at9, .int nu, .ref mq])), (mn, .inl (cI, 578, .inl (mkM D1 S1 R1 N1 K1 L1))), (mr, .inl (cI, 25, .inl (x_srF))), (md, .inl (cI, 25, .inl (x_sdF))), (mo, .inl (cI, 144, .inl (upd f j (S1 j)))), (mc, .inl (cI, 9, .inl (cq)))] H := hP
        have hD : va_D (Ar) [(mm, .inr (5, [.ref mn, .ref mh, .int kp, .ref ms, .int fl, .ref mr, .ref md, .ref mo, .ref mc, .int ty, .ref mt, .int at9, .int nu, .ref mq])), (mn, .inl (cI, 578, .inl (mkM D1 S1 R1 N1 K1 L1))), (mr, .inl (cI, 25, .inl (x_srF))), (md, .inl (cI, 25, .inl (x_sdF))), (mo, .inl (cI, 144, .inl (upd f j (S1 j)))), (mc, .inl (cI, 9, .inl (cq)))] := hD
        refine lv_iinc (v := nI (j + 1)) (lv' := [(2, .int (nI (j + 1))), (0, .ref mm), (1, .int 1)]) hx hb dX5_puts_27 hl (k := 2) rfl (nI_add _ _) (by decide) rfl (fun ls hl => ?_)
        refine lv_goto (tgt := 2) hx hb dX5_puts_30 (by decide) ?_
        exact ih2 (j + 1) (upd f j (S1 j)) (by first | omega | assumption | rfl) (by rw [hi2_1]; exact cpF_s (by omega) rfl) (by omega) H locs (hP.sub [0, 1, 2, 3, 4, 5] rfl) (hD.sub [0, 1, 2, 3, 4, 5] (by decide) rfl) hS ls (lv_sub hl [1, 2, 0] rfl)
  exact L2 _ 0 ol (by first | omega | assumption | rfl) cpF_0 (Nat.lt_succ_self _) s.heap [] (hP.sub [0, 1, 2, 3, 4, 5] rfl) (hD.sub [0, 1, 2, 3, 4, 5] (by decide) rfl) hS ls (lv_sub hl [1, 2, 0] rfl)
set_option maxHeartbeats 4000000 in
set_option maxRecDepth 100000 in
theorem c_X5_puts_2 (l : Launch) (D : va_G) (cI cC cS : ClassId) (tt : Nat → Nat) (sz : Nat) (mm : Nat) (mn : Nat) (mh : Nat) (ms : Nat) (mr : Nat) (md : Nat) (mo : Nat) (mc : Nat) (mt : Nat) (mq : Nat) (kp : Int32) (fl : Int32) (ty : Int32) (at9 : Int32) (nu : Int32) (D1 : Nat → Int32) (S1 : Nat → Int32) (R1 : Nat → Int32) (N1 : Nat → Int32) (K1 : Int32) (L1 : Nat → Int32) (ol : Nat → Int32) (cq : Nat → Int32) (cd : Nat → Nat) (hh0 : ∀ t9, t9 < 9 → cq t9 = nI (cd t9)) (hh1 : ∀ t9, t9 < 9 → cd t9 = 25 ∨ (cd t9 < 25 ∧ wIn t9 (cd t9))) : Met l yX5_puts wsX5_puts ({ frames := 1, cells := 0, slots := 0, locals := 22 } : Room) (x_PW D cI cC cS tt [(mm, .inr (5, [.ref mn, .ref mh, .int kp, .ref ms, .int fl, .ref mr, .ref md, .ref mo, .ref mc, .int ty, .ref mt, .int at9, .int nu, .ref mq])), (mn, .inl (cI, 578, .inl (mkM D1 S1 R1 N1 K1 L1))), (mr, .inl (cI, 25, .inl (x_srF))), (md, .inl (cI, 25, .inl (x_sdF))), (mo, .inl (cI, 144, .inl (ol))), (mc, .inl (cI, 9, .inl (cq)))] sz [.ref mm, .int 2]) (x_QWv D [(mm, .inr (5, [.ref mn, .ref mh, .int kp, .ref ms, .int fl, .ref mr, .ref md, .ref mo, .ref mc, .int ty, .ref mt, .int at9, .int nu, .ref mq])), (mn, .inl (cI, 578, .inl (mkM D1 S1 R1 N1 K1 L1))), (mr, .inl (cI, 25, .inl (x_srF))), (md, .inl (cI, 25, .inl (x_sdF))), (mo, .inl (cI, 144, .inl (ol))), (mc, .inl (cI, 9, .inl (cq)))] sz (fun (w : va_W) => ∃ (ol2 : Nat → Int32), w = [(mm, .inr (5, [.ref mn, .ref mh, .int kp, .ref ms, .int fl, .ref mr, .ref md, .ref mo, .ref mc, .int ty, .ref mt, .int at9, .int nu, .ref mq])), (mn, .inl (cI, 578, .inl (mkM D1 S1 (apS D1 R1 cd) N1 K1 L1))), (mr, .inl (cI, 25, .inl (x_srF))), (md, .inl (cI, 25, .inl (x_sdF))), (mo, .inl (cI, 144, .inl (ol2))), (mc, .inl (cI, 9, .inl (cq)))])) 0 0 (va_A [(mm, .inr (5, [.ref mn, .ref mh, .int kp, .ref ms, .int fl, .ref mr, .ref md, .ref mo, .ref mc, .int ty, .ref mt, .int at9, .int nu, .ref mq])), (mn, .inl (cI, 578, .inl (mkM D1 S1 R1 N1 K1 L1))), (mr, .inl (cI, 25, .inl (x_srF))), (md, .inl (cI, 25, .inl (x_sdF))), (mo, .inl (cI, 144, .inl (ol))), (mc, .inl (cI, 9, .inl (cq)))] sz) := by
  refine Met.ofW (cc := cX5_puts) (maxL := 7) (ret := none) (by decide) rfl ?_
  intro p e s m args below meth c s₁ hBd hml hv
  obtain ⟨rfl, hsz, hP, hK, hD0, hE0⟩ := hv
  have hx := hBd.exec
  have hb := hBd.bytes
  have hr := hBd.returns
  have hts := atoms_spec (ws := wsX5_puts) hBd.pre
  have hown : s.vm.findClass RX5 = some m.cls := findClass_of_methodNamed hBd.named
  have hlocks := hBd.notSynchronized
  subst hsz
  obtain ⟨Ar, hAe⟩ : ∃ Ar : Nat → Prop, Ar = va_A [(mm, .inr (5, [.ref mn, .ref mh, .int kp, .ref ms, .int fl, .ref mr, .ref md, .ref mo, .ref mc, .int ty, .ref mt, .int at9, .int nu, .ref mq])), (mn, .inl (cI, 578, .inl (mkM D1 S1 R1 N1 K1 L1))), (mr, .inl (cI, 25, .inl (x_srF))), (md, .inl (cI, 25, .inl (x_sdF))), (mo, .inl (cI, 144, .inl (ol))), (mc, .inl (cI, 9, .inl (cq)))] s.heap.size := ⟨_, rfl⟩
  have hD : va_D Ar [(mm, .inr (5, [.ref mn, .ref mh, .int kp, .ref ms, .int fl, .ref mr, .ref md, .ref mo, .ref mc, .int ty, .ref mt, .int at9, .int nu, .ref mq])), (mn, .inl (cI, 578, .inl (mkM D1 S1 R1 N1 K1 L1))), (mr, .inl (cI, 25, .inl (x_srF))), (md, .inl (cI, 25, .inl (x_sdF))), (mo, .inl (cI, 144, .inl (ol))), (mc, .inl (cI, 9, .inl (cq)))] := by rw [hAe]; exact hD0.self
  have hA : ∀ q : Nat, s.heap.size ≤ q → Ar q := fun q h => by rw [hAe]; exact Or.inr h
  have hE : x_E tt Ar s := by rw [hAe]; exact hE0
  have hS : va_S Ar s.heap s.heap [] := va_S.rf
  have hl := lv_entry ([.ref mm, .int 2]) (n := 7) (Nat.le_of_ble_eq_true rfl)
  rw [lg_entry_eq]
  generalize (lg_sl ([.ref mm, .int 2]) ++ List.replicate (7 - (lg_sl ([.ref mm, .int 2])).length) Slot.unset).toArray = ls at hl ⊢
  have hl : lv_has ls 7 [(0, .ref mm), (1, .int 2)] := hl
  refine x_genQ (fun Q hQ => ?_)
  refine lv_iconst (v := 0) hx hb dX5_puts_0 (by decide) ?_
  refine lv_istore_n (lv' := [(2, .int 0), (0, .ref mm), (1, .int 2)]) hx hb dX5_puts_1 rfl hl (by decide) rfl (fun ls hl => ?_)
  have L2 : ∀ (fuel : Nat) (j : Nat) (f : Nat → Int32), (j ≤ 144) → (f = cpF ol R1 0 j) → 144 - j < fuel → ∀ (H : Heap) (locs : List Loc), va_P D vwCl [(mm, .inr (5, [.ref mn, .ref mh, .int kp, .ref ms, .int fl, .ref mr, .ref md, .ref mo, .ref mc, .int ty, .ref mt, .int at9, .int nu, .ref mq])), (mn, .inl (cI, 578, .inl (mkM D1 S1 R1 N1 K1 L1))), (mr, .inl (cI, 25, .inl (x_srF))), (md, .inl (cI, 25, .inl (x_sdF))), (mo, .inl (cI, 144, .inl (f))), (mc, .inl (cI, 9, .inl (cq)))] H → va_D (Ar) [(mm, .inr (5, [.ref mn, .ref mh, .int kp, .ref ms, .int fl, .ref mr, .ref md, .ref mo, .ref mc, .int ty, .ref mt, .int at9, .int nu, .ref mq])), (mn, .inl (cI, 578, .inl (mkM D1 S1 R1 N1 K1 L1))), (mr, .inl (cI, 25, .inl (x_srF))), (md, .inl (cI, 25, .inl (x_sdF))), (mo, .inl (cI, 144, .inl (f))), (mc, .inl (cI, 9, .inl (cq)))] → va_S (Ar) s.heap H locs → ∀ (ls : Array Slot), lv_has ls 7 [(0, .ref mm), (1, .int 2), (2, .int (nI j))] → W p l e (headSpec wsX5_puts ({ frames := 1, cells := 0, slots := 0, locals := 22 } : Room)).room s m ([.ref mm, .int 2] : List Value).toArray below meth c H locs 0 0 Q (F0 m 2 ls []) := by
    intro fuel
    induction fuel with
    | zero =>
      intro j f hi2_0 hi2_1 hfu
      exact absurd hfu (Nat.not_lt_zero _)
    | succ fuel ih2 =>
      intro j f hi2_0 hi2_1 hfu2 H locs hP hD hS ls hl
      refine lv_iload_n hx hb dX5_puts_2 rfl (lv_at hl 2 rfl) ?_
      refine lv_sipush (v := 144) hx hb dX5_puts_3 (by decide) ?_
      refine x_icmp_ge (tgt := 33) hx hb dX5_puts_6 (by decide) (X := ((j : Nat) : Int)) (nI_toI (by omega)) (Y := 144) (show (144 : Int32).toInt = 144 from by decide) (fun c_6 => ?_) (fun c_6 => ?_)
      · skip
        refine lv_iconst (v := 0) hx hb dX5_puts_33 (by decide) ?_
        refine lv_istore_n (lv' := [(2, .int 0), (0, .ref mm), (1, .int 2)]) hx hb dX5_puts_34 rfl hl (by decide) rfl (fun ls hl => ?_)
        have L35 : ∀ (fuel : Nat) (t : Nat) (g : Nat → Int32), (t ≤ 9) → (g = apF D1 R1 cd t) → 9 - t < fuel → ∀ (H : Heap) (locs : List Loc), va_P D vwCl [(mm, .inr (5, [.ref mn, .ref mh, .int kp, .ref ms, .int fl, .ref mr, .ref md, .ref mo, .ref mc, .int ty, .ref mt, .int at9, .int nu, .ref mq])), (mn, .inl (cI, 578, .inl (mkM D1 S1 g N1 K1 L1))), (mr, .inl (cI, 25, .inl (x_srF))), (md, .inl (cI, 25, .inl (x_sdF))), (mo, .inl (cI, 144, .inl (f))), (mc, .inl (cI, 9, .inl (cq)))] H → va_D (Ar) [(mm, .inr (5, [.ref mn, .ref mh, .int kp, .ref ms, .int fl, .ref mr, .ref md, .ref mo, .ref mc, .int ty, .ref mt, .int at9, .int nu, .ref mq])), (mn, .inl (cI, 578, .inl (mkM D1 S1 g N1 K1 L1))), (mr, .inl (cI, 25, .inl (x_srF))), (md, .inl (cI, 25, .inl (x_sdF))), (mo, .inl (cI, 144, .inl (f))), (mc, .inl (cI, 9, .inl (cq)))] → va_S (Ar) s.heap H locs → ∀ (ls : Array Slot), lv_has ls 7 [(0, .ref mm), (1, .int 2), (2, .int (nI t))] → W p l e (headSpec wsX5_puts ({ frames := 1, cells := 0, slots := 0, locals := 22 } : Room)).room s m ([.ref mm, .int 2] : List Value).toArray below meth c H locs 0 0 Q (F0 m 35 ls []) := by
          intro fuel
          induction fuel with
          | zero =>
            intro t g hi35_0 hi35_1 hfu
            exact absurd hfu (Nat.not_lt_zero _)
          | succ fuel ih35 =>
            intro t g hi35_0 hi35_1 hfu35 H locs hP hD hS ls hl
            refine lv_iload_n hx hb dX5_puts_35 rfl (lv_at hl 2 rfl) ?_
            refine lv_bipush (v := 9) hx hb dX5_puts_36 (by decide) ?_
            refine x_icmp_ge (tgt := 154) hx hb dX5_puts_38 (by decide) (X := ((t : Nat) : Int)) (nI_toI (by omega)) (Y := 9) (show (9 : Int32).toInt = 9 from by decide) (fun c_38 => ?_) (fun c_38 => ?_)
            · skip
              refine x_vretW (w := [(mm, .inr (5, [.ref mn, .ref mh, .int kp, .ref ms, .int fl, .ref mr, .ref md, .ref mo, .ref mc, .int ty, .ref mt, .int at9, .int nu, .ref mq])), (mn, .inl (cI, 578, .inl (mkM D1 S1 g N1 K1 L1))), (mr, .inl (cI, 25, .inl (x_srF))), (md, .inl (cI, 25, .inl (x_sdF))), (mo, .inl (cI, 144, .inl (f))), (mc, .inl (cI, 9, .inl (cq)))]) hQ hAe hx hb hr hlocks (hP.sub [0, 1, 2, 3, 4, 5] rfl) (hD.sub [0, 1, 2, 3, 4, 5] (by decide) rfl) hS ?_ dX5_puts_154
              exact ⟨_, by rw [hi35_1, apF_end (by omega)]⟩
            · skip
              refine lv_iconst (v := 0) hx hb dX5_puts_41 (by decide) ?_
              refine lv_istore_n (lv' := [(3, .int 0), (0, .ref mm), (1, .int 2), (2, .int (nI t))]) hx hb dX5_puts_42 rfl hl (by decide) rfl (fun ls hl => ?_)
              have L43 : ∀ (fuel : Nat) (k : Nat) (g : Nat → Int32), (k ≤ 16) → (g = apK D1 R1 cd t k) → 16 - k < fuel → ∀ (H : Heap) (locs : List Loc), va_P D vwCl [(mm, .inr (5, [.ref mn, .ref mh, .int kp, .ref ms, .int fl, .ref mr, .ref md, .ref mo, .ref mc, .int ty, .ref mt, .int at9, .int nu, .ref mq])), (mn, .inl (cI, 578, .inl (mkM D1 S1 g N1 K1 L1))), (mr, .inl (cI, 25, .inl (x_srF))), (md, .inl (cI, 25, .inl (x_sdF))), (mo, .inl (cI, 144, .inl (f))), (mc, .inl (cI, 9, .inl (cq)))] H → va_D (Ar) [(mm, .inr (5, [.ref mn, .ref mh, .int kp, .ref ms, .int fl, .ref mr, .ref md, .ref mo, .ref mc, .int ty, .ref mt, .int at9, .int nu, .ref mq])), (mn, .inl (cI, 578, .inl (mkM D1 S1 g N1 K1 L1))), (mr, .inl (cI, 25, .inl (x_srF))), (md, .inl (cI, 25, .inl (x_sdF))), (mo, .inl (cI, 144, .inl (f))), (mc, .inl (cI, 9, .inl (cq)))] → va_S (Ar) s.heap H locs → ∀ (ls : Array Slot), lv_has ls 7 [(0, .ref mm), (1, .int 2), (2, .int (nI t)), (3, .int (nI k))] → W p l e (headSpec wsX5_puts ({ frames := 1, cells := 0, slots := 0, locals := 22 } : Room)).room s m ([.ref mm, .int 2] : List Value).toArray below meth c H locs 0 0 Q (F0 m 43 ls []) := by
                intro fuel
                induction fuel with
                | zero =>
                  intro k g hi43_0 hi43_1 hfu
                  exact absurd hfu (Nat.not_lt_zero _)
                | succ fuel ih43 =>
                  intro k g hi43_0 hi43_1 hfu43 H locs hP hD hS ls hl
                  refine lv_iload_n hx hb dX5_puts_43 rfl (lv_at hl 3 rfl) ?_
                  refine lv_bipush (v := 16) hx hb dX5_puts_44 (by decide) ?_
                  refine x_icmp_ge (tgt := 148) hx hb dX5_puts_46 (by decide) (X := ((k : Nat) : Int)) (nI_toI (by omega)) (Y := 16) (show (16 : Int32).toInt = 16 from by decide) (fun c_46 => ?_) (fun c_46 => ?_)
                  · skip
                    refine lv_iinc (v := nI (t + 1)) (lv' := [(2, .int (nI (t + 1))), (0, .ref mm), (1, .int 2), (3, .int (nI k))]) hx hb dX5_puts_148 hl (k := 2) rfl (nI_add _ _) (by decide) rfl (fun ls hl => ?_)
                    refine lv_goto (tgt := 35) hx hb dX5_puts_151 (by decide) ?_
                    exact ih35 (t + 1) g (by first | omega | assumption | rfl) (by rw [hi43_1]; exact apK_16 (by omega)) (by omega) H locs (hP.sub [0, 1, 2, 3, 4, 5] rfl) (hD.sub [0, 1, 2, 3, 4, 5] (by decide) rfl) hS ls (lv_sub hl [1, 2, 0] rfl)
                  · skip
                    refine lv_iload_n hx hb dX5_puts_49 rfl (lv_at hl 2 rfl) ?_
                    refine x_callR (va_runS (As := [.int (nI t)]) (rest := []) ⟨hx, hb, hml, hown, hts⟩ (c_X5_columnOf l D cI cC cS tt t (by first | omega | assumption | decide)) (va_cwS 1 hts gX5_puts_X5_columnOf rfl rfl rfl (by decide +kernel) ⟨Nat.le_of_ble_eq_true rfl, Nat.le_of_ble_eq_true rfl⟩) ⟨x_blindR, x_preR (hP.sub (ws' := []) [] rfl) hK hE hS⟩ rfl rfl hl.1 rfl (lv_room (Nat.le_of_ble_eq_true rfl)) dX5_puts_50 ⟨(Nat.le_of_ble_eq_true rfl), (Nat.le_of_ble_eq_true rfl)⟩) ?_
                    refine lv_iload_n hx hb dX5_puts_53 rfl (lv_at hl 3 rfl) ?_
                    refine lv_iconst (v := 4) hx hb dX5_puts_54 (by decide) ?_
                    refine lv_irem hx hb dX5_puts_55 (by decide) ?_
                    refine x_eqi (x_rem (a := k) (d := 4) (by omega) (by decide) (by decide)) ?_
                    refine lv_iadd hx hb dX5_puts_56 ?_
                    refine x_eqi (show nI (t % 3 * 4) + nI (k % 4) = nI ((t % 3 * 4) + (k % 4)) from nI_add (t % 3 * 4) (k % 4)) ?_
                    refine lv_istore (lv' := [(4, .int (nI ((t % 3 * 4) + (k % 4)))), (0, .ref mm), (1, .int 2), (2, .int (nI t)), (3, .int (nI k))]) hx hb dX5_puts_57 hl (by decide) rfl (fun ls hl => ?_)
                    refine lv_iload_n hx hb dX5_puts_59 rfl (lv_at hl 3 rfl) ?_
                    refine x_callR (va_runS (As := [.int (nI t)]) (rest := []) ⟨hx, hb, hml, hown, hts⟩ (c_X5_rowOf l D cI cC cS tt t (by first | omega | assumption | decide)) (va_cwS 1 hts gX5_puts_X5_rowOf rfl rfl rfl (by decide +kernel) ⟨Nat.le_of_ble_eq_true rfl, Nat.le_of_ble_eq_true rfl⟩) ⟨x_blindR, x_preR (hP.sub (ws' := []) [] rfl) hK hE hS⟩ rfl rfl hl.1 rfl (lv_room (Nat.le_of_ble_eq_true rfl)) dX5_puts_60 ⟨(Nat.le_of_ble_eq_true rfl), (Nat.le_of_ble_eq_true rfl)⟩) ?_
                    refine lv_iload_n hx hb dX5_puts_63 rfl (lv_at hl 4 rfl) ?_
                    refine lv_iconst (v := 4) hx hb dX5_puts_64 (by decide) ?_
                    refine lv_idiv hx hb dX5_puts_65 (by decide) ?_
                    refine x_eqi (x_div (a := k) (d := 4) (by omega) (by decide) (by decide)) ?_
                    refine lv_iadd hx hb dX5_puts_66 ?_
                    refine x_eqi (show nI (t / 3 * 4) + nI (k / 4) = nI ((t / 3 * 4) + (k / 4)) from nI_add (t / 3 * 4) (k / 4)) ?_
                    refine lv_istore (lv' := [(5, .int (nI ((t / 3 * 4) + (k / 4)))), (4, .int (nI ((t % 3 * 4) + (k % 4)))), (0, .ref mm), (1, .int 2), (2, .int (nI t)), (3, .int (nI k))]) hx hb dX5_puts_67 hl (by decide) rfl (fun ls hl => ?_)
                    refine lv_aload_n hx hb dX5_puts_69 rfl (lv_at hl 2 rfl) ?_
                    refine va_get (v := .ref mc) (D := D) (ci := 5) (C := RX5) (T := TX5) (N := 14) hx hb hts (by decide +kernel) hown hK hP 0 rfl rfl 8 (by decide) (hts (.fieldLink RX5 28 "SpiralFramesModel" "codes" "[I") (by decide +kernel)) (fun _ h9 => h9) rfl dX5_puts_70 ?_
                    refine lv_iload_n hx hb dX5_puts_73 rfl (lv_at hl 4 rfl) ?_
                    refine x_iald hx hb hK hP 5 0 rfl rfl (k := t) (by omega) (by decide) dX5_puts_74 ?_
                    refine x_eqi (show cq t = nI (cd t) from hh0 t (by omega)) ?_
                    refine lv_istore (lv' := [(6, .int (nI (cd t))), (5, .int (nI ((t / 3 * 4) + (k / 4)))), (4, .int (nI ((t % 3 * 4) + (k % 4)))), (0, .ref mm), (1, .int 2), (2, .int (nI t)), (3, .int (nI k))]) hx hb dX5_puts_75 hl (by decide) rfl (fun ls hl => ?_)
                    refine lv_aload_n hx hb dX5_puts_77 rfl (lv_at hl 3 rfl) ?_
                    refine va_get (v := .ref mn) (D := D) (ci := 5) (C := RX5) (T := TX5) (N := 14) hx hb hts (by decide +kernel) hown hK hP 0 rfl rfl 0 (by decide) (hts (.fieldLink RX5 7 "SpiralFramesModel" "now" "[I") (by decide +kernel)) (fun _ h9 => h9) rfl dX5_puts_78 ?_
                    refine lv_iload_n hx hb dX5_puts_81 rfl (lv_at hl 4 rfl) ?_
                    refine lv_iload hx hb dX5_puts_82 (lv_at hl 2 rfl) ?_
                    refine lv_iload hx hb dX5_puts_84 (lv_at hl 1 rfl) ?_
                    refine x_callR (va_runS (As := [.int 2, .int (nI ((t % 3 * 4) + (k % 4))), .int (nI ((t / 3 * 4) + (k / 4)))]) (rest := [.ref mn]) ⟨hx, hb, hml, hown, hts⟩ (c_X5_cell l D cI cC cS tt 2 2 (show (2 : Int32).toInt = 2 from by decide) (nI ((t % 3 * 4) + (k % 4))) (((t % 3 * 4) + (k % 4) : Nat) : Int) (nI_toI (by omega)) (nI ((t / 3 * 4) + (k / 4))) (((t / 3 * 4) + (k / 4) : Nat) : Int) (nI_toI (by omega)) (by first | omega | assumption | decide)) (va_cwS 3 hts gX5_puts_X5_cell rfl rfl rfl (by decide +kernel) ⟨Nat.le_of_ble_eq_true rfl, Nat.le_of_ble_eq_true rfl⟩) ⟨x_blindR, x_preR (hP.sub (ws' := []) [] rfl) hK hE hS⟩ rfl rfl hl.1 rfl (lv_room (Nat.le_of_ble_eq_true rfl)) dX5_puts_86 ⟨(Nat.le_of_ble_eq_true rfl), (Nat.le_of_ble_eq_true rfl)⟩) ?_
                    refine lv_iload hx hb dX5_puts_89 (lv_at hl 0 rfl) ?_
                    refine lv_bipush (v := 25) hx hb dX5_puts_91 (by decide) ?_
                    have cd26 := hh1 t (by omega)
                    refine x_icmp_ne (tgt := 112) hx hb dX5_puts_93 (by decide) (X := ((cd t : Nat) : Int)) (nI_toI (by omega)) (Y := 25) (show (25 : Int32).toInt = 25 from by decide) (fun c_93 => ?_) (fun c_93 => ?_)
                    · skip
                      have hw9 : cd t < 25 ∧ wIn t (cd t) := by (rcases hh1 t (by omega) with z | z; omega; exact z)
                      have bsr := x_sr_b (cd t) hw9.1
                      have bsd := x_sd_b (cd t) hw9.1
                      have hw8 := hw9.2
                      refine lv_aload_n hx hb dX5_puts_112 rfl (lv_at hl 3 rfl) ?_
                      refine va_get (v := .ref mo) (D := D) (ci := 5) (C := RX5) (T := TX5) (N := 14) hx hb hts (by decide +kernel) hown hK hP 0 rfl rfl 7 (by decide) (hts (.fieldLink RX5 25 "SpiralFramesModel" "old" "[I") (by decide +kernel)) (fun _ h9 => h9) rfl dX5_puts_113 ?_
                      refine lv_iconst (v := 0) hx hb dX5_puts_116 (by decide) ?_
                      refine lv_iload hx hb dX5_puts_117 (lv_at hl 2 rfl) ?_
                      refine lv_aload_n hx hb dX5_puts_119 rfl (lv_at hl 3 rfl) ?_
                      refine va_get (v := .ref mr) (D := D) (ci := 5) (C := RX5) (T := TX5) (N := 14) hx hb hts (by decide +kernel) hown hK hP 0 rfl rfl 5 (by decide) (hts (.fieldLink RX5 19 "SpiralFramesModel" "right" "[I") (by decide +kernel)) (fun _ h9 => h9) rfl dX5_puts_120 ?_
                      refine lv_iload hx hb dX5_puts_123 (lv_at hl 0 rfl) ?_
                      refine x_iald hx hb hK hP 2 0 rfl rfl (k := cd t) (by omega) (by decide) dX5_puts_125 ?_
                      refine x_eqi (show x_srF (cd t) = zI (x_sr (cd t)) from rfl) ?_
                      refine lv_iadd hx hb dX5_puts_126 ?_
                      refine lv_iload hx hb dX5_puts_127 (lv_at hl 1 rfl) ?_
                      refine lv_aload_n hx hb dX5_puts_129 rfl (lv_at hl 3 rfl) ?_
                      refine va_get (v := .ref md) (D := D) (ci := 5) (C := RX5) (T := TX5) (N := 14) hx hb hts (by decide +kernel) hown hK hP 0 rfl rfl 6 (by decide) (hts (.fieldLink RX5 22 "SpiralFramesModel" "down" "[I") (by decide +kernel)) (fun _ h9 => h9) rfl dX5_puts_130 ?_
                      refine lv_iload hx hb dX5_puts_133 (lv_at hl 0 rfl) ?_
                      refine x_iald hx hb hK hP 3 0 rfl rfl (k := cd t) (by omega) (by decide) dX5_puts_135 ?_
                      refine x_eqi (show x_sdF (cd t) = zI (x_sd (cd t)) from rfl) ?_
                      refine lv_iadd hx hb dX5_puts_136 ?_
                      refine x_callR (va_runS (As := [.int 0, .int ((nI ((t % 3 * 4) + (k % 4))) + (zI (x_sr (cd t)))), .int ((nI ((t / 3 * 4) + (k / 4))) + (zI (x_sd (cd t))))]) (rest := [.ref mo, .int (zI (144 * 2 + 12 * (((t / 3 * 4) + (k / 4) : Nat) : Int) + (((t % 3 * 4) + (k % 4) : Nat) : Int))), .ref mn]) ⟨hx, hb, hml, hown, hts⟩ (c_X5_cell l D cI cC cS tt 0 0 (show (0 : Int32).toInt = 0 from by decide) ((nI ((t % 3 * 4) + (k % 4))) + (zI (x_sr (cd t)))) ((((t % 3 * 4) + (k % 4) : Nat) : Int) + x_sr (cd t)) (x_addI (nI_toI (by omega)) (x_sr_toI (cd t)) (by omega) (by omega)) ((nI ((t / 3 * 4) + (k / 4))) + (zI (x_sd (cd t)))) ((((t / 3 * 4) + (k / 4) : Nat) : Int) + x_sd (cd t)) (x_addI (nI_toI (by omega)) (x_sd_toI (cd t)) (by omega) (by omega)) (by first | omega | assumption | decide)) (va_cwS 3 hts gX5_puts_X5_cell rfl rfl rfl (by decide +kernel) ⟨Nat.le_of_ble_eq_true rfl, Nat.le_of_ble_eq_true rfl⟩) ⟨x_blindR, x_preR (hP.sub (ws' := []) [] rfl) hK hE hS⟩ rfl rfl hl.1 rfl (lv_room (Nat.le_of_ble_eq_true rfl)) dX5_puts_137 ⟨(Nat.le_of_ble_eq_true rfl), (Nat.le_of_ble_eq_true rfl)⟩) ?_
                      refine x_eqi (show zI (144 * 0 + 12 * ((((t / 3 * 4) + (k / 4) : Nat) : Int) + x_sd (cd t)) + ((((t % 3 * 4) + (k % 4) : Nat) : Int) + x_sr (cd t))) = nI (((144 * 0 + 12 * ((((t / 3 * 4) + (k / 4) : Nat) : Int) + x_sd (cd t)) + ((((t % 3 * 4) + (k % 4) : Nat) : Int) + x_sr (cd t)))).toNat) from x_toNat (zI_toInt (by omega) (by omega)) (by omega)) ?_
                      refine x_iald hx hb hK hP 4 0 rfl rfl (k := ((144 * 0 + 12 * ((((t / 3 * 4) + (k / 4) : Nat) : Int) + x_sd (cd t)) + ((((t % 3 * 4) + (k % 4) : Nat) : Int) + x_sr (cd t)))).toNat) (by omega) (by decide) dX5_puts_140 ?_
                      refine x_eqi (show f (((144 * 0 + 12 * ((((t / 3 * 4) + (k / 4) : Nat) : Int) + x_sd (cd t)) + ((((t % 3 * 4) + (k % 4) : Nat) : Int) + x_sr (cd t)))).toNat) = apP D1 R1 cd ((t / 3 * 4 + k / 4) * 12 + (t % 3 * 4 + k % 4)) from (by rw [hi2_1, cpF_at (by omega)]; exact apP_m (by omega) (by omega) (by omega) hw9.2 (by omega))) ?_
                      refine x_eqi2 (show zI (144 * 2 + 12 * (((t / 3 * 4) + (k / 4) : Nat) : Int) + (((t % 3 * 4) + (k % 4) : Nat) : Int)) = nI (((144 * 2 + 12 * (((t / 3 * 4) + (k / 4) : Nat) : Int) + (((t % 3 * 4) + (k % 4) : Nat) : Int))).toNat) from x_toNat (zI_toInt (by omega) (by omega)) (by omega)) ?_
                      refine x_iastE hx hb hK hP hD hS 1 0 rfl rfl (k := ((144 * 2 + 12 * (((t / 3 * 4) + (k / 4) : Nat) : Int) + (((t % 3 * 4) + (k % 4) : Nat) : Int))).toNat) (g := mkM D1 S1 (upd g ((t / 3 * 4 + k / 4) * 12 + (t % 3 * 4 + k % 4)) (apP D1 R1 cd ((t / 3 * 4 + k / 4) * 12 + (t % 3 * 4 + k % 4)))) N1 K1 L1) (upM_R (j := ((t / 3 * 4 + k / 4) * 12 + (t % 3 * 4 + k % 4))) (by omega) (by omega)) (by omega) (by decide) dX5_puts_141 (fun H locs hP hD hS => ?_)
                      have hP : va_P D vwCl [(mm, .inr (5, [.ref mn, .ref mh, .int kp, .ref ms, .int fl, .ref mr, .ref md, .ref mo, .ref mc, .int ty, .ref mt, .int at9, .int nu, .ref mq])), (mn, .inl (cI, 578, .inl (mkM D1 S1 (upd g ((t / 3 * 4 + k / 4) * 12 + (t % 3 * 4 + k % 4)) (apP D1 R1 cd ((t / 3 * 4 + k / 4) * 12 + (t % 3 * 4 + k % 4)))) N1 K1 L1))), (mr, .inl (cI, 25, .inl (x_srF))), (md, .inl (cI, 25, .inl (x_sdF))), (mo, .inl (cI, 144, .inl (f))), (mc, .inl (cI, 9, .inl (cq)))] H := hP
                      have hD : va_D (Ar) [(mm, .inr (5, [.ref mn, .ref mh, .int kp, .ref ms, .int fl, .ref mr, .ref md, .ref mo, .ref mc, .int ty, .ref mt, .int at9, .int nu, .ref mq])), (mn, .inl (cI, 578, .inl (mkM D1 S1 (upd g ((t / 3 * 4 + k / 4) * 12 + (t % 3 * 4 + k % 4)) (apP D1 R1 cd ((t / 3 * 4 + k / 4) * 12 + (t % 3 * 4 + k % 4)))) N1 K1 L1))), (mr, .inl (cI, 25, .inl (x_srF))), (md, .inl (cI, 25, .inl (x_sdF))), (mo, .inl (cI, 144, .inl (f))), (mc, .inl (cI, 9, .inl (cq)))] := hD
                      refine lv_iinc (v := nI (k + 1)) (lv' := [(3, .int (nI (k + 1))), (6, .int (nI (cd t))), (5, .int (nI ((t / 3 * 4) + (k / 4)))), (4, .int (nI ((t % 3 * 4) + (k % 4)))), (0, .ref mm), (1, .int 2), (2, .int (nI t))]) hx hb dX5_puts_142 hl (k := 6) rfl (nI_add _ _) (by decide) rfl (fun ls hl => ?_)
                      refine lv_goto (tgt := 43) hx hb dX5_puts_145 (by decide) ?_
                      exact ih43 (k + 1) (upd g ((t / 3 * 4 + k / 4) * 12 + (t % 3 * 4 + k % 4)) (apP D1 R1 cd ((t / 3 * 4 + k / 4) * 12 + (t % 3 * 4 + k % 4)))) (by first | omega | assumption | rfl) (by rw [hi43_1]; exact apK_s (by omega) (by omega) rfl) (by omega) H locs (hP.sub [0, 1, 2, 3, 4, 5] rfl) (hD.sub [0, 1, 2, 3, 4, 5] (by decide) rfl) hS ls (lv_sub hl [4, 5, 6, 0] rfl)
                    · skip
                      refine lv_aload_n hx hb dX5_puts_96 rfl (lv_at hl 3 rfl) ?_
                      refine va_get (v := .ref mn) (D := D) (ci := 5) (C := RX5) (T := TX5) (N := 14) hx hb hts (by decide +kernel) hown hK hP 0 rfl rfl 0 (by decide) (hts (.fieldLink RX5 7 "SpiralFramesModel" "now" "[I") (by decide +kernel)) (fun _ h9 => h9) rfl dX5_puts_97 ?_
                      refine lv_iconst (v := 0) hx hb dX5_puts_100 (by decide) ?_
                      refine lv_iload hx hb dX5_puts_101 (lv_at hl 2 rfl) ?_
                      refine lv_iload hx hb dX5_puts_103 (lv_at hl 1 rfl) ?_
                      refine x_callR (va_runS (As := [.int 0, .int (nI ((t % 3 * 4) + (k % 4))), .int (nI ((t / 3 * 4) + (k / 4)))]) (rest := [.ref mn, .int (zI (144 * 2 + 12 * (((t / 3 * 4) + (k / 4) : Nat) : Int) + (((t % 3 * 4) + (k % 4) : Nat) : Int))), .ref mn]) ⟨hx, hb, hml, hown, hts⟩ (c_X5_cell l D cI cC cS tt 0 0 (show (0 : Int32).toInt = 0 from by decide) (nI ((t % 3 * 4) + (k % 4))) (((t % 3 * 4) + (k % 4) : Nat) : Int) (nI_toI (by omega)) (nI ((t / 3 * 4) + (k / 4))) (((t / 3 * 4) + (k / 4) : Nat) : Int) (nI_toI (by omega)) (by first | omega | assumption | decide)) (va_cwS 3 hts gX5_puts_X5_cell rfl rfl rfl (by decide +kernel) ⟨Nat.le_of_ble_eq_true rfl, Nat.le_of_ble_eq_true rfl⟩) ⟨x_blindR, x_preR (hP.sub (ws' := []) [] rfl) hK hE hS⟩ rfl rfl hl.1 rfl (lv_room (Nat.le_of_ble_eq_true rfl)) dX5_puts_105 ⟨(Nat.le_of_ble_eq_true rfl), (Nat.le_of_ble_eq_true rfl)⟩) ?_
                      refine x_eqi (show zI (144 * 0 + 12 * (((t / 3 * 4) + (k / 4) : Nat) : Int) + (((t % 3 * 4) + (k % 4) : Nat) : Int)) = nI (((144 * 0 + 12 * (((t / 3 * 4) + (k / 4) : Nat) : Int) + (((t % 3 * 4) + (k % 4) : Nat) : Int))).toNat) from x_toNat (zI_toInt (by omega) (by omega)) (by omega)) ?_
                      refine x_iald hx hb hK hP 1 0 rfl rfl (k := ((144 * 0 + 12 * (((t / 3 * 4) + (k / 4) : Nat) : Int) + (((t % 3 * 4) + (k % 4) : Nat) : Int))).toNat) (by omega) (by decide) dX5_puts_108 ?_
                      refine x_eqi (show (mkM D1 S1 g N1 K1 L1) (((144 * 0 + 12 * (((t / 3 * 4) + (k / 4) : Nat) : Int) + (((t % 3 * 4) + (k % 4) : Nat) : Int))).toNat) = D1 ((t / 3 * 4 + k / 4) * 12 + (t % 3 * 4 + k % 4)) from (mkM_D (j := ((t / 3 * 4 + k / 4) * 12 + (t % 3 * 4 + k % 4))) (by omega) (by omega))) ?_
                      refine x_eqi (show D1 ((t / 3 * 4 + k / 4) * 12 + (t % 3 * 4 + k % 4)) = apP D1 R1 cd ((t / 3 * 4 + k / 4) * 12 + (t % 3 * 4 + k % 4)) from (apP_w (by omega) (by omega) (by omega))) ?_
                      refine lv_goto (tgt := 141) hx hb dX5_puts_109 (by decide) ?_
                      refine x_eqi2 (show zI (144 * 2 + 12 * (((t / 3 * 4) + (k / 4) : Nat) : Int) + (((t % 3 * 4) + (k % 4) : Nat) : Int)) = nI (((144 * 2 + 12 * (((t / 3 * 4) + (k / 4) : Nat) : Int) + (((t % 3 * 4) + (k % 4) : Nat) : Int))).toNat) from x_toNat (zI_toInt (by omega) (by omega)) (by omega)) ?_
                      refine x_iastE hx hb hK hP hD hS 1 0 rfl rfl (k := ((144 * 2 + 12 * (((t / 3 * 4) + (k / 4) : Nat) : Int) + (((t % 3 * 4) + (k % 4) : Nat) : Int))).toNat) (g := mkM D1 S1 (upd g ((t / 3 * 4 + k / 4) * 12 + (t % 3 * 4 + k % 4)) (apP D1 R1 cd ((t / 3 * 4 + k / 4) * 12 + (t % 3 * 4 + k % 4)))) N1 K1 L1) (upM_R (j := ((t / 3 * 4 + k / 4) * 12 + (t % 3 * 4 + k % 4))) (by omega) (by omega)) (by omega) (by decide) dX5_puts_141 (fun H locs hP hD hS => ?_)
                      have hP : va_P D vwCl [(mm, .inr (5, [.ref mn, .ref mh, .int kp, .ref ms, .int fl, .ref mr, .ref md, .ref mo, .ref mc, .int ty, .ref mt, .int at9, .int nu, .ref mq])), (mn, .inl (cI, 578, .inl (mkM D1 S1 (upd g ((t / 3 * 4 + k / 4) * 12 + (t % 3 * 4 + k % 4)) (apP D1 R1 cd ((t / 3 * 4 + k / 4) * 12 + (t % 3 * 4 + k % 4)))) N1 K1 L1))), (mr, .inl (cI, 25, .inl (x_srF))), (md, .inl (cI, 25, .inl (x_sdF))), (mo, .inl (cI, 144, .inl (f))), (mc, .inl (cI, 9, .inl (cq)))] H := hP
                      have hD : va_D (Ar) [(mm, .inr (5, [.ref mn, .ref mh, .int kp, .ref ms, .int fl, .ref mr, .ref md, .ref mo, .ref mc, .int ty, .ref mt, .int at9, .int nu, .ref mq])), (mn, .inl (cI, 578, .inl (mkM D1 S1 (upd g ((t / 3 * 4 + k / 4) * 12 + (t % 3 * 4 + k % 4)) (apP D1 R1 cd ((t / 3 * 4 + k / 4) * 12 + (t % 3 * 4 + k % 4)))) N1 K1 L1))), (mr, .inl (cI, 25, .inl (x_srF))), (md, .inl (cI, 25, .inl (x_sdF))), (mo, .inl (cI, 144, .inl (f))), (mc, .inl (cI, 9, .inl (cq)))] := hD
                      refine lv_iinc (v := nI (k + 1)) (lv' := [(3, .int (nI (k + 1))), (6, .int (nI (cd t))), (5, .int (nI ((t / 3 * 4) + (k / 4)))), (4, .int (nI ((t % 3 * 4) + (k % 4)))), (0, .ref mm), (1, .int 2), (2, .int (nI t))]) hx hb dX5_puts_142 hl (k := 6) rfl (nI_add _ _) (by decide) rfl (fun ls hl => ?_)
                      refine lv_goto (tgt := 43) hx hb dX5_puts_145 (by decide) ?_
                      exact ih43 (k + 1) (upd g ((t / 3 * 4 + k / 4) * 12 + (t % 3 * 4 + k % 4)) (apP D1 R1 cd ((t / 3 * 4 + k / 4) * 12 + (t % 3 * 4 + k % 4)))) (by first | omega | assumption | rfl) (by rw [hi43_1]; exact apK_s (by omega) (by omega) rfl) (by omega) H locs (hP.sub [0, 1, 2, 3, 4, 5] rfl) (hD.sub [0, 1, 2, 3, 4, 5] (by decide) rfl) hS ls (lv_sub hl [4, 5, 6, 0] rfl)
              exact L43 _ 0 g (by first | omega | assumption | rfl) (by rw [hi35_1]; exact apK_0) (Nat.lt_succ_self _) H locs (hP.sub [0, 1, 2, 3, 4, 5] rfl) (hD.sub [0, 1, 2, 3, 4, 5] (by decide) rfl) hS ls (lv_sub hl [1, 2, 3, 0] rfl)
        exact L35 _ 0 R1 (by first | omega | assumption | rfl) apF_0 (Nat.lt_succ_self _) H locs (hP.sub [0, 1, 2, 3, 4, 5] rfl) (hD.sub [0, 1, 2, 3, 4, 5] (by decide) rfl) hS ls (lv_sub hl [1, 2, 0] rfl)
      · skip
        refine lv_aload_n hx hb dX5_puts_9 rfl (lv_at hl 0 rfl) ?_
        refine va_get (v := .ref mo) (D := D) (ci := 5) (C := RX5) (T := TX5) (N := 14) hx hb hts (by decide +kernel) hown hK hP 0 rfl rfl 7 (by decide) (hts (.fieldLink RX5 25 "SpiralFramesModel" "old" "[I") (by decide +kernel)) (fun _ h9 => h9) rfl dX5_puts_10 ?_
        refine lv_iload_n hx hb dX5_puts_13 rfl (lv_at hl 2 rfl) ?_
        refine lv_aload_n hx hb dX5_puts_14 rfl (lv_at hl 0 rfl) ?_
        refine va_get (v := .ref mn) (D := D) (ci := 5) (C := RX5) (T := TX5) (N := 14) hx hb hts (by decide +kernel) hown hK hP 0 rfl rfl 0 (by decide) (hts (.fieldLink RX5 7 "SpiralFramesModel" "now" "[I") (by decide +kernel)) (fun _ h9 => h9) rfl dX5_puts_15 ?_
        refine lv_sipush (v := 144) hx hb dX5_puts_18 (by decide) ?_
        refine lv_iload_n hx hb dX5_puts_21 rfl (lv_at hl 1 rfl) ?_
        refine lv_imul hx hb dX5_puts_22 ?_
        refine x_eqi (show (144 : Int32) * 2 = 288 from by decide) ?_
        refine lv_iload_n hx hb dX5_puts_23 rfl (lv_at hl 2 rfl) ?_
        refine lv_iadd hx hb dX5_puts_24 ?_
        refine x_eqi (show 288 + nI j = nI (288 + j) from nI_add 288 j) ?_
        refine x_iald hx hb hK hP 1 0 rfl rfl (k := 288 + j) (by omega) (by decide) dX5_puts_25 ?_
        refine x_eqi (show (mkM D1 S1 R1 N1 K1 L1) (288 + j) = R1 j from (mkM_R (j := j) (by omega) (by omega))) ?_
        refine x_iast hx hb hK hP hD hS 4 0 rfl rfl (k := j) (by omega) (by decide) dX5_puts_26 (fun H locs hP hD hS => ?_)
        have hP : va_P D vwCl [(mm, .inr (5, [.ref mn, .ref mh, .int kp, .ref ms, .int fl, .ref mr, .ref md, .ref mo, .ref mc, .int ty, .ref mt, .int at9, .int nu, .ref mq])), (mn, .inl (cI, 578, .inl (mkM D1 S1 R1 N1 K1 L1))), (mr, .inl (cI, 25, .inl (x_srF))), (md, .inl (cI, 25, .inl (x_sdF))), (mo, .inl (cI, 144, .inl (upd f j (R1 j)))), (mc, .inl (cI, 9, .inl (cq)))] H := hP
        have hD : va_D (Ar) [(mm, .inr (5, [.ref mn, .ref mh, .int kp, .ref ms, .int fl, .ref mr, .ref md, .ref mo, .ref mc, .int ty, .ref mt, .int at9, .int nu, .ref mq])), (mn, .inl (cI, 578, .inl (mkM D1 S1 R1 N1 K1 L1))), (mr, .inl (cI, 25, .inl (x_srF))), (md, .inl (cI, 25, .inl (x_sdF))), (mo, .inl (cI, 144, .inl (upd f j (R1 j)))), (mc, .inl (cI, 9, .inl (cq)))] := hD
        refine lv_iinc (v := nI (j + 1)) (lv' := [(2, .int (nI (j + 1))), (0, .ref mm), (1, .int 2)]) hx hb dX5_puts_27 hl (k := 2) rfl (nI_add _ _) (by decide) rfl (fun ls hl => ?_)
        refine lv_goto (tgt := 2) hx hb dX5_puts_30 (by decide) ?_
        exact ih2 (j + 1) (upd f j (R1 j)) (by first | omega | assumption | rfl) (by rw [hi2_1]; exact cpF_s (by omega) rfl) (by omega) H locs (hP.sub [0, 1, 2, 3, 4, 5] rfl) (hD.sub [0, 1, 2, 3, 4, 5] (by decide) rfl) hS ls (lv_sub hl [1, 2, 0] rfl)
  exact L2 _ 0 ol (by first | omega | assumption | rfl) cpF_0 (Nat.lt_succ_self _) s.heap [] (hP.sub [0, 1, 2, 3, 4, 5] rfl) (hD.sub [0, 1, 2, 3, 4, 5] (by decide) rfl) hS ls (lv_sub hl [1, 2, 0] rfl)
