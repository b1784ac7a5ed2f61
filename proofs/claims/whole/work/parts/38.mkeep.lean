set_option maxHeartbeats 4000000 in
set_option maxRecDepth 100000 in
theorem c_X5_undo_0 (l : Launch) (D : va_G) (cI cC cS : ClassId) (tt : Nat → Nat) (mm : Nat) (mn : Nat) (mh : Nat) (ms : Nat) (mr : Nat) (md : Nat) (mo : Nat) (mc : Nat) (mt : Nat) (mq : Nat) (fl : Int32) (ty : Int32) (at9 : Int32) (nu : Int32) (k : Nat) (hh0 : k = 0) : Met l yX5_undo wsX5_undo ({ frames := 0, cells := 0, slots := 0, locals := 0 } : Room) (x_PR D cI cC cS tt [(mm, .inr (5, [.ref mn, .ref mh, .int (nI k), .ref ms, .int fl, .ref mr, .ref md, .ref mo, .ref mc, .int ty, .ref mt, .int at9, .int nu, .ref mq]))] [.ref mm]) (QcRead (-5)) 0 0 (fun _ => False) := by
  refine Met.ofW (cc := cX5_undo) (maxL := 2) (ret := (some .int)) (by decide) rfl ?_
  intro p e s m args below meth c s₁ hBd hml hv
  obtain ⟨rfl, hP, hK, hE⟩ := hv
  have hx := hBd.exec
  have hb := hBd.bytes
  have hr := hBd.returns
  have hts := atoms_spec (ws := wsX5_undo) hBd.pre
  have hown : s.vm.findClass RX5 = some m.cls := findClass_of_methodNamed hBd.named
  have hlocks := hBd.notSynchronized
  have hS : va_S (fun _ => False) s.heap s.heap [] := va_S.rf
  have hl := lv_entry ([.ref mm]) (n := 2) (Nat.le_of_ble_eq_true rfl)
  rw [lg_entry_eq]
  generalize (lg_sl ([.ref mm]) ++ List.replicate (2 - (lg_sl ([.ref mm])).length) Slot.unset).toArray = ls at hl ⊢
  have hl : lv_has ls 2 [(0, .ref mm)] := hl
  refine x_genQ (fun Q hQ => ?_)
  refine lv_aload_n hx hb dX5_undo_0 rfl (lv_at hl 0 rfl) ?_
  refine va_get (v := .int (nI k)) (D := D) (ci := 5) (C := RX5) (T := TX5) (N := 14) hx hb hts (by decide +kernel) hown hK hP 0 rfl rfl 2 (by decide) (hts (.fieldLink RX5 46 "SpiralFramesModel" "kept" "I") (by decide +kernel)) (fun _ h9 => h9) rfl dX5_undo_1 ?_
  refine x_if_ne (tgt := 10) hx hb dX5_undo_4 (by decide) (X := ((k : Nat) : Int)) (nI_toI (by omega)) (fun c_4 => ?_) (fun c_4 => ?_)
  · exfalso; omega
  refine lv_bipush (v := (-5)) hx hb dX5_undo_7 (by decide) ?_
  exact x_iretR hQ hx hb hr hlocks rfl dX5_undo_9
set_option maxHeartbeats 4000000 in
set_option maxRecDepth 100000 in
theorem c_X5_undo_s (l : Launch) (D : va_G) (cI cC cS : ClassId) (tt : Nat → Nat) (sz : Nat) (mm : Nat) (mn : Nat) (mh : Nat) (ms : Nat) (mr : Nat) (md : Nat) (mo : Nat) (mc : Nat) (mt : Nat) (mq : Nat) (fl : Int32) (ty : Int32) (at9 : Int32) (nu : Int32) (D1 : Nat → Int32) (S1 : Nat → Int32) (R1 : Nat → Int32) (N1 : Nat → Int32) (K1 : Int32) (L1 : Nat → Int32) (k : Nat) (Hs : Nat → Int32) (D2 : Nat → Int32) (S2 : Nat → Int32) (R2 : Nat → Int32) (N2 : Nat → Int32) (K2 : Int32) (L2 : Nat → Int32) (hh0 : 1 ≤ k ∧ k ≤ 4) (hh1 : ∀ x, x < 578 → Hs (578 * (k - 1) + x) = mkM D2 S2 R2 N2 K2 L2 x) : Met l yX5_undo wsX5_undo ({ frames := 0, cells := 0, slots := 0, locals := 0 } : Room) (x_PW D cI cC cS tt [(mm, .inr (5, [.ref mn, .ref mh, .int (nI k), .ref ms, .int fl, .ref mr, .ref md, .ref mo, .ref mc, .int ty, .ref mt, .int at9, .int nu, .ref mq])), (mn, .inl (cI, 578, .inl (mkM D1 S1 R1 N1 K1 L1))), (mh, .inl (cI, 2312, .inl (Hs)))] sz [.ref mm]) (x_QWi D [(mm, .inr (5, [.ref mn, .ref mh, .int (nI k), .ref ms, .int fl, .ref mr, .ref md, .ref mo, .ref mc, .int ty, .ref mt, .int at9, .int nu, .ref mq])), (mn, .inl (cI, 578, .inl (mkM D1 S1 R1 N1 K1 L1))), (mh, .inl (cI, 2312, .inl (Hs)))] sz (fun (r : Int32) (w : va_W) => r = (nI (k - 1)) ∧ w = [(mm, .inr (5, [.ref mn, .ref mh, .int (nI (k - 1)), .ref ms, .int fl, .ref mr, .ref md, .ref mo, .ref mc, .int ty, .ref mt, .int at9, .int nu, .ref mq])), (mn, .inl (cI, 578, .inl (mkM D2 S2 R2 N2 K2 L2))), (mh, .inl (cI, 2312, .inl (Hs)))])) 0 0 (va_A [(mm, .inr (5, [.ref mn, .ref mh, .int (nI k), .ref ms, .int fl, .ref mr, .ref md, .ref mo, .ref mc, .int ty, .ref mt, .int at9, .int nu, .ref mq])), (mn, .inl (cI, 578, .inl (mkM D1 S1 R1 N1 K1 L1))), (mh, .inl (cI, 2312, .inl (Hs)))] sz) := by
  refine Met.ofW (cc := cX5_undo) (maxL := 2) (ret := (some .int)) (by decide) rfl ?_
  intro p e s m args below meth c s₁ hBd hml hv
  obtain ⟨rfl, hsz, hP, hK, hD0, hE0⟩ := hv
  have hx := hBd.exec
  have hb := hBd.bytes
  have hr := hBd.returns
  have hts := atoms_spec (ws := wsX5_undo) hBd.pre
  have hown : s.vm.findClass RX5 = some m.cls := findClass_of_methodNamed hBd.named
  have hlocks := hBd.notSynchronized
  subst hsz
  obtain ⟨Ar, hAe⟩ : ∃ Ar : Nat → Prop, Ar = va_A [(mm, .inr (5, [.ref mn, .ref mh, .int (nI k), .ref ms, .int fl, .ref mr, .ref md, .ref mo, .ref mc, .int ty, .ref mt, .int at9, .int nu, .ref mq])), (mn, .inl (cI, 578, .inl (mkM D1 S1 R1 N1 K1 L1))), (mh, .inl (cI, 2312, .inl (Hs)))] s.heap.size := ⟨_, rfl⟩
  have hD : va_D Ar [(mm, .inr (5, [.ref mn, .ref mh, .int (nI k), .ref ms, .int fl, .ref mr, .ref md, .ref mo, .ref mc, .int ty, .ref mt, .int at9, .int nu, .ref mq])), (mn, .inl (cI, 578, .inl (mkM D1 S1 R1 N1 K1 L1))), (mh, .inl (cI, 2312, .inl (Hs)))] := by rw [hAe]; exact hD0.self
  have hA : ∀ q : Nat, s.heap.size ≤ q → Ar q := fun q h => by rw [hAe]; exact Or.inr h
  have hE : x_E tt Ar s := by rw [hAe]; exact hE0
  have hS : va_S Ar s.heap s.heap [] := va_S.rf
  have hl := lv_entry ([.ref mm]) (n := 2) (Nat.le_of_ble_eq_true rfl)
  rw [lg_entry_eq]
  generalize (lg_sl ([.ref mm]) ++ List.replicate (2 - (lg_sl ([.ref mm])).length) Slot.unset).toArray = ls at hl ⊢
  have hl : lv_has ls 2 [(0, .ref mm)] := hl
  refine x_genQ (fun Q hQ => ?_)
  refine lv_aload_n hx hb dX5_undo_0 rfl (lv_at hl 0 rfl) ?_
  refine va_get (v := .int (nI k)) (D := D) (ci := 5) (C := RX5) (T := TX5) (N := 14) hx hb hts (by decide +kernel) hown hK hP 0 rfl rfl 2 (by decide) (hts (.fieldLink RX5 46 "SpiralFramesModel" "kept" "I") (by decide +kernel)) (fun _ h9 => h9) rfl dX5_undo_1 ?_
  refine x_if_ne (tgt := 10) hx hb dX5_undo_4 (by decide) (X := ((k : Nat) : Int)) (nI_toI (by omega)) (fun c_4 => ?_) (fun c_4 => ?_)
  rotate_left
  · exfalso; omega
  refine lv_aload_n hx hb dX5_undo_10 rfl (lv_at hl 0 rfl) ?_
  refine lv_dup hx hb dX5_undo_11 rfl ?_
  refine va_get (v := .int (nI k)) (D := D) (ci := 5) (C := RX5) (T := TX5) (N := 14) hx hb hts (by decide +kernel) hown hK hP 0 rfl rfl 2 (by decide) (hts (.fieldLink RX5 46 "SpiralFramesModel" "kept" "I") (by decide +kernel)) (fun _ h9 => h9) rfl dX5_undo_12 ?_
  refine lv_iconst (v := 1) hx hb dX5_undo_15 (by decide) ?_
  refine lv_isub hx hb dX5_undo_16 ?_
  refine x_eqi (show (nI k) - 1 = nI (k - 1) from x_eqN (x_subI (nI_toI (by omega)) (show (1 : Int32).toInt = 1 from by decide) (by omega) (by omega)) (by omega)) ?_
  refine va_put (v := .int (nI (k - 1))) (ty := .int) (D := D) (ci := 5) (C := RX5) (T := TX5) (N := 14) hx hb hts (by decide +kernel) tyX5 tyX5_ok nmX5 hown hK hP hD hS 0 rfl rfl 2 (by decide) (hts (.fieldLink RX5 46 "SpiralFramesModel" "kept" "I") (by decide +kernel)) (fun _ h9 => h9) rfl (by decide +kernel) rfl rfl (Nat.le_of_ble_eq_true rfl) dX5_undo_17 (fun H locs hP hD hS => ?_)
  have hP : va_P D vwCl [(mm, .inr (5, [.ref mn, .ref mh, .int (nI (k - 1)), .ref ms, .int fl, .ref mr, .ref md, .ref mo, .ref mc, .int ty, .ref mt, .int at9, .int nu, .ref mq])), (mn, .inl (cI, 578, .inl (mkM D1 S1 R1 N1 K1 L1))), (mh, .inl (cI, 2312, .inl (Hs)))] H := hP
  have hD : va_D (Ar) [(mm, .inr (5, [.ref mn, .ref mh, .int (nI (k - 1)), .ref ms, .int fl, .ref mr, .ref md, .ref mo, .ref mc, .int ty, .ref mt, .int at9, .int nu, .ref mq])), (mn, .inl (cI, 578, .inl (mkM D1 S1 R1 N1 K1 L1))), (mh, .inl (cI, 2312, .inl (Hs)))] := hD
  refine lv_iconst (v := 0) hx hb dX5_undo_20 (by decide) ?_
  refine lv_istore_n (lv' := [(1, .int 0), (0, .ref mm)]) hx hb dX5_undo_21 rfl hl (by decide) rfl (fun ls hl => ?_)
  have L22 : ∀ (fuel : Nat) (j : Nat) (f : Nat → Int32), (j ≤ 578) → (f = cpF (mkM D1 S1 R1 N1 K1 L1) (fun x => Hs (578 * (k - 1) + x)) 0 j) → 578 - j < fuel → ∀ (H : Heap) (locs : List Loc), va_P D vwCl [(mm, .inr (5, [.ref mn, .ref mh, .int (nI (k - 1)), .ref ms, .int fl, .ref mr, .ref md, .ref mo, .ref mc, .int ty, .ref mt, .int at9, .int nu, .ref mq])), (mn, .inl (cI, 578, .inl (f))), (mh, .inl (cI, 2312, .inl (Hs)))] H → va_D (Ar) [(mm, .inr (5, [.ref mn, .ref mh, .int (nI (k - 1)), .ref ms, .int fl, .ref mr, .ref md, .ref mo, .ref mc, .int ty, .ref mt, .int at9, .int nu, .ref mq])), (mn, .inl (cI, 578, .inl (f))), (mh, .inl (cI, 2312, .inl (Hs)))] → va_S (Ar) s.heap H locs → ∀ (ls : Array Slot), lv_has ls 2 [(0, .ref mm), (1, .int (nI j))] → W p l e (headSpec wsX5_undo ({ frames := 0, cells := 0, slots := 0, locals := 0 } : Room)).room s m ([.ref mm] : List Value).toArray below meth c H locs 0 0 Q (F0 m 22 ls []) := by
    intro fuel
    induction fuel with
    | zero =>
      intro j f hi22_0 hi22_1 hfu
      exact absurd hfu (Nat.not_lt_zero _)
    | succ fuel ih22 =>
      intro j f hi22_0 hi22_1 hfu22 H locs hP hD hS ls hl
      refine lv_iload_n hx hb dX5_undo_22 rfl (lv_at hl 1 rfl) ?_
      refine lv_sipush (v := 578) hx hb dX5_undo_23 (by decide) ?_
      refine x_icmp_ge (tgt := 56) hx hb dX5_undo_26 (by decide) (X := ((j : Nat) : Int)) (nI_toI (by omega)) (Y := 578) (show (578 : Int32).toInt = 578 from by decide) (fun c_26 => ?_) (fun c_26 => ?_)
      · skip
        refine lv_aload_n hx hb dX5_undo_56 rfl (lv_at hl 0 rfl) ?_
        refine va_get (v := .int (nI (k - 1))) (D := D) (ci := 5) (C := RX5) (T := TX5) (N := 14) hx hb hts (by decide +kernel) hown hK hP 0 rfl rfl 2 (by decide) (hts (.fieldLink RX5 46 "SpiralFramesModel" "kept" "I") (by decide +kernel)) (fun _ h9 => h9) rfl dX5_undo_57 ?_
        refine x_iretW (w := [(mm, .inr (5, [.ref mn, .ref mh, .int (nI (k - 1)), .ref ms, .int fl, .ref mr, .ref md, .ref mo, .ref mc, .int ty, .ref mt, .int at9, .int nu, .ref mq])), (mn, .inl (cI, 578, .inl (f))), (mh, .inl (cI, 2312, .inl (Hs)))]) hQ hAe hx hb hr hlocks (hP.sub [0, 1, 2] rfl) (hD.sub [0, 1, 2] (by decide) rfl) hS ?_ dX5_undo_60
        have e9 : f = mkM D2 S2 R2 N2 K2 L2 := by rw [hi22_1, show j = 578 by omega]; exact cp_mk hh1
        exact ⟨rfl, by rw [e9]⟩
      · skip
        refine lv_aload_n hx hb dX5_undo_29 rfl (lv_at hl 0 rfl) ?_
        refine va_get (v := .ref mn) (D := D) (ci := 5) (C := RX5) (T := TX5) (N := 14) hx hb hts (by decide +kernel) hown hK hP 0 rfl rfl 0 (by decide) (hts (.fieldLink RX5 7 "SpiralFramesModel" "now" "[I") (by decide +kernel)) (fun _ h9 => h9) rfl dX5_undo_30 ?_
        refine lv_iload_n hx hb dX5_undo_33 rfl (lv_at hl 1 rfl) ?_
        refine lv_aload_n hx hb dX5_undo_34 rfl (lv_at hl 0 rfl) ?_
        refine va_get (v := .ref mh) (D := D) (ci := 5) (C := RX5) (T := TX5) (N := 14) hx hb hts (by decide +kernel) hown hK hP 0 rfl rfl 1 (by decide) (hts (.fieldLink RX5 13 "SpiralFramesModel" "history" "[I") (by decide +kernel)) (fun _ h9 => h9) rfl dX5_undo_35 ?_
        refine lv_sipush (v := 578) hx hb dX5_undo_38 (by decide) ?_
        refine lv_aload_n hx hb dX5_undo_41 rfl (lv_at hl 0 rfl) ?_
        refine va_get (v := .int (nI (k - 1))) (D := D) (ci := 5) (C := RX5) (T := TX5) (N := 14) hx hb hts (by decide +kernel) hown hK hP 0 rfl rfl 2 (by decide) (hts (.fieldLink RX5 46 "SpiralFramesModel" "kept" "I") (by decide +kernel)) (fun _ h9 => h9) rfl dX5_undo_42 ?_
        refine lv_imul hx hb dX5_undo_45 ?_
        refine x_eqi (show 578 * nI (k - 1) = nI (578 * (k - 1)) from pk_mul 578 (k - 1)) ?_
        refine lv_iload_n hx hb dX5_undo_46 rfl (lv_at hl 1 rfl) ?_
        refine lv_iadd hx hb dX5_undo_47 ?_
        refine x_eqi (show nI (578 * (k - 1)) + nI j = nI ((578 * (k - 1)) + j) from nI_add (578 * (k - 1)) j) ?_
        refine x_iald hx hb hK hP 2 0 rfl rfl (k := (578 * (k - 1)) + j) (by omega) (by decide) dX5_undo_48 ?_
        refine x_iast hx hb hK hP hD hS 1 0 rfl rfl (k := j) (by omega) (by decide) dX5_undo_49 (fun H locs hP hD hS => ?_)
        have hP : va_P D vwCl [(mm, .inr (5, [.ref mn, .ref mh, .int (nI (k - 1)), .ref ms, .int fl, .ref mr, .ref md, .ref mo, .ref mc, .int ty, .ref mt, .int at9, .int nu, .ref mq])), (mn, .inl (cI, 578, .inl (upd f j (Hs ((578 * (k - 1)) + j))))), (mh, .inl (cI, 2312, .inl (Hs)))] H := hP
        have hD : va_D (Ar) [(mm, .inr (5, [.ref mn, .ref mh, .int (nI (k - 1)), .ref ms, .int fl, .ref mr, .ref md, .ref mo, .ref mc, .int ty, .ref mt, .int at9, .int nu, .ref mq])), (mn, .inl (cI, 578, .inl (upd f j (Hs ((578 * (k - 1)) + j))))), (mh, .inl (cI, 2312, .inl (Hs)))] := hD
        refine lv_iinc (v := nI (j + 1)) (lv' := [(1, .int (nI (j + 1))), (0, .ref mm)]) hx hb dX5_undo_50 hl (k := 1) rfl (nI_add _ _) (by decide) rfl (fun ls hl => ?_)
        refine lv_goto (tgt := 22) hx hb dX5_undo_53 (by decide) ?_
        exact ih22 (j + 1) (upd f j (Hs ((578 * (k - 1)) + j))) (by first | omega | assumption | rfl) (by rw [hi22_1]; exact cpF_s (by omega) rfl) (by omega) H locs (hP.sub [0, 1, 2] rfl) (hD.sub [0, 1, 2] (by decide) rfl) hS ls (lv_sub hl [1, 0] rfl)
  exact L22 _ 0 (mkM D1 S1 R1 N1 K1 L1) (by first | omega | assumption | rfl) cpF_0 (Nat.lt_succ_self _) H locs (hP.sub [0, 1, 2] rfl) (hD.sub [0, 1, 2] (by decide) rfl) hS ls (lv_sub hl [1, 0] rfl)
set_option maxHeartbeats 4000000 in
set_option maxRecDepth 100000 in
theorem c_X5_keep (l : Launch) (D : va_G) (cI cC cS : ClassId) (tt : Nat → Nat) (sz : Nat) (mm : Nat) (mn : Nat) (mh : Nat) (ms : Nat) (mr : Nat) (md : Nat) (mo : Nat) (mc : Nat) (mt : Nat) (mq : Nat) (kp : Int32) (fl : Int32) (ty : Int32) (at9 : Int32) (nu : Int32) (D1 : Nat → Int32) (S1 : Nat → Int32) (R1 : Nat → Int32) (N1 : Nat → Int32) (K1 : Int32) (L1 : Nat → Int32) (sl : Nat → Int32) : Met l yX5_keep wsX5_keep ({ frames := 0, cells := 0, slots := 0, locals := 0 } : Room) (x_PW D cI cC cS tt [(mm, .inr (5, [.ref mn, .ref mh, .int kp, .ref ms, .int fl, .ref mr, .ref md, .ref mo, .ref mc, .int ty, .ref mt, .int at9, .int nu, .ref mq])), (mn, .inl (cI, 578, .inl (mkM D1 S1 R1 N1 K1 L1))), (ms, .inl (cI, 578, .inl (sl)))] sz [.ref mm]) (x_QWi D [(mm, .inr (5, [.ref mn, .ref mh, .int kp, .ref ms, .int fl, .ref mr, .ref md, .ref mo, .ref mc, .int ty, .ref mt, .int at9, .int nu, .ref mq])), (mn, .inl (cI, 578, .inl (mkM D1 S1 R1 N1 K1 L1))), (ms, .inl (cI, 578, .inl (sl)))] sz (fun (r : Int32) (w : va_W) => r = (N1 4) ∧ w = [(mm, .inr (5, [.ref mn, .ref mh, .int kp, .ref ms, .int 1, .ref mr, .ref md, .ref mo, .ref mc, .int ty, .ref mt, .int at9, .int nu, .ref mq])), (mn, .inl (cI, 578, .inl (mkM D1 S1 R1 N1 K1 L1))), (ms, .inl (cI, 578, .inl (cpF sl (mkM D1 S1 R1 N1 K1 L1) 0 578)))])) 0 0 (va_A [(mm, .inr (5, [.ref mn, .ref mh, .int kp, .ref ms, .int fl, .ref mr, .ref md, .ref mo, .ref mc, .int ty, .ref mt, .int at9, .int nu, .ref mq])), (mn, .inl (cI, 578, .inl (mkM D1 S1 R1 N1 K1 L1))), (ms, .inl (cI, 578, .inl (sl)))] sz) := by
  refine Met.ofW (cc := cX5_keep) (maxL := 2) (ret := (some .int)) (by decide) rfl ?_
  intro p e s m args below meth c s₁ hBd hml hv
  obtain ⟨rfl, hsz, hP, hK, hD0, hE0⟩ := hv
  have hx := hBd.exec
  have hb := hBd.bytes
  have hr := hBd.returns
  have hts := atoms_spec (ws := wsX5_keep) hBd.pre
  have hown : s.vm.findClass RX5 = some m.cls := findClass_of_methodNamed hBd.named
  have hlocks := hBd.notSynchronized
  subst hsz
  obtain ⟨Ar, hAe⟩ : ∃ Ar : Nat → Prop, Ar = va_A [(mm, .inr (5, [.ref mn, .ref mh, .int kp, .ref ms, .int fl, .ref mr, .ref md, .ref mo, .ref mc, .int ty, .ref mt, .int at9, .int nu, .ref mq])), (mn, .inl (cI, 578, .inl (mkM D1 S1 R1 N1 K1 L1))), (ms, .inl (cI, 578, .inl (sl)))] s.heap.size := ⟨_, rfl⟩
  have hD : va_D Ar [(mm, .inr (5, [.ref mn, .ref mh, .int kp, .ref ms, .int fl, .ref mr, .ref md, .ref mo, .ref mc, .int ty, .ref mt, .int at9, .int nu, .ref mq])), (mn, .inl (cI, 578, .inl (mkM D1 S1 R1 N1 K1 L1))), (ms, .inl (cI, 578, .inl (sl)))] := by rw [hAe]; exact hD0.self
  have hA : ∀ q : Nat, s.heap.size ≤ q → Ar q := fun q h => by rw [hAe]; exact Or.inr h
  have hE : x_E tt Ar s := by rw [hAe]; exact hE0
  have hS : va_S Ar s.heap s.heap [] := va_S.rf
  have hl := lv_entry ([.ref mm]) (n := 2) (Nat.le_of_ble_eq_true rfl)
  rw [lg_entry_eq]
  generalize (lg_sl ([.ref mm]) ++ List.replicate (2 - (lg_sl ([.ref mm])).length) Slot.unset).toArray = ls at hl ⊢
  have hl : lv_has ls 2 [(0, .ref mm)] := hl
  refine x_genQ (fun Q hQ => ?_)
  refine lv_iconst (v := 0) hx hb dX5_keep_0 (by decide) ?_
  refine lv_istore_n (lv' := [(1, .int 0), (0, .ref mm)]) hx hb dX5_keep_1 rfl hl (by decide) rfl (fun ls hl => ?_)
  have L2 : ∀ (fuel : Nat) (j : Nat) (f : Nat → Int32), (j ≤ 578) → (f = cpF sl (mkM D1 S1 R1 N1 K1 L1) 0 j) → 578 - j < fuel → ∀ (H : Heap) (locs : List Loc), va_P D vwCl [(mm, .inr (5, [.ref mn, .ref mh, .int kp, .ref ms, .int fl, .ref mr, .ref md, .ref mo, .ref mc, .int ty, .ref mt, .int at9, .int nu, .ref mq])), (mn, .inl (cI, 578, .inl (mkM D1 S1 R1 N1 K1 L1))), (ms, .inl (cI, 578, .inl (f)))] H → va_D (Ar) [(mm, .inr (5, [.ref mn, .ref mh, .int kp, .ref ms, .int fl, .ref mr, .ref md, .ref mo, .ref mc, .int ty, .ref mt, .int at9, .int nu, .ref mq])), (mn, .inl (cI, 578, .inl (mkM D1 S1 R1 N1 K1 L1))), (ms, .inl (cI, 578, .inl (f)))] → va_S (Ar) s.heap H locs → ∀ (ls : Array Slot), lv_has ls 2 [(0, .ref mm), (1, .int (nI j))] → W p l e (headSpec wsX5_keep ({ frames := 0, cells := 0, slots := 0, locals := 0 } : Room)).room s m ([.ref mm] : List Value).toArray below meth c H locs 0 0 Q (F0 m 2 ls []) := by
    intro fuel
    induction fuel with
    | zero =>
      intro j f hi2_0 hi2_1 hfu
      exact absurd hfu (Nat.not_lt_zero _)
    | succ fuel ih2 =>
      intro j f hi2_0 hi2_1 hfu2 H locs hP hD hS ls hl
      refine lv_iload_n hx hb dX5_keep_2 rfl (lv_at hl 1 rfl) ?_
      refine lv_sipush (v := 578) hx hb dX5_keep_3 (by decide) ?_
      refine x_icmp_ge (tgt := 27) hx hb dX5_keep_6 (by decide) (X := ((j : Nat) : Int)) (nI_toI (by omega)) (Y := 578) (show (578 : Int32).toInt = 578 from by decide) (fun c_6 => ?_) (fun c_6 => ?_)
      · skip
        refine lv_aload_n hx hb dX5_keep_27 rfl (lv_at hl 0 rfl) ?_
        refine lv_iconst (v := 1) hx hb dX5_keep_28 (by decide) ?_
        refine va_put (v := .int 1) (ty := .boolean) (D := D) (ci := 5) (C := RX5) (T := TX5) (N := 14) hx hb hts (by decide +kernel) tyX5 tyX5_ok nmX5 hown hK hP hD hS 0 rfl rfl 4 (by decide) (hts (.fieldLink RX5 149 "SpiralFramesModel" "isFilled" "Z") (by decide +kernel)) (fun _ h9 => h9) rfl (by decide +kernel) (by decide) rfl (Nat.le_of_ble_eq_true rfl) dX5_keep_29 (fun H locs hP hD hS => ?_)
        have hP : va_P D vwCl [(mm, .inr (5, [.ref mn, .ref mh, .int kp, .ref ms, .int 1, .ref mr, .ref md, .ref mo, .ref mc, .int ty, .ref mt, .int at9, .int nu, .ref mq])), (mn, .inl (cI, 578, .inl (mkM D1 S1 R1 N1 K1 L1))), (ms, .inl (cI, 578, .inl (f)))] H := hP
        have hD : va_D (Ar) [(mm, .inr (5, [.ref mn, .ref mh, .int kp, .ref ms, .int 1, .ref mr, .ref md, .ref mo, .ref mc, .int ty, .ref mt, .int at9, .int nu, .ref mq])), (mn, .inl (cI, 578, .inl (mkM D1 S1 R1 N1 K1 L1))), (ms, .inl (cI, 578, .inl (f)))] := hD
        refine lv_aload_n hx hb dX5_keep_32 rfl (lv_at hl 0 rfl) ?_
        refine va_get (v := .ref mn) (D := D) (ci := 5) (C := RX5) (T := TX5) (N := 14) hx hb hts (by decide +kernel) hown hK hP 0 rfl rfl 0 (by decide) (hts (.fieldLink RX5 7 "SpiralFramesModel" "now" "[I") (by decide +kernel)) (fun _ h9 => h9) rfl dX5_keep_33 ?_
        refine lv_sipush (v := 436) hx hb dX5_keep_36 (by decide) ?_
        refine x_eqi (show (436 : Int32) = nI 436 from by decide) ?_
        refine x_iald hx hb hK hP 1 0 rfl rfl (k := 436) (by omega) (by decide) dX5_keep_39 ?_
        refine x_eqi (show (mkM D1 S1 R1 N1 K1 L1) 436 = N1 4 from (mkM_N (j := 4) (by omega) (by omega))) ?_
        refine x_iretW (w := [(mm, .inr (5, [.ref mn, .ref mh, .int kp, .ref ms, .int 1, .ref mr, .ref md, .ref mo, .ref mc, .int ty, .ref mt, .int at9, .int nu, .ref mq])), (mn, .inl (cI, 578, .inl (mkM D1 S1 R1 N1 K1 L1))), (ms, .inl (cI, 578, .inl (f)))]) hQ hAe hx hb hr hlocks (hP.sub [0, 1, 2] rfl) (hD.sub [0, 1, 2] (by decide) rfl) hS ?_ dX5_keep_40
        exact ⟨rfl, by rw [hi2_1, show j = 578 by omega]⟩
      · skip
        refine lv_aload_n hx hb dX5_keep_9 rfl (lv_at hl 0 rfl) ?_
        refine va_get (v := .ref ms) (D := D) (ci := 5) (C := RX5) (T := TX5) (N := 14) hx hb hts (by decide +kernel) hown hK hP 0 rfl rfl 3 (by decide) (hts (.fieldLink RX5 16 "SpiralFramesModel" "slot" "[I") (by decide +kernel)) (fun _ h9 => h9) rfl dX5_keep_10 ?_
        refine lv_iload_n hx hb dX5_keep_13 rfl (lv_at hl 1 rfl) ?_
        refine lv_aload_n hx hb dX5_keep_14 rfl (lv_at hl 0 rfl) ?_
        refine va_get (v := .ref mn) (D := D) (ci := 5) (C := RX5) (T := TX5) (N := 14) hx hb hts (by decide +kernel) hown hK hP 0 rfl rfl 0 (by decide) (hts (.fieldLink RX5 7 "SpiralFramesModel" "now" "[I") (by decide +kernel)) (fun _ h9 => h9) rfl dX5_keep_15 ?_
        refine lv_iload_n hx hb dX5_keep_18 rfl (lv_at hl 1 rfl) ?_
        refine x_iald hx hb hK hP 1 0 rfl rfl (k := j) (by omega) (by decide) dX5_keep_19 ?_
        refine x_iast hx hb hK hP hD hS 2 0 rfl rfl (k := j) (by omega) (by decide) dX5_keep_20 (fun H locs hP hD hS => ?_)
        have hP : va_P D vwCl [(mm, .inr (5, [.ref mn, .ref mh, .int kp, .ref ms, .int fl, .ref mr, .ref md, .ref mo, .ref mc, .int ty, .ref mt, .int at9, .int nu, .ref mq])), (mn, .inl (cI, 578, .inl (mkM D1 S1 R1 N1 K1 L1))), (ms, .inl (cI, 578, .inl (upd f j ((mkM D1 S1 R1 N1 K1 L1) j))))] H := hP
        have hD : va_D (Ar) [(mm, .inr (5, [.ref mn, .ref mh, .int kp, .ref ms, .int fl, .ref mr, .ref md, .ref mo, .ref mc, .int ty, .ref mt, .int at9, .int nu, .ref mq])), (mn, .inl (cI, 578, .inl (mkM D1 S1 R1 N1 K1 L1))), (ms, .inl (cI, 578, .inl (upd f j ((mkM D1 S1 R1 N1 K1 L1) j))))] := hD
        refine lv_iinc (v := nI (j + 1)) (lv' := [(1, .int (nI (j + 1))), (0, .ref mm)]) hx hb dX5_keep_21 hl (k := 1) rfl (nI_add _ _) (by decide) rfl (fun ls hl => ?_)
        refine lv_goto (tgt := 2) hx hb dX5_keep_24 (by decide) ?_
        exact ih2 (j + 1) (upd f j ((mkM D1 S1 R1 N1 K1 L1) j)) (by first | omega | assumption | rfl) (by rw [hi2_1]; exact cpF_s (by omega) rfl) (by omega) H locs (hP.sub [0, 1, 2] rfl) (hD.sub [0, 1, 2] (by decide) rfl) hS ls (lv_sub hl [1, 0] rfl)
  exact L2 _ 0 sl (by first | omega | assumption | rfl) cpF_0 (Nat.lt_succ_self _) s.heap [] (hP.sub [0, 1, 2] rfl) (hD.sub [0, 1, 2] (by decide) rfl) hS ls (lv_sub hl [1, 0] rfl)
set_option maxHeartbeats 4000000 in
set_option maxRecDepth 100000 in
theorem c_X5_restore_n (l : Launch) (D : va_G) (cI cC cS : ClassId) (tt : Nat → Nat) (mm : Nat) (mn : Nat) (mh : Nat) (ms : Nat) (mr : Nat) (md : Nat) (mo : Nat) (mc : Nat) (mt : Nat) (mq : Nat) (ty : Int32) (at9 : Int32) (nu : Int32) (kp : Int32) : Met l yX5_restore wsX5_restore ({ frames := 0, cells := 0, slots := 0, locals := 0 } : Room) (x_PR D cI cC cS tt [(mm, .inr (5, [.ref mn, .ref mh, .int kp, .ref ms, .int 0, .ref mr, .ref md, .ref mo, .ref mc, .int ty, .ref mt, .int at9, .int nu, .ref mq]))] [.ref mm]) (QcRead (-5)) 0 0 (fun _ => False) := by
  refine Met.ofW (cc := cX5_restore) (maxL := 2) (ret := (some .int)) (by decide) rfl ?_
  intro p e s m args below meth c s₁ hBd hml hv
  obtain ⟨rfl, hP, hK, hE⟩ := hv
  have hx := hBd.exec
  have hb := hBd.bytes
  have hr := hBd.returns
  have hts := atoms_spec (ws := wsX5_restore) hBd.pre
  have hown : s.vm.findClass RX5 = some m.cls := findClass_of_methodNamed hBd.named
  have hlocks := hBd.notSynchronized
  have hS : va_S (fun _ => False) s.heap s.heap [] := va_S.rf
  have hl := lv_entry ([.ref mm]) (n := 2) (Nat.le_of_ble_eq_true rfl)
  rw [lg_entry_eq]
  generalize (lg_sl ([.ref mm]) ++ List.replicate (2 - (lg_sl ([.ref mm])).length) Slot.unset).toArray = ls at hl ⊢
  have hl : lv_has ls 2 [(0, .ref mm)] := hl
  refine x_genQ (fun Q hQ => ?_)
  refine lv_aload_n hx hb dX5_restore_0 rfl (lv_at hl 0 rfl) ?_
  refine va_get (v := .int 0) (D := D) (ci := 5) (C := RX5) (T := TX5) (N := 14) hx hb hts (by decide +kernel) hown hK hP 0 rfl rfl 4 (by decide) (hts (.fieldLink RX5 149 "SpiralFramesModel" "isFilled" "Z") (by decide +kernel)) (fun _ h9 => h9) rfl dX5_restore_1 ?_
  refine lv_if_ne (tgt := 10) hx hb dX5_restore_4 (by decide) (fun h => False.elim (by revert h; decide)) (fun _ => ?_)
  refine lv_bipush (v := (-5)) hx hb dX5_restore_7 (by decide) ?_
  exact x_iretR hQ hx hb hr hlocks rfl dX5_restore_9
set_option maxHeartbeats 4000000 in
set_option maxRecDepth 100000 in
theorem c_X5_restore_s (l : Launch) (D : va_G) (cI cC cS : ClassId) (tt : Nat → Nat) (sz : Nat) (mm : Nat) (mn : Nat) (mh : Nat) (ms : Nat) (mr : Nat) (md : Nat) (mo : Nat) (mc : Nat) (mt : Nat) (mq : Nat) (ty : Int32) (at9 : Int32) (nu : Int32) (D1 : Nat → Int32) (S1 : Nat → Int32) (R1 : Nat → Int32) (N1 : Nat → Int32) (K1 : Int32) (L1 : Nat → Int32) (k : Nat) (Hs : Nat → Int32) (sl : Nat → Int32) (D2 : Nat → Int32) (S2 : Nat → Int32) (R2 : Nat → Int32) (N2 : Nat → Int32) (K2 : Int32) (L2 : Nat → Int32) (hh0 : k ≤ 4) (hh1 : ∀ x, x < 578 → sl x = mkM D2 S2 R2 N2 K2 L2 x) : Met l yX5_restore wsX5_restore ({ frames := 1, cells := 0, slots := 0, locals := 21 } : Room) (x_PW D cI cC cS tt [(mm, .inr (5, [.ref mn, .ref mh, .int (nI k), .ref ms, .int 1, .ref mr, .ref md, .ref mo, .ref mc, .int ty, .ref mt, .int at9, .int nu, .ref mq])), (mn, .inl (cI, 578, .inl (mkM D1 S1 R1 N1 K1 L1))), (mh, .inl (cI, 2312, .inl (Hs))), (ms, .inl (cI, 578, .inl (sl)))] sz [.ref mm]) (x_QWi D [(mm, .inr (5, [.ref mn, .ref mh, .int (nI k), .ref ms, .int 1, .ref mr, .ref md, .ref mo, .ref mc, .int ty, .ref mt, .int at9, .int nu, .ref mq])), (mn, .inl (cI, 578, .inl (mkM D1 S1 R1 N1 K1 L1))), (mh, .inl (cI, 2312, .inl (Hs))), (ms, .inl (cI, 578, .inl (sl)))] sz (fun (r : Int32) (w : va_W) => r = (N2 4) ∧ w = [(mm, .inr (5, [.ref mn, .ref mh, .int (nI (min (k + 1) 4)), .ref ms, .int 1, .ref mr, .ref md, .ref mo, .ref mc, .int ty, .ref mt, .int at9, .int nu, .ref mq])), (mn, .inl (cI, 578, .inl (mkM D2 S2 R2 N2 K2 L2))), (mh, .inl (cI, 2312, .inl (rcH Hs (mkM D1 S1 R1 N1 K1 L1) k))), (ms, .inl (cI, 578, .inl (sl)))])) 0 0 (va_A [(mm, .inr (5, [.ref mn, .ref mh, .int (nI k), .ref ms, .int 1, .ref mr, .ref md, .ref mo, .ref mc, .int ty, .ref mt, .int at9, .int nu, .ref mq])), (mn, .inl (cI, 578, .inl (mkM D1 S1 R1 N1 K1 L1))), (mh, .inl (cI, 2312, .inl (Hs))), (ms, .inl (cI, 578, .inl (sl)))] sz) := by
  refine Met.ofW (cc := cX5_restore) (maxL := 2) (ret := (some .int)) (by decide) rfl ?_
  intro p e s m args below meth c s₁ hBd hml hv
  obtain ⟨rfl, hsz, hP, hK, hD0, hE0⟩ := hv
  have hx := hBd.exec
  have hb := hBd.bytes
  have hr := hBd.returns
  have hts := atoms_spec (ws := wsX5_restore) hBd.pre
  have hown : s.vm.findClass RX5 = some m.cls := findClass_of_methodNamed hBd.named
  have hlocks := hBd.notSynchronized
  subst hsz
  obtain ⟨Ar, hAe⟩ : ∃ Ar : Nat → Prop, Ar = va_A [(mm, .inr (5, [.ref mn, .ref mh, .int (nI k), .ref ms, .int 1, .ref mr, .ref md, .ref mo, .ref mc, .int ty, .ref mt, .int at9, .int nu, .ref mq])), (mn, .inl (cI, 578, .inl (mkM D1 S1 R1 N1 K1 L1))), (mh, .inl (cI, 2312, .inl (Hs))), (ms, .inl (cI, 578, .inl (sl)))] s.heap.size := ⟨_, rfl⟩
  have hD : va_D Ar [(mm, .inr (5, [.ref mn, .ref mh, .int (nI k), .ref ms, .int 1, .ref mr, .ref md, .ref mo, .ref mc, .int ty, .ref mt, .int at9, .int nu, .ref mq])), (mn, .inl (cI, 578, .inl (mkM D1 S1 R1 N1 K1 L1))), (mh, .inl (cI, 2312, .inl (Hs))), (ms, .inl (cI, 578, .inl (sl)))] := by rw [hAe]; exact hD0.self
  have hA : ∀ q : Nat, s.heap.size ≤ q → Ar q := fun q h => by rw [hAe]; exact Or.inr h
  have hE : x_E tt Ar s := by rw [hAe]; exact hE0
  have hS : va_S Ar s.heap s.heap [] := va_S.rf
  have hl := lv_entry ([.ref mm]) (n := 2) (Nat.le_of_ble_eq_true rfl)
  rw [lg_entry_eq]
  generalize (lg_sl ([.ref mm]) ++ List.replicate (2 - (lg_sl ([.ref mm])).length) Slot.unset).toArray = ls at hl ⊢
  have hl : lv_has ls 2 [(0, .ref mm)] := hl
  refine x_genQ (fun Q hQ => ?_)
  refine lv_aload_n hx hb dX5_restore_0 rfl (lv_at hl 0 rfl) ?_
  refine va_get (v := .int 1) (D := D) (ci := 5) (C := RX5) (T := TX5) (N := 14) hx hb hts (by decide +kernel) hown hK hP 0 rfl rfl 4 (by decide) (hts (.fieldLink RX5 149 "SpiralFramesModel" "isFilled" "Z") (by decide +kernel)) (fun _ h9 => h9) rfl dX5_restore_1 ?_
  refine lv_if_ne (tgt := 10) hx hb dX5_restore_4 (by decide) (fun _ => ?_) (fun h => False.elim (by revert h; decide))
  refine lv_aload_n hx hb dX5_restore_10 rfl (lv_at hl 0 rfl) ?_
  refine x_callWv (wc := [(mm, .inr (5, [.ref mn, .ref mh, .int (nI k), .ref ms, .int 1, .ref mr, .ref md, .ref mo, .ref mc, .int ty, .ref mt, .int at9, .int nu, .ref mq])), (mn, .inl (cI, 578, .inl (mkM D1 S1 R1 N1 K1 L1))), (mh, .inl (cI, 2312, .inl (Hs)))]) (wr := [(ms, .inl (cI, 578, .inl (sl)))]) (va_runV (As := []) (rest := []) ⟨hx, hb, hml, hown, hts⟩ (c_X5_record l D cI cC cS tt s.heap.size mm mn mh ms mr md mo mc mt mq 1 ty at9 nu k (mkM D1 S1 R1 N1 K1 L1) Hs (by first | omega | assumption | decide)) (cwV 0 hts gX5_restore_X5_record rfl rfl rfl (by decide +kernel) ⟨Nat.le_of_ble_eq_true rfl, Nat.le_of_ble_eq_true rfl⟩) ⟨x_blindW, va_recv hK hP (ci := 5) (q0 := 0) rfl rfl, x_preW hP hD hK hE hS hA [0, 1, 2] rfl (by decide)⟩ rfl rfl hl.1 rfl (lv_room (Nat.le_of_ble_eq_true rfl)) dX5_restore_11 ⟨(Nat.le_of_ble_eq_true rfl), (Nat.le_of_ble_eq_true rfl)⟩) hP hD hS hA [0, 1, 2] [3] rfl rfl (by decide) (by decide) (fun w1 H locs hw hP hD hS => ?_)
  obtain rfl := hw
  have hP : va_P D vwCl [(mm, .inr (5, [.ref mn, .ref mh, .int (nI (min (k + 1) 4)), .ref ms, .int 1, .ref mr, .ref md, .ref mo, .ref mc, .int ty, .ref mt, .int at9, .int nu, .ref mq])), (mn, .inl (cI, 578, .inl (mkM D1 S1 R1 N1 K1 L1))), (mh, .inl (cI, 2312, .inl (rcH Hs (mkM D1 S1 R1 N1 K1 L1) k))), (ms, .inl (cI, 578, .inl (sl)))] H := hP
  have hD : va_D (Ar) [(mm, .inr (5, [.ref mn, .ref mh, .int (nI (min (k + 1) 4)), .ref ms, .int 1, .ref mr, .ref md, .ref mo, .ref mc, .int ty, .ref mt, .int at9, .int nu, .ref mq])), (mn, .inl (cI, 578, .inl (mkM D1 S1 R1 N1 K1 L1))), (mh, .inl (cI, 2312, .inl (rcH Hs (mkM D1 S1 R1 N1 K1 L1) k))), (ms, .inl (cI, 578, .inl (sl)))] := hD
  refine lv_iconst (v := 0) hx hb dX5_restore_14 (by decide) ?_
  refine lv_istore_n (lv' := [(1, .int 0), (0, .ref mm)]) hx hb dX5_restore_15 rfl hl (by decide) rfl (fun ls hl => ?_)
  have L16 : ∀ (fuel : Nat) (j : Nat) (f : Nat → Int32), (j ≤ 578) → (f = cpF (mkM D1 S1 R1 N1 K1 L1) sl 0 j) → 578 - j < fuel → ∀ (H : Heap) (locs : List Loc), va_P D vwCl [(mm, .inr (5, [.ref mn, .ref mh, .int (nI (min (k + 1) 4)), .ref ms, .int 1, .ref mr, .ref md, .ref mo, .ref mc, .int ty, .ref mt, .int at9, .int nu, .ref mq])), (mn, .inl (cI, 578, .inl (f))), (mh, .inl (cI, 2312, .inl (rcH Hs (mkM D1 S1 R1 N1 K1 L1) k))), (ms, .inl (cI, 578, .inl (sl)))] H → va_D (Ar) [(mm, .inr (5, [.ref mn, .ref mh, .int (nI (min (k + 1) 4)), .ref ms, .int 1, .ref mr, .ref md, .ref mo, .ref mc, .int ty, .ref mt, .int at9, .int nu, .ref mq])), (mn, .inl (cI, 578, .inl (f))), (mh, .inl (cI, 2312, .inl (rcH Hs (mkM D1 S1 R1 N1 K1 L1) k))), (ms, .inl (cI, 578, .inl (sl)))] → va_S (Ar) s.heap H locs → ∀ (ls : Array Slot), lv_has ls 2 [(0, .ref mm), (1, .int (nI j))] → W p l e (headSpec wsX5_restore ({ frames := 1, cells := 0, slots := 0, locals := 21 } : Room)).room s m ([.ref mm] : List Value).toArray below meth c H locs 0 0 Q (F0 m 16 ls []) := by
    intro fuel
    induction fuel with
    | zero =>
      intro j f hi16_0 hi16_1 hfu
      exact absurd hfu (Nat.not_lt_zero _)
    | succ fuel ih16 =>
      intro j f hi16_0 hi16_1 hfu16 H locs hP hD hS ls hl
      refine lv_iload_n hx hb dX5_restore_16 rfl (lv_at hl 1 rfl) ?_
      refine lv_sipush (v := 578) hx hb dX5_restore_17 (by decide) ?_
      refine x_icmp_ge (tgt := 41) hx hb dX5_restore_20 (by decide) (X := ((j : Nat) : Int)) (nI_toI (by omega)) (Y := 578) (show (578 : Int32).toInt = 578 from by decide) (fun c_20 => ?_) (fun c_20 => ?_)
      · skip
        have e9 : f = mkM D2 S2 R2 N2 K2 L2 := by rw [hi16_1, show j = 578 by omega]; exact cp_mk hh1
        refine lv_aload_n hx hb dX5_restore_41 rfl (lv_at hl 0 rfl) ?_
        refine va_get (v := .ref mn) (D := D) (ci := 5) (C := RX5) (T := TX5) (N := 14) hx hb hts (by decide +kernel) hown hK hP 0 rfl rfl 0 (by decide) (hts (.fieldLink RX5 7 "SpiralFramesModel" "now" "[I") (by decide +kernel)) (fun _ h9 => h9) rfl dX5_restore_42 ?_
        refine lv_sipush (v := 436) hx hb dX5_restore_45 (by decide) ?_
        refine x_eqi (show (436 : Int32) = nI 436 from by decide) ?_
        refine x_iald hx hb hK hP 1 0 rfl rfl (k := 436) (by omega) (by decide) dX5_restore_48 ?_
        refine x_eqi (show f 436 = N2 4 from (by rw [e9]; exact mkM_N (j := 4) (by omega) (by omega))) ?_
        refine x_iretW (w := [(mm, .inr (5, [.ref mn, .ref mh, .int (nI (min (k + 1) 4)), .ref ms, .int 1, .ref mr, .ref md, .ref mo, .ref mc, .int ty, .ref mt, .int at9, .int nu, .ref mq])), (mn, .inl (cI, 578, .inl (f))), (mh, .inl (cI, 2312, .inl (rcH Hs (mkM D1 S1 R1 N1 K1 L1) k))), (ms, .inl (cI, 578, .inl (sl)))]) hQ hAe hx hb hr hlocks (hP.sub [0, 1, 2, 3] rfl) (hD.sub [0, 1, 2, 3] (by decide) rfl) hS ?_ dX5_restore_49
        exact ⟨rfl, by rw [e9]⟩
      · skip
        refine lv_aload_n hx hb dX5_restore_23 rfl (lv_at hl 0 rfl) ?_
        refine va_get (v := .ref mn) (D := D) (ci := 5) (C := RX5) (T := TX5) (N := 14) hx hb hts (by decide +kernel) hown hK hP 0 rfl rfl 0 (by decide) (hts (.fieldLink RX5 7 "SpiralFramesModel" "now" "[I") (by decide +kernel)) (fun _ h9 => h9) rfl dX5_restore_24 ?_
        refine lv_iload_n hx hb dX5_restore_27 rfl (lv_at hl 1 rfl) ?_
        refine lv_aload_n hx hb dX5_restore_28 rfl (lv_at hl 0 rfl) ?_
        refine va_get (v := .ref ms) (D := D) (ci := 5) (C := RX5) (T := TX5) (N := 14) hx hb hts (by decide +kernel) hown hK hP 0 rfl rfl 3 (by decide) (hts (.fieldLink RX5 16 "SpiralFramesModel" "slot" "[I") (by decide +kernel)) (fun _ h9 => h9) rfl dX5_restore_29 ?_
        refine lv_iload_n hx hb dX5_restore_32 rfl (lv_at hl 1 rfl) ?_
        refine x_iald hx hb hK hP 3 0 rfl rfl (k := j) (by omega) (by decide) dX5_restore_33 ?_
        refine x_iast hx hb hK hP hD hS 1 0 rfl rfl (k := j) (by omega) (by decide) dX5_restore_34 (fun H locs hP hD hS => ?_)
        have hP : va_P D vwCl [(mm, .inr (5, [.ref mn, .ref mh, .int (nI (min (k + 1) 4)), .ref ms, .int 1, .ref mr, .ref md, .ref mo, .ref mc, .int ty, .ref mt, .int at9, .int nu, .ref mq])), (mn, .inl (cI, 578, .inl (upd f j (sl j)))), (mh, .inl (cI, 2312, .inl (rcH Hs (mkM D1 S1 R1 N1 K1 L1) k))), (ms, .inl (cI, 578, .inl (sl)))] H := hP
        have hD : va_D (Ar) [(mm, .inr (5, [.ref mn, .ref mh, .int (nI (min (k + 1) 4)), .ref ms, .int 1, .ref mr, .ref md, .ref mo, .ref mc, .int ty, .ref mt, .int at9, .int nu, .ref mq])), (mn, .inl (cI, 578, .inl (upd f j (sl j)))), (mh, .inl (cI, 2312, .inl (rcH Hs (mkM D1 S1 R1 N1 K1 L1) k))), (ms, .inl (cI, 578, .inl (sl)))] := hD
        refine lv_iinc (v := nI (j + 1)) (lv' := [(1, .int (nI (j + 1))), (0, .ref mm)]) hx hb dX5_restore_35 hl (k := 1) rfl (nI_add _ _) (by decide) rfl (fun ls hl => ?_)
        refine lv_goto (tgt := 16) hx hb dX5_restore_38 (by decide) ?_
        exact ih16 (j + 1) (upd f j (sl j)) (by first | omega | assumption | rfl) (by rw [hi16_1]; exact cpF_s (by omega) rfl) (by omega) H locs (hP.sub [0, 1, 2, 3] rfl) (hD.sub [0, 1, 2, 3] (by decide) rfl) hS ls (lv_sub hl [1, 0] rfl)
  exact L16 _ 0 (mkM D1 S1 R1 N1 K1 L1) (by first | omega | assumption | rfl) cpF_0 (Nat.lt_succ_self _) H locs (hP.sub [0, 1, 2, 3] rfl) (hD.sub [0, 1, 2, 3] (by decide) rfl) hS ls (lv_sub hl [1, 0] rfl)
set_option maxHeartbeats 4000000 in
set_option maxRecDepth 100000 in
theorem c_X5_type (l : Launch) (D : va_G) (cI cC cS : ClassId) (tt : Nat → Nat) (sz : Nat) (mm : Nat) (mn : Nat) (mh : Nat) (ms : Nat) (mr : Nat) (md : Nat) (mo : Nat) (mc : Nat) (mt : Nat) (mq : Nat) (ln : Nat) (kp : Int32) (fl : Int32) (at9 : Int32) (nu : Int32) (ch : Int32) (tx : Nat → Int32) (hh0 : ln ≤ 60) (hh1 : vp_nar .char ch = ch) : Met l yX5_type wsX5_type ({ frames := 0, cells := 0, slots := 0, locals := 0 } : Room) (x_PW D cI cC cS tt [(mm, .inr (5, [.ref mn, .ref mh, .int kp, .ref ms, .int fl, .ref mr, .ref md, .ref mo, .ref mc, .int (nI ln), .ref mt, .int at9, .int nu, .ref mq])), (mt, .inl (cC, 60, .inl (tx)))] sz [.ref mm, .int ch]) (x_QWi D [(mm, .inr (5, [.ref mn, .ref mh, .int kp, .ref ms, .int fl, .ref mr, .ref md, .ref mo, .ref mc, .int (nI ln), .ref mt, .int at9, .int nu, .ref mq])), (mt, .inl (cC, 60, .inl (tx)))] sz (fun (r : Int32) (w : va_W) => (r = (nI (ln + 1)) ∧ w = [(mm, .inr (5, [.ref mn, .ref mh, .int kp, .ref ms, .int fl, .ref mr, .ref md, .ref mo, .ref mc, .int (nI (ln + 1)), .ref mt, .int at9, .int nu, .ref mq])), (mt, .inl (cC, 60, .inl (upd tx ln ch)))] ∧ (ln < 60)) ∨ (r = (-3) ∧ w = [(mm, .inr (5, [.ref mn, .ref mh, .int kp, .ref ms, .int fl, .ref mr, .ref md, .ref mo, .ref mc, .int (nI ln), .ref mt, .int at9, .int nu, .ref mq])), (mt, .inl (cC, 60, .inl (tx)))] ∧ (ln = 60)))) 0 0 (va_A [(mm, .inr (5, [.ref mn, .ref mh, .int kp, .ref ms, .int fl, .ref mr, .ref md, .ref mo, .ref mc, .int (nI ln), .ref mt, .int at9, .int nu, .ref mq])), (mt, .inl (cC, 60, .inl (tx)))] sz) := by
  refine Met.ofW (cc := cX5_type) (maxL := 2) (ret := (some .int)) (by decide) rfl ?_
  intro p e s m args below meth c s₁ hBd hml hv
  obtain ⟨rfl, hsz, hP, hK, hD0, hE0⟩ := hv
  have hx := hBd.exec
  have hb := hBd.bytes
  have hr := hBd.returns
  have hts := atoms_spec (ws := wsX5_type) hBd.pre
  have hown : s.vm.findClass RX5 = some m.cls := findClass_of_methodNamed hBd.named
  have hlocks := hBd.notSynchronized
  subst hsz
  obtain ⟨Ar, hAe⟩ : ∃ Ar : Nat → Prop, Ar = va_A [(mm, .inr (5, [.ref mn, .ref mh, .int kp, .ref ms, .int fl, .ref mr, .ref md, .ref mo, .ref mc, .int (nI ln), .ref mt, .int at9, .int nu, .ref mq])), (mt, .inl (cC, 60, .inl (tx)))] s.heap.size := ⟨_, rfl⟩
  have hD : va_D Ar [(mm, .inr (5, [.ref mn, .ref mh, .int kp, .ref ms, .int fl, .ref mr, .ref md, .ref mo, .ref mc, .int (nI ln), .ref mt, .int at9, .int nu, .ref mq])), (mt, .inl (cC, 60, .inl (tx)))] := by rw [hAe]; exact hD0.self
  have hA : ∀ q : Nat, s.heap.size ≤ q → Ar q := fun q h => by rw [hAe]; exact Or.inr h
  have hE : x_E tt Ar s := by rw [hAe]; exact hE0
  have hS : va_S Ar s.heap s.heap [] := va_S.rf
  have hl := lv_entry ([.ref mm, .int ch]) (n := 2) (Nat.le_of_ble_eq_true rfl)
  rw [lg_entry_eq]
  generalize (lg_sl ([.ref mm, .int ch]) ++ List.replicate (2 - (lg_sl ([.ref mm, .int ch])).length) Slot.unset).toArray = ls at hl ⊢
  have hl : lv_has ls 2 [(0, .ref mm), (1, .int ch)] := hl
  refine x_genQ (fun Q hQ => ?_)
  refine lv_aload_n hx hb dX5_type_0 rfl (lv_at hl 0 rfl) ?_
  refine va_get (v := .int (nI ln)) (D := D) (ci := 5) (C := RX5) (T := TX5) (N := 14) hx hb hts (by decide +kernel) hown hK hP 0 rfl rfl 9 (by decide) (hts (.fieldLink RX5 120 "SpiralFramesModel" "typed" "I") (by decide +kernel)) (fun _ h9 => h9) rfl dX5_type_1 ?_
  refine lv_bipush (v := 60) hx hb dX5_type_4 (by decide) ?_
  refine x_icmp_ne (tgt := 12) hx hb dX5_type_6 (by decide) (X := ((ln : Nat) : Int)) (nI_toI (by omega)) (Y := 60) (show (60 : Int32).toInt = 60 from by decide) (fun c_6 => ?_) (fun c_6 => ?_)
  · skip
    refine lv_aload_n hx hb dX5_type_12 rfl (lv_at hl 0 rfl) ?_
    refine va_get (v := .ref mt) (D := D) (ci := 5) (C := RX5) (T := TX5) (N := 14) hx hb hts (by decide +kernel) hown hK hP 0 rfl rfl 10 (by decide) (hts (.fieldLink RX5 31 "SpiralFramesModel" "text" "[C") (by decide +kernel)) (fun _ h9 => h9) rfl dX5_type_13 ?_
    refine lv_aload_n hx hb dX5_type_16 rfl (lv_at hl 0 rfl) ?_
    refine va_get (v := .int (nI ln)) (D := D) (ci := 5) (C := RX5) (T := TX5) (N := 14) hx hb hts (by decide +kernel) hown hK hP 0 rfl rfl 9 (by decide) (hts (.fieldLink RX5 120 "SpiralFramesModel" "typed" "I") (by decide +kernel)) (fun _ h9 => h9) rfl dX5_type_17 ?_
    refine lv_iload_n hx hb dX5_type_20 rfl (lv_at hl 1 rfl) ?_
    refine x_cast hx hb hK hP hD hS 1 1 rfl rfl (k := ln) hh1 (by omega) (by decide) dX5_type_21 (fun H locs hP hD hS => ?_)
    have hP : va_P D vwCl [(mm, .inr (5, [.ref mn, .ref mh, .int kp, .ref ms, .int fl, .ref mr, .ref md, .ref mo, .ref mc, .int (nI ln), .ref mt, .int at9, .int nu, .ref mq])), (mt, .inl (cC, 60, .inl (upd tx ln ch)))] H := hP
    have hD : va_D (Ar) [(mm, .inr (5, [.ref mn, .ref mh, .int kp, .ref ms, .int fl, .ref mr, .ref md, .ref mo, .ref mc, .int (nI ln), .ref mt, .int at9, .int nu, .ref mq])), (mt, .inl (cC, 60, .inl (upd tx ln ch)))] := hD
    refine lv_aload_n hx hb dX5_type_22 rfl (lv_at hl 0 rfl) ?_
    refine lv_dup hx hb dX5_type_23 rfl ?_
    refine va_get (v := .int (nI ln)) (D := D) (ci := 5) (C := RX5) (T := TX5) (N := 14) hx hb hts (by decide +kernel) hown hK hP 0 rfl rfl 9 (by decide) (hts (.fieldLink RX5 120 "SpiralFramesModel" "typed" "I") (by decide +kernel)) (fun _ h9 => h9) rfl dX5_type_24 ?_
    refine lv_iconst (v := 1) hx hb dX5_type_27 (by decide) ?_
    refine lv_iadd hx hb dX5_type_28 ?_
    refine x_eqi (show nI ln + 1 = nI (ln + 1) from nI_add ln 1) ?_
    refine va_put (v := .int (nI (ln + 1))) (ty := .int) (D := D) (ci := 5) (C := RX5) (T := TX5) (N := 14) hx hb hts (by decide +kernel) tyX5 tyX5_ok nmX5 hown hK hP hD hS 0 rfl rfl 9 (by decide) (hts (.fieldLink RX5 120 "SpiralFramesModel" "typed" "I") (by decide +kernel)) (fun _ h9 => h9) rfl (by decide +kernel) rfl rfl (Nat.le_of_ble_eq_true rfl) dX5_type_29 (fun H locs hP hD hS => ?_)
    have hP : va_P D vwCl [(mm, .inr (5, [.ref mn, .ref mh, .int kp, .ref ms, .int fl, .ref mr, .ref md, .ref mo, .ref mc, .int (nI (ln + 1)), .ref mt, .int at9, .int nu, .ref mq])), (mt, .inl (cC, 60, .inl (upd tx ln ch)))] H := hP
    have hD : va_D (Ar) [(mm, .inr (5, [.ref mn, .ref mh, .int kp, .ref ms, .int fl, .ref mr, .ref md, .ref mo, .ref mc, .int (nI (ln + 1)), .ref mt, .int at9, .int nu, .ref mq])), (mt, .inl (cC, 60, .inl (upd tx ln ch)))] := hD
    refine lv_aload_n hx hb dX5_type_32 rfl (lv_at hl 0 rfl) ?_
    refine va_get (v := .int (nI (ln + 1))) (D := D) (ci := 5) (C := RX5) (T := TX5) (N := 14) hx hb hts (by decide +kernel) hown hK hP 0 rfl rfl 9 (by decide) (hts (.fieldLink RX5 120 "SpiralFramesModel" "typed" "I") (by decide +kernel)) (fun _ h9 => h9) rfl dX5_type_33 ?_
    refine x_iretW (w := [(mm, .inr (5, [.ref mn, .ref mh, .int kp, .ref ms, .int fl, .ref mr, .ref md, .ref mo, .ref mc, .int (nI (ln + 1)), .ref mt, .int at9, .int nu, .ref mq])), (mt, .inl (cC, 60, .inl (upd tx ln ch)))]) hQ hAe hx hb hr hlocks (hP.sub [0, 1] rfl) (hD.sub [0, 1] (by decide) rfl) hS ?_ dX5_type_36
    refine Or.inl ?_
    exact ⟨rfl, rfl, by omega⟩
  · skip
    refine lv_bipush (v := (-3)) hx hb dX5_type_9 (by decide) ?_
    refine x_iretW (w := [(mm, .inr (5, [.ref mn, .ref mh, .int kp, .ref ms, .int fl, .ref mr, .ref md, .ref mo, .ref mc, .int (nI ln), .ref mt, .int at9, .int nu, .ref mq])), (mt, .inl (cC, 60, .inl (tx)))]) hQ hAe hx hb hr hlocks (hP.sub [0, 1] rfl) (hD.sub [0, 1] (by decide) rfl) hS ?_ dX5_type_11
    refine Or.inr (?_)
    exact ⟨rfl, rfl, by omega⟩
set_option maxHeartbeats 4000000 in
set_option maxRecDepth 100000 in
theorem c_X5_clearText (l : Launch) (D : va_G) (cI cC cS : ClassId) (tt : Nat → Nat) (sz : Nat) (mm : Nat) (mn : Nat) (mh : Nat) (ms : Nat) (mr : Nat) (md : Nat) (mo : Nat) (mc : Nat) (mt : Nat) (mq : Nat) (kp : Int32) (fl : Int32) (ty : Int32) (at9 : Int32) (nu : Int32) : Met l yX5_clearText wsX5_clearText ({ frames := 0, cells := 0, slots := 0, locals := 0 } : Room) (x_PW D cI cC cS tt [(mm, .inr (5, [.ref mn, .ref mh, .int kp, .ref ms, .int fl, .ref mr, .ref md, .ref mo, .ref mc, .int ty, .ref mt, .int at9, .int nu, .ref mq]))] sz [.ref mm]) (x_QWi D [(mm, .inr (5, [.ref mn, .ref mh, .int kp, .ref ms, .int fl, .ref mr, .ref md, .ref mo, .ref mc, .int ty, .ref mt, .int at9, .int nu, .ref mq]))] sz (fun (r : Int32) (w : va_W) => r = ty ∧ w = [(mm, .inr (5, [.ref mn, .ref mh, .int kp, .ref ms, .int fl, .ref mr, .ref md, .ref mo, .ref mc, .int 0, .ref mt, .int at9, .int nu, .ref mq]))])) 0 0 (va_A [(mm, .inr (5, [.ref mn, .ref mh, .int kp, .ref ms, .int fl, .ref mr, .ref md, .ref mo, .ref mc, .int ty, .ref mt, .int at9, .int nu, .ref mq]))] sz) := by
  refine Met.ofW (cc := cX5_clearText) (maxL := 2) (ret := (some .int)) (by decide) rfl ?_
  intro p e s m args below meth c s₁ hBd hml hv
  obtain ⟨rfl, hsz, hP, hK, hD0, hE0⟩ := hv
  have hx := hBd.exec
  have hb := hBd.bytes
  have hr := hBd.returns
  have hts := atoms_spec (ws := wsX5_clearText) hBd.pre
  have hown : s.vm.findClass RX5 = some m.cls := findClass_of_methodNamed hBd.named
  have hlocks := hBd.notSynchronized
  subst hsz
  obtain ⟨Ar, hAe⟩ : ∃ Ar : Nat → Prop, Ar = va_A [(mm, .inr (5, [.ref mn, .ref mh, .int kp, .ref ms, .int fl, .ref mr, .ref md, .ref mo, .ref mc, .int ty, .ref mt, .int at9, .int nu, .ref mq]))] s.heap.size := ⟨_, rfl⟩
  have hD : va_D Ar [(mm, .inr (5, [.ref mn, .ref mh, .int kp, .ref ms, .int fl, .ref mr, .ref md, .ref mo, .ref mc, .int ty, .ref mt, .int at9, .int nu, .ref mq]))] := by rw [hAe]; exact hD0.self
  have hA : ∀ q : Nat, s.heap.size ≤ q → Ar q := fun q h => by rw [hAe]; exact Or.inr h
  have hE : x_E tt Ar s := by rw [hAe]; exact hE0
  have hS : va_S Ar s.heap s.heap [] := va_S.rf
  have hl := lv_entry ([.ref mm]) (n := 2) (Nat.le_of_ble_eq_true rfl)
  rw [lg_entry_eq]
  generalize (lg_sl ([.ref mm]) ++ List.replicate (2 - (lg_sl ([.ref mm])).length) Slot.unset).toArray = ls at hl ⊢
  have hl : lv_has ls 2 [(0, .ref mm)] := hl
  refine x_genQ (fun Q hQ => ?_)
  refine lv_aload_n hx hb dX5_clearText_0 rfl (lv_at hl 0 rfl) ?_
  refine va_get (v := .int ty) (D := D) (ci := 5) (C := RX5) (T := TX5) (N := 14) hx hb hts (by decide +kernel) hown hK hP 0 rfl rfl 9 (by decide) (hts (.fieldLink RX5 120 "SpiralFramesModel" "typed" "I") (by decide +kernel)) (fun _ h9 => h9) rfl dX5_clearText_1 ?_
  refine lv_istore_n (lv' := [(1, .int ty), (0, .ref mm)]) hx hb dX5_clearText_4 rfl hl (by decide) rfl (fun ls hl => ?_)
  refine lv_aload_n hx hb dX5_clearText_5 rfl (lv_at hl 1 rfl) ?_
  refine lv_iconst (v := 0) hx hb dX5_clearText_6 (by decide) ?_
  refine va_put (v := .int 0) (ty := .int) (D := D) (ci := 5) (C := RX5) (T := TX5) (N := 14) hx hb hts (by decide +kernel) tyX5 tyX5_ok nmX5 hown hK hP hD hS 0 rfl rfl 9 (by decide) (hts (.fieldLink RX5 120 "SpiralFramesModel" "typed" "I") (by decide +kernel)) (fun _ h9 => h9) rfl (by decide +kernel) rfl rfl (Nat.le_of_ble_eq_true rfl) dX5_clearText_7 (fun H locs hP hD hS => ?_)
  have hP : va_P D vwCl [(mm, .inr (5, [.ref mn, .ref mh, .int kp, .ref ms, .int fl, .ref mr, .ref md, .ref mo, .ref mc, .int 0, .ref mt, .int at9, .int nu, .ref mq]))] H := hP
  have hD : va_D (Ar) [(mm, .inr (5, [.ref mn, .ref mh, .int kp, .ref ms, .int fl, .ref mr, .ref md, .ref mo, .ref mc, .int 0, .ref mt, .int at9, .int nu, .ref mq]))] := hD
  refine lv_iload_n hx hb dX5_clearText_10 rfl (lv_at hl 0 rfl) ?_
  refine x_iretW (w := [(mm, .inr (5, [.ref mn, .ref mh, .int kp, .ref ms, .int fl, .ref mr, .ref md, .ref mo, .ref mc, .int 0, .ref mt, .int at9, .int nu, .ref mq]))]) hQ hAe hx hb hr hlocks (hP.sub [0] rfl) (hD.sub [0] (by decide) rfl) hS ?_ dX5_clearText_11
  exact ⟨rfl, rfl⟩
