theorem cpF_at {Hs M : Nat → Int32} {n x : Nat} (h : x < n) : cpF Hs M 0 n x = M x := by
  unfold cpF; rw [if_pos (by omega)]; rfl
theorem mvN_at {D : Nat → Int32} {C R : Int} {x y : Nat} (hx : x < 12) (hy : y < 12) : mvN D C R (y * 12 + x) = gtZ D (((x : Nat) : Int) - C) (((y : Nat) : Int) - R) := by
  unfold mvN
  rw [if_pos (by omega), show (y * 12 + x) % 12 = x by omega, show (y * 12 + x) / 12 = y by omega]
set_option maxHeartbeats 4000000 in
set_option maxRecDepth 100000 in
theorem c_X5_record (l : Launch) (D : va_G) (cI cC cS : ClassId) (tt : Nat → Nat) (sz : Nat) (mm : Nat) (mn : Nat) (mh : Nat) (ms : Nat) (mr : Nat) (md : Nat) (mo : Nat) (mc : Nat) (mt : Nat) (mq : Nat) (fl : Int32) (ty : Int32) (at9 : Int32) (nu : Int32) (k : Nat) (M : Nat → Int32) (Hs : Nat → Int32) (hh0 : k ≤ 4) : Met l yX5_record wsX5_record ({ frames := 0, cells := 0, slots := 0, locals := 0 } : Room) (x_PW D cI cC cS tt [(mm, .inr (5, [.ref mn, .ref mh, .int (nI k), .ref ms, .int fl, .ref mr, .ref md, .ref mo, .ref mc, .int ty, .ref mt, .int at9, .int nu, .ref mq])), (mn, .inl (cI, 578, .inl (M))), (mh, .inl (cI, 2312, .inl (Hs)))] sz [.ref mm]) (x_QWv D [(mm, .inr (5, [.ref mn, .ref mh, .int (nI k), .ref ms, .int fl, .ref mr, .ref md, .ref mo, .ref mc, .int ty, .ref mt, .int at9, .int nu, .ref mq])), (mn, .inl (cI, 578, .inl (M))), (mh, .inl (cI, 2312, .inl (Hs)))] sz (fun (w : va_W) => w = [(mm, .inr (5, [.ref mn, .ref mh, .int (nI (min (k + 1) 4)), .ref ms, .int fl, .ref mr, .ref md, .ref mo, .ref mc, .int ty, .ref mt, .int at9, .int nu, .ref mq])), (mn, .inl (cI, 578, .inl (M))), (mh, .inl (cI, 2312, .inl (rcH Hs M k)))])) 0 0 (va_A [(mm, .inr (5, [.ref mn, .ref mh, .int (nI k), .ref ms, .int fl, .ref mr, .ref md, .ref mo, .ref mc, .int ty, .ref mt, .int at9, .int nu, .ref mq])), (mn, .inl (cI, 578, .inl (M))), (mh, .inl (cI, 2312, .inl (Hs)))] sz) := by
  refine Met.ofW (cc := cX5_record) (maxL := 2) (ret := none) (by decide) rfl ?_
  intro p e s m args below meth c s₁ hBd hml hv
  obtain ⟨rfl, hsz, hP, hK, hD0, hE0⟩ := hv
  have hx := hBd.exec
  have hb := hBd.bytes
  have hr := hBd.returns
  have hts := atoms_spec (ws := wsX5_record) hBd.pre
  have hown : s.vm.findClass RX5 = some m.cls := findClass_of_methodNamed hBd.named
  have hlocks := hBd.notSynchronized
  subst hsz
  obtain ⟨Ar, hAe⟩ : ∃ Ar : Nat → Prop, Ar = va_A [(mm, .inr (5, [.ref mn, .ref mh, .int (nI k), .ref ms, .int fl, .ref mr, .ref md, .ref mo, .ref mc, .int ty, .ref mt, .int at9, .int nu, .ref mq])), (mn, .inl (cI, 578, .inl (M))), (mh, .inl (cI, 2312, .inl (Hs)))] s.heap.size := ⟨_, rfl⟩
  have hD : va_D Ar [(mm, .inr (5, [.ref mn, .ref mh, .int (nI k), .ref ms, .int fl, .ref mr, .ref md, .ref mo, .ref mc, .int ty, .ref mt, .int at9, .int nu, .ref mq])), (mn, .inl (cI, 578, .inl (M))), (mh, .inl (cI, 2312, .inl (Hs)))] := by rw [hAe]; exact hD0.self
  have hA : ∀ q : Nat, s.heap.size ≤ q → Ar q := fun q h => by rw [hAe]; exact Or.inr h
  have hE : x_E tt Ar s := by rw [hAe]; exact hE0
  have hS : va_S Ar s.heap s.heap [] := va_S.rf
  have hl := lv_entry ([.ref mm]) (n := 2) (Nat.le_of_ble_eq_true rfl)
  rw [lg_entry_eq]
  generalize (lg_sl ([.ref mm]) ++ List.replicate (2 - (lg_sl ([.ref mm])).length) Slot.unset).toArray = ls at hl ⊢
  have hl : lv_has ls 2 [(0, .ref mm)] := hl
  refine x_genQ (fun Q hQ => ?_)
  rcases (show k = 4 ∨ k < 4 by omega) with hk4 | hk4
  · skip
    subst hk4
    refine lv_aload_n hx hb dX5_record_0 rfl (lv_at hl 0 rfl) ?_
    refine va_get (v := .int (nI 4)) (D := D) (ci := 5) (C := RX5) (T := TX5) (N := 14) hx hb hts (by decide +kernel) hown hK hP 0 rfl rfl 2 (by decide) (hts (.fieldLink RX5 46 "SpiralFramesModel" "kept" "I") (by decide +kernel)) (fun _ h9 => h9) rfl dX5_record_1 ?_
    refine lv_iconst (v := 4) hx hb dX5_record_4 (by decide) ?_
    refine x_icmp_ne (tgt := 49) hx hb dX5_record_5 (by decide) (X := ((4 : Nat) : Int)) (nI_toI (by omega)) (Y := 4) (show (4 : Int32).toInt = 4 from by decide) (fun h => False.elim (by omega)) (fun _ => ?_)
    refine lv_iconst (v := 0) hx hb dX5_record_8 (by decide) ?_
    refine lv_istore_n (lv' := [(1, .int 0), (0, .ref mm)]) hx hb dX5_record_9 rfl hl (by decide) rfl (fun ls hl => ?_)
    have L10 : ∀ (fuel : Nat) (j : Nat) (f : Nat → Int32), (j ≤ 1734) → (f = shF Hs j) → 1734 - j < fuel → ∀ (H : Heap) (locs : List Loc), va_P D vwCl [(mm, .inr (5, [.ref mn, .ref mh, .int (nI 4), .ref ms, .int fl, .ref mr, .ref md, .ref mo, .ref mc, .int ty, .ref mt, .int at9, .int nu, .ref mq])), (mn, .inl (cI, 578, .inl (M))), (mh, .inl (cI, 2312, .inl (f)))] H → va_D (Ar) [(mm, .inr (5, [.ref mn, .ref mh, .int (nI 4), .ref ms, .int fl, .ref mr, .ref md, .ref mo, .ref mc, .int ty, .ref mt, .int at9, .int nu, .ref mq])), (mn, .inl (cI, 578, .inl (M))), (mh, .inl (cI, 2312, .inl (f)))] → va_S (Ar) s.heap H locs → ∀ (ls : Array Slot), lv_has ls 2 [(0, .ref mm), (1, .int (nI j))] → W p l e (headSpec wsX5_record ({ frames := 0, cells := 0, slots := 0, locals := 0 } : Room)).room s m ([.ref mm] : List Value).toArray below meth c H locs 0 0 Q (F0 m 10 ls []) := by
      intro fuel
      induction fuel with
      | zero =>
        intro j f hi10_0 hi10_1 hfu
        exact absurd hfu (Nat.not_lt_zero _)
      | succ fuel ih10 =>
        intro j f hi10_0 hi10_1 hfu10 H locs hP hD hS ls hl
        refine lv_iload_n hx hb dX5_record_10 rfl (lv_at hl 1 rfl) ?_
        refine lv_sipush (v := 1734) hx hb dX5_record_11 (by decide) ?_
        refine x_icmp_ge (tgt := 39) hx hb dX5_record_14 (by decide) (X := ((j : Nat) : Int)) (nI_toI (by omega)) (Y := 1734) (show (1734 : Int32).toInt = 1734 from by decide) (fun c_14 => ?_) (fun c_14 => ?_)
        · skip
          refine lv_aload_n hx hb dX5_record_39 rfl (lv_at hl 0 rfl) ?_
          refine lv_dup hx hb dX5_record_40 rfl ?_
          refine va_get (v := .int (nI 4)) (D := D) (ci := 5) (C := RX5) (T := TX5) (N := 14) hx hb hts (by decide +kernel) hown hK hP 0 rfl rfl 2 (by decide) (hts (.fieldLink RX5 46 "SpiralFramesModel" "kept" "I") (by decide +kernel)) (fun _ h9 => h9) rfl dX5_record_41 ?_
          refine lv_iconst (v := 1) hx hb dX5_record_44 (by decide) ?_
          refine lv_isub hx hb dX5_record_45 ?_
          refine x_eqi (show (nI 4) - 1 = nI (3) from x_eqN (x_subI (nI_toI (by omega)) (show (1 : Int32).toInt = 1 from by decide) (by omega) (by omega)) (by omega)) ?_
          refine va_put (v := .int (nI 3)) (ty := .int) (D := D) (ci := 5) (C := RX5) (T := TX5) (N := 14) hx hb hts (by decide +kernel) tyX5 tyX5_ok nmX5 hown hK hP hD hS 0 rfl rfl 2 (by decide) (hts (.fieldLink RX5 46 "SpiralFramesModel" "kept" "I") (by decide +kernel)) (fun _ h9 => h9) rfl (by decide +kernel) rfl rfl (Nat.le_of_ble_eq_true rfl) dX5_record_46 (fun H locs hP hD hS => ?_)
          have hP : va_P D vwCl [(mm, .inr (5, [.ref mn, .ref mh, .int (nI 3), .ref ms, .int fl, .ref mr, .ref md, .ref mo, .ref mc, .int ty, .ref mt, .int at9, .int nu, .ref mq])), (mn, .inl (cI, 578, .inl (M))), (mh, .inl (cI, 2312, .inl (f)))] H := hP
          have hD : va_D (Ar) [(mm, .inr (5, [.ref mn, .ref mh, .int (nI 3), .ref ms, .int fl, .ref mr, .ref md, .ref mo, .ref mc, .int ty, .ref mt, .int at9, .int nu, .ref mq])), (mn, .inl (cI, 578, .inl (M))), (mh, .inl (cI, 2312, .inl (f)))] := hD
          refine lv_iconst (v := 0) hx hb dX5_record_49 (by decide) ?_
          refine lv_istore_n (lv' := [(1, .int 0), (0, .ref mm)]) hx hb dX5_record_50 rfl hl (by decide) rfl (fun ls hl => ?_)
          have L51 : ∀ (fuel : Nat) (j2 : Nat) (f2 : Nat → Int32), (j2 ≤ 578) → (f2 = cpF (shF Hs 1734) M 1734 j2) → 578 - j2 < fuel → ∀ (H : Heap) (locs : List Loc), va_P D vwCl [(mm, .inr (5, [.ref mn, .ref mh, .int (nI 3), .ref ms, .int fl, .ref mr, .ref md, .ref mo, .ref mc, .int ty, .ref mt, .int at9, .int nu, .ref mq])), (mn, .inl (cI, 578, .inl (M))), (mh, .inl (cI, 2312, .inl (f2)))] H → va_D (Ar) [(mm, .inr (5, [.ref mn, .ref mh, .int (nI 3), .ref ms, .int fl, .ref mr, .ref md, .ref mo, .ref mc, .int ty, .ref mt, .int at9, .int nu, .ref mq])), (mn, .inl (cI, 578, .inl (M))), (mh, .inl (cI, 2312, .inl (f2)))] → va_S (Ar) s.heap H locs → ∀ (ls : Array Slot), lv_has ls 2 [(0, .ref mm), (1, .int (nI j2))] → W p l e (headSpec wsX5_record ({ frames := 0, cells := 0, slots := 0, locals := 0 } : Room)).room s m ([.ref mm] : List Value).toArray below meth c H locs 0 0 Q (F0 m 51 ls []) := by
            intro fuel
            induction fuel with
            | zero =>
              intro j2 f2 hi51_0 hi51_1 hfu
              exact absurd hfu (Nat.not_lt_zero _)
            | succ fuel ih51 =>
              intro j2 f2 hi51_0 hi51_1 hfu51 H locs hP hD hS ls hl
              refine lv_iload_n hx hb dX5_record_51 rfl (lv_at hl 1 rfl) ?_
              refine lv_sipush (v := 578) hx hb dX5_record_52 (by decide) ?_
              refine x_icmp_ge (tgt := 85) hx hb dX5_record_55 (by decide) (X := ((j2 : Nat) : Int)) (nI_toI (by omega)) (Y := 578) (show (578 : Int32).toInt = 578 from by decide) (fun c_55 => ?_) (fun c_55 => ?_)
              · skip
                refine lv_aload_n hx hb dX5_record_85 rfl (lv_at hl 0 rfl) ?_
                refine lv_dup hx hb dX5_record_86 rfl ?_
                refine va_get (v := .int (nI 3)) (D := D) (ci := 5) (C := RX5) (T := TX5) (N := 14) hx hb hts (by decide +kernel) hown hK hP 0 rfl rfl 2 (by decide) (hts (.fieldLink RX5 46 "SpiralFramesModel" "kept" "I") (by decide +kernel)) (fun _ h9 => h9) rfl dX5_record_87 ?_
                refine lv_iconst (v := 1) hx hb dX5_record_90 (by decide) ?_
                refine lv_iadd hx hb dX5_record_91 ?_
                refine x_eqi (show nI 3 + 1 = nI (3 + 1) from nI_add 3 1) ?_
                refine va_put (v := .int (nI (3 + 1))) (ty := .int) (D := D) (ci := 5) (C := RX5) (T := TX5) (N := 14) hx hb hts (by decide +kernel) tyX5 tyX5_ok nmX5 hown hK hP hD hS 0 rfl rfl 2 (by decide) (hts (.fieldLink RX5 46 "SpiralFramesModel" "kept" "I") (by decide +kernel)) (fun _ h9 => h9) rfl (by decide +kernel) rfl rfl (Nat.le_of_ble_eq_true rfl) dX5_record_92 (fun H locs hP hD hS => ?_)
                have hP : va_P D vwCl [(mm, .inr (5, [.ref mn, .ref mh, .int (nI (3 + 1)), .ref ms, .int fl, .ref mr, .ref md, .ref mo, .ref mc, .int ty, .ref mt, .int at9, .int nu, .ref mq])), (mn, .inl (cI, 578, .inl (M))), (mh, .inl (cI, 2312, .inl (f2)))] H := hP
                have hD : va_D (Ar) [(mm, .inr (5, [.ref mn, .ref mh, .int (nI (3 + 1)), .ref ms, .int fl, .ref mr, .ref md, .ref mo, .ref mc, .int ty, .ref mt, .int at9, .int nu, .ref mq])), (mn, .inl (cI, 578, .inl (M))), (mh, .inl (cI, 2312, .inl (f2)))] := hD
                refine x_vretW (w := [(mm, .inr (5, [.ref mn, .ref mh, .int (nI (3 + 1)), .ref ms, .int fl, .ref mr, .ref md, .ref mo, .ref mc, .int ty, .ref mt, .int at9, .int nu, .ref mq])), (mn, .inl (cI, 578, .inl (M))), (mh, .inl (cI, 2312, .inl (f2)))]) hQ hAe hx hb hr hlocks (hP.sub [0, 1, 2] rfl) (hD.sub [0, 1, 2] (by decide) rfl) hS ?_ dX5_record_95
                have e9 : f2 = rcH Hs M 4 := by rw [hi51_1, show j2 = 578 by omega]; rfl
                rw [e9]
                rfl
              · skip
                refine lv_aload_n hx hb dX5_record_58 rfl (lv_at hl 0 rfl) ?_
                refine va_get (v := .ref mh) (D := D) (ci := 5) (C := RX5) (T := TX5) (N := 14) hx hb hts (by decide +kernel) hown hK hP 0 rfl rfl 1 (by decide) (hts (.fieldLink RX5 13 "SpiralFramesModel" "history" "[I") (by decide +kernel)) (fun _ h9 => h9) rfl dX5_record_59 ?_
                refine lv_sipush (v := 578) hx hb dX5_record_62 (by decide) ?_
                refine lv_aload_n hx hb dX5_record_65 rfl (lv_at hl 0 rfl) ?_
                refine va_get (v := .int (nI 3)) (D := D) (ci := 5) (C := RX5) (T := TX5) (N := 14) hx hb hts (by decide +kernel) hown hK hP 0 rfl rfl 2 (by decide) (hts (.fieldLink RX5 46 "SpiralFramesModel" "kept" "I") (by decide +kernel)) (fun _ h9 => h9) rfl dX5_record_66 ?_
                refine lv_imul hx hb dX5_record_69 ?_
                refine x_eqi (show 578 * nI 3 = nI (578 * 3) from pk_mul 578 3) ?_
                refine lv_iload_n hx hb dX5_record_70 rfl (lv_at hl 1 rfl) ?_
                refine lv_iadd hx hb dX5_record_71 ?_
                refine x_eqi (show nI (578 * 3) + nI j2 = nI ((578 * 3) + j2) from nI_add (578 * 3) j2) ?_
                refine lv_aload_n hx hb dX5_record_72 rfl (lv_at hl 0 rfl) ?_
                refine va_get (v := .ref mn) (D := D) (ci := 5) (C := RX5) (T := TX5) (N := 14) hx hb hts (by decide +kernel) hown hK hP 0 rfl rfl 0 (by decide) (hts (.fieldLink RX5 7 "SpiralFramesModel" "now" "[I") (by decide +kernel)) (fun _ h9 => h9) rfl dX5_record_73 ?_
                refine lv_iload_n hx hb dX5_record_76 rfl (lv_at hl 1 rfl) ?_
                refine x_iald hx hb hK hP 1 0 rfl rfl (k := j2) (by omega) (by decide) dX5_record_77 ?_
                refine x_iast hx hb hK hP hD hS 2 0 rfl rfl (k := (578 * 3) + j2) (by omega) (by decide) dX5_record_78 (fun H locs hP hD hS => ?_)
                have hP : va_P D vwCl [(mm, .inr (5, [.ref mn, .ref mh, .int (nI 3), .ref ms, .int fl, .ref mr, .ref md, .ref mo, .ref mc, .int ty, .ref mt, .int at9, .int nu, .ref mq])), (mn, .inl (cI, 578, .inl (M))), (mh, .inl (cI, 2312, .inl (upd f2 ((578 * 3) + j2) (M j2))))] H := hP
                have hD : va_D (Ar) [(mm, .inr (5, [.ref mn, .ref mh, .int (nI 3), .ref ms, .int fl, .ref mr, .ref md, .ref mo, .ref mc, .int ty, .ref mt, .int at9, .int nu, .ref mq])), (mn, .inl (cI, 578, .inl (M))), (mh, .inl (cI, 2312, .inl (upd f2 ((578 * 3) + j2) (M j2))))] := hD
                refine lv_iinc (v := nI (j2 + 1)) (lv' := [(1, .int (nI (j2 + 1))), (0, .ref mm)]) hx hb dX5_record_79 hl (k := 1) rfl (nI_add _ _) (by decide) rfl (fun ls hl => ?_)
                refine lv_goto (tgt := 51) hx hb dX5_record_82 (by decide) ?_
                exact ih51 (j2 + 1) (upd f2 ((578 * 3) + j2) (M j2)) (by first | omega | assumption | rfl) (by rw [hi51_1]; exact cpF_s (by omega) rfl) (by omega) H locs (hP.sub [0, 1, 2] rfl) (hD.sub [0, 1, 2] (by decide) rfl) hS ls (lv_sub hl [1, 0] rfl)
          exact L51 _ 0 f (by first | omega | assumption | rfl) (by rw [hi10_1, show j = 1734 by omega]; exact cpF_0) (Nat.lt_succ_self _) H locs (hP.sub [0, 1, 2] rfl) (hD.sub [0, 1, 2] (by decide) rfl) hS ls (lv_sub hl [1, 0] rfl)
        · skip
          refine lv_aload_n hx hb dX5_record_17 rfl (lv_at hl 0 rfl) ?_
          refine va_get (v := .ref mh) (D := D) (ci := 5) (C := RX5) (T := TX5) (N := 14) hx hb hts (by decide +kernel) hown hK hP 0 rfl rfl 1 (by decide) (hts (.fieldLink RX5 13 "SpiralFramesModel" "history" "[I") (by decide +kernel)) (fun _ h9 => h9) rfl dX5_record_18 ?_
          refine lv_iload_n hx hb dX5_record_21 rfl (lv_at hl 1 rfl) ?_
          refine lv_aload_n hx hb dX5_record_22 rfl (lv_at hl 0 rfl) ?_
          refine va_get (v := .ref mh) (D := D) (ci := 5) (C := RX5) (T := TX5) (N := 14) hx hb hts (by decide +kernel) hown hK hP 0 rfl rfl 1 (by decide) (hts (.fieldLink RX5 13 "SpiralFramesModel" "history" "[I") (by decide +kernel)) (fun _ h9 => h9) rfl dX5_record_23 ?_
          refine lv_iload_n hx hb dX5_record_26 rfl (lv_at hl 1 rfl) ?_
          refine lv_sipush (v := 578) hx hb dX5_record_27 (by decide) ?_
          refine lv_iadd hx hb dX5_record_30 ?_
          refine x_eqi (show nI j + 578 = nI (j + 578) from nI_add j 578) ?_
          refine x_iald hx hb hK hP 2 0 rfl rfl (k := j + 578) (by omega) (by decide) dX5_record_31 ?_
          refine x_iast hx hb hK hP hD hS 2 0 rfl rfl (k := j) (by omega) (by decide) dX5_record_32 (fun H locs hP hD hS => ?_)
          have hP : va_P D vwCl [(mm, .inr (5, [.ref mn, .ref mh, .int (nI 4), .ref ms, .int fl, .ref mr, .ref md, .ref mo, .ref mc, .int ty, .ref mt, .int at9, .int nu, .ref mq])), (mn, .inl (cI, 578, .inl (M))), (mh, .inl (cI, 2312, .inl (upd f j (f (j + 578)))))] H := hP
          have hD : va_D (Ar) [(mm, .inr (5, [.ref mn, .ref mh, .int (nI 4), .ref ms, .int fl, .ref mr, .ref md, .ref mo, .ref mc, .int ty, .ref mt, .int at9, .int nu, .ref mq])), (mn, .inl (cI, 578, .inl (M))), (mh, .inl (cI, 2312, .inl (upd f j (f (j + 578)))))] := hD
          refine lv_iinc (v := nI (j + 1)) (lv' := [(1, .int (nI (j + 1))), (0, .ref mm)]) hx hb dX5_record_33 hl (k := 1) rfl (nI_add _ _) (by decide) rfl (fun ls hl => ?_)
          refine lv_goto (tgt := 10) hx hb dX5_record_36 (by decide) ?_
          exact ih10 (j + 1) (upd f j (f (j + 578))) (by first | omega | assumption | rfl) (by rw [hi10_1]; exact shF_s shF_at) (by omega) H locs (hP.sub [0, 1, 2] rfl) (hD.sub [0, 1, 2] (by decide) rfl) hS ls (lv_sub hl [1, 0] rfl)
    exact L10 _ 0 Hs (by first | omega | assumption | rfl) shF_0 (Nat.lt_succ_self _) s.heap [] (hP.sub [0, 1, 2] rfl) (hD.sub [0, 1, 2] (by decide) rfl) hS ls (lv_sub hl [1, 0] rfl)
  · skip
    refine lv_aload_n hx hb dX5_record_0 rfl (lv_at hl 0 rfl) ?_
    refine va_get (v := .int (nI k)) (D := D) (ci := 5) (C := RX5) (T := TX5) (N := 14) hx hb hts (by decide +kernel) hown hK hP 0 rfl rfl 2 (by decide) (hts (.fieldLink RX5 46 "SpiralFramesModel" "kept" "I") (by decide +kernel)) (fun _ h9 => h9) rfl dX5_record_1 ?_
    refine lv_iconst (v := 4) hx hb dX5_record_4 (by decide) ?_
    refine x_icmp_ne (tgt := 49) hx hb dX5_record_5 (by decide) (X := ((k : Nat) : Int)) (nI_toI (by omega)) (Y := 4) (show (4 : Int32).toInt = 4 from by decide) (fun c_5 => ?_) (fun c_5 => ?_)
    rotate_left
    · exfalso; omega
    refine lv_iconst (v := 0) hx hb dX5_record_49 (by decide) ?_
    refine lv_istore_n (lv' := [(1, .int 0), (0, .ref mm)]) hx hb dX5_record_50 rfl hl (by decide) rfl (fun ls hl => ?_)
    have L51 : ∀ (fuel : Nat) (j2 : Nat) (f2 : Nat → Int32), (j2 ≤ 578) → (f2 = cpF Hs M (578 * k) j2) → 578 - j2 < fuel → ∀ (H : Heap) (locs : List Loc), va_P D vwCl [(mm, .inr (5, [.ref mn, .ref mh, .int (nI k), .ref ms, .int fl, .ref mr, .ref md, .ref mo, .ref mc, .int ty, .ref mt, .int at9, .int nu, .ref mq])), (mn, .inl (cI, 578, .inl (M))), (mh, .inl (cI, 2312, .inl (f2)))] H → va_D (Ar) [(mm, .inr (5, [.ref mn, .ref mh, .int (nI k), .ref ms, .int fl, .ref mr, .ref md, .ref mo, .ref mc, .int ty, .ref mt, .int at9, .int nu, .ref mq])), (mn, .inl (cI, 578, .inl (M))), (mh, .inl (cI, 2312, .inl (f2)))] → va_S (Ar) s.heap H locs → ∀ (ls : Array Slot), lv_has ls 2 [(0, .ref mm), (1, .int (nI j2))] → W p l e (headSpec wsX5_record ({ frames := 0, cells := 0, slots := 0, locals := 0 } : Room)).room s m ([.ref mm] : List Value).toArray below meth c H locs 0 0 Q (F0 m 51 ls []) := by
      intro fuel
      induction fuel with
      | zero =>
        intro j2 f2 hi51_0 hi51_1 hfu
        exact absurd hfu (Nat.not_lt_zero _)
      | succ fuel ih51 =>
        intro j2 f2 hi51_0 hi51_1 hfu51 H locs hP hD hS ls hl
        refine lv_iload_n hx hb dX5_record_51 rfl (lv_at hl 1 rfl) ?_
        refine lv_sipush (v := 578) hx hb dX5_record_52 (by decide) ?_
        refine x_icmp_ge (tgt := 85) hx hb dX5_record_55 (by decide) (X := ((j2 : Nat) : Int)) (nI_toI (by omega)) (Y := 578) (show (578 : Int32).toInt = 578 from by decide) (fun c_55 => ?_) (fun c_55 => ?_)
        · skip
          refine lv_aload_n hx hb dX5_record_85 rfl (lv_at hl 0 rfl) ?_
          refine lv_dup hx hb dX5_record_86 rfl ?_
          refine va_get (v := .int (nI k)) (D := D) (ci := 5) (C := RX5) (T := TX5) (N := 14) hx hb hts (by decide +kernel) hown hK hP 0 rfl rfl 2 (by decide) (hts (.fieldLink RX5 46 "SpiralFramesModel" "kept" "I") (by decide +kernel)) (fun _ h9 => h9) rfl dX5_record_87 ?_
          refine lv_iconst (v := 1) hx hb dX5_record_90 (by decide) ?_
          refine lv_iadd hx hb dX5_record_91 ?_
          refine x_eqi (show nI k + 1 = nI (k + 1) from nI_add k 1) ?_
          refine va_put (v := .int (nI (k + 1))) (ty := .int) (D := D) (ci := 5) (C := RX5) (T := TX5) (N := 14) hx hb hts (by decide +kernel) tyX5 tyX5_ok nmX5 hown hK hP hD hS 0 rfl rfl 2 (by decide) (hts (.fieldLink RX5 46 "SpiralFramesModel" "kept" "I") (by decide +kernel)) (fun _ h9 => h9) rfl (by decide +kernel) rfl rfl (Nat.le_of_ble_eq_true rfl) dX5_record_92 (fun H locs hP hD hS => ?_)
          have hP : va_P D vwCl [(mm, .inr (5, [.ref mn, .ref mh, .int (nI (k + 1)), .ref ms, .int fl, .ref mr, .ref md, .ref mo, .ref mc, .int ty, .ref mt, .int at9, .int nu, .ref mq])), (mn, .inl (cI, 578, .inl (M))), (mh, .inl (cI, 2312, .inl (f2)))] H := hP
          have hD : va_D (Ar) [(mm, .inr (5, [.ref mn, .ref mh, .int (nI (k + 1)), .ref ms, .int fl, .ref mr, .ref md, .ref mo, .ref mc, .int ty, .ref mt, .int at9, .int nu, .ref mq])), (mn, .inl (cI, 578, .inl (M))), (mh, .inl (cI, 2312, .inl (f2)))] := hD
          refine x_vretW (w := [(mm, .inr (5, [.ref mn, .ref mh, .int (nI (k + 1)), .ref ms, .int fl, .ref mr, .ref md, .ref mo, .ref mc, .int ty, .ref mt, .int at9, .int nu, .ref mq])), (mn, .inl (cI, 578, .inl (M))), (mh, .inl (cI, 2312, .inl (f2)))]) hQ hAe hx hb hr hlocks (hP.sub [0, 1, 2] rfl) (hD.sub [0, 1, 2] (by decide) rfl) hS ?_ dX5_record_95
          have e9 : f2 = rcH Hs M k := by rw [hi51_1, show j2 = 578 by omega]; unfold rcH; rw [if_neg (by omega)]
          rw [e9, show min (k + 1) 4 = k + 1 by omega]
        · skip
          refine lv_aload_n hx hb dX5_record_58 rfl (lv_at hl 0 rfl) ?_
          refine va_get (v := .ref mh) (D := D) (ci := 5) (C := RX5) (T := TX5) (N := 14) hx hb hts (by decide +kernel) hown hK hP 0 rfl rfl 1 (by decide) (hts (.fieldLink RX5 13 "SpiralFramesModel" "history" "[I") (by decide +kernel)) (fun _ h9 => h9) rfl dX5_record_59 ?_
          refine lv_sipush (v := 578) hx hb dX5_record_62 (by decide) ?_
          refine lv_aload_n hx hb dX5_record_65 rfl (lv_at hl 0 rfl) ?_
          refine va_get (v := .int (nI k)) (D := D) (ci := 5) (C := RX5) (T := TX5) (N := 14) hx hb hts (by decide +kernel) hown hK hP 0 rfl rfl 2 (by decide) (hts (.fieldLink RX5 46 "SpiralFramesModel" "kept" "I") (by decide +kernel)) (fun _ h9 => h9) rfl dX5_record_66 ?_
          refine lv_imul hx hb dX5_record_69 ?_
          refine x_eqi (show 578 * nI k = nI (578 * k) from pk_mul 578 k) ?_
          refine lv_iload_n hx hb dX5_record_70 rfl (lv_at hl 1 rfl) ?_
          refine lv_iadd hx hb dX5_record_71 ?_
          refine x_eqi (show nI (578 * k) + nI j2 = nI ((578 * k) + j2) from nI_add (578 * k) j2) ?_
          refine lv_aload_n hx hb dX5_record_72 rfl (lv_at hl 0 rfl) ?_
          refine va_get (v := .ref mn) (D := D) (ci := 5) (C := RX5) (T := TX5) (N := 14) hx hb hts (by decide +kernel) hown hK hP 0 rfl rfl 0 (by decide) (hts (.fieldLink RX5 7 "SpiralFramesModel" "now" "[I") (by decide +kernel)) (fun _ h9 => h9) rfl dX5_record_73 ?_
          refine lv_iload_n hx hb dX5_record_76 rfl (lv_at hl 1 rfl) ?_
          refine x_iald hx hb hK hP 1 0 rfl rfl (k := j2) (by omega) (by decide) dX5_record_77 ?_
          refine x_iast hx hb hK hP hD hS 2 0 rfl rfl (k := (578 * k) + j2) (by omega) (by decide) dX5_record_78 (fun H locs hP hD hS => ?_)
          have hP : va_P D vwCl [(mm, .inr (5, [.ref mn, .ref mh, .int (nI k), .ref ms, .int fl, .ref mr, .ref md, .ref mo, .ref mc, .int ty, .ref mt, .int at9, .int nu, .ref mq])), (mn, .inl (cI, 578, .inl (M))), (mh, .inl (cI, 2312, .inl (upd f2 ((578 * k) + j2) (M j2))))] H := hP
          have hD : va_D (Ar) [(mm, .inr (5, [.ref mn, .ref mh, .int (nI k), .ref ms, .int fl, .ref mr, .ref md, .ref mo, .ref mc, .int ty, .ref mt, .int at9, .int nu, .ref mq])), (mn, .inl (cI, 578, .inl (M))), (mh, .inl (cI, 2312, .inl (upd f2 ((578 * k) + j2) (M j2))))] := hD
          refine lv_iinc (v := nI (j2 + 1)) (lv' := [(1, .int (nI (j2 + 1))), (0, .ref mm)]) hx hb dX5_record_79 hl (k := 1) rfl (nI_add _ _) (by decide) rfl (fun ls hl => ?_)
          refine lv_goto (tgt := 51) hx hb dX5_record_82 (by decide) ?_
          exact ih51 (j2 + 1) (upd f2 ((578 * k) + j2) (M j2)) (by first | omega | assumption | rfl) (by rw [hi51_1]; exact cpF_s rfl rfl) (by omega) H locs (hP.sub [0, 1, 2] rfl) (hD.sub [0, 1, 2] (by decide) rfl) hS ls (lv_sub hl [1, 0] rfl)
    exact L51 _ 0 Hs (by first | omega | assumption | rfl) cpF_0 (Nat.lt_succ_self _) s.heap [] (hP.sub [0, 1, 2] rfl) (hD.sub [0, 1, 2] (by decide) rfl) hS ls (lv_sub hl [1, 0] rfl)
set_option maxHeartbeats 4000000 in
set_option maxRecDepth 100000 in
theorem c_X5_fills (l : Launch) (D : va_G) (cI cC cS : ClassId) (tt : Nat → Nat) (sz : Nat) (mm : Nat) (mn : Nat) (mh : Nat) (ms : Nat) (mr : Nat) (md : Nat) (mo : Nat) (mc : Nat) (mt : Nat) (mq : Nat) (kp : Int32) (fl : Int32) (ty : Int32) (at9 : Int32) (nu : Int32) (D1 : Nat → Int32) (S1 : Nat → Int32) (R1 : Nat → Int32) (N1 : Nat → Int32) (K1 : Int32) (L1 : Nat → Int32) (cx : Nat) (cy : Nat) (cw : Nat) (ch : Nat) (v : Int32) (hh0 : cx < 12) (hh1 : cy < 12) (hh2 : 1 ≤ cw) (hh3 : cw ≤ 12) (hh4 : 1 ≤ ch) (hh5 : ch ≤ 12) : Met l yX5_fills wsX5_fills ({ frames := 1, cells := 0, slots := 0, locals := 22 } : Room) (x_PW D cI cC cS tt [(mm, .inr (5, [.ref mn, .ref mh, .int kp, .ref ms, .int fl, .ref mr, .ref md, .ref mo, .ref mc, .int ty, .ref mt, .int at9, .int nu, .ref mq])), (mn, .inl (cI, 578, .inl (mkM D1 S1 R1 N1 K1 L1)))] sz [.ref mm, .int (nI cx), .int (nI cy), .int (nI cw), .int (nI ch), .int v]) (x_QWi D [(mm, .inr (5, [.ref mn, .ref mh, .int kp, .ref ms, .int fl, .ref mr, .ref md, .ref mo, .ref mc, .int ty, .ref mt, .int at9, .int nu, .ref mq])), (mn, .inl (cI, 578, .inl (mkM D1 S1 R1 N1 K1 L1)))] sz (fun (r : Int32) (w : va_W) => r = (bxC D1 cx (min (cx + cw) 12) cy (min (cy + ch) 12) v) ∧ w = [(mm, .inr (5, [.ref mn, .ref mh, .int kp, .ref ms, .int fl, .ref mr, .ref md, .ref mo, .ref mc, .int ty, .ref mt, .int at9, .int nu, .ref mq])), (mn, .inl (cI, 578, .inl (mkM (bxN D1 cx (min (cx + cw) 12) cy (min (cy + ch) 12) v) S1 R1 N1 K1 L1)))])) 0 0 (va_A [(mm, .inr (5, [.ref mn, .ref mh, .int kp, .ref ms, .int fl, .ref mr, .ref md, .ref mo, .ref mc, .int ty, .ref mt, .int at9, .int nu, .ref mq])), (mn, .inl (cI, 578, .inl (mkM D1 S1 R1 N1 K1 L1)))] sz) := by
  refine Met.ofW (cc := cX5_fills) (maxL := 9) (ret := (some .int)) (by decide) rfl ?_
  intro p e s m args below meth c s₁ hBd hml hv
  obtain ⟨rfl, hsz, hP, hK, hD0, hE0⟩ := hv
  have hx := hBd.exec
  have hb := hBd.bytes
  have hr := hBd.returns
  have hts := atoms_spec (ws := wsX5_fills) hBd.pre
  have hown : s.vm.findClass RX5 = some m.cls := findClass_of_methodNamed hBd.named
  have hlocks := hBd.notSynchronized
  subst hsz
  obtain ⟨Ar, hAe⟩ : ∃ Ar : Nat → Prop, Ar = va_A [(mm, .inr (5, [.ref mn, .ref mh, .int kp, .ref ms, .int fl, .ref mr, .ref md, .ref mo, .ref mc, .int ty, .ref mt, .int at9, .int nu, .ref mq])), (mn, .inl (cI, 578, .inl (mkM D1 S1 R1 N1 K1 L1)))] s.heap.size := ⟨_, rfl⟩
  have hD : va_D Ar [(mm, .inr (5, [.ref mn, .ref mh, .int kp, .ref ms, .int fl, .ref mr, .ref md, .ref mo, .ref mc, .int ty, .ref mt, .int at9, .int nu, .ref mq])), (mn, .inl (cI, 578, .inl (mkM D1 S1 R1 N1 K1 L1)))] := by rw [hAe]; exact hD0.self
  have hA : ∀ q : Nat, s.heap.size ≤ q → Ar q := fun q h => by rw [hAe]; exact Or.inr h
  have hE : x_E tt Ar s := by rw [hAe]; exact hE0
  have hS : va_S Ar s.heap s.heap [] := va_S.rf
  have hl := lv_entry ([.ref mm, .int (nI cx), .int (nI cy), .int (nI cw), .int (nI ch), .int v]) (n := 9) (Nat.le_of_ble_eq_true rfl)
  rw [lg_entry_eq]
  generalize (lg_sl ([.ref mm, .int (nI cx), .int (nI cy), .int (nI cw), .int (nI ch), .int v]) ++ List.replicate (9 - (lg_sl ([.ref mm, .int (nI cx), .int (nI cy), .int (nI cw), .int (nI ch), .int v])).length) Slot.unset).toArray = ls at hl ⊢
  have hl : lv_has ls 9 [(0, .ref mm), (1, .int (nI cx)), (2, .int (nI cy)), (3, .int (nI cw)), (4, .int (nI ch)), (5, .int v)] := hl
  refine x_genQ (fun Q hQ => ?_)
  refine lv_iconst (v := 0) hx hb dX5_fills_0 (by decide) ?_
  refine lv_istore (lv' := [(6, .int 0), (0, .ref mm), (1, .int (nI cx)), (2, .int (nI cy)), (3, .int (nI cw)), (4, .int (nI ch)), (5, .int v)]) hx hb dX5_fills_1 hl (by decide) rfl (fun ls hl => ?_)
  refine lv_iload_n hx hb dX5_fills_3 rfl (lv_at hl 3 rfl) ?_
  refine lv_istore (lv' := [(7, .int (nI cy)), (6, .int 0), (0, .ref mm), (1, .int (nI cx)), (2, .int (nI cy)), (3, .int (nI cw)), (4, .int (nI ch)), (5, .int v)]) hx hb dX5_fills_4 hl (by decide) rfl (fun ls hl => ?_)
  have L6 : ∀ (fuel : Nat) (yy : Nat) (n : Int32) (f : Nat → Int32), (cy ≤ yy) → (yy ≤ min (cy + ch) 12) → (n = sm (fun j => bxR D1 cx (min (cx + cw) 12) v (cy + j)) (yy - cy)) → (f = bxF D1 cx (min (cx + cw) 12) cy v yy 0) → 12 - yy < fuel → ∀ (H : Heap) (locs : List Loc), va_P D vwCl [(mm, .inr (5, [.ref mn, .ref mh, .int kp, .ref ms, .int fl, .ref mr, .ref md, .ref mo, .ref mc, .int ty, .ref mt, .int at9, .int nu, .ref mq])), (mn, .inl (cI, 578, .inl (mkM f S1 R1 N1 K1 L1)))] H → va_D (Ar) [(mm, .inr (5, [.ref mn, .ref mh, .int kp, .ref ms, .int fl, .ref mr, .ref md, .ref mo, .ref mc, .int ty, .ref mt, .int at9, .int nu, .ref mq])), (mn, .inl (cI, 578, .inl (mkM f S1 R1 N1 K1 L1)))] → va_S (Ar) s.heap H locs → ∀ (ls : Array Slot), lv_has ls 9 [(0, .ref mm), (1, .int (nI cx)), (2, .int (nI cy)), (3, .int (nI cw)), (4, .int (nI ch)), (5, .int v), (6, .int n), (7, .int (nI yy))] → W p l e (headSpec wsX5_fills ({ frames := 1, cells := 0, slots := 0, locals := 22 } : Room)).room s m ([.ref mm, .int (nI cx), .int (nI cy), .int (nI cw), .int (nI ch), .int v] : List Value).toArray below meth c H locs 0 0 Q (F0 m 6 ls []) := by
    intro fuel
    induction fuel with
    | zero =>
      intro yy n f hi6_0 hi6_1 hi6_2 hi6_3 hfu
      exact absurd hfu (Nat.not_lt_zero _)
    | succ fuel ih6 =>
      intro yy n f hi6_0 hi6_1 hi6_2 hi6_3 hfu6 H locs hP hD hS ls hl
      refine lv_iload hx hb dX5_fills_6 (lv_at hl 7 rfl) ?_
      refine lv_iload_n hx hb dX5_fills_8 rfl (lv_at hl 2 rfl) ?_
      refine lv_iload hx hb dX5_fills_9 (lv_at hl 4 rfl) ?_
      refine lv_iadd hx hb dX5_fills_11 ?_
      refine x_eqi (show nI cy + nI ch = nI (cy + ch) from nI_add cy ch) ?_
      refine x_icmp_ge (tgt := 95) hx hb dX5_fills_12 (by decide) (X := ((yy : Nat) : Int)) (nI_toI (by omega)) (Y := ((cy + ch : Nat) : Int)) (nI_toI (by omega)) (fun c_12 => ?_) (fun c_12 => ?_)
      · skip
        refine lv_iload hx hb dX5_fills_95 (lv_at hl 6 rfl) ?_
        refine x_iretW (w := [(mm, .inr (5, [.ref mn, .ref mh, .int kp, .ref ms, .int fl, .ref mr, .ref md, .ref mo, .ref mc, .int ty, .ref mt, .int at9, .int nu, .ref mq])), (mn, .inl (cI, 578, .inl (mkM f S1 R1 N1 K1 L1)))]) hQ hAe hx hb hr hlocks (hP.sub [0, 1] rfl) (hD.sub [0, 1] (by decide) rfl) hS ?_ dX5_fills_97
        exact ⟨by rw [hi6_2, show yy = min (cy + ch) 12 by omega]; rfl, by rw [hi6_3, show yy = min (cy + ch) 12 by omega]; rfl⟩
      · skip
        refine lv_iload hx hb dX5_fills_15 (lv_at hl 7 rfl) ?_
        refine lv_bipush (v := 12) hx hb dX5_fills_17 (by decide) ?_
        refine x_icmp_ge (tgt := 95) hx hb dX5_fills_19 (by decide) (X := ((yy : Nat) : Int)) (nI_toI (by omega)) (Y := 12) (show (12 : Int32).toInt = 12 from by decide) (fun c_19 => ?_) (fun c_19 => ?_)
        · skip
          refine lv_iload hx hb dX5_fills_95 (lv_at hl 6 rfl) ?_
          refine x_iretW (w := [(mm, .inr (5, [.ref mn, .ref mh, .int kp, .ref ms, .int fl, .ref mr, .ref md, .ref mo, .ref mc, .int ty, .ref mt, .int at9, .int nu, .ref mq])), (mn, .inl (cI, 578, .inl (mkM f S1 R1 N1 K1 L1)))]) hQ hAe hx hb hr hlocks (hP.sub [0, 1] rfl) (hD.sub [0, 1] (by decide) rfl) hS ?_ dX5_fills_97
          exact ⟨by rw [hi6_2, show yy = min (cy + ch) 12 by omega]; rfl, by rw [hi6_3, show yy = min (cy + ch) 12 by omega]; rfl⟩
        · skip
          refine lv_iload_n hx hb dX5_fills_22 rfl (lv_at hl 1 rfl) ?_
          refine lv_istore (lv' := [(8, .int (nI cx)), (0, .ref mm), (1, .int (nI cx)), (2, .int (nI cy)), (3, .int (nI cw)), (4, .int (nI ch)), (5, .int v), (6, .int n), (7, .int (nI yy))]) hx hb dX5_fills_23 hl (by decide) rfl (fun ls hl => ?_)
          have L25 : ∀ (fuel : Nat) (xx : Nat) (n : Int32) (f : Nat → Int32), (cx ≤ xx) → (xx ≤ min (cx + cw) 12) → (n = sm (fun j => bxR D1 cx (min (cx + cw) 12) v (cy + j)) (yy - cy) + sm (fun i => if D1 (yy * 12 + (cx + i)) = v then 0 else 1) (xx - cx)) → (f = bxF D1 cx (min (cx + cw) 12) cy v yy xx) → 12 - xx < fuel → ∀ (H : Heap) (locs : List Loc), va_P D vwCl [(mm, .inr (5, [.ref mn, .ref mh, .int kp, .ref ms, .int fl, .ref mr, .ref md, .ref mo, .ref mc, .int ty, .ref mt, .int at9, .int nu, .ref mq])), (mn, .inl (cI, 578, .inl (mkM f S1 R1 N1 K1 L1)))] H → va_D (Ar) [(mm, .inr (5, [.ref mn, .ref mh, .int kp, .ref ms, .int fl, .ref mr, .ref md, .ref mo, .ref mc, .int ty, .ref mt, .int at9, .int nu, .ref mq])), (mn, .inl (cI, 578, .inl (mkM f S1 R1 N1 K1 L1)))] → va_S (Ar) s.heap H locs → ∀ (ls : Array Slot), lv_has ls 9 [(0, .ref mm), (1, .int (nI cx)), (2, .int (nI cy)), (3, .int (nI cw)), (4, .int (nI ch)), (5, .int v), (6, .int n), (7, .int (nI yy)), (8, .int (nI xx))] → W p l e (headSpec wsX5_fills ({ frames := 1, cells := 0, slots := 0, locals := 22 } : Room)).room s m ([.ref mm, .int (nI cx), .int (nI cy), .int (nI cw), .int (nI ch), .int v] : List Value).toArray below meth c H locs 0 0 Q (F0 m 25 ls []) := by
            intro fuel
            induction fuel with
            | zero =>
              intro xx n f hi25_0 hi25_1 hi25_2 hi25_3 hfu
              exact absurd hfu (Nat.not_lt_zero _)
            | succ fuel ih25 =>
              intro xx n f hi25_0 hi25_1 hi25_2 hi25_3 hfu25 H locs hP hD hS ls hl
              refine lv_iload hx hb dX5_fills_25 (lv_at hl 8 rfl) ?_
              refine lv_iload_n hx hb dX5_fills_27 rfl (lv_at hl 1 rfl) ?_
              refine lv_iload_n hx hb dX5_fills_28 rfl (lv_at hl 3 rfl) ?_
              refine lv_iadd hx hb dX5_fills_29 ?_
              refine x_eqi (show nI cx + nI cw = nI (cx + cw) from nI_add cx cw) ?_
              refine x_icmp_ge (tgt := 89) hx hb dX5_fills_30 (by decide) (X := ((xx : Nat) : Int)) (nI_toI (by omega)) (Y := ((cx + cw : Nat) : Int)) (nI_toI (by omega)) (fun c_30 => ?_) (fun c_30 => ?_)
              · skip
                refine lv_iinc (v := nI (yy + 1)) (lv' := [(7, .int (nI (yy + 1))), (0, .ref mm), (1, .int (nI cx)), (2, .int (nI cy)), (3, .int (nI cw)), (4, .int (nI ch)), (5, .int v), (6, .int n), (8, .int (nI xx))]) hx hb dX5_fills_89 hl (k := 7) rfl (nI_add _ _) (by decide) rfl (fun ls hl => ?_)
                refine lv_goto (tgt := 6) hx hb dX5_fills_92 (by decide) ?_
                exact ih6 (yy + 1) n f (by first | omega | assumption | rfl) (by first | omega | assumption | rfl) (by rw [hi25_2, show yy + 1 - cy = (yy - cy) + 1 by omega, sm_s, show xx = min (cx + cw) 12 by omega]; exact congrArg _ (by rw [show cy + (yy - cy) = yy by omega]; rfl)) (by rw [hi25_3]; exact bxF_out (by omega)) (by omega) H locs (hP.sub [0, 1] rfl) (hD.sub [0, 1] (by decide) rfl) hS ls (lv_sub hl [1, 2, 3, 4, 5, 6, 7, 0] rfl)
              · skip
                refine lv_iload hx hb dX5_fills_33 (lv_at hl 8 rfl) ?_
                refine lv_bipush (v := 12) hx hb dX5_fills_35 (by decide) ?_
                refine x_icmp_ge (tgt := 89) hx hb dX5_fills_37 (by decide) (X := ((xx : Nat) : Int)) (nI_toI (by omega)) (Y := 12) (show (12 : Int32).toInt = 12 from by decide) (fun c_37 => ?_) (fun c_37 => ?_)
                · skip
                  refine lv_iinc (v := nI (yy + 1)) (lv' := [(7, .int (nI (yy + 1))), (0, .ref mm), (1, .int (nI cx)), (2, .int (nI cy)), (3, .int (nI cw)), (4, .int (nI ch)), (5, .int v), (6, .int n), (8, .int (nI xx))]) hx hb dX5_fills_89 hl (k := 7) rfl (nI_add _ _) (by decide) rfl (fun ls hl => ?_)
                  refine lv_goto (tgt := 6) hx hb dX5_fills_92 (by decide) ?_
                  exact ih6 (yy + 1) n f (by first | omega | assumption | rfl) (by first | omega | assumption | rfl) (by rw [hi25_2, show yy + 1 - cy = (yy - cy) + 1 by omega, sm_s, show xx = min (cx + cw) 12 by omega]; exact congrArg _ (by rw [show cy + (yy - cy) = yy by omega]; rfl)) (by rw [hi25_3]; exact bxF_out (by omega)) (by omega) H locs (hP.sub [0, 1] rfl) (hD.sub [0, 1] (by decide) rfl) hS ls (lv_sub hl [1, 2, 3, 4, 5, 6, 7, 0] rfl)
                · skip
                  refine lv_iload hx hb dX5_fills_40 (lv_at hl 6 rfl) ?_
                  refine lv_aload_n hx hb dX5_fills_42 rfl (lv_at hl 0 rfl) ?_
                  refine va_get (v := .ref mn) (D := D) (ci := 5) (C := RX5) (T := TX5) (N := 14) hx hb hts (by decide +kernel) hown hK hP 0 rfl rfl 0 (by decide) (hts (.fieldLink RX5 7 "SpiralFramesModel" "now" "[I") (by decide +kernel)) (fun _ h9 => h9) rfl dX5_fills_43 ?_
                  refine lv_iconst (v := 0) hx hb dX5_fills_46 (by decide) ?_
                  refine lv_iload hx hb dX5_fills_47 (lv_at hl 8 rfl) ?_
                  refine lv_iload hx hb dX5_fills_49 (lv_at hl 7 rfl) ?_
                  refine x_callR (va_runS (As := [.int 0, .int (nI xx), .int (nI yy)]) (rest := [.ref mn, .int n]) ⟨hx, hb, hml, hown, hts⟩ (c_X5_cell l D cI cC cS tt 0 0 (show (0 : Int32).toInt = 0 from by decide) (nI xx) ((xx : Nat) : Int) (nI_toI (by omega)) (nI yy) ((yy : Nat) : Int) (nI_toI (by omega)) (by first | omega | assumption | decide)) (va_cwS 3 hts gX5_fills_X5_cell rfl rfl rfl (by decide +kernel) ⟨Nat.le_of_ble_eq_true rfl, Nat.le_of_ble_eq_true rfl⟩) ⟨x_blindR, x_preR (hP.sub (ws' := []) [] rfl) hK hE hS⟩ rfl rfl hl.1 rfl (lv_room (Nat.le_of_ble_eq_true rfl)) dX5_fills_51 ⟨(Nat.le_of_ble_eq_true rfl), (Nat.le_of_ble_eq_true rfl)⟩) ?_
                  refine x_eqi (show zI (144 * 0 + 12 * ((yy : Nat) : Int) + ((xx : Nat) : Int)) = nI (((144 * 0 + 12 * ((yy : Nat) : Int) + ((xx : Nat) : Int))).toNat) from x_toNat (zI_toInt (by omega) (by omega)) (by omega)) ?_
                  refine x_iald hx hb hK hP 1 0 rfl rfl (k := ((144 * 0 + 12 * ((yy : Nat) : Int) + ((xx : Nat) : Int))).toNat) (by omega) (by decide) dX5_fills_54 ?_
                  refine x_eqi (show (mkM f S1 R1 N1 K1 L1) (((144 * 0 + 12 * ((yy : Nat) : Int) + ((xx : Nat) : Int))).toNat) = f (yy * 12 + xx) from (mkM_D (j := (yy * 12 + xx)) (by omega) (by omega))) ?_
                  refine lv_iload hx hb dX5_fills_55 (lv_at hl 5 rfl) ?_
                  refine lv_icmp_ne (tgt := 64) hx hb dX5_fills_57 (by decide) (fun c_57 => ?_) (fun c_57 => ?_)
                  · skip
                    refine lv_iconst (v := 1) hx hb dX5_fills_64 (by decide) ?_
                    refine lv_iadd hx hb dX5_fills_65 ?_
                    refine lv_istore (lv' := [(6, .int (n + 1)), (0, .ref mm), (1, .int (nI cx)), (2, .int (nI cy)), (3, .int (nI cw)), (4, .int (nI ch)), (5, .int v), (7, .int (nI yy)), (8, .int (nI xx))]) hx hb dX5_fills_66 hl (by decide) rfl (fun ls hl => ?_)
                    refine lv_aload_n hx hb dX5_fills_68 rfl (lv_at hl 1 rfl) ?_
                    refine va_get (v := .ref mn) (D := D) (ci := 5) (C := RX5) (T := TX5) (N := 14) hx hb hts (by decide +kernel) hown hK hP 0 rfl rfl 0 (by decide) (hts (.fieldLink RX5 7 "SpiralFramesModel" "now" "[I") (by decide +kernel)) (fun _ h9 => h9) rfl dX5_fills_69 ?_
                    refine lv_iconst (v := 0) hx hb dX5_fills_72 (by decide) ?_
                    refine lv_iload hx hb dX5_fills_73 (lv_at hl 8 rfl) ?_
                    refine lv_iload hx hb dX5_fills_75 (lv_at hl 7 rfl) ?_
                    refine x_callR (va_runS (As := [.int 0, .int (nI xx), .int (nI yy)]) (rest := [.ref mn]) ⟨hx, hb, hml, hown, hts⟩ (c_X5_cell l D cI cC cS tt 0 0 (show (0 : Int32).toInt = 0 from by decide) (nI xx) ((xx : Nat) : Int) (nI_toI (by omega)) (nI yy) ((yy : Nat) : Int) (nI_toI (by omega)) (by first | omega | assumption | decide)) (va_cwS 3 hts gX5_fills_X5_cell rfl rfl rfl (by decide +kernel) ⟨Nat.le_of_ble_eq_true rfl, Nat.le_of_ble_eq_true rfl⟩) ⟨x_blindR, x_preR (hP.sub (ws' := []) [] rfl) hK hE hS⟩ rfl rfl hl.1 rfl (lv_room (Nat.le_of_ble_eq_true rfl)) dX5_fills_77 ⟨(Nat.le_of_ble_eq_true rfl), (Nat.le_of_ble_eq_true rfl)⟩) ?_
                    refine lv_iload hx hb dX5_fills_80 (lv_at hl 6 rfl) ?_
                    refine x_eqi2 (show zI (144 * 0 + 12 * ((yy : Nat) : Int) + ((xx : Nat) : Int)) = nI (((144 * 0 + 12 * ((yy : Nat) : Int) + ((xx : Nat) : Int))).toNat) from x_toNat (zI_toInt (by omega) (by omega)) (by omega)) ?_
                    refine x_iastE hx hb hK hP hD hS 1 0 rfl rfl (k := ((144 * 0 + 12 * ((yy : Nat) : Int) + ((xx : Nat) : Int))).toNat) (g := mkM (upd f (yy * 12 + xx) v) S1 R1 N1 K1 L1) (upM_D (j := (yy * 12 + xx)) (by omega) (by omega)) (by omega) (by decide) dX5_fills_82 (fun H locs hP hD hS => ?_)
                    have hP : va_P D vwCl [(mm, .inr (5, [.ref mn, .ref mh, .int kp, .ref ms, .int fl, .ref mr, .ref md, .ref mo, .ref mc, .int ty, .ref mt, .int at9, .int nu, .ref mq])), (mn, .inl (cI, 578, .inl (mkM (upd f (yy * 12 + xx) v) S1 R1 N1 K1 L1)))] H := hP
                    have hD : va_D (Ar) [(mm, .inr (5, [.ref mn, .ref mh, .int kp, .ref ms, .int fl, .ref mr, .ref md, .ref mo, .ref mc, .int ty, .ref mt, .int at9, .int nu, .ref mq])), (mn, .inl (cI, 578, .inl (mkM (upd f (yy * 12 + xx) v) S1 R1 N1 K1 L1)))] := hD
                    refine lv_iinc (v := nI (xx + 1)) (lv' := [(8, .int (nI (xx + 1))), (6, .int (n + 1)), (0, .ref mm), (1, .int (nI cx)), (2, .int (nI cy)), (3, .int (nI cw)), (4, .int (nI ch)), (5, .int v), (7, .int (nI yy))]) hx hb dX5_fills_83 hl (k := 8) rfl (nI_add _ _) (by decide) rfl (fun ls hl => ?_)
                    refine lv_goto (tgt := 25) hx hb dX5_fills_86 (by decide) ?_
                    exact ih25 (xx + 1) (n + 1) (upd f (yy * 12 + xx) v) (by first | omega | assumption | rfl) (by first | omega | assumption | rfl) (by rw [hi25_3, bxF_at (by omega)] at c_57; rw [show xx + 1 - cx = (xx - cx) + 1 by omega, sm_s, ← Int32.add_assoc, ← hi25_2, show cx + (xx - cx) = xx by omega]; first | rw [if_pos c_57] | rw [if_neg c_57]) (by rw [hi25_3]; exact Eq.trans (ptZ_in (by omega) (by omega)).symm (bxF_put (by omega) (by omega) (by omega) (by omega) (by omega))) (by omega) H locs (hP.sub [0, 1] rfl) (hD.sub [0, 1] (by decide) rfl) hS ls (lv_sub hl [2, 3, 4, 5, 6, 7, 1, 8, 0] rfl)
                  · skip
                    refine lv_iconst (v := 0) hx hb dX5_fills_60 (by decide) ?_
                    refine lv_goto (tgt := 65) hx hb dX5_fills_61 (by decide) ?_
                    refine lv_iadd hx hb dX5_fills_65 ?_
                    refine lv_istore (lv' := [(6, .int (n + 0)), (0, .ref mm), (1, .int (nI cx)), (2, .int (nI cy)), (3, .int (nI cw)), (4, .int (nI ch)), (5, .int v), (7, .int (nI yy)), (8, .int (nI xx))]) hx hb dX5_fills_66 hl (by decide) rfl (fun ls hl => ?_)
                    refine lv_aload_n hx hb dX5_fills_68 rfl (lv_at hl 1 rfl) ?_
                    refine va_get (v := .ref mn) (D := D) (ci := 5) (C := RX5) (T := TX5) (N := 14) hx hb hts (by decide +kernel) hown hK hP 0 rfl rfl 0 (by decide) (hts (.fieldLink RX5 7 "SpiralFramesModel" "now" "[I") (by decide +kernel)) (fun _ h9 => h9) rfl dX5_fills_69 ?_
                    refine lv_iconst (v := 0) hx hb dX5_fills_72 (by decide) ?_
                    refine lv_iload hx hb dX5_fills_73 (lv_at hl 8 rfl) ?_
                    refine lv_iload hx hb dX5_fills_75 (lv_at hl 7 rfl) ?_
                    refine x_callR (va_runS (As := [.int 0, .int (nI xx), .int (nI yy)]) (rest := [.ref mn]) ⟨hx, hb, hml, hown, hts⟩ (c_X5_cell l D cI cC cS tt 0 0 (show (0 : Int32).toInt = 0 from by decide) (nI xx) ((xx : Nat) : Int) (nI_toI (by omega)) (nI yy) ((yy : Nat) : Int) (nI_toI (by omega)) (by first | omega | assumption | decide)) (va_cwS 3 hts gX5_fills_X5_cell rfl rfl rfl (by decide +kernel) ⟨Nat.le_of_ble_eq_true rfl, Nat.le_of_ble_eq_true rfl⟩) ⟨x_blindR, x_preR (hP.sub (ws' := []) [] rfl) hK hE hS⟩ rfl rfl hl.1 rfl (lv_room (Nat.le_of_ble_eq_true rfl)) dX5_fills_77 ⟨(Nat.le_of_ble_eq_true rfl), (Nat.le_of_ble_eq_true rfl)⟩) ?_
                    refine lv_iload hx hb dX5_fills_80 (lv_at hl 6 rfl) ?_
                    refine x_eqi2 (show zI (144 * 0 + 12 * ((yy : Nat) : Int) + ((xx : Nat) : Int)) = nI (((144 * 0 + 12 * ((yy : Nat) : Int) + ((xx : Nat) : Int))).toNat) from x_toNat (zI_toInt (by omega) (by omega)) (by omega)) ?_
                    refine x_iastE hx hb hK hP hD hS 1 0 rfl rfl (k := ((144 * 0 + 12 * ((yy : Nat) : Int) + ((xx : Nat) : Int))).toNat) (g := mkM (upd f (yy * 12 + xx) v) S1 R1 N1 K1 L1) (upM_D (j := (yy * 12 + xx)) (by omega) (by omega)) (by omega) (by decide) dX5_fills_82 (fun H locs hP hD hS => ?_)
                    have hP : va_P D vwCl [(mm, .inr (5, [.ref mn, .ref mh, .int kp, .ref ms, .int fl, .ref mr, .ref md, .ref mo, .ref mc, .int ty, .ref mt, .int at9, .int nu, .ref mq])), (mn, .inl (cI, 578, .inl (mkM (upd f (yy * 12 + xx) v) S1 R1 N1 K1 L1)))] H := hP
                    have hD : va_D (Ar) [(mm, .inr (5, [.ref mn, .ref mh, .int kp, .ref ms, .int fl, .ref mr, .ref md, .ref mo, .ref mc, .int ty, .ref mt, .int at9, .int nu, .ref mq])), (mn, .inl (cI, 578, .inl (mkM (upd f (yy * 12 + xx) v) S1 R1 N1 K1 L1)))] := hD
                    refine lv_iinc (v := nI (xx + 1)) (lv' := [(8, .int (nI (xx + 1))), (6, .int (n + 0)), (0, .ref mm), (1, .int (nI cx)), (2, .int (nI cy)), (3, .int (nI cw)), (4, .int (nI ch)), (5, .int v), (7, .int (nI yy))]) hx hb dX5_fills_83 hl (k := 8) rfl (nI_add _ _) (by decide) rfl (fun ls hl => ?_)
                    refine lv_goto (tgt := 25) hx hb dX5_fills_86 (by decide) ?_
                    exact ih25 (xx + 1) (n + 0) (upd f (yy * 12 + xx) v) (by first | omega | assumption | rfl) (by first | omega | assumption | rfl) (by rw [hi25_3, bxF_at (by omega)] at c_57; rw [show xx + 1 - cx = (xx - cx) + 1 by omega, sm_s, ← Int32.add_assoc, ← hi25_2, show cx + (xx - cx) = xx by omega]; first | rw [if_pos c_57] | rw [if_neg c_57]) (by rw [hi25_3]; exact Eq.trans (ptZ_in (by omega) (by omega)).symm (bxF_put (by omega) (by omega) (by omega) (by omega) (by omega))) (by omega) H locs (hP.sub [0, 1] rfl) (hD.sub [0, 1] (by decide) rfl) hS ls (lv_sub hl [2, 3, 4, 5, 6, 7, 1, 8, 0] rfl)
          exact L25 _ cx n f (by first | omega | assumption | rfl) (by first | omega | assumption | rfl) (by rw [hi6_2, Nat.sub_self, sm_0, Int32.add_zero]) (by rw [hi6_3]; exact bxF_in) (Nat.lt_succ_self _) H locs (hP.sub [0, 1] rfl) (hD.sub [0, 1] (by decide) rfl) hS ls (lv_sub hl [1, 2, 3, 4, 5, 6, 7, 8, 0] rfl)
  exact L6 _ cy 0 D1 (by first | omega | assumption | rfl) (by first | omega | assumption | rfl) (by rw [Nat.sub_self]; rfl) bxF_0 (Nat.lt_succ_self _) s.heap [] (hP.sub [0, 1] rfl) (hD.sub [0, 1] (by decide) rfl) hS ls (lv_sub hl [2, 3, 4, 5, 6, 7, 1, 0] rfl)
set_option maxHeartbeats 4000000 in
set_option maxRecDepth 100000 in
theorem c_X5_shifts (l : Launch) (D : va_G) (cI cC cS : ClassId) (tt : Nat → Nat) (sz : Nat) (mm : Nat) (mn : Nat) (mh : Nat) (ms : Nat) (mr : Nat) (md : Nat) (mo : Nat) (mc : Nat) (mt : Nat) (mq : Nat) (kp : Int32) (fl : Int32) (ty : Int32) (at9 : Int32) (nu : Int32) (D1 : Nat → Int32) (S1 : Nat → Int32) (R1 : Nat → Int32) (N1 : Nat → Int32) (K1 : Int32) (L1 : Nat → Int32) (ol : Nat → Int32) (cs : Int32) (Cs : Int) (hCs_ : cs.toInt = Cs) (rs : Int32) (Rs : Int) (hRs_ : rs.toInt = Rs) (hh0 : -11 ≤ Cs) (hh1 : Cs ≤ 11) (hh2 : -11 ≤ Rs) (hh3 : Rs ≤ 11) : Met l yX5_shifts wsX5_shifts ({ frames := 2, cells := 0, slots := 0, locals := 43 } : Room) (x_PW D cI cC cS tt [(mm, .inr (5, [.ref mn, .ref mh, .int kp, .ref ms, .int fl, .ref mr, .ref md, .ref mo, .ref mc, .int ty, .ref mt, .int at9, .int nu, .ref mq])), (mn, .inl (cI, 578, .inl (mkM D1 S1 R1 N1 K1 L1))), (mo, .inl (cI, 144, .inl (ol)))] sz [.ref mm, .int cs, .int rs]) (x_QWi D [(mm, .inr (5, [.ref mn, .ref mh, .int kp, .ref ms, .int fl, .ref mr, .ref md, .ref mo, .ref mc, .int ty, .ref mt, .int at9, .int nu, .ref mq])), (mn, .inl (cI, 578, .inl (mkM D1 S1 R1 N1 K1 L1))), (mo, .inl (cI, 144, .inl (ol)))] sz (fun (r : Int32) (w : va_W) => ∃ (ol2 : Nat → Int32), r = (uP (mvN D1 Cs Rs) D1) ∧ w = [(mm, .inr (5, [.ref mn, .ref mh, .int kp, .ref ms, .int fl, .ref mr, .ref md, .ref mo, .ref mc, .int ty, .ref mt, .int at9, .int nu, .ref mq])), (mn, .inl (cI, 578, .inl (mkM (mvN D1 Cs Rs) S1 R1 N1 K1 L1))), (mo, .inl (cI, 144, .inl (ol2)))])) 0 0 (va_A [(mm, .inr (5, [.ref mn, .ref mh, .int kp, .ref ms, .int fl, .ref mr, .ref md, .ref mo, .ref mc, .int ty, .ref mt, .int at9, .int nu, .ref mq])), (mn, .inl (cI, 578, .inl (mkM D1 S1 R1 N1 K1 L1))), (mo, .inl (cI, 144, .inl (ol)))] sz) := by
  refine Met.ofW (cc := cX5_shifts) (maxL := 7) (ret := (some .int)) (by decide) rfl ?_
  intro p e s m args below meth c s₁ hBd hml hv
  obtain ⟨rfl, hsz, hP, hK, hD0, hE0⟩ := hv
  have hx := hBd.exec
  have hb := hBd.bytes
  have hr := hBd.returns
  have hts := atoms_spec (ws := wsX5_shifts) hBd.pre
  have hown : s.vm.findClass RX5 = some m.cls := findClass_of_methodNamed hBd.named
  have hlocks := hBd.notSynchronized
  subst hsz
  obtain ⟨Ar, hAe⟩ : ∃ Ar : Nat → Prop, Ar = va_A [(mm, .inr (5, [.ref mn, .ref mh, .int kp, .ref ms, .int fl, .ref mr, .ref md, .ref mo, .ref mc, .int ty, .ref mt, .int at9, .int nu, .ref mq])), (mn, .inl (cI, 578, .inl (mkM D1 S1 R1 N1 K1 L1))), (mo, .inl (cI, 144, .inl (ol)))] s.heap.size := ⟨_, rfl⟩
  have hD : va_D Ar [(mm, .inr (5, [.ref mn, .ref mh, .int kp, .ref ms, .int fl, .ref mr, .ref md, .ref mo, .ref mc, .int ty, .ref mt, .int at9, .int nu, .ref mq])), (mn, .inl (cI, 578, .inl (mkM D1 S1 R1 N1 K1 L1))), (mo, .inl (cI, 144, .inl (ol)))] := by rw [hAe]; exact hD0.self
  have hA : ∀ q : Nat, s.heap.size ≤ q → Ar q := fun q h => by rw [hAe]; exact Or.inr h
  have hE : x_E tt Ar s := by rw [hAe]; exact hE0
  have hS : va_S Ar s.heap s.heap [] := va_S.rf
  have hl := lv_entry ([.ref mm, .int cs, .int rs]) (n := 7) (Nat.le_of_ble_eq_true rfl)
  rw [lg_entry_eq]
  generalize (lg_sl ([.ref mm, .int cs, .int rs]) ++ List.replicate (7 - (lg_sl ([.ref mm, .int cs, .int rs])).length) Slot.unset).toArray = ls at hl ⊢
  have hl : lv_has ls 7 [(0, .ref mm), (1, .int cs), (2, .int rs)] := hl
  refine x_genQ (fun Q hQ => ?_)
  refine lv_iconst (v := 0) hx hb dX5_shifts_0 (by decide) ?_
  refine lv_istore_n (lv' := [(3, .int 0), (0, .ref mm), (1, .int cs), (2, .int rs)]) hx hb dX5_shifts_1 rfl hl (by decide) rfl (fun ls hl => ?_)
  have L2 : ∀ (fuel : Nat) (j : Nat) (f : Nat → Int32), (j ≤ 144) → (f = cpF ol D1 0 j) → 144 - j < fuel → ∀ (H : Heap) (locs : List Loc), va_P D vwCl [(mm, .inr (5, [.ref mn, .ref mh, .int kp, .ref ms, .int fl, .ref mr, .ref md, .ref mo, .ref mc, .int ty, .ref mt, .int at9, .int nu, .ref mq])), (mn, .inl (cI, 578, .inl (mkM D1 S1 R1 N1 K1 L1))), (mo, .inl (cI, 144, .inl (f)))] H → va_D (Ar) [(mm, .inr (5, [.ref mn, .ref mh, .int kp, .ref ms, .int fl, .ref mr, .ref md, .ref mo, .ref mc, .int ty, .ref mt, .int at9, .int nu, .ref mq])), (mn, .inl (cI, 578, .inl (mkM D1 S1 R1 N1 K1 L1))), (mo, .inl (cI, 144, .inl (f)))] → va_S (Ar) s.heap H locs → ∀ (ls : Array Slot), lv_has ls 7 [(0, .ref mm), (1, .int cs), (2, .int rs), (3, .int (nI j))] → W p l e (headSpec wsX5_shifts ({ frames := 2, cells := 0, slots := 0, locals := 43 } : Room)).room s m ([.ref mm, .int cs, .int rs] : List Value).toArray below meth c H locs 0 0 Q (F0 m 2 ls []) := by
    intro fuel
    induction fuel with
    | zero =>
      intro j f hi2_0 hi2_1 hfu
      exact absurd hfu (Nat.not_lt_zero _)
    | succ fuel ih2 =>
      intro j f hi2_0 hi2_1 hfu2 H locs hP hD hS ls hl
      refine lv_iload_n hx hb dX5_shifts_2 rfl (lv_at hl 3 rfl) ?_
      refine lv_sipush (v := 144) hx hb dX5_shifts_3 (by decide) ?_
      refine x_icmp_ge (tgt := 27) hx hb dX5_shifts_6 (by decide) (X := ((j : Nat) : Int)) (nI_toI (by omega)) (Y := 144) (show (144 : Int32).toInt = 144 from by decide) (fun c_6 => ?_) (fun c_6 => ?_)
      · skip
        refine lv_iconst (v := 0) hx hb dX5_shifts_27 (by decide) ?_
        refine lv_istore_n (lv' := [(3, .int 0), (0, .ref mm), (1, .int cs), (2, .int rs)]) hx hb dX5_shifts_28 rfl hl (by decide) rfl (fun ls hl => ?_)
        refine lv_iconst (v := 0) hx hb dX5_shifts_29 (by decide) ?_
        refine lv_istore (lv' := [(4, .int 0), (3, .int 0), (0, .ref mm), (1, .int cs), (2, .int rs)]) hx hb dX5_shifts_30 hl (by decide) rfl (fun ls hl => ?_)
        have L32 : ∀ (fuel : Nat) (yy : Nat) (n : Int32) (g : Nat → Int32), (yy ≤ 12) → (n = sm (fun k => if mvN D1 Cs Rs k = D1 k then 0 else 1) (yy * 12)) → (g = mvF D1 Cs Rs yy 0) → 12 - yy < fuel → ∀ (H : Heap) (locs : List Loc), va_P D vwCl [(mm, .inr (5, [.ref mn, .ref mh, .int kp, .ref ms, .int fl, .ref mr, .ref md, .ref mo, .ref mc, .int ty, .ref mt, .int at9, .int nu, .ref mq])), (mn, .inl (cI, 578, .inl (mkM g S1 R1 N1 K1 L1))), (mo, .inl (cI, 144, .inl (f)))] H → va_D (Ar) [(mm, .inr (5, [.ref mn, .ref mh, .int kp, .ref ms, .int fl, .ref mr, .ref md, .ref mo, .ref mc, .int ty, .ref mt, .int at9, .int nu, .ref mq])), (mn, .inl (cI, 578, .inl (mkM g S1 R1 N1 K1 L1))), (mo, .inl (cI, 144, .inl (f)))] → va_S (Ar) s.heap H locs → ∀ (ls : Array Slot), lv_has ls 7 [(0, .ref mm), (1, .int cs), (2, .int rs), (3, .int n), (4, .int (nI yy))] → W p l e (headSpec wsX5_shifts ({ frames := 2, cells := 0, slots := 0, locals := 43 } : Room)).room s m ([.ref mm, .int cs, .int rs] : List Value).toArray below meth c H locs 0 0 Q (F0 m 32 ls []) := by
          intro fuel
          induction fuel with
          | zero =>
            intro yy n g hi32_0 hi32_1 hi32_2 hfu
            exact absurd hfu (Nat.not_lt_zero _)
          | succ fuel ih32 =>
            intro yy n g hi32_0 hi32_1 hi32_2 hfu32 H locs hP hD hS ls hl
            refine lv_iload hx hb dX5_shifts_32 (lv_at hl 4 rfl) ?_
            refine lv_bipush (v := 12) hx hb dX5_shifts_34 (by decide) ?_
            refine x_icmp_ge (tgt := 139) hx hb dX5_shifts_36 (by decide) (X := ((yy : Nat) : Int)) (nI_toI (by omega)) (Y := 12) (show (12 : Int32).toInt = 12 from by decide) (fun c_36 => ?_) (fun c_36 => ?_)
            · skip
              refine lv_iload_n hx hb dX5_shifts_139 rfl (lv_at hl 3 rfl) ?_
              refine x_iretW (w := [(mm, .inr (5, [.ref mn, .ref mh, .int kp, .ref ms, .int fl, .ref mr, .ref md, .ref mo, .ref mc, .int ty, .ref mt, .int at9, .int nu, .ref mq])), (mn, .inl (cI, 578, .inl (mkM g S1 R1 N1 K1 L1))), (mo, .inl (cI, 144, .inl (f)))]) hQ hAe hx hb hr hlocks (hP.sub [0, 1, 2] rfl) (hD.sub [0, 1, 2] (by decide) rfl) hS ?_ dX5_shifts_140
              exact ⟨_, by rw [hi32_1, show yy = 12 by omega]; rfl, by rw [hi32_2, mvF_end (by omega)]⟩
            · skip
              refine lv_iconst (v := 0) hx hb dX5_shifts_39 (by decide) ?_
              refine lv_istore (lv' := [(5, .int 0), (0, .ref mm), (1, .int cs), (2, .int rs), (3, .int n), (4, .int (nI yy))]) hx hb dX5_shifts_40 hl (by decide) rfl (fun ls hl => ?_)
              have L42 : ∀ (fuel : Nat) (xx : Nat) (n : Int32) (g : Nat → Int32), (xx ≤ 12) → (n = sm (fun k => if mvN D1 Cs Rs k = D1 k then 0 else 1) (yy * 12 + xx)) → (g = mvF D1 Cs Rs yy xx) → 12 - xx < fuel → ∀ (H : Heap) (locs : List Loc), va_P D vwCl [(mm, .inr (5, [.ref mn, .ref mh, .int kp, .ref ms, .int fl, .ref mr, .ref md, .ref mo, .ref mc, .int ty, .ref mt, .int at9, .int nu, .ref mq])), (mn, .inl (cI, 578, .inl (mkM g S1 R1 N1 K1 L1))), (mo, .inl (cI, 144, .inl (f)))] H → va_D (Ar) [(mm, .inr (5, [.ref mn, .ref mh, .int kp, .ref ms, .int fl, .ref mr, .ref md, .ref mo, .ref mc, .int ty, .ref mt, .int at9, .int nu, .ref mq])), (mn, .inl (cI, 578, .inl (mkM g S1 R1 N1 K1 L1))), (mo, .inl (cI, 144, .inl (f)))] → va_S (Ar) s.heap H locs → ∀ (ls : Array Slot), lv_has ls 7 [(0, .ref mm), (1, .int cs), (2, .int rs), (3, .int n), (4, .int (nI yy)), (5, .int (nI xx))] → W p l e (headSpec wsX5_shifts ({ frames := 2, cells := 0, slots := 0, locals := 43 } : Room)).room s m ([.ref mm, .int cs, .int rs] : List Value).toArray below meth c H locs 0 0 Q (F0 m 42 ls []) := by
                intro fuel
                induction fuel with
                | zero =>
                  intro xx n g hi42_0 hi42_1 hi42_2 hfu
                  exact absurd hfu (Nat.not_lt_zero _)
                | succ fuel ih42 =>
                  intro xx n g hi42_0 hi42_1 hi42_2 hfu42 H locs hP hD hS ls hl
                  refine lv_iload hx hb dX5_shifts_42 (lv_at hl 5 rfl) ?_
                  refine lv_bipush (v := 12) hx hb dX5_shifts_44 (by decide) ?_
                  refine x_icmp_ge (tgt := 133) hx hb dX5_shifts_46 (by decide) (X := ((xx : Nat) : Int)) (nI_toI (by omega)) (Y := 12) (show (12 : Int32).toInt = 12 from by decide) (fun c_46 => ?_) (fun c_46 => ?_)
                  · skip
                    refine lv_iinc (v := nI (yy + 1)) (lv' := [(4, .int (nI (yy + 1))), (0, .ref mm), (1, .int cs), (2, .int rs), (3, .int n), (5, .int (nI xx))]) hx hb dX5_shifts_133 hl (k := 4) rfl (nI_add _ _) (by decide) rfl (fun ls hl => ?_)
                    refine lv_goto (tgt := 32) hx hb dX5_shifts_136 (by decide) ?_
                    exact ih32 (yy + 1) n g (by first | omega | assumption | rfl) (by rw [hi42_1, show yy * 12 + xx = (yy + 1) * 12 by omega]) (by rw [hi42_2]; exact mvF_out (by omega)) (by omega) H locs (hP.sub [0, 1, 2] rfl) (hD.sub [0, 1, 2] (by decide) rfl) hS ls (lv_sub hl [1, 2, 3, 4, 0] rfl)
                  · skip
                    refine lv_iload hx hb dX5_shifts_49 (lv_at hl 5 rfl) ?_
                    refine lv_iload_n hx hb dX5_shifts_51 rfl (lv_at hl 1 rfl) ?_
                    refine lv_isub hx hb dX5_shifts_52 ?_
                    refine lv_iload hx hb dX5_shifts_53 (lv_at hl 4 rfl) ?_
                    refine lv_iload_n hx hb dX5_shifts_55 rfl (lv_at hl 2 rfl) ?_
                    refine lv_isub hx hb dX5_shifts_56 ?_
                    refine x_callR (va_runS (As := [.int ((nI xx) - cs), .int ((nI yy) - rs)]) (rest := []) ⟨hx, hb, hml, hown, hts⟩ (c_X5_noPoint l D cI cC cS tt ((nI xx) - cs) (((xx : Nat) : Int) - Cs) (x_subI (nI_toI (by omega)) hCs_ (by omega) (by omega)) ((nI yy) - rs) (((yy : Nat) : Int) - Rs) (x_subI (nI_toI (by omega)) hRs_ (by omega) (by omega))) (va_cwS 2 hts gX5_shifts_X5_noPoint rfl rfl rfl (by decide +kernel) ⟨Nat.le_of_ble_eq_true rfl, Nat.le_of_ble_eq_true rfl⟩) ⟨x_blindR, x_preR (hP.sub (ws' := []) [] rfl) hK hE hS⟩ rfl rfl hl.1 rfl (lv_room (Nat.le_of_ble_eq_true rfl)) dX5_shifts_57 ⟨(Nat.le_of_ble_eq_true rfl), (Nat.le_of_ble_eq_true rfl)⟩) ?_
                    refine x_ifB_eq (tgt := 67) hx hb dX5_shifts_60 (by decide) (fun c_60 => ?_) (fun c_60 => ?_)
                    · skip
                      refine lv_aload_n hx hb dX5_shifts_67 rfl (lv_at hl 0 rfl) ?_
                      refine va_get (v := .ref mo) (D := D) (ci := 5) (C := RX5) (T := TX5) (N := 14) hx hb hts (by decide +kernel) hown hK hP 0 rfl rfl 7 (by decide) (hts (.fieldLink RX5 25 "SpiralFramesModel" "old" "[I") (by decide +kernel)) (fun _ h9 => h9) rfl dX5_shifts_68 ?_
                      refine lv_iconst (v := 0) hx hb dX5_shifts_71 (by decide) ?_
                      refine lv_iload hx hb dX5_shifts_72 (lv_at hl 5 rfl) ?_
                      refine lv_iload_n hx hb dX5_shifts_74 rfl (lv_at hl 1 rfl) ?_
                      refine lv_isub hx hb dX5_shifts_75 ?_
                      refine lv_iload hx hb dX5_shifts_76 (lv_at hl 4 rfl) ?_
                      refine lv_iload_n hx hb dX5_shifts_78 rfl (lv_at hl 2 rfl) ?_
                      refine lv_isub hx hb dX5_shifts_79 ?_
                      refine x_callR (va_runS (As := [.int 0, .int ((nI xx) - cs), .int ((nI yy) - rs)]) (rest := [.ref mo]) ⟨hx, hb, hml, hown, hts⟩ (c_X5_cell l D cI cC cS tt 0 0 (show (0 : Int32).toInt = 0 from by decide) ((nI xx) - cs) (((xx : Nat) : Int) - Cs) (x_subI (nI_toI (by omega)) hCs_ (by omega) (by omega)) ((nI yy) - rs) (((yy : Nat) : Int) - Rs) (x_subI (nI_toI (by omega)) hRs_ (by omega) (by omega)) (by first | omega | assumption | decide)) (va_cwS 3 hts gX5_shifts_X5_cell rfl rfl rfl (by decide +kernel) ⟨Nat.le_of_ble_eq_true rfl, Nat.le_of_ble_eq_true rfl⟩) ⟨x_blindR, x_preR (hP.sub (ws' := []) [] rfl) hK hE hS⟩ rfl rfl hl.1 rfl (lv_room (Nat.le_of_ble_eq_true rfl)) dX5_shifts_80 ⟨(Nat.le_of_ble_eq_true rfl), (Nat.le_of_ble_eq_true rfl)⟩) ?_
                      refine x_eqi (show zI (144 * 0 + 12 * (((yy : Nat) : Int) - Rs) + (((xx : Nat) : Int) - Cs)) = nI (((144 * 0 + 12 * (((yy : Nat) : Int) - Rs) + (((xx : Nat) : Int) - Cs))).toNat) from x_toNat (zI_toInt (by omega) (by omega)) (by omega)) ?_
                      refine x_iald hx hb hK hP 2 0 rfl rfl (k := ((144 * 0 + 12 * (((yy : Nat) : Int) - Rs) + (((xx : Nat) : Int) - Cs))).toNat) (by omega) (by decide) dX5_shifts_83 ?_
                      refine x_eqi (show f (((144 * 0 + 12 * (((yy : Nat) : Int) - Rs) + (((xx : Nat) : Int) - Cs))).toNat) = gtZ D1 (((xx : Nat) : Int) - Cs) (((yy : Nat) : Int) - Rs) from (by unfold gtZ; rw [if_pos (by omega), hi2_1, cpF_at (by omega)]; exact congrArg D1 (by omega))) ?_
                      refine lv_istore (lv' := [(6, .int (gtZ D1 (((xx : Nat) : Int) - Cs) (((yy : Nat) : Int) - Rs))), (0, .ref mm), (1, .int cs), (2, .int rs), (3, .int n), (4, .int (nI yy)), (5, .int (nI xx))]) hx hb dX5_shifts_84 hl (by decide) rfl (fun ls hl => ?_)
                      refine lv_iload_n hx hb dX5_shifts_86 rfl (lv_at hl 4 rfl) ?_
                      refine lv_iload hx hb dX5_shifts_87 (lv_at hl 0 rfl) ?_
                      refine lv_aload_n hx hb dX5_shifts_89 rfl (lv_at hl 1 rfl) ?_
                      refine va_get (v := .ref mo) (D := D) (ci := 5) (C := RX5) (T := TX5) (N := 14) hx hb hts (by decide +kernel) hown hK hP 0 rfl rfl 7 (by decide) (hts (.fieldLink RX5 25 "SpiralFramesModel" "old" "[I") (by decide +kernel)) (fun _ h9 => h9) rfl dX5_shifts_90 ?_
                      refine lv_iconst (v := 0) hx hb dX5_shifts_93 (by decide) ?_
                      refine lv_iload hx hb dX5_shifts_94 (lv_at hl 6 rfl) ?_
                      refine lv_iload hx hb dX5_shifts_96 (lv_at hl 5 rfl) ?_
                      refine x_callR (va_runS (As := [.int 0, .int (nI xx), .int (nI yy)]) (rest := [.ref mo, .int (gtZ D1 (((xx : Nat) : Int) - Cs) (((yy : Nat) : Int) - Rs)), .int n]) ⟨hx, hb, hml, hown, hts⟩ (c_X5_cell l D cI cC cS tt 0 0 (show (0 : Int32).toInt = 0 from by decide) (nI xx) ((xx : Nat) : Int) (nI_toI (by omega)) (nI yy) ((yy : Nat) : Int) (nI_toI (by omega)) (by first | omega | assumption | decide)) (va_cwS 3 hts gX5_shifts_X5_cell rfl rfl rfl (by decide +kernel) ⟨Nat.le_of_ble_eq_true rfl, Nat.le_of_ble_eq_true rfl⟩) ⟨x_blindR, x_preR (hP.sub (ws' := []) [] rfl) hK hE hS⟩ rfl rfl hl.1 rfl (lv_room (Nat.le_of_ble_eq_true rfl)) dX5_shifts_98 ⟨(Nat.le_of_ble_eq_true rfl), (Nat.le_of_ble_eq_true rfl)⟩) ?_
                      refine x_eqi (show zI (144 * 0 + 12 * ((yy : Nat) : Int) + ((xx : Nat) : Int)) = nI (((144 * 0 + 12 * ((yy : Nat) : Int) + ((xx : Nat) : Int))).toNat) from x_toNat (zI_toInt (by omega) (by omega)) (by omega)) ?_
                      refine x_iald hx hb hK hP 2 0 rfl rfl (k := ((144 * 0 + 12 * ((yy : Nat) : Int) + ((xx : Nat) : Int))).toNat) (by omega) (by decide) dX5_shifts_101 ?_
                      refine x_eqi (show f (((144 * 0 + 12 * ((yy : Nat) : Int) + ((xx : Nat) : Int))).toNat) = D1 (yy * 12 + xx) from (by rw [hi2_1, cpF_at (by omega)]; exact congrArg D1 (by omega))) ?_
                      refine lv_icmp_ne (tgt := 109) hx hb dX5_shifts_102 (by decide) (fun c_102 => ?_) (fun c_102 => ?_)
                      · skip
                        refine lv_iconst (v := 1) hx hb dX5_shifts_109 (by decide) ?_
                        refine lv_iadd hx hb dX5_shifts_110 ?_
                        refine lv_istore_n (lv' := [(3, .int (n + 1)), (6, .int (gtZ D1 (((xx : Nat) : Int) - Cs) (((yy : Nat) : Int) - Rs))), (0, .ref mm), (1, .int cs), (2, .int rs), (4, .int (nI yy)), (5, .int (nI xx))]) hx hb dX5_shifts_111 rfl hl (by decide) rfl (fun ls hl => ?_)
                        refine lv_aload_n hx hb dX5_shifts_112 rfl (lv_at hl 2 rfl) ?_
                        refine va_get (v := .ref mn) (D := D) (ci := 5) (C := RX5) (T := TX5) (N := 14) hx hb hts (by decide +kernel) hown hK hP 0 rfl rfl 0 (by decide) (hts (.fieldLink RX5 7 "SpiralFramesModel" "now" "[I") (by decide +kernel)) (fun _ h9 => h9) rfl dX5_shifts_113 ?_
                        refine lv_iconst (v := 0) hx hb dX5_shifts_116 (by decide) ?_
                        refine lv_iload hx hb dX5_shifts_117 (lv_at hl 6 rfl) ?_
                        refine lv_iload hx hb dX5_shifts_119 (lv_at hl 5 rfl) ?_
                        refine x_callR (va_runS (As := [.int 0, .int (nI xx), .int (nI yy)]) (rest := [.ref mn]) ⟨hx, hb, hml, hown, hts⟩ (c_X5_cell l D cI cC cS tt 0 0 (show (0 : Int32).toInt = 0 from by decide) (nI xx) ((xx : Nat) : Int) (nI_toI (by omega)) (nI yy) ((yy : Nat) : Int) (nI_toI (by omega)) (by first | omega | assumption | decide)) (va_cwS 3 hts gX5_shifts_X5_cell rfl rfl rfl (by decide +kernel) ⟨Nat.le_of_ble_eq_true rfl, Nat.le_of_ble_eq_true rfl⟩) ⟨x_blindR, x_preR (hP.sub (ws' := []) [] rfl) hK hE hS⟩ rfl rfl hl.1 rfl (lv_room (Nat.le_of_ble_eq_true rfl)) dX5_shifts_121 ⟨(Nat.le_of_ble_eq_true rfl), (Nat.le_of_ble_eq_true rfl)⟩) ?_
                        refine lv_iload hx hb dX5_shifts_124 (lv_at hl 1 rfl) ?_
                        refine x_eqi2 (show zI (144 * 0 + 12 * ((yy : Nat) : Int) + ((xx : Nat) : Int)) = nI (((144 * 0 + 12 * ((yy : Nat) : Int) + ((xx : Nat) : Int))).toNat) from x_toNat (zI_toInt (by omega) (by omega)) (by omega)) ?_
                        refine x_iastE hx hb hK hP hD hS 1 0 rfl rfl (k := ((144 * 0 + 12 * ((yy : Nat) : Int) + ((xx : Nat) : Int))).toNat) (g := mkM (upd g (yy * 12 + xx) (gtZ D1 (((xx : Nat) : Int) - Cs) (((yy : Nat) : Int) - Rs))) S1 R1 N1 K1 L1) (upM_D (j := (yy * 12 + xx)) (by omega) (by omega)) (by omega) (by decide) dX5_shifts_126 (fun H locs hP hD hS => ?_)
                        have hP : va_P D vwCl [(mm, .inr (5, [.ref mn, .ref mh, .int kp, .ref ms, .int fl, .ref mr, .ref md, .ref mo, .ref mc, .int ty, .ref mt, .int at9, .int nu, .ref mq])), (mn, .inl (cI, 578, .inl (mkM (upd g (yy * 12 + xx) (gtZ D1 (((xx : Nat) : Int) - Cs) (((yy : Nat) : Int) - Rs))) S1 R1 N1 K1 L1))), (mo, .inl (cI, 144, .inl (f)))] H := hP
                        have hD : va_D (Ar) [(mm, .inr (5, [.ref mn, .ref mh, .int kp, .ref ms, .int fl, .ref mr, .ref md, .ref mo, .ref mc, .int ty, .ref mt, .int at9, .int nu, .ref mq])), (mn, .inl (cI, 578, .inl (mkM (upd g (yy * 12 + xx) (gtZ D1 (((xx : Nat) : Int) - Cs) (((yy : Nat) : Int) - Rs))) S1 R1 N1 K1 L1))), (mo, .inl (cI, 144, .inl (f)))] := hD
                        refine lv_iinc (v := nI (xx + 1)) (lv' := [(5, .int (nI (xx + 1))), (3, .int (n + 1)), (6, .int (gtZ D1 (((xx : Nat) : Int) - Cs) (((yy : Nat) : Int) - Rs))), (0, .ref mm), (1, .int cs), (2, .int rs), (4, .int (nI yy))]) hx hb dX5_shifts_127 hl (k := 6) rfl (nI_add _ _) (by decide) rfl (fun ls hl => ?_)
                        refine lv_goto (tgt := 42) hx hb dX5_shifts_130 (by decide) ?_
                        exact ih42 (xx + 1) (n + 1) (upd g (yy * 12 + xx) (gtZ D1 (((xx : Nat) : Int) - Cs) (((yy : Nat) : Int) - Rs))) (by first | omega | assumption | rfl) (by rw [show yy * 12 + (xx + 1) = (yy * 12 + xx) + 1 by omega, sm_s, ← hi42_1, mvN_at (by omega) (by omega)]; first | rw [if_pos c_102] | rw [if_neg c_102]) (by rw [hi42_2]; exact Eq.trans (ptZ_in (by omega) (by omega)).symm (mvF_put (by omega) (by omega))) (by omega) H locs (hP.sub [0, 1, 2] rfl) (hD.sub [0, 1, 2] (by decide) rfl) hS ls (lv_sub hl [3, 4, 5, 1, 6, 0] rfl)
                      · skip
                        refine lv_iconst (v := 0) hx hb dX5_shifts_105 (by decide) ?_
                        refine lv_goto (tgt := 110) hx hb dX5_shifts_106 (by decide) ?_
                        refine lv_iadd hx hb dX5_shifts_110 ?_
                        refine lv_istore_n (lv' := [(3, .int (n + 0)), (6, .int (gtZ D1 (((xx : Nat) : Int) - Cs) (((yy : Nat) : Int) - Rs))), (0, .ref mm), (1, .int cs), (2, .int rs), (4, .int (nI yy)), (5, .int (nI xx))]) hx hb dX5_shifts_111 rfl hl (by decide) rfl (fun ls hl => ?_)
                        refine lv_aload_n hx hb dX5_shifts_112 rfl (lv_at hl 2 rfl) ?_
                        refine va_get (v := .ref mn) (D := D) (ci := 5) (C := RX5) (T := TX5) (N := 14) hx hb hts (by decide +kernel) hown hK hP 0 rfl rfl 0 (by decide) (hts (.fieldLink RX5 7 "SpiralFramesModel" "now" "[I") (by decide +kernel)) (fun _ h9 => h9) rfl dX5_shifts_113 ?_
                        refine lv_iconst (v := 0) hx hb dX5_shifts_116 (by decide) ?_
                        refine lv_iload hx hb dX5_shifts_117 (lv_at hl 6 rfl) ?_
                        refine lv_iload hx hb dX5_shifts_119 (lv_at hl 5 rfl) ?_
                        refine x_callR (va_runS (As := [.int 0, .int (nI xx), .int (nI yy)]) (rest := [.ref mn]) ⟨hx, hb, hml, hown, hts⟩ (c_X5_cell l D cI cC cS tt 0 0 (show (0 : Int32).toInt = 0 from by decide) (nI xx) ((xx : Nat) : Int) (nI_toI (by omega)) (nI yy) ((yy : Nat) : Int) (nI_toI (by omega)) (by first | omega | assumption | decide)) (va_cwS 3 hts gX5_shifts_X5_cell rfl rfl rfl (by decide +kernel) ⟨Nat.le_of_ble_eq_true rfl, Nat.le_of_ble_eq_true rfl⟩) ⟨x_blindR, x_preR (hP.sub (ws' := []) [] rfl) hK hE hS⟩ rfl rfl hl.1 rfl (lv_room (Nat.le_of_ble_eq_true rfl)) dX5_shifts_121 ⟨(Nat.le_of_ble_eq_true rfl), (Nat.le_of_ble_eq_true rfl)⟩) ?_
                        refine lv_iload hx hb dX5_shifts_124 (lv_at hl 1 rfl) ?_
                        refine x_eqi2 (show zI (144 * 0 + 12 * ((yy : Nat) : Int) + ((xx : Nat) : Int)) = nI (((144 * 0 + 12 * ((yy : Nat) : Int) + ((xx : Nat) : Int))).toNat) from x_toNat (zI_toInt (by omega) (by omega)) (by omega)) ?_
                        refine x_iastE hx hb hK hP hD hS 1 0 rfl rfl (k := ((144 * 0 + 12 * ((yy : Nat) : Int) + ((xx : Nat) : Int))).toNat) (g := mkM (upd g (yy * 12 + xx) (gtZ D1 (((xx : Nat) : Int) - Cs) (((yy : Nat) : Int) - Rs))) S1 R1 N1 K1 L1) (upM_D (j := (yy * 12 + xx)) (by omega) (by omega)) (by omega) (by decide) dX5_shifts_126 (fun H locs hP hD hS => ?_)
                        have hP : va_P D vwCl [(mm, .inr (5, [.ref mn, .ref mh, .int kp, .ref ms, .int fl, .ref mr, .ref md, .ref mo, .ref mc, .int ty, .ref mt, .int at9, .int nu, .ref mq])), (mn, .inl (cI, 578, .inl (mkM (upd g (yy * 12 + xx) (gtZ D1 (((xx : Nat) : Int) - Cs) (((yy : Nat) : Int) - Rs))) S1 R1 N1 K1 L1))), (mo, .inl (cI, 144, .inl (f)))] H := hP
                        have hD : va_D (Ar) [(mm, .inr (5, [.ref mn, .ref mh, .int kp, .ref ms, .int fl, .ref mr, .ref md, .ref mo, .ref mc, .int ty, .ref mt, .int at9, .int nu, .ref mq])), (mn, .inl (cI, 578, .inl (mkM (upd g (yy * 12 + xx) (gtZ D1 (((xx : Nat) : Int) - Cs) (((yy : Nat) : Int) - Rs))) S1 R1 N1 K1 L1))), (mo, .inl (cI, 144, .inl (f)))] := hD
                        refine lv_iinc (v := nI (xx + 1)) (lv' := [(5, .int (nI (xx + 1))), (3, .int (n + 0)), (6, .int (gtZ D1 (((xx : Nat) : Int) - Cs) (((yy : Nat) : Int) - Rs))), (0, .ref mm), (1, .int cs), (2, .int rs), (4, .int (nI yy))]) hx hb dX5_shifts_127 hl (k := 6) rfl (nI_add _ _) (by decide) rfl (fun ls hl => ?_)
                        refine lv_goto (tgt := 42) hx hb dX5_shifts_130 (by decide) ?_
                        exact ih42 (xx + 1) (n + 0) (upd g (yy * 12 + xx) (gtZ D1 (((xx : Nat) : Int) - Cs) (((yy : Nat) : Int) - Rs))) (by first | omega | assumption | rfl) (by rw [show yy * 12 + (xx + 1) = (yy * 12 + xx) + 1 by omega, sm_s, ← hi42_1, mvN_at (by omega) (by omega)]; first | rw [if_pos c_102] | rw [if_neg c_102]) (by rw [hi42_2]; exact Eq.trans (ptZ_in (by omega) (by omega)).symm (mvF_put (by omega) (by omega))) (by omega) H locs (hP.sub [0, 1, 2] rfl) (hD.sub [0, 1, 2] (by decide) rfl) hS ls (lv_sub hl [3, 4, 5, 1, 6, 0] rfl)
                    · skip
                      refine lv_iconst (v := 0) hx hb dX5_shifts_63 (by decide) ?_
                      refine x_eqi (show 0 = gtZ D1 (((xx : Nat) : Int) - Cs) (((yy : Nat) : Int) - Rs) from (by unfold gtZ; rw [if_neg (by omega)])) ?_
                      refine lv_goto (tgt := 84) hx hb dX5_shifts_64 (by decide) ?_
                      refine lv_istore (lv' := [(6, .int (gtZ D1 (((xx : Nat) : Int) - Cs) (((yy : Nat) : Int) - Rs))), (0, .ref mm), (1, .int cs), (2, .int rs), (3, .int n), (4, .int (nI yy)), (5, .int (nI xx))]) hx hb dX5_shifts_84 hl (by decide) rfl (fun ls hl => ?_)
                      refine lv_iload_n hx hb dX5_shifts_86 rfl (lv_at hl 4 rfl) ?_
                      refine lv_iload hx hb dX5_shifts_87 (lv_at hl 0 rfl) ?_
                      refine lv_aload_n hx hb dX5_shifts_89 rfl (lv_at hl 1 rfl) ?_
                      refine va_get (v := .ref mo) (D := D) (ci := 5) (C := RX5) (T := TX5) (N := 14) hx hb hts (by decide +kernel) hown hK hP 0 rfl rfl 7 (by decide) (hts (.fieldLink RX5 25 "SpiralFramesModel" "old" "[I") (by decide +kernel)) (fun _ h9 => h9) rfl dX5_shifts_90 ?_
                      refine lv_iconst (v := 0) hx hb dX5_shifts_93 (by decide) ?_
                      refine lv_iload hx hb dX5_shifts_94 (lv_at hl 6 rfl) ?_
                      refine lv_iload hx hb dX5_shifts_96 (lv_at hl 5 rfl) ?_
                      refine x_callR (va_runS (As := [.int 0, .int (nI xx), .int (nI yy)]) (rest := [.ref mo, .int (gtZ D1 (((xx : Nat) : Int) - Cs) (((yy : Nat) : Int) - Rs)), .int n]) ⟨hx, hb, hml, hown, hts⟩ (c_X5_cell l D cI cC cS tt 0 0 (show (0 : Int32).toInt = 0 from by decide) (nI xx) ((xx : Nat) : Int) (nI_toI (by omega)) (nI yy) ((yy : Nat) : Int) (nI_toI (by omega)) (by first | omega | assumption | decide)) (va_cwS 3 hts gX5_shifts_X5_cell rfl rfl rfl (by decide +kernel) ⟨Nat.le_of_ble_eq_true rfl, Nat.le_of_ble_eq_true rfl⟩) ⟨x_blindR, x_preR (hP.sub (ws' := []) [] rfl) hK hE hS⟩ rfl rfl hl.1 rfl (lv_room (Nat.le_of_ble_eq_true rfl)) dX5_shifts_98 ⟨(Nat.le_of_ble_eq_true rfl), (Nat.le_of_ble_eq_true rfl)⟩) ?_
                      refine x_eqi (show zI (144 * 0 + 12 * ((yy : Nat) : Int) + ((xx : Nat) : Int)) = nI (((144 * 0 + 12 * ((yy : Nat) : Int) + ((xx : Nat) : Int))).toNat) from x_toNat (zI_toInt (by omega) (by omega)) (by omega)) ?_
                      refine x_iald hx hb hK hP 2 0 rfl rfl (k := ((144 * 0 + 12 * ((yy : Nat) : Int) + ((xx : Nat) : Int))).toNat) (by omega) (by decide) dX5_shifts_101 ?_
                      refine x_eqi (show f (((144 * 0 + 12 * ((yy : Nat) : Int) + ((xx : Nat) : Int))).toNat) = D1 (yy * 12 + xx) from (by rw [hi2_1, cpF_at (by omega)]; exact congrArg D1 (by omega))) ?_
                      refine lv_icmp_ne (tgt := 109) hx hb dX5_shifts_102 (by decide) (fun c_102 => ?_) (fun c_102 => ?_)
                      · skip
                        refine lv_iconst (v := 1) hx hb dX5_shifts_109 (by decide) ?_
                        refine lv_iadd hx hb dX5_shifts_110 ?_
                        refine lv_istore_n (lv' := [(3, .int (n + 1)), (6, .int (gtZ D1 (((xx : Nat) : Int) - Cs) (((yy : Nat) : Int) - Rs))), (0, .ref mm), (1, .int cs), (2, .int rs), (4, .int (nI yy)), (5, .int (nI xx))]) hx hb dX5_shifts_111 rfl hl (by decide) rfl (fun ls hl => ?_)
                        refine lv_aload_n hx hb dX5_shifts_112 rfl (lv_at hl 2 rfl) ?_
                        refine va_get (v := .ref mn) (D := D) (ci := 5) (C := RX5) (T := TX5) (N := 14) hx hb hts (by decide +kernel) hown hK hP 0 rfl rfl 0 (by decide) (hts (.fieldLink RX5 7 "SpiralFramesModel" "now" "[I") (by decide +kernel)) (fun _ h9 => h9) rfl dX5_shifts_113 ?_
                        refine lv_iconst (v := 0) hx hb dX5_shifts_116 (by decide) ?_
                        refine lv_iload hx hb dX5_shifts_117 (lv_at hl 6 rfl) ?_
                        refine lv_iload hx hb dX5_shifts_119 (lv_at hl 5 rfl) ?_
                        refine x_callR (va_runS (As := [.int 0, .int (nI xx), .int (nI yy)]) (rest := [.ref mn]) ⟨hx, hb, hml, hown, hts⟩ (c_X5_cell l D cI cC cS tt 0 0 (show (0 : Int32).toInt = 0 from by decide) (nI xx) ((xx : Nat) : Int) (nI_toI (by omega)) (nI yy) ((yy : Nat) : Int) (nI_toI (by omega)) (by first | omega | assumption | decide)) (va_cwS 3 hts gX5_shifts_X5_cell rfl rfl rfl (by decide +kernel) ⟨Nat.le_of_ble_eq_true rfl, Nat.le_of_ble_eq_true rfl⟩) ⟨x_blindR, x_preR (hP.sub (ws' := []) [] rfl) hK hE hS⟩ rfl rfl hl.1 rfl (lv_room (Nat.le_of_ble_eq_true rfl)) dX5_shifts_121 ⟨(Nat.le_of_ble_eq_true rfl), (Nat.le_of_ble_eq_true rfl)⟩) ?_
                        refine lv_iload hx hb dX5_shifts_124 (lv_at hl 1 rfl) ?_
                        refine x_eqi2 (show zI (144 * 0 + 12 * ((yy : Nat) : Int) + ((xx : Nat) : Int)) = nI (((144 * 0 + 12 * ((yy : Nat) : Int) + ((xx : Nat) : Int))).toNat) from x_toNat (zI_toInt (by omega) (by omega)) (by omega)) ?_
                        refine x_iastE hx hb hK hP hD hS 1 0 rfl rfl (k := ((144 * 0 + 12 * ((yy : Nat) : Int) + ((xx : Nat) : Int))).toNat) (g := mkM (upd g (yy * 12 + xx) (gtZ D1 (((xx : Nat) : Int) - Cs) (((yy : Nat) : Int) - Rs))) S1 R1 N1 K1 L1) (upM_D (j := (yy * 12 + xx)) (by omega) (by omega)) (by omega) (by decide) dX5_shifts_126 (fun H locs hP hD hS => ?_)
                        have hP : va_P D vwCl [(mm, .inr (5, [.ref mn, .ref mh, .int kp, .ref ms, .int fl, .ref mr, .ref md, .ref mo, .ref mc, .int ty, .ref mt, .int at9, .int nu, .ref mq])), (mn, .inl (cI, 578, .inl (mkM (upd g (yy * 12 + xx) (gtZ D1 (((xx : Nat) : Int) - Cs) (((yy : Nat) : Int) - Rs))) S1 R1 N1 K1 L1))), (mo, .inl (cI, 144, .inl (f)))] H := hP
                        have hD : va_D (Ar) [(mm, .inr (5, [.ref mn, .ref mh, .int kp, .ref ms, .int fl, .ref mr, .ref md, .ref mo, .ref mc, .int ty, .ref mt, .int at9, .int nu, .ref mq])), (mn, .inl (cI, 578, .inl (mkM (upd g (yy * 12 + xx) (gtZ D1 (((xx : Nat) : Int) - Cs) (((yy : Nat) : Int) - Rs))) S1 R1 N1 K1 L1))), (mo, .inl (cI, 144, .inl (f)))] := hD
                        refine lv_iinc (v := nI (xx + 1)) (lv' := [(5, .int (nI (xx + 1))), (3, .int (n + 1)), (6, .int (gtZ D1 (((xx : Nat) : Int) - Cs) (((yy : Nat) : Int) - Rs))), (0, .ref mm), (1, .int cs), (2, .int rs), (4, .int (nI yy))]) hx hb dX5_shifts_127 hl (k := 6) rfl (nI_add _ _) (by decide) rfl (fun ls hl => ?_)
                        refine lv_goto (tgt := 42) hx hb dX5_shifts_130 (by decide) ?_
                        exact ih42 (xx + 1) (n + 1) (upd g (yy * 12 + xx) (gtZ D1 (((xx : Nat) : Int) - Cs) (((yy : Nat) : Int) - Rs))) (by first | omega | assumption | rfl) (by rw [show yy * 12 + (xx + 1) = (yy * 12 + xx) + 1 by omega, sm_s, ← hi42_1, mvN_at (by omega) (by omega)]; first | rw [if_pos c_102] | rw [if_neg c_102]) (by rw [hi42_2]; exact Eq.trans (ptZ_in (by omega) (by omega)).symm (mvF_put (by omega) (by omega))) (by omega) H locs (hP.sub [0, 1, 2] rfl) (hD.sub [0, 1, 2] (by decide) rfl) hS ls (lv_sub hl [3, 4, 5, 1, 6, 0] rfl)
                      · skip
                        refine lv_iconst (v := 0) hx hb dX5_shifts_105 (by decide) ?_
                        refine lv_goto (tgt := 110) hx hb dX5_shifts_106 (by decide) ?_
                        refine lv_iadd hx hb dX5_shifts_110 ?_
                        refine lv_istore_n (lv' := [(3, .int (n + 0)), (6, .int (gtZ D1 (((xx : Nat) : Int) - Cs) (((yy : Nat) : Int) - Rs))), (0, .ref mm), (1, .int cs), (2, .int rs), (4, .int (nI yy)), (5, .int (nI xx))]) hx hb dX5_shifts_111 rfl hl (by decide) rfl (fun ls hl => ?_)
                        refine lv_aload_n hx hb dX5_shifts_112 rfl (lv_at hl 2 rfl) ?_
                        refine va_get (v := .ref mn) (D := D) (ci := 5) (C := RX5) (T := TX5) (N := 14) hx hb hts (by decide +kernel) hown hK hP 0 rfl rfl 0 (by decide) (hts (.fieldLink RX5 7 "SpiralFramesModel" "now" "[I") (by decide +kernel)) (fun _ h9 => h9) rfl dX5_shifts_113 ?_
                        refine lv_iconst (v := 0) hx hb dX5_shifts_116 (by decide) ?_
                        refine lv_iload hx hb dX5_shifts_117 (lv_at hl 6 rfl) ?_
                        refine lv_iload hx hb dX5_shifts_119 (lv_at hl 5 rfl) ?_
                        refine x_callR (va_runS (As := [.int 0, .int (nI xx), .int (nI yy)]) (rest := [.ref mn]) ⟨hx, hb, hml, hown, hts⟩ (c_X5_cell l D cI cC cS tt 0 0 (show (0 : Int32).toInt = 0 from by decide) (nI xx) ((xx : Nat) : Int) (nI_toI (by omega)) (nI yy) ((yy : Nat) : Int) (nI_toI (by omega)) (by first | omega | assumption | decide)) (va_cwS 3 hts gX5_shifts_X5_cell rfl rfl rfl (by decide +kernel) ⟨Nat.le_of_ble_eq_true rfl, Nat.le_of_ble_eq_true rfl⟩) ⟨x_blindR, x_preR (hP.sub (ws' := []) [] rfl) hK hE hS⟩ rfl rfl hl.1 rfl (lv_room (Nat.le_of_ble_eq_true rfl)) dX5_shifts_121 ⟨(Nat.le_of_ble_eq_true rfl), (Nat.le_of_ble_eq_true rfl)⟩) ?_
                        refine lv_iload hx hb dX5_shifts_124 (lv_at hl 1 rfl) ?_
                        refine x_eqi2 (show zI (144 * 0 + 12 * ((yy : Nat) : Int) + ((xx : Nat) : Int)) = nI (((144 * 0 + 12 * ((yy : Nat) : Int) + ((xx : Nat) : Int))).toNat) from x_toNat (zI_toInt (by omega) (by omega)) (by omega)) ?_
                        refine x_iastE hx hb hK hP hD hS 1 0 rfl rfl (k := ((144 * 0 + 12 * ((yy : Nat) : Int) + ((xx : Nat) : Int))).toNat) (g := mkM (upd g (yy * 12 + xx) (gtZ D1 (((xx : Nat) : Int) - Cs) (((yy : Nat) : Int) - Rs))) S1 R1 N1 K1 L1) (upM_D (j := (yy * 12 + xx)) (by omega) (by omega)) (by omega) (by decide) dX5_shifts_126 (fun H locs hP hD hS => ?_)
                        have hP : va_P D vwCl [(mm, .inr (5, [.ref mn, .ref mh, .int kp, .ref ms, .int fl, .ref mr, .ref md, .ref mo, .ref mc, .int ty, .ref mt, .int at9, .int nu, .ref mq])), (mn, .inl (cI, 578, .inl (mkM (upd g (yy * 12 + xx) (gtZ D1 (((xx : Nat) : Int) - Cs) (((yy : Nat) : Int) - Rs))) S1 R1 N1 K1 L1))), (mo, .inl (cI, 144, .inl (f)))] H := hP
                        have hD : va_D (Ar) [(mm, .inr (5, [.ref mn, .ref mh, .int kp, .ref ms, .int fl, .ref mr, .ref md, .ref mo, .ref mc, .int ty, .ref mt, .int at9, .int nu, .ref mq])), (mn, .inl (cI, 578, .inl (mkM (upd g (yy * 12 + xx) (gtZ D1 (((xx : Nat) : Int) - Cs) (((yy : Nat) : Int) - Rs))) S1 R1 N1 K1 L1))), (mo, .inl (cI, 144, .inl (f)))] := hD
                        refine lv_iinc (v := nI (xx + 1)) (lv' := [(5, .int (nI (xx + 1))), (3, .int (n + 0)), (6, .int (gtZ D1 (((xx : Nat) : Int) - Cs) (((yy : Nat) : Int) - Rs))), (0, .ref mm), (1, .int cs), (2, .int rs), (4, .int (nI yy))]) hx hb dX5_shifts_127 hl (k := 6) rfl (nI_add _ _) (by decide) rfl (fun ls hl => ?_)
                        refine lv_goto (tgt := 42) hx hb dX5_shifts_130 (by decide) ?_
                        exact ih42 (xx + 1) (n + 0) (upd g (yy * 12 + xx) (gtZ D1 (((xx : Nat) : Int) - Cs) (((yy : Nat) : Int) - Rs))) (by first | omega | assumption | rfl) (by rw [show yy * 12 + (xx + 1) = (yy * 12 + xx) + 1 by omega, sm_s, ← hi42_1, mvN_at (by omega) (by omega)]; first | rw [if_pos c_102] | rw [if_neg c_102]) (by rw [hi42_2]; exact Eq.trans (ptZ_in (by omega) (by omega)).symm (mvF_put (by omega) (by omega))) (by omega) H locs (hP.sub [0, 1, 2] rfl) (hD.sub [0, 1, 2] (by decide) rfl) hS ls (lv_sub hl [3, 4, 5, 1, 6, 0] rfl)
              exact L42 _ 0 n g (by first | omega | assumption | rfl) hi32_1 hi32_2 (Nat.lt_succ_self _) H locs (hP.sub [0, 1, 2] rfl) (hD.sub [0, 1, 2] (by decide) rfl) hS ls (lv_sub hl [1, 2, 3, 4, 5, 0] rfl)
        exact L32 _ 0 0 D1 (by first | omega | assumption | rfl) rfl mvF_0 (Nat.lt_succ_self _) H locs (hP.sub [0, 1, 2] rfl) (hD.sub [0, 1, 2] (by decide) rfl) hS ls (lv_sub hl [2, 3, 4, 1, 0] rfl)
      · skip
        refine lv_aload_n hx hb dX5_shifts_9 rfl (lv_at hl 0 rfl) ?_
        refine va_get (v := .ref mo) (D := D) (ci := 5) (C := RX5) (T := TX5) (N := 14) hx hb hts (by decide +kernel) hown hK hP 0 rfl rfl 7 (by decide) (hts (.fieldLink RX5 25 "SpiralFramesModel" "old" "[I") (by decide +kernel)) (fun _ h9 => h9) rfl dX5_shifts_10 ?_
        refine lv_iload_n hx hb dX5_shifts_13 rfl (lv_at hl 3 rfl) ?_
        refine lv_aload_n hx hb dX5_shifts_14 rfl (lv_at hl 0 rfl) ?_
        refine va_get (v := .ref mn) (D := D) (ci := 5) (C := RX5) (T := TX5) (N := 14) hx hb hts (by decide +kernel) hown hK hP 0 rfl rfl 0 (by decide) (hts (.fieldLink RX5 7 "SpiralFramesModel" "now" "[I") (by decide +kernel)) (fun _ h9 => h9) rfl dX5_shifts_15 ?_
        refine lv_iload_n hx hb dX5_shifts_18 rfl (lv_at hl 3 rfl) ?_
        refine x_iald hx hb hK hP 1 0 rfl rfl (k := j) (by omega) (by decide) dX5_shifts_19 ?_
        refine x_eqi (show (mkM D1 S1 R1 N1 K1 L1) j = D1 j from (mkM_D (j := j) (by omega) (by omega))) ?_
        refine x_iast hx hb hK hP hD hS 2 0 rfl rfl (k := j) (by omega) (by decide) dX5_shifts_20 (fun H locs hP hD hS => ?_)
        have hP : va_P D vwCl [(mm, .inr (5, [.ref mn, .ref mh, .int kp, .ref ms, .int fl, .ref mr, .ref md, .ref mo, .ref mc, .int ty, .ref mt, .int at9, .int nu, .ref mq])), (mn, .inl (cI, 578, .inl (mkM D1 S1 R1 N1 K1 L1))), (mo, .inl (cI, 144, .inl (upd f j (D1 j))))] H := hP
        have hD : va_D (Ar) [(mm, .inr (5, [.ref mn, .ref mh, .int kp, .ref ms, .int fl, .ref mr, .ref md, .ref mo, .ref mc, .int ty, .ref mt, .int at9, .int nu, .ref mq])), (mn, .inl (cI, 578, .inl (mkM D1 S1 R1 N1 K1 L1))), (mo, .inl (cI, 144, .inl (upd f j (D1 j))))] := hD
        refine lv_iinc (v := nI (j + 1)) (lv' := [(3, .int (nI (j + 1))), (0, .ref mm), (1, .int cs), (2, .int rs)]) hx hb dX5_shifts_21 hl (k := 3) rfl (nI_add _ _) (by decide) rfl (fun ls hl => ?_)
        refine lv_goto (tgt := 2) hx hb dX5_shifts_24 (by decide) ?_
        exact ih2 (j + 1) (upd f j (D1 j)) (by first | omega | assumption | rfl) (by rw [hi2_1]; exact cpF_s (by omega) rfl) (by omega) H locs (hP.sub [0, 1, 2] rfl) (hD.sub [0, 1, 2] (by decide) rfl) hS ls (lv_sub hl [1, 2, 3, 0] rfl)
  exact L2 _ 0 ol (by first | omega | assumption | rfl) cpF_0 (Nat.lt_succ_self _) s.heap [] (hP.sub [0, 1, 2] rfl) (hD.sub [0, 1, 2] (by decide) rfl) hS ls (lv_sub hl [1, 2, 3, 0] rfl)
set_option maxHeartbeats 4000000 in
set_option maxRecDepth 100000 in
theorem c_X5_set (l : Launch) (D : va_G) (cI cC cS : ClassId) (tt : Nat → Nat) (sz : Nat) (mm : Nat) (mn : Nat) (mh : Nat) (ms : Nat) (mr : Nat) (md : Nat) (mo : Nat) (mc : Nat) (mt : Nat) (mq : Nat) (fl : Int32) (ty : Int32) (at9 : Int32) (nu : Int32) (D1 : Nat → Int32) (S1 : Nat → Int32) (R1 : Nat → Int32) (N1 : Nat → Int32) (K1 : Int32) (L1 : Nat → Int32) (k : Nat) (Hs : Nat → Int32) (cx : Int32) (X : Int) (hX_ : cx.toInt = X) (cy : Int32) (Y : Int) (hY_ : cy.toInt = Y) (v : Int32) (Vv : Int) (hVv_ : v.toInt = Vv) (hh0 : k ≤ 4) : Met l yX5_set wsX5_set ({ frames := 2, cells := 0, slots := 0, locals := 43 } : Room) (x_PW D cI cC cS tt [(mm, .inr (5, [.ref mn, .ref mh, .int (nI k), .ref ms, .int fl, .ref mr, .ref md, .ref mo, .ref mc, .int ty, .ref mt, .int at9, .int nu, .ref mq])), (mn, .inl (cI, 578, .inl (mkM D1 S1 R1 N1 K1 L1))), (mh, .inl (cI, 2312, .inl (Hs)))] sz [.ref mm, .int cx, .int cy, .int v]) (x_QWi D [(mm, .inr (5, [.ref mn, .ref mh, .int (nI k), .ref ms, .int fl, .ref mr, .ref md, .ref mo, .ref mc, .int ty, .ref mt, .int at9, .int nu, .ref mq])), (mn, .inl (cI, 578, .inl (mkM D1 S1 R1 N1 K1 L1))), (mh, .inl (cI, 2312, .inl (Hs)))] sz (fun (r : Int32) (w : va_W) => (r = (setR D1 X Y Vv) ∧ w = [(mm, .inr (5, [.ref mn, .ref mh, .int (nI k), .ref ms, .int fl, .ref mr, .ref md, .ref mo, .ref mc, .int ty, .ref mt, .int at9, .int nu, .ref mq])), (mn, .inl (cI, 578, .inl (mkM D1 S1 R1 N1 K1 L1))), (mh, .inl (cI, 2312, .inl (Hs)))] ∧ (¬ setA D1 X Y Vv)) ∨ (r = (setR D1 X Y Vv) ∧ w = [(mm, .inr (5, [.ref mn, .ref mh, .int (nI (min (k + 1) 4)), .ref ms, .int fl, .ref mr, .ref md, .ref mo, .ref mc, .int ty, .ref mt, .int at9, .int nu, .ref mq])), (mn, .inl (cI, 578, .inl (mkM (ptZ D1 X Y v) S1 R1 N1 K1 L1))), (mh, .inl (cI, 2312, .inl (rcH Hs (mkM D1 S1 R1 N1 K1 L1) k)))] ∧ (setA D1 X Y Vv)))) 0 0 (va_A [(mm, .inr (5, [.ref mn, .ref mh, .int (nI k), .ref ms, .int fl, .ref mr, .ref md, .ref mo, .ref mc, .int ty, .ref mt, .int at9, .int nu, .ref mq])), (mn, .inl (cI, 578, .inl (mkM D1 S1 R1 N1 K1 L1))), (mh, .inl (cI, 2312, .inl (Hs)))] sz) := by
  refine Met.ofW (cc := cX5_set) (maxL := 5) (ret := (some .int)) (by decide) rfl ?_
  intro p e s m args below meth c s₁ hBd hml hv
  obtain ⟨rfl, hsz, hP, hK, hD0, hE0⟩ := hv
  have hx := hBd.exec
  have hb := hBd.bytes
  have hr := hBd.returns
  have hts := atoms_spec (ws := wsX5_set) hBd.pre
  have hown : s.vm.findClass RX5 = some m.cls := findClass_of_methodNamed hBd.named
  have hlocks := hBd.notSynchronized
  subst hsz
  obtain ⟨Ar, hAe⟩ : ∃ Ar : Nat → Prop, Ar = va_A [(mm, .inr (5, [.ref mn, .ref mh, .int (nI k), .ref ms, .int fl, .ref mr, .ref md, .ref mo, .ref mc, .int ty, .ref mt, .int at9, .int nu, .ref mq])), (mn, .inl (cI, 578, .inl (mkM D1 S1 R1 N1 K1 L1))), (mh, .inl (cI, 2312, .inl (Hs)))] s.heap.size := ⟨_, rfl⟩
  have hD : va_D Ar [(mm, .inr (5, [.ref mn, .ref mh, .int (nI k), .ref ms, .int fl, .ref mr, .ref md, .ref mo, .ref mc, .int ty, .ref mt, .int at9, .int nu, .ref mq])), (mn, .inl (cI, 578, .inl (mkM D1 S1 R1 N1 K1 L1))), (mh, .inl (cI, 2312, .inl (Hs)))] := by rw [hAe]; exact hD0.self
  have hA : ∀ q : Nat, s.heap.size ≤ q → Ar q := fun q h => by rw [hAe]; exact Or.inr h
  have hE : x_E tt Ar s := by rw [hAe]; exact hE0
  have hS : va_S Ar s.heap s.heap [] := va_S.rf
  have hl := lv_entry ([.ref mm, .int cx, .int cy, .int v]) (n := 5) (Nat.le_of_ble_eq_true rfl)
  rw [lg_entry_eq]
  generalize (lg_sl ([.ref mm, .int cx, .int cy, .int v]) ++ List.replicate (5 - (lg_sl ([.ref mm, .int cx, .int cy, .int v])).length) Slot.unset).toArray = ls at hl ⊢
  have hl : lv_has ls 5 [(0, .ref mm), (1, .int cx), (2, .int cy), (3, .int v)] := hl
  refine x_genQ (fun Q hQ => ?_)
  refine lv_iload_n hx hb dX5_set_0 rfl (lv_at hl 1 rfl) ?_
  refine lv_iload_n hx hb dX5_set_1 rfl (lv_at hl 2 rfl) ?_
  refine x_callR (va_runS (As := [.int cx, .int cy]) (rest := []) ⟨hx, hb, hml, hown, hts⟩ (c_X5_noPoint l D cI cC cS tt cx X hX_ cy Y hY_) (va_cwS 2 hts gX5_set_X5_noPoint rfl rfl rfl (by decide +kernel) ⟨Nat.le_of_ble_eq_true rfl, Nat.le_of_ble_eq_true rfl⟩) ⟨x_blindR, x_preR (hP.sub (ws' := []) [] rfl) hK hE hS⟩ rfl rfl hl.1 rfl (lv_room (Nat.le_of_ble_eq_true rfl)) dX5_set_2 ⟨(Nat.le_of_ble_eq_true rfl), (Nat.le_of_ble_eq_true rfl)⟩) ?_
  refine x_ifB_eq (tgt := 10) hx hb dX5_set_5 (by decide) (fun c_5 => ?_) (fun c_5 => ?_)
  · skip
    refine lv_iload_n hx hb dX5_set_10 rfl (lv_at hl 3 rfl) ?_
    refine lv_iconst (v := 0) hx hb dX5_set_11 (by decide) ?_
    refine lv_bipush (v := 15) hx hb dX5_set_12 (by decide) ?_
    refine x_callR (va_runS (As := [.int v, .int 0, .int 15]) (rest := []) ⟨hx, hb, hml, hown, hts⟩ (c_X5_in l D cI cC cS tt v Vv hVv_ 0 0 (show (0 : Int32).toInt = 0 from by decide) 15 15 (show (15 : Int32).toInt = 15 from by decide)) (va_cwS 3 hts gX5_set_X5_in rfl rfl rfl (by decide +kernel) ⟨Nat.le_of_ble_eq_true rfl, Nat.le_of_ble_eq_true rfl⟩) ⟨x_blindR, x_preR (hP.sub (ws' := []) [] rfl) hK hE hS⟩ rfl rfl hl.1 rfl (lv_room (Nat.le_of_ble_eq_true rfl)) dX5_set_14 ⟨(Nat.le_of_ble_eq_true rfl), (Nat.le_of_ble_eq_true rfl)⟩) ?_
    refine x_ifB_ne (tgt := 23) hx hb dX5_set_17 (by decide) (fun c_17 => ?_) (fun c_17 => ?_)
    · skip
      refine lv_aload_n hx hb dX5_set_23 rfl (lv_at hl 0 rfl) ?_
      refine va_get (v := .ref mn) (D := D) (ci := 5) (C := RX5) (T := TX5) (N := 14) hx hb hts (by decide +kernel) hown hK hP 0 rfl rfl 0 (by decide) (hts (.fieldLink RX5 7 "SpiralFramesModel" "now" "[I") (by decide +kernel)) (fun _ h9 => h9) rfl dX5_set_24 ?_
      refine lv_iconst (v := 0) hx hb dX5_set_27 (by decide) ?_
      refine lv_iload_n hx hb dX5_set_28 rfl (lv_at hl 1 rfl) ?_
      refine lv_iload_n hx hb dX5_set_29 rfl (lv_at hl 2 rfl) ?_
      refine x_callR (va_runS (As := [.int 0, .int cx, .int cy]) (rest := [.ref mn]) ⟨hx, hb, hml, hown, hts⟩ (c_X5_cell l D cI cC cS tt 0 0 (show (0 : Int32).toInt = 0 from by decide) cx X hX_ cy Y hY_ (by first | omega | assumption | decide)) (va_cwS 3 hts gX5_set_X5_cell rfl rfl rfl (by decide +kernel) ⟨Nat.le_of_ble_eq_true rfl, Nat.le_of_ble_eq_true rfl⟩) ⟨x_blindR, x_preR (hP.sub (ws' := []) [] rfl) hK hE hS⟩ rfl rfl hl.1 rfl (lv_room (Nat.le_of_ble_eq_true rfl)) dX5_set_30 ⟨(Nat.le_of_ble_eq_true rfl), (Nat.le_of_ble_eq_true rfl)⟩) ?_
      refine x_eqi (show zI (144 * 0 + 12 * Y + X) = nI (((144 * 0 + 12 * Y + X)).toNat) from x_toNat (zI_toInt (by omega) (by omega)) (by omega)) ?_
      refine x_iald hx hb hK hP 1 0 rfl rfl (k := ((144 * 0 + 12 * Y + X)).toNat) (by omega) (by decide) dX5_set_33 ?_
      refine x_eqi (show (mkM D1 S1 R1 N1 K1 L1) (((144 * 0 + 12 * Y + X)).toNat) = gtZ D1 X Y from (by unfold gtZ; rw [if_pos (by omega)]; exact mkM_D (j := (Y * 12 + X).toNat) (by omega) (by omega))) ?_
      refine lv_istore (lv' := [(4, .int (gtZ D1 X Y)), (0, .ref mm), (1, .int cx), (2, .int cy), (3, .int v)]) hx hb dX5_set_34 hl (by decide) rfl (fun ls hl => ?_)
      refine lv_iload hx hb dX5_set_36 (lv_at hl 0 rfl) ?_
      refine lv_iload_n hx hb dX5_set_38 rfl (lv_at hl 4 rfl) ?_
      refine x_icmp_ne (tgt := 45) hx hb dX5_set_39 (by decide) (X := (gtZ D1 X Y).toInt) rfl (Y := Vv) hVv_ (fun c_39 => ?_) (fun c_39 => ?_)
      · skip
        refine lv_aload_n hx hb dX5_set_45 rfl (lv_at hl 1 rfl) ?_
        refine x_callWv (wc := [(mm, .inr (5, [.ref mn, .ref mh, .int (nI k), .ref ms, .int fl, .ref mr, .ref md, .ref mo, .ref mc, .int ty, .ref mt, .int at9, .int nu, .ref mq])), (mn, .inl (cI, 578, .inl (mkM D1 S1 R1 N1 K1 L1))), (mh, .inl (cI, 2312, .inl (Hs)))]) (wr := []) (va_runV (As := []) (rest := []) ⟨hx, hb, hml, hown, hts⟩ (c_X5_record l D cI cC cS tt s.heap.size mm mn mh ms mr md mo mc mt mq fl ty at9 nu k (mkM D1 S1 R1 N1 K1 L1) Hs (by first | omega | assumption | decide)) (cwV 0 hts gX5_set_X5_record rfl rfl rfl (by decide +kernel) ⟨Nat.le_of_ble_eq_true rfl, Nat.le_of_ble_eq_true rfl⟩) ⟨x_blindW, va_recv hK hP (ci := 5) (q0 := 0) rfl rfl, x_preW hP hD hK hE hS hA [0, 1, 2] rfl (by decide)⟩ rfl rfl hl.1 rfl (lv_room (Nat.le_of_ble_eq_true rfl)) dX5_set_46 ⟨(Nat.le_of_ble_eq_true rfl), (Nat.le_of_ble_eq_true rfl)⟩) hP hD hS hA [0, 1, 2] [] rfl rfl (by decide) (by decide) (fun w1 H locs hw hP hD hS => ?_)
        obtain rfl := hw
        have hP : va_P D vwCl [(mm, .inr (5, [.ref mn, .ref mh, .int (nI (min (k + 1) 4)), .ref ms, .int fl, .ref mr, .ref md, .ref mo, .ref mc, .int ty, .ref mt, .int at9, .int nu, .ref mq])), (mn, .inl (cI, 578, .inl (mkM D1 S1 R1 N1 K1 L1))), (mh, .inl (cI, 2312, .inl (rcH Hs (mkM D1 S1 R1 N1 K1 L1) k)))] H := hP
        have hD : va_D (Ar) [(mm, .inr (5, [.ref mn, .ref mh, .int (nI (min (k + 1) 4)), .ref ms, .int fl, .ref mr, .ref md, .ref mo, .ref mc, .int ty, .ref mt, .int at9, .int nu, .ref mq])), (mn, .inl (cI, 578, .inl (mkM D1 S1 R1 N1 K1 L1))), (mh, .inl (cI, 2312, .inl (rcH Hs (mkM D1 S1 R1 N1 K1 L1) k)))] := hD
        refine lv_aload_n hx hb dX5_set_49 rfl (lv_at hl 1 rfl) ?_
        refine va_get (v := .ref mn) (D := D) (ci := 5) (C := RX5) (T := TX5) (N := 14) hx hb hts (by decide +kernel) hown hK hP 0 rfl rfl 0 (by decide) (hts (.fieldLink RX5 7 "SpiralFramesModel" "now" "[I") (by decide +kernel)) (fun _ h9 => h9) rfl dX5_set_50 ?_
        refine lv_iconst (v := 0) hx hb dX5_set_53 (by decide) ?_
        refine lv_iload_n hx hb dX5_set_54 rfl (lv_at hl 2 rfl) ?_
        refine lv_iload_n hx hb dX5_set_55 rfl (lv_at hl 3 rfl) ?_
        refine x_callR (va_runS (As := [.int 0, .int cx, .int cy]) (rest := [.ref mn]) ⟨hx, hb, hml, hown, hts⟩ (c_X5_cell l D cI cC cS tt 0 0 (show (0 : Int32).toInt = 0 from by decide) cx X hX_ cy Y hY_ (by first | omega | assumption | decide)) (va_cwS 3 hts gX5_set_X5_cell rfl rfl rfl (by decide +kernel) ⟨Nat.le_of_ble_eq_true rfl, Nat.le_of_ble_eq_true rfl⟩) ⟨x_blindR, x_preR (hP.sub (ws' := []) [] rfl) hK hE hS⟩ rfl rfl hl.1 rfl (lv_room (Nat.le_of_ble_eq_true rfl)) dX5_set_56 ⟨(Nat.le_of_ble_eq_true rfl), (Nat.le_of_ble_eq_true rfl)⟩) ?_
        refine lv_iload_n hx hb dX5_set_59 rfl (lv_at hl 4 rfl) ?_
        refine x_eqi2 (show zI (144 * 0 + 12 * Y + X) = nI (((144 * 0 + 12 * Y + X)).toNat) from x_toNat (zI_toInt (by omega) (by omega)) (by omega)) ?_
        refine x_iastE hx hb hK hP hD hS 1 0 rfl rfl (k := ((144 * 0 + 12 * Y + X)).toNat) (g := mkM (upd D1 ((Y * 12 + X).toNat) v) S1 R1 N1 K1 L1) (upM_D (j := ((Y * 12 + X).toNat)) (by omega) (by omega)) (by omega) (by decide) dX5_set_60 (fun H locs hP hD hS => ?_)
        have hP : va_P D vwCl [(mm, .inr (5, [.ref mn, .ref mh, .int (nI (min (k + 1) 4)), .ref ms, .int fl, .ref mr, .ref md, .ref mo, .ref mc, .int ty, .ref mt, .int at9, .int nu, .ref mq])), (mn, .inl (cI, 578, .inl (mkM (upd D1 ((Y * 12 + X).toNat) v) S1 R1 N1 K1 L1))), (mh, .inl (cI, 2312, .inl (rcH Hs (mkM D1 S1 R1 N1 K1 L1) k)))] H := hP
        have hD : va_D (Ar) [(mm, .inr (5, [.ref mn, .ref mh, .int (nI (min (k + 1) 4)), .ref ms, .int fl, .ref mr, .ref md, .ref mo, .ref mc, .int ty, .ref mt, .int at9, .int nu, .ref mq])), (mn, .inl (cI, 578, .inl (mkM (upd D1 ((Y * 12 + X).toNat) v) S1 R1 N1 K1 L1))), (mh, .inl (cI, 2312, .inl (rcH Hs (mkM D1 S1 R1 N1 K1 L1) k)))] := hD
        refine lv_iload hx hb dX5_set_61 (lv_at hl 0 rfl) ?_
        refine x_iretW (w := [(mm, .inr (5, [.ref mn, .ref mh, .int (nI (min (k + 1) 4)), .ref ms, .int fl, .ref mr, .ref md, .ref mo, .ref mc, .int ty, .ref mt, .int at9, .int nu, .ref mq])), (mn, .inl (cI, 578, .inl (mkM (upd D1 ((Y * 12 + X).toNat) v) S1 R1 N1 K1 L1))), (mh, .inl (cI, 2312, .inl (rcH Hs (mkM D1 S1 R1 N1 K1 L1) k)))]) hQ hAe hx hb hr hlocks (hP.sub [0, 1, 2] rfl) (hD.sub [0, 1, 2] (by decide) rfl) hS ?_ dX5_set_63
        refine Or.inr (?_)
        exact ⟨by unfold setR; rw [if_pos (by omega), if_pos c_17, if_neg c_39], by rw [show ptZ D1 X Y v = upd D1 (Y * 12 + X).toNat v from by unfold ptZ; rw [if_pos (by omega)]], by omega⟩
      · skip
        refine lv_bipush (v := (-5)) hx hb dX5_set_42 (by decide) ?_
        refine x_iretW (w := [(mm, .inr (5, [.ref mn, .ref mh, .int (nI k), .ref ms, .int fl, .ref mr, .ref md, .ref mo, .ref mc, .int ty, .ref mt, .int at9, .int nu, .ref mq])), (mn, .inl (cI, 578, .inl (mkM D1 S1 R1 N1 K1 L1))), (mh, .inl (cI, 2312, .inl (Hs)))]) hQ hAe hx hb hr hlocks (hP.sub [0, 1, 2] rfl) (hD.sub [0, 1, 2] (by decide) rfl) hS ?_ dX5_set_44
        refine Or.inl ?_
        exact ⟨by unfold setR; rw [if_pos (by omega), if_pos c_17, if_pos c_39], rfl, by omega⟩
    · skip
      refine lv_bipush (v := (-2)) hx hb dX5_set_20 (by decide) ?_
      refine x_iretW (w := [(mm, .inr (5, [.ref mn, .ref mh, .int (nI k), .ref ms, .int fl, .ref mr, .ref md, .ref mo, .ref mc, .int ty, .ref mt, .int at9, .int nu, .ref mq])), (mn, .inl (cI, 578, .inl (mkM D1 S1 R1 N1 K1 L1))), (mh, .inl (cI, 2312, .inl (Hs)))]) hQ hAe hx hb hr hlocks (hP.sub [0, 1, 2] rfl) (hD.sub [0, 1, 2] (by decide) rfl) hS ?_ dX5_set_22
      refine Or.inl ?_
      exact ⟨by unfold setR; rw [if_pos (by omega), if_neg c_17], rfl, by omega⟩
  · skip
    refine lv_iconst (v := (-1)) hx hb dX5_set_8 (by decide) ?_
    refine x_iretW (w := [(mm, .inr (5, [.ref mn, .ref mh, .int (nI k), .ref ms, .int fl, .ref mr, .ref md, .ref mo, .ref mc, .int ty, .ref mt, .int at9, .int nu, .ref mq])), (mn, .inl (cI, 578, .inl (mkM D1 S1 R1 N1 K1 L1))), (mh, .inl (cI, 2312, .inl (Hs)))]) hQ hAe hx hb hr hlocks (hP.sub [0, 1, 2] rfl) (hD.sub [0, 1, 2] (by decide) rfl) hS ?_ dX5_set_9
    refine Or.inl ?_
    exact ⟨by unfold setR; rw [if_neg (by omega)], rfl, by omega⟩
set_option maxHeartbeats 4000000 in
set_option maxRecDepth 100000 in
theorem c_X5_fill (l : Launch) (D : va_G) (cI cC cS : ClassId) (tt : Nat → Nat) (sz : Nat) (mm : Nat) (mn : Nat) (mh : Nat) (ms : Nat) (mr : Nat) (md : Nat) (mo : Nat) (mc : Nat) (mt : Nat) (mq : Nat) (fl : Int32) (ty : Int32) (at9 : Int32) (nu : Int32) (D1 : Nat → Int32) (S1 : Nat → Int32) (R1 : Nat → Int32) (N1 : Nat → Int32) (K1 : Int32) (L1 : Nat → Int32) (k : Nat) (Hs : Nat → Int32) (cx : Int32) (X : Int) (hX_ : cx.toInt = X) (cy : Int32) (Y : Int) (hY_ : cy.toInt = Y) (cw : Int32) (Wd : Int) (hWd_ : cw.toInt = Wd) (ch : Int32) (Hg : Int) (hHg_ : ch.toInt = Hg) (v : Int32) (Vv : Int) (hVv_ : v.toInt = Vv) (hh0 : k ≤ 4) : Met l yX5_fill wsX5_fill ({ frames := 3, cells := 0, slots := 0, locals := 67 } : Room) (x_PW D cI cC cS tt [(mm, .inr (5, [.ref mn, .ref mh, .int (nI k), .ref ms, .int fl, .ref mr, .ref md, .ref mo, .ref mc, .int ty, .ref mt, .int at9, .int nu, .ref mq])), (mn, .inl (cI, 578, .inl (mkM D1 S1 R1 N1 K1 L1))), (mh, .inl (cI, 2312, .inl (Hs)))] sz [.ref mm, .int cx, .int cy, .int cw, .int ch, .int v]) (x_QWi D [(mm, .inr (5, [.ref mn, .ref mh, .int (nI k), .ref ms, .int fl, .ref mr, .ref md, .ref mo, .ref mc, .int ty, .ref mt, .int at9, .int nu, .ref mq])), (mn, .inl (cI, 578, .inl (mkM D1 S1 R1 N1 K1 L1))), (mh, .inl (cI, 2312, .inl (Hs)))] sz (fun (r : Int32) (w : va_W) => (r = (if (bxE X Y Wd Hg Vv).toInt = 0 then fillC D1 X Y Wd Hg v else bxE X Y Wd Hg Vv) ∧ w = [(mm, .inr (5, [.ref mn, .ref mh, .int (nI k), .ref ms, .int fl, .ref mr, .ref md, .ref mo, .ref mc, .int ty, .ref mt, .int at9, .int nu, .ref mq])), (mn, .inl (cI, 578, .inl (mkM D1 S1 R1 N1 K1 L1))), (mh, .inl (cI, 2312, .inl (Hs)))] ∧ (¬ (bxE X Y Wd Hg Vv).toInt = 0)) ∨ (r = (if (bxE X Y Wd Hg Vv).toInt = 0 then fillC D1 X Y Wd Hg v else bxE X Y Wd Hg Vv) ∧ w = [(mm, .inr (5, [.ref mn, .ref mh, .int (nI (min (k + 1) 4)), .ref ms, .int fl, .ref mr, .ref md, .ref mo, .ref mc, .int ty, .ref mt, .int at9, .int nu, .ref mq])), (mn, .inl (cI, 578, .inl (mkM (fillN D1 X Y Wd Hg v) S1 R1 N1 K1 L1))), (mh, .inl (cI, 2312, .inl (rcH Hs (mkM D1 S1 R1 N1 K1 L1) k)))] ∧ ((bxE X Y Wd Hg Vv).toInt = 0)))) 0 0 (va_A [(mm, .inr (5, [.ref mn, .ref mh, .int (nI k), .ref ms, .int fl, .ref mr, .ref md, .ref mo, .ref mc, .int ty, .ref mt, .int at9, .int nu, .ref mq])), (mn, .inl (cI, 578, .inl (mkM D1 S1 R1 N1 K1 L1))), (mh, .inl (cI, 2312, .inl (Hs)))] sz) := by
  refine Met.ofW (cc := cX5_fill) (maxL := 7) (ret := (some .int)) (by decide) rfl ?_
  intro p e s m args below meth c s₁ hBd hml hv
  obtain ⟨rfl, hsz, hP, hK, hD0, hE0⟩ := hv
  have hx := hBd.exec
  have hb := hBd.bytes
  have hr := hBd.returns
  have hts := atoms_spec (ws := wsX5_fill) hBd.pre
  have hown : s.vm.findClass RX5 = some m.cls := findClass_of_methodNamed hBd.named
  have hlocks := hBd.notSynchronized
  subst hsz
  obtain ⟨Ar, hAe⟩ : ∃ Ar : Nat → Prop, Ar = va_A [(mm, .inr (5, [.ref mn, .ref mh, .int (nI k), .ref ms, .int fl, .ref mr, .ref md, .ref mo, .ref mc, .int ty, .ref mt, .int at9, .int nu, .ref mq])), (mn, .inl (cI, 578, .inl (mkM D1 S1 R1 N1 K1 L1))), (mh, .inl (cI, 2312, .inl (Hs)))] s.heap.size := ⟨_, rfl⟩
  have hD : va_D Ar [(mm, .inr (5, [.ref mn, .ref mh, .int (nI k), .ref ms, .int fl, .ref mr, .ref md, .ref mo, .ref mc, .int ty, .ref mt, .int at9, .int nu, .ref mq])), (mn, .inl (cI, 578, .inl (mkM D1 S1 R1 N1 K1 L1))), (mh, .inl (cI, 2312, .inl (Hs)))] := by rw [hAe]; exact hD0.self
  have hA : ∀ q : Nat, s.heap.size ≤ q → Ar q := fun q h => by rw [hAe]; exact Or.inr h
  have hE : x_E tt Ar s := by rw [hAe]; exact hE0
  have hS : va_S Ar s.heap s.heap [] := va_S.rf
  have hl := lv_entry ([.ref mm, .int cx, .int cy, .int cw, .int ch, .int v]) (n := 7) (Nat.le_of_ble_eq_true rfl)
  rw [lg_entry_eq]
  generalize (lg_sl ([.ref mm, .int cx, .int cy, .int cw, .int ch, .int v]) ++ List.replicate (7 - (lg_sl ([.ref mm, .int cx, .int cy, .int cw, .int ch, .int v])).length) Slot.unset).toArray = ls at hl ⊢
  have hl : lv_has ls 7 [(0, .ref mm), (1, .int cx), (2, .int cy), (3, .int cw), (4, .int ch), (5, .int v)] := hl
  refine x_genQ (fun Q hQ => ?_)
  refine lv_iload_n hx hb dX5_fill_0 rfl (lv_at hl 1 rfl) ?_
  refine lv_iload_n hx hb dX5_fill_1 rfl (lv_at hl 2 rfl) ?_
  refine lv_iload_n hx hb dX5_fill_2 rfl (lv_at hl 3 rfl) ?_
  refine lv_iload hx hb dX5_fill_3 (lv_at hl 4 rfl) ?_
  refine lv_iload hx hb dX5_fill_5 (lv_at hl 5 rfl) ?_
  refine x_callR (va_runS (As := [.int cx, .int cy, .int cw, .int ch, .int v]) (rest := []) ⟨hx, hb, hml, hown, hts⟩ (c_X5_wrongFill l D cI cC cS tt cx X hX_ cy Y hY_ cw Wd hWd_ ch Hg hHg_ v Vv hVv_) (va_cwS 5 hts gX5_fill_X5_wrongFill rfl rfl rfl (by decide +kernel) ⟨Nat.le_of_ble_eq_true rfl, Nat.le_of_ble_eq_true rfl⟩) ⟨x_blindR, x_preR (hP.sub (ws' := []) [] rfl) hK hE hS⟩ rfl rfl hl.1 rfl (lv_room (Nat.le_of_ble_eq_true rfl)) dX5_fill_7 ⟨(Nat.le_of_ble_eq_true rfl), (Nat.le_of_ble_eq_true rfl)⟩) ?_
  refine lv_istore (lv' := [(6, .int (bxE X Y Wd Hg Vv)), (0, .ref mm), (1, .int cx), (2, .int cy), (3, .int cw), (4, .int ch), (5, .int v)]) hx hb dX5_fill_10 hl (by decide) rfl (fun ls hl => ?_)
  refine lv_iload hx hb dX5_fill_12 (lv_at hl 0 rfl) ?_
  refine x_if_eq (tgt := 20) hx hb dX5_fill_14 (by decide) (X := (bxE X Y Wd Hg Vv).toInt) rfl (fun c_14 => ?_) (fun c_14 => ?_)
  · skip
    have hbx := bxE_0 c_14
    refine lv_aload_n hx hb dX5_fill_20 rfl (lv_at hl 1 rfl) ?_
    refine x_callWv (wc := [(mm, .inr (5, [.ref mn, .ref mh, .int (nI k), .ref ms, .int fl, .ref mr, .ref md, .ref mo, .ref mc, .int ty, .ref mt, .int at9, .int nu, .ref mq])), (mn, .inl (cI, 578, .inl (mkM D1 S1 R1 N1 K1 L1))), (mh, .inl (cI, 2312, .inl (Hs)))]) (wr := []) (va_runV (As := []) (rest := []) ⟨hx, hb, hml, hown, hts⟩ (c_X5_record l D cI cC cS tt s.heap.size mm mn mh ms mr md mo mc mt mq fl ty at9 nu k (mkM D1 S1 R1 N1 K1 L1) Hs (by first | omega | assumption | decide)) (cwV 0 hts gX5_fill_X5_record rfl rfl rfl (by decide +kernel) ⟨Nat.le_of_ble_eq_true rfl, Nat.le_of_ble_eq_true rfl⟩) ⟨x_blindW, va_recv hK hP (ci := 5) (q0 := 0) rfl rfl, x_preW hP hD hK hE hS hA [0, 1, 2] rfl (by decide)⟩ rfl rfl hl.1 rfl (lv_room (Nat.le_of_ble_eq_true rfl)) dX5_fill_21 ⟨(Nat.le_of_ble_eq_true rfl), (Nat.le_of_ble_eq_true rfl)⟩) hP hD hS hA [0, 1, 2] [] rfl rfl (by decide) (by decide) (fun w1 H locs hw hP hD hS => ?_)
    obtain rfl := hw
    have hP : va_P D vwCl [(mm, .inr (5, [.ref mn, .ref mh, .int (nI (min (k + 1) 4)), .ref ms, .int fl, .ref mr, .ref md, .ref mo, .ref mc, .int ty, .ref mt, .int at9, .int nu, .ref mq])), (mn, .inl (cI, 578, .inl (mkM D1 S1 R1 N1 K1 L1))), (mh, .inl (cI, 2312, .inl (rcH Hs (mkM D1 S1 R1 N1 K1 L1) k)))] H := hP
    have hD : va_D (Ar) [(mm, .inr (5, [.ref mn, .ref mh, .int (nI (min (k + 1) 4)), .ref ms, .int fl, .ref mr, .ref md, .ref mo, .ref mc, .int ty, .ref mt, .int at9, .int nu, .ref mq])), (mn, .inl (cI, 578, .inl (mkM D1 S1 R1 N1 K1 L1))), (mh, .inl (cI, 2312, .inl (rcH Hs (mkM D1 S1 R1 N1 K1 L1) k)))] := hD
    refine lv_aload_n hx hb dX5_fill_24 rfl (lv_at hl 1 rfl) ?_
    refine lv_iload_n hx hb dX5_fill_25 rfl (lv_at hl 2 rfl) ?_
    refine x_eqi (show cx = nI (X.toNat) from x_eqN hX_ (by omega)) ?_
    refine lv_iload_n hx hb dX5_fill_26 rfl (lv_at hl 3 rfl) ?_
    refine x_eqi (show cy = nI (Y.toNat) from x_eqN hY_ (by omega)) ?_
    refine lv_iload_n hx hb dX5_fill_27 rfl (lv_at hl 4 rfl) ?_
    refine x_eqi (show cw = nI (Wd.toNat) from x_eqN hWd_ (by omega)) ?_
    refine lv_iload hx hb dX5_fill_28 (lv_at hl 5 rfl) ?_
    refine x_eqi (show ch = nI (Hg.toNat) from x_eqN hHg_ (by omega)) ?_
    refine lv_iload hx hb dX5_fill_30 (lv_at hl 6 rfl) ?_
    refine x_callWi (wc := [(mm, .inr (5, [.ref mn, .ref mh, .int (nI (min (k + 1) 4)), .ref ms, .int fl, .ref mr, .ref md, .ref mo, .ref mc, .int ty, .ref mt, .int at9, .int nu, .ref mq])), (mn, .inl (cI, 578, .inl (mkM D1 S1 R1 N1 K1 L1)))]) (wr := [(mh, .inl (cI, 2312, .inl (rcH Hs (mkM D1 S1 R1 N1 K1 L1) k)))]) (va_runV (As := [.int (nI (X.toNat)), .int (nI (Y.toNat)), .int (nI (Wd.toNat)), .int (nI (Hg.toNat)), .int v]) (rest := []) ⟨hx, hb, hml, hown, hts⟩ (c_X5_fills l D cI cC cS tt H.size mm mn mh ms mr md mo mc mt mq (nI (min (k + 1) 4)) fl ty at9 nu D1 S1 R1 N1 K1 L1 X.toNat Y.toNat Wd.toNat Hg.toNat v (by first | omega | assumption | decide) (by first | omega | assumption | decide) (by first | omega | assumption | decide) (by first | omega | assumption | decide) (by first | omega | assumption | decide) (by first | omega | assumption | decide)) (cwV 5 hts gX5_fill_X5_fills rfl rfl rfl (by decide +kernel) ⟨Nat.le_of_ble_eq_true rfl, Nat.le_of_ble_eq_true rfl⟩) ⟨x_blindW, va_recv hK hP (ci := 5) (q0 := 0) rfl rfl, x_preW hP hD hK hE hS hA [0, 1] rfl (by decide)⟩ rfl rfl hl.1 rfl (lv_room (Nat.le_of_ble_eq_true rfl)) dX5_fill_32 ⟨(Nat.le_of_ble_eq_true rfl), (Nat.le_of_ble_eq_true rfl)⟩) hP hD hS hA [0, 1] [2] rfl rfl (by decide) (by decide) (fun r_2 w1 H locs hw hP hD hS => ?_)
    obtain ⟨rfl, rfl⟩ := hw
    have hP : va_P D vwCl [(mm, .inr (5, [.ref mn, .ref mh, .int (nI (min (k + 1) 4)), .ref ms, .int fl, .ref mr, .ref md, .ref mo, .ref mc, .int ty, .ref mt, .int at9, .int nu, .ref mq])), (mn, .inl (cI, 578, .inl (mkM (bxN D1 X.toNat (min (X.toNat + Wd.toNat) 12) Y.toNat (min (Y.toNat + Hg.toNat) 12) v) S1 R1 N1 K1 L1))), (mh, .inl (cI, 2312, .inl (rcH Hs (mkM D1 S1 R1 N1 K1 L1) k)))] H := hP
    have hD : va_D (Ar) [(mm, .inr (5, [.ref mn, .ref mh, .int (nI (min (k + 1) 4)), .ref ms, .int fl, .ref mr, .ref md, .ref mo, .ref mc, .int ty, .ref mt, .int at9, .int nu, .ref mq])), (mn, .inl (cI, 578, .inl (mkM (bxN D1 X.toNat (min (X.toNat + Wd.toNat) 12) Y.toNat (min (Y.toNat + Hg.toNat) 12) v) S1 R1 N1 K1 L1))), (mh, .inl (cI, 2312, .inl (rcH Hs (mkM D1 S1 R1 N1 K1 L1) k)))] := hD
    refine x_iretW (w := [(mm, .inr (5, [.ref mn, .ref mh, .int (nI (min (k + 1) 4)), .ref ms, .int fl, .ref mr, .ref md, .ref mo, .ref mc, .int ty, .ref mt, .int at9, .int nu, .ref mq])), (mn, .inl (cI, 578, .inl (mkM (bxN D1 X.toNat (min (X.toNat + Wd.toNat) 12) Y.toNat (min (Y.toNat + Hg.toNat) 12) v) S1 R1 N1 K1 L1))), (mh, .inl (cI, 2312, .inl (rcH Hs (mkM D1 S1 R1 N1 K1 L1) k)))]) hQ hAe hx hb hr hlocks (hP.sub [0, 1, 2] rfl) (hD.sub [0, 1, 2] (by decide) rfl) hS ?_ dX5_fill_35
    refine Or.inr (?_)
    exact ⟨by rw [if_pos c_14]; rfl, rfl, c_14⟩
  · skip
    refine lv_iload hx hb dX5_fill_17 (lv_at hl 0 rfl) ?_
    refine x_iretW (w := [(mm, .inr (5, [.ref mn, .ref mh, .int (nI k), .ref ms, .int fl, .ref mr, .ref md, .ref mo, .ref mc, .int ty, .ref mt, .int at9, .int nu, .ref mq])), (mn, .inl (cI, 578, .inl (mkM D1 S1 R1 N1 K1 L1))), (mh, .inl (cI, 2312, .inl (Hs)))]) hQ hAe hx hb hr hlocks (hP.sub [0, 1, 2] rfl) (hD.sub [0, 1, 2] (by decide) rfl) hS ?_ dX5_fill_19
    refine Or.inl ?_
    exact ⟨by rw [if_neg c_14], rfl, c_14⟩
set_option maxHeartbeats 4000000 in
set_option maxRecDepth 100000 in
theorem c_X5_shift (l : Launch) (D : va_G) (cI cC cS : ClassId) (tt : Nat → Nat) (sz : Nat) (mm : Nat) (mn : Nat) (mh : Nat) (ms : Nat) (mr : Nat) (md : Nat) (mo : Nat) (mc : Nat) (mt : Nat) (mq : Nat) (fl : Int32) (ty : Int32) (at9 : Int32) (nu : Int32) (D1 : Nat → Int32) (S1 : Nat → Int32) (R1 : Nat → Int32) (N1 : Nat → Int32) (K1 : Int32) (L1 : Nat → Int32) (k : Nat) (Hs : Nat → Int32) (ol : Nat → Int32) (cs : Int32) (Cs : Int) (hCs_ : cs.toInt = Cs) (rs : Int32) (Rs : Int) (hRs_ : rs.toInt = Rs) (hh0 : k ≤ 4) : Met l yX5_shift wsX5_shift ({ frames := 3, cells := 0, slots := 0, locals := 69 } : Room) (x_PW D cI cC cS tt [(mm, .inr (5, [.ref mn, .ref mh, .int (nI k), .ref ms, .int fl, .ref mr, .ref md, .ref mo, .ref mc, .int ty, .ref mt, .int at9, .int nu, .ref mq])), (mn, .inl (cI, 578, .inl (mkM D1 S1 R1 N1 K1 L1))), (mh, .inl (cI, 2312, .inl (Hs))), (mo, .inl (cI, 144, .inl (ol)))] sz [.ref mm, .int cs, .int rs]) (x_QWi D [(mm, .inr (5, [.ref mn, .ref mh, .int (nI k), .ref ms, .int fl, .ref mr, .ref md, .ref mo, .ref mc, .int ty, .ref mt, .int at9, .int nu, .ref mq])), (mn, .inl (cI, 578, .inl (mkM D1 S1 R1 N1 K1 L1))), (mh, .inl (cI, 2312, .inl (Hs))), (mo, .inl (cI, 144, .inl (ol)))] sz (fun (r : Int32) (w : va_W) => (r = (if (stE Cs Rs).toInt = 0 then uP (mvN D1 Cs Rs) D1 else stE Cs Rs) ∧ w = [(mm, .inr (5, [.ref mn, .ref mh, .int (nI k), .ref ms, .int fl, .ref mr, .ref md, .ref mo, .ref mc, .int ty, .ref mt, .int at9, .int nu, .ref mq])), (mn, .inl (cI, 578, .inl (mkM D1 S1 R1 N1 K1 L1))), (mh, .inl (cI, 2312, .inl (Hs))), (mo, .inl (cI, 144, .inl (ol)))] ∧ (¬ (stE Cs Rs).toInt = 0)) ∨ (∃ (ol2 : Nat → Int32), r = (if (stE Cs Rs).toInt = 0 then uP (mvN D1 Cs Rs) D1 else stE Cs Rs) ∧ w = [(mm, .inr (5, [.ref mn, .ref mh, .int (nI (min (k + 1) 4)), .ref ms, .int fl, .ref mr, .ref md, .ref mo, .ref mc, .int ty, .ref mt, .int at9, .int nu, .ref mq])), (mn, .inl (cI, 578, .inl (mkM (mvN D1 Cs Rs) S1 R1 N1 K1 L1))), (mh, .inl (cI, 2312, .inl (rcH Hs (mkM D1 S1 R1 N1 K1 L1) k))), (mo, .inl (cI, 144, .inl (ol2)))] ∧ ((stE Cs Rs).toInt = 0)))) 0 0 (va_A [(mm, .inr (5, [.ref mn, .ref mh, .int (nI k), .ref ms, .int fl, .ref mr, .ref md, .ref mo, .ref mc, .int ty, .ref mt, .int at9, .int nu, .ref mq])), (mn, .inl (cI, 578, .inl (mkM D1 S1 R1 N1 K1 L1))), (mh, .inl (cI, 2312, .inl (Hs))), (mo, .inl (cI, 144, .inl (ol)))] sz) := by
  refine Met.ofW (cc := cX5_shift) (maxL := 3) (ret := (some .int)) (by decide) rfl ?_
  intro p e s m args below meth c s₁ hBd hml hv
  obtain ⟨rfl, hsz, hP, hK, hD0, hE0⟩ := hv
  have hx := hBd.exec
  have hb := hBd.bytes
  have hr := hBd.returns
  have hts := atoms_spec (ws := wsX5_shift) hBd.pre
  have hown : s.vm.findClass RX5 = some m.cls := findClass_of_methodNamed hBd.named
  have hlocks := hBd.notSynchronized
  subst hsz
  obtain ⟨Ar, hAe⟩ : ∃ Ar : Nat → Prop, Ar = va_A [(mm, .inr (5, [.ref mn, .ref mh, .int (nI k), .ref ms, .int fl, .ref mr, .ref md, .ref mo, .ref mc, .int ty, .ref mt, .int at9, .int nu, .ref mq])), (mn, .inl (cI, 578, .inl (mkM D1 S1 R1 N1 K1 L1))), (mh, .inl (cI, 2312, .inl (Hs))), (mo, .inl (cI, 144, .inl (ol)))] s.heap.size := ⟨_, rfl⟩
  have hD : va_D Ar [(mm, .inr (5, [.ref mn, .ref mh, .int (nI k), .ref ms, .int fl, .ref mr, .ref md, .ref mo, .ref mc, .int ty, .ref mt, .int at9, .int nu, .ref mq])), (mn, .inl (cI, 578, .inl (mkM D1 S1 R1 N1 K1 L1))), (mh, .inl (cI, 2312, .inl (Hs))), (mo, .inl (cI, 144, .inl (ol)))] := by rw [hAe]; exact hD0.self
  have hA : ∀ q : Nat, s.heap.size ≤ q → Ar q := fun q h => by rw [hAe]; exact Or.inr h
  have hE : x_E tt Ar s := by rw [hAe]; exact hE0
  have hS : va_S Ar s.heap s.heap [] := va_S.rf
  have hl := lv_entry ([.ref mm, .int cs, .int rs]) (n := 3) (Nat.le_of_ble_eq_true rfl)
  rw [lg_entry_eq]
  generalize (lg_sl ([.ref mm, .int cs, .int rs]) ++ List.replicate (3 - (lg_sl ([.ref mm, .int cs, .int rs])).length) Slot.unset).toArray = ls at hl ⊢
  have hl : lv_has ls 3 [(0, .ref mm), (1, .int cs), (2, .int rs)] := hl
  refine x_genQ (fun Q hQ => ?_)
  refine lv_iload_n hx hb dX5_shift_0 rfl (lv_at hl 1 rfl) ?_
  refine lv_iload_n hx hb dX5_shift_1 rfl (lv_at hl 2 rfl) ?_
  refine x_callR (va_runS (As := [.int cs, .int rs]) (rest := []) ⟨hx, hb, hml, hown, hts⟩ (c_X5_isShift l D cI cC cS tt cs Cs hCs_ rs Rs hRs_) (va_cwS 2 hts gX5_shift_X5_isShift rfl rfl rfl (by decide +kernel) ⟨Nat.le_of_ble_eq_true rfl, Nat.le_of_ble_eq_true rfl⟩) ⟨x_blindR, x_preR (hP.sub (ws' := []) [] rfl) hK hE hS⟩ rfl rfl hl.1 rfl (lv_room (Nat.le_of_ble_eq_true rfl)) dX5_shift_2 ⟨(Nat.le_of_ble_eq_true rfl), (Nat.le_of_ble_eq_true rfl)⟩) ?_
  refine x_ifB_ne (tgt := 11) hx hb dX5_shift_5 (by decide) (fun c_5 => ?_) (fun c_5 => ?_)
  · skip
    refine lv_aload_n hx hb dX5_shift_11 rfl (lv_at hl 0 rfl) ?_
    refine x_callWv (wc := [(mm, .inr (5, [.ref mn, .ref mh, .int (nI k), .ref ms, .int fl, .ref mr, .ref md, .ref mo, .ref mc, .int ty, .ref mt, .int at9, .int nu, .ref mq])), (mn, .inl (cI, 578, .inl (mkM D1 S1 R1 N1 K1 L1))), (mh, .inl (cI, 2312, .inl (Hs)))]) (wr := [(mo, .inl (cI, 144, .inl (ol)))]) (va_runV (As := []) (rest := []) ⟨hx, hb, hml, hown, hts⟩ (c_X5_record l D cI cC cS tt s.heap.size mm mn mh ms mr md mo mc mt mq fl ty at9 nu k (mkM D1 S1 R1 N1 K1 L1) Hs (by first | omega | assumption | decide)) (cwV 0 hts gX5_shift_X5_record rfl rfl rfl (by decide +kernel) ⟨Nat.le_of_ble_eq_true rfl, Nat.le_of_ble_eq_true rfl⟩) ⟨x_blindW, va_recv hK hP (ci := 5) (q0 := 0) rfl rfl, x_preW hP hD hK hE hS hA [0, 1, 2] rfl (by decide)⟩ rfl rfl hl.1 rfl (lv_room (Nat.le_of_ble_eq_true rfl)) dX5_shift_12 ⟨(Nat.le_of_ble_eq_true rfl), (Nat.le_of_ble_eq_true rfl)⟩) hP hD hS hA [0, 1, 2] [3] rfl rfl (by decide) (by decide) (fun w1 H locs hw hP hD hS => ?_)
    obtain rfl := hw
    have hP : va_P D vwCl [(mm, .inr (5, [.ref mn, .ref mh, .int (nI (min (k + 1) 4)), .ref ms, .int fl, .ref mr, .ref md, .ref mo, .ref mc, .int ty, .ref mt, .int at9, .int nu, .ref mq])), (mn, .inl (cI, 578, .inl (mkM D1 S1 R1 N1 K1 L1))), (mh, .inl (cI, 2312, .inl (rcH Hs (mkM D1 S1 R1 N1 K1 L1) k))), (mo, .inl (cI, 144, .inl (ol)))] H := hP
    have hD : va_D (Ar) [(mm, .inr (5, [.ref mn, .ref mh, .int (nI (min (k + 1) 4)), .ref ms, .int fl, .ref mr, .ref md, .ref mo, .ref mc, .int ty, .ref mt, .int at9, .int nu, .ref mq])), (mn, .inl (cI, 578, .inl (mkM D1 S1 R1 N1 K1 L1))), (mh, .inl (cI, 2312, .inl (rcH Hs (mkM D1 S1 R1 N1 K1 L1) k))), (mo, .inl (cI, 144, .inl (ol)))] := hD
    refine lv_aload_n hx hb dX5_shift_15 rfl (lv_at hl 0 rfl) ?_
    refine lv_iload_n hx hb dX5_shift_16 rfl (lv_at hl 1 rfl) ?_
    refine lv_iload_n hx hb dX5_shift_17 rfl (lv_at hl 2 rfl) ?_
    refine x_callWi (wc := [(mm, .inr (5, [.ref mn, .ref mh, .int (nI (min (k + 1) 4)), .ref ms, .int fl, .ref mr, .ref md, .ref mo, .ref mc, .int ty, .ref mt, .int at9, .int nu, .ref mq])), (mn, .inl (cI, 578, .inl (mkM D1 S1 R1 N1 K1 L1))), (mo, .inl (cI, 144, .inl (ol)))]) (wr := [(mh, .inl (cI, 2312, .inl (rcH Hs (mkM D1 S1 R1 N1 K1 L1) k)))]) (va_runV (As := [.int cs, .int rs]) (rest := []) ⟨hx, hb, hml, hown, hts⟩ (c_X5_shifts l D cI cC cS tt H.size mm mn mh ms mr md mo mc mt mq (nI (min (k + 1) 4)) fl ty at9 nu D1 S1 R1 N1 K1 L1 ol cs Cs hCs_ rs Rs hRs_ (by first | omega | assumption | decide) (by first | omega | assumption | decide) (by first | omega | assumption | decide) (by first | omega | assumption | decide)) (cwV 2 hts gX5_shift_X5_shifts rfl rfl rfl (by decide +kernel) ⟨Nat.le_of_ble_eq_true rfl, Nat.le_of_ble_eq_true rfl⟩) ⟨x_blindW, va_recv hK hP (ci := 5) (q0 := 0) rfl rfl, x_preW hP hD hK hE hS hA [0, 1, 3] rfl (by decide)⟩ rfl rfl hl.1 rfl (lv_room (Nat.le_of_ble_eq_true rfl)) dX5_shift_18 ⟨(Nat.le_of_ble_eq_true rfl), (Nat.le_of_ble_eq_true rfl)⟩) hP hD hS hA [0, 1, 3] [2] rfl rfl (by decide) (by decide) (fun r_2 w1 H locs hw hP hD hS => ?_)
    obtain ⟨ol2_3, rfl, rfl⟩ := hw
    have hP : va_P D vwCl [(mm, .inr (5, [.ref mn, .ref mh, .int (nI (min (k + 1) 4)), .ref ms, .int fl, .ref mr, .ref md, .ref mo, .ref mc, .int ty, .ref mt, .int at9, .int nu, .ref mq])), (mn, .inl (cI, 578, .inl (mkM (mvN D1 Cs Rs) S1 R1 N1 K1 L1))), (mo, .inl (cI, 144, .inl (ol2_3))), (mh, .inl (cI, 2312, .inl (rcH Hs (mkM D1 S1 R1 N1 K1 L1) k)))] H := hP
    have hD : va_D (Ar) [(mm, .inr (5, [.ref mn, .ref mh, .int (nI (min (k + 1) 4)), .ref ms, .int fl, .ref mr, .ref md, .ref mo, .ref mc, .int ty, .ref mt, .int at9, .int nu, .ref mq])), (mn, .inl (cI, 578, .inl (mkM (mvN D1 Cs Rs) S1 R1 N1 K1 L1))), (mo, .inl (cI, 144, .inl (ol2_3))), (mh, .inl (cI, 2312, .inl (rcH Hs (mkM D1 S1 R1 N1 K1 L1) k)))] := hD
    refine x_iretW (w := [(mm, .inr (5, [.ref mn, .ref mh, .int (nI (min (k + 1) 4)), .ref ms, .int fl, .ref mr, .ref md, .ref mo, .ref mc, .int ty, .ref mt, .int at9, .int nu, .ref mq])), (mn, .inl (cI, 578, .inl (mkM (mvN D1 Cs Rs) S1 R1 N1 K1 L1))), (mh, .inl (cI, 2312, .inl (rcH Hs (mkM D1 S1 R1 N1 K1 L1) k))), (mo, .inl (cI, 144, .inl (ol2_3)))]) hQ hAe hx hb hr hlocks (hP.sub [0, 1, 3, 2] rfl) (hD.sub [0, 1, 3, 2] (by decide) rfl) hS ?_ dX5_shift_21
    refine Or.inr (?_)
    have e9 : stE Cs Rs = 0 := by (unfold stE; rw [if_pos (by omega)])
    exact ⟨_, by rw [e9]; rfl, rfl, by rw [e9]; rfl⟩
  · skip
    refine lv_bipush (v := (-2)) hx hb dX5_shift_8 (by decide) ?_
    refine x_iretW (w := [(mm, .inr (5, [.ref mn, .ref mh, .int (nI k), .ref ms, .int fl, .ref mr, .ref md, .ref mo, .ref mc, .int ty, .ref mt, .int at9, .int nu, .ref mq])), (mn, .inl (cI, 578, .inl (mkM D1 S1 R1 N1 K1 L1))), (mh, .inl (cI, 2312, .inl (Hs))), (mo, .inl (cI, 144, .inl (ol)))]) hQ hAe hx hb hr hlocks (hP.sub [0, 1, 2, 3] rfl) (hD.sub [0, 1, 2, 3] (by decide) rfl) hS ?_ dX5_shift_10
    refine Or.inl ?_
    have e9 : stE Cs Rs = -2 := by (unfold stE; rw [if_neg (by omega)])
    exact ⟨by rw [e9]; rfl, rfl, by rw [e9]; decide⟩
set_option maxHeartbeats 4000000 in
set_option maxRecDepth 100000 in
theorem c_X5_setNumber (l : Launch) (D : va_G) (cI cC cS : ClassId) (tt : Nat → Nat) (sz : Nat) (mm : Nat) (mn : Nat) (mh : Nat) (ms : Nat) (mr : Nat) (md : Nat) (mo : Nat) (mc : Nat) (mt : Nat) (mq : Nat) (fl : Int32) (ty : Int32) (at9 : Int32) (nu : Int32) (D1 : Nat → Int32) (S1 : Nat → Int32) (R1 : Nat → Int32) (N1 : Nat → Int32) (K1 : Int32) (L1 : Nat → Int32) (k : Nat) (Hs : Nat → Int32) (wt : Int32) (Wt : Int) (hWt_ : wt.toInt = Wt) (v : Int32) (Vv : Int) (hVv_ : v.toInt = Vv) (hh0 : k ≤ 4) : Met l yX5_setNumber wsX5_setNumber ({ frames := 1, cells := 0, slots := 0, locals := 22 } : Room) (x_PW D cI cC cS tt [(mm, .inr (5, [.ref mn, .ref mh, .int (nI k), .ref ms, .int fl, .ref mr, .ref md, .ref mo, .ref mc, .int ty, .ref mt, .int at9, .int nu, .ref mq])), (mn, .inl (cI, 578, .inl (mkM D1 S1 R1 N1 K1 L1))), (mh, .inl (cI, 2312, .inl (Hs)))] sz [.ref mm, .int wt, .int v]) (x_QWi D [(mm, .inr (5, [.ref mn, .ref mh, .int (nI k), .ref ms, .int fl, .ref mr, .ref md, .ref mo, .ref mc, .int ty, .ref mt, .int at9, .int nu, .ref mq])), (mn, .inl (cI, 578, .inl (mkM D1 S1 R1 N1 K1 L1))), (mh, .inl (cI, 2312, .inl (Hs)))] sz (fun (r : Int32) (w : va_W) => (r = (snR N1 Wt Vv) ∧ w = [(mm, .inr (5, [.ref mn, .ref mh, .int (nI k), .ref ms, .int fl, .ref mr, .ref md, .ref mo, .ref mc, .int ty, .ref mt, .int at9, .int nu, .ref mq])), (mn, .inl (cI, 578, .inl (mkM D1 S1 R1 N1 K1 L1))), (mh, .inl (cI, 2312, .inl (Hs)))] ∧ (¬ snA N1 Wt Vv)) ∨ (r = (snR N1 Wt Vv) ∧ w = [(mm, .inr (5, [.ref mn, .ref mh, .int (nI (min (k + 1) 4)), .ref ms, .int fl, .ref mr, .ref md, .ref mo, .ref mc, .int ty, .ref mt, .int at9, .int nu, .ref mq])), (mn, .inl (cI, 578, .inl (mkM D1 S1 R1 (upd N1 Wt.toNat v) K1 L1))), (mh, .inl (cI, 2312, .inl (rcH Hs (mkM D1 S1 R1 N1 K1 L1) k)))] ∧ (snA N1 Wt Vv)))) 0 0 (va_A [(mm, .inr (5, [.ref mn, .ref mh, .int (nI k), .ref ms, .int fl, .ref mr, .ref md, .ref mo, .ref mc, .int ty, .ref mt, .int at9, .int nu, .ref mq])), (mn, .inl (cI, 578, .inl (mkM D1 S1 R1 N1 K1 L1))), (mh, .inl (cI, 2312, .inl (Hs)))] sz) := by
  refine Met.ofW (cc := cX5_setNumber) (maxL := 5) (ret := (some .int)) (by decide) rfl ?_
  intro p e s m args below meth c s₁ hBd hml hv
  obtain ⟨rfl, hsz, hP, hK, hD0, hE0⟩ := hv
  have hx := hBd.exec
  have hb := hBd.bytes
  have hr := hBd.returns
  have hts := atoms_spec (ws := wsX5_setNumber) hBd.pre
  have hown : s.vm.findClass RX5 = some m.cls := findClass_of_methodNamed hBd.named
  have hlocks := hBd.notSynchronized
  subst hsz
  obtain ⟨Ar, hAe⟩ : ∃ Ar : Nat → Prop, Ar = va_A [(mm, .inr (5, [.ref mn, .ref mh, .int (nI k), .ref ms, .int fl, .ref mr, .ref md, .ref mo, .ref mc, .int ty, .ref mt, .int at9, .int nu, .ref mq])), (mn, .inl (cI, 578, .inl (mkM D1 S1 R1 N1 K1 L1))), (mh, .inl (cI, 2312, .inl (Hs)))] s.heap.size := ⟨_, rfl⟩
  have hD : va_D Ar [(mm, .inr (5, [.ref mn, .ref mh, .int (nI k), .ref ms, .int fl, .ref mr, .ref md, .ref mo, .ref mc, .int ty, .ref mt, .int at9, .int nu, .ref mq])), (mn, .inl (cI, 578, .inl (mkM D1 S1 R1 N1 K1 L1))), (mh, .inl (cI, 2312, .inl (Hs)))] := by rw [hAe]; exact hD0.self
  have hA : ∀ q : Nat, s.heap.size ≤ q → Ar q := fun q h => by rw [hAe]; exact Or.inr h
  have hE : x_E tt Ar s := by rw [hAe]; exact hE0
  have hS : va_S Ar s.heap s.heap [] := va_S.rf
  have hl := lv_entry ([.ref mm, .int wt, .int v]) (n := 5) (Nat.le_of_ble_eq_true rfl)
  rw [lg_entry_eq]
  generalize (lg_sl ([.ref mm, .int wt, .int v]) ++ List.replicate (5 - (lg_sl ([.ref mm, .int wt, .int v])).length) Slot.unset).toArray = ls at hl ⊢
  have hl : lv_has ls 5 [(0, .ref mm), (1, .int wt), (2, .int v)] := hl
  refine x_genQ (fun Q hQ => ?_)
  have hlo : (Wt = 0 → x_lo Wt.toNat = 9 ∧ x_hi Wt.toNat = 600) ∧ (Wt = 1 → x_lo Wt.toNat = 0 ∧ x_hi Wt.toNat = 240) ∧ (Wt = 2 → x_lo Wt.toNat = 0 ∧ x_hi Wt.toNat = 50) := ⟨fun z => by rw [z]; exact ⟨rfl, rfl⟩, fun z => by rw [z]; exact ⟨rfl, rfl⟩, fun z => by rw [z]; exact ⟨rfl, rfl⟩⟩
  refine lv_iload_n hx hb dX5_setNumber_0 rfl (lv_at hl 1 rfl) ?_
  refine x_if_ne (tgt := 16) hx hb dX5_setNumber_1 (by decide) (X := Wt) hWt_ (fun c_1 => ?_) (fun c_1 => ?_)
  · skip
    refine lv_iload_n hx hb dX5_setNumber_16 rfl (lv_at hl 1 rfl) ?_
    refine lv_iconst (v := 1) hx hb dX5_setNumber_17 (by decide) ?_
    refine x_icmp_ne (tgt := 32) hx hb dX5_setNumber_18 (by decide) (X := Wt) hWt_ (Y := 1) (show (1 : Int32).toInt = 1 from by decide) (fun c_18 => ?_) (fun c_18 => ?_)
    · skip
      refine lv_iload_n hx hb dX5_setNumber_32 rfl (lv_at hl 1 rfl) ?_
      refine lv_iconst (v := 2) hx hb dX5_setNumber_33 (by decide) ?_
      refine x_icmp_ne (tgt := 51) hx hb dX5_setNumber_34 (by decide) (X := Wt) hWt_ (Y := 2) (show (2 : Int32).toInt = 2 from by decide) (fun c_34 => ?_) (fun c_34 => ?_)
      · skip
        refine lv_iconst (v := 0) hx hb dX5_setNumber_51 (by decide) ?_
        refine lv_istore_n (lv' := [(3, .int 0), (0, .ref mm), (1, .int wt), (2, .int v)]) hx hb dX5_setNumber_52 rfl hl (by decide) rfl (fun ls hl => ?_)
        refine lv_iload_n hx hb dX5_setNumber_53 rfl (lv_at hl 0 rfl) ?_
        refine lv_if_ne (tgt := 60) hx hb dX5_setNumber_54 (by decide) (fun h => False.elim (by revert h; decide)) (fun _ => ?_)
        refine lv_bipush (v := (-2)) hx hb dX5_setNumber_57 (by decide) ?_
        refine x_iretW (w := [(mm, .inr (5, [.ref mn, .ref mh, .int (nI k), .ref ms, .int fl, .ref mr, .ref md, .ref mo, .ref mc, .int ty, .ref mt, .int at9, .int nu, .ref mq])), (mn, .inl (cI, 578, .inl (mkM D1 S1 R1 N1 K1 L1))), (mh, .inl (cI, 2312, .inl (Hs)))]) hQ hAe hx hb hr hlocks (hP.sub [0, 1, 2] rfl) (hD.sub [0, 1, 2] (by decide) rfl) hS ?_ dX5_setNumber_59
        refine Or.inl ?_
        exact ⟨by unfold snR; rw [if_neg (by unfold snG; omega)], rfl, fun z => by have z1 : snG Wt Vv := z.1; unfold snG at z1; omega⟩
      · skip
        refine lv_iload_n hx hb dX5_setNumber_37 rfl (lv_at hl 2 rfl) ?_
        refine lv_iconst (v := 0) hx hb dX5_setNumber_38 (by decide) ?_
        refine lv_bipush (v := 50) hx hb dX5_setNumber_39 (by decide) ?_
        refine x_callR (va_runS (As := [.int v, .int 0, .int 50]) (rest := []) ⟨hx, hb, hml, hown, hts⟩ (c_X5_in l D cI cC cS tt v Vv hVv_ 0 0 (show (0 : Int32).toInt = 0 from by decide) 50 50 (show (50 : Int32).toInt = 50 from by decide)) (va_cwS 3 hts gX5_setNumber_X5_in rfl rfl rfl (by decide +kernel) ⟨Nat.le_of_ble_eq_true rfl, Nat.le_of_ble_eq_true rfl⟩) ⟨x_blindR, x_preR (hP.sub (ws' := []) [] rfl) hK hE hS⟩ rfl rfl hl.1 rfl (lv_room (Nat.le_of_ble_eq_true rfl)) dX5_setNumber_41 ⟨(Nat.le_of_ble_eq_true rfl), (Nat.le_of_ble_eq_true rfl)⟩) ?_
        refine x_ifB_eq (tgt := 51) hx hb dX5_setNumber_44 (by decide) (fun c_44 => ?_) (fun c_44 => ?_)
        · skip
          refine lv_iconst (v := 0) hx hb dX5_setNumber_51 (by decide) ?_
          refine lv_istore_n (lv' := [(3, .int 0), (0, .ref mm), (1, .int wt), (2, .int v)]) hx hb dX5_setNumber_52 rfl hl (by decide) rfl (fun ls hl => ?_)
          refine lv_iload_n hx hb dX5_setNumber_53 rfl (lv_at hl 0 rfl) ?_
          refine lv_if_ne (tgt := 60) hx hb dX5_setNumber_54 (by decide) (fun h => False.elim (by revert h; decide)) (fun _ => ?_)
          refine lv_bipush (v := (-2)) hx hb dX5_setNumber_57 (by decide) ?_
          refine x_iretW (w := [(mm, .inr (5, [.ref mn, .ref mh, .int (nI k), .ref ms, .int fl, .ref mr, .ref md, .ref mo, .ref mc, .int ty, .ref mt, .int at9, .int nu, .ref mq])), (mn, .inl (cI, 578, .inl (mkM D1 S1 R1 N1 K1 L1))), (mh, .inl (cI, 2312, .inl (Hs)))]) hQ hAe hx hb hr hlocks (hP.sub [0, 1, 2] rfl) (hD.sub [0, 1, 2] (by decide) rfl) hS ?_ dX5_setNumber_59
          refine Or.inl ?_
          exact ⟨by unfold snR; rw [if_neg (by unfold snG; omega)], rfl, fun z => by have z1 : snG Wt Vv := z.1; unfold snG at z1; omega⟩
        · skip
          refine lv_iconst (v := 1) hx hb dX5_setNumber_47 (by decide) ?_
          refine lv_goto (tgt := 52) hx hb dX5_setNumber_48 (by decide) ?_
          refine lv_istore_n (lv' := [(3, .int 1), (0, .ref mm), (1, .int wt), (2, .int v)]) hx hb dX5_setNumber_52 rfl hl (by decide) rfl (fun ls hl => ?_)
          refine lv_iload_n hx hb dX5_setNumber_53 rfl (lv_at hl 0 rfl) ?_
          refine lv_if_ne (tgt := 60) hx hb dX5_setNumber_54 (by decide) (fun _ => ?_) (fun h => False.elim (by revert h; decide))
          refine lv_aload_n hx hb dX5_setNumber_60 rfl (lv_at hl 1 rfl) ?_
          refine va_get (v := .ref mn) (D := D) (ci := 5) (C := RX5) (T := TX5) (N := 14) hx hb hts (by decide +kernel) hown hK hP 0 rfl rfl 0 (by decide) (hts (.fieldLink RX5 7 "SpiralFramesModel" "now" "[I") (by decide +kernel)) (fun _ h9 => h9) rfl dX5_setNumber_61 ?_
          refine lv_sipush (v := 432) hx hb dX5_setNumber_64 (by decide) ?_
          refine lv_iload_n hx hb dX5_setNumber_67 rfl (lv_at hl 2 rfl) ?_
          refine lv_iadd hx hb dX5_setNumber_68 ?_
          refine x_eqi (show 432 + wt = nI (((432 + Wt)).toNat) from x_toNat (x_addI (show (432 : Int32).toInt = 432 from by decide) hWt_ (by omega) (by omega)) (by omega)) ?_
          refine x_iald hx hb hK hP 1 0 rfl rfl (k := ((432 + Wt)).toNat) (by omega) (by decide) dX5_setNumber_69 ?_
          refine x_eqi (show (mkM D1 S1 R1 N1 K1 L1) (((432 + Wt)).toNat) = N1 Wt.toNat from (mkM_N (j := Wt.toNat) (by omega) (by omega))) ?_
          refine lv_istore (lv' := [(4, .int (N1 Wt.toNat)), (3, .int 1), (0, .ref mm), (1, .int wt), (2, .int v)]) hx hb dX5_setNumber_70 hl (by decide) rfl (fun ls hl => ?_)
          refine lv_iload hx hb dX5_setNumber_72 (lv_at hl 0 rfl) ?_
          refine lv_iload_n hx hb dX5_setNumber_74 rfl (lv_at hl 4 rfl) ?_
          refine x_icmp_ne (tgt := 81) hx hb dX5_setNumber_75 (by decide) (X := (N1 Wt.toNat).toInt) rfl (Y := Vv) hVv_ (fun c_75 => ?_) (fun c_75 => ?_)
          · skip
            refine lv_aload_n hx hb dX5_setNumber_81 rfl (lv_at hl 2 rfl) ?_
            refine x_callWv (wc := [(mm, .inr (5, [.ref mn, .ref mh, .int (nI k), .ref ms, .int fl, .ref mr, .ref md, .ref mo, .ref mc, .int ty, .ref mt, .int at9, .int nu, .ref mq])), (mn, .inl (cI, 578, .inl (mkM D1 S1 R1 N1 K1 L1))), (mh, .inl (cI, 2312, .inl (Hs)))]) (wr := []) (va_runV (As := []) (rest := []) ⟨hx, hb, hml, hown, hts⟩ (c_X5_record l D cI cC cS tt s.heap.size mm mn mh ms mr md mo mc mt mq fl ty at9 nu k (mkM D1 S1 R1 N1 K1 L1) Hs (by first | omega | assumption | decide)) (cwV 0 hts gX5_setNumber_X5_record rfl rfl rfl (by decide +kernel) ⟨Nat.le_of_ble_eq_true rfl, Nat.le_of_ble_eq_true rfl⟩) ⟨x_blindW, va_recv hK hP (ci := 5) (q0 := 0) rfl rfl, x_preW hP hD hK hE hS hA [0, 1, 2] rfl (by decide)⟩ rfl rfl hl.1 rfl (lv_room (Nat.le_of_ble_eq_true rfl)) dX5_setNumber_82 ⟨(Nat.le_of_ble_eq_true rfl), (Nat.le_of_ble_eq_true rfl)⟩) hP hD hS hA [0, 1, 2] [] rfl rfl (by decide) (by decide) (fun w1 H locs hw hP hD hS => ?_)
            obtain rfl := hw
            have hP : va_P D vwCl [(mm, .inr (5, [.ref mn, .ref mh, .int (nI (min (k + 1) 4)), .ref ms, .int fl, .ref mr, .ref md, .ref mo, .ref mc, .int ty, .ref mt, .int at9, .int nu, .ref mq])), (mn, .inl (cI, 578, .inl (mkM D1 S1 R1 N1 K1 L1))), (mh, .inl (cI, 2312, .inl (rcH Hs (mkM D1 S1 R1 N1 K1 L1) k)))] H := hP
            have hD : va_D (Ar) [(mm, .inr (5, [.ref mn, .ref mh, .int (nI (min (k + 1) 4)), .ref ms, .int fl, .ref mr, .ref md, .ref mo, .ref mc, .int ty, .ref mt, .int at9, .int nu, .ref mq])), (mn, .inl (cI, 578, .inl (mkM D1 S1 R1 N1 K1 L1))), (mh, .inl (cI, 2312, .inl (rcH Hs (mkM D1 S1 R1 N1 K1 L1) k)))] := hD
            refine lv_aload_n hx hb dX5_setNumber_85 rfl (lv_at hl 2 rfl) ?_
            refine va_get (v := .ref mn) (D := D) (ci := 5) (C := RX5) (T := TX5) (N := 14) hx hb hts (by decide +kernel) hown hK hP 0 rfl rfl 0 (by decide) (hts (.fieldLink RX5 7 "SpiralFramesModel" "now" "[I") (by decide +kernel)) (fun _ h9 => h9) rfl dX5_setNumber_86 ?_
            refine lv_sipush (v := 432) hx hb dX5_setNumber_89 (by decide) ?_
            refine lv_iload_n hx hb dX5_setNumber_92 rfl (lv_at hl 3 rfl) ?_
            refine lv_iadd hx hb dX5_setNumber_93 ?_
            refine lv_iload_n hx hb dX5_setNumber_94 rfl (lv_at hl 4 rfl) ?_
            refine x_eqi2 (show 432 + wt = nI (((432 + Wt)).toNat) from x_toNat (x_addI (show (432 : Int32).toInt = 432 from by decide) hWt_ (by omega) (by omega)) (by omega)) ?_
            refine x_iastE hx hb hK hP hD hS 1 0 rfl rfl (k := ((432 + Wt)).toNat) (g := mkM D1 S1 R1 (upd N1 Wt.toNat v) K1 L1) (upM_N (j := Wt.toNat) (by omega) (by omega)) (by omega) (by decide) dX5_setNumber_95 (fun H locs hP hD hS => ?_)
            have hP : va_P D vwCl [(mm, .inr (5, [.ref mn, .ref mh, .int (nI (min (k + 1) 4)), .ref ms, .int fl, .ref mr, .ref md, .ref mo, .ref mc, .int ty, .ref mt, .int at9, .int nu, .ref mq])), (mn, .inl (cI, 578, .inl (mkM D1 S1 R1 (upd N1 Wt.toNat v) K1 L1))), (mh, .inl (cI, 2312, .inl (rcH Hs (mkM D1 S1 R1 N1 K1 L1) k)))] H := hP
            have hD : va_D (Ar) [(mm, .inr (5, [.ref mn, .ref mh, .int (nI (min (k + 1) 4)), .ref ms, .int fl, .ref mr, .ref md, .ref mo, .ref mc, .int ty, .ref mt, .int at9, .int nu, .ref mq])), (mn, .inl (cI, 578, .inl (mkM D1 S1 R1 (upd N1 Wt.toNat v) K1 L1))), (mh, .inl (cI, 2312, .inl (rcH Hs (mkM D1 S1 R1 N1 K1 L1) k)))] := hD
            refine lv_iload hx hb dX5_setNumber_96 (lv_at hl 0 rfl) ?_
            refine x_iretW (w := [(mm, .inr (5, [.ref mn, .ref mh, .int (nI (min (k + 1) 4)), .ref ms, .int fl, .ref mr, .ref md, .ref mo, .ref mc, .int ty, .ref mt, .int at9, .int nu, .ref mq])), (mn, .inl (cI, 578, .inl (mkM D1 S1 R1 (upd N1 Wt.toNat v) K1 L1))), (mh, .inl (cI, 2312, .inl (rcH Hs (mkM D1 S1 R1 N1 K1 L1) k)))]) hQ hAe hx hb hr hlocks (hP.sub [0, 1, 2] rfl) (hD.sub [0, 1, 2] (by decide) rfl) hS ?_ dX5_setNumber_98
            refine Or.inr (?_)
            exact ⟨by unfold snR; rw [if_pos (by unfold snG; omega), if_neg c_75], rfl, by unfold snG; omega, c_75⟩
          · skip
            refine lv_bipush (v := (-5)) hx hb dX5_setNumber_78 (by decide) ?_
            refine x_iretW (w := [(mm, .inr (5, [.ref mn, .ref mh, .int (nI k), .ref ms, .int fl, .ref mr, .ref md, .ref mo, .ref mc, .int ty, .ref mt, .int at9, .int nu, .ref mq])), (mn, .inl (cI, 578, .inl (mkM D1 S1 R1 N1 K1 L1))), (mh, .inl (cI, 2312, .inl (Hs)))]) hQ hAe hx hb hr hlocks (hP.sub [0, 1, 2] rfl) (hD.sub [0, 1, 2] (by decide) rfl) hS ?_ dX5_setNumber_80
            refine Or.inl ?_
            exact ⟨by unfold snR; rw [if_pos (by unfold snG; omega), if_pos c_75], rfl, fun z => z.2 c_75⟩
    · skip
      refine lv_iload_n hx hb dX5_setNumber_21 rfl (lv_at hl 2 rfl) ?_
      refine lv_iconst (v := 0) hx hb dX5_setNumber_22 (by decide) ?_
      refine lv_sipush (v := 240) hx hb dX5_setNumber_23 (by decide) ?_
      refine x_callR (va_runS (As := [.int v, .int 0, .int 240]) (rest := []) ⟨hx, hb, hml, hown, hts⟩ (c_X5_in l D cI cC cS tt v Vv hVv_ 0 0 (show (0 : Int32).toInt = 0 from by decide) 240 240 (show (240 : Int32).toInt = 240 from by decide)) (va_cwS 3 hts gX5_setNumber_X5_in rfl rfl rfl (by decide +kernel) ⟨Nat.le_of_ble_eq_true rfl, Nat.le_of_ble_eq_true rfl⟩) ⟨x_blindR, x_preR (hP.sub (ws' := []) [] rfl) hK hE hS⟩ rfl rfl hl.1 rfl (lv_room (Nat.le_of_ble_eq_true rfl)) dX5_setNumber_26 ⟨(Nat.le_of_ble_eq_true rfl), (Nat.le_of_ble_eq_true rfl)⟩) ?_
      refine lv_goto (tgt := 52) hx hb dX5_setNumber_29 (by decide) ?_
      refine lv_istore_n (lv' := [(3, .int (bI (decide (0 ≤ Vv ∧ Vv ≤ 240)))), (0, .ref mm), (1, .int wt), (2, .int v)]) hx hb dX5_setNumber_52 rfl hl (by decide) rfl (fun ls hl => ?_)
      refine lv_iload_n hx hb dX5_setNumber_53 rfl (lv_at hl 0 rfl) ?_
      refine x_ifB_ne (tgt := 60) hx hb dX5_setNumber_54 (by decide) (fun c_54 => ?_) (fun c_54 => ?_)
      · skip
        refine lv_aload_n hx hb dX5_setNumber_60 rfl (lv_at hl 1 rfl) ?_
        refine va_get (v := .ref mn) (D := D) (ci := 5) (C := RX5) (T := TX5) (N := 14) hx hb hts (by decide +kernel) hown hK hP 0 rfl rfl 0 (by decide) (hts (.fieldLink RX5 7 "SpiralFramesModel" "now" "[I") (by decide +kernel)) (fun _ h9 => h9) rfl dX5_setNumber_61 ?_
        refine lv_sipush (v := 432) hx hb dX5_setNumber_64 (by decide) ?_
        refine lv_iload_n hx hb dX5_setNumber_67 rfl (lv_at hl 2 rfl) ?_
        refine lv_iadd hx hb dX5_setNumber_68 ?_
        refine x_eqi (show 432 + wt = nI (((432 + Wt)).toNat) from x_toNat (x_addI (show (432 : Int32).toInt = 432 from by decide) hWt_ (by omega) (by omega)) (by omega)) ?_
        refine x_iald hx hb hK hP 1 0 rfl rfl (k := ((432 + Wt)).toNat) (by omega) (by decide) dX5_setNumber_69 ?_
        refine x_eqi (show (mkM D1 S1 R1 N1 K1 L1) (((432 + Wt)).toNat) = N1 Wt.toNat from (mkM_N (j := Wt.toNat) (by omega) (by omega))) ?_
        refine lv_istore (lv' := [(4, .int (N1 Wt.toNat)), (3, .int (bI (decide (0 ≤ Vv ∧ Vv ≤ 240)))), (0, .ref mm), (1, .int wt), (2, .int v)]) hx hb dX5_setNumber_70 hl (by decide) rfl (fun ls hl => ?_)
        refine lv_iload hx hb dX5_setNumber_72 (lv_at hl 0 rfl) ?_
        refine lv_iload_n hx hb dX5_setNumber_74 rfl (lv_at hl 4 rfl) ?_
        refine x_icmp_ne (tgt := 81) hx hb dX5_setNumber_75 (by decide) (X := (N1 Wt.toNat).toInt) rfl (Y := Vv) hVv_ (fun c_75 => ?_) (fun c_75 => ?_)
        · skip
          refine lv_aload_n hx hb dX5_setNumber_81 rfl (lv_at hl 2 rfl) ?_
          refine x_callWv (wc := [(mm, .inr (5, [.ref mn, .ref mh, .int (nI k), .ref ms, .int fl, .ref mr, .ref md, .ref mo, .ref mc, .int ty, .ref mt, .int at9, .int nu, .ref mq])), (mn, .inl (cI, 578, .inl (mkM D1 S1 R1 N1 K1 L1))), (mh, .inl (cI, 2312, .inl (Hs)))]) (wr := []) (va_runV (As := []) (rest := []) ⟨hx, hb, hml, hown, hts⟩ (c_X5_record l D cI cC cS tt s.heap.size mm mn mh ms mr md mo mc mt mq fl ty at9 nu k (mkM D1 S1 R1 N1 K1 L1) Hs (by first | omega | assumption | decide)) (cwV 0 hts gX5_setNumber_X5_record rfl rfl rfl (by decide +kernel) ⟨Nat.le_of_ble_eq_true rfl, Nat.le_of_ble_eq_true rfl⟩) ⟨x_blindW, va_recv hK hP (ci := 5) (q0 := 0) rfl rfl, x_preW hP hD hK hE hS hA [0, 1, 2] rfl (by decide)⟩ rfl rfl hl.1 rfl (lv_room (Nat.le_of_ble_eq_true rfl)) dX5_setNumber_82 ⟨(Nat.le_of_ble_eq_true rfl), (Nat.le_of_ble_eq_true rfl)⟩) hP hD hS hA [0, 1, 2] [] rfl rfl (by decide) (by decide) (fun w1 H locs hw hP hD hS => ?_)
          obtain rfl := hw
          have hP : va_P D vwCl [(mm, .inr (5, [.ref mn, .ref mh, .int (nI (min (k + 1) 4)), .ref ms, .int fl, .ref mr, .ref md, .ref mo, .ref mc, .int ty, .ref mt, .int at9, .int nu, .ref mq])), (mn, .inl (cI, 578, .inl (mkM D1 S1 R1 N1 K1 L1))), (mh, .inl (cI, 2312, .inl (rcH Hs (mkM D1 S1 R1 N1 K1 L1) k)))] H := hP
          have hD : va_D (Ar) [(mm, .inr (5, [.ref mn, .ref mh, .int (nI (min (k + 1) 4)), .ref ms, .int fl, .ref mr, .ref md, .ref mo, .ref mc, .int ty, .ref mt, .int at9, .int nu, .ref mq])), (mn, .inl (cI, 578, .inl (mkM D1 S1 R1 N1 K1 L1))), (mh, .inl (cI, 2312, .inl (rcH Hs (mkM D1 S1 R1 N1 K1 L1) k)))] := hD
          refine lv_aload_n hx hb dX5_setNumber_85 rfl (lv_at hl 2 rfl) ?_
          refine va_get (v := .ref mn) (D := D) (ci := 5) (C := RX5) (T := TX5) (N := 14) hx hb hts (by decide +kernel) hown hK hP 0 rfl rfl 0 (by decide) (hts (.fieldLink RX5 7 "SpiralFramesModel" "now" "[I") (by decide +kernel)) (fun _ h9 => h9) rfl dX5_setNumber_86 ?_
          refine lv_sipush (v := 432) hx hb dX5_setNumber_89 (by decide) ?_
          refine lv_iload_n hx hb dX5_setNumber_92 rfl (lv_at hl 3 rfl) ?_
          refine lv_iadd hx hb dX5_setNumber_93 ?_
          refine lv_iload_n hx hb dX5_setNumber_94 rfl (lv_at hl 4 rfl) ?_
          refine x_eqi2 (show 432 + wt = nI (((432 + Wt)).toNat) from x_toNat (x_addI (show (432 : Int32).toInt = 432 from by decide) hWt_ (by omega) (by omega)) (by omega)) ?_
          refine x_iastE hx hb hK hP hD hS 1 0 rfl rfl (k := ((432 + Wt)).toNat) (g := mkM D1 S1 R1 (upd N1 Wt.toNat v) K1 L1) (upM_N (j := Wt.toNat) (by omega) (by omega)) (by omega) (by decide) dX5_setNumber_95 (fun H locs hP hD hS => ?_)
          have hP : va_P D vwCl [(mm, .inr (5, [.ref mn, .ref mh, .int (nI (min (k + 1) 4)), .ref ms, .int fl, .ref mr, .ref md, .ref mo, .ref mc, .int ty, .ref mt, .int at9, .int nu, .ref mq])), (mn, .inl (cI, 578, .inl (mkM D1 S1 R1 (upd N1 Wt.toNat v) K1 L1))), (mh, .inl (cI, 2312, .inl (rcH Hs (mkM D1 S1 R1 N1 K1 L1) k)))] H := hP
          have hD : va_D (Ar) [(mm, .inr (5, [.ref mn, .ref mh, .int (nI (min (k + 1) 4)), .ref ms, .int fl, .ref mr, .ref md, .ref mo, .ref mc, .int ty, .ref mt, .int at9, .int nu, .ref mq])), (mn, .inl (cI, 578, .inl (mkM D1 S1 R1 (upd N1 Wt.toNat v) K1 L1))), (mh, .inl (cI, 2312, .inl (rcH Hs (mkM D1 S1 R1 N1 K1 L1) k)))] := hD
          refine lv_iload hx hb dX5_setNumber_96 (lv_at hl 0 rfl) ?_
          refine x_iretW (w := [(mm, .inr (5, [.ref mn, .ref mh, .int (nI (min (k + 1) 4)), .ref ms, .int fl, .ref mr, .ref md, .ref mo, .ref mc, .int ty, .ref mt, .int at9, .int nu, .ref mq])), (mn, .inl (cI, 578, .inl (mkM D1 S1 R1 (upd N1 Wt.toNat v) K1 L1))), (mh, .inl (cI, 2312, .inl (rcH Hs (mkM D1 S1 R1 N1 K1 L1) k)))]) hQ hAe hx hb hr hlocks (hP.sub [0, 1, 2] rfl) (hD.sub [0, 1, 2] (by decide) rfl) hS ?_ dX5_setNumber_98
          refine Or.inr (?_)
          exact ⟨by unfold snR; rw [if_pos (by unfold snG; omega), if_neg c_75], rfl, by unfold snG; omega, c_75⟩
        · skip
          refine lv_bipush (v := (-5)) hx hb dX5_setNumber_78 (by decide) ?_
          refine x_iretW (w := [(mm, .inr (5, [.ref mn, .ref mh, .int (nI k), .ref ms, .int fl, .ref mr, .ref md, .ref mo, .ref mc, .int ty, .ref mt, .int at9, .int nu, .ref mq])), (mn, .inl (cI, 578, .inl (mkM D1 S1 R1 N1 K1 L1))), (mh, .inl (cI, 2312, .inl (Hs)))]) hQ hAe hx hb hr hlocks (hP.sub [0, 1, 2] rfl) (hD.sub [0, 1, 2] (by decide) rfl) hS ?_ dX5_setNumber_80
          refine Or.inl ?_
          exact ⟨by unfold snR; rw [if_pos (by unfold snG; omega), if_pos c_75], rfl, fun z => z.2 c_75⟩
      · skip
        refine lv_bipush (v := (-2)) hx hb dX5_setNumber_57 (by decide) ?_
        refine x_iretW (w := [(mm, .inr (5, [.ref mn, .ref mh, .int (nI k), .ref ms, .int fl, .ref mr, .ref md, .ref mo, .ref mc, .int ty, .ref mt, .int at9, .int nu, .ref mq])), (mn, .inl (cI, 578, .inl (mkM D1 S1 R1 N1 K1 L1))), (mh, .inl (cI, 2312, .inl (Hs)))]) hQ hAe hx hb hr hlocks (hP.sub [0, 1, 2] rfl) (hD.sub [0, 1, 2] (by decide) rfl) hS ?_ dX5_setNumber_59
        refine Or.inl ?_
        exact ⟨by unfold snR; rw [if_neg (by unfold snG; omega)], rfl, fun z => by have z1 : snG Wt Vv := z.1; unfold snG at z1; omega⟩
  · skip
    refine lv_iload_n hx hb dX5_setNumber_4 rfl (lv_at hl 2 rfl) ?_
    refine lv_bipush (v := 9) hx hb dX5_setNumber_5 (by decide) ?_
    refine lv_sipush (v := 600) hx hb dX5_setNumber_7 (by decide) ?_
    refine x_callR (va_runS (As := [.int v, .int 9, .int 600]) (rest := []) ⟨hx, hb, hml, hown, hts⟩ (c_X5_in l D cI cC cS tt v Vv hVv_ 9 9 (show (9 : Int32).toInt = 9 from by decide) 600 600 (show (600 : Int32).toInt = 600 from by decide)) (va_cwS 3 hts gX5_setNumber_X5_in rfl rfl rfl (by decide +kernel) ⟨Nat.le_of_ble_eq_true rfl, Nat.le_of_ble_eq_true rfl⟩) ⟨x_blindR, x_preR (hP.sub (ws' := []) [] rfl) hK hE hS⟩ rfl rfl hl.1 rfl (lv_room (Nat.le_of_ble_eq_true rfl)) dX5_setNumber_10 ⟨(Nat.le_of_ble_eq_true rfl), (Nat.le_of_ble_eq_true rfl)⟩) ?_
    refine lv_goto (tgt := 52) hx hb dX5_setNumber_13 (by decide) ?_
    refine lv_istore_n (lv' := [(3, .int (bI (decide (9 ≤ Vv ∧ Vv ≤ 600)))), (0, .ref mm), (1, .int wt), (2, .int v)]) hx hb dX5_setNumber_52 rfl hl (by decide) rfl (fun ls hl => ?_)
    refine lv_iload_n hx hb dX5_setNumber_53 rfl (lv_at hl 0 rfl) ?_
    refine x_ifB_ne (tgt := 60) hx hb dX5_setNumber_54 (by decide) (fun c_54 => ?_) (fun c_54 => ?_)
    · skip
      refine lv_aload_n hx hb dX5_setNumber_60 rfl (lv_at hl 1 rfl) ?_
      refine va_get (v := .ref mn) (D := D) (ci := 5) (C := RX5) (T := TX5) (N := 14) hx hb hts (by decide +kernel) hown hK hP 0 rfl rfl 0 (by decide) (hts (.fieldLink RX5 7 "SpiralFramesModel" "now" "[I") (by decide +kernel)) (fun _ h9 => h9) rfl dX5_setNumber_61 ?_
      refine lv_sipush (v := 432) hx hb dX5_setNumber_64 (by decide) ?_
      refine lv_iload_n hx hb dX5_setNumber_67 rfl (lv_at hl 2 rfl) ?_
      refine lv_iadd hx hb dX5_setNumber_68 ?_
      refine x_eqi (show 432 + wt = nI (((432 + Wt)).toNat) from x_toNat (x_addI (show (432 : Int32).toInt = 432 from by decide) hWt_ (by omega) (by omega)) (by omega)) ?_
      refine x_iald hx hb hK hP 1 0 rfl rfl (k := ((432 + Wt)).toNat) (by omega) (by decide) dX5_setNumber_69 ?_
      refine x_eqi (show (mkM D1 S1 R1 N1 K1 L1) (((432 + Wt)).toNat) = N1 Wt.toNat from (mkM_N (j := Wt.toNat) (by omega) (by omega))) ?_
      refine lv_istore (lv' := [(4, .int (N1 Wt.toNat)), (3, .int (bI (decide (9 ≤ Vv ∧ Vv ≤ 600)))), (0, .ref mm), (1, .int wt), (2, .int v)]) hx hb dX5_setNumber_70 hl (by decide) rfl (fun ls hl => ?_)
      refine lv_iload hx hb dX5_setNumber_72 (lv_at hl 0 rfl) ?_
      refine lv_iload_n hx hb dX5_setNumber_74 rfl (lv_at hl 4 rfl) ?_
      refine x_icmp_ne (tgt := 81) hx hb dX5_setNumber_75 (by decide) (X := (N1 Wt.toNat).toInt) rfl (Y := Vv) hVv_ (fun c_75 => ?_) (fun c_75 => ?_)
      · skip
        refine lv_aload_n hx hb dX5_setNumber_81 rfl (lv_at hl 2 rfl) ?_
        refine x_callWv (wc := [(mm, .inr (5, [.ref mn, .ref mh, .int (nI k), .ref ms, .int fl, .ref mr, .ref md, .ref mo, .ref mc, .int ty, .ref mt, .int at9, .int nu, .ref mq])), (mn, .inl (cI, 578, .inl (mkM D1 S1 R1 N1 K1 L1))), (mh, .inl (cI, 2312, .inl (Hs)))]) (wr := []) (va_runV (As := []) (rest := []) ⟨hx, hb, hml, hown, hts⟩ (c_X5_record l D cI cC cS tt s.heap.size mm mn mh ms mr md mo mc mt mq fl ty at9 nu k (mkM D1 S1 R1 N1 K1 L1) Hs (by first | omega | assumption | decide)) (cwV 0 hts gX5_setNumber_X5_record rfl rfl rfl (by decide +kernel) ⟨Nat.le_of_ble_eq_true rfl, Nat.le_of_ble_eq_true rfl⟩) ⟨x_blindW, va_recv hK hP (ci := 5) (q0 := 0) rfl rfl, x_preW hP hD hK hE hS hA [0, 1, 2] rfl (by decide)⟩ rfl rfl hl.1 rfl (lv_room (Nat.le_of_ble_eq_true rfl)) dX5_setNumber_82 ⟨(Nat.le_of_ble_eq_true rfl), (Nat.le_of_ble_eq_true rfl)⟩) hP hD hS hA [0, 1, 2] [] rfl rfl (by decide) (by decide) (fun w1 H locs hw hP hD hS => ?_)
        obtain rfl := hw
        have hP : va_P D vwCl [(mm, .inr (5, [.ref mn, .ref mh, .int (nI (min (k + 1) 4)), .ref ms, .int fl, .ref mr, .ref md, .ref mo, .ref mc, .int ty, .ref mt, .int at9, .int nu, .ref mq])), (mn, .inl (cI, 578, .inl (mkM D1 S1 R1 N1 K1 L1))), (mh, .inl (cI, 2312, .inl (rcH Hs (mkM D1 S1 R1 N1 K1 L1) k)))] H := hP
        have hD : va_D (Ar) [(mm, .inr (5, [.ref mn, .ref mh, .int (nI (min (k + 1) 4)), .ref ms, .int fl, .ref mr, .ref md, .ref mo, .ref mc, .int ty, .ref mt, .int at9, .int nu, .ref mq])), (mn, .inl (cI, 578, .inl (mkM D1 S1 R1 N1 K1 L1))), (mh, .inl (cI, 2312, .inl (rcH Hs (mkM D1 S1 R1 N1 K1 L1) k)))] := hD
        refine lv_aload_n hx hb dX5_setNumber_85 rfl (lv_at hl 2 rfl) ?_
        refine va_get (v := .ref mn) (D := D) (ci := 5) (C := RX5) (T := TX5) (N := 14) hx hb hts (by decide +kernel) hown hK hP 0 rfl rfl 0 (by decide) (hts (.fieldLink RX5 7 "SpiralFramesModel" "now" "[I") (by decide +kernel)) (fun _ h9 => h9) rfl dX5_setNumber_86 ?_
        refine lv_sipush (v := 432) hx hb dX5_setNumber_89 (by decide) ?_
        refine lv_iload_n hx hb dX5_setNumber_92 rfl (lv_at hl 3 rfl) ?_
        refine lv_iadd hx hb dX5_setNumber_93 ?_
        refine lv_iload_n hx hb dX5_setNumber_94 rfl (lv_at hl 4 rfl) ?_
        refine x_eqi2 (show 432 + wt = nI (((432 + Wt)).toNat) from x_toNat (x_addI (show (432 : Int32).toInt = 432 from by decide) hWt_ (by omega) (by omega)) (by omega)) ?_
        refine x_iastE hx hb hK hP hD hS 1 0 rfl rfl (k := ((432 + Wt)).toNat) (g := mkM D1 S1 R1 (upd N1 Wt.toNat v) K1 L1) (upM_N (j := Wt.toNat) (by omega) (by omega)) (by omega) (by decide) dX5_setNumber_95 (fun H locs hP hD hS => ?_)
        have hP : va_P D vwCl [(mm, .inr (5, [.ref mn, .ref mh, .int (nI (min (k + 1) 4)), .ref ms, .int fl, .ref mr, .ref md, .ref mo, .ref mc, .int ty, .ref mt, .int at9, .int nu, .ref mq])), (mn, .inl (cI, 578, .inl (mkM D1 S1 R1 (upd N1 Wt.toNat v) K1 L1))), (mh, .inl (cI, 2312, .inl (rcH Hs (mkM D1 S1 R1 N1 K1 L1) k)))] H := hP
        have hD : va_D (Ar) [(mm, .inr (5, [.ref mn, .ref mh, .int (nI (min (k + 1) 4)), .ref ms, .int fl, .ref mr, .ref md, .ref mo, .ref mc, .int ty, .ref mt, .int at9, .int nu, .ref mq])), (mn, .inl (cI, 578, .inl (mkM D1 S1 R1 (upd N1 Wt.toNat v) K1 L1))), (mh, .inl (cI, 2312, .inl (rcH Hs (mkM D1 S1 R1 N1 K1 L1) k)))] := hD
        refine lv_iload hx hb dX5_setNumber_96 (lv_at hl 0 rfl) ?_
        refine x_iretW (w := [(mm, .inr (5, [.ref mn, .ref mh, .int (nI (min (k + 1) 4)), .ref ms, .int fl, .ref mr, .ref md, .ref mo, .ref mc, .int ty, .ref mt, .int at9, .int nu, .ref mq])), (mn, .inl (cI, 578, .inl (mkM D1 S1 R1 (upd N1 Wt.toNat v) K1 L1))), (mh, .inl (cI, 2312, .inl (rcH Hs (mkM D1 S1 R1 N1 K1 L1) k)))]) hQ hAe hx hb hr hlocks (hP.sub [0, 1, 2] rfl) (hD.sub [0, 1, 2] (by decide) rfl) hS ?_ dX5_setNumber_98
        refine Or.inr (?_)
        exact ⟨by unfold snR; rw [if_pos (by unfold snG; omega), if_neg c_75], rfl, by unfold snG; omega, c_75⟩
      · skip
        refine lv_bipush (v := (-5)) hx hb dX5_setNumber_78 (by decide) ?_
        refine x_iretW (w := [(mm, .inr (5, [.ref mn, .ref mh, .int (nI k), .ref ms, .int fl, .ref mr, .ref md, .ref mo, .ref mc, .int ty, .ref mt, .int at9, .int nu, .ref mq])), (mn, .inl (cI, 578, .inl (mkM D1 S1 R1 N1 K1 L1))), (mh, .inl (cI, 2312, .inl (Hs)))]) hQ hAe hx hb hr hlocks (hP.sub [0, 1, 2] rfl) (hD.sub [0, 1, 2] (by decide) rfl) hS ?_ dX5_setNumber_80
        refine Or.inl ?_
        exact ⟨by unfold snR; rw [if_pos (by unfold snG; omega), if_pos c_75], rfl, fun z => z.2 c_75⟩
    · skip
      refine lv_bipush (v := (-2)) hx hb dX5_setNumber_57 (by decide) ?_
      refine x_iretW (w := [(mm, .inr (5, [.ref mn, .ref mh, .int (nI k), .ref ms, .int fl, .ref mr, .ref md, .ref mo, .ref mc, .int ty, .ref mt, .int at9, .int nu, .ref mq])), (mn, .inl (cI, 578, .inl (mkM D1 S1 R1 N1 K1 L1))), (mh, .inl (cI, 2312, .inl (Hs)))]) hQ hAe hx hb hr hlocks (hP.sub [0, 1, 2] rfl) (hD.sub [0, 1, 2] (by decide) rfl) hS ?_ dX5_setNumber_59
      refine Or.inl ?_
      exact ⟨by unfold snR; rw [if_neg (by unfold snG; omega)], rfl, fun z => by have z1 : snG Wt Vv := z.1; unfold snG at z1; omega⟩
