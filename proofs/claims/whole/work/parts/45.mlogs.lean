set_option maxHeartbeats 4000000 in
set_option maxRecDepth 100000 in
theorem c_X5_logs_00 (l : Launch) (D : va_G) (cI cC cS : ClassId) (tt : Nat → Nat) (sz : Nat) (mm : Nat) (mn : Nat) (mh : Nat) (ms : Nat) (mr : Nat) (md : Nat) (mo : Nat) (mc : Nat) (mt : Nat) (mq : Nat) (kp : Int32) (fl : Int32) (ty : Int32) (at9 : Int32) (nu : Int32) (D1 : Nat → Int32) (S1 : Nat → Int32) (R1 : Nat → Int32) (N1 : Nat → Int32) (L1 : Nat → Int32) (kn : Nat) (cq : Nat → Int32) (cd : Nat → Nat) (bt : Int32) (tol : Int32) (hh0 : ∀ t9, t9 < 9 → cq t9 = nI (cd t9)) (hh1 : ∀ t9, cd t9 ≤ 25) (hh2 : kn ≤ 8) : Met l yX5_logs wsX5_logs ({ frames := 4, cells := 0, slots := 0, locals := 98 } : Room) (x_PW D cI cC cS tt [(mm, .inr (5, [.ref mn, .ref mh, .int kp, .ref ms, .int fl, .ref mr, .ref md, .ref mo, .ref mc, .int ty, .ref mt, .int at9, .int nu, .ref mq])), (mn, .inl (cI, 578, .inl (mkM D1 S1 R1 N1 (nI kn) L1))), (mc, .inl (cI, 9, .inl (cq)))] sz [.ref mm, .int bt, .int tol, .int 0, .int 0]) (x_QWv D [(mm, .inr (5, [.ref mn, .ref mh, .int kp, .ref ms, .int fl, .ref mr, .ref md, .ref mo, .ref mc, .int ty, .ref mt, .int at9, .int nu, .ref mq])), (mn, .inl (cI, 578, .inl (mkM D1 S1 R1 N1 (nI kn) L1))), (mc, .inl (cI, 9, .inl (cq)))] sz (fun (w : va_W) => w = [(mm, .inr (5, [.ref mn, .ref mh, .int kp, .ref ms, .int fl, .ref mr, .ref md, .ref mo, .ref mc, .int ty, .ref mt, .int at9, .int nu, .ref mq])), (mn, .inl (cI, 578, .inl (mkM D1 S1 R1 N1 (nI (min (kn + 1) 8)) (lgM L1 kn (lgR bt tol 0 0 cd (wdS D1 S1)))))), (mc, .inl (cI, 9, .inl (cq)))])) 0 0 (va_A [(mm, .inr (5, [.ref mn, .ref mh, .int kp, .ref ms, .int fl, .ref mr, .ref md, .ref mo, .ref mc, .int ty, .ref mt, .int at9, .int nu, .ref mq])), (mn, .inl (cI, 578, .inl (mkM D1 S1 R1 N1 (nI kn) L1))), (mc, .inl (cI, 9, .inl (cq)))] sz) := by
  refine Met.ofW (cc := cX5_logs) (maxL := 8) (ret := none) (by decide) rfl ?_
  intro p e s m args below meth c s₁ hBd hml hv
  obtain ⟨rfl, hsz, hP, hK, hD0, hE0⟩ := hv
  have hx := hBd.exec
  have hb := hBd.bytes
  have hr := hBd.returns
  have hts := atoms_spec (ws := wsX5_logs) hBd.pre
  have hown : s.vm.findClass RX5 = some m.cls := findClass_of_methodNamed hBd.named
  have hlocks := hBd.notSynchronized
  subst hsz
  obtain ⟨Ar, hAe⟩ : ∃ Ar : Nat → Prop, Ar = va_A [(mm, .inr (5, [.ref mn, .ref mh, .int kp, .ref ms, .int fl, .ref mr, .ref md, .ref mo, .ref mc, .int ty, .ref mt, .int at9, .int nu, .ref mq])), (mn, .inl (cI, 578, .inl (mkM D1 S1 R1 N1 (nI kn) L1))), (mc, .inl (cI, 9, .inl (cq)))] s.heap.size := ⟨_, rfl⟩
  have hD : va_D Ar [(mm, .inr (5, [.ref mn, .ref mh, .int kp, .ref ms, .int fl, .ref mr, .ref md, .ref mo, .ref mc, .int ty, .ref mt, .int at9, .int nu, .ref mq])), (mn, .inl (cI, 578, .inl (mkM D1 S1 R1 N1 (nI kn) L1))), (mc, .inl (cI, 9, .inl (cq)))] := by rw [hAe]; exact hD0.self
  have hA : ∀ q : Nat, s.heap.size ≤ q → Ar q := fun q h => by rw [hAe]; exact Or.inr h
  have hE : x_E tt Ar s := by rw [hAe]; exact hE0
  have hS : va_S Ar s.heap s.heap [] := va_S.rf
  have hl := lv_entry ([.ref mm, .int bt, .int tol, .int 0, .int 0]) (n := 8) (Nat.le_of_ble_eq_true rfl)
  rw [lg_entry_eq]
  generalize (lg_sl ([.ref mm, .int bt, .int tol, .int 0, .int 0]) ++ List.replicate (8 - (lg_sl ([.ref mm, .int bt, .int tol, .int 0, .int 0])).length) Slot.unset).toArray = ls at hl ⊢
  have hl : lv_has ls 8 [(0, .ref mm), (1, .int bt), (2, .int tol), (3, .int 0), (4, .int 0)] := hl
  refine x_genQ (fun Q hQ => ?_)
  rcases (show kn = 8 ∨ kn < 8 by omega) with hk8 | hk8
  · skip
    subst hk8
    refine lv_aload_n hx hb dX5_logs_0 rfl (lv_at hl 0 rfl) ?_
    refine va_get (v := .ref mn) (D := D) (ci := 5) (C := RX5) (T := TX5) (N := 14) hx hb hts (by decide +kernel) hown hK hP 0 rfl rfl 0 (by decide) (hts (.fieldLink RX5 7 "SpiralFramesModel" "now" "[I") (by decide +kernel)) (fun _ h9 => h9) rfl dX5_logs_1 ?_
    refine lv_sipush (v := 441) hx hb dX5_logs_4 (by decide) ?_
    refine x_eqi (show (441 : Int32) = nI 441 from by decide) ?_
    refine x_iald hx hb hK hP 1 0 rfl rfl (k := 441) (by omega) (by decide) dX5_logs_7 ?_
    refine x_eqi (show (mkM D1 S1 R1 N1 (nI 8) L1) 441 = (nI 8) from (mkM_K (by omega))) ?_
    refine lv_bipush (v := 8) hx hb dX5_logs_8 (by decide) ?_
    refine x_icmp_ne (tgt := 61) hx hb dX5_logs_10 (by decide) (X := ((8 : Nat) : Int)) (nI_toI (by omega)) (Y := 8) (show (8 : Int32).toInt = 8 from by decide) (fun h => False.elim (by omega)) (fun _ => ?_)
    refine lv_sipush (v := 442) hx hb dX5_logs_13 (by decide) ?_
    refine lv_istore (lv' := [(5, .int 442), (0, .ref mm), (1, .int bt), (2, .int tol), (3, .int 0), (4, .int 0)]) hx hb dX5_logs_16 hl (by decide) rfl (fun ls hl => ?_)
    have L18 : ∀ (fuel : Nat) (j : Nat) (f : Nat → Int32), (442 ≤ j) → (j ≤ 561) → (f = shL L1 (j - 442)) → 561 - j < fuel → ∀ (H : Heap) (locs : List Loc), va_P D vwCl [(mm, .inr (5, [.ref mn, .ref mh, .int kp, .ref ms, .int fl, .ref mr, .ref md, .ref mo, .ref mc, .int ty, .ref mt, .int at9, .int nu, .ref mq])), (mn, .inl (cI, 578, .inl (mkM D1 S1 R1 N1 (nI 8) f))), (mc, .inl (cI, 9, .inl (cq)))] H → va_D (Ar) [(mm, .inr (5, [.ref mn, .ref mh, .int kp, .ref ms, .int fl, .ref mr, .ref md, .ref mo, .ref mc, .int ty, .ref mt, .int at9, .int nu, .ref mq])), (mn, .inl (cI, 578, .inl (mkM D1 S1 R1 N1 (nI 8) f))), (mc, .inl (cI, 9, .inl (cq)))] → va_S (Ar) s.heap H locs → ∀ (ls : Array Slot), lv_has ls 8 [(0, .ref mm), (1, .int bt), (2, .int tol), (3, .int 0), (4, .int 0), (5, .int (nI j))] → W p l e (headSpec wsX5_logs ({ frames := 4, cells := 0, slots := 0, locals := 98 } : Room)).room s m ([.ref mm, .int bt, .int tol, .int 0, .int 0] : List Value).toArray below meth c H locs 0 0 Q (F0 m 18 ls []) := by
      intro fuel
      induction fuel with
      | zero =>
        intro j f hi18_0 hi18_1 hi18_2 hfu
        exact absurd hfu (Nat.not_lt_zero _)
      | succ fuel ih18 =>
        intro j f hi18_0 hi18_1 hi18_2 hfu18 H locs hP hD hS ls hl
        refine lv_iload hx hb dX5_logs_18 (lv_at hl 5 rfl) ?_
        refine lv_sipush (v := 561) hx hb dX5_logs_20 (by decide) ?_
        refine x_icmp_ge (tgt := 49) hx hb dX5_logs_23 (by decide) (X := ((j : Nat) : Int)) (nI_toI (by omega)) (Y := 561) (show (561 : Int32).toInt = 561 from by decide) (fun c_23 => ?_) (fun c_23 => ?_)
        · skip
          refine lv_aload_n hx hb dX5_logs_49 rfl (lv_at hl 0 rfl) ?_
          refine va_get (v := .ref mn) (D := D) (ci := 5) (C := RX5) (T := TX5) (N := 14) hx hb hts (by decide +kernel) hown hK hP 0 rfl rfl 0 (by decide) (hts (.fieldLink RX5 7 "SpiralFramesModel" "now" "[I") (by decide +kernel)) (fun _ h9 => h9) rfl dX5_logs_50 ?_
          refine lv_sipush (v := 441) hx hb dX5_logs_53 (by decide) ?_
          refine lv_dup2_11 hx hb dX5_logs_56 rfl rfl ?_
          refine x_eqi (show (441 : Int32) = nI 441 from by decide) ?_
          refine x_iald hx hb hK hP 1 0 rfl rfl (k := 441) (by omega) (by decide) dX5_logs_57 ?_
          refine x_eqi (show (mkM D1 S1 R1 N1 (nI 8) f) 441 = (nI 8) from (mkM_K (by omega))) ?_
          refine lv_iconst (v := 1) hx hb dX5_logs_58 (by decide) ?_
          refine lv_isub hx hb dX5_logs_59 ?_
          refine x_eqi (show (nI 8) - 1 = nI (7) from x_eqN (x_subI (nI_toI (by omega)) (show (1 : Int32).toInt = 1 from by decide) (by omega) (by omega)) (by omega)) ?_
          refine x_eqi2 (show (441 : Int32) = nI 441 from by decide) ?_
          refine x_iastE hx hb hK hP hD hS 1 0 rfl rfl (k := 441) (g := mkM D1 S1 R1 N1 (nI 7) f) (upM_K (by omega)) (by omega) (by decide) dX5_logs_60 (fun H locs hP hD hS => ?_)
          have hP : va_P D vwCl [(mm, .inr (5, [.ref mn, .ref mh, .int kp, .ref ms, .int fl, .ref mr, .ref md, .ref mo, .ref mc, .int ty, .ref mt, .int at9, .int nu, .ref mq])), (mn, .inl (cI, 578, .inl (mkM D1 S1 R1 N1 (nI 7) f))), (mc, .inl (cI, 9, .inl (cq)))] H := hP
          have hD : va_D (Ar) [(mm, .inr (5, [.ref mn, .ref mh, .int kp, .ref ms, .int fl, .ref mr, .ref md, .ref mo, .ref mc, .int ty, .ref mt, .int at9, .int nu, .ref mq])), (mn, .inl (cI, 578, .inl (mkM D1 S1 R1 N1 (nI 7) f))), (mc, .inl (cI, 9, .inl (cq)))] := hD
          refine lv_sipush (v := 442) hx hb dX5_logs_61 (by decide) ?_
          refine lv_bipush (v := 17) hx hb dX5_logs_64 (by decide) ?_
          refine lv_aload_n hx hb dX5_logs_66 rfl (lv_at hl 0 rfl) ?_
          refine va_get (v := .ref mn) (D := D) (ci := 5) (C := RX5) (T := TX5) (N := 14) hx hb hts (by decide +kernel) hown hK hP 0 rfl rfl 0 (by decide) (hts (.fieldLink RX5 7 "SpiralFramesModel" "now" "[I") (by decide +kernel)) (fun _ h9 => h9) rfl dX5_logs_67 ?_
          refine lv_sipush (v := 441) hx hb dX5_logs_70 (by decide) ?_
          refine x_eqi (show (441 : Int32) = nI 441 from by decide) ?_
          refine x_iald hx hb hK hP 1 0 rfl rfl (k := 441) (by omega) (by decide) dX5_logs_73 ?_
          refine x_eqi (show (mkM D1 S1 R1 N1 (nI 7) f) 441 = (nI 7) from (mkM_K (by omega))) ?_
          refine lv_imul hx hb dX5_logs_74 ?_
          refine x_eqi (show 17 * nI 7 = nI (17 * 7) from pk_mul 17 7) ?_
          refine lv_iadd hx hb dX5_logs_75 ?_
          refine x_eqi (show 442 + nI (17 * 7) = nI (442 + (17 * 7)) from nI_add 442 (17 * 7)) ?_
          refine lv_istore (lv' := [(5, .int (nI (442 + (17 * 7)))), (0, .ref mm), (1, .int bt), (2, .int tol), (3, .int 0), (4, .int 0)]) hx hb dX5_logs_76 hl (by decide) rfl (fun ls hl => ?_)
          refine lv_aload_n hx hb dX5_logs_78 rfl (lv_at hl 1 rfl) ?_
          refine va_get (v := .ref mn) (D := D) (ci := 5) (C := RX5) (T := TX5) (N := 14) hx hb hts (by decide +kernel) hown hK hP 0 rfl rfl 0 (by decide) (hts (.fieldLink RX5 7 "SpiralFramesModel" "now" "[I") (by decide +kernel)) (fun _ h9 => h9) rfl dX5_logs_79 ?_
          refine lv_iload hx hb dX5_logs_82 (lv_at hl 0 rfl) ?_
          refine lv_iload_n hx hb dX5_logs_84 rfl (lv_at hl 2 rfl) ?_
          refine x_iastE hx hb hK hP hD hS 1 0 rfl rfl (k := 442 + (17 * 7)) (g := mkM D1 S1 R1 N1 (nI 7) (upd f (17 * 7) bt)) (upM_L (j := (17 * 7)) (by omega) (by omega)) (by omega) (by decide) dX5_logs_85 (fun H locs hP hD hS => ?_)
          have hP : va_P D vwCl [(mm, .inr (5, [.ref mn, .ref mh, .int kp, .ref ms, .int fl, .ref mr, .ref md, .ref mo, .ref mc, .int ty, .ref mt, .int at9, .int nu, .ref mq])), (mn, .inl (cI, 578, .inl (mkM D1 S1 R1 N1 (nI 7) (upd f (17 * 7) bt)))), (mc, .inl (cI, 9, .inl (cq)))] H := hP
          have hD : va_D (Ar) [(mm, .inr (5, [.ref mn, .ref mh, .int kp, .ref ms, .int fl, .ref mr, .ref md, .ref mo, .ref mc, .int ty, .ref mt, .int at9, .int nu, .ref mq])), (mn, .inl (cI, 578, .inl (mkM D1 S1 R1 N1 (nI 7) (upd f (17 * 7) bt)))), (mc, .inl (cI, 9, .inl (cq)))] := hD
          refine lv_aload_n hx hb dX5_logs_86 rfl (lv_at hl 1 rfl) ?_
          refine va_get (v := .ref mn) (D := D) (ci := 5) (C := RX5) (T := TX5) (N := 14) hx hb hts (by decide +kernel) hown hK hP 0 rfl rfl 0 (by decide) (hts (.fieldLink RX5 7 "SpiralFramesModel" "now" "[I") (by decide +kernel)) (fun _ h9 => h9) rfl dX5_logs_87 ?_
          refine lv_iload hx hb dX5_logs_90 (lv_at hl 0 rfl) ?_
          refine lv_iconst (v := 1) hx hb dX5_logs_92 (by decide) ?_
          refine lv_iadd hx hb dX5_logs_93 ?_
          refine x_eqi (show nI (442 + (17 * 7)) + 1 = nI ((442 + (17 * 7)) + 1) from nI_add (442 + (17 * 7)) 1) ?_
          refine lv_iload_n hx hb dX5_logs_94 rfl (lv_at hl 3 rfl) ?_
          refine x_iastE hx hb hK hP hD hS 1 0 rfl rfl (k := (442 + (17 * 7)) + 1) (g := mkM D1 S1 R1 N1 (nI 7) (upd (upd f (17 * 7) bt) (17 * 7 + 1) tol)) (upM_L (j := (17 * 7 + 1)) (by omega) (by omega)) (by omega) (by decide) dX5_logs_95 (fun H locs hP hD hS => ?_)
          have hP : va_P D vwCl [(mm, .inr (5, [.ref mn, .ref mh, .int kp, .ref ms, .int fl, .ref mr, .ref md, .ref mo, .ref mc, .int ty, .ref mt, .int at9, .int nu, .ref mq])), (mn, .inl (cI, 578, .inl (mkM D1 S1 R1 N1 (nI 7) (upd (upd f (17 * 7) bt) (17 * 7 + 1) tol)))), (mc, .inl (cI, 9, .inl (cq)))] H := hP
          have hD : va_D (Ar) [(mm, .inr (5, [.ref mn, .ref mh, .int kp, .ref ms, .int fl, .ref mr, .ref md, .ref mo, .ref mc, .int ty, .ref mt, .int at9, .int nu, .ref mq])), (mn, .inl (cI, 578, .inl (mkM D1 S1 R1 N1 (nI 7) (upd (upd f (17 * 7) bt) (17 * 7 + 1) tol)))), (mc, .inl (cI, 9, .inl (cq)))] := hD
          refine lv_aload_n hx hb dX5_logs_96 rfl (lv_at hl 1 rfl) ?_
          refine va_get (v := .ref mn) (D := D) (ci := 5) (C := RX5) (T := TX5) (N := 14) hx hb hts (by decide +kernel) hown hK hP 0 rfl rfl 0 (by decide) (hts (.fieldLink RX5 7 "SpiralFramesModel" "now" "[I") (by decide +kernel)) (fun _ h9 => h9) rfl dX5_logs_97 ?_
          refine lv_iload hx hb dX5_logs_100 (lv_at hl 0 rfl) ?_
          refine lv_iconst (v := 2) hx hb dX5_logs_102 (by decide) ?_
          refine lv_iadd hx hb dX5_logs_103 ?_
          refine x_eqi (show nI (442 + (17 * 7)) + 2 = nI ((442 + (17 * 7)) + 2) from nI_add (442 + (17 * 7)) 2) ?_
          refine lv_iload_n hx hb dX5_logs_104 rfl (lv_at hl 4 rfl) ?_
          refine lv_if_eq (tgt := 112) hx hb dX5_logs_105 (by decide) (fun _ => ?_) (fun h => False.elim (by revert h; decide))
          refine lv_iconst (v := 0) hx hb dX5_logs_112 (by decide) ?_
          refine x_iastE hx hb hK hP hD hS 1 0 rfl rfl (k := (442 + (17 * 7)) + 2) (g := mkM D1 S1 R1 N1 (nI 7) (upd (upd (upd f (17 * 7) bt) (17 * 7 + 1) tol) (17 * 7 + 2) 0)) (upM_L (j := (17 * 7 + 2)) (by omega) (by omega)) (by omega) (by decide) dX5_logs_113 (fun H locs hP hD hS => ?_)
          have hP : va_P D vwCl [(mm, .inr (5, [.ref mn, .ref mh, .int kp, .ref ms, .int fl, .ref mr, .ref md, .ref mo, .ref mc, .int ty, .ref mt, .int at9, .int nu, .ref mq])), (mn, .inl (cI, 578, .inl (mkM D1 S1 R1 N1 (nI 7) (upd (upd (upd f (17 * 7) bt) (17 * 7 + 1) tol) (17 * 7 + 2) 0)))), (mc, .inl (cI, 9, .inl (cq)))] H := hP
          have hD : va_D (Ar) [(mm, .inr (5, [.ref mn, .ref mh, .int kp, .ref ms, .int fl, .ref mr, .ref md, .ref mo, .ref mc, .int ty, .ref mt, .int at9, .int nu, .ref mq])), (mn, .inl (cI, 578, .inl (mkM D1 S1 R1 N1 (nI 7) (upd (upd (upd f (17 * 7) bt) (17 * 7 + 1) tol) (17 * 7 + 2) 0)))), (mc, .inl (cI, 9, .inl (cq)))] := hD
          refine lv_aload_n hx hb dX5_logs_114 rfl (lv_at hl 1 rfl) ?_
          refine va_get (v := .ref mn) (D := D) (ci := 5) (C := RX5) (T := TX5) (N := 14) hx hb hts (by decide +kernel) hown hK hP 0 rfl rfl 0 (by decide) (hts (.fieldLink RX5 7 "SpiralFramesModel" "now" "[I") (by decide +kernel)) (fun _ h9 => h9) rfl dX5_logs_115 ?_
          refine lv_iload hx hb dX5_logs_118 (lv_at hl 0 rfl) ?_
          refine lv_iconst (v := 3) hx hb dX5_logs_120 (by decide) ?_
          refine lv_iadd hx hb dX5_logs_121 ?_
          refine x_eqi (show nI (442 + (17 * 7)) + 3 = nI ((442 + (17 * 7)) + 3) from nI_add (442 + (17 * 7)) 3) ?_
          refine lv_iload hx hb dX5_logs_122 (lv_at hl 5 rfl) ?_
          refine lv_if_eq (tgt := 131) hx hb dX5_logs_124 (by decide) (fun _ => ?_) (fun h => False.elim (by revert h; decide))
          refine lv_iconst (v := 0) hx hb dX5_logs_131 (by decide) ?_
          refine x_iastE hx hb hK hP hD hS 1 0 rfl rfl (k := (442 + (17 * 7)) + 3) (g := mkM D1 S1 R1 N1 (nI 7) (upd (upd (upd (upd f (17 * 7) bt) (17 * 7 + 1) tol) (17 * 7 + 2) 0) (17 * 7 + 3) 0)) (upM_L (j := (17 * 7 + 3)) (by omega) (by omega)) (by omega) (by decide) dX5_logs_132 (fun H locs hP hD hS => ?_)
          have hP : va_P D vwCl [(mm, .inr (5, [.ref mn, .ref mh, .int kp, .ref ms, .int fl, .ref mr, .ref md, .ref mo, .ref mc, .int ty, .ref mt, .int at9, .int nu, .ref mq])), (mn, .inl (cI, 578, .inl (mkM D1 S1 R1 N1 (nI 7) (upd (upd (upd (upd f (17 * 7) bt) (17 * 7 + 1) tol) (17 * 7 + 2) 0) (17 * 7 + 3) 0)))), (mc, .inl (cI, 9, .inl (cq)))] H := hP
          have hD : va_D (Ar) [(mm, .inr (5, [.ref mn, .ref mh, .int kp, .ref ms, .int fl, .ref mr, .ref md, .ref mo, .ref mc, .int ty, .ref mt, .int at9, .int nu, .ref mq])), (mn, .inl (cI, 578, .inl (mkM D1 S1 R1 N1 (nI 7) (upd (upd (upd (upd f (17 * 7) bt) (17 * 7 + 1) tol) (17 * 7 + 2) 0) (17 * 7 + 3) 0)))), (mc, .inl (cI, 9, .inl (cq)))] := hD
          refine lv_aload_n hx hb dX5_logs_133 rfl (lv_at hl 1 rfl) ?_
          refine va_get (v := .ref mn) (D := D) (ci := 5) (C := RX5) (T := TX5) (N := 14) hx hb hts (by decide +kernel) hown hK hP 0 rfl rfl 0 (by decide) (hts (.fieldLink RX5 7 "SpiralFramesModel" "now" "[I") (by decide +kernel)) (fun _ h9 => h9) rfl dX5_logs_134 ?_
          refine lv_iload hx hb dX5_logs_137 (lv_at hl 0 rfl) ?_
          refine lv_iconst (v := 4) hx hb dX5_logs_139 (by decide) ?_
          refine lv_iadd hx hb dX5_logs_140 ?_
          refine x_eqi (show nI (442 + (17 * 7)) + 4 = nI ((442 + (17 * 7)) + 4) from nI_add (442 + (17 * 7)) 4) ?_
          refine lv_iconst (v := 0) hx hb dX5_logs_141 (by decide) ?_
          refine x_iastE hx hb hK hP hD hS 1 0 rfl rfl (k := (442 + (17 * 7)) + 4) (g := mkM D1 S1 R1 N1 (nI 7) (upd (upd (upd (upd (upd f (17 * 7) bt) (17 * 7 + 1) tol) (17 * 7 + 2) 0) (17 * 7 + 3) 0) (17 * 7 + 4) 0)) (upM_L (j := (17 * 7 + 4)) (by omega) (by omega)) (by omega) (by decide) dX5_logs_142 (fun H locs hP hD hS => ?_)
          have hP : va_P D vwCl [(mm, .inr (5, [.ref mn, .ref mh, .int kp, .ref ms, .int fl, .ref mr, .ref md, .ref mo, .ref mc, .int ty, .ref mt, .int at9, .int nu, .ref mq])), (mn, .inl (cI, 578, .inl (mkM D1 S1 R1 N1 (nI 7) (upd (upd (upd (upd (upd f (17 * 7) bt) (17 * 7 + 1) tol) (17 * 7 + 2) 0) (17 * 7 + 3) 0) (17 * 7 + 4) 0)))), (mc, .inl (cI, 9, .inl (cq)))] H := hP
          have hD : va_D (Ar) [(mm, .inr (5, [.ref mn, .ref mh, .int kp, .ref ms, .int fl, .ref mr, .ref md, .ref mo, .ref mc, .int ty, .ref mt, .int at9, .int nu, .ref mq])), (mn, .inl (cI, 578, .inl (mkM D1 S1 R1 N1 (nI 7) (upd (upd (upd (upd (upd f (17 * 7) bt) (17 * 7 + 1) tol) (17 * 7 + 2) 0) (17 * 7 + 3) 0) (17 * 7 + 4) 0)))), (mc, .inl (cI, 9, .inl (cq)))] := hD
          refine lv_aload_n hx hb dX5_logs_143 rfl (lv_at hl 1 rfl) ?_
          refine va_get (v := .ref mn) (D := D) (ci := 5) (C := RX5) (T := TX5) (N := 14) hx hb hts (by decide +kernel) hown hK hP 0 rfl rfl 0 (by decide) (hts (.fieldLink RX5 7 "SpiralFramesModel" "now" "[I") (by decide +kernel)) (fun _ h9 => h9) rfl dX5_logs_144 ?_
          refine lv_iload hx hb dX5_logs_147 (lv_at hl 0 rfl) ?_
          refine lv_iconst (v := 5) hx hb dX5_logs_149 (by decide) ?_
          refine lv_iadd hx hb dX5_logs_150 ?_
          refine x_eqi (show nI (442 + (17 * 7)) + 5 = nI ((442 + (17 * 7)) + 5) from nI_add (442 + (17 * 7)) 5) ?_
          refine lv_iconst (v := 0) hx hb dX5_logs_151 (by decide) ?_
          refine x_iastE hx hb hK hP hD hS 1 0 rfl rfl (k := (442 + (17 * 7)) + 5) (g := mkM D1 S1 R1 N1 (nI 7) (upd (upd (upd (upd (upd (upd f (17 * 7) bt) (17 * 7 + 1) tol) (17 * 7 + 2) 0) (17 * 7 + 3) 0) (17 * 7 + 4) 0) (17 * 7 + 5) 0)) (upM_L (j := (17 * 7 + 5)) (by omega) (by omega)) (by omega) (by decide) dX5_logs_152 (fun H locs hP hD hS => ?_)
          have hP : va_P D vwCl [(mm, .inr (5, [.ref mn, .ref mh, .int kp, .ref ms, .int fl, .ref mr, .ref md, .ref mo, .ref mc, .int ty, .ref mt, .int at9, .int nu, .ref mq])), (mn, .inl (cI, 578, .inl (mkM D1 S1 R1 N1 (nI 7) (upd (upd (upd (upd (upd (upd f (17 * 7) bt) (17 * 7 + 1) tol) (17 * 7 + 2) 0) (17 * 7 + 3) 0) (17 * 7 + 4) 0) (17 * 7 + 5) 0)))), (mc, .inl (cI, 9, .inl (cq)))] H := hP
          have hD : va_D (Ar) [(mm, .inr (5, [.ref mn, .ref mh, .int kp, .ref ms, .int fl, .ref mr, .ref md, .ref mo, .ref mc, .int ty, .ref mt, .int at9, .int nu, .ref mq])), (mn, .inl (cI, 578, .inl (mkM D1 S1 R1 N1 (nI 7) (upd (upd (upd (upd (upd (upd f (17 * 7) bt) (17 * 7 + 1) tol) (17 * 7 + 2) 0) (17 * 7 + 3) 0) (17 * 7 + 4) 0) (17 * 7 + 5) 0)))), (mc, .inl (cI, 9, .inl (cq)))] := hD
          refine lv_aload_n hx hb dX5_logs_153 rfl (lv_at hl 1 rfl) ?_
          refine va_get (v := .ref mn) (D := D) (ci := 5) (C := RX5) (T := TX5) (N := 14) hx hb hts (by decide +kernel) hown hK hP 0 rfl rfl 0 (by decide) (hts (.fieldLink RX5 7 "SpiralFramesModel" "now" "[I") (by decide +kernel)) (fun _ h9 => h9) rfl dX5_logs_154 ?_
          refine lv_iload hx hb dX5_logs_157 (lv_at hl 0 rfl) ?_
          refine lv_bipush (v := 6) hx hb dX5_logs_159 (by decide) ?_
          refine lv_iadd hx hb dX5_logs_161 ?_
          refine x_eqi (show nI (442 + (17 * 7)) + 6 = nI ((442 + (17 * 7)) + 6) from nI_add (442 + (17 * 7)) 6) ?_
          refine lv_iconst (v := 0) hx hb dX5_logs_162 (by decide) ?_
          refine x_iastE hx hb hK hP hD hS 1 0 rfl rfl (k := (442 + (17 * 7)) + 6) (g := mkM D1 S1 R1 N1 (nI 7) (upd (upd (upd (upd (upd (upd (upd f (17 * 7) bt) (17 * 7 + 1) tol) (17 * 7 + 2) 0) (17 * 7 + 3) 0) (17 * 7 + 4) 0) (17 * 7 + 5) 0) (17 * 7 + 6) 0)) (upM_L (j := (17 * 7 + 6)) (by omega) (by omega)) (by omega) (by decide) dX5_logs_163 (fun H locs hP hD hS => ?_)
          have hP : va_P D vwCl [(mm, .inr (5, [.ref mn, .ref mh, .int kp, .ref ms, .int fl, .ref mr, .ref md, .ref mo, .ref mc, .int ty, .ref mt, .int at9, .int nu, .ref mq])), (mn, .inl (cI, 578, .inl (mkM D1 S1 R1 N1 (nI 7) (upd (upd (upd (upd (upd (upd (upd f (17 * 7) bt) (17 * 7 + 1) tol) (17 * 7 + 2) 0) (17 * 7 + 3) 0) (17 * 7 + 4) 0) (17 * 7 + 5) 0) (17 * 7 + 6) 0)))), (mc, .inl (cI, 9, .inl (cq)))] H := hP
          have hD : va_D (Ar) [(mm, .inr (5, [.ref mn, .ref mh, .int kp, .ref ms, .int fl, .ref mr, .ref md, .ref mo, .ref mc, .int ty, .ref mt, .int at9, .int nu, .ref mq])), (mn, .inl (cI, 578, .inl (mkM D1 S1 R1 N1 (nI 7) (upd (upd (upd (upd (upd (upd (upd f (17 * 7) bt) (17 * 7 + 1) tol) (17 * 7 + 2) 0) (17 * 7 + 3) 0) (17 * 7 + 4) 0) (17 * 7 + 5) 0) (17 * 7 + 6) 0)))), (mc, .inl (cI, 9, .inl (cq)))] := hD
          refine lv_iconst (v := 0) hx hb dX5_logs_164 (by decide) ?_
          refine lv_istore (lv' := [(6, .int 0), (5, .int (nI (442 + (17 * 7)))), (0, .ref mm), (1, .int bt), (2, .int tol), (3, .int 0), (4, .int 0)]) hx hb dX5_logs_165 hl (by decide) rfl (fun ls hl => ?_)
          have L167 : ∀ (fuel : Nat) (t : Nat) (g : Nat → Int32), (t ≤ 9) → (g = lgX f (17 * 7) bt tol (nI 0) (nI 0) cd t) → 9 - t < fuel → ∀ (H : Heap) (locs : List Loc), va_P D vwCl [(mm, .inr (5, [.ref mn, .ref mh, .int kp, .ref ms, .int fl, .ref mr, .ref md, .ref mo, .ref mc, .int ty, .ref mt, .int at9, .int nu, .ref mq])), (mn, .inl (cI, 578, .inl (mkM D1 S1 R1 N1 (nI 7) g))), (mc, .inl (cI, 9, .inl (cq)))] H → va_D (Ar) [(mm, .inr (5, [.ref mn, .ref mh, .int kp, .ref ms, .int fl, .ref mr, .ref md, .ref mo, .ref mc, .int ty, .ref mt, .int at9, .int nu, .ref mq])), (mn, .inl (cI, 578, .inl (mkM D1 S1 R1 N1 (nI 7) g))), (mc, .inl (cI, 9, .inl (cq)))] → va_S (Ar) s.heap H locs → ∀ (ls : Array Slot), lv_has ls 8 [(0, .ref mm), (5, .int (nI (442 + 17 * 7))), (6, .int (nI t))] → W p l e (headSpec wsX5_logs ({ frames := 4, cells := 0, slots := 0, locals := 98 } : Room)).room s m ([.ref mm, .int bt, .int tol, .int 0, .int 0] : List Value).toArray below meth c H locs 0 0 Q (F0 m 167 ls []) := by
            intro fuel
            induction fuel with
            | zero =>
              intro t g hi167_0 hi167_1 hfu
              exact absurd hfu (Nat.not_lt_zero _)
            | succ fuel ih167 =>
              intro t g hi167_0 hi167_1 hfu167 H locs hP hD hS ls hl
              refine lv_iload hx hb dX5_logs_167 (lv_at hl 2 rfl) ?_
              refine lv_bipush (v := 9) hx hb dX5_logs_169 (by decide) ?_
              refine x_icmp_ge (tgt := 249) hx hb dX5_logs_171 (by decide) (X := ((t : Nat) : Int)) (nI_toI (by omega)) (Y := 9) (show (9 : Int32).toInt = 9 from by decide) (fun c_171 => ?_) (fun c_171 => ?_)
              · skip
                refine lv_aload_n hx hb dX5_logs_249 rfl (lv_at hl 0 rfl) ?_
                refine va_get (v := .ref mn) (D := D) (ci := 5) (C := RX5) (T := TX5) (N := 14) hx hb hts (by decide +kernel) hown hK hP 0 rfl rfl 0 (by decide) (hts (.fieldLink RX5 7 "SpiralFramesModel" "now" "[I") (by decide +kernel)) (fun _ h9 => h9) rfl dX5_logs_250 ?_
                refine lv_iload hx hb dX5_logs_253 (lv_at hl 1 rfl) ?_
                refine lv_bipush (v := 7) hx hb dX5_logs_255 (by decide) ?_
                refine lv_iadd hx hb dX5_logs_257 ?_
                refine x_eqi (show nI (442 + 17 * 7) + 7 = nI ((442 + 17 * 7) + 7) from nI_add (442 + 17 * 7) 7) ?_
                refine lv_aload_n hx hb dX5_logs_258 rfl (lv_at hl 0 rfl) ?_
                refine lv_iconst (v := 0) hx hb dX5_logs_259 (by decide) ?_
                refine lv_iconst (v := 1) hx hb dX5_logs_260 (by decide) ?_
                refine x_callR (va_runV (As := [.int 0, .int 1]) (rest := [.int (nI ((442 + 17 * 7) + 7)), .ref mn]) ⟨hx, hb, hml, hown, hts⟩ (c_X5_whole l D cI cC cS tt mm mn mh ms mr md mo mc mt mq kp fl ty at9 nu D1 S1 R1 N1 (nI 7) g 0 1 (by first | omega | assumption | decide) (by first | omega | assumption | decide)) (cwV 2 hts gX5_logs_X5_whole rfl rfl rfl (by decide +kernel) ⟨Nat.le_of_ble_eq_true rfl, Nat.le_of_ble_eq_true rfl⟩) ⟨x_blindR, va_recv hK hP (ci := 5) (q0 := 0) rfl rfl, x_preR (hP.sub (ws' := [(mm, .inr (5, [.ref mn, .ref mh, .int kp, .ref ms, .int fl, .ref mr, .ref md, .ref mo, .ref mc, .int ty, .ref mt, .int at9, .int nu, .ref mq])), (mn, .inl (cI, 578, .inl (mkM D1 S1 R1 N1 (nI 7) g)))]) [0, 1] rfl) hK hE hS⟩ rfl rfl hl.1 rfl (lv_room (Nat.le_of_ble_eq_true rfl)) dX5_logs_261 ⟨(Nat.le_of_ble_eq_true rfl), (Nat.le_of_ble_eq_true rfl)⟩) ?_
                refine x_eqi (show wdS (pkN D1 S1 R1 0) (pkN D1 S1 R1 1) = wdS D1 S1 from rfl) ?_
                refine x_iastE hx hb hK hP hD hS 1 0 rfl rfl (k := (442 + 17 * 7) + 7) (g := mkM D1 S1 R1 N1 (nI 7) (upd g (17 * 7 + 7) (wdS D1 S1))) (upM_L (j := (17 * 7 + 7)) (by omega) (by omega)) (by omega) (by decide) dX5_logs_264 (fun H locs hP hD hS => ?_)
                have hP : va_P D vwCl [(mm, .inr (5, [.ref mn, .ref mh, .int kp, .ref ms, .int fl, .ref mr, .ref md, .ref mo, .ref mc, .int ty, .ref mt, .int at9, .int nu, .ref mq])), (mn, .inl (cI, 578, .inl (mkM D1 S1 R1 N1 (nI 7) (upd g (17 * 7 + 7) (wdS D1 S1))))), (mc, .inl (cI, 9, .inl (cq)))] H := hP
                have hD : va_D (Ar) [(mm, .inr (5, [.ref mn, .ref mh, .int kp, .ref ms, .int fl, .ref mr, .ref md, .ref mo, .ref mc, .int ty, .ref mt, .int at9, .int nu, .ref mq])), (mn, .inl (cI, 578, .inl (mkM D1 S1 R1 N1 (nI 7) (upd g (17 * 7 + 7) (wdS D1 S1))))), (mc, .inl (cI, 9, .inl (cq)))] := hD
                refine lv_aload_n hx hb dX5_logs_265 rfl (lv_at hl 0 rfl) ?_
                refine va_get (v := .ref mn) (D := D) (ci := 5) (C := RX5) (T := TX5) (N := 14) hx hb hts (by decide +kernel) hown hK hP 0 rfl rfl 0 (by decide) (hts (.fieldLink RX5 7 "SpiralFramesModel" "now" "[I") (by decide +kernel)) (fun _ h9 => h9) rfl dX5_logs_266 ?_
                refine lv_sipush (v := 441) hx hb dX5_logs_269 (by decide) ?_
                refine lv_dup2_11 hx hb dX5_logs_272 rfl rfl ?_
                refine x_eqi (show (441 : Int32) = nI 441 from by decide) ?_
                refine x_iald hx hb hK hP 1 0 rfl rfl (k := 441) (by omega) (by decide) dX5_logs_273 ?_
                refine x_eqi (show (mkM D1 S1 R1 N1 (nI 7) (upd g (17 * 7 + 7) (wdS D1 S1))) 441 = (nI 7) from (mkM_K (by omega))) ?_
                refine lv_iconst (v := 1) hx hb dX5_logs_274 (by decide) ?_
                refine lv_iadd hx hb dX5_logs_275 ?_
                refine x_eqi (show nI 7 + 1 = nI (7 + 1) from nI_add 7 1) ?_
                refine x_eqi2 (show (441 : Int32) = nI 441 from by decide) ?_
                refine x_iastE hx hb hK hP hD hS 1 0 rfl rfl (k := 441) (g := mkM D1 S1 R1 N1 (nI (7 + 1)) (upd g (17 * 7 + 7) (wdS D1 S1))) (upM_K (by omega)) (by omega) (by decide) dX5_logs_276 (fun H locs hP hD hS => ?_)
                have hP : va_P D vwCl [(mm, .inr (5, [.ref mn, .ref mh, .int kp, .ref ms, .int fl, .ref mr, .ref md, .ref mo, .ref mc, .int ty, .ref mt, .int at9, .int nu, .ref mq])), (mn, .inl (cI, 578, .inl (mkM D1 S1 R1 N1 (nI (7 + 1)) (upd g (17 * 7 + 7) (wdS D1 S1))))), (mc, .inl (cI, 9, .inl (cq)))] H := hP
                have hD : va_D (Ar) [(mm, .inr (5, [.ref mn, .ref mh, .int kp, .ref ms, .int fl, .ref mr, .ref md, .ref mo, .ref mc, .int ty, .ref mt, .int at9, .int nu, .ref mq])), (mn, .inl (cI, 578, .inl (mkM D1 S1 R1 N1 (nI (7 + 1)) (upd g (17 * 7 + 7) (wdS D1 S1))))), (mc, .inl (cI, 9, .inl (cq)))] := hD
                refine x_vretW (w := [(mm, .inr (5, [.ref mn, .ref mh, .int kp, .ref ms, .int fl, .ref mr, .ref md, .ref mo, .ref mc, .int ty, .ref mt, .int at9, .int nu, .ref mq])), (mn, .inl (cI, 578, .inl (mkM D1 S1 R1 N1 (nI (7 + 1)) (upd g (17 * 7 + 7) (wdS D1 S1))))), (mc, .inl (cI, 9, .inl (cq)))]) hQ hAe hx hb hr hlocks (hP.sub [0, 1, 2] rfl) (hD.sub [0, 1, 2] (by decide) rfl) hS ?_ dX5_logs_277
                have e9 : upd g (17 * 7 + 7) (wdS D1 S1) = lgM L1 8 (lgR bt tol 0 0 cd (wdS D1 S1)) := by rw [hi167_1, show t = 9 by omega, lgX_e, hi18_2, show j - 442 = 119 by omega]; rfl
                rw [e9]
                rfl
              · skip
                refine lv_aload_n hx hb dX5_logs_174 rfl (lv_at hl 0 rfl) ?_
                refine va_get (v := .ref mc) (D := D) (ci := 5) (C := RX5) (T := TX5) (N := 14) hx hb hts (by decide +kernel) hown hK hP 0 rfl rfl 8 (by decide) (hts (.fieldLink RX5 28 "SpiralFramesModel" "codes" "[I") (by decide +kernel)) (fun _ h9 => h9) rfl dX5_logs_175 ?_
                refine lv_iload hx hb dX5_logs_178 (lv_at hl 2 rfl) ?_
                refine x_iald hx hb hK hP 2 0 rfl rfl (k := t) (by omega) (by decide) dX5_logs_180 ?_
                refine x_eqi (show cq t = nI (cd t) from hh0 t (by omega)) ?_
                have cd25 := hh1 t
                refine x_if_ne (tgt := 188) hx hb dX5_logs_181 (by decide) (X := ((cd t : Nat) : Int)) (nI_toI (by omega)) (fun c_181 => ?_) (fun c_181 => ?_)
                · skip
                  refine lv_aload_n hx hb dX5_logs_188 rfl (lv_at hl 0 rfl) ?_
                  refine va_get (v := .ref mc) (D := D) (ci := 5) (C := RX5) (T := TX5) (N := 14) hx hb hts (by decide +kernel) hown hK hP 0 rfl rfl 8 (by decide) (hts (.fieldLink RX5 28 "SpiralFramesModel" "codes" "[I") (by decide +kernel)) (fun _ h9 => h9) rfl dX5_logs_189 ?_
                  refine lv_iload hx hb dX5_logs_192 (lv_at hl 2 rfl) ?_
                  refine x_iald hx hb hK hP 2 0 rfl rfl (k := t) (by omega) (by decide) dX5_logs_194 ?_
                  refine x_eqi (show cq t = nI (cd t) from hh0 t (by omega)) ?_
                  refine lv_bipush (v := 25) hx hb dX5_logs_195 (by decide) ?_
                  refine x_icmp_ne (tgt := 204) hx hb dX5_logs_197 (by decide) (X := ((cd t : Nat) : Int)) (nI_toI (by omega)) (Y := 25) (show (25 : Int32).toInt = 25 from by decide) (fun c_197 => ?_) (fun c_197 => ?_)
                  · skip
                    refine lv_iconst (v := 1) hx hb dX5_logs_204 (by decide) ?_
                    refine lv_istore (lv' := [(7, .int 1), (0, .ref mm), (5, .int (nI (442 + 17 * 7))), (6, .int (nI t))]) hx hb dX5_logs_205 hl (by decide) rfl (fun ls hl => ?_)
                    refine lv_aload_n hx hb dX5_logs_207 rfl (lv_at hl 1 rfl) ?_
                    refine va_get (v := .ref mn) (D := D) (ci := 5) (C := RX5) (T := TX5) (N := 14) hx hb hts (by decide +kernel) hown hK hP 0 rfl rfl 0 (by decide) (hts (.fieldLink RX5 7 "SpiralFramesModel" "now" "[I") (by decide +kernel)) (fun _ h9 => h9) rfl dX5_logs_208 ?_
                    refine lv_iload hx hb dX5_logs_211 (lv_at hl 2 rfl) ?_
                    refine lv_iconst (v := 4) hx hb dX5_logs_213 (by decide) ?_
                    refine lv_iadd hx hb dX5_logs_214 ?_
                    refine x_eqi (show nI (442 + 17 * 7) + 4 = nI ((442 + 17 * 7) + 4) from nI_add (442 + 17 * 7) 4) ?_
                    refine lv_iload hx hb dX5_logs_215 (lv_at hl 0 rfl) ?_
                    refine lv_iadd hx hb dX5_logs_217 ?_
                    refine x_eqi (show nI ((442 + 17 * 7) + 4) + 1 = nI (((442 + 17 * 7) + 4) + 1) from nI_add ((442 + 17 * 7) + 4) 1) ?_
                    refine lv_dup2_11 hx hb dX5_logs_218 rfl rfl ?_
                    refine x_iald hx hb hK hP 1 0 rfl rfl (k := ((442 + 17 * 7) + 4) + 1) (by omega) (by decide) dX5_logs_219 ?_
                    refine x_eqi (show (mkM D1 S1 R1 N1 (nI 7) g) (((442 + 17 * 7) + 4) + 1) = g (17 * 7 + 4 + 1) from (mkM_L (j := (17 * 7 + 4 + 1)) (by omega) (by omega))) ?_
                    refine lv_iconst (v := 1) hx hb dX5_logs_220 (by decide) ?_
                    refine lv_iadd hx hb dX5_logs_221 ?_
                    refine x_iastE hx hb hK hP hD hS 1 0 rfl rfl (k := ((442 + 17 * 7) + 4) + 1) (g := mkM D1 S1 R1 N1 (nI 7) (upd g (17 * 7 + 4 + 1) ((g (17 * 7 + 4 + 1)) + 1))) (upM_L (j := (17 * 7 + 4 + 1)) (by omega) (by omega)) (by omega) (by decide) dX5_logs_222 (fun H locs hP hD hS => ?_)
                    have hP : va_P D vwCl [(mm, .inr (5, [.ref mn, .ref mh, .int kp, .ref ms, .int fl, .ref mr, .ref md, .ref mo, .ref mc, .int ty, .ref mt, .int at9, .int nu, .ref mq])), (mn, .inl (cI, 578, .inl (mkM D1 S1 R1 N1 (nI 7) (upd g (17 * 7 + 4 + 1) ((g (17 * 7 + 4 + 1)) + 1))))), (mc, .inl (cI, 9, .inl (cq)))] H := hP
                    have hD : va_D (Ar) [(mm, .inr (5, [.ref mn, .ref mh, .int kp, .ref ms, .int fl, .ref mr, .ref md, .ref mo, .ref mc, .int ty, .ref mt, .int at9, .int nu, .ref mq])), (mn, .inl (cI, 578, .inl (mkM D1 S1 R1 N1 (nI 7) (upd g (17 * 7 + 4 + 1) ((g (17 * 7 + 4 + 1)) + 1))))), (mc, .inl (cI, 9, .inl (cq)))] := hD
                    refine lv_aload_n hx hb dX5_logs_223 rfl (lv_at hl 1 rfl) ?_
                    refine va_get (v := .ref mn) (D := D) (ci := 5) (C := RX5) (T := TX5) (N := 14) hx hb hts (by decide +kernel) hown hK hP 0 rfl rfl 0 (by decide) (hts (.fieldLink RX5 7 "SpiralFramesModel" "now" "[I") (by decide +kernel)) (fun _ h9 => h9) rfl dX5_logs_224 ?_
                    refine lv_iload hx hb dX5_logs_227 (lv_at hl 2 rfl) ?_
                    refine lv_bipush (v := 8) hx hb dX5_logs_229 (by decide) ?_
                    refine lv_iadd hx hb dX5_logs_231 ?_
                    refine x_eqi (show nI (442 + 17 * 7) + 8 = nI ((442 + 17 * 7) + 8) from nI_add (442 + 17 * 7) 8) ?_
                    refine lv_iload hx hb dX5_logs_232 (lv_at hl 3 rfl) ?_
                    refine lv_iadd hx hb dX5_logs_234 ?_
                    refine x_eqi (show nI ((442 + 17 * 7) + 8) + nI t = nI (((442 + 17 * 7) + 8) + t) from nI_add ((442 + 17 * 7) + 8) t) ?_
                    refine lv_aload_n hx hb dX5_logs_235 rfl (lv_at hl 1 rfl) ?_
                    refine va_get (v := .ref mc) (D := D) (ci := 5) (C := RX5) (T := TX5) (N := 14) hx hb hts (by decide +kernel) hown hK hP 0 rfl rfl 8 (by decide) (hts (.fieldLink RX5 28 "SpiralFramesModel" "codes" "[I") (by decide +kernel)) (fun _ h9 => h9) rfl dX5_logs_236 ?_
                    refine lv_iload hx hb dX5_logs_239 (lv_at hl 3 rfl) ?_
                    refine x_iald hx hb hK hP 2 0 rfl rfl (k := t) (by omega) (by decide) dX5_logs_241 ?_
                    refine x_eqi (show cq t = nI (cd t) from hh0 t (by omega)) ?_
                    refine x_iastE hx hb hK hP hD hS 1 0 rfl rfl (k := ((442 + 17 * 7) + 8) + t) (g := mkM D1 S1 R1 N1 (nI 7) (upd (upd g (17 * 7 + 4 + 1) ((g (17 * 7 + 4 + 1)) + 1)) (17 * 7 + 8 + t) (nI (cd t)))) (upM_L (j := (17 * 7 + 8 + t)) (by omega) (by omega)) (by omega) (by decide) dX5_logs_242 (fun H locs hP hD hS => ?_)
                    have hP : va_P D vwCl [(mm, .inr (5, [.ref mn, .ref mh, .int kp, .ref ms, .int fl, .ref mr, .ref md, .ref mo, .ref mc, .int ty, .ref mt, .int at9, .int nu, .ref mq])), (mn, .inl (cI, 578, .inl (mkM D1 S1 R1 N1 (nI 7) (upd (upd g (17 * 7 + 4 + 1) ((g (17 * 7 + 4 + 1)) + 1)) (17 * 7 + 8 + t) (nI (cd t)))))), (mc, .inl (cI, 9, .inl (cq)))] H := hP
                    have hD : va_D (Ar) [(mm, .inr (5, [.ref mn, .ref mh, .int kp, .ref ms, .int fl, .ref mr, .ref md, .ref mo, .ref mc, .int ty, .ref mt, .int at9, .int nu, .ref mq])), (mn, .inl (cI, 578, .inl (mkM D1 S1 R1 N1 (nI 7) (upd (upd g (17 * 7 + 4 + 1) ((g (17 * 7 + 4 + 1)) + 1)) (17 * 7 + 8 + t) (nI (cd t)))))), (mc, .inl (cI, 9, .inl (cq)))] := hD
                    refine lv_iinc (v := nI (t + 1)) (lv' := [(6, .int (nI (t + 1))), (7, .int 1), (0, .ref mm), (5, .int (nI (442 + 17 * 7)))]) hx hb dX5_logs_243 hl (k := 3) rfl (nI_add _ _) (by decide) rfl (fun ls hl => ?_)
                    refine lv_goto (tgt := 167) hx hb dX5_logs_246 (by decide) ?_
                    exact ih167 (t + 1) (upd (upd g (17 * 7 + 4 + 1) ((g (17 * 7 + 4 + 1)) + 1)) (17 * 7 + 8 + t) (nI (cd t))) (by first | omega | assumption | rfl) (by rw [hi167_1]; first | exact lgX_s (kind := 0) (by omega) (by unfold kdN; rw [if_pos (by omega)]) (congrArg (fun z => z + 1) (lgX_k (by omega))) rfl | exact lgX_s (kind := 1) (by omega) (by unfold kdN; rw [if_neg (by omega), if_neg (by omega)]) (congrArg (fun z => z + 1) (lgX_k (by omega))) rfl | exact lgX_s (kind := 2) (by omega) (by unfold kdN; rw [if_neg (by omega), if_pos (by omega)]) (congrArg (fun z => z + 1) (lgX_k (by omega))) rfl) (by omega) H locs (hP.sub [0, 1, 2] rfl) (hD.sub [0, 1, 2] (by decide) rfl) hS ls (lv_sub hl [2, 3, 0] rfl)
                  · skip
                    refine lv_iconst (v := 2) hx hb dX5_logs_200 (by decide) ?_
                    refine lv_goto (tgt := 205) hx hb dX5_logs_201 (by decide) ?_
                    refine lv_istore (lv' := [(7, .int 2), (0, .ref mm), (5, .int (nI (442 + 17 * 7))), (6, .int (nI t))]) hx hb dX5_logs_205 hl (by decide) rfl (fun ls hl => ?_)
                    refine lv_aload_n hx hb dX5_logs_207 rfl (lv_at hl 1 rfl) ?_
                    refine va_get (v := .ref mn) (D := D) (ci := 5) (C := RX5) (T := TX5) (N := 14) hx hb hts (by decide +kernel) hown hK hP 0 rfl rfl 0 (by decide) (hts (.fieldLink RX5 7 "SpiralFramesModel" "now" "[I") (by decide +kernel)) (fun _ h9 => h9) rfl dX5_logs_208 ?_
                    refine lv_iload hx hb dX5_logs_211 (lv_at hl 2 rfl) ?_
                    refine lv_iconst (v := 4) hx hb dX5_logs_213 (by decide) ?_
                    refine lv_iadd hx hb dX5_logs_214 ?_
                    refine x_eqi (show nI (442 + 17 * 7) + 4 = nI ((442 + 17 * 7) + 4) from nI_add (442 + 17 * 7) 4) ?_
                    refine lv_iload hx hb dX5_logs_215 (lv_at hl 0 rfl) ?_
                    refine lv_iadd hx hb dX5_logs_217 ?_
                    refine x_eqi (show nI ((442 + 17 * 7) + 4) + 2 = nI (((442 + 17 * 7) + 4) + 2) from nI_add ((442 + 17 * 7) + 4) 2) ?_
                    refine lv_dup2_11 hx hb dX5_logs_218 rfl rfl ?_
                    refine x_iald hx hb hK hP 1 0 rfl rfl (k := ((442 + 17 * 7) + 4) + 2) (by omega) (by decide) dX5_logs_219 ?_
                    refine x_eqi (show (mkM D1 S1 R1 N1 (nI 7) g) (((442 + 17 * 7) + 4) + 2) = g (17 * 7 + 4 + 2) from (mkM_L (j := (17 * 7 + 4 + 2)) (by omega) (by omega))) ?_
                    refine lv_iconst (v := 1) hx hb dX5_logs_220 (by decide) ?_
                    refine lv_iadd hx hb dX5_logs_221 ?_
                    refine x_iastE hx hb hK hP hD hS 1 0 rfl rfl (k := ((442 + 17 * 7) + 4) + 2) (g := mkM D1 S1 R1 N1 (nI 7) (upd g (17 * 7 + 4 + 2) ((g (17 * 7 + 4 + 2)) + 1))) (upM_L (j := (17 * 7 + 4 + 2)) (by omega) (by omega)) (by omega) (by decide) dX5_logs_222 (fun H locs hP hD hS => ?_)
                    have hP : va_P D vwCl [(mm, .inr (5, [.ref mn, .ref mh, .int kp, .ref ms, .int fl, .ref mr, .ref md, .ref mo, .ref mc, .int ty, .ref mt, .int at9, .int nu, .ref mq])), (mn, .inl (cI, 578, .inl (mkM D1 S1 R1 N1 (nI 7) (upd g (17 * 7 + 4 + 2) ((g (17 * 7 + 4 + 2)) + 1))))), (mc, .inl (cI, 9, .inl (cq)))] H := hP
                    have hD : va_D (Ar) [(mm, .inr (5, [.ref mn, .ref mh, .int kp, .ref ms, .int fl, .ref mr, .ref md, .ref mo, .ref mc, .int ty, .ref mt, .int at9, .int nu, .ref mq])), (mn, .inl (cI, 578, .inl (mkM D1 S1 R1 N1 (nI 7) (upd g (17 * 7 + 4 + 2) ((g (17 * 7 + 4 + 2)) + 1))))), (mc, .inl (cI, 9, .inl (cq)))] := hD
                    refine lv_aload_n hx hb dX5_logs_223 rfl (lv_at hl 1 rfl) ?_
                    refine va_get (v := .ref mn) (D := D) (ci := 5) (C := RX5) (T := TX5) (N := 14) hx hb hts (by decide +kernel) hown hK hP 0 rfl rfl 0 (by decide) (hts (.fieldLink RX5 7 "SpiralFramesModel" "now" "[I") (by decide +kernel)) (fun _ h9 => h9) rfl dX5_logs_224 ?_
                    refine lv_iload hx hb dX5_logs_227 (lv_at hl 2 rfl) ?_
                    refine lv_bipush (v := 8) hx hb dX5_logs_229 (by decide) ?_
                    refine lv_iadd hx hb dX5_logs_231 ?_
                    refine x_eqi (show nI (442 + 17 * 7) + 8 = nI ((442 + 17 * 7) + 8) from nI_add (442 + 17 * 7) 8) ?_
                    refine lv_iload hx hb dX5_logs_232 (lv_at hl 3 rfl) ?_
                    refine lv_iadd hx hb dX5_logs_234 ?_
                    refine x_eqi (show nI ((442 + 17 * 7) + 8) + nI t = nI (((442 + 17 * 7) + 8) + t) from nI_add ((442 + 17 * 7) + 8) t) ?_
                    refine lv_aload_n hx hb dX5_logs_235 rfl (lv_at hl 1 rfl) ?_
                    refine va_get (v := .ref mc) (D := D) (ci := 5) (C := RX5) (T := TX5) (N := 14) hx hb hts (by decide +kernel) hown hK hP 0 rfl rfl 8 (by decide) (hts (.fieldLink RX5 28 "SpiralFramesModel" "codes" "[I") (by decide +kernel)) (fun _ h9 => h9) rfl dX5_logs_236 ?_
                    refine lv_iload hx hb dX5_logs_239 (lv_at hl 3 rfl) ?_
                    refine x_iald hx hb hK hP 2 0 rfl rfl (k := t) (by omega) (by decide) dX5_logs_241 ?_
                    refine x_eqi (show cq t = nI (cd t) from hh0 t (by omega)) ?_
                    refine x_iastE hx hb hK hP hD hS 1 0 rfl rfl (k := ((442 + 17 * 7) + 8) + t) (g := mkM D1 S1 R1 N1 (nI 7) (upd (upd g (17 * 7 + 4 + 2) ((g (17 * 7 + 4 + 2)) + 1)) (17 * 7 + 8 + t) (nI (cd t)))) (upM_L (j := (17 * 7 + 8 + t)) (by omega) (by omega)) (by omega) (by decide) dX5_logs_242 (fun H locs hP hD hS => ?_)
                    have hP : va_P D vwCl [(mm, .inr (5, [.ref mn, .ref mh, .int kp, .ref ms, .int fl, .ref mr, .ref md, .ref mo, .ref mc, .int ty, .ref mt, .int at9, .int nu, .ref mq])), (mn, .inl (cI, 578, .inl (mkM D1 S1 R1 N1 (nI 7) (upd (upd g (17 * 7 + 4 + 2) ((g (17 * 7 + 4 + 2)) + 1)) (17 * 7 + 8 + t) (nI (cd t)))))), (mc, .inl (cI, 9, .inl (cq)))] H := hP
                    have hD : va_D (Ar) [(mm, .inr (5, [.ref mn, .ref mh, .int kp, .ref ms, .int fl, .ref mr, .ref md, .ref mo, .ref mc, .int ty, .ref mt, .int at9, .int nu, .ref mq])), (mn, .inl (cI, 578, .inl (mkM D1 S1 R1 N1 (nI 7) (upd (upd g (17 * 7 + 4 + 2) ((g (17 * 7 + 4 + 2)) + 1)) (17 * 7 + 8 + t) (nI (cd t)))))), (mc, .inl (cI, 9, .inl (cq)))] := hD
                    refine lv_iinc (v := nI (t + 1)) (lv' := [(6, .int (nI (t + 1))), (7, .int 2), (0, .ref mm), (5, .int (nI (442 + 17 * 7)))]) hx hb dX5_logs_243 hl (k := 3) rfl (nI_add _ _) (by decide) rfl (fun ls hl => ?_)
                    refine lv_goto (tgt := 167) hx hb dX5_logs_246 (by decide) ?_
                    exact ih167 (t + 1) (upd (upd g (17 * 7 + 4 + 2) ((g (17 * 7 + 4 + 2)) + 1)) (17 * 7 + 8 + t) (nI (cd t))) (by first | omega | assumption | rfl) (by rw [hi167_1]; first | exact lgX_s (kind := 0) (by omega) (by unfold kdN; rw [if_pos (by omega)]) (congrArg (fun z => z + 1) (lgX_k (by omega))) rfl | exact lgX_s (kind := 1) (by omega) (by unfold kdN; rw [if_neg (by omega), if_neg (by omega)]) (congrArg (fun z => z + 1) (lgX_k (by omega))) rfl | exact lgX_s (kind := 2) (by omega) (by unfold kdN; rw [if_neg (by omega), if_pos (by omega)]) (congrArg (fun z => z + 1) (lgX_k (by omega))) rfl) (by omega) H locs (hP.sub [0, 1, 2] rfl) (hD.sub [0, 1, 2] (by decide) rfl) hS ls (lv_sub hl [2, 3, 0] rfl)
                · skip
                  refine lv_iconst (v := 0) hx hb dX5_logs_184 (by decide) ?_
                  refine lv_goto (tgt := 205) hx hb dX5_logs_185 (by decide) ?_
                  refine lv_istore (lv' := [(7, .int 0), (0, .ref mm), (5, .int (nI (442 + 17 * 7))), (6, .int (nI t))]) hx hb dX5_logs_205 hl (by decide) rfl (fun ls hl => ?_)
                  refine lv_aload_n hx hb dX5_logs_207 rfl (lv_at hl 1 rfl) ?_
                  refine va_get (v := .ref mn) (D := D) (ci := 5) (C := RX5) (T := TX5) (N := 14) hx hb hts (by decide +kernel) hown hK hP 0 rfl rfl 0 (by decide) (hts (.fieldLink RX5 7 "SpiralFramesModel" "now" "[I") (by decide +kernel)) (fun _ h9 => h9) rfl dX5_logs_208 ?_
                  refine lv_iload hx hb dX5_logs_211 (lv_at hl 2 rfl) ?_
                  refine lv_iconst (v := 4) hx hb dX5_logs_213 (by decide) ?_
                  refine lv_iadd hx hb dX5_logs_214 ?_
                  refine x_eqi (show nI (442 + 17 * 7) + 4 = nI ((442 + 17 * 7) + 4) from nI_add (442 + 17 * 7) 4) ?_
                  refine lv_iload hx hb dX5_logs_215 (lv_at hl 0 rfl) ?_
                  refine lv_iadd hx hb dX5_logs_217 ?_
                  refine x_eqi (show nI ((442 + 17 * 7) + 4) + 0 = nI (((442 + 17 * 7) + 4) + 0) from nI_add ((442 + 17 * 7) + 4) 0) ?_
                  refine lv_dup2_11 hx hb dX5_logs_218 rfl rfl ?_
                  refine x_iald hx hb hK hP 1 0 rfl rfl (k := ((442 + 17 * 7) + 4) + 0) (by omega) (by decide) dX5_logs_219 ?_
                  refine x_eqi (show (mkM D1 S1 R1 N1 (nI 7) g) (((442 + 17 * 7) + 4) + 0) = g (17 * 7 + 4 + 0) from (mkM_L (j := (17 * 7 + 4 + 0)) (by omega) (by omega))) ?_
                  refine lv_iconst (v := 1) hx hb dX5_logs_220 (by decide) ?_
                  refine lv_iadd hx hb dX5_logs_221 ?_
                  refine x_iastE hx hb hK hP hD hS 1 0 rfl rfl (k := ((442 + 17 * 7) + 4) + 0) (g := mkM D1 S1 R1 N1 (nI 7) (upd g (17 * 7 + 4 + 0) ((g (17 * 7 + 4 + 0)) + 1))) (upM_L (j := (17 * 7 + 4 + 0)) (by omega) (by omega)) (by omega) (by decide) dX5_logs_222 (fun H locs hP hD hS => ?_)
                  have hP : va_P D vwCl [(mm, .inr (5, [.ref mn, .ref mh, .int kp, .ref ms, .int fl, .ref mr, .ref md, .ref mo, .ref mc, .int ty, .ref mt, .int at9, .int nu, .ref mq])), (mn, .inl (cI, 578, .inl (mkM D1 S1 R1 N1 (nI 7) (upd g (17 * 7 + 4 + 0) ((g (17 * 7 + 4 + 0)) + 1))))), (mc, .inl (cI, 9, .inl (cq)))] H := hP
                  have hD : va_D (Ar) [(mm, .inr (5, [.ref mn, .ref mh, .int kp, .ref ms, .int fl, .ref mr, .ref md, .ref mo, .ref mc, .int ty, .ref mt, .int at9, .int nu, .ref mq])), (mn, .inl (cI, 578, .inl (mkM D1 S1 R1 N1 (nI 7) (upd g (17 * 7 + 4 + 0) ((g (17 * 7 + 4 + 0)) + 1))))), (mc, .inl (cI, 9, .inl (cq)))] := hD
                  refine lv_aload_n hx hb dX5_logs_223 rfl (lv_at hl 1 rfl) ?_
                  refine va_get (v := .ref mn) (D := D) (ci := 5) (C := RX5) (T := TX5) (N := 14) hx hb hts (by decide +kernel) hown hK hP 0 rfl rfl 0 (by decide) (hts (.fieldLink RX5 7 "SpiralFramesModel" "now" "[I") (by decide +kernel)) (fun _ h9 => h9) rfl dX5_logs_224 ?_
                  refine lv_iload hx hb dX5_logs_227 (lv_at hl 2 rfl) ?_
                  refine lv_bipush (v := 8) hx hb dX5_logs_229 (by decide) ?_
                  refine lv_iadd hx hb dX5_logs_231 ?_
                  refine x_eqi (show nI (442 + 17 * 7) + 8 = nI ((442 + 17 * 7) + 8) from nI_add (442 + 17 * 7) 8) ?_
                  refine lv_iload hx hb dX5_logs_232 (lv_at hl 3 rfl) ?_
                  refine lv_iadd hx hb dX5_logs_234 ?_
                  refine x_eqi (show nI ((442 + 17 * 7) + 8) + nI t = nI (((442 + 17 * 7) + 8) + t) from nI_add ((442 + 17 * 7) + 8) t) ?_
                  refine lv_aload_n hx hb dX5_logs_235 rfl (lv_at hl 1 rfl) ?_
                  refine va_get (v := .ref mc) (D := D) (ci := 5) (C := RX5) (T := TX5) (N := 14) hx hb hts (by decide +kernel) hown hK hP 0 rfl rfl 8 (by decide) (hts (.fieldLink RX5 28 "SpiralFramesModel" "codes" "[I") (by decide +kernel)) (fun _ h9 => h9) rfl dX5_logs_236 ?_
                  refine lv_iload hx hb dX5_logs_239 (lv_at hl 3 rfl) ?_
                  refine x_iald hx hb hK hP 2 0 rfl rfl (k := t) (by omega) (by decide) dX5_logs_241 ?_
                  refine x_eqi (show cq t = nI (cd t) from hh0 t (by omega)) ?_
                  refine x_iastE hx hb hK hP hD hS 1 0 rfl rfl (k := ((442 + 17 * 7) + 8) + t) (g := mkM D1 S1 R1 N1 (nI 7) (upd (upd g (17 * 7 + 4 + 0) ((g (17 * 7 + 4 + 0)) + 1)) (17 * 7 + 8 + t) (nI (cd t)))) (upM_L (j := (17 * 7 + 8 + t)) (by omega) (by omega)) (by omega) (by decide) dX5_logs_242 (fun H locs hP hD hS => ?_)
                  have hP : va_P D vwCl [(mm, .inr (5, [.ref mn, .ref mh, .int kp, .ref ms, .int fl, .ref mr, .ref md, .ref mo, .ref mc, .int ty, .ref mt, .int at9, .int nu, .ref mq])), (mn, .inl (cI, 578, .inl (mkM D1 S1 R1 N1 (nI 7) (upd (upd g (17 * 7 + 4 + 0) ((g (17 * 7 + 4 + 0)) + 1)) (17 * 7 + 8 + t) (nI (cd t)))))), (mc, .inl (cI, 9, .inl (cq)))] H := hP
                  have hD : va_D (Ar) [(mm, .inr (5, [.ref mn, .ref mh, .int kp, .ref ms, .int fl, .ref mr, .ref md, .ref mo, .ref mc, .int ty, .ref mt, .int at9, .int nu, .ref mq])), (mn, .inl (cI, 578, .inl (mkM D1 S1 R1 N1 (nI 7) (upd (upd g (17 * 7 + 4 + 0) ((g (17 * 7 + 4 + 0)) + 1)) (17 * 7 + 8 + t) (nI (cd t)))))), (mc, .inl (cI, 9, .inl (cq)))] := hD
                  refine lv_iinc (v := nI (t + 1)) (lv' := [(6, .int (nI (t + 1))), (7, .int 0), (0, .ref mm), (5, .int (nI (442 + 17 * 7)))]) hx hb dX5_logs_243 hl (k := 3) rfl (nI_add _ _) (by decide) rfl (fun ls hl => ?_)
                  refine lv_goto (tgt := 167) hx hb dX5_logs_246 (by decide) ?_
                  exact ih167 (t + 1) (upd (upd g (17 * 7 + 4 + 0) ((g (17 * 7 + 4 + 0)) + 1)) (17 * 7 + 8 + t) (nI (cd t))) (by first | omega | assumption | rfl) (by rw [hi167_1]; first | exact lgX_s (kind := 0) (by omega) (by unfold kdN; rw [if_pos (by omega)]) (congrArg (fun z => z + 1) (lgX_k (by omega))) rfl | exact lgX_s (kind := 1) (by omega) (by unfold kdN; rw [if_neg (by omega), if_neg (by omega)]) (congrArg (fun z => z + 1) (lgX_k (by omega))) rfl | exact lgX_s (kind := 2) (by omega) (by unfold kdN; rw [if_neg (by omega), if_pos (by omega)]) (congrArg (fun z => z + 1) (lgX_k (by omega))) rfl) (by omega) H locs (hP.sub [0, 1, 2] rfl) (hD.sub [0, 1, 2] (by decide) rfl) hS ls (lv_sub hl [2, 3, 0] rfl)
          exact L167 _ 0 (upd (upd (upd (upd (upd (upd (upd f (17 * 7) bt) (17 * 7 + 1) tol) (17 * 7 + 2) 0) (17 * 7 + 3) 0) (17 * 7 + 4) 0) (17 * 7 + 5) 0) (17 * 7 + 6) 0) (by first | omega | assumption | rfl) lgX_0 (Nat.lt_succ_self _) H locs (hP.sub [0, 1, 2] rfl) (hD.sub [0, 1, 2] (by decide) rfl) hS ls (lv_sub hl [2, 1, 0] rfl)
        · skip
          refine lv_aload_n hx hb dX5_logs_26 rfl (lv_at hl 0 rfl) ?_
          refine va_get (v := .ref mn) (D := D) (ci := 5) (C := RX5) (T := TX5) (N := 14) hx hb hts (by decide +kernel) hown hK hP 0 rfl rfl 0 (by decide) (hts (.fieldLink RX5 7 "SpiralFramesModel" "now" "[I") (by decide +kernel)) (fun _ h9 => h9) rfl dX5_logs_27 ?_
          refine lv_iload hx hb dX5_logs_30 (lv_at hl 5 rfl) ?_
          refine lv_aload_n hx hb dX5_logs_32 rfl (lv_at hl 0 rfl) ?_
          refine va_get (v := .ref mn) (D := D) (ci := 5) (C := RX5) (T := TX5) (N := 14) hx hb hts (by decide +kernel) hown hK hP 0 rfl rfl 0 (by decide) (hts (.fieldLink RX5 7 "SpiralFramesModel" "now" "[I") (by decide +kernel)) (fun _ h9 => h9) rfl dX5_logs_33 ?_
          refine lv_iload hx hb dX5_logs_36 (lv_at hl 5 rfl) ?_
          refine lv_bipush (v := 17) hx hb dX5_logs_38 (by decide) ?_
          refine lv_iadd hx hb dX5_logs_40 ?_
          refine x_eqi (show nI j + 17 = nI (j + 17) from nI_add j 17) ?_
          refine x_iald hx hb hK hP 1 0 rfl rfl (k := j + 17) (by omega) (by decide) dX5_logs_41 ?_
          refine x_eqi (show (mkM D1 S1 R1 N1 (nI 8) f) (j + 17) = f (j - 442 + 17) from (mkM_L (j := (j - 442 + 17)) (by omega) (by omega))) ?_
          refine x_iastE hx hb hK hP hD hS 1 0 rfl rfl (k := j) (g := mkM D1 S1 R1 N1 (nI 8) (upd f (j - 442) (f (j - 442 + 17)))) (upM_L (j := (j - 442)) (by omega) (by omega)) (by omega) (by decide) dX5_logs_42 (fun H locs hP hD hS => ?_)
          have hP : va_P D vwCl [(mm, .inr (5, [.ref mn, .ref mh, .int kp, .ref ms, .int fl, .ref mr, .ref md, .ref mo, .ref mc, .int ty, .ref mt, .int at9, .int nu, .ref mq])), (mn, .inl (cI, 578, .inl (mkM D1 S1 R1 N1 (nI 8) (upd f (j - 442) (f (j - 442 + 17)))))), (mc, .inl (cI, 9, .inl (cq)))] H := hP
          have hD : va_D (Ar) [(mm, .inr (5, [.ref mn, .ref mh, .int kp, .ref ms, .int fl, .ref mr, .ref md, .ref mo, .ref mc, .int ty, .ref mt, .int at9, .int nu, .ref mq])), (mn, .inl (cI, 578, .inl (mkM D1 S1 R1 N1 (nI 8) (upd f (j - 442) (f (j - 442 + 17)))))), (mc, .inl (cI, 9, .inl (cq)))] := hD
          refine lv_iinc (v := nI (j + 1)) (lv' := [(5, .int (nI (j + 1))), (0, .ref mm), (1, .int bt), (2, .int tol), (3, .int 0), (4, .int 0)]) hx hb dX5_logs_43 hl (k := 5) rfl (nI_add _ _) (by decide) rfl (fun ls hl => ?_)
          refine lv_goto (tgt := 18) hx hb dX5_logs_46 (by decide) ?_
          exact ih18 (j + 1) (upd f (j - 442) (f (j - 442 + 17))) (by first | omega | assumption | rfl) (by first | omega | assumption | rfl) (by rw [hi18_2, show j + 1 - 442 = (j - 442) + 1 by omega]; exact shL_s shL_at) (by omega) H locs (hP.sub [0, 1, 2] rfl) (hD.sub [0, 1, 2] (by decide) rfl) hS ls (lv_sub hl [1, 2, 3, 4, 5, 0] rfl)
    exact L18 _ 442 L1 (by first | omega | assumption | rfl) (by first | omega | assumption | rfl) shL_0 (Nat.lt_succ_self _) s.heap [] (hP.sub [0, 1, 2] rfl) (hD.sub [0, 1, 2] (by decide) rfl) hS ls (lv_sub hl [1, 2, 3, 4, 5, 0] rfl)
  · skip
    refine lv_aload_n hx hb dX5_logs_0 rfl (lv_at hl 0 rfl) ?_
    refine va_get (v := .ref mn) (D := D) (ci := 5) (C := RX5) (T := TX5) (N := 14) hx hb hts (by decide +kernel) hown hK hP 0 rfl rfl 0 (by decide) (hts (.fieldLink RX5 7 "SpiralFramesModel" "now" "[I") (by decide +kernel)) (fun _ h9 => h9) rfl dX5_logs_1 ?_
    refine lv_sipush (v := 441) hx hb dX5_logs_4 (by decide) ?_
    refine x_eqi (show (441 : Int32) = nI 441 from by decide) ?_
    refine x_iald hx hb hK hP 1 0 rfl rfl (k := 441) (by omega) (by decide) dX5_logs_7 ?_
    refine x_eqi (show (mkM D1 S1 R1 N1 (nI kn) L1) 441 = (nI kn) from (mkM_K (by omega))) ?_
    refine lv_bipush (v := 8) hx hb dX5_logs_8 (by decide) ?_
    refine x_icmp_ne (tgt := 61) hx hb dX5_logs_10 (by decide) (X := ((kn : Nat) : Int)) (nI_toI (by omega)) (Y := 8) (show (8 : Int32).toInt = 8 from by decide) (fun c_10 => ?_) (fun c_10 => ?_)
    rotate_left
    · exfalso; omega
    refine lv_sipush (v := 442) hx hb dX5_logs_61 (by decide) ?_
    refine lv_bipush (v := 17) hx hb dX5_logs_64 (by decide) ?_
    refine lv_aload_n hx hb dX5_logs_66 rfl (lv_at hl 0 rfl) ?_
    refine va_get (v := .ref mn) (D := D) (ci := 5) (C := RX5) (T := TX5) (N := 14) hx hb hts (by decide +kernel) hown hK hP 0 rfl rfl 0 (by decide) (hts (.fieldLink RX5 7 "SpiralFramesModel" "now" "[I") (by decide +kernel)) (fun _ h9 => h9) rfl dX5_logs_67 ?_
    refine lv_sipush (v := 441) hx hb dX5_logs_70 (by decide) ?_
    refine x_eqi (show (441 : Int32) = nI 441 from by decide) ?_
    refine x_iald hx hb hK hP 1 0 rfl rfl (k := 441) (by omega) (by decide) dX5_logs_73 ?_
    refine x_eqi (show (mkM D1 S1 R1 N1 (nI kn) L1) 441 = (nI kn) from (mkM_K (by omega))) ?_
    refine lv_imul hx hb dX5_logs_74 ?_
    refine x_eqi (show 17 * nI kn = nI (17 * kn) from pk_mul 17 kn) ?_
    refine lv_iadd hx hb dX5_logs_75 ?_
    refine x_eqi (show 442 + nI (17 * kn) = nI (442 + (17 * kn)) from nI_add 442 (17 * kn)) ?_
    refine lv_istore (lv' := [(5, .int (nI (442 + (17 * kn)))), (0, .ref mm), (1, .int bt), (2, .int tol), (3, .int 0), (4, .int 0)]) hx hb dX5_logs_76 hl (by decide) rfl (fun ls hl => ?_)
    refine lv_aload_n hx hb dX5_logs_78 rfl (lv_at hl 1 rfl) ?_
    refine va_get (v := .ref mn) (D := D) (ci := 5) (C := RX5) (T := TX5) (N := 14) hx hb hts (by decide +kernel) hown hK hP 0 rfl rfl 0 (by decide) (hts (.fieldLink RX5 7 "SpiralFramesModel" "now" "[I") (by decide +kernel)) (fun _ h9 => h9) rfl dX5_logs_79 ?_
    refine lv_iload hx hb dX5_logs_82 (lv_at hl 0 rfl) ?_
    refine lv_iload_n hx hb dX5_logs_84 rfl (lv_at hl 2 rfl) ?_
    refine x_iastE hx hb hK hP hD hS 1 0 rfl rfl (k := 442 + (17 * kn)) (g := mkM D1 S1 R1 N1 (nI kn) (upd L1 (17 * kn) bt)) (upM_L (j := (17 * kn)) (by omega) (by omega)) (by omega) (by decide) dX5_logs_85 (fun H locs hP hD hS => ?_)
    have hP : va_P D vwCl [(mm, .inr (5, [.ref mn, .ref mh, .int kp, .ref ms, .int fl, .ref mr, .ref md, .ref mo, .ref mc, .int ty, .ref mt, .int at9, .int nu, .ref mq])), (mn, .inl (cI, 578, .inl (mkM D1 S1 R1 N1 (nI kn) (upd L1 (17 * kn) bt)))), (mc, .inl (cI, 9, .inl (cq)))] H := hP
    have hD : va_D (Ar) [(mm, .inr (5, [.ref mn, .ref mh, .int kp, .ref ms, .int fl, .ref mr, .ref md, .ref mo, .ref mc, .int ty, .ref mt, .int at9, .int nu, .ref mq])), (mn, .inl (cI, 578, .inl (mkM D1 S1 R1 N1 (nI kn) (upd L1 (17 * kn) bt)))), (mc, .inl (cI, 9, .inl (cq)))] := hD
    refine lv_aload_n hx hb dX5_logs_86 rfl (lv_at hl 1 rfl) ?_
    refine va_get (v := .ref mn) (D := D) (ci := 5) (C := RX5) (T := TX5) (N := 14) hx hb hts (by decide +kernel) hown hK hP 0 rfl rfl 0 (by decide) (hts (.fieldLink RX5 7 "SpiralFramesModel" "now" "[I") (by decide +kernel)) (fun _ h9 => h9) rfl dX5_logs_87 ?_
    refine lv_iload hx hb dX5_logs_90 (lv_at hl 0 rfl) ?_
    refine lv_iconst (v := 1) hx hb dX5_logs_92 (by decide) ?_
    refine lv_iadd hx hb dX5_logs_93 ?_
    refine x_eqi (show nI (442 + (17 * kn)) + 1 = nI ((442 + (17 * kn)) + 1) from nI_add (442 + (17 * kn)) 1) ?_
    refine lv_iload_n hx hb dX5_logs_94 rfl (lv_at hl 3 rfl) ?_
    refine x_iastE hx hb hK hP hD hS 1 0 rfl rfl (k := (442 + (17 * kn)) + 1) (g := mkM D1 S1 R1 N1 (nI kn) (upd (upd L1 (17 * kn) bt) (17 * kn + 1) tol)) (upM_L (j := (17 * kn + 1)) (by omega) (by omega)) (by omega) (by decide) dX5_logs_95 (fun H locs hP hD hS => ?_)
    have hP : va_P D vwCl [(mm, .inr (5, [.ref mn, .ref mh, .int kp, .ref ms, .int fl, .ref mr, .ref md, .ref mo, .ref mc, .int ty, .ref mt, .int at9, .int nu, .ref mq])), (mn, .inl (cI, 578, .inl (mkM D1 S1 R1 N1 (nI kn) (upd (upd L1 (17 * kn) bt) (17 * kn + 1) tol)))), (mc, .inl (cI, 9, .inl (cq)))] H := hP
    have hD : va_D (Ar) [(mm, .inr (5, [.ref mn, .ref mh, .int kp, .ref ms, .int fl, .ref mr, .ref md, .ref mo, .ref mc, .int ty, .ref mt, .int at9, .int nu, .ref mq])), (mn, .inl (cI, 578, .inl (mkM D1 S1 R1 N1 (nI kn) (upd (upd L1 (17 * kn) bt) (17 * kn + 1) tol)))), (mc, .inl (cI, 9, .inl (cq)))] := hD
    refine lv_aload_n hx hb dX5_logs_96 rfl (lv_at hl 1 rfl) ?_
    refine va_get (v := .ref mn) (D := D) (ci := 5) (C := RX5) (T := TX5) (N := 14) hx hb hts (by decide +kernel) hown hK hP 0 rfl rfl 0 (by decide) (hts (.fieldLink RX5 7 "SpiralFramesModel" "now" "[I") (by decide +kernel)) (fun _ h9 => h9) rfl dX5_logs_97 ?_
    refine lv_iload hx hb dX5_logs_100 (lv_at hl 0 rfl) ?_
    refine lv_iconst (v := 2) hx hb dX5_logs_102 (by decide) ?_
    refine lv_iadd hx hb dX5_logs_103 ?_
    refine x_eqi (show nI (442 + (17 * kn)) + 2 = nI ((442 + (17 * kn)) + 2) from nI_add (442 + (17 * kn)) 2) ?_
    refine lv_iload_n hx hb dX5_logs_104 rfl (lv_at hl 4 rfl) ?_
    refine lv_if_eq (tgt := 112) hx hb dX5_logs_105 (by decide) (fun _ => ?_) (fun h => False.elim (by revert h; decide))
    refine lv_iconst (v := 0) hx hb dX5_logs_112 (by decide) ?_
    refine x_iastE hx hb hK hP hD hS 1 0 rfl rfl (k := (442 + (17 * kn)) + 2) (g := mkM D1 S1 R1 N1 (nI kn) (upd (upd (upd L1 (17 * kn) bt) (17 * kn + 1) tol) (17 * kn + 2) 0)) (upM_L (j := (17 * kn + 2)) (by omega) (by omega)) (by omega) (by decide) dX5_logs_113 (fun H locs hP hD hS => ?_)
    have hP : va_P D vwCl [(mm, .inr (5, [.ref mn, .ref mh, .int kp, .ref ms, .int fl, .ref mr, .ref md, .ref mo, .ref mc, .int ty, .ref mt, .int at9, .int nu, .ref mq])), (mn, .inl (cI, 578, .inl (mkM D1 S1 R1 N1 (nI kn) (upd (upd (upd L1 (17 * kn) bt) (17 * kn + 1) tol) (17 * kn + 2) 0)))), (mc, .inl (cI, 9, .inl (cq)))] H := hP
    have hD : va_D (Ar) [(mm, .inr (5, [.ref mn, .ref mh, .int kp, .ref ms, .int fl, .ref mr, .ref md, .ref mo, .ref mc, .int ty, .ref mt, .int at9, .int nu, .ref mq])), (mn, .inl (cI, 578, .inl (mkM D1 S1 R1 N1 (nI kn) (upd (upd (upd L1 (17 * kn) bt) (17 * kn + 1) tol) (17 * kn + 2) 0)))), (mc, .inl (cI, 9, .inl (cq)))] := hD
    refine lv_aload_n hx hb dX5_logs_114 rfl (lv_at hl 1 rfl) ?_
    refine va_get (v := .ref mn) (D := D) (ci := 5) (C := RX5) (T := TX5) (N := 14) hx hb hts (by decide +kernel) hown hK hP 0 rfl rfl 0 (by decide) (hts (.fieldLink RX5 7 "SpiralFramesModel" "now" "[I") (by decide +kernel)) (fun _ h9 => h9) rfl dX5_logs_115 ?_
    refine lv_iload hx hb dX5_logs_118 (lv_at hl 0 rfl) ?_
    refine lv_iconst (v := 3) hx hb dX5_logs_120 (by decide) ?_
    refine lv_iadd hx hb dX5_logs_121 ?_
    refine x_eqi (show nI (442 + (17 * kn)) + 3 = nI ((442 + (17 * kn)) + 3) from nI_add (442 + (17 * kn)) 3) ?_
    refine lv_iload hx hb dX5_logs_122 (lv_at hl 5 rfl) ?_
    refine lv_if_eq (tgt := 131) hx hb dX5_logs_124 (by decide) (fun _ => ?_) (fun h => False.elim (by revert h; decide))
    refine lv_iconst (v := 0) hx hb dX5_logs_131 (by decide) ?_
    refine x_iastE hx hb hK hP hD hS 1 0 rfl rfl (k := (442 + (17 * kn)) + 3) (g := mkM D1 S1 R1 N1 (nI kn) (upd (upd (upd (upd L1 (17 * kn) bt) (17 * kn + 1) tol) (17 * kn + 2) 0) (17 * kn + 3) 0)) (upM_L (j := (17 * kn + 3)) (by omega) (by omega)) (by omega) (by decide) dX5_logs_132 (fun H locs hP hD hS => ?_)
    have hP : va_P D vwCl [(mm, .inr (5, [.ref mn, .ref mh, .int kp, .ref ms, .int fl, .ref mr, .ref md, .ref mo, .ref mc, .int ty, .ref mt, .int at9, .int nu, .ref mq])), (mn, .inl (cI, 578, .inl (mkM D1 S1 R1 N1 (nI kn) (upd (upd (upd (upd L1 (17 * kn) bt) (17 * kn + 1) tol) (17 * kn + 2) 0) (17 * kn + 3) 0)))), (mc, .inl (cI, 9, .inl (cq)))] H := hP
    have hD : va_D (Ar) [(mm, .inr (5, [.ref mn, .ref mh, .int kp, .ref ms, .int fl, .ref mr, .ref md, .ref mo, .ref mc, .int ty, .ref mt, .int at9, .int nu, .ref mq])), (mn, .inl (cI, 578, .inl (mkM D1 S1 R1 N1 (nI kn) (upd (upd (upd (upd L1 (17 * kn) bt) (17 * kn + 1) tol) (17 * kn + 2) 0) (17 * kn + 3) 0)))), (mc, .inl (cI, 9, .inl (cq)))] := hD
    refine lv_aload_n hx hb dX5_logs_133 rfl (lv_at hl 1 rfl) ?_
    refine va_get (v := .ref mn) (D := D) (ci := 5) (C := RX5) (T := TX5) (N := 14) hx hb hts (by decide +kernel) hown hK hP 0 rfl rfl 0 (by decide) (hts (.fieldLink RX5 7 "SpiralFramesModel" "now" "[I") (by decide +kernel)) (fun _ h9 => h9) rfl dX5_logs_134 ?_
    refine lv_iload hx hb dX5_logs_137 (lv_at hl 0 rfl) ?_
    refine lv_iconst (v := 4) hx hb dX5_logs_139 (by decide) ?_
    refine lv_iadd hx hb dX5_logs_140 ?_
    refine x_eqi (show nI (442 + (17 * kn)) + 4 = nI ((442 + (17 * kn)) + 4) from nI_add (442 + (17 * kn)) 4) ?_
    refine lv_iconst (v := 0) hx hb dX5_logs_141 (by decide) ?_
    refine x_iastE hx hb hK hP hD hS 1 0 rfl rfl (k := (442 + (17 * kn)) + 4) (g := mkM D1 S1 R1 N1 (nI kn) (upd (upd (upd (upd (upd L1 (17 * kn) bt) (17 * kn + 1) tol) (17 * kn + 2) 0) (17 * kn + 3) 0) (17 * kn + 4) 0)) (upM_L (j := (17 * kn + 4)) (by omega) (by omega)) (by omega) (by decide) dX5_logs_142 (fun H locs hP hD hS => ?_)
    have hP : va_P D vwCl [(mm, .inr (5, [.ref mn, .ref mh, .int kp, .ref ms, .int fl, .ref mr, .ref md, .ref mo, .ref mc, .int ty, .ref mt, .int at9, .int nu, .ref mq])), (mn, .inl (cI, 578, .inl (mkM D1 S1 R1 N1 (nI kn) (upd (upd (upd (upd (upd L1 (17 * kn) bt) (17 * kn + 1) tol) (17 * kn + 2) 0) (17 * kn + 3) 0) (17 * kn + 4) 0)))), (mc, .inl (cI, 9, .inl (cq)))] H := hP
    have hD : va_D (Ar) [(mm, .inr (5, [.ref mn, .ref mh, .int kp, .ref ms, .int fl, .ref mr, .ref md, .ref mo, .ref mc, .int ty, .ref mt, .int at9, .int nu, .ref mq])), (mn, .inl (cI, 578, .inl (mkM D1 S1 R1 N1 (nI kn) (upd (upd (upd (upd (upd L1 (17 * kn) bt) (17 * kn + 1) tol) (17 * kn + 2) 0) (17 * kn + 3) 0) (17 * kn + 4) 0)))), (mc, .inl (cI, 9, .inl (cq)))] := hD
    refine lv_aload_n hx hb dX5_logs_143 rfl (lv_at hl 1 rfl) ?_
    refine va_get (v := .ref mn) (D := D) (ci := 5) (C := RX5) (T := TX5) (N := 14) hx hb hts (by decide +kernel) hown hK hP 0 rfl rfl 0 (by decide) (hts (.fieldLink RX5 7 "SpiralFramesModel" "now" "[I") (by decide +kernel)) (fun _ h9 => h9) rfl dX5_logs_144 ?_
    refine lv_iload hx hb dX5_logs_147 (lv_at hl 0 rfl) ?_
    refine lv_iconst (v := 5) hx hb dX5_logs_149 (by decide) ?_
    refine lv_iadd hx hb dX5_logs_150 ?_
    refine x_eqi (show nI (442 + (17 * kn)) + 5 = nI ((442 + (17 * kn)) + 5) from nI_add (442 + (17 * kn)) 5) ?_
    refine lv_iconst (v := 0) hx hb dX5_logs_151 (by decide) ?_
    refine x_iastE hx hb hK hP hD hS 1 0 rfl rfl (k := (442 + (17 * kn)) + 5) (g := mkM D1 S1 R1 N1 (nI kn) (upd (upd (upd (upd (upd (upd L1 (17 * kn) bt) (17 * kn + 1) tol) (17 * kn + 2) 0) (17 * kn + 3) 0) (17 * kn + 4) 0) (17 * kn + 5) 0)) (upM_L (j := (17 * kn + 5)) (by omega) (by omega)) (by omega) (by decide) dX5_logs_152 (fun H locs hP hD hS => ?_)
    have hP : va_P D vwCl [(mm, .inr (5, [.ref mn, .ref mh, .int kp, .ref ms, .int fl, .ref mr, .ref md, .ref mo, .ref mc, .int ty, .ref mt, .int at9, .int nu, .ref mq])), (mn, .inl (cI, 578, .inl (mkM D1 S1 R1 N1 (nI kn) (upd (upd (upd (upd (upd (upd L1 (17 * kn) bt) (17 * kn + 1) tol) (17 * kn + 2) 0) (17 * kn + 3) 0) (17 * kn + 4) 0) (17 * kn + 5) 0)))), (mc, .inl (cI, 9, .inl (cq)))] H := hP
    have hD : va_D (Ar) [(mm, .inr (5, [.ref mn, .ref mh, .int kp, .ref ms, .int fl, .ref mr, .ref md, .ref mo, .ref mc, .int ty, .ref mt, .int at9, .int nu, .ref mq])), (mn, .inl (cI, 578, .inl (mkM D1 S1 R1 N1 (nI kn) (upd (upd (upd (upd (upd (upd L1 (17 * kn) bt) (17 * kn + 1) tol) (17 * kn + 2) 0) (17 * kn + 3) 0) (17 * kn + 4) 0) (17 * kn + 5) 0)))), (mc, .inl (cI, 9, .inl (cq)))] := hD
    refine lv_aload_n hx hb dX5_logs_153 rfl (lv_at hl 1 rfl) ?_
    refine va_get (v := .ref mn) (D := D) (ci := 5) (C := RX5) (T := TX5) (N := 14) hx hb hts (by decide +kernel) hown hK hP 0 rfl rfl 0 (by decide) (hts (.fieldLink RX5 7 "SpiralFramesModel" "now" "[I") (by decide +kernel)) (fun _ h9 => h9) rfl dX5_logs_154 ?_
    refine lv_iload hx hb dX5_logs_157 (lv_at hl 0 rfl) ?_
    refine lv_bipush (v := 6) hx hb dX5_logs_159 (by decide) ?_
    refine lv_iadd hx hb dX5_logs_161 ?_
    refine x_eqi (show nI (442 + (17 * kn)) + 6 = nI ((442 + (17 * kn)) + 6) from nI_add (442 + (17 * kn)) 6) ?_
    refine lv_iconst (v := 0) hx hb dX5_logs_162 (by decide) ?_
    refine x_iastE hx hb hK hP hD hS 1 0 rfl rfl (k := (442 + (17 * kn)) + 6) (g := mkM D1 S1 R1 N1 (nI kn) (upd (upd (upd (upd (upd (upd (upd L1 (17 * kn) bt) (17 * kn + 1) tol) (17 * kn + 2) 0) (17 * kn + 3) 0) (17 * kn + 4) 0) (17 * kn + 5) 0) (17 * kn + 6) 0)) (upM_L (j := (17 * kn + 6)) (by omega) (by omega)) (by omega) (by decide) dX5_logs_163 (fun H locs hP hD hS => ?_)
    have hP : va_P D vwCl [(mm, .inr (5, [.ref mn, .ref mh, .int kp, .ref ms, .int fl, .ref mr, .ref md, .ref mo, .ref mc, .int ty, .ref mt, .int at9, .int nu, .ref mq])), (mn, .inl (cI, 578, .inl (mkM D1 S1 R1 N1 (nI kn) (upd (upd (upd (upd (upd (upd (upd L1 (17 * kn) bt) (17 * kn + 1) tol) (17 * kn + 2) 0) (17 * kn + 3) 0) (17 * kn + 4) 0) (17 * kn + 5) 0) (17 * kn + 6) 0)))), (mc, .inl (cI, 9, .inl (cq)))] H := hP
    have hD : va_D (Ar) [(mm, .inr (5, [.ref mn, .ref mh, .int kp, .ref ms, .int fl, .ref mr, .ref md, .ref mo, .ref mc, .int ty, .ref mt, .int at9, .int nu, .ref mq])), (mn, .inl (cI, 578, .inl (mkM D1 S1 R1 N1 (nI kn) (upd (upd (upd (upd (upd (upd (upd L1 (17 * kn) bt) (17 * kn + 1) tol) (17 * kn + 2) 0) (17 * kn + 3) 0) (17 * kn + 4) 0) (17 * kn + 5) 0) (17 * kn + 6) 0)))), (mc, .inl (cI, 9, .inl (cq)))] := hD
    refine lv_iconst (v := 0) hx hb dX5_logs_164 (by decide) ?_
    refine lv_istore (lv' := [(6, .int 0), (5, .int (nI (442 + (17 * kn)))), (0, .ref mm), (1, .int bt), (2, .int tol), (3, .int 0), (4, .int 0)]) hx hb dX5_logs_165 hl (by decide) rfl (fun ls hl => ?_)
    have L167 : ∀ (fuel : Nat) (t : Nat) (g : Nat → Int32), (t ≤ 9) → (g = lgX L1 (17 * kn) bt tol (nI 0) (nI 0) cd t) → 9 - t < fuel → ∀ (H : Heap) (locs : List Loc), va_P D vwCl [(mm, .inr (5, [.ref mn, .ref mh, .int kp, .ref ms, .int fl, .ref mr, .ref md, .ref mo, .ref mc, .int ty, .ref mt, .int at9, .int nu, .ref mq])), (mn, .inl (cI, 578, .inl (mkM D1 S1 R1 N1 (nI kn) g))), (mc, .inl (cI, 9, .inl (cq)))] H → va_D (Ar) [(mm, .inr (5, [.ref mn, .ref mh, .int kp, .ref ms, .int fl, .ref mr, .ref md, .ref mo, .ref mc, .int ty, .ref mt, .int at9, .int nu, .ref mq])), (mn, .inl (cI, 578, .inl (mkM D1 S1 R1 N1 (nI kn) g))), (mc, .inl (cI, 9, .inl (cq)))] → va_S (Ar) s.heap H locs → ∀ (ls : Array Slot), lv_has ls 8 [(0, .ref mm), (5, .int (nI (442 + 17 * kn))), (6, .int (nI t))] → W p l e (headSpec wsX5_logs ({ frames := 4, cells := 0, slots := 0, locals := 98 } : Room)).room s m ([.ref mm, .int bt, .int tol, .int 0, .int 0] : List Value).toArray below meth c H locs 0 0 Q (F0 m 167 ls []) := by
      intro fuel
      induction fuel with
      | zero =>
        intro t g hi167_0 hi167_1 hfu
        exact absurd hfu (Nat.not_lt_zero _)
      | succ fuel ih167 =>
        intro t g hi167_0 hi167_1 hfu167 H locs hP hD hS ls hl
        refine lv_iload hx hb dX5_logs_167 (lv_at hl 2 rfl) ?_
        refine lv_bipush (v := 9) hx hb dX5_logs_169 (by decide) ?_
        refine x_icmp_ge (tgt := 249) hx hb dX5_logs_171 (by decide) (X := ((t : Nat) : Int)) (nI_toI (by omega)) (Y := 9) (show (9 : Int32).toInt = 9 from by decide) (fun c_171 => ?_) (fun c_171 => ?_)
        · skip
          refine lv_aload_n hx hb dX5_logs_249 rfl (lv_at hl 0 rfl) ?_
          refine va_get (v := .ref mn) (D := D) (ci := 5) (C := RX5) (T := TX5) (N := 14) hx hb hts (by decide +kernel) hown hK hP 0 rfl rfl 0 (by decide) (hts (.fieldLink RX5 7 "SpiralFramesModel" "now" "[I") (by decide +kernel)) (fun _ h9 => h9) rfl dX5_logs_250 ?_
          refine lv_iload hx hb dX5_logs_253 (lv_at hl 1 rfl) ?_
          refine lv_bipush (v := 7) hx hb dX5_logs_255 (by decide) ?_
          refine lv_iadd hx hb dX5_logs_257 ?_
          refine x_eqi (show nI (442 + 17 * kn) + 7 = nI ((442 + 17 * kn) + 7) from nI_add (442 + 17 * kn) 7) ?_
          refine lv_aload_n hx hb dX5_logs_258 rfl (lv_at hl 0 rfl) ?_
          refine lv_iconst (v := 0) hx hb dX5_logs_259 (by decide) ?_
          refine lv_iconst (v := 1) hx hb dX5_logs_260 (by decide) ?_
          refine x_callR (va_runV (As := [.int 0, .int 1]) (rest := [.int (nI ((442 + 17 * kn) + 7)), .ref mn]) ⟨hx, hb, hml, hown, hts⟩ (c_X5_whole l D cI cC cS tt mm mn mh ms mr md mo mc mt mq kp fl ty at9 nu D1 S1 R1 N1 (nI kn) g 0 1 (by first | omega | assumption | decide) (by first | omega | assumption | decide)) (cwV 2 hts gX5_logs_X5_whole rfl rfl rfl (by decide +kernel) ⟨Nat.le_of_ble_eq_true rfl, Nat.le_of_ble_eq_true rfl⟩) ⟨x_blindR, va_recv hK hP (ci := 5) (q0 := 0) rfl rfl, x_preR (hP.sub (ws' := [(mm, .inr (5, [.ref mn, .ref mh, .int kp, .ref ms, .int fl, .ref mr, .ref md, .ref mo, .ref mc, .int ty, .ref mt, .int at9, .int nu, .ref mq])), (mn, .inl (cI, 578, .inl (mkM D1 S1 R1 N1 (nI kn) g)))]) [0, 1] rfl) hK hE hS⟩ rfl rfl hl.1 rfl (lv_room (Nat.le_of_ble_eq_true rfl)) dX5_logs_261 ⟨(Nat.le_of_ble_eq_true rfl), (Nat.le_of_ble_eq_true rfl)⟩) ?_
          refine x_eqi (show wdS (pkN D1 S1 R1 0) (pkN D1 S1 R1 1) = wdS D1 S1 from rfl) ?_
          refine x_iastE hx hb hK hP hD hS 1 0 rfl rfl (k := (442 + 17 * kn) + 7) (g := mkM D1 S1 R1 N1 (nI kn) (upd g (17 * kn + 7) (wdS D1 S1))) (upM_L (j := (17 * kn + 7)) (by omega) (by omega)) (by omega) (by decide) dX5_logs_264 (fun H locs hP hD hS => ?_)
          have hP : va_P D vwCl [(mm, .inr (5, [.ref mn, .ref mh, .int kp, .ref ms, .int fl, .ref mr, .ref md, .ref mo, .ref mc, .int ty, .ref mt, .int at9, .int nu, .ref mq])), (mn, .inl (cI, 578, .inl (mkM D1 S1 R1 N1 (nI kn) (upd g (17 * kn + 7) (wdS D1 S1))))), (mc, .inl (cI, 9, .inl (cq)))] H := hP
          have hD : va_D (Ar) [(mm, .inr (5, [.ref mn, .ref mh, .int kp, .ref ms, .int fl, .ref mr, .ref md, .ref mo, .ref mc, .int ty, .ref mt, .int at9, .int nu, .ref mq])), (mn, .inl (cI, 578, .inl (mkM D1 S1 R1 N1 (nI kn) (upd g (17 * kn + 7) (wdS D1 S1))))), (mc, .inl (cI, 9, .inl (cq)))] := hD
          refine lv_aload_n hx hb dX5_logs_265 rfl (lv_at hl 0 rfl) ?_
          refine va_get (v := .ref mn) (D := D) (ci := 5) (C := RX5) (T := TX5) (N := 14) hx hb hts (by decide +kernel) hown hK hP 0 rfl rfl 0 (by decide) (hts (.fieldLink RX5 7 "SpiralFramesModel" "now" "[I") (by decide +kernel)) (fun _ h9 => h9) rfl dX5_logs_266 ?_
          refine lv_sipush (v := 441) hx hb dX5_logs_269 (by decide) ?_
          refine lv_dup2_11 hx hb dX5_logs_272 rfl rfl ?_
          refine x_eqi (show (441 : Int32) = nI 441 from by decide) ?_
          refine x_iald hx hb hK hP 1 0 rfl rfl (k := 441) (by omega) (by decide) dX5_logs_273 ?_
          refine x_eqi (show (mkM D1 S1 R1 N1 (nI kn) (upd g (17 * kn + 7) (wdS D1 S1))) 441 = (nI kn) from (mkM_K (by omega))) ?_
          refine lv_iconst (v := 1) hx hb dX5_logs_274 (by decide) ?_
          refine lv_iadd hx hb dX5_logs_275 ?_
          refine x_eqi (show nI kn + 1 = nI (kn + 1) from nI_add kn 1) ?_
          refine x_eqi2 (show (441 : Int32) = nI 441 from by decide) ?_
          refine x_iastE hx hb hK hP hD hS 1 0 rfl rfl (k := 441) (g := mkM D1 S1 R1 N1 (nI (kn + 1)) (upd g (17 * kn + 7) (wdS D1 S1))) (upM_K (by omega)) (by omega) (by decide) dX5_logs_276 (fun H locs hP hD hS => ?_)
          have hP : va_P D vwCl [(mm, .inr (5, [.ref mn, .ref mh, .int kp, .ref ms, .int fl, .ref mr, .ref md, .ref mo, .ref mc, .int ty, .ref mt, .int at9, .int nu, .ref mq])), (mn, .inl (cI, 578, .inl (mkM D1 S1 R1 N1 (nI (kn + 1)) (upd g (17 * kn + 7) (wdS D1 S1))))), (mc, .inl (cI, 9, .inl (cq)))] H := hP
          have hD : va_D (Ar) [(mm, .inr (5, [.ref mn, .ref mh, .int kp, .ref ms, .int fl, .ref mr, .ref md, .ref mo, .ref mc, .int ty, .ref mt, .int at9, .int nu, .ref mq])), (mn, .inl (cI, 578, .inl (mkM D1 S1 R1 N1 (nI (kn + 1)) (upd g (17 * kn + 7) (wdS D1 S1))))), (mc, .inl (cI, 9, .inl (cq)))] := hD
          refine x_vretW (w := [(mm, .inr (5, [.ref mn, .ref mh, .int kp, .ref ms, .int fl, .ref mr, .ref md, .ref mo, .ref mc, .int ty, .ref mt, .int at9, .int nu, .ref mq])), (mn, .inl (cI, 578, .inl (mkM D1 S1 R1 N1 (nI (kn + 1)) (upd g (17 * kn + 7) (wdS D1 S1))))), (mc, .inl (cI, 9, .inl (cq)))]) hQ hAe hx hb hr hlocks (hP.sub [0, 1, 2] rfl) (hD.sub [0, 1, 2] (by decide) rfl) hS ?_ dX5_logs_277
          have e9 : upd g (17 * kn + 7) (wdS D1 S1) = lgM L1 kn (lgR bt tol 0 0 cd (wdS D1 S1)) := by rw [hi167_1, show t = 9 by omega, lgX_e]; unfold lgM lgB; rw [if_neg (by omega), show min kn 7 = kn by omega]
          rw [e9, show min (kn + 1) 8 = kn + 1 by omega]
        · skip
          refine lv_aload_n hx hb dX5_logs_174 rfl (lv_at hl 0 rfl) ?_
          refine va_get (v := .ref mc) (D := D) (ci := 5) (C := RX5) (T := TX5) (N := 14) hx hb hts (by decide +kernel) hown hK hP 0 rfl rfl 8 (by decide) (hts (.fieldLink RX5 28 "SpiralFramesModel" "codes" "[I") (by decide +kernel)) (fun _ h9 => h9) rfl dX5_logs_175 ?_
          refine lv_iload hx hb dX5_logs_178 (lv_at hl 2 rfl) ?_
          refine x_iald hx hb hK hP 2 0 rfl rfl (k := t) (by omega) (by decide) dX5_logs_180 ?_
          refine x_eqi (show cq t = nI (cd t) from hh0 t (by omega)) ?_
          have cd25 := hh1 t
          refine x_if_ne (tgt := 188) hx hb dX5_logs_181 (by decide) (X := ((cd t : Nat) : Int)) (nI_toI (by omega)) (fun c_181 => ?_) (fun c_181 => ?_)
          · skip
            refine lv_aload_n hx hb dX5_logs_188 rfl (lv_at hl 0 rfl) ?_
            refine va_get (v := .ref mc) (D := D) (ci := 5) (C := RX5) (T := TX5) (N := 14) hx hb hts (by decide +kernel) hown hK hP 0 rfl rfl 8 (by decide) (hts (.fieldLink RX5 28 "SpiralFramesModel" "codes" "[I") (by decide +kernel)) (fun _ h9 => h9) rfl dX5_logs_189 ?_
            refine lv_iload hx hb dX5_logs_192 (lv_at hl 2 rfl) ?_
            refine x_iald hx hb hK hP 2 0 rfl rfl (k := t) (by omega) (by decide) dX5_logs_194 ?_
            refine x_eqi (show cq t = nI (cd t) from hh0 t (by omega)) ?_
            refine lv_bipush (v := 25) hx hb dX5_logs_195 (by decide) ?_
            refine x_icmp_ne (tgt := 204) hx hb dX5_logs_197 (by decide) (X := ((cd t : Nat) : Int)) (nI_toI (by omega)) (Y := 25) (show (25 : Int32).toInt = 25 from by decide) (fun c_197 => ?_) (fun c_197 => ?_)
            · skip
              refine lv_iconst (v := 1) hx hb dX5_logs_204 (by decide) ?_
              refine lv_istore (lv' := [(7, .int 1), (0, .ref mm), (5, .int (nI (442 + 17 * kn))), (6, .int (nI t))]) hx hb dX5_logs_205 hl (by decide) rfl (fun ls hl => ?_)
              refine lv_aload_n hx hb dX5_logs_207 rfl (lv_at hl 1 rfl) ?_
              refine va_get (v := .ref mn) (D := D) (ci := 5) (C := RX5) (T := TX5) (N := 14) hx hb hts (by decide +kernel) hown hK hP 0 rfl rfl 0 (by decide) (hts (.fieldLink RX5 7 "SpiralFramesModel" "now" "[I") (by decide +kernel)) (fun _ h9 => h9) rfl dX5_logs_208 ?_
              refine lv_iload hx hb dX5_logs_211 (lv_at hl 2 rfl) ?_
              refine lv_iconst (v := 4) hx hb dX5_logs_213 (by decide) ?_
              refine lv_iadd hx hb dX5_logs_214 ?_
              refine x_eqi (show nI (442 + 17 * kn) + 4 = nI ((442 + 17 * kn) + 4) from nI_add (442 + 17 * kn) 4) ?_
              refine lv_iload hx hb dX5_logs_215 (lv_at hl 0 rfl) ?_
              refine lv_iadd hx hb dX5_logs_217 ?_
              refine x_eqi (show nI ((442 + 17 * kn) + 4) + 1 = nI (((442 + 17 * kn) + 4) + 1) from nI_add ((442 + 17 * kn) + 4) 1) ?_
              refine lv_dup2_11 hx hb dX5_logs_218 rfl rfl ?_
              refine x_iald hx hb hK hP 1 0 rfl rfl (k := ((442 + 17 * kn) + 4) + 1) (by omega) (by decide) dX5_logs_219 ?_
              refine x_eqi (show (mkM D1 S1 R1 N1 (nI kn) g) (((442 + 17 * kn) + 4) + 1) = g (17 * kn + 4 + 1) from (mkM_L (j := (17 * kn + 4 + 1)) (by omega) (by omega))) ?_
              refine lv_iconst (v := 1) hx hb dX5_logs_220 (by decide) ?_
              refine lv_iadd hx hb dX5_logs_221 ?_
              refine x_iastE hx hb hK hP hD hS 1 0 rfl rfl (k := ((442 + 17 * kn) + 4) + 1) (g := mkM D1 S1 R1 N1 (nI kn) (upd g (17 * kn + 4 + 1) ((g (17 * kn + 4 + 1)) + 1))) (upM_L (j := (17 * kn + 4 + 1)) (by omega) (by omega)) (by omega) (by decide) dX5_logs_222 (fun H locs hP hD hS => ?_)
              have hP : va_P D vwCl [(mm, .inr (5, [.ref mn, .ref mh, .int kp, .ref ms, .int fl, .ref mr, .ref md, .ref mo, .ref mc, .int ty, .ref mt, .int at9, .int nu, .ref mq])), (mn, .inl (cI, 578, .inl (mkM D1 S1 R1 N1 (nI kn) (upd g (17 * kn + 4 + 1) ((g (17 * kn + 4 + 1)) + 1))))), (mc, .inl (cI, 9, .inl (cq)))] H := hP
              have hD : va_D (Ar) [(mm, .inr (5, [.ref mn, .ref mh, .int kp, .ref ms, .int fl, .ref mr, .ref md, .ref mo, .ref mc, .int ty, .ref mt, .int at9, .int nu, .ref mq])), (mn, .inl (cI, 578, .inl (mkM D1 S1 R1 N1 (nI kn) (upd g (17 * kn + 4 + 1) ((g (17 * kn + 4 + 1)) + 1))))), (mc, .inl (cI, 9, .inl (cq)))] := hD
              refine lv_aload_n hx hb dX5_logs_223 rfl (lv_at hl 1 rfl) ?_
              refine va_get (v := .ref mn) (D := D) (ci := 5) (C := RX5) (T := TX5) (N := 14) hx hb hts (by decide +kernel) hown hK hP 0 rfl rfl 0 (by decide) (hts (.fieldLink RX5 7 "SpiralFramesModel" "now" "[I") (by decide +kernel)) (fun _ h9 => h9) rfl dX5_logs_224 ?_
              refine lv_iload hx hb dX5_logs_227 (lv_at hl 2 rfl) ?_
              refine lv_bipush (v := 8) hx hb dX5_logs_229 (by decide) ?_
              refine lv_iadd hx hb dX5_logs_231 ?_
              refine x_eqi (show nI (442 + 17 * kn) + 8 = nI ((442 + 17 * kn) + 8) from nI_add (442 + 17 * kn) 8) ?_
              refine lv_iload hx hb dX5_logs_232 (lv_at hl 3 rfl) ?_
              refine lv_iadd hx hb dX5_logs_234 ?_
              refine x_eqi (show nI ((442 + 17 * kn) + 8) + nI t = nI (((442 + 17 * kn) + 8) + t) from nI_add ((442 + 17 * kn) + 8) t) ?_
              refine lv_aload_n hx hb dX5_logs_235 rfl (lv_at hl 1 rfl) ?_
              refine va_get (v := .ref mc) (D := D) (ci := 5) (C := RX5) (T := TX5) (N := 14) hx hb hts (by decide +kernel) hown hK hP 0 rfl rfl 8 (by decide) (hts (.fieldLink RX5 28 "SpiralFramesModel" "codes" "[I") (by decide +kernel)) (fun _ h9 => h9) rfl dX5_logs_236 ?_
              refine lv_iload hx hb dX5_logs_239 (lv_at hl 3 rfl) ?_
              refine x_iald hx hb hK hP 2 0 rfl rfl (k := t) (by omega) (by decide) dX5_logs_241 ?_
              refine x_eqi (show cq t = nI (cd t) from hh0 t (by omega)) ?_
              refine x_iastE hx hb hK hP hD hS 1 0 rfl rfl (k := ((442 + 17 * kn) + 8) + t) (g := mkM D1 S1 R1 N1 (nI kn) (upd (upd g (17 * kn + 4 + 1) ((g (17 * kn + 4 + 1)) + 1)) (17 * kn + 8 + t) (nI (cd t)))) (upM_L (j := (17 * kn + 8 + t)) (by omega) (by omega)) (by omega) (by decide) dX5_logs_242 (fun H locs hP hD hS => ?_)
              have hP : va_P D vwCl [(mm, .inr (5, [.ref mn, .ref mh, .int kp, .ref ms, .int fl, .ref mr, .ref md, .ref mo, .ref mc, .int ty, .ref mt, .int at9, .int nu, .ref mq])), (mn, .inl (cI, 578, .inl (mkM D1 S1 R1 N1 (nI kn) (upd (upd g (17 * kn + 4 + 1) ((g (17 * kn + 4 + 1)) + 1)) (17 * kn + 8 + t) (nI (cd t)))))), (mc, .inl (cI, 9, .inl (cq)))] H := hP
              have hD : va_D (Ar) [(mm, .inr (5, [.ref mn, .ref mh, .int kp, .ref ms, .int fl, .ref mr, .ref md, .ref mo, .ref mc, .int ty, .ref mt, .int at9, .int nu, .ref mq])), (mn, .inl (cI, 578, .inl (mkM D1 S1 R1 N1 (nI kn) (upd (upd g (17 * kn + 4 + 1) ((g (17 * kn + 4 + 1)) + 1)) (17 * kn + 8 + t) (nI (cd t)))))), (mc, .inl (cI, 9, .inl (cq)))] := hD
              refine lv_iinc (v := nI (t + 1)) (lv' := [(6, .int (nI (t + 1))), (7, .int 1), (0, .ref mm), (5, .int (nI (442 + 17 * kn)))]) hx hb dX5_logs_243 hl (k := 3) rfl (nI_add _ _) (by decide) rfl (fun ls hl => ?_)
              refine lv_goto (tgt := 167) hx hb dX5_logs_246 (by decide) ?_
              exact ih167 (t + 1) (upd (upd g (17 * kn + 4 + 1) ((g (17 * kn + 4 + 1)) + 1)) (17 * kn + 8 + t) (nI (cd t))) (by first | omega | assumption | rfl) (by rw [hi167_1]; first | exact lgX_s (kind := 0) (by omega) (by unfold kdN; rw [if_pos (by omega)]) (congrArg (fun z => z + 1) (lgX_k (by omega))) rfl | exact lgX_s (kind := 1) (by omega) (by unfold kdN; rw [if_neg (by omega), if_neg (by omega)]) (congrArg (fun z => z + 1) (lgX_k (by omega))) rfl | exact lgX_s (kind := 2) (by omega) (by unfold kdN; rw [if_neg (by omega), if_pos (by omega)]) (congrArg (fun z => z + 1) (lgX_k (by omega))) rfl) (by omega) H locs (hP.sub [0, 1, 2] rfl) (hD.sub [0, 1, 2] (by decide) rfl) hS ls (lv_sub hl [2, 3, 0] rfl)
            · skip
              refine lv_iconst (v := 2) hx hb dX5_logs_200 (by decide) ?_
              refine lv_goto (tgt := 205) hx hb dX5_logs_201 (by decide) ?_
              refine lv_istore (lv' := [(7, .int 2), (0, .ref mm), (5, .int (nI (442 + 17 * kn))), (6, .int (nI t))]) hx hb dX5_logs_205 hl (by decide) rfl (fun ls hl => ?_)
              refine lv_aload_n hx hb dX5_logs_207 rfl (lv_at hl 1 rfl) ?_
              refine va_get (v := .ref mn) (D := D) (ci := 5) (C := RX5) (T := TX5) (N := 14) hx hb hts (by decide +kernel) hown hK hP 0 rfl rfl 0 (by decide) (hts (.fieldLink RX5 7 "SpiralFramesModel" "now" "[I") (by decide +kernel)) (fun _ h9 => h9) rfl dX5_logs_208 ?_
              refine lv_iload hx hb dX5_logs_211 (lv_at hl 2 rfl) ?_
              refine lv_iconst (v := 4) hx hb dX5_logs_213 (by decide) ?_
              refine lv_iadd hx hb dX5_logs_214 ?_
              refine x_eqi (show nI (442 + 17 * kn) + 4 = nI ((442 + 17 * kn) + 4) from nI_add (442 + 17 * kn) 4) ?_
              refine lv_iload hx hb dX5_logs_215 (lv_at hl 0 rfl) ?_
              refine lv_iadd hx hb dX5_logs_217 ?_
              refine x_eqi (show nI ((442 + 17 * kn) + 4) + 2 = nI (((442 + 17 * kn) + 4) + 2) from nI_add ((442 + 17 * kn) + 4) 2) ?_
              refine lv_dup2_11 hx hb dX5_logs_218 rfl rfl ?_
              refine x_iald hx hb hK hP 1 0 rfl rfl (k := ((442 + 17 * kn) + 4) + 2) (by omega) (by decide) dX5_logs_219 ?_
              refine x_eqi (show (mkM D1 S1 R1 N1 (nI kn) g) (((442 + 17 * kn) + 4) + 2) = g (17 * kn + 4 + 2) from (mkM_L (j := (17 * kn + 4 + 2)) (by omega) (by omega))) ?_
              refine lv_iconst (v := 1) hx hb dX5_logs_220 (by decide) ?_
              refine lv_iadd hx hb dX5_logs_221 ?_
              refine x_iastE hx hb hK hP hD hS 1 0 rfl rfl (k := ((442 + 17 * kn) + 4) + 2) (g := mkM D1 S1 R1 N1 (nI kn) (upd g (17 * kn + 4 + 2) ((g (17 * kn + 4 + 2)) + 1))) (upM_L (j := (17 * kn + 4 + 2)) (by omega) (by omega)) (by omega) (by decide) dX5_logs_222 (fun H locs hP hD hS => ?_)
              have hP : va_P D vwCl [(mm, .inr (5, [.ref mn, .ref mh, .int kp, .ref ms, .int fl, .ref mr, .ref md, .ref mo, .ref mc, .int ty, .ref mt, .int at9, .int nu, .ref mq])), (mn, .inl (cI, 578, .inl (mkM D1 S1 R1 N1 (nI kn) (upd g (17 * kn + 4 + 2) ((g (17 * kn + 4 + 2)) + 1))))), (mc, .inl (cI, 9, .inl (cq)))] H := hP
              have hD : va_D (Ar) [(mm, .inr (5, [.ref mn, .ref mh, .int kp, .ref ms, .int fl, .ref mr, .ref md, .ref mo, .ref mc, .int ty, .ref mt, .int at9, .int nu, .ref mq])), (mn, .inl (cI, 578, .inl (mkM D1 S1 R1 N1 (nI kn) (upd g (17 * kn + 4 + 2) ((g (17 * kn + 4 + 2)) + 1))))), (mc, .inl (cI, 9, .inl (cq)))] := hD
              refine lv_aload_n hx hb dX5_logs_223 rfl (lv_at hl 1 rfl) ?_
              refine va_get (v := .ref mn) (D := D) (ci := 5) (C := RX5) (T := TX5) (N := 14) hx hb hts (by decide +kernel) hown hK hP 0 rfl rfl 0 (by decide) (hts (.fieldLink RX5 7 "SpiralFramesModel" "now" "[I") (by decide +kernel)) (fun _ h9 => h9) rfl dX5_logs_224 ?_
              refine lv_iload hx hb dX5_logs_227 (lv_at hl 2 rfl) ?_
              refine lv_bipush (v := 8) hx hb dX5_logs_229 (by decide) ?_
              refine lv_iadd hx hb dX5_logs_231 ?_
              refine x_eqi (show nI (442 + 17 * kn) + 8 = nI ((442 + 17 * kn) + 8) from nI_add (442 + 17 * kn) 8) ?_
              refine lv_iload hx hb dX5_logs_232 (lv_at hl 3 rfl) ?_
              refine lv_iadd hx hb dX5_logs_234 ?_
              refine x_eqi (show nI ((442 + 17 * kn) + 8) + nI t = nI (((442 + 17 * kn) + 8) + t) from nI_add ((442 + 17 * kn) + 8) t) ?_
              refine lv_aload_n hx hb dX5_logs_235 rfl (lv_at hl 1 rfl) ?_
              refine va_get (v := .ref mc) (D := D) (ci := 5) (C := RX5) (T := TX5) (N := 14) hx hb hts (by decide +kernel) hown hK hP 0 rfl rfl 8 (by decide) (hts (.fieldLink RX5 28 "SpiralFramesModel" "codes" "[I") (by decide +kernel)) (fun _ h9 => h9) rfl dX5_logs_236 ?_
              refine lv_iload hx hb dX5_logs_239 (lv_at hl 3 rfl) ?_
              refine x_iald hx hb hK hP 2 0 rfl rfl (k := t) (by omega) (by decide) dX5_logs_241 ?_
              refine x_eqi (show cq t = nI (cd t) from hh0 t (by omega)) ?_
              refine x_iastE hx hb hK hP hD hS 1 0 rfl rfl (k := ((442 + 17 * kn) + 8) + t) (g := mkM D1 S1 R1 N1 (nI kn) (upd (upd g (17 * kn + 4 + 2) ((g (17 * kn + 4 + 2)) + 1)) (17 * kn + 8 + t) (nI (cd t)))) (upM_L (j := (17 * kn + 8 + t)) (by omega) (by omega)) (by omega) (by decide) dX5_logs_242 (fun H locs hP hD hS => ?_)
              have hP : va_P D vwCl [(mm, .inr (5, [.ref mn, .ref mh, .int kp, .ref ms, .int fl, .ref mr, .ref md, .ref mo, .ref mc, .int ty, .ref mt, .int at9, .int nu, .ref mq])), (mn, .inl (cI, 578, .inl (mkM D1 S1 R1 N1 (nI kn) (upd (upd g (17 * kn + 4 + 2) ((g (17 * kn + 4 + 2)) + 1)) (17 * kn + 8 + t) (nI (cd t)))))), (mc, .inl (cI, 9, .inl (cq)))] H := hP
              have hD : va_D (Ar) [(mm, .inr (5, [.ref mn, .ref mh, .int kp, .ref ms, .int fl, .ref mr, .ref md, .ref mo, .ref mc, .int ty, .ref mt, .int at9, .int nu, .ref mq])), (mn, .inl (cI, 578, .inl (mkM D1 S1 R1 N1 (nI kn) (upd (upd g (17 * kn + 4 + 2) ((g (17 * kn + 4 + 2)) + 1)) (17 * kn + 8 + t) (nI (cd t)))))), (mc, .inl (cI, 9, .inl (cq)))] := hD
              refine lv_iinc (v := nI (t + 1)) (lv' := [(6, .int (nI (t + 1))), (7, .int 2), (0, .ref mm), (5, .int (nI (442 + 17 * kn)))]) hx hb dX5_logs_243 hl (k := 3) rfl (nI_add _ _) (by decide) rfl (fun ls hl => ?_)
              refine lv_goto (tgt := 167) hx hb dX5_logs_246 (by decide) ?_
              exact ih167 (t + 1) (upd (upd g (17 * kn + 4 + 2) ((g (17 * kn + 4 + 2)) + 1)) (17 * kn + 8 + t) (nI (cd t))) (by first | omega | assumption | rfl) (by rw [hi167_1]; first | exact lgX_s (kind := 0) (by omega) (by unfold kdN; rw [if_pos (by omega)]) (congrArg (fun z => z + 1) (lgX_k (by omega))) rfl | exact lgX_s (kind := 1) (by omega) (by unfold kdN; rw [if_neg (by omega), if_neg (by omega)]) (congrArg (fun z => z + 1) (lgX_k (by omega))) rfl | exact lgX_s (kind := 2) (by omega) (by unfold kdN; rw [if_neg (by omega), if_pos (by omega)]) (congrArg (fun z => z + 1) (lgX_k (by omega))) rfl) (by omega) H locs (hP.sub [0, 1, 2] rfl) (hD.sub [0, 1, 2] (by decide) rfl) hS ls (lv_sub hl [2, 3, 0] rfl)
          · skip
            refine lv_iconst (v := 0) hx hb dX5_logs_184 (by decide) ?_
            refine lv_goto (tgt := 205) hx hb dX5_logs_185 (by decide) ?_
            refine lv_istore (lv' := [(7, .int 0), (0, .ref mm), (5, .int (nI (442 + 17 * kn))), (6, .int (nI t))]) hx hb dX5_logs_205 hl (by decide) rfl (fun ls hl => ?_)
            refine lv_aload_n hx hb dX5_logs_207 rfl (lv_at hl 1 rfl) ?_
            refine va_get (v := .ref mn) (D := D) (ci := 5) (C := RX5) (T := TX5) (N := 14) hx hb hts (by decide +kernel) hown hK hP 0 rfl rfl 0 (by decide) (hts (.fieldLink RX5 7 "SpiralFramesModel" "now" "[I") (by decide +kernel)) (fun _ h9 => h9) rfl dX5_logs_208 ?_
            refine lv_iload hx hb dX5_logs_211 (lv_at hl 2 rfl) ?_
            refine lv_iconst (v := 4) hx hb dX5_logs_213 (by decide) ?_
            refine lv_iadd hx hb dX5_logs_214 ?_
            refine x_eqi (show nI (442 + 17 * kn) + 4 = nI ((442 + 17 * kn) + 4) from nI_add (442 + 17 * kn) 4) ?_
            refine lv_iload hx hb dX5_logs_215 (lv_at hl 0 rfl) ?_
            refine lv_iadd hx hb dX5_logs_217 ?_
            refine x_eqi (show nI ((442 + 17 * kn) + 4) + 0 = nI (((442 + 17 * kn) + 4) + 0) from nI_add ((442 + 17 * kn) + 4) 0) ?_
            refine lv_dup2_11 hx hb dX5_logs_218 rfl rfl ?_
            refine x_iald hx hb hK hP 1 0 rfl rfl (k := ((442 + 17 * kn) + 4) + 0) (by omega) (by decide) dX5_logs_219 ?_
            refine x_eqi (show (mkM D1 S1 R1 N1 (nI kn) g) (((442 + 17 * kn) + 4) + 0) = g (17 * kn + 4 + 0) from (mkM_L (j := (17 * kn + 4 + 0)) (by omega) (by omega))) ?_
            refine lv_iconst (v := 1) hx hb dX5_logs_220 (by decide) ?_
            refine lv_iadd hx hb dX5_logs_221 ?_
            refine x_iastE hx hb hK hP hD hS 1 0 rfl rfl (k := ((442 + 17 * kn) + 4) + 0) (g := mkM D1 S1 R1 N1 (nI kn) (upd g (17 * kn + 4 + 0) ((g (17 * kn + 4 + 0)) + 1))) (upM_L (j := (17 * kn + 4 + 0)) (by omega) (by omega)) (by omega) (by decide) dX5_logs_222 (fun H locs hP hD hS => ?_)
            have hP : va_P D vwCl [(mm, .inr (5, [.ref mn, .ref mh, .int kp, .ref ms, .int fl, .ref mr, .ref md, .ref mo, .ref mc, .int ty, .ref mt, .int at9, .int nu, .ref mq])), (mn, .inl (cI, 578, .inl (mkM D1 S1 R1 N1 (nI kn) (upd g (17 * kn + 4 + 0) ((g (17 * kn + 4 + 0)) + 1))))), (mc, .inl (cI, 9, .inl (cq)))] H := hP
            have hD : va_D (Ar) [(mm, .inr (5, [.ref mn, .ref mh, .int kp, .ref ms, .int fl, .ref mr, .ref md, .ref mo, .ref mc, .int ty, .ref mt, .int at9, .int nu, .ref mq])), (mn, .inl (cI, 578, .inl (mkM D1 S1 R1 N1 (nI kn) (upd g (17 * kn + 4 + 0) ((g (17 * kn + 4 + 0)) + 1))))), (mc, .inl (cI, 9, .inl (cq)))] := hD
            refine lv_aload_n hx hb dX5_logs_223 rfl (lv_at hl 1 rfl) ?_
            refine va_get (v := .ref mn) (D := D) (ci := 5) (C := RX5) (T := TX5) (N := 14) hx hb hts (by decide +kernel) hown hK hP 0 rfl rfl 0 (by decide) (hts (.fieldLink RX5 7 "SpiralFramesModel" "now" "[I") (by decide +kernel)) (fun _ h9 => h9) rfl dX5_logs_224 ?_
            refine lv_iload hx hb dX5_logs_227 (lv_at hl 2 rfl) ?_
            refine lv_bipush (v := 8) hx hb dX5_logs_229 (by decide) ?_
            refine lv_iadd hx hb dX5_logs_231 ?_
            refine x_eqi (show nI (442 + 17 * kn) + 8 = nI ((442 + 17 * kn) + 8) from nI_add (442 + 17 * kn) 8) ?_
            refine lv_iload hx hb dX5_logs_232 (lv_at hl 3 rfl) ?_
            refine lv_iadd hx hb dX5_logs_234 ?_
            refine x_eqi (show nI ((442 + 17 * kn) + 8) + nI t = nI (((442 + 17 * kn) + 8) + t) from nI_add ((442 + 17 * kn) + 8) t) ?_
            refine lv_aload_n hx hb dX5_logs_235 rfl (lv_at hl 1 rfl) ?_
            refine va_get (v := .ref mc) (D := D) (ci := 5) (C := RX5) (T := TX5) (N := 14) hx hb hts (by decide +kernel) hown hK hP 0 rfl rfl 8 (by decide) (hts (.fieldLink RX5 28 "SpiralFramesModel" "codes" "[I") (by decide +kernel)) (fun _ h9 => h9) rfl dX5_logs_236 ?_
            refine lv_iload hx hb dX5_logs_239 (lv_at hl 3 rfl) ?_
            refine x_iald hx hb hK hP 2 0 rfl rfl (k := t) (by omega) (by decide) dX5_logs_241 ?_
            refine x_eqi (show cq t = nI (cd t) from hh0 t (by omega)) ?_
            refine x_iastE hx hb hK hP hD hS 1 0 rfl rfl (k := ((442 + 17 * kn) + 8) + t) (g := mkM D1 S1 R1 N1 (nI kn) (upd (upd g (17 * kn + 4 + 0) ((g (17 * kn + 4 + 0)) + 1)) (17 * kn + 8 + t) (nI (cd t)))) (upM_L (j := (17 * kn + 8 + t)) (by omega) (by omega)) (by omega) (by decide) dX5_logs_242 (fun H locs hP hD hS => ?_)
            have hP : va_P D vwCl [(mm, .inr (5, [.ref mn, .ref mh, .int kp, .ref ms, .int fl, .ref mr, .ref md, .ref mo, .ref mc, .int ty, .ref mt, .int at9, .int nu, .ref mq])), (mn, .inl (cI, 578, .inl (mkM D1 S1 R1 N1 (nI kn) (upd (upd g (17 * kn + 4 + 0) ((g (17 * kn + 4 + 0)) + 1)) (17 * kn + 8 + t) (nI (cd t)))))), (mc, .inl (cI, 9, .inl (cq)))] H := hP
            have hD : va_D (Ar) [(mm, .inr (5, [.ref mn, .ref mh, .int kp, .ref ms, .int fl, .ref mr, .ref md, .ref mo, .ref mc, .int ty, .ref mt, .int at9, .int nu, .ref mq])), (mn, .inl (cI, 578, .inl (mkM D1 S1 R1 N1 (nI kn) (upd (upd g (17 * kn + 4 + 0) ((g (17 * kn + 4 + 0)) + 1)) (17 * kn + 8 + t) (nI (cd t)))))), (mc, .inl (cI, 9, .inl (cq)))] := hD
            refine lv_iinc (v := nI (t + 1)) (lv' := [(6, .int (nI (t + 1))), (7, .int 0), (0, .ref mm), (5, .int (nI (442 + 17 * kn)))]) hx hb dX5_logs_243 hl (k := 3) rfl (nI_add _ _) (by decide) rfl (fun ls hl => ?_)
            refine lv_goto (tgt := 167) hx hb dX5_logs_246 (by decide) ?_
            exact ih167 (t + 1) (upd (upd g (17 * kn + 4 + 0) ((g (17 * kn + 4 + 0)) + 1)) (17 * kn + 8 + t) (nI (cd t))) (by first | omega | assumption | rfl) (by rw [hi167_1]; first | exact lgX_s (kind := 0) (by omega) (by unfold kdN; rw [if_pos (by omega)]) (congrArg (fun z => z + 1) (lgX_k (by omega))) rfl | exact lgX_s (kind := 1) (by omega) (by unfold kdN; rw [if_neg (by omega), if_neg (by omega)]) (congrArg (fun z => z + 1) (lgX_k (by omega))) rfl | exact lgX_s (kind := 2) (by omega) (by unfold kdN; rw [if_neg (by omega), if_pos (by omega)]) (congrArg (fun z => z + 1) (lgX_k (by omega))) rfl) (by omega) H locs (hP.sub [0, 1, 2] rfl) (hD.sub [0, 1, 2] (by decide) rfl) hS ls (lv_sub hl [2, 3, 0] rfl)
    exact L167 _ 0 (upd (upd (upd (upd (upd (upd (upd L1 (17 * kn) bt) (17 * kn + 1) tol) (17 * kn + 2) 0) (17 * kn + 3) 0) (17 * kn + 4) 0) (17 * kn + 5) 0) (17 * kn + 6) 0) (by first | omega | assumption | rfl) lgX_0 (Nat.lt_succ_self _) H locs (hP.sub [0, 1, 2] rfl) (hD.sub [0, 1, 2] (by decide) rfl) hS ls (lv_sub hl [2, 1, 0] rfl)
set_option maxHeartbeats 4000000 in
set_option maxRecDepth 100000 in
theorem c_X5_logs_01 (l : Launch) (D : va_G) (cI cC cS : ClassId) (tt : Nat → Nat) (sz : Nat) (mm : Nat) (mn : Nat) (mh : Nat) (ms : Nat) (mr : Nat) (md : Nat) (mo : Nat) (mc : Nat) (mt : Nat) (mq : Nat) (kp : Int32) (fl : Int32) (ty : Int32) (at9 : Int32) (nu : Int32) (D1 : Nat → Int32) (S1 : Nat → Int32) (R1 : Nat → Int32) (N1 : Nat → Int32) (L1 : Nat → Int32) (kn : Nat) (cq : Nat → Int32) (cd : Nat → Nat) (bt : Int32) (tol : Int32) (hh0 : ∀ t9, t9 < 9 → cq t9 = nI (cd t9)) (hh1 : ∀ t9, cd t9 ≤ 25) (hh2 : kn ≤ 8) : Met l yX5_logs wsX5_logs ({ frames := 4, cells := 0, slots := 0, locals := 98 } : Room) (x_PW D cI cC cS tt [(mm, .inr (5, [.ref mn, .ref mh, .int kp, .ref ms, .int fl, .ref mr, .ref md, .ref mo, .ref mc, .int ty, .ref mt, .int at9, .int nu, .ref mq])), (mn, .inl (cI, 578, .inl (mkM D1 S1 R1 N1 (nI kn) L1))), (mc, .inl (cI, 9, .inl (cq)))] sz [.ref mm, .int bt, .int tol, .int 0, .int 1]) (x_QWv D [(mm, .inr (5, [.ref mn, .ref mh, .int kp, .ref ms, .int fl, .ref mr, .ref md, .ref mo, .ref mc, .int ty, .ref mt, .int at9, .int nu, .ref mq])), (mn, .inl (cI, 578, .inl (mkM D1 S1 R1 N1 (nI kn) L1))), (mc, .inl (cI, 9, .inl (cq)))] sz (fun (w : va_W) => w = [(mm, .inr (5, [.ref mn, .ref mh, .int kp, .ref ms, .int fl, .ref mr, .ref md, .ref mo, .ref mc, .int ty, .ref mt, .int at9, .int nu, .ref mq])), (mn, .inl (cI, 578, .inl (mkM D1 S1 R1 N1 (nI (min (kn + 1) 8)) (lgM L1 kn (lgR bt tol 0 1 cd (wdS D1 S1)))))), (mc, .inl (cI, 9, .inl (cq)))])) 0 0 (va_A [(mm, .inr (5, [.ref mn, .ref mh, .int kp, .ref ms, .int fl, .ref mr, .ref md, .ref mo, .ref mc, .int ty, .ref mt, .int at9, .int nu, .ref mq])), (mn, .inl (cI, 578, .inl (mkM D1 S1 R1 N1 (nI kn) L1))), (mc, .inl (cI, 9, .inl (cq)))] sz) := by
  refine Met.ofW (cc := cX5_logs) (maxL := 8) (ret := none) (by decide) rfl ?_
  intro p e s m args below meth c s₁ hBd hml hv
  obtain ⟨rfl, hsz, hP, hK, hD0, hE0⟩ := hv
  have hx := hBd.exec
  have hb := hBd.bytes
  have hr := hBd.returns
  have hts := atoms_spec (ws := wsX5_logs) hBd.pre
  have hown : s.vm.findClass RX5 = some m.cls := findClass_of_methodNamed hBd.named
  have hlocks := hBd.notSynchronized
  subst hsz
  obtain ⟨Ar, hAe⟩ : ∃ Ar : Nat → Prop, Ar = va_A [(mm, .inr (5, [.ref mn, .ref mh, .int kp, .ref ms, .int fl, .ref mr, .ref md, .ref mo, .ref mc, .int ty, .ref mt, .int at9, .int nu, .ref mq])), (mn, .inl (cI, 578, .inl (mkM D1 S1 R1 N1 (nI kn) L1))), (mc, .inl (cI, 9, .inl (cq)))] s.heap.size := ⟨_, rfl⟩
  have hD : va_D Ar [(mm, .inr (5, [.ref mn, .ref mh, .int kp, .ref ms, .int fl, .ref mr, .ref md, .ref mo, .ref mc, .int ty, .ref mt, .int at9, .int nu, .ref mq])), (mn, .inl (cI, 578, .inl (mkM D1 S1 R1 N1 (nI kn) L1))), (mc, .inl (cI, 9, .inl (cq)))] := by rw [hAe]; exact hD0.self
  have hA : ∀ q : Nat, s.heap.size ≤ q → Ar q := fun q h => by rw [hAe]; exact Or.inr h
  have hE : x_E tt Ar s := by rw [hAe]; exact hE0
  have hS : va_S Ar s.heap s.heap [] := va_S.rf
  have hl := lv_entry ([.ref mm, .int bt, .int tol, .int 0, .int 1]) (n := 8) (Nat.le_of_ble_eq_true rfl)
  rw [lg_entry_eq]
  generalize (lg_sl ([.ref mm, .int bt, .int tol, .int 0, .int 1]) ++ List.replicate (8 - (lg_sl ([.ref mm, .int bt, .int tol, .int 0, .int 1])).length) Slot.unset).toArray = ls at hl ⊢
  have hl : lv_has ls 8 [(0, .ref mm), (1, .int bt), (2, .int tol), (3, .int 0), (4, .int 1)] := hl
  refine x_genQ (fun Q hQ => ?_)
  rcases (show kn = 8 ∨ kn < 8 by omega) with hk8 | hk8
  · skip
    subst hk8
    refine lv_aload_n hx hb dX5_logs_0 rfl (lv_at hl 0 rfl) ?_
    refine va_get (v := .ref mn) (D := D) (ci := 5) (C := RX5) (T := TX5) (N := 14) hx hb hts (by decide +kernel) hown hK hP 0 rfl rfl 0 (by decide) (hts (.fieldLink RX5 7 "SpiralFramesModel" "now" "[I") (by decide +kernel)) (fun _ h9 => h9) rfl dX5_logs_1 ?_
    refine lv_sipush (v := 441) hx hb dX5_logs_4 (by decide) ?_
    refine x_eqi (show (441 : Int32) = nI 441 from by decide) ?_
    refine x_iald hx hb hK hP 1 0 rfl rfl (k := 441) (by omega) (by decide) dX5_logs_7 ?_
    refine x_eqi (show (mkM D1 S1 R1 N1 (nI 8) L1) 441 = (nI 8) from (mkM_K (by omega))) ?_
    refine lv_bipush (v := 8) hx hb dX5_logs_8 (by decide) ?_
    refine x_icmp_ne (tgt := 61) hx hb dX5_logs_10 (by decide) (X := ((8 : Nat) : Int)) (nI_toI (by omega)) (Y := 8) (show (8 : Int32).toInt = 8 from by decide) (fun h => False.elim (by omega)) (fun _ => ?_)
    refine lv_sipush (v := 442) hx hb dX5_logs_13 (by decide) ?_
    refine lv_istore (lv' := [(5, .int 442), (0, .ref mm), (1, .int bt), (2, .int tol), (3, .int 0), (4, .int 1)]) hx hb dX5_logs_16 hl (by decide) rfl (fun ls hl => ?_)
    have L18 : ∀ (fuel : Nat) (j : Nat) (f : Nat → Int32), (442 ≤ j) → (j ≤ 561) → (f = shL L1 (j - 442)) → 561 - j < fuel → ∀ (H : Heap) (locs : List Loc), va_P D vwCl [(mm, .inr (5, [.ref mn, .ref mh, .int kp, .ref ms, .int fl, .ref mr, .ref md, .ref mo, .ref mc, .int ty, .ref mt, .int at9, .int nu, .ref mq])), (mn, .inl (cI, 578, .inl (mkM D1 S1 R1 N1 (nI 8) f))), (mc, .inl (cI, 9, .inl (cq)))] H → va_D (Ar) [(mm, .inr (5, [.ref mn, .ref mh, .int kp, .ref ms, .int fl, .ref mr, .ref md, .ref mo, .ref mc, .int ty, .ref mt, .int at9, .int nu, .ref mq])), (mn, .inl (cI, 578, .inl (mkM D1 S1 R1 N1 (nI 8) f))), (mc, .inl (cI, 9, .inl (cq)))] → va_S (Ar) s.heap H locs → ∀ (ls : Array Slot), lv_has ls 8 [(0, .ref mm), (1, .int bt), (2, .int tol), (3, .int 0), (4, .int 1), (5, .int (nI j))] → W p l e (headSpec wsX5_logs ({ frames := 4, cells := 0, slots := 0, locals := 98 } : Room)).room s m ([.ref mm, .int bt, .int tol, .int 0, .int 1] : List Value).toArray below meth c H locs 0 0 Q (F0 m 18 ls []) := by
      intro fuel
      induction fuel with
      | zero =>
        intro j f hi18_0 hi18_1 hi18_2 hfu
        exact absurd hfu (Nat.not_lt_zero _)
      | succ fuel ih18 =>
        intro j f hi18_0 hi18_1 hi18_2 hfu18 H locs hP hD hS ls hl
        refine lv_iload hx hb dX5_logs_18 (lv_at hl 5 rfl) ?_
        refine lv_sipush (v := 561) hx hb dX5_logs_20 (by decide) ?_
        refine x_icmp_ge (tgt := 49) hx hb dX5_logs_23 (by decide) (X := ((j : Nat) : Int)) (nI_toI (by omega)) (Y := 561) (show (561 : Int32).toInt = 561 from by decide) (fun c_23 => ?_) (fun c_23 => ?_)
        · skip
          refine lv_aload_n hx hb dX5_logs_49 rfl (lv_at hl 0 rfl) ?_
          refine va_get (v := .ref mn) (D := D) (ci := 5) (C := RX5) (T := TX5) (N := 14) hx hb hts (by decide +kernel) hown hK hP 0 rfl rfl 0 (by decide) (hts (.fieldLink RX5 7 "SpiralFramesModel" "now" "[I") (by decide +kernel)) (fun _ h9 => h9) rfl dX5_logs_50 ?_
          refine lv_sipush (v := 441) hx hb dX5_logs_53 (by decide) ?_
          refine lv_dup2_11 hx hb dX5_logs_56 rfl rfl ?_
          refine x_eqi (show (441 : Int32) = nI 441 from by decide) ?_
          refine x_iald hx hb hK hP 1 0 rfl rfl (k := 441) (by omega) (by decide) dX5_logs_57 ?_
          refine x_eqi (show (mkM D1 S1 R1 N1 (nI 8) f) 441 = (nI 8) from (mkM_K (by omega))) ?_
          refine lv_iconst (v := 1) hx hb dX5_logs_58 (by decide) ?_
          refine lv_isub hx hb dX5_logs_59 ?_
          refine x_eqi (show (nI 8) - 1 = nI (7) from x_eqN (x_subI (nI_toI (by omega)) (show (1 : Int32).toInt = 1 from by decide) (by omega) (by omega)) (by omega)) ?_
          refine x_eqi2 (show (441 : Int32) = nI 441 from by decide) ?_
          refine x_iastE hx hb hK hP hD hS 1 0 rfl rfl (k := 441) (g := mkM D1 S1 R1 N1 (nI 7) f) (upM_K (by omega)) (by omega) (by decide) dX5_logs_60 (fun H locs hP hD hS => ?_)
          have hP : va_P D vwCl [(mm, .inr (5, [.ref mn, .ref mh, .int kp, .ref ms, .int fl, .ref mr, .ref md, .ref mo, .ref mc, .int ty, .ref mt, .int at9, .int nu, .ref mq])), (mn, .inl (cI, 578, .inl (mkM D1 S1 R1 N1 (nI 7) f))), (mc, .inl (cI, 9, .inl (cq)))] H := hP
          have hD : va_D (Ar) [(mm, .inr (5, [.ref mn, .ref mh, .int kp, .ref ms, .int fl, .ref mr, .ref md, .ref mo, .ref mc, .int ty, .ref mt, .int at9, .int nu, .ref mq])), (mn, .inl (cI, 578, .inl (mkM D1 S1 R1 N1 (nI 7) f))), (mc, .inl (cI, 9, .inl (cq)))] := hD
          refine lv_sipush (v := 442) hx hb dX5_logs_61 (by decide) ?_
          refine lv_bipush (v := 17) hx hb dX5_logs_64 (by decide) ?_
          refine lv_aload_n hx hb dX5_logs_66 rfl (lv_at hl 0 rfl) ?_
          refine va_get (v := .ref mn) (D := D) (ci := 5) (C := RX5) (T := TX5) (N := 14) hx hb hts (by decide +kernel) hown hK hP 0 rfl rfl 0 (by decide) (hts (.fieldLink RX5 7 "SpiralFramesModel" "now" "[I") (by decide +kernel)) (fun _ h9 => h9) rfl dX5_logs_67 ?_
          refine lv_sipush (v := 441) hx hb dX5_logs_70 (by decide) ?_
          refine x_eqi (show (441 : Int32) = nI 441 from by decide) ?_
          refine x_iald hx hb hK hP 1 0 rfl rfl (k := 441) (by omega) (by decide) dX5_logs_73 ?_
          refine x_eqi (show (mkM D1 S1 R1 N1 (nI 7) f) 441 = (nI 7) from (mkM_K (by omega))) ?_
          refine lv_imul hx hb dX5_logs_74 ?_
          refine x_eqi (show 17 * nI 7 = nI (17 * 7) from pk_mul 17 7) ?_
          refine lv_iadd hx hb dX5_logs_75 ?_
          refine x_eqi (show 442 + nI (17 * 7) = nI (442 + (17 * 7)) from nI_add 442 (17 * 7)) ?_
          refine lv_istore (lv' := [(5, .int (nI (442 + (17 * 7)))), (0, .ref mm), (1, .int bt), (2, .int tol), (3, .int 0), (4, .int 1)]) hx hb dX5_logs_76 hl (by decide) rfl (fun ls hl => ?_)
          refine lv_aload_n hx hb dX5_logs_78 rfl (lv_at hl 1 rfl) ?_
          refine va_get (v := .ref mn) (D := D) (ci := 5) (C := RX5) (T := TX5) (N := 14) hx hb hts (by decide +kernel) hown hK hP 0 rfl rfl 0 (by decide) (hts (.fieldLink RX5 7 "SpiralFramesModel" "now" "[I") (by decide +kernel)) (fun _ h9 => h9) rfl dX5_logs_79 ?_
          refine lv_iload hx hb dX5_logs_82 (lv_at hl 0 rfl) ?_
          refine lv_iload_n hx hb dX5_logs_84 rfl (lv_at hl 2 rfl) ?_
          refine x_iastE hx hb hK hP hD hS 1 0 rfl rfl (k := 442 + (17 * 7)) (g := mkM D1 S1 R1 N1 (nI 7) (upd f (17 * 7) bt)) (upM_L (j := (17 * 7)) (by omega) (by omega)) (by omega) (by decide) dX5_logs_85 (fun H locs hP hD hS => ?_)
          have hP : va_P D vwCl [(mm, .inr (5, [.ref mn, .ref mh, .int kp, .ref ms, .int fl, .ref mr, .ref md, .ref mo, .ref mc, .int ty, .ref mt, .int at9, .int nu, .ref mq])), (mn, .inl (cI, 578, .inl (mkM D1 S1 R1 N1 (nI 7) (upd f (17 * 7) bt)))), (mc, .inl (cI, 9, .inl (cq)))] H := hP
          have hD : va_D (Ar) [(mm, .inr (5, [.ref mn, .ref mh, .int kp, .ref ms, .int fl, .ref mr, .ref md, .ref mo, .ref mc, .int ty, .ref mt, .int at9, .int nu, .ref mq])), (mn, .inl (cI, 578, .inl (mkM D1 S1 R1 N1 (nI 7) (upd f (17 * 7) bt)))), (mc, .inl (cI, 9, .inl (cq)))] := hD
          refine lv_aload_n hx hb dX5_logs_86 rfl (lv_at hl 1 rfl) ?_
          refine va_get (v := .ref mn) (D := D) (ci := 5) (C := RX5) (T := TX5) (N := 14) hx hb hts (by decide +kernel) hown hK hP 0 rfl rfl 0 (by decide) (hts (.fieldLink RX5 7 "SpiralFramesModel" "now" "[I") (by decide +kernel)) (fun _ h9 => h9) rfl dX5_logs_87 ?_
          refine lv_iload hx hb dX5_logs_90 (lv_at hl 0 rfl) ?_
          refine lv_iconst (v := 1) hx hb dX5_logs_92 (by decide) ?_
          refine lv_iadd hx hb dX5_logs_93 ?_
          refine x_eqi (show nI (442 + (17 * 7)) + 1 = nI ((442 + (17 * 7)) + 1) from nI_add (442 + (17 * 7)) 1) ?_
          refine lv_iload_n hx hb dX5_logs_94 rfl (lv_at hl 3 rfl) ?_
          refine x_iastE hx hb hK hP hD hS 1 0 rfl rfl (k := (442 + (17 * 7)) + 1) (g := mkM D1 S1 R1 N1 (nI 7) (upd (upd f (17 * 7) bt) (17 * 7 + 1) tol)) (upM_L (j := (17 * 7 + 1)) (by omega) (by omega)) (by omega) (by decide) dX5_logs_95 (fun H locs hP hD hS => ?_)
          have hP : va_P D vwCl [(mm, .inr (5, [.ref mn, .ref mh, .int kp, .ref ms, .int fl, .ref mr, .ref md, .ref mo, .ref mc, .int ty, .ref mt, .int at9, .int nu, .ref mq])), (mn, .inl (cI, 578, .inl (mkM D1 S1 R1 N1 (nI 7) (upd (upd f (17 * 7) bt) (17 * 7 + 1) tol)))), (mc, .inl (cI, 9, .inl (cq)))] H := hP
          have hD : va_D (Ar) [(mm, .inr (5, [.ref mn, .ref mh, .int kp, .ref ms, .int fl, .ref mr, .ref md, .ref mo, .ref mc, .int ty, .ref mt, .int at9, .int nu, .ref mq])), (mn, .inl (cI, 578, .inl (mkM D1 S1 R1 N1 (nI 7) (upd (upd f (17 * 7) bt) (17 * 7 + 1) tol)))), (mc, .inl (cI, 9, .inl (cq)))] := hD
          refine lv_aload_n hx hb dX5_logs_96 rfl (lv_at hl 1 rfl) ?_
          refine va_get (v := .ref mn) (D := D) (ci := 5) (C := RX5) (T := TX5) (N := 14) hx hb hts (by decide +kernel) hown hK hP 0 rfl rfl 0 (by decide) (hts (.fieldLink RX5 7 "SpiralFramesModel" "now" "[I") (by decide +kernel)) (fun _ h9 => h9) rfl dX5_logs_97 ?_
          refine lv_iload hx hb dX5_logs_100 (lv_at hl 0 rfl) ?_
          refine lv_iconst (v := 2) hx hb dX5_logs_102 (by decide) ?_
          refine lv_iadd hx hb dX5_logs_103 ?_
          refine x_eqi (show nI (442 + (17 * 7)) + 2 = nI ((442 + (17 * 7)) + 2) from nI_add (442 + (17 * 7)) 2) ?_
          refine lv_iload_n hx hb dX5_logs_104 rfl (lv_at hl 4 rfl) ?_
          refine lv_if_eq (tgt := 112) hx hb dX5_logs_105 (by decide) (fun _ => ?_) (fun h => False.elim (by revert h; decide))
          refine lv_iconst (v := 0) hx hb dX5_logs_112 (by decide) ?_
          refine x_iastE hx hb hK hP hD hS 1 0 rfl rfl (k := (442 + (17 * 7)) + 2) (g := mkM D1 S1 R1 N1 (nI 7) (upd (upd (upd f (17 * 7) bt) (17 * 7 + 1) tol) (17 * 7 + 2) 0)) (upM_L (j := (17 * 7 + 2)) (by omega) (by omega)) (by omega) (by decide) dX5_logs_113 (fun H locs hP hD hS => ?_)
          have hP : va_P D vwCl [(mm, .inr (5, [.ref mn, .ref mh, .int kp, .ref ms, .int fl, .ref mr, .ref md, .ref mo, .ref mc, .int ty, .ref mt, .int at9, .int nu, .ref mq])), (mn, .inl (cI, 578, .inl (mkM D1 S1 R1 N1 (nI 7) (upd (upd (upd f (17 * 7) bt) (17 * 7 + 1) tol) (17 * 7 + 2) 0)))), (mc, .inl (cI, 9, .inl (cq)))] H := hP
          have hD : va_D (Ar) [(mm, .inr (5, [.ref mn, .ref mh, .int kp, .ref ms, .int fl, .ref mr, .ref md, .ref mo, .ref mc, .int ty, .ref mt, .int at9, .int nu, .ref mq])), (mn, .inl (cI, 578, .inl (mkM D1 S1 R1 N1 (nI 7) (upd (upd (upd f (17 * 7) bt) (17 * 7 + 1) tol) (17 * 7 + 2) 0)))), (mc, .inl (cI, 9, .inl (cq)))] := hD
          refine lv_aload_n hx hb dX5_logs_114 rfl (lv_at hl 1 rfl) ?_
          refine va_get (v := .ref mn) (D := D) (ci := 5) (C := RX5) (T := TX5) (N := 14) hx hb hts (by decide +kernel) hown hK hP 0 rfl rfl 0 (by decide) (hts (.fieldLink RX5 7 "SpiralFramesModel" "now" "[I") (by decide +kernel)) (fun _ h9 => h9) rfl dX5_logs_115 ?_
          refine lv_iload hx hb dX5_logs_118 (lv_at hl 0 rfl) ?_
          refine lv_iconst (v := 3) hx hb dX5_logs_120 (by decide) ?_
          refine lv_iadd hx hb dX5_logs_121 ?_
          refine x_eqi (show nI (442 + (17 * 7)) + 3 = nI ((442 + (17 * 7)) + 3) from nI_add (442 + (17 * 7)) 3) ?_
          refine lv_iload hx hb dX5_logs_122 (lv_at hl 5 rfl) ?_
          refine lv_if_eq (tgt := 131) hx hb dX5_logs_124 (by decide) (fun h => False.elim (by revert h; decide)) (fun _ => ?_)
          refine lv_iconst (v := 1) hx hb dX5_logs_127 (by decide) ?_
          refine lv_goto (tgt := 132) hx hb dX5_logs_128 (by decide) ?_
          refine x_iastE hx hb hK hP hD hS 1 0 rfl rfl (k := (442 + (17 * 7)) + 3) (g := mkM D1 S1 R1 N1 (nI 7) (upd (upd (upd (upd f (17 * 7) bt) (17 * 7 + 1) tol) (17 * 7 + 2) 0) (17 * 7 + 3) 1)) (upM_L (j := (17 * 7 + 3)) (by omega) (by omega)) (by omega) (by decide) dX5_logs_132 (fun H locs hP hD hS => ?_)
          have hP : va_P D vwCl [(mm, .inr (5, [.ref mn, .ref mh, .int kp, .ref ms, .int fl, .ref mr, .ref md, .ref mo, .ref mc, .int ty, .ref mt, .int at9, .int nu, .ref mq])), (mn, .inl (cI, 578, .inl (mkM D1 S1 R1 N1 (nI 7) (upd (upd (upd (upd f (17 * 7) bt) (17 * 7 + 1) tol) (17 * 7 + 2) 0) (17 * 7 + 3) 1)))), (mc, .inl (cI, 9, .inl (cq)))] H := hP
          have hD : va_D (Ar) [(mm, .inr (5, [.ref mn, .ref mh, .int kp, .ref ms, .int fl, .ref mr, .ref md, .ref mo, .ref mc, .int ty, .ref mt, .int at9, .int nu, .ref mq])), (mn, .inl (cI, 578, .inl (mkM D1 S1 R1 N1 (nI 7) (upd (upd (upd (upd f (17 * 7) bt) (17 * 7 + 1) tol) (17 * 7 + 2) 0) (17 * 7 + 3) 1)))), (mc, .inl (cI, 9, .inl (cq)))] := hD
          refine lv_aload_n hx hb dX5_logs_133 rfl (lv_at hl 1 rfl) ?_
          refine va_get (v := .ref mn) (D := D) (ci := 5) (C := RX5) (T := TX5) (N := 14) hx hb hts (by decide +kernel) hown hK hP 0 rfl rfl 0 (by decide) (hts (.fieldLink RX5 7 "SpiralFramesModel" "now" "[I") (by decide +kernel)) (fun _ h9 => h9) rfl dX5_logs_134 ?_
          refine lv_iload hx hb dX5_logs_137 (lv_at hl 0 rfl) ?_
          refine lv_iconst (v := 4) hx hb dX5_logs_139 (by decide) ?_
          refine lv_iadd hx hb dX5_logs_140 ?_
          refine x_eqi (show nI (442 + (17 * 7)) + 4 = nI ((442 + (17 * 7)) + 4) from nI_add (442 + (17 * 7)) 4) ?_
          refine lv_iconst (v := 0) hx hb dX5_logs_141 (by decide) ?_
          refine x_iastE hx hb hK hP hD hS 1 0 rfl rfl (k := (442 + (17 * 7)) + 4) (g := mkM D1 S1 R1 N1 (nI 7) (upd (upd (upd (upd (upd f (17 * 7) bt) (17 * 7 + 1) tol) (17 * 7 + 2) 0) (17 * 7 + 3) 1) (17 * 7 + 4) 0)) (upM_L (j := (17 * 7 + 4)) (by omega) (by omega)) (by omega) (by decide) dX5_logs_142 (fun H locs hP hD hS => ?_)
          have hP : va_P D vwCl [(mm, .inr (5, [.ref mn, .ref mh, .int kp, .ref ms, .int fl, .ref mr, .ref md, .ref mo, .ref mc, .int ty, .ref mt, .int at9, .int nu, .ref mq])), (mn, .inl (cI, 578, .inl (mkM D1 S1 R1 N1 (nI 7) (upd (upd (upd (upd (upd f (17 * 7) bt) (17 * 7 + 1) tol) (17 * 7 + 2) 0) (17 * 7 + 3) 1) (17 * 7 + 4) 0)))), (mc, .inl (cI, 9, .inl (cq)))] H := hP
          have hD : va_D (Ar) [(mm, .inr (5, [.ref mn, .ref mh, .int kp, .ref ms, .int fl, .ref mr, .ref md, .ref mo, .ref mc, .int ty, .ref mt, .int at9, .int nu, .ref mq])), (mn, .inl (cI, 578, .inl (mkM D1 S1 R1 N1 (nI 7) (upd (upd (upd (upd (upd f (17 * 7) bt) (17 * 7 + 1) tol) (17 * 7 + 2) 0) (17 * 7 + 3) 1) (17 * 7 + 4) 0)))), (mc, .inl (cI, 9, .inl (cq)))] := hD
          refine lv_aload_n hx hb dX5_logs_143 rfl (lv_at hl 1 rfl) ?_
          refine va_get (v := .ref mn) (D := D) (ci := 5) (C := RX5) (T := TX5) (N := 14) hx hb hts (by decide +kernel) hown hK hP 0 rfl rfl 0 (by decide) (hts (.fieldLink RX5 7 "SpiralFramesModel" "now" "[I") (by decide +kernel)) (fun _ h9 => h9) rfl dX5_logs_144 ?_
          refine lv_iload hx hb dX5_logs_147 (lv_at hl 0 rfl) ?_
          refine lv_iconst (v := 5) hx hb dX5_logs_149 (by decide) ?_
          refine lv_iadd hx hb dX5_logs_150 ?_
          refine x_eqi (show nI (442 + (17 * 7)) + 5 = nI ((442 + (17 * 7)) + 5) from nI_add (442 + (17 * 7)) 5) ?_
          refine lv_iconst (v := 0) hx hb dX5_logs_151 (by decide) ?_
          refine x_iastE hx hb hK hP hD hS 1 0 rfl rfl (k := (442 + (17 * 7)) + 5) (g := mkM D1 S1 R1 N1 (nI 7) (upd (upd (upd (upd (upd (upd f (17 * 7) bt) (17 * 7 + 1) tol) (17 * 7 + 2) 0) (17 * 7 + 3) 1) (17 * 7 + 4) 0) (17 * 7 + 5) 0)) (upM_L (j := (17 * 7 + 5)) (by omega) (by omega)) (by omega) (by decide) dX5_logs_152 (fun H locs hP hD hS => ?_)
          have hP : va_P D vwCl [(mm, .inr (5, [.ref mn, .ref mh, .int kp, .ref ms, .int fl, .ref mr, .ref md, .ref mo, .ref mc, .int ty, .ref mt, .int at9, .int nu, .ref mq])), (mn, .inl (cI, 578, .inl (mkM D1 S1 R1 N1 (nI 7) (upd (upd (upd (upd (upd (upd f (17 * 7) bt) (17 * 7 + 1) tol) (17 * 7 + 2) 0) (17 * 7 + 3) 1) (17 * 7 + 4) 0) (17 * 7 + 5) 0)))), (mc, .inl (cI, 9, .inl (cq)))] H := hP
          have hD : va_D (Ar) [(mm, .inr (5, [.ref mn, .ref mh, .int kp, .ref ms, .int fl, .ref mr, .ref md, .ref mo, .ref mc, .int ty, .ref mt, .int at9, .int nu, .ref mq])), (mn, .inl (cI, 578, .inl (mkM D1 S1 R1 N1 (nI 7) (upd (upd (upd (upd (upd (upd f (17 * 7) bt) (17 * 7 + 1) tol) (17 * 7 + 2) 0) (17 * 7 + 3) 1) (17 * 7 + 4) 0) (17 * 7 + 5) 0)))), (mc, .inl (cI, 9, .inl (cq)))] := hD
          refine lv_aload_n hx hb dX5_logs_153 rfl (lv_at hl 1 rfl) ?_
          refine va_get (v := .ref mn) (D := D) (ci := 5) (C := RX5) (T := TX5) (N := 14) hx hb hts (by decide +kernel) hown hK hP 0 rfl rfl 0 (by decide) (hts (.fieldLink RX5 7 "SpiralFramesModel" "now" "[I") (by decide +kernel)) (fun _ h9 => h9) rfl dX5_logs_154 ?_
          refine lv_iload hx hb dX5_logs_157 (lv_at hl 0 rfl) ?_
          refine lv_bipush (v := 6) hx hb dX5_logs_159 (by decide) ?_
          refine lv_iadd hx hb dX5_logs_161 ?_
          refine x_eqi (show nI (442 + (17 * 7)) + 6 = nI ((442 + (17 * 7)) + 6) from nI_add (442 + (17 * 7)) 6) ?_
          refine lv_iconst (v := 0) hx hb dX5_logs_162 (by decide) ?_
          refine x_iastE hx hb hK hP hD hS 1 0 rfl rfl (k := (442 + (17 * 7)) + 6) (g := mkM D1 S1 R1 N1 (nI 7) (upd (upd (upd (upd (upd (upd (upd f (17 * 7) bt) (17 * 7 + 1) tol) (17 * 7 + 2) 0) (17 * 7 + 3) 1) (17 * 7 + 4) 0) (17 * 7 + 5) 0) (17 * 7 + 6) 0)) (upM_L (j := (17 * 7 + 6)) (by omega) (by omega)) (by omega) (by decide) dX5_logs_163 (fun H locs hP hD hS => ?_)
          have hP : va_P D vwCl [(mm, .inr (5, [.ref mn, .ref mh, .int kp, .ref ms, .int fl, .ref mr, .ref md, .ref mo, .ref mc, .int ty, .ref mt, .int at9, .int nu, .ref mq])), (mn, .inl (cI, 578, .inl (mkM D1 S1 R1 N1 (nI 7) (upd (upd (upd (upd (upd (upd (upd f (17 * 7) bt) (17 * 7 + 1) tol) (17 * 7 + 2) 0) (17 * 7 + 3) 1) (17 * 7 + 4) 0) (17 * 7 + 5) 0) (17 * 7 + 6) 0)))), (mc, .inl (cI, 9, .inl (cq)))] H := hP
          have hD : va_D (Ar) [(mm, .inr (5, [.ref mn, .ref mh, .int kp, .ref ms, .int fl, .ref mr, .ref md, .ref mo, .ref mc, .int ty, .ref mt, .int at9, .int nu, .ref mq])), (mn, .inl (cI, 578, .inl (mkM D1 S1 R1 N1 (nI 7) (upd (upd (upd (upd (upd (upd (upd f (17 * 7) bt) (17 * 7 + 1) tol) (17 * 7 + 2) 0) (17 * 7 + 3) 1) (17 * 7 + 4) 0) (17 * 7 + 5) 0) (17 * 7 + 6) 0)))), (mc, .inl (cI, 9, .inl (cq)))] := hD
          refine lv_iconst (v := 0) hx hb dX5_logs_164 (by decide) ?_
          refine lv_istore (lv' := [(6, .int 0), (5, .int (nI (442 + (17 * 7)))), (0, .ref mm), (1, .int bt), (2, .int tol), (3, .int 0), (4, .int 1)]) hx hb dX5_logs_165 hl (by decide) rfl (fun ls hl => ?_)
          have L167 : ∀ (fuel : Nat) (t : Nat) (g : Nat → Int32), (t ≤ 9) → (g = lgX f (17 * 7) bt tol (nI 0) (nI 1) cd t) → 9 - t < fuel → ∀ (H : Heap) (locs : List Loc), va_P D vwCl [(mm, .inr (5, [.ref mn, .ref mh, .int kp, .ref ms, .int fl, .ref mr, .ref md, .ref mo, .ref mc, .int ty, .ref mt, .int at9, .int nu, .ref mq])), (mn, .inl (cI, 578, .inl (mkM D1 S1 R1 N1 (nI 7) g))), (mc, .inl (cI, 9, .inl (cq)))] H → va_D (Ar) [(mm, .inr (5, [.ref mn, .ref mh, .int kp, .ref ms, .int fl, .ref mr, .ref md, .ref mo, .ref mc, .int ty, .ref mt, .int at9, .int nu, .ref mq])), (mn, .inl (cI, 578, .inl (mkM D1 S1 R1 N1 (nI 7) g))), (mc, .inl (cI, 9, .inl (cq)))] → va_S (Ar) s.heap H locs → ∀ (ls : Array Slot), lv_has ls 8 [(0, .ref mm), (5, .int (nI (442 + 17 * 7))), (6, .int (nI t))] → W p l e (headSpec wsX5_logs ({ frames := 4, cells := 0, slots := 0, locals := 98 } : Room)).room s m ([.ref mm, .int bt, .int tol, .int 0, .int 1] : List Value).toArray below meth c H locs 0 0 Q (F0 m 167 ls []) := by
            intro fuel
            induction fuel with
            | zero =>
              intro t g hi167_0 hi167_1 hfu
              exact absurd hfu (Nat.not_lt_zero _)
            | succ fuel ih167 =>
              intro t g hi167_0 hi167_1 hfu167 H locs hP hD hS ls hl
              refine lv_iload hx hb dX5_logs_167 (lv_at hl 2 rfl) ?_
              refine lv_bipush (v := 9) hx hb dX5_logs_169 (by decide) ?_
              refine x_icmp_ge (tgt := 249) hx hb dX5_logs_171 (by decide) (X := ((t : Nat) : Int)) (nI_toI (by omega)) (Y := 9) (show (9 : Int32).toInt = 9 from by decide) (fun c_171 => ?_) (fun c_171 => ?_)
              · skip
                refine lv_aload_n hx hb dX5_logs_249 rfl (lv_at hl 0 rfl) ?_
                refine va_get (v := .ref mn) (D := D) (ci := 5) (C := RX5) (T := TX5) (N := 14) hx hb hts (by decide +kernel) hown hK hP 0 rfl rfl 0 (by decide) (hts (.fieldLink RX5 7 "SpiralFramesModel" "now" "[I") (by decide +kernel)) (fun _ h9 => h9) rfl dX5_logs_250 ?_
                refine lv_iload hx hb dX5_logs_253 (lv_at hl 1 rfl) ?_
                refine lv_bipush (v := 7) hx hb dX5_logs_255 (by decide) ?_
                refine lv_iadd hx hb dX5_logs_257 ?_
                refine x_eqi (show nI (442 + 17 * 7) + 7 = nI ((442 + 17 * 7) + 7) from nI_add (442 + 17 * 7) 7) ?_
                refine lv_aload_n hx hb dX5_logs_258 rfl (lv_at hl 0 rfl) ?_
                refine lv_iconst (v := 0) hx hb dX5_logs_259 (by decide) ?_
                refine lv_iconst (v := 1) hx hb dX5_logs_260 (by decide) ?_
                refine x_callR (va_runV (As := [.int 0, .int 1]) (rest := [.int (nI ((442 + 17 * 7) + 7)), .ref mn]) ⟨hx, hb, hml, hown, hts⟩ (c_X5_whole l D cI cC cS tt mm mn mh ms mr md mo mc mt mq kp fl ty at9 nu D1 S1 R1 N1 (nI 7) g 0 1 (by first | omega | assumption | decide) (by first | omega | assumption | decide)) (cwV 2 hts gX5_logs_X5_whole rfl rfl rfl (by decide +kernel) ⟨Nat.le_of_ble_eq_true rfl, Nat.le_of_ble_eq_true rfl⟩) ⟨x_blindR, va_recv hK hP (ci := 5) (q0 := 0) rfl rfl, x_preR (hP.sub (ws' := [(mm, .inr (5, [.ref mn, .ref mh, .int kp, .ref ms, .int fl, .ref mr, .ref md, .ref mo, .ref mc, .int ty, .ref mt, .int at9, .int nu, .ref mq])), (mn, .inl (cI, 578, .inl (mkM D1 S1 R1 N1 (nI 7) g)))]) [0, 1] rfl) hK hE hS⟩ rfl rfl hl.1 rfl (lv_room (Nat.le_of_ble_eq_true rfl)) dX5_logs_261 ⟨(Nat.le_of_ble_eq_true rfl), (Nat.le_of_ble_eq_true rfl)⟩) ?_
                refine x_eqi (show wdS (pkN D1 S1 R1 0) (pkN D1 S1 R1 1) = wdS D1 S1 from rfl) ?_
                refine x_iastE hx hb hK hP hD hS 1 0 rfl rfl (k := (442 + 17 * 7) + 7) (g := mkM D1 S1 R1 N1 (nI 7) (upd g (17 * 7 + 7) (wdS D1 S1))) (upM_L (j := (17 * 7 + 7)) (by omega) (by omega)) (by omega) (by decide) dX5_logs_264 (fun H locs hP hD hS => ?_)
                have hP : va_P D vwCl [(mm, .inr (5, [.ref mn, .ref mh, .int kp, .ref ms, .int fl, .ref mr, .ref md, .ref mo, .ref mc, .int ty, .ref mt, .int at9, .int nu, .ref mq])), (mn, .inl (cI, 578, .inl (mkM D1 S1 R1 N1 (nI 7) (upd g (17 * 7 + 7) (wdS D1 S1))))), (mc, .inl (cI, 9, .inl (cq)))] H := hP
                have hD : va_D (Ar) [(mm, .inr (5, [.ref mn, .ref mh, .int kp, .ref ms, .int fl, .ref mr, .ref md, .ref mo, .ref mc, .int ty, .ref mt, .int at9, .int nu, .ref mq])), (mn, .inl (cI, 578, .inl (mkM D1 S1 R1 N1 (nI 7) (upd g (17 * 7 + 7) (wdS D1 S1))))), (mc, .inl (cI, 9, .inl (cq)))] := hD
                refine lv_aload_n hx hb dX5_logs_265 rfl (lv_at hl 0 rfl) ?_
                refine va_get (v := .ref mn) (D := D) (ci := 5) (C := RX5) (T := TX5) (N := 14) hx hb hts (by decide +kernel) hown hK hP 0 rfl rfl 0 (by decide) (hts (.fieldLink RX5 7 "SpiralFramesModel" "now" "[I") (by decide +kernel)) (fun _ h9 => h9) rfl dX5_logs_266 ?_
                refine lv_sipush (v := 441) hx hb dX5_logs_269 (by decide) ?_
                refine lv_dup2_11 hx hb dX5_logs_272 rfl rfl ?_
                refine x_eqi (show (441 : Int32) = nI 441 from by decide) ?_
                refine x_iald hx hb hK hP 1 0 rfl rfl (k := 441) (by omega) (by decide) dX5_logs_273 ?_
                refine x_eqi (show (mkM D1 S1 R1 N1 (nI 7) (upd g (17 * 7 + 7) (wdS D1 S1))) 441 = (nI 7) from (mkM_K (by omega))) ?_
                refine lv_iconst (v := 1) hx hb dX5_logs_274 (by decide) ?_
                refine lv_iadd hx hb dX5_logs_275 ?_
                refine x_eqi (show nI 7 + 1 = nI (7 + 1) from nI_add 7 1) ?_
                refine x_eqi2 (show (441 : Int32) = nI 441 from by decide) ?_
                refine x_iastE hx hb hK hP hD hS 1 0 rfl rfl (k := 441) (g := mkM D1 S1 R1 N1 (nI (7 + 1)) (upd g (17 * 7 + 7) (wdS D1 S1))) (upM_K (by omega)) (by omega) (by decide) dX5_logs_276 (fun H locs hP hD hS => ?_)
                have hP : va_P D vwCl [(mm, .inr (5, [.ref mn, .ref mh, .int kp, .ref ms, .int fl, .ref mr, .ref md, .ref mo, .ref mc, .int ty, .ref mt, .int at9, .int nu, .ref mq])), (mn, .inl (cI, 578, .inl (mkM D1 S1 R1 N1 (nI (7 + 1)) (upd g (17 * 7 + 7) (wdS D1 S1))))), (mc, .inl (cI, 9, .inl (cq)))] H := hP
                have hD : va_D (Ar) [(mm, .inr (5, [.ref mn, .ref mh, .int kp, .ref ms, .int fl, .ref mr, .ref md, .ref mo, .ref mc, .int ty, .ref mt, .int at9, .int nu, .ref mq])), (mn, .inl (cI, 578, .inl (mkM D1 S1 R1 N1 (nI (7 + 1)) (upd g (17 * 7 + 7) (wdS D1 S1))))), (mc, .inl (cI, 9, .inl (cq)))] := hD
                refine x_vretW (w := [(mm, .inr (5, [.ref mn, .ref mh, .int kp, .ref ms, .int fl, .ref mr, .ref md, .ref mo, .ref mc, .int ty, .ref mt, .int at9, .int nu, .ref mq])), (mn, .inl (cI, 578, .inl (mkM D1 S1 R1 N1 (nI (7 + 1)) (upd g (17 * 7 + 7) (wdS D1 S1))))), (mc, .inl (cI, 9, .inl (cq)))]) hQ hAe hx hb hr hlocks (hP.sub [0, 1, 2] rfl) (hD.sub [0, 1, 2] (by decide) rfl) hS ?_ dX5_logs_277
                have e9 : upd g (17 * 7 + 7) (wdS D1 S1) = lgM L1 8 (lgR bt tol 0 1 cd (wdS D1 S1)) := by rw [hi167_1, show t = 9 by omega, lgX_e, hi18_2, show j - 442 = 119 by omega]; rfl
                rw [e9]
                rfl
              · skip
                refine lv_aload_n hx hb dX5_logs_174 rfl (lv_at hl 0 rfl) ?_
                refine va_get (v := .ref mc) (D := D) (ci := 5) (C := RX5) (T := TX5) (N := 14) hx hb hts (by decide +kernel) hown hK hP 0 rfl rfl 8 (by decide) (hts (.fieldLink RX5 28 "SpiralFramesModel" "codes" "[I") (by decide +kernel)) (fun _ h9 => h9) rfl dX5_logs_175 ?_
                refine lv_iload hx hb dX5_logs_178 (lv_at hl 2 rfl) ?_
                refine x_iald hx hb hK hP 2 0 rfl rfl (k := t) (by omega) (by decide) dX5_logs_180 ?_
                refine x_eqi (show cq t = nI (cd t) from hh0 t (by omega)) ?_
                have cd25 := hh1 t
                refine x_if_ne (tgt := 188) hx hb dX5_logs_181 (by decide) (X := ((cd t : Nat) : Int)) (nI_toI (by omega)) (fun c_181 => ?_) (fun c_181 => ?_)
                · skip
                  refine lv_aload_n hx hb dX5_logs_188 rfl (lv_at hl 0 rfl) ?_
                  refine va_get (v := .ref mc) (D := D) (ci := 5) (C := RX5) (T := TX5) (N := 14) hx hb hts (by decide +kernel) hown hK hP 0 rfl rfl 8 (by decide) (hts (.fieldLink RX5 28 "SpiralFramesModel" "codes" "[I") (by decide +kernel)) (fun _ h9 => h9) rfl dX5_logs_189 ?_
                  refine lv_iload hx hb dX5_logs_192 (lv_at hl 2 rfl) ?_
                  refine x_iald hx hb hK hP 2 0 rfl rfl (k := t) (by omega) (by decide) dX5_logs_194 ?_
                  refine x_eqi (show cq t = nI (cd t) from hh0 t (by omega)) ?_
                  refine lv_bipush (v := 25) hx hb dX5_logs_195 (by decide) ?_
                  refine x_icmp_ne (tgt := 204) hx hb dX5_logs_197 (by decide) (X := ((cd t : Nat) : Int)) (nI_toI (by omega)) (Y := 25) (show (25 : Int32).toInt = 25 from by decide) (fun c_197 => ?_) (fun c_197 => ?_)
                  · skip
                    refine lv_iconst (v := 1) hx hb dX5_logs_204 (by decide) ?_
                    refine lv_istore (lv' := [(7, .int 1), (0, .ref mm), (5, .int (nI (442 + 17 * 7))), (6, .int (nI t))]) hx hb dX5_logs_205 hl (by decide) rfl (fun ls hl => ?_)
                    refine lv_aload_n hx hb dX5_logs_207 rfl (lv_at hl 1 rfl) ?_
                    refine va_get (v := .ref mn) (D := D) (ci := 5) (C := RX5) (T := TX5) (N := 14) hx hb hts (by decide +kernel) hown hK hP 0 rfl rfl 0 (by decide) (hts (.fieldLink RX5 7 "SpiralFramesModel" "now" "[I") (by decide +kernel)) (fun _ h9 => h9) rfl dX5_logs_208 ?_
                    refine lv_iload hx hb dX5_logs_211 (lv_at hl 2 rfl) ?_
                    refine lv_iconst (v := 4) hx hb dX5_logs_213 (by decide) ?_
                    refine lv_iadd hx hb dX5_logs_214 ?_
                    refine x_eqi (show nI (442 + 17 * 7) + 4 = nI ((442 + 17 * 7) + 4) from nI_add (442 + 17 * 7) 4) ?_
                    refine lv_iload hx hb dX5_logs_215 (lv_at hl 0 rfl) ?_
                    refine lv_iadd hx hb dX5_logs_217 ?_
                    refine x_eqi (show nI ((442 + 17 * 7) + 4) + 1 = nI (((442 + 17 * 7) + 4) + 1) from nI_add ((442 + 17 * 7) + 4) 1) ?_
                    refine lv_dup2_11 hx hb dX5_logs_218 rfl rfl ?_
                    refine x_iald hx hb hK hP 1 0 rfl rfl (k := ((442 + 17 * 7) + 4) + 1) (by omega) (by decide) dX5_logs_219 ?_
                    refine x_eqi (show (mkM D1 S1 R1 N1 (nI 7) g) (((442 + 17 * 7) + 4) + 1) = g (17 * 7 + 4 + 1) from (mkM_L (j := (17 * 7 + 4 + 1)) (by omega) (by omega))) ?_
                    refine lv_iconst (v := 1) hx hb dX5_logs_220 (by decide) ?_
                    refine lv_iadd hx hb dX5_logs_221 ?_
                    refine x_iastE hx hb hK hP hD hS 1 0 rfl rfl (k := ((442 + 17 * 7) + 4) + 1) (g := mkM D1 S1 R1 N1 (nI 7) (upd g (17 * 7 + 4 + 1) ((g (17 * 7 + 4 + 1)) + 1))) (upM_L (j := (17 * 7 + 4 + 1)) (by omega) (by omega)) (by omega) (by decide) dX5_logs_222 (fun H locs hP hD hS => ?_)
                    have hP : va_P D vwCl [(mm, .inr (5, [.ref mn, .ref mh, .int kp, .ref ms, .int fl, .ref mr, .ref md, .ref mo, .ref mc, .int ty, .ref mt, .int at9, .int nu, .ref mq])), (mn, .inl (cI, 578, .inl (mkM D1 S1 R1 N1 (nI 7) (upd g (17 * 7 + 4 + 1) ((g (17 * 7 + 4 + 1)) + 1))))), (mc, .inl (cI, 9, .inl (cq)))] H := hP
                    have hD : va_D (Ar) [(mm, .inr (5, [.ref mn, .ref mh, .int kp, .ref ms, .int fl, .ref mr, .ref md, .ref mo, .ref mc, .int ty, .ref mt, .int at9, .int nu, .ref mq])), (mn, .inl (cI, 578, .inl (mkM D1 S1 R1 N1 (nI 7) (upd g (17 * 7 + 4 + 1) ((g (17 * 7 + 4 + 1)) + 1))))), (mc, .inl (cI, 9, .inl (cq)))] := hD
                    refine lv_aload_n hx hb dX5_logs_223 rfl (lv_at hl 1 rfl) ?_
                    refine va_get (v := .ref mn) (D := D) (ci := 5) (C := RX5) (T := TX5) (N := 14) hx hb hts (by decide +kernel) hown hK hP 0 rfl rfl 0 (by decide) (hts (.fieldLink RX5 7 "SpiralFramesModel" "now" "[I") (by decide +kernel)) (fun _ h9 => h9) rfl dX5_logs_224 ?_
                    refine lv_iload hx hb dX5_logs_227 (lv_at hl 2 rfl) ?_
                    refine lv_bipush (v := 8) hx hb dX5_logs_229 (by decide) ?_
                    refine lv_iadd hx hb dX5_logs_231 ?_
                    refine x_eqi (show nI (442 + 17 * 7) + 8 = nI ((442 + 17 * 7) + 8) from nI_add (442 + 17 * 7) 8) ?_
                    refine lv_iload hx hb dX5_logs_232 (lv_at hl 3 rfl) ?_
                    refine lv_iadd hx hb dX5_logs_234 ?_
                    refine x_eqi (show nI ((442 + 17 * 7) + 8) + nI t = nI (((442 + 17 * 7) + 8) + t) from nI_add ((442 + 17 * 7) + 8) t) ?_
                    refine lv_aload_n hx hb dX5_logs_235 rfl (lv_at hl 1 rfl) ?_
                    refine va_get (v := .ref mc) (D := D) (ci := 5) (C := RX5) (T := TX5) (N := 14) hx hb hts (by decide +kernel) hown hK hP 0 rfl rfl 8 (by decide) (hts (.fieldLink RX5 28 "SpiralFramesModel" "codes" "[I") (by decide +kernel)) (fun _ h9 => h9) rfl dX5_logs_236 ?_
                    refine lv_iload hx hb dX5_logs_239 (lv_at hl 3 rfl) ?_
                    refine x_iald hx hb hK hP 2 0 rfl rfl (k := t) (by omega) (by decide) dX5_logs_241 ?_
                    refine x_eqi (show cq t = nI (cd t) from hh0 t (by omega)) ?_
                    refine x_iastE hx hb hK hP hD hS 1 0 rfl rfl (k := ((442 + 17 * 7) + 8) + t) (g := mkM D1 S1 R1 N1 (nI 7) (upd (upd g (17 * 7 + 4 + 1) ((g (17 * 7 + 4 + 1)) + 1)) (17 * 7 + 8 + t) (nI (cd t)))) (upM_L (j := (17 * 7 + 8 + t)) (by omega) (by omega)) (by omega) (by decide) dX5_logs_242 (fun H locs hP hD hS => ?_)
                    have hP : va_P D vwCl [(mm, .inr (5, [.ref mn, .ref mh, .int kp, .ref ms, .int fl, .ref mr, .ref md, .ref mo, .ref mc, .int ty, .ref mt, .int at9, .int nu, .ref mq])), (mn, .inl (cI, 578, .inl (mkM D1 S1 R1 N1 (nI 7) (upd (upd g (17 * 7 + 4 + 1) ((g (17 * 7 + 4 + 1)) + 1)) (17 * 7 + 8 + t) (nI (cd t)))))), (mc, .inl (cI, 9, .inl (cq)))] H := hP
                    have hD : va_D (Ar) [(mm, .inr (5, [.ref mn, .ref mh, .int kp, .ref ms, .int fl, .ref mr, .ref md, .ref mo, .ref mc, .int ty, .ref mt, .int at9, .int nu, .ref mq])), (mn, .inl (cI, 578, .inl (mkM D1 S1 R1 N1 (nI 7) (upd (upd g (17 * 7 + 4 + 1) ((g (17 * 7 + 4 + 1)) + 1)) (17 * 7 + 8 + t) (nI (cd t)))))), (mc, .inl (cI, 9, .inl (cq)))] := hD
                    refine lv_iinc (v := nI (t + 1)) (lv' := [(6, .int (nI (t + 1))), (7, .int 1), (0, .ref mm), (5, .int (nI (442 + 17 * 7)))]) hx hb dX5_logs_243 hl (k := 3) rfl (nI_add _ _) (by decide) rfl (fun ls hl => ?_)
                    refine lv_goto (tgt := 167) hx hb dX5_logs_246 (by decide) ?_
                    exact ih167 (t + 1) (upd (upd g (17 * 7 + 4 + 1) ((g (17 * 7 + 4 + 1)) + 1)) (17 * 7 + 8 + t) (nI (cd t))) (by first | omega | assumption | rfl) (by rw [hi167_1]; first | exact lgX_s (kind := 0) (by omega) (by unfold kdN; rw [if_pos (by omega)]) (congrArg (fun z => z + 1) (lgX_k (by omega))) rfl | exact lgX_s (kind := 1) (by omega) (by unfold kdN; rw [if_neg (by omega), if_neg (by omega)]) (congrArg (fun z => z + 1) (lgX_k (by omega))) rfl | exact lgX_s (kind := 2) (by omega) (by unfold kdN; rw [if_neg (by omega), if_pos (by omega)]) (congrArg (fun z => z + 1) (lgX_k (by omega))) rfl) (by omega) H locs (hP.sub [0, 1, 2] rfl) (hD.sub [0, 1, 2] (by decide) rfl) hS ls (lv_sub hl [2, 3, 0] rfl)
                  · skip
                    refine lv_iconst (v := 2) hx hb dX5_logs_200 (by decide) ?_
                    refine lv_goto (tgt := 205) hx hb dX5_logs_201 (by decide) ?_
                    refine lv_istore (lv' := [(7, .int 2), (0, .ref mm), (5, .int (nI (442 + 17 * 7))), (6, .int (nI t))]) hx hb dX5_logs_205 hl (by decide) rfl (fun ls hl => ?_)
                    refine lv_aload_n hx hb dX5_logs_207 rfl (lv_at hl 1 rfl) ?_
                    refine va_get (v := .ref mn) (D := D) (ci := 5) (C := RX5) (T := TX5) (N := 14) hx hb hts (by decide +kernel) hown hK hP 0 rfl rfl 0 (by decide) (hts (.fieldLink RX5 7 "SpiralFramesModel" "now" "[I") (by decide +kernel)) (fun _ h9 => h9) rfl dX5_logs_208 ?_
                    refine lv_iload hx hb dX5_logs_211 (lv_at hl 2 rfl) ?_
                    refine lv_iconst (v := 4) hx hb dX5_logs_213 (by decide) ?_
                    refine lv_iadd hx hb dX5_logs_214 ?_
                    refine x_eqi (show nI (442 + 17 * 7) + 4 = nI ((442 + 17 * 7) + 4) from nI_add (442 + 17 * 7) 4) ?_
                    refine lv_iload hx hb dX5_logs_215 (lv_at hl 0 rfl) ?_
                    refine lv_iadd hx hb dX5_logs_217 ?_
                    refine x_eqi (show nI ((442 + 17 * 7) + 4) + 2 = nI (((442 + 17 * 7) + 4) + 2) from nI_add ((442 + 17 * 7) + 4) 2) ?_
                    refine lv_dup2_11 hx hb dX5_logs_218 rfl rfl ?_
                    refine x_iald hx hb hK hP 1 0 rfl rfl (k := ((442 + 17 * 7) + 4) + 2) (by omega) (by decide) dX5_logs_219 ?_
                    refine x_eqi (show (mkM D1 S1 R1 N1 (nI 7) g) (((442 + 17 * 7) + 4) + 2) = g (17 * 7 + 4 + 2) from (mkM_L (j := (17 * 7 + 4 + 2)) (by omega) (by omega))) ?_
                    refine lv_iconst (v := 1) hx hb dX5_logs_220 (by decide) ?_
                    refine lv_iadd hx hb dX5_logs_221 ?_
                    refine x_iastE hx hb hK hP hD hS 1 0 rfl rfl (k := ((442 + 17 * 7) + 4) + 2) (g := mkM D1 S1 R1 N1 (nI 7) (upd g (17 * 7 + 4 + 2) ((g (17 * 7 + 4 + 2)) + 1))) (upM_L (j := (17 * 7 + 4 + 2)) (by omega) (by omega)) (by omega) (by decide) dX5_logs_222 (fun H locs hP hD hS => ?_)
                    have hP : va_P D vwCl [(mm, .inr (5, [.ref mn, .ref mh, .int kp, .ref ms, .int fl, .ref mr, .ref md, .ref mo, .ref mc, .int ty, .ref mt, .int at9, .int nu, .ref mq])), (mn, .inl (cI, 578, .inl (mkM D1 S1 R1 N1 (nI 7) (upd g (17 * 7 + 4 + 2) ((g (17 * 7 + 4 + 2)) + 1))))), (mc, .inl (cI, 9, .inl (cq)))] H := hP
                    have hD : va_D (Ar) [(mm, .inr (5, [.ref mn, .ref mh, .int kp, .ref ms, .int fl, .ref mr, .ref md, .ref mo, .ref mc, .int ty, .ref mt, .int at9, .int nu, .ref mq])), (mn, .inl (cI, 578, .inl (mkM D1 S1 R1 N1 (nI 7) (upd g (17 * 7 + 4 + 2) ((g (17 * 7 + 4 + 2)) + 1))))), (mc, .inl (cI, 9, .inl (cq)))] := hD
                    refine lv_aload_n hx hb dX5_logs_223 rfl (lv_at hl 1 rfl) ?_
                    refine va_get (v := .ref mn) (D := D) (ci := 5) (C := RX5) (T := TX5) (N := 14) hx hb hts (by decide +kernel) hown hK hP 0 rfl rfl 0 (by decide) (hts (.fieldLink RX5 7 "SpiralFramesModel" "now" "[I") (by decide +kernel)) (fun _ h9 => h9) rfl dX5_logs_224 ?_
                    refine lv_iload hx hb dX5_logs_227 (lv_at hl 2 rfl) ?_
                    refine lv_bipush (v := 8) hx hb dX5_logs_229 (by decide) ?_
                    refine lv_iadd hx hb dX5_logs_231 ?_
                    refine x_eqi (show nI (442 + 17 * 7) + 8 = nI ((442 + 17 * 7) + 8) from nI_add (442 + 17 * 7) 8) ?_
                    refine lv_iload hx hb dX5_logs_232 (lv_at hl 3 rfl) ?_
                    refine lv_iadd hx hb dX5_logs_234 ?_
                    refine x_eqi (show nI ((442 + 17 * 7) + 8) + nI t = nI (((442 + 17 * 7) + 8) + t) from nI_add ((442 + 17 * 7) + 8) t) ?_
                    refine lv_aload_n hx hb dX5_logs_235 rfl (lv_at hl 1 rfl) ?_
                    refine va_get (v := .ref mc) (D := D) (ci := 5) (C := RX5) (T := TX5) (N := 14) hx hb hts (by decide +kernel) hown hK hP 0 rfl rfl 8 (by decide) (hts (.fieldLink RX5 28 "SpiralFramesModel" "codes" "[I") (by decide +kernel)) (fun _ h9 => h9) rfl dX5_logs_236 ?_
                    refine lv_iload hx hb dX5_logs_239 (lv_at hl 3 rfl) ?_
                    refine x_iald hx hb hK hP 2 0 rfl rfl (k := t) (by omega) (by decide) dX5_logs_241 ?_
                    refine x_eqi (show cq t = nI (cd t) from hh0 t (by omega)) ?_
                    refine x_iastE hx hb hK hP hD hS 1 0 rfl rfl (k := ((442 + 17 * 7) + 8) + t) (g := mkM D1 S1 R1 N1 (nI 7) (upd (upd g (17 * 7 + 4 + 2) ((g (17 * 7 + 4 + 2)) + 1)) (17 * 7 + 8 + t) (nI (cd t)))) (upM_L (j := (17 * 7 + 8 + t)) (by omega) (by omega)) (by omega) (by decide) dX5_logs_242 (fun H locs hP hD hS => ?_)
                    have hP : va_P D vwCl [(mm, .inr (5, [.ref mn, .ref mh, .int kp, .ref ms, .int fl, .ref mr, .ref md, .ref mo, .ref mc, .int ty, .ref mt, .int at9, .int nu, .ref mq])), (mn, .inl (cI, 578, .inl (mkM D1 S1 R1 N1 (nI 7) (upd (upd g (17 * 7 + 4 + 2) ((g (17 * 7 + 4 + 2)) + 1)) (17 * 7 + 8 + t) (nI (cd t)))))), (mc, .inl (cI, 9, .inl (cq)))] H := hP
                    have hD : va_D (Ar) [(mm, .inr (5, [.ref mn, .ref mh, .int kp, .ref ms, .int fl, .ref mr, .ref md, .ref mo, .ref mc, .int ty, .ref mt, .int at9, .int nu, .ref mq])), (mn, .inl (cI, 578, .inl (mkM D1 S1 R1 N1 (nI 7) (upd (upd g (17 * 7 + 4 + 2) ((g (17 * 7 + 4 + 2)) + 1)) (17 * 7 + 8 + t) (nI (cd t)))))), (mc, .inl (cI, 9, .inl (cq)))] := hD
                    refine lv_iinc (v := nI (t + 1)) (lv' := [(6, .int (nI (t + 1))), (7, .int 2), (0, .ref mm), (5, .int (nI (442 + 17 * 7)))]) hx hb dX5_logs_243 hl (k := 3) rfl (nI_add _ _) (by decide) rfl (fun ls hl => ?_)
                    refine lv_goto (tgt := 167) hx hb dX5_logs_246 (by decide) ?_
                    exact ih167 (t + 1) (upd (upd g (17 * 7 + 4 + 2) ((g (17 * 7 + 4 + 2)) + 1)) (17 * 7 + 8 + t) (nI (cd t))) (by first | omega | assumption | rfl) (by rw [hi167_1]; first | exact lgX_s (kind := 0) (by omega) (by unfold kdN; rw [if_pos (by omega)]) (congrArg (fun z => z + 1) (lgX_k (by omega))) rfl | exact lgX_s (kind := 1) (by omega) (by unfold kdN; rw [if_neg (by omega), if_neg (by omega)]) (congrArg (fun z => z + 1) (lgX_k (by omega))) rfl | exact lgX_s (kind := 2) (by omega) (by unfold kdN; rw [if_neg (by omega), if_pos (by omega)]) (congrArg (fun z => z + 1) (lgX_k (by omega))) rfl) (by omega) H locs (hP.sub [0, 1, 2] rfl) (hD.sub [0, 1, 2] (by decide) rfl) hS ls (lv_sub hl [2, 3, 0] rfl)
                · skip
                  refine lv_iconst (v := 0) hx hb dX5_logs_184 (by decide) ?_
                  refine lv_goto (tgt := 205) hx hb dX5_logs_185 (by decide) ?_
                  refine lv_istore (lv' := [(7, .int 0), (0, .ref mm), (5, .int (nI (442 + 17 * 7))), (6, .int (nI t))]) hx hb dX5_logs_205 hl (by decide) rfl (fun ls hl => ?_)
                  refine lv_aload_n hx hb dX5_logs_207 rfl (lv_at hl 1 rfl) ?_
                  refine va_get (v := .ref mn) (D := D) (ci := 5) (C := RX5) (T := TX5) (N := 14) hx hb hts (by decide +kernel) hown hK hP 0 rfl rfl 0 (by decide) (hts (.fieldLink RX5 7 "SpiralFramesModel" "now" "[I") (by decide +kernel)) (fun _ h9 => h9) rfl dX5_logs_208 ?_
                  refine lv_iload hx hb dX5_logs_211 (lv_at hl 2 rfl) ?_
                  refine lv_iconst (v := 4) hx hb dX5_logs_213 (by decide) ?_
                  refine lv_iadd hx hb dX5_logs_214 ?_
                  refine x_eqi (show nI (442 + 17 * 7) + 4 = nI ((442 + 17 * 7) + 4) from nI_add (442 + 17 * 7) 4) ?_
                  refine lv_iload hx hb dX5_logs_215 (lv_at hl 0 rfl) ?_
                  refine lv_iadd hx hb dX5_logs_217 ?_
                  refine x_eqi (show nI ((442 + 17 * 7) + 4) + 0 = nI (((442 + 17 * 7) + 4) + 0) from nI_add ((442 + 17 * 7) + 4) 0) ?_
                  refine lv_dup2_11 hx hb dX5_logs_218 rfl rfl ?_
                  refine x_iald hx hb hK hP 1 0 rfl rfl (k := ((442 + 17 * 7) + 4) + 0) (by omega) (by decide) dX5_logs_219 ?_
                  refine x_eqi (show (mkM D1 S1 R1 N1 (nI 7) g) (((442 + 17 * 7) + 4) + 0) = g (17 * 7 + 4 + 0) from (mkM_L (j := (17 * 7 + 4 + 0)) (by omega) (by omega))) ?_
                  refine lv_iconst (v := 1) hx hb dX5_logs_220 (by decide) ?_
                  refine lv_iadd hx hb dX5_logs_221 ?_
                  refine x_iastE hx hb hK hP hD hS 1 0 rfl rfl (k := ((442 + 17 * 7) + 4) + 0) (g := mkM D1 S1 R1 N1 (nI 7) (upd g (17 * 7 + 4 + 0) ((g (17 * 7 + 4 + 0)) + 1))) (upM_L (j := (17 * 7 + 4 + 0)) (by omega) (by omega)) (by omega) (by decide) dX5_logs_222 (fun H locs hP hD hS => ?_)
                  have hP : va_P D vwCl [(mm, .inr (5, [.ref mn, .ref mh, .int kp, .ref ms, .int fl, .ref mr, .ref md, .ref mo, .ref mc, .int ty, .ref mt, .int at9, .int nu, .ref mq])), (mn, .inl (cI, 578, .inl (mkM D1 S1 R1 N1 (nI 7) (upd g (17 * 7 + 4 + 0) ((g (17 * 7 + 4 + 0)) + 1))))), (mc, .inl (cI, 9, .inl (cq)))] H := hP
                  have hD : va_D (Ar) [(mm, .inr (5, [.ref mn, .ref mh, .int kp, .ref ms, .int fl, .ref mr, .ref md, .ref mo, .ref mc, .int ty, .ref mt, .int at9, .int nu, .ref mq])), (mn, .inl (cI, 578, .inl (mkM D1 S1 R1 N1 (nI 7) (upd g (17 * 7 + 4 + 0) ((g (17 * 7 + 4 + 0)) + 1))))), (mc, .inl (cI, 9, .inl (cq)))] := hD
                  refine lv_aload_n hx hb dX5_logs_223 rfl (lv_at hl 1 rfl) ?_
                  refine va_get (v := .ref mn) (D := D) (ci := 5) (C := RX5) (T := TX5) (N := 14) hx hb hts (by decide +kernel) hown hK hP 0 rfl rfl 0 (by decide) (hts (.fieldLink RX5 7 "SpiralFramesModel" "now" "[I") (by decide +kernel)) (fun _ h9 => h9) rfl dX5_logs_224 ?_
                  refine lv_iload hx hb dX5_logs_227 (lv_at hl 2 rfl) ?_
                  refine lv_bipush (v := 8) hx hb dX5_logs_229 (by decide) ?_
                  refine lv_iadd hx hb dX5_logs_231 ?_
                  refine x_eqi (show nI (442 + 17 * 7) + 8 = nI ((442 + 17 * 7) + 8) from nI_add (442 + 17 * 7) 8) ?_
                  refine lv_iload hx hb dX5_logs_232 (lv_at hl 3 rfl) ?_
                  refine lv_iadd hx hb dX5_logs_234 ?_
                  refine x_eqi (show nI ((442 + 17 * 7) + 8) + nI t = nI (((442 + 17 * 7) + 8) + t) from nI_add ((442 + 17 * 7) + 8) t) ?_
                  refine lv_aload_n hx hb dX5_logs_235 rfl (lv_at hl 1 rfl) ?_
                  refine va_get (v := .ref mc) (D := D) (ci := 5) (C := RX5) (T := TX5) (N := 14) hx hb hts (by decide +kernel) hown hK hP 0 rfl rfl 8 (by decide) (hts (.fieldLink RX5 28 "SpiralFramesModel" "codes" "[I") (by decide +kernel)) (fun _ h9 => h9) rfl dX5_logs_236 ?_
                  refine lv_iload hx hb dX5_logs_239 (lv_at hl 3 rfl) ?_
                  refine x_iald hx hb hK hP 2 0 rfl rfl (k := t) (by omega) (by decide) dX5_logs_241 ?_
                  refine x_eqi (show cq t = nI (cd t) from hh0 t (by omega)) ?_
                  refine x_iastE hx hb hK hP hD hS 1 0 rfl rfl (k := ((442 + 17 * 7) + 8) + t) (g := mkM D1 S1 R1 N1 (nI 7) (upd (upd g (17 * 7 + 4 + 0) ((g (17 * 7 + 4 + 0)) + 1)) (17 * 7 + 8 + t) (nI (cd t)))) (upM_L (j := (17 * 7 + 8 + t)) (by omega) (by omega)) (by omega) (by decide) dX5_logs_242 (fun H locs hP hD hS => ?_)
                  have hP : va_P D vwCl [(mm, .inr (5, [.ref mn, .ref mh, .int kp, .ref ms, .int fl, .ref mr, .ref md, .ref mo, .ref mc, .int ty, .ref mt, .int at9, .int nu, .ref mq])), (mn, .inl (cI, 578, .inl (mkM D1 S1 R1 N1 (nI 7) (upd (upd g (17 * 7 + 4 + 0) ((g (17 * 7 + 4 + 0)) + 1)) (17 * 7 + 8 + t) (nI (cd t)))))), (mc, .inl (cI, 9, .inl (cq)))] H := hP
                  have hD : va_D (Ar) [(mm, .inr (5, [.ref mn, .ref mh, .int kp, .ref ms, .int fl, .ref mr, .ref md, .ref mo, .ref mc, .int ty, .ref mt, .int at9, .int nu, .ref mq])), (mn, .inl (cI, 578, .inl (mkM D1 S1 R1 N1 (nI 7) (upd (upd g (17 * 7 + 4 + 0) ((g (17 * 7 + 4 + 0)) + 1)) (17 * 7 + 8 + t) (nI (cd t)))))), (mc, .inl (cI, 9, .inl (cq)))] := hD
                  refine lv_iinc (v := nI (t + 1)) (lv' := [(6, .int (nI (t + 1))), (7, .int 0), (0, .ref mm), (5, .int (nI (442 + 17 * 7)))]) hx hb dX5_logs_243 hl (k := 3) rfl (nI_add _ _) (by decide) rfl (fun ls hl => ?_)
                  refine lv_goto (tgt := 167) hx hb dX5_logs_246 (by decide) ?_
                  exact ih167 (t + 1) (upd (upd g (17 * 7 + 4 + 0) ((g (17 * 7 + 4 + 0)) + 1)) (17 * 7 + 8 + t) (nI (cd t))) (by first | omega | assumption | rfl) (by rw [hi167_1]; first | exact lgX_s (kind := 0) (by omega) (by unfold kdN; rw [if_pos (by omega)]) (congrArg (fun z => z + 1) (lgX_k (by omega))) rfl | exact lgX_s (kind := 1) (by omega) (by unfold kdN; rw [if_neg (by omega), if_neg (by omega)]) (congrArg (fun z => z + 1) (lgX_k (by omega))) rfl | exact lgX_s (kind := 2) (by omega) (by unfold kdN; rw [if_neg (by omega), if_pos (by omega)]) (congrArg (fun z => z + 1) (lgX_k (by omega))) rfl) (by omega) H locs (hP.sub [0, 1, 2] rfl) (hD.sub [0, 1, 2] (by decide) rfl) hS ls (lv_sub hl [2, 3, 0] rfl)
          exact L167 _ 0 (upd (upd (upd (upd (upd (upd (upd f (17 * 7) bt) (17 * 7 + 1) tol) (17 * 7 + 2) 0) (17 * 7 + 3) 1) (17 * 7 + 4) 0) (17 * 7 + 5) 0) (17 * 7 + 6) 0) (by first | omega | assumption | rfl) lgX_0 (Nat.lt_succ_self _) H locs (hP.sub [0, 1, 2] rfl) (hD.sub [0, 1, 2] (by decide) rfl) hS ls (lv_sub hl [2, 1, 0] rfl)
        · skip
          refine lv_aload_n hx hb dX5_logs_26 rfl (lv_at hl 0 rfl) ?_
          refine va_get (v := .ref mn) (D := D) (ci := 5) (C := RX5) (T := TX5) (N := 14) hx hb hts (by decide +kernel) hown hK hP 0 rfl rfl 0 (by decide) (hts (.fieldLink RX5 7 "SpiralFramesModel" "now" "[I") (by decide +kernel)) (fun _ h9 => h9) rfl dX5_logs_27 ?_
          refine lv_iload hx hb dX5_logs_30 (lv_at hl 5 rfl) ?_
          refine lv_aload_n hx hb dX5_logs_32 rfl (lv_at hl 0 rfl) ?_
          refine va_get (v := .ref mn) (D := D) (ci := 5) (C := RX5) (T := TX5) (N := 14) hx hb hts (by decide +kernel) hown hK hP 0 rfl rfl 0 (by decide) (hts (.fieldLink RX5 7 "SpiralFramesModel" "now" "[I") (by decide +kernel)) (fun _ h9 => h9) rfl dX5_logs_33 ?_
          refine lv_iload hx hb dX5_logs_36 (lv_at hl 5 rfl) ?_
          refine lv_bipush (v := 17) hx hb dX5_logs_38 (by decide) ?_
          refine lv_iadd hx hb dX5_logs_40 ?_
          refine x_eqi (show nI j + 17 = nI (j + 17) from nI_add j 17) ?_
          refine x_iald hx hb hK hP 1 0 rfl rfl (k := j + 17) (by omega) (by decide) dX5_logs_41 ?_
          refine x_eqi (show (mkM D1 S1 R1 N1 (nI 8) f) (j + 17) = f (j - 442 + 17) from (mkM_L (j := (j - 442 + 17)) (by omega) (by omega))) ?_
          refine x_iastE hx hb hK hP hD hS 1 0 rfl rfl (k := j) (g := mkM D1 S1 R1 N1 (nI 8) (upd f (j - 442) (f (j - 442 + 17)))) (upM_L (j := (j - 442)) (by omega) (by omega)) (by omega) (by decide) dX5_logs_42 (fun H locs hP hD hS => ?_)
          have hP : va_P D vwCl [(mm, .inr (5, [.ref mn, .ref mh, .int kp, .ref ms, .int fl, .ref mr, .ref md, .ref mo, .ref mc, .int ty, .ref mt, .int at9, .int nu, .ref mq])), (mn, .inl (cI, 578, .inl (mkM D1 S1 R1 N1 (nI 8) (upd f (j - 442) (f (j - 442 + 17)))))), (mc, .inl (cI, 9, .inl (cq)))] H := hP
          have hD : va_D (Ar) [(mm, .inr (5, [.ref mn, .ref mh, .int kp, .ref ms, .int fl, .ref mr, .ref md, .ref mo, .ref mc, .int ty, .ref mt, .int at9, .int nu, .ref mq])), (mn, .inl (cI, 578, .inl (mkM D1 S1 R1 N1 (nI 8) (upd f (j - 442) (f (j - 442 + 17)))))), (mc, .inl (cI, 9, .inl (cq)))] := hD
          refine lv_iinc (v := nI (j + 1)) (lv' := [(5, .int (nI (j + 1))), (0, .ref mm), (1, .int bt), (2, .int tol), (3, .int 0), (4, .int 1)]) hx hb dX5_logs_43 hl (k := 5) rfl (nI_add _ _) (by decide) rfl (fun ls hl => ?_)
          refine lv_goto (tgt := 18) hx hb dX5_logs_46 (by decide) ?_
          exact ih18 (j + 1) (upd f (j - 442) (f (j - 442 + 17))) (by first | omega | assumption | rfl) (by first | omega | assumption | rfl) (by rw [hi18_2, show j + 1 - 442 = (j - 442) + 1 by omega]; exact shL_s shL_at) (by omega) H locs (hP.sub [0, 1, 2] rfl) (hD.sub [0, 1, 2] (by decide) rfl) hS ls (lv_sub hl [1, 2, 3, 4, 5, 0] rfl)
    exact L18 _ 442 L1 (by first | omega | assumption | rfl) (by first | omega | assumption | rfl) shL_0 (Nat.lt_succ_self _) s.heap [] (hP.sub [0, 1, 2] rfl) (hD.sub [0, 1, 2] (by decide) rfl) hS ls (lv_sub hl [1, 2, 3, 4, 5, 0] rfl)
  · skip
    refine lv_aload_n hx hb dX5_logs_0 rfl (lv_at hl 0 rfl) ?_
    refine va_get (v := .ref mn) (D := D) (ci := 5) (C := RX5) (T := TX5) (N := 14) hx hb hts (by decide +kernel) hown hK hP 0 rfl rfl 0 (by decide) (hts (.fieldLink RX5 7 "SpiralFramesModel" "now" "[I") (by decide +kernel)) (fun _ h9 => h9) rfl dX5_logs_1 ?_
    refine lv_sipush (v := 441) hx hb dX5_logs_4 (by decide) ?_
    refine x_eqi (show (441 : Int32) = nI 441 from by decide) ?_
    refine x_iald hx hb hK hP 1 0 rfl rfl (k := 441) (by omega) (by decide) dX5_logs_7 ?_
    refine x_eqi (show (mkM D1 S1 R1 N1 (nI kn) L1) 441 = (nI kn) from (mkM_K (by omega))) ?_
    refine lv_bipush (v := 8) hx hb dX5_logs_8 (by decide) ?_
    refine x_icmp_ne (tgt := 61) hx hb dX5_logs_10 (by decide) (X := ((kn : Nat) : Int)) (nI_toI (by omega)) (Y := 8) (show (8 : Int32).toInt = 8 from by decide) (fun c_10 => ?_) (fun c_10 => ?_)
    rotate_left
    · exfalso; omega
    refine lv_sipush (v := 442) hx hb dX5_logs_61 (by decide) ?_
    refine lv_bipush (v := 17) hx hb dX5_logs_64 (by decide) ?_
    refine lv_aload_n hx hb dX5_logs_66 rfl (lv_at hl 0 rfl) ?_
    refine va_get (v := .ref mn) (D := D) (ci := 5) (C := RX5) (T := TX5) (N := 14) hx hb hts (by decide +kernel) hown hK hP 0 rfl rfl 0 (by decide) (hts (.fieldLink RX5 7 "SpiralFramesModel" "now" "[I") (by decide +kernel)) (fun _ h9 => h9) rfl dX5_logs_67 ?_
    refine lv_sipush (v := 441) hx hb dX5_logs_70 (by decide) ?_
    refine x_eqi (show (441 : Int32) = nI 441 from by decide) ?_
    refine x_iald hx hb hK hP 1 0 rfl rfl (k := 441) (by omega) (by decide) dX5_logs_73 ?_
    refine x_eqi (show (mkM D1 S1 R1 N1 (nI kn) L1) 441 = (nI kn) from (mkM_K (by omega))) ?_
    refine lv_imul hx hb dX5_logs_74 ?_
    refine x_eqi (show 17 * nI kn = nI (17 * kn) from pk_mul 17 kn) ?_
    refine lv_iadd hx hb dX5_logs_75 ?_
    refine x_eqi (show 442 + nI (17 * kn) = nI (442 + (17 * kn)) from nI_add 442 (17 * kn)) ?_
    refine lv_istore (lv' := [(5, .int (nI (442 + (17 * kn)))), (0, .ref mm), (1, .int bt), (2, .int tol), (3, .int 0), (4, .int 1)]) hx hb dX5_logs_76 hl (by decide) rfl (fun ls hl => ?_)
    refine lv_aload_n hx hb dX5_logs_78 rfl (lv_at hl 1 rfl) ?_
    refine va_get (v := .ref mn) (D := D) (ci := 5) (C := RX5) (T := TX5) (N := 14) hx hb hts (by decide +kernel) hown hK hP 0 rfl rfl 0 (by decide) (hts (.fieldLink RX5 7 "SpiralFramesModel" "now" "[I") (by decide +kernel)) (fun _ h9 => h9) rfl dX5_logs_79 ?_
    refine lv_iload hx hb dX5_logs_82 (lv_at hl 0 rfl) ?_
    refine lv_iload_n hx hb dX5_logs_84 rfl (lv_at hl 2 rfl) ?_
    refine x_iastE hx hb hK hP hD hS 1 0 rfl rfl (k := 442 + (17 * kn)) (g := mkM D1 S1 R1 N1 (nI kn) (upd L1 (17 * kn) bt)) (upM_L (j := (17 * kn)) (by omega) (by omega)) (by omega) (by decide) dX5_logs_85 (fun H locs hP hD hS => ?_)
    have hP : va_P D vwCl [(mm, .inr (5, [.ref mn, .ref mh, .int kp, .ref ms, .int fl, .ref mr, .ref md, .ref mo, .ref mc, .int ty, .ref mt, .int at9, .int nu, .ref mq])), (mn, .inl (cI, 578, .inl (mkM D1 S1 R1 N1 (nI kn) (upd L1 (17 * kn) bt)))), (mc, .inl (cI, 9, .inl (cq)))] H := hP
    have hD : va_D (Ar) [(mm, .inr (5, [.ref mn, .ref mh, .int kp, .ref ms, .int fl, .ref mr, .ref md, .ref mo, .ref mc, .int ty, .ref mt, .int at9, .int nu, .ref mq])), (mn, .inl (cI, 578, .inl (mkM D1 S1 R1 N1 (nI kn) (upd L1 (17 * kn) bt)))), (mc, .inl (cI, 9, .inl (cq)))] := hD
    refine lv_aload_n hx hb dX5_logs_86 rfl (lv_at hl 1 rfl) ?_
    refine va_get (v := .ref mn) (D := D) (ci := 5) (C := RX5) (T := TX5) (N := 14) hx hb hts (by decide +kernel) hown hK hP 0 rfl rfl 0 (by decide) (hts (.fieldLink RX5 7 "SpiralFramesModel" "now" "[I") (by decide +kernel)) (fun _ h9 => h9) rfl dX5_logs_87 ?_
    refine lv_iload hx hb dX5_logs_90 (lv_at hl 0 rfl) ?_
    refine lv_iconst (v := 1) hx hb dX5_logs_92 (by decide) ?_
    refine lv_iadd hx hb dX5_logs_93 ?_
    refine x_eqi (show nI (442 + (17 * kn)) + 1 = nI ((442 + (17 * kn)) + 1) from nI_add (442 + (17 * kn)) 1) ?_
    refine lv_iload_n hx hb dX5_logs_94 rfl (lv_at hl 3 rfl) ?_
    refine x_iastE hx hb hK hP hD hS 1 0 rfl rfl (k := (442 + (17 * kn)) + 1) (g := mkM D1 S1 R1 N1 (nI kn) (upd (upd L1 (17 * kn) bt) (17 * kn + 1) tol)) (upM_L (j := (17 * kn + 1)) (by omega) (by omega)) (by omega) (by decide) dX5_logs_95 (fun H locs hP hD hS => ?_)
    have hP : va_P D vwCl [(mm, .inr (5, [.ref mn, .ref mh, .int kp, .ref ms, .int fl, .ref mr, .ref md, .ref mo, .ref mc, .int ty, .ref mt, .int at9, .int nu, .ref mq])), (mn, .inl (cI, 578, .inl (mkM D1 S1 R1 N1 (nI kn) (upd (upd L1 (17 * kn) bt) (17 * kn + 1) tol)))), (mc, .inl (cI, 9, .inl (cq)))] H := hP
    have hD : va_D (Ar) [(mm, .inr (5, [.ref mn, .ref mh, .int kp, .ref ms, .int fl, .ref mr, .ref md, .ref mo, .ref mc, .int ty, .ref mt, .int at9, .int nu, .ref mq])), (mn, .inl (cI, 578, .inl (mkM D1 S1 R1 N1 (nI kn) (upd (upd L1 (17 * kn) bt) (17 * kn + 1) tol)))), (mc, .inl (cI, 9, .inl (cq)))] := hD
    refine lv_aload_n hx hb dX5_logs_96 rfl (lv_at hl 1 rfl) ?_
    refine va_get (v := .ref mn) (D := D) (ci := 5) (C := RX5) (T := TX5) (N := 14) hx hb hts (by decide +kernel) hown hK hP 0 rfl rfl 0 (by decide) (hts (.fieldLink RX5 7 "SpiralFramesModel" "now" "[I") (by decide +kernel)) (fun _ h9 => h9) rfl dX5_logs_97 ?_
    refine lv_iload hx hb dX5_logs_100 (lv_at hl 0 rfl) ?_
    refine lv_iconst (v := 2) hx hb dX5_logs_102 (by decide) ?_
    refine lv_iadd hx hb dX5_logs_103 ?_
    refine x_eqi (show nI (442 + (17 * kn)) + 2 = nI ((442 + (17 * kn)) + 2) from nI_add (442 + (17 * kn)) 2) ?_
    refine lv_iload_n hx hb dX5_logs_104 rfl (lv_at hl 4 rfl) ?_
    refine lv_if_eq (tgt := 112) hx hb dX5_logs_105 (by decide) (fun _ => ?_) (fun h => False.elim (by revert h; decide))
    refine lv_iconst (v := 0) hx hb dX5_logs_112 (by decide) ?_
    refine x_iastE hx hb hK hP hD hS 1 0 rfl rfl (k := (442 + (17 * kn)) + 2) (g := mkM D1 S1 R1 N1 (nI kn) (upd (upd (upd L1 (17 * kn) bt) (17 * kn + 1) tol) (17 * kn + 2) 0)) (upM_L (j := (17 * kn + 2)) (by omega) (by omega)) (by omega) (by decide) dX5_logs_113 (fun H locs hP hD hS => ?_)
    have hP : va_P D vwCl [(mm, .inr (5, [.ref mn, .ref mh, .int kp, .ref ms, .int fl, .ref mr, .ref md, .ref mo, .ref mc, .int ty, .ref mt, .int at9, .int nu, .ref mq])), (mn, .inl (cI, 578, .inl (mkM D1 S1 R1 N1 (nI kn) (upd (upd (upd L1 (17 * kn) bt) (17 * kn + 1) tol) (17 * kn + 2) 0)))), (mc, .inl (cI, 9, .inl (cq)))] H := hP
    have hD : va_D (Ar) [(mm, .inr (5, [.ref mn, .ref mh, .int kp, .ref ms, .int fl, .ref mr, .ref md, .ref mo, .ref mc, .int ty, .ref mt, .int at9, .int nu, .ref mq])), (mn, .inl (cI, 578, .inl (mkM D1 S1 R1 N1 (nI kn) (upd (upd (upd L1 (17 * kn) bt) (17 * kn + 1) tol) (17 * kn + 2) 0)))), (mc, .inl (cI, 9, .inl (cq)))] := hD
    refine lv_aload_n hx hb dX5_logs_114 rfl (lv_at hl 1 rfl) ?_
    refine va_get (v := .ref mn) (D := D) (ci := 5) (C := RX5) (T := TX5) (N := 14) hx hb hts (by decide +kernel) hown hK hP 0 rfl rfl 0 (by decide) (hts (.fieldLink RX5 7 "SpiralFramesModel" "now" "[I") (by decide +kernel)) (fun _ h9 => h9) rfl dX5_logs_115 ?_
    refine lv_iload hx hb dX5_logs_118 (lv_at hl 0 rfl) ?_
    refine lv_iconst (v := 3) hx hb dX5_logs_120 (by decide) ?_
    refine lv_iadd hx hb dX5_logs_121 ?_
    refine x_eqi (show nI (442 + (17 * kn)) + 3 = nI ((442 + (17 * kn)) + 3) from nI_add (442 + (17 * kn)) 3) ?_
    refine lv_iload hx hb dX5_logs_122 (lv_at hl 5 rfl) ?_
    refine lv_if_eq (tgt := 131) hx hb dX5_logs_124 (by decide) (fun h => False.elim (by revert h; decide)) (fun _ => ?_)
    refine lv_iconst (v := 1) hx hb dX5_logs_127 (by decide) ?_
    refine lv_goto (tgt := 132) hx hb dX5_logs_128 (by decide) ?_
    refine x_iastE hx hb hK hP hD hS 1 0 rfl rfl (k := (442 + (17 * kn)) + 3) (g := mkM D1 S1 R1 N1 (nI kn) (upd (upd (upd (upd L1 (17 * kn) bt) (17 * kn + 1) tol) (17 * kn + 2) 0) (17 * kn + 3) 1)) (upM_L (j := (17 * kn + 3)) (by omega) (by omega)) (by omega) (by decide) dX5_logs_132 (fun H locs hP hD hS => ?_)
    have hP : va_P D vwCl [(mm, .inr (5, [.ref mn, .ref mh, .int kp, .ref ms, .int fl, .ref mr, .ref md, .ref mo, .ref mc, .int ty, .ref mt, .int at9, .int nu, .ref mq])), (mn, .inl (cI, 578, .inl (mkM D1 S1 R1 N1 (nI kn) (upd (upd (upd (upd L1 (17 * kn) bt) (17 * kn + 1) tol) (17 * kn + 2) 0) (17 * kn + 3) 1)))), (mc, .inl (cI, 9, .inl (cq)))] H := hP
    have hD : va_D (Ar) [(mm, .inr (5, [.ref mn, .ref mh, .int kp, .ref ms, .int fl, .ref mr, .ref md, .ref mo, .ref mc, .int ty, .ref mt, .int at9, .int nu, .ref mq])), (mn, .inl (cI, 578, .inl (mkM D1 S1 R1 N1 (nI kn) (upd (upd (upd (upd L1 (17 * kn) bt) (17 * kn + 1) tol) (17 * kn + 2) 0) (17 * kn + 3) 1)))), (mc, .inl (cI, 9, .inl (cq)))] := hD
    refine lv_aload_n hx hb dX5_logs_133 rfl (lv_at hl 1 rfl) ?_
    refine va_get (v := .ref mn) (D := D) (ci := 5) (C := RX5) (T := TX5) (N := 14) hx hb hts (by decide +kernel) hown hK hP 0 rfl rfl 0 (by decide) (hts (.fieldLink RX5 7 "SpiralFramesModel" "now" "[I") (by decide +kernel)) (fun _ h9 => h9) rfl dX5_logs_134 ?_
    refine lv_iload hx hb dX5_logs_137 (lv_at hl 0 rfl) ?_
    refine lv_iconst (v := 4) hx hb dX5_logs_139 (by decide) ?_
    refine lv_iadd hx hb dX5_logs_140 ?_
    refine x_eqi (show nI (442 + (17 * kn)) + 4 = nI ((442 + (17 * kn)) + 4) from nI_add (442 + (17 * kn)) 4) ?_
    refine lv_iconst (v := 0) hx hb dX5_logs_141 (by decide) ?_
    refine x_iastE hx hb hK hP hD hS 1 0 rfl rfl (k := (442 + (17 * kn)) + 4) (g := mkM D1 S1 R1 N1 (nI kn) (upd (upd (upd (upd (upd L1 (17 * kn) bt) (17 * kn + 1) tol) (17 * kn + 2) 0) (17 * kn + 3) 1) (17 * kn + 4) 0)) (upM_L (j := (17 * kn + 4)) (by omega) (by omega)) (by omega) (by decide) dX5_logs_142 (fun H locs hP hD hS => ?_)
    have hP : va_P D vwCl [(mm, .inr (5, [.ref mn, .ref mh, .int kp, .ref ms, .int fl, .ref mr, .ref md, .ref mo, .ref mc, .int ty, .ref mt, .int at9, .int nu, .ref mq])), (mn, .inl (cI, 578, .inl (mkM D1 S1 R1 N1 (nI kn) (upd (upd (upd (upd (upd L1 (17 * kn) bt) (17 * kn + 1) tol) (17 * kn + 2) 0) (17 * kn + 3) 1) (17 * kn + 4) 0)))), (mc, .inl (cI, 9, .inl (cq)))] H := hP
    have hD : va_D (Ar) [(mm, .inr (5, [.ref mn, .ref mh, .int kp, .ref ms, .int fl, .ref mr, .ref md, .ref mo, .ref mc, .int ty, .ref mt, .int at9, .int nu, .ref mq])), (mn, .inl (cI, 578, .inl (mkM D1 S1 R1 N1 (nI kn) (upd (upd (upd (upd (upd L1 (17 * kn) bt) (17 * kn + 1) tol) (17 * kn + 2) 0) (17 * kn + 3) 1) (17 * kn + 4) 0)))), (mc, .inl (cI, 9, .inl (cq)))] := hD
    refine lv_aload_n hx hb dX5_logs_143 rfl (lv_at hl 1 rfl) ?_
    refine va_get (v := .ref mn) (D := D) (ci := 5) (C := RX5) (T := TX5) (N := 14) hx hb hts (by decide +kernel) hown hK hP 0 rfl rfl 0 (by decide) (hts (.fieldLink RX5 7 "SpiralFramesModel" "now" "[I") (by decide +kernel)) (fun _ h9 => h9) rfl dX5_logs_144 ?_
    refine lv_iload hx hb dX5_logs_147 (lv_at hl 0 rfl) ?_
    refine lv_iconst (v := 5) hx hb dX5_logs_149 (by decide) ?_
    refine lv_iadd hx hb dX5_logs_150 ?_
    refine x_eqi (show nI (442 + (17 * kn)) + 5 = nI ((442 + (17 * kn)) + 5) from nI_add (442 + (17 * kn)) 5) ?_
    refine lv_iconst (v := 0) hx hb dX5_logs_151 (by decide) ?_
    refine x_iastE hx hb hK hP hD hS 1 0 rfl rfl (k := (442 + (17 * kn)) + 5) (g := mkM D1 S1 R1 N1 (nI kn) (upd (upd (upd (upd (upd (upd L1 (17 * kn) bt) (17 * kn + 1) tol) (17 * kn + 2) 0) (17 * kn + 3) 1) (17 * kn + 4) 0) (17 * kn + 5) 0)) (upM_L (j := (17 * kn + 5)) (by omega) (by omega)) (by omega) (by decide) dX5_logs_152 (fun H locs hP hD hS => ?_)
    have hP : va_P D vwCl [(mm, .inr (5, [.ref mn, .ref mh, .int kp, .ref ms, .int fl, .ref mr, .ref md, .ref mo, .ref mc, .int ty, .ref mt, .int at9, .int nu, .ref mq])), (mn, .inl (cI, 578, .inl (mkM D1 S1 R1 N1 (nI kn) (upd (upd (upd (upd (upd (upd L1 (17 * kn) bt) (17 * kn + 1) tol) (17 * kn + 2) 0) (17 * kn + 3) 1) (17 * kn + 4) 0) (17 * kn + 5) 0)))), (mc, .inl (cI, 9, .inl (cq)))] H := hP
    have hD : va_D (Ar) [(mm, .inr (5, [.ref mn, .ref mh, .int kp, .ref ms, .int fl, .ref mr, .ref md, .ref mo, .ref mc, .int ty, .ref mt, .int at9, .int nu, .ref mq])), (mn, .inl (cI, 578, .inl (mkM D1 S1 R1 N1 (nI kn) (upd (upd (upd (upd (upd (upd L1 (17 * kn) bt) (17 * kn + 1) tol) (17 * kn + 2) 0) (17 * kn + 3) 1) (17 * kn + 4) 0) (17 * kn + 5) 0)))), (mc, .inl (cI, 9, .inl (cq)))] := hD
    refine lv_aload_n hx hb dX5_logs_153 rfl (lv_at hl 1 rfl) ?_
    refine va_get (v := .ref mn) (D := D) (ci := 5) (C := RX5) (T := TX5) (N := 14) hx hb hts (by decide +kernel) hown hK hP 0 rfl rfl 0 (by decide) (hts (.fieldLink RX5 7 "SpiralFramesModel" "now" "[I") (by decide +kernel)) (fun _ h9 => h9) rfl dX5_logs_154 ?_
    refine lv_iload hx hb dX5_logs_157 (lv_at hl 0 rfl) ?_
    refine lv_bipush (v := 6) hx hb dX5_logs_159 (by decide) ?_
    refine lv_iadd hx hb dX5_logs_161 ?_
    refine x_eqi (show nI (442 + (17 * kn)) + 6 = nI ((442 + (17 * kn)) + 6) from nI_add (442 + (17 * kn)) 6) ?_
    refine lv_iconst (v := 0) hx hb dX5_logs_162 (by decide) ?_
    refine x_iastE hx hb hK hP hD hS 1 0 rfl rfl (k := (442 + (17 * kn)) + 6) (g := mkM D1 S1 R1 N1 (nI kn) (upd (upd (upd (upd (upd (upd (upd L1 (17 * kn) bt) (17 * kn + 1) tol) (17 * kn + 2) 0) (17 * kn + 3) 1) (17 * kn + 4) 0) (17 * kn + 5) 0) (17 * kn + 6) 0)) (upM_L (j := (17 * kn + 6)) (by omega) (by omega)) (by omega) (by decide) dX5_logs_163 (fun H locs hP hD hS => ?_)
    have hP : va_P D vwCl [(mm, .inr (5, [.ref mn, .ref mh, .int kp, .ref ms, .int fl, .ref mr, .ref md, .ref mo, .ref mc, .int ty, .ref mt, .int at9, .int nu, .ref mq])), (mn, .inl (cI, 578, .inl (mkM D1 S1 R1 N1 (nI kn) (upd (upd (upd (upd (upd (upd (upd L1 (17 * kn) bt) (17 * kn + 1) tol) (17 * kn + 2) 0) (17 * kn + 3) 1) (17 * kn + 4) 0) (17 * kn + 5) 0) (17 * kn + 6) 0)))), (mc, .inl (cI, 9, .inl (cq)))] H := hP
    have hD : va_D (Ar) [(mm, .inr (5, [.ref mn, .ref mh, .int kp, .ref ms, .int fl, .ref mr, .ref md, .ref mo, .ref mc, .int ty, .ref mt, .int at9, .int nu, .ref mq])), (mn, .inl (cI, 578, .inl (mkM D1 S1 R1 N1 (nI kn) (upd (upd (upd (upd (upd (upd (upd L1 (17 * kn) bt) (17 * kn + 1) tol) (17 * kn + 2) 0) (17 * kn + 3) 1) (17 * kn + 4) 0) (17 * kn + 5) 0) (17 * kn + 6) 0)))), (mc, .inl (cI, 9, .inl (cq)))] := hD
    refine lv_iconst (v := 0) hx hb dX5_logs_164 (by decide) ?_
    refine lv_istore (lv' := [(6, .int 0), (5, .int (nI (442 + (17 * kn)))), (0, .ref mm), (1, .int bt), (2, .int tol), (3, .int 0), (4, .int 1)]) hx hb dX5_logs_165 hl (by decide) rfl (fun ls hl => ?_)
    have L167 : ∀ (fuel : Nat) (t : Nat) (g : Nat → Int32), (t ≤ 9) → (g = lgX L1 (17 * kn) bt tol (nI 0) (nI 1) cd t) → 9 - t < fuel → ∀ (H : Heap) (locs : List Loc), va_P D vwCl [(mm, .inr (5, [.ref mn, .ref mh, .int kp, .ref ms, .int fl, .ref mr, .ref md, .ref mo, .ref mc, .int ty, .ref mt, .int at9, .int nu, .ref mq])), (mn, .inl (cI, 578, .inl (mkM D1 S1 R1 N1 (nI kn) g))), (mc, .inl (cI, 9, .inl (cq)))] H → va_D (Ar) [(mm, .inr (5, [.ref mn, .ref mh, .int kp, .ref ms, .int fl, .ref mr, .ref md, .ref mo, .ref mc, .int ty, .ref mt, .int at9, .int nu, .ref mq])), (mn, .inl (cI, 578, .inl (mkM D1 S1 R1 N1 (nI kn) g))), (mc, .inl (cI, 9, .inl (cq)))] → va_S (Ar) s.heap H locs → ∀ (ls : Array Slot), lv_has ls 8 [(0, .ref mm), (5, .int (nI (442 + 17 * kn))), (6, .int (nI t))] → W p l e (headSpec wsX5_logs ({ frames := 4, cells := 0, slots := 0, locals := 98 } : Room)).room s m ([.ref mm, .int bt, .int tol, .int 0, .int 1] : List Value).toArray below meth c H locs 0 0 Q (F0 m 167 ls []) := by
      intro fuel
      induction fuel with
      | zero =>
        intro t g hi167_0 hi167_1 hfu
        exact absurd hfu (Nat.not_lt_zero _)
      | succ fuel ih167 =>
        intro t g hi167_0 hi167_1 hfu167 H locs hP hD hS ls hl
        refine lv_iload hx hb dX5_logs_167 (lv_at hl 2 rfl) ?_
        refine lv_bipush (v := 9) hx hb dX5_logs_169 (by decide) ?_
        refine x_icmp_ge (tgt := 249) hx hb dX5_logs_171 (by decide) (X := ((t : Nat) : Int)) (nI_toI (by omega)) (Y := 9) (show (9 : Int32).toInt = 9 from by decide) (fun c_171 => ?_) (fun c_171 => ?_)
        · skip
          refine lv_aload_n hx hb dX5_logs_249 rfl (lv_at hl 0 rfl) ?_
          refine va_get (v := .ref mn) (D := D) (ci := 5) (C := RX5) (T := TX5) (N := 14) hx hb hts (by decide +kernel) hown hK hP 0 rfl rfl 0 (by decide) (hts (.fieldLink RX5 7 "SpiralFramesModel" "now" "[I") (by decide +kernel)) (fun _ h9 => h9) rfl dX5_logs_250 ?_
          refine lv_iload hx hb dX5_logs_253 (lv_at hl 1 rfl) ?_
          refine lv_bipush (v := 7) hx hb dX5_logs_255 (by decide) ?_
          refine lv_iadd hx hb dX5_logs_257 ?_
          refine x_eqi (show nI (442 + 17 * kn) + 7 = nI ((442 + 17 * kn) + 7) from nI_add (442 + 17 * kn) 7) ?_
          refine lv_aload_n hx hb dX5_logs_258 rfl (lv_at hl 0 rfl) ?_
          refine lv_iconst (v := 0) hx hb dX5_logs_259 (by decide) ?_
          refine lv_iconst (v := 1) hx hb dX5_logs_260 (by decide) ?_
          refine x_callR (va_runV (As := [.int 0, .int 1]) (rest := [.int (nI ((442 + 17 * kn) + 7)), .ref mn]) ⟨hx, hb, hml, hown, hts⟩ (c_X5_whole l D cI cC cS tt mm mn mh ms mr md mo mc mt mq kp fl ty at9 nu D1 S1 R1 N1 (nI kn) g 0 1 (by first | omega | assumption | decide) (by first | omega | assumption | decide)) (cwV 2 hts gX5_logs_X5_whole rfl rfl rfl (by decide +kernel) ⟨Nat.le_of_ble_eq_true rfl, Nat.le_of_ble_eq_true rfl⟩) ⟨x_blindR, va_recv hK hP (ci := 5) (q0 := 0) rfl rfl, x_preR (hP.sub (ws' := [(mm, .inr (5, [.ref mn, .ref mh, .int kp, .ref ms, .int fl, .ref mr, .ref md, .ref mo, .ref mc, .int ty, .ref mt, .int at9, .int nu, .ref mq])), (mn, .inl (cI, 578, .inl (mkM D1 S1 R1 N1 (nI kn) g)))]) [0, 1] rfl) hK hE hS⟩ rfl rfl hl.1 rfl (lv_room (Nat.le_of_ble_eq_true rfl)) dX5_logs_261 ⟨(Nat.le_of_ble_eq_true rfl), (Nat.le_of_ble_eq_true rfl)⟩) ?_
          refine x_eqi (show wdS (pkN D1 S1 R1 0) (pkN D1 S1 R1 1) = wdS D1 S1 from rfl) ?_
          refine x_iastE hx hb hK hP hD hS 1 0 rfl rfl (k := (442 + 17 * kn) + 7) (g := mkM D1 S1 R1 N1 (nI kn) (upd g (17 * kn + 7) (wdS D1 S1))) (upM_L (j := (17 * kn + 7)) (by omega) (by omega)) (by omega) (by decide) dX5_logs_264 (fun H locs hP hD hS => ?_)
          have hP : va_P D vwCl [(mm, .inr (5, [.ref mn, .ref mh, .int kp, .ref ms, .int fl, .ref mr, .ref md, .ref mo, .ref mc, .int ty, .ref mt, .int at9, .int nu, .ref mq])), (mn, .inl (cI, 578, .inl (mkM D1 S1 R1 N1 (nI kn) (upd g (17 * kn + 7) (wdS D1 S1))))), (mc, .inl (cI, 9, .inl (cq)))] H := hP
          have hD : va_D (Ar) [(mm, .inr (5, [.ref mn, .ref mh, .int kp, .ref ms, .int fl, .ref mr, .ref md, .ref mo, .ref mc, .int ty, .ref mt, .int at9, .int nu, .ref mq])), (mn, .inl (cI, 578, .inl (mkM D1 S1 R1 N1 (nI kn) (upd g (17 * kn + 7) (wdS D1 S1))))), (mc, .inl (cI, 9, .inl (cq)))] := hD
          refine lv_aload_n hx hb dX5_logs_265 rfl (lv_at hl 0 rfl) ?_
          refine va_get (v := .ref mn) (D := D) (ci := 5) (C := RX5) (T := TX5) (N := 14) hx hb hts (by decide +kernel) hown hK hP 0 rfl rfl 0 (by decide) (hts (.fieldLink RX5 7 "SpiralFramesModel" "now" "[I") (by decide +kernel)) (fun _ h9 => h9) rfl dX5_logs_266 ?_
          refine lv_sipush (v := 441) hx hb dX5_logs_269 (by decide) ?_
          refine lv_dup2_11 hx hb dX5_logs_272 rfl rfl ?_
          refine x_eqi (show (441 : Int32) = nI 441 from by decide) ?_
          refine x_iald hx hb hK hP 1 0 rfl rfl (k := 441) (by omega) (by decide) dX5_logs_273 ?_
          refine x_eqi (show (mkM D1 S1 R1 N1 (nI kn) (upd g (17 * kn + 7) (wdS D1 S1))) 441 = (nI kn) from (mkM_K (by omega))) ?_
          refine lv_iconst (v := 1) hx hb dX5_logs_274 (by decide) ?_
          refine lv_iadd hx hb dX5_logs_275 ?_
          refine x_eqi (show nI kn + 1 = nI (kn + 1) from nI_add kn 1) ?_
          refine x_eqi2 (show (441 : Int32) = nI 441 from by decide) ?_
          refine x_iastE hx hb hK hP hD hS 1 0 rfl rfl (k := 441) (g := mkM D1 S1 R1 N1 (nI (kn + 1)) (upd g (17 * kn + 7) (wdS D1 S1))) (upM_K (by omega)) (by omega) (by decide) dX5_logs_276 (fun H locs hP hD hS => ?_)
          have hP : va_P D vwCl [(mm, .inr (5, [.ref mn, .ref mh, .int kp, .ref ms, .int fl, .ref mr, .ref md, .ref mo, .ref mc, .int ty, .ref mt, .int at9, .int nu, .ref mq])), (mn, .inl (cI, 578, .inl (mkM D1 S1 R1 N1 (nI (kn + 1)) (upd g (17 * kn + 7) (wdS D1 S1))))), (mc, .inl (cI, 9, .inl (cq)))] H := hP
          have hD : va_D (Ar) [(mm, .inr (5, [.ref mn, .ref mh, .int kp, .ref ms, .int fl, .ref mr, .ref md, .ref mo, .ref mc, .int ty, .ref mt, .int at9, .int nu, .ref mq])), (mn, .inl (cI, 578, .inl (mkM D1 S1 R1 N1 (nI (kn + 1)) (upd g (17 * kn + 7) (wdS D1 S1))))), (mc, .inl (cI, 9, .inl (cq)))] := hD
          refine x_vretW (w := [(mm, .inr (5, [.ref mn, .ref mh, .int kp, .ref ms, .int fl, .ref mr, .ref md, .ref mo, .ref mc, .int ty, .ref mt, .int at9, .int nu, .ref mq])), (mn, .inl (cI, 578, .inl (mkM D1 S1 R1 N1 (nI (kn + 1)) (upd g (17 * kn + 7) (wdS D1 S1))))), (mc, .inl (cI, 9, .inl (cq)))]) hQ hAe hx hb hr hlocks (hP.sub [0, 1, 2] rfl) (hD.sub [0, 1, 2] (by decide) rfl) hS ?_ dX5_logs_277
          have e9 : upd g (17 * kn + 7) (wdS D1 S1) = lgM L1 kn (lgR bt tol 0 1 cd (wdS D1 S1)) := by rw [hi167_1, show t = 9 by omega, lgX_e]; unfold lgM lgB; rw [if_neg (by omega), show min kn 7 = kn by omega]
          rw [e9, show min (kn + 1) 8 = kn + 1 by omega]
        · skip
          refine lv_aload_n hx hb dX5_logs_174 rfl (lv_at hl 0 rfl) ?_
          refine va_get (v := .ref mc) (D := D) (ci := 5) (C := RX5) (T := TX5) (N := 14) hx hb hts (by decide +kernel) hown hK hP 0 rfl rfl 8 (by decide) (hts (.fieldLink RX5 28 "SpiralFramesModel" "codes" "[I") (by decide +kernel)) (fun _ h9 => h9) rfl dX5_logs_175 ?_
          refine lv_iload hx hb dX5_logs_178 (lv_at hl 2 rfl) ?_
          refine x_iald hx hb hK hP 2 0 rfl rfl (k := t) (by omega) (by decide) dX5_logs_180 ?_
          refine x_eqi (show cq t = nI (cd t) from hh0 t (by omega)) ?_
          have cd25 := hh1 t
          refine x_if_ne (tgt := 188) hx hb dX5_logs_181 (by decide) (X := ((cd t : Nat) : Int)) (nI_toI (by omega)) (fun c_181 => ?_) (fun c_181 => ?_)
          · skip
            refine lv_aload_n hx hb dX5_logs_188 rfl (lv_at hl 0 rfl) ?_
            refine va_get (v := .ref mc) (D := D) (ci := 5) (C := RX5) (T := TX5) (N := 14) hx hb hts (by decide +kernel) hown hK hP 0 rfl rfl 8 (by decide) (hts (.fieldLink RX5 28 "SpiralFramesModel" "codes" "[I") (by decide +kernel)) (fun _ h9 => h9) rfl dX5_logs_189 ?_
            refine lv_iload hx hb dX5_logs_192 (lv_at hl 2 rfl) ?_
            refine x_iald hx hb hK hP 2 0 rfl rfl (k := t) (by omega) (by decide) dX5_logs_194 ?_
            refine x_eqi (show cq t = nI (cd t) from hh0 t (by omega)) ?_
            refine lv_bipush (v := 25) hx hb dX5_logs_195 (by decide) ?_
            refine x_icmp_ne (tgt := 204) hx hb dX5_logs_197 (by decide) (X := ((cd t : Nat) : Int)) (nI_toI (by omega)) (Y := 25) (show (25 : Int32).toInt = 25 from by decide) (fun c_197 => ?_) (fun c_197 => ?_)
            · skip
              refine lv_iconst (v := 1) hx hb dX5_logs_204 (by decide) ?_
              refine lv_istore (lv' := [(7, .int 1), (0, .ref mm), (5, .int (nI (442 + 17 * kn))), (6, .int (nI t))]) hx hb dX5_logs_205 hl (by decide) rfl (fun ls hl => ?_)
              refine lv_aload_n hx hb dX5_logs_207 rfl (lv_at hl 1 rfl) ?_
              refine va_get (v := .ref mn) (D := D) (ci := 5) (C := RX5) (T := TX5) (N := 14) hx hb hts (by decide +kernel) hown hK hP 0 rfl rfl 0 (by decide) (hts (.fieldLink RX5 7 "SpiralFramesModel" "now" "[I") (by decide +kernel)) (fun _ h9 => h9) rfl dX5_logs_208 ?_
              refine lv_iload hx hb dX5_logs_211 (lv_at hl 2 rfl) ?_
              refine lv_iconst (v := 4) hx hb dX5_logs_213 (by decide) ?_
              refine lv_iadd hx hb dX5_logs_214 ?_
              refine x_eqi (show nI (442 + 17 * kn) + 4 = nI ((442 + 17 * kn) + 4) from nI_add (442 + 17 * kn) 4) ?_
              refine lv_iload hx hb dX5_logs_215 (lv_at hl 0 rfl) ?_
              refine lv_iadd hx hb dX5_logs_217 ?_
              refine x_eqi (show nI ((442 + 17 * kn) + 4) + 1 = nI (((442 + 17 * kn) + 4) + 1) from nI_add ((442 + 17 * kn) + 4) 1) ?_
              refine lv_dup2_11 hx hb dX5_logs_218 rfl rfl ?_
              refine x_iald hx hb hK hP 1 0 rfl rfl (k := ((442 + 17 * kn) + 4) + 1) (by omega) (by decide) dX5_logs_219 ?_
              refine x_eqi (show (mkM D1 S1 R1 N1 (nI kn) g) (((442 + 17 * kn) + 4) + 1) = g (17 * kn + 4 + 1) from (mkM_L (j := (17 * kn + 4 + 1)) (by omega) (by omega))) ?_
              refine lv_iconst (v := 1) hx hb dX5_logs_220 (by decide) ?_
              refine lv_iadd hx hb dX5_logs_221 ?_
              refine x_iastE hx hb hK hP hD hS 1 0 rfl rfl (k := ((442 + 17 * kn) + 4) + 1) (g := mkM D1 S1 R1 N1 (nI kn) (upd g (17 * kn + 4 + 1) ((g (17 * kn + 4 + 1)) + 1))) (upM_L (j := (17 * kn + 4 + 1)) (by omega) (by omega)) (by omega) (by decide) dX5_logs_222 (fun H locs hP hD hS => ?_)
              have hP : va_P D vwCl [(mm, .inr (5, [.ref mn, .ref mh, .int kp, .ref ms, .int fl, .ref mr, .ref md, .ref mo, .ref mc, .int ty, .ref mt, .int at9, .int nu, .ref mq])), (mn, .inl (cI, 578, .inl (mkM D1 S1 R1 N1 (nI kn) (upd g (17 * kn + 4 + 1) ((g (17 * kn + 4 + 1)) + 1))))), (mc, .inl (cI, 9, .inl (cq)))] H := hP
              have hD : va_D (Ar) [(mm, .inr (5, [.ref mn, .ref mh, .int kp, .ref ms, .int fl, .ref mr, .ref md, .ref mo, .ref mc, .int ty, .ref mt, .int at9, .int nu, .ref mq])), (mn, .inl (cI, 578, .inl (mkM D1 S1 R1 N1 (nI kn) (upd g (17 * kn + 4 + 1) ((g (17 * kn + 4 + 1)) + 1))))), (mc, .inl (cI, 9, .inl (cq)))] := hD
              refine lv_aload_n hx hb dX5_logs_223 rfl (lv_at hl 1 rfl) ?_
              refine va_get (v := .ref mn) (D := D) (ci := 5) (C := RX5) (T := TX5) (N := 14) hx hb hts (by decide +kernel) hown hK hP 0 rfl rfl 0 (by decide) (hts (.fieldLink RX5 7 "SpiralFramesModel" "now" "[I") (by decide +kernel)) (fun _ h9 => h9) rfl dX5_logs_224 ?_
              refine lv_iload hx hb dX5_logs_227 (lv_at hl 2 rfl) ?_
              refine lv_bipush (v := 8) hx hb dX5_logs_229 (by decide) ?_
              refine lv_iadd hx hb dX5_logs_231 ?_
              refine x_eqi (show nI (442 + 17 * kn) + 8 = nI ((442 + 17 * kn) + 8) from nI_add (442 + 17 * kn) 8) ?_
              refine lv_iload hx hb dX5_logs_232 (lv_at hl 3 rfl) ?_
              refine lv_iadd hx hb dX5_logs_234 ?_
              refine x_eqi (show nI ((442 + 17 * kn) + 8) + nI t = nI (((442 + 17 * kn) + 8) + t) from nI_add ((442 + 17 * kn) + 8) t) ?_
              refine lv_aload_n hx hb dX5_logs_235 rfl (lv_at hl 1 rfl) ?_
              refine va_get (v := .ref mc) (D := D) (ci := 5) (C := RX5) (T := TX5) (N := 14) hx hb hts (by decide +kernel) hown hK hP 0 rfl rfl 8 (by decide) (hts (.fieldLink RX5 28 "SpiralFramesModel" "codes" "[I") (by decide +kernel)) (fun _ h9 => h9) rfl dX5_logs_236 ?_
              refine lv_iload hx hb dX5_logs_239 (lv_at hl 3 rfl) ?_
              refine x_iald hx hb hK hP 2 0 rfl rfl (k := t) (by omega) (by decide) dX5_logs_241 ?_
              refine x_eqi (show cq t = nI (cd t) from hh0 t (by omega)) ?_
              refine x_iastE hx hb hK hP hD hS 1 0 rfl rfl (k := ((442 + 17 * kn) + 8) + t) (g := mkM D1 S1 R1 N1 (nI kn) (upd (upd g (17 * kn + 4 + 1) ((g (17 * kn + 4 + 1)) + 1)) (17 * kn + 8 + t) (nI (cd t)))) (upM_L (j := (17 * kn + 8 + t)) (by omega) (by omega)) (by omega) (by decide) dX5_logs_242 (fun H locs hP hD hS => ?_)
              have hP : va_P D vwCl [(mm, .inr (5, [.ref mn, .ref mh, .int kp, .ref ms, .int fl, .ref mr, .ref md, .ref mo, .ref mc, .int ty, .ref mt, .int at9, .int nu, .ref mq])), (mn, .inl (cI, 578, .inl (mkM D1 S1 R1 N1 (nI kn) (upd (upd g (17 * kn + 4 + 1) ((g (17 * kn + 4 + 1)) + 1)) (17 * kn + 8 + t) (nI (cd t)))))), (mc, .inl (cI, 9, .inl (cq)))] H := hP
              have hD : va_D (Ar) [(mm, .inr (5, [.ref mn, .ref mh, .int kp, .ref ms, .int fl, .ref mr, .ref md, .ref mo, .ref mc, .int ty, .ref mt, .int at9, .int nu, .ref mq])), (mn, .inl (cI, 578, .inl (mkM D1 S1 R1 N1 (nI kn) (upd (upd g (17 * kn + 4 + 1) ((g (17 * kn + 4 + 1)) + 1)) (17 * kn + 8 + t) (nI (cd t)))))), (mc, .inl (cI, 9, .inl (cq)))] := hD
              refine lv_iinc (v := nI (t + 1)) (lv' := [(6, .int (nI (t + 1))), (7, .int 1), (0, .ref mm), (5, .int (nI (442 + 17 * kn)))]) hx hb dX5_logs_243 hl (k := 3) rfl (nI_add _ _) (by decide) rfl (fun ls hl => ?_)
              refine lv_goto (tgt := 167) hx hb dX5_logs_246 (by decide) ?_
              exact ih167 (t + 1) (upd (upd g (17 * kn + 4 + 1) ((g (17 * kn + 4 + 1)) + 1)) (17 * kn + 8 + t) (nI (cd t))) (by first | omega | assumption | rfl) (by rw [hi167_1]; first | exact lgX_s (kind := 0) (by omega) (by unfold kdN; rw [if_pos (by omega)]) (congrArg (fun z => z + 1) (lgX_k (by omega))) rfl | exact lgX_s (kind := 1) (by omega) (by unfold kdN; rw [if_neg (by omega), if_neg (by omega)]) (congrArg (fun z => z + 1) (lgX_k (by omega))) rfl | exact lgX_s (kind := 2) (by omega) (by unfold kdN; rw [if_neg (by omega), if_pos (by omega)]) (congrArg (fun z => z + 1) (lgX_k (by omega))) rfl) (by omega) H locs (hP.sub [0, 1, 2] rfl) (hD.sub [0, 1, 2] (by decide) rfl) hS ls (lv_sub hl [2, 3, 0] rfl)
            · skip
              refine lv_iconst (v := 2) hx hb dX5_logs_200 (by decide) ?_
              refine lv_goto (tgt := 205) hx hb dX5_logs_201 (by decide) ?_
              refine lv_istore (lv' := [(7, .int 2), (0, .ref mm), (5, .int (nI (442 + 17 * kn))), (6, .int (nI t))]) hx hb dX5_logs_205 hl (by decide) rfl (fun ls hl => ?_)
              refine lv_aload_n hx hb dX5_logs_207 rfl (lv_at hl 1 rfl) ?_
              refine va_get (v := .ref mn) (D := D) (ci := 5) (C := RX5) (T := TX5) (N := 14) hx hb hts (by decide +kernel) hown hK hP 0 rfl rfl 0 (by decide) (hts (.fieldLink RX5 7 "SpiralFramesModel" "now" "[I") (by decide +kernel)) (fun _ h9 => h9) rfl dX5_logs_208 ?_
              refine lv_iload hx hb dX5_logs_211 (lv_at hl 2 rfl) ?_
              refine lv_iconst (v := 4) hx hb dX5_logs_213 (by decide) ?_
              refine lv_iadd hx hb dX5_logs_214 ?_
              refine x_eqi (show nI (442 + 17 * kn) + 4 = nI ((442 + 17 * kn) + 4) from nI_add (442 + 17 * kn) 4) ?_
              refine lv_iload hx hb dX5_logs_215 (lv_at hl 0 rfl) ?_
              refine lv_iadd hx hb dX5_logs_217 ?_
              refine x_eqi (show nI ((442 + 17 * kn) + 4) + 2 = nI (((442 + 17 * kn) + 4) + 2) from nI_add ((442 + 17 * kn) + 4) 2) ?_
              refine lv_dup2_11 hx hb dX5_logs_218 rfl rfl ?_
              refine x_iald hx hb hK hP 1 0 rfl rfl (k := ((442 + 17 * kn) + 4) + 2) (by omega) (by decide) dX5_logs_219 ?_
              refine x_eqi (show (mkM D1 S1 R1 N1 (nI kn) g) (((442 + 17 * kn) + 4) + 2) = g (17 * kn + 4 + 2) from (mkM_L (j := (17 * kn + 4 + 2)) (by omega) (by omega))) ?_
              refine lv_iconst (v := 1) hx hb dX5_logs_220 (by decide) ?_
              refine lv_iadd hx hb dX5_logs_221 ?_
              refine x_iastE hx hb hK hP hD hS 1 0 rfl rfl (k := ((442 + 17 * kn) + 4) + 2) (g := mkM D1 S1 R1 N1 (nI kn) (upd g (17 * kn + 4 + 2) ((g (17 * kn + 4 + 2)) + 1))) (upM_L (j := (17 * kn + 4 + 2)) (by omega) (by omega)) (by omega) (by decide) dX5_logs_222 (fun H locs hP hD hS => ?_)
              have hP : va_P D vwCl [(mm, .inr (5, [.ref mn, .ref mh, .int kp, .ref ms, .int fl, .ref mr, .ref md, .ref mo, .ref mc, .int ty, .ref mt, .int at9, .int nu, .ref mq])), (mn, .inl (cI, 578, .inl (mkM D1 S1 R1 N1 (nI kn) (upd g (17 * kn + 4 + 2) ((g (17 * kn + 4 + 2)) + 1))))), (mc, .inl (cI, 9, .inl (cq)))] H := hP
              have hD : va_D (Ar) [(mm, .inr (5, [.ref mn, .ref mh, .int kp, .ref ms, .int fl, .ref mr, .ref md, .ref mo, .ref mc, .int ty, .ref mt, .int at9, .int nu, .ref mq])), (mn, .inl (cI, 578, .inl (mkM D1 S1 R1 N1 (nI kn) (upd g (17 * kn + 4 + 2) ((g (17 * kn + 4 + 2)) + 1))))), (mc, .inl (cI, 9, .inl (cq)))] := hD
              refine lv_aload_n hx hb dX5_logs_223 rfl (lv_at hl 1 rfl) ?_
              refine va_get (v := .ref mn) (D := D) (ci := 5) (C := RX5) (T := TX5) (N := 14) hx hb hts (by decide +kernel) hown hK hP 0 rfl rfl 0 (by decide) (hts (.fieldLink RX5 7 "SpiralFramesModel" "now" "[I") (by decide +kernel)) (fun _ h9 => h9) rfl dX5_logs_224 ?_
              refine lv_iload hx hb dX5_logs_227 (lv_at hl 2 rfl) ?_
              refine lv_bipush (v := 8) hx hb dX5_logs_229 (by decide) ?_
              refine lv_iadd hx hb dX5_logs_231 ?_
              refine x_eqi (show nI (442 + 17 * kn) + 8 = nI ((442 + 17 * kn) + 8) from nI_add (442 + 17 * kn) 8) ?_
              refine lv_iload hx hb dX5_logs_232 (lv_at hl 3 rfl) ?_
              refine lv_iadd hx hb dX5_logs_234 ?_
              refine x_eqi (show nI ((442 + 17 * kn) + 8) + nI t = nI (((442 + 17 * kn) + 8) + t) from nI_add ((442 + 17 * kn) + 8) t) ?_
              refine lv_aload_n hx hb dX5_logs_235 rfl (lv_at hl 1 rfl) ?_
              refine va_get (v := .ref mc) (D := D) (ci := 5) (C := RX5) (T := TX5) (N := 14) hx hb hts (by decide +kernel) hown hK hP 0 rfl rfl 8 (by decide) (hts (.fieldLink RX5 28 "SpiralFramesModel" "codes" "[I") (by decide +kernel)) (fun _ h9 => h9) rfl dX5_logs_236 ?_
              refine lv_iload hx hb dX5_logs_239 (lv_at hl 3 rfl) ?_
              refine x_iald hx hb hK hP 2 0 rfl rfl (k := t) (by omega) (by decide) dX5_logs_241 ?_
              refine x_eqi (show cq t = nI (cd t) from hh0 t (by omega)) ?_
              refine x_iastE hx hb hK hP hD hS 1 0 rfl rfl (k := ((442 + 17 * kn) + 8) + t) (g := mkM D1 S1 R1 N1 (nI kn) (upd (upd g (17 * kn + 4 + 2) ((g (17 * kn + 4 + 2)) + 1)) (17 * kn + 8 + t) (nI (cd t)))) (upM_L (j := (17 * kn + 8 + t)) (by omega) (by omega)) (by omega) (by decide) dX5_logs_242 (fun H locs hP hD hS => ?_)
              have hP : va_P D vwCl [(mm, .inr (5, [.ref mn, .ref mh, .int kp, .ref ms, .int fl, .ref mr, .ref md, .ref mo, .ref mc, .int ty, .ref mt, .int at9, .int nu, .ref mq])), (mn, .inl (cI, 578, .inl (mkM D1 S1 R1 N1 (nI kn) (upd (upd g (17 * kn + 4 + 2) ((g (17 * kn + 4 + 2)) + 1)) (17 * kn + 8 + t) (nI (cd t)))))), (mc, .inl (cI, 9, .inl (cq)))] H := hP
              have hD : va_D (Ar) [(mm, .inr (5, [.ref mn, .ref mh, .int kp, .ref ms, .int fl, .ref mr, .ref md, .ref mo, .ref mc, .int ty, .ref mt, .int at9, .int nu, .ref mq])), (mn, .inl (cI, 578, .inl (mkM D1 S1 R1 N1 (nI kn) (upd (upd g (17 * kn + 4 + 2) ((g (17 * kn + 4 + 2)) + 1)) (17 * kn + 8 + t) (nI (cd t)))))), (mc, .inl (cI, 9, .inl (cq)))] := hD
              refine lv_iinc (v := nI (t + 1)) (lv' := [(6, .int (nI (t + 1))), (7, .int 2), (0, .ref mm), (5, .int (nI (442 + 17 * kn)))]) hx hb dX5_logs_243 hl (k := 3) rfl (nI_add _ _) (by decide) rfl (fun ls hl => ?_)
              refine lv_goto (tgt := 167) hx hb dX5_logs_246 (by decide) ?_
              exact ih167 (t + 1) (upd (upd g (17 * kn + 4 + 2) ((g (17 * kn + 4 + 2)) + 1)) (17 * kn + 8 + t) (nI (cd t))) (by first | omega | assumption | rfl) (by rw [hi167_1]; first | exact lgX_s (kind := 0) (by omega) (by unfold kdN; rw [if_pos (by omega)]) (congrArg (fun z => z + 1) (lgX_k (by omega))) rfl | exact lgX_s (kind := 1) (by omega) (by unfold kdN; rw [if_neg (by omega), if_neg (by omega)]) (congrArg (fun z => z + 1) (lgX_k (by omega))) rfl | exact lgX_s (kind := 2) (by omega) (by unfold kdN; rw [if_neg (by omega), if_pos (by omega)]) (congrArg (fun z => z + 1) (lgX_k (by omega))) rfl) (by omega) H locs (hP.sub [0, 1, 2] rfl) (hD.sub [0, 1, 2] (by decide) rfl) hS ls (lv_sub hl [2, 3, 0] rfl)
          · skip
            refine lv_iconst (v := 0) hx hb dX5_logs_184 (by decide) ?_
            refine lv_goto (tgt := 205) hx hb dX5_logs_185 (by decide) ?_
            refine lv_istore (lv' := [(7, .int 0), (0, .ref mm), (5, .int (nI (442 + 17 * kn))), (6, .int (nI t))]) hx hb dX5_logs_205 hl (by decide) rfl (fun ls hl => ?_)
            refine lv_aload_n hx hb dX5_logs_207 rfl (lv_at hl 1 rfl) ?_
            refine va_get (v := .ref mn) (D := D) (ci := 5) (C := RX5) (T := TX5) (N := 14) hx hb hts (by decide +kernel) hown hK hP 0 rfl rfl 0 (by decide) (hts (.fieldLink RX5 7 "SpiralFramesModel" "now" "[I") (by decide +kernel)) (fun _ h9 => h9) rfl dX5_logs_208 ?_
            refine lv_iload hx hb dX5_logs_211 (lv_at hl 2 rfl) ?_
            refine lv_iconst (v := 4) hx hb dX5_logs_213 (by decide) ?_
            refine lv_iadd hx hb dX5_logs_214 ?_
            refine x_eqi (show nI (442 + 17 * kn) + 4 = nI ((442 + 17 * kn) + 4) from nI_add (442 + 17 * kn) 4) ?_
            refine lv_iload hx hb dX5_logs_215 (lv_at hl 0 rfl) ?_
            refine lv_iadd hx hb dX5_logs_217 ?_
            refine x_eqi (show nI ((442 + 17 * kn) + 4) + 0 = nI (((442 + 17 * kn) + 4) + 0) from nI_add ((442 + 17 * kn) + 4) 0) ?_
            refine lv_dup2_11 hx hb dX5_logs_218 rfl rfl ?_
            refine x_iald hx hb hK hP 1 0 rfl rfl (k := ((442 + 17 * kn) + 4) + 0) (by omega) (by decide) dX5_logs_219 ?_
            refine x_eqi (show (mkM D1 S1 R1 N1 (nI kn) g) (((442 + 17 * kn) + 4) + 0) = g (17 * kn + 4 + 0) from (mkM_L (j := (17 * kn + 4 + 0)) (by omega) (by omega))) ?_
            refine lv_iconst (v := 1) hx hb dX5_logs_220 (by decide) ?_
            refine lv_iadd hx hb dX5_logs_221 ?_
            refine x_iastE hx hb hK hP hD hS 1 0 rfl rfl (k := ((442 + 17 * kn) + 4) + 0) (g := mkM D1 S1 R1 N1 (nI kn) (upd g (17 * kn + 4 + 0) ((g (17 * kn + 4 + 0)) + 1))) (upM_L (j := (17 * kn + 4 + 0)) (by omega) (by omega)) (by omega) (by decide) dX5_logs_222 (fun H locs hP hD hS => ?_)
            have hP : va_P D vwCl [(mm, .inr (5, [.ref mn, .ref mh, .int kp, .ref ms, .int fl, .ref mr, .ref md, .ref mo, .ref mc, .int ty, .ref mt, .int at9, .int nu, .ref mq])), (mn, .inl (cI, 578, .inl (mkM D1 S1 R1 N1 (nI kn) (upd g (17 * kn + 4 + 0) ((g (17 * kn + 4 + 0)) + 1))))), (mc, .inl (cI, 9, .inl (cq)))] H := hP
            have hD : va_D (Ar) [(mm, .inr (5, [.ref mn, .ref mh, .int kp, .ref ms, .int fl, .ref mr, .ref md, .ref mo, .ref mc, .int ty, .ref mt, .int at9, .int nu, .ref mq])), (mn, .inl (cI, 578, .inl (mkM D1 S1 R1 N1 (nI kn) (upd g (17 * kn + 4 + 0) ((g (17 * kn + 4 + 0)) + 1))))), (mc, .inl (cI, 9, .inl (cq)))] := hD
            refine lv_aload_n hx hb dX5_logs_223 rfl (lv_at hl 1 rfl) ?_
            refine va_get (v := .ref mn) (D := D) (ci := 5) (C := RX5) (T := TX5) (N := 14) hx hb hts (by decide +kernel) hown hK hP 0 rfl rfl 0 (by decide) (hts (.fieldLink RX5 7 "SpiralFramesModel" "now" "[I") (by decide +kernel)) (fun _ h9 => h9) rfl dX5_logs_224 ?_
            refine lv_iload hx hb dX5_logs_227 (lv_at hl 2 rfl) ?_
            refine lv_bipush (v := 8) hx hb dX5_logs_229 (by decide) ?_
            refine lv_iadd hx hb dX5_logs_231 ?_
            refine x_eqi (show nI (442 + 17 * kn) + 8 = nI ((442 + 17 * kn) + 8) from nI_add (442 + 17 * kn) 8) ?_
            refine lv_iload hx hb dX5_logs_232 (lv_at hl 3 rfl) ?_
            refine lv_iadd hx hb dX5_logs_234 ?_
            refine x_eqi (show nI ((442 + 17 * kn) + 8) + nI t = nI (((442 + 17 * kn) + 8) + t) from nI_add ((442 + 17 * kn) + 8) t) ?_
            refine lv_aload_n hx hb dX5_logs_235 rfl (lv_at hl 1 rfl) ?_
            refine va_get (v := .ref mc) (D := D) (ci := 5) (C := RX5) (T := TX5) (N := 14) hx hb hts (by decide +kernel) hown hK hP 0 rfl rfl 8 (by decide) (hts (.fieldLink RX5 28 "SpiralFramesModel" "codes" "[I") (by decide +kernel)) (fun _ h9 => h9) rfl dX5_logs_236 ?_
            refine lv_iload hx hb dX5_logs_239 (lv_at hl 3 rfl) ?_
            refine x_iald hx hb hK hP 2 0 rfl rfl (k := t) (by omega) (by decide) dX5_logs_241 ?_
            refine x_eqi (show cq t = nI (cd t) from hh0 t (by omega)) ?_
            refine x_iastE hx hb hK hP hD hS 1 0 rfl rfl (k := ((442 + 17 * kn) + 8) + t) (g := mkM D1 S1 R1 N1 (nI kn) (upd (upd g (17 * kn + 4 + 0) ((g (17 * kn + 4 + 0)) + 1)) (17 * kn + 8 + t) (nI (cd t)))) (upM_L (j := (17 * kn + 8 + t)) (by omega) (by omega)) (by omega) (by decide) dX5_logs_242 (fun H locs hP hD hS => ?_)
            have hP : va_P D vwCl [(mm, .inr (5, [.ref mn, .ref mh, .int kp, .ref ms, .int fl, .ref mr, .ref md, .ref mo, .ref mc, .int ty, .ref mt, .int at9, .int nu, .ref mq])), (mn, .inl (cI, 578, .inl (mkM D1 S1 R1 N1 (nI kn) (upd (upd g (17 * kn + 4 + 0) ((g (17 * kn + 4 + 0)) + 1)) (17 * kn + 8 + t) (nI (cd t)))))), (mc, .inl (cI, 9, .inl (cq)))] H := hP
            have hD : va_D (Ar) [(mm, .inr (5, [.ref mn, .ref mh, .int kp, .ref ms, .int fl, .ref mr, .ref md, .ref mo, .ref mc, .int ty, .ref mt, .int at9, .int nu, .ref mq])), (mn, .inl (cI, 578, .inl (mkM D1 S1 R1 N1 (nI kn) (upd (upd g (17 * kn + 4 + 0) ((g (17 * kn + 4 + 0)) + 1)) (17 * kn + 8 + t) (nI (cd t)))))), (mc, .inl (cI, 9, .inl (cq)))] := hD
            refine lv_iinc (v := nI (t + 1)) (lv' := [(6, .int (nI (t + 1))), (7, .int 0), (0, .ref mm), (5, .int (nI (442 + 17 * kn)))]) hx hb dX5_logs_243 hl (k := 3) rfl (nI_add _ _) (by decide) rfl (fun ls hl => ?_)
            refine lv_goto (tgt := 167) hx hb dX5_logs_246 (by decide) ?_
            exact ih167 (t + 1) (upd (upd g (17 * kn + 4 + 0) ((g (17 * kn + 4 + 0)) + 1)) (17 * kn + 8 + t) (nI (cd t))) (by first | omega | assumption | rfl) (by rw [hi167_1]; first | exact lgX_s (kind := 0) (by omega) (by unfold kdN; rw [if_pos (by omega)]) (congrArg (fun z => z + 1) (lgX_k (by omega))) rfl | exact lgX_s (kind := 1) (by omega) (by unfold kdN; rw [if_neg (by omega), if_neg (by omega)]) (congrArg (fun z => z + 1) (lgX_k (by omega))) rfl | exact lgX_s (kind := 2) (by omega) (by unfold kdN; rw [if_neg (by omega), if_pos (by omega)]) (congrArg (fun z => z + 1) (lgX_k (by omega))) rfl) (by omega) H locs (hP.sub [0, 1, 2] rfl) (hD.sub [0, 1, 2] (by decide) rfl) hS ls (lv_sub hl [2, 3, 0] rfl)
    exact L167 _ 0 (upd (upd (upd (upd (upd (upd (upd L1 (17 * kn) bt) (17 * kn + 1) tol) (17 * kn + 2) 0) (17 * kn + 3) 1) (17 * kn + 4) 0) (17 * kn + 5) 0) (17 * kn + 6) 0) (by first | omega | assumption | rfl) lgX_0 (Nat.lt_succ_self _) H locs (hP.sub [0, 1, 2] rfl) (hD.sub [0, 1, 2] (by decide) rfl) hS ls (lv_sub hl [2, 1, 0] rfl)
set_option maxHeartbeats 4000000 in
set_option maxRecDepth 100000 in
theorem c_X5_logs_10 (l : Launch) (D : va_G) (cI cC cS : ClassId) (tt : Nat → Nat) (sz : Nat) (mm : Nat) (mn : Nat) (mh : Nat) (ms : Nat) (mr : Nat) (md : Nat) (mo : Nat) (mc : Nat) (mt : Nat) (mq : Nat) (kp : Int32) (fl : Int32) (ty : Int32) (at9 : Int32) (nu : Int32) (D1 : Nat → Int32) (S1 : Nat → Int32) (R1 : Nat → Int32) (N1 : Nat → Int32) (L1 : Nat → Int32) (kn : Nat) (cq : Nat → Int32) (cd : Nat → Nat) (bt : Int32) (tol : Int32) (hh0 : ∀ t9, t9 < 9 → cq t9 = nI (cd t9)) (hh1 : ∀ t9, cd t9 ≤ 25) (hh2 : kn ≤ 8) : Met l yX5_logs wsX5_logs ({ frames := 4, cells := 0, slots := 0, locals := 98 } : Room) (x_PW D cI cC cS tt [(mm, .inr (5, [.ref mn, .ref mh, .int kp, .ref ms, .int fl, .ref mr, .ref md, .ref mo, .ref mc, .int ty, .ref mt, .int at9, .int nu, .ref mq])), (mn, .inl (cI, 578, .inl (mkM D1 S1 R1 N1 (nI kn) L1))), (mc, .inl (cI, 9, .inl (cq)))] sz [.ref mm, .int bt, .int tol, .int 1, .int 0]) (x_QWv D [(mm, .inr (5, [.ref mn, .ref mh, .int kp, .ref ms, .int fl, .ref mr, .ref md, .ref mo, .ref mc, .int ty, .ref mt, .int at9, .int nu, .ref mq])), (mn, .inl (cI, 578, .inl (mkM D1 S1 R1 N1 (nI kn) L1))), (mc, .inl (cI, 9, .inl (cq)))] sz (fun (w : va_W) => w = [(mm, .inr (5, [.ref mn, .ref mh, .int kp, .ref ms, .int fl, .ref mr, .ref md, .ref mo, .ref mc, .int ty, .ref mt, .int at9, .int nu, .ref mq])), (mn, .inl (cI, 578, .inl (mkM D1 S1 R1 N1 (nI (min (kn + 1) 8)) (lgM L1 kn (lgR bt tol 1 0 cd (wdS D1 S1)))))), (mc, .inl (cI, 9, .inl (cq)))])) 0 0 (va_A [(mm, .inr (5, [.ref mn, .ref mh, .int kp, .ref ms, .int fl, .ref mr, .ref md, .ref mo, .ref mc, .int ty, .ref mt, .int at9, .int nu, .ref mq])), (mn, .inl (cI, 578, .inl (mkM D1 S1 R1 N1 (nI kn) L1))), (mc, .inl (cI, 9, .inl (cq)))] sz) := by
  refine Met.ofW (cc := cX5_logs) (maxL := 8) (ret := none) (by decide) rfl ?_
  intro p e s m args below meth c s₁ hBd hml hv
  obtain ⟨rfl, hsz, hP, hK, hD0, hE0⟩ := hv
  have hx := hBd.exec
  have hb := hBd.bytes
  have hr := hBd.returns
  have hts := atoms_spec (ws := wsX5_logs) hBd.pre
  have hown : s.vm.findClass RX5 = some m.cls := findClass_of_methodNamed hBd.named
  have hlocks := hBd.notSynchronized
  subst hsz
  obtain ⟨Ar, hAe⟩ : ∃ Ar : Nat → Prop, Ar = va_A [(mm, .inr (5, [.ref mn, .ref mh, .int kp, .ref ms, .int fl, .ref mr, .ref md, .ref mo, .ref mc, .int ty, .ref mt, .int at9, .int nu, .ref mq])), (mn, .inl (cI, 578, .inl (mkM D1 S1 R1 N1 (nI kn) L1))), (mc, .inl (cI, 9, .inl (cq)))] s.heap.size := ⟨_, rfl⟩
  have hD : va_D Ar [(mm, .inr (5, [.ref mn, .ref mh, .int kp, .ref ms, .int fl, .ref mr, .ref md, .ref mo, .ref mc, .int ty, .ref mt, .int at9, .int nu, .ref mq])), (mn, .inl (cI, 578, .inl (mkM D1 S1 R1 N1 (nI kn) L1))), (mc, .inl (cI, 9, .inl (cq)))] := by rw [hAe]; exact hD0.self
  have hA : ∀ q : Nat, s.heap.size ≤ q → Ar q := fun q h => by rw [hAe]; exact Or.inr h
  have hE : x_E tt Ar s := by rw [hAe]; exact hE0
  have hS : va_S Ar s.heap s.heap [] := va_S.rf
  have hl := lv_entry ([.ref mm, .int bt, .int tol, .int 1, .int 0]) (n := 8) (Nat.le_of_ble_eq_true rfl)
  rw [lg_entry_eq]
  generalize (lg_sl ([.ref mm, .int bt, .int tol, .int 1, .int 0]) ++ List.replicate (8 - (lg_sl ([.ref mm, .int bt, .int tol, .int 1, .int 0])).length) Slot.unset).toArray = ls at hl ⊢
  have hl : lv_has ls 8 [(0, .ref mm), (1, .int bt), (2, .int tol), (3, .int 1), (4, .int 0)] := hl
  refine x_genQ (fun Q hQ => ?_)
  rcases (show kn = 8 ∨ kn < 8 by omega) with hk8 | hk8
  · skip
    subst hk8
    refine lv_aload_n hx hb dX5_logs_0 rfl (lv_at hl 0 rfl) ?_
    refine va_get (v := .ref mn) (D := D) (ci := 5) (C := RX5) (T := TX5) (N := 14) hx hb hts (by decide +kernel) hown hK hP 0 rfl rfl 0 (by decide) (hts (.fieldLink RX5 7 "SpiralFramesModel" "now" "[I") (by decide +kernel)) (fun _ h9 => h9) rfl dX5_logs_1 ?_
    refine lv_sipush (v := 441) hx hb dX5_logs_4 (by decide) ?_
    refine x_eqi (show (441 : Int32) = nI 441 from by decide) ?_
    refine x_iald hx hb hK hP 1 0 rfl rfl (k := 441) (by omega) (by decide) dX5_logs_7 ?_
    refine x_eqi (show (mkM D1 S1 R1 N1 (nI 8) L1) 441 = (nI 8) from (mkM_K (by omega))) ?_
    refine lv_bipush (v := 8) hx hb dX5_logs_8 (by decide) ?_
    refine x_icmp_ne (tgt := 61) hx hb dX5_logs_10 (by decide) (X := ((8 : Nat) : Int)) (nI_toI (by omega)) (Y := 8) (show (8 : Int32).toInt = 8 from by decide) (fun h => False.elim (by omega)) (fun _ => ?_)
    refine lv_sipush (v := 442) hx hb dX5_logs_13 (by decide) ?_
    refine lv_istore (lv' := [(5, .int 442), (0, .ref mm), (1, .int bt), (2, .int tol), (3, .int 1), (4, .int 0)]) hx hb dX5_logs_16 hl (by decide) rfl (fun ls hl => ?_)
    have L18 : ∀ (fuel : Nat) (j : Nat) (f : Nat → Int32), (442 ≤ j) → (j ≤ 561) → (f = shL L1 (j - 442)) → 561 - j < fuel → ∀ (H : Heap) (locs : List Loc), va_P D vwCl [(mm, .inr (5, [.ref mn, .ref mh, .int kp, .ref ms, .int fl, .ref mr, .ref md, .ref mo, .ref mc, .int ty, .ref mt, .int at9, .int nu, .ref mq])), (mn, .inl (cI, 578, .inl (mkM D1 S1 R1 N1 (nI 8) f))), (mc, .inl (cI, 9, .inl (cq)))] H → va_D (Ar) [(mm, .inr (5, [.ref mn, .ref mh, .int kp, .ref ms, .int fl, .ref mr, .ref md, .ref mo, .ref mc, .int ty, .ref mt, .int at9, .int nu, .ref mq])), (mn, .inl (cI, 578, .inl (mkM D1 S1 R1 N1 (nI 8) f))), (mc, .inl (cI, 9, .inl (cq)))] → va_S (Ar) s.heap H locs → ∀ (ls : Array Slot), lv_has ls 8 [(0, .ref mm), (1, .int bt), (2, .int tol), (3, .int 1), (4, .int 0), (5, .int (nI j))] → W p l e (headSpec wsX5_logs ({ frames := 4, cells := 0, slots := 0, locals := 98 } : Room)).room s m ([.ref mm, .int bt, .int tol, .int 1, .int 0] : List Value).toArray below meth c H locs 0 0 Q (F0 m 18 ls []) := by
      intro fuel
      induction fuel with
      | zero =>
        intro j f hi18_0 hi18_1 hi18_2 hfu
        exact absurd hfu (Nat.not_lt_zero _)
      | succ fuel ih18 =>
        intro j f hi18_0 hi18_1 hi18_2 hfu18 H locs hP hD hS ls hl
        refine lv_iload hx hb dX5_logs_18 (lv_at hl 5 rfl) ?_
        refine lv_sipush (v := 561) hx hb dX5_logs_20 (by decide) ?_
        refine x_icmp_ge (tgt := 49) hx hb dX5_logs_23 (by decide) (X := ((j : Nat) : Int)) (nI_toI (by omega)) (Y := 561) (show (561 : Int32).toInt = 561 from by decide) (fun c_23 => ?_) (fun c_23 => ?_)
        · skip
          refine lv_aload_n hx hb dX5_logs_49 rfl (lv_at hl 0 rfl) ?_
          refine va_get (v := .ref mn) (D := D) (ci := 5) (C := RX5) (T := TX5) (N := 14) hx hb hts (by decide +kernel) hown hK hP 0 rfl rfl 0 (by decide) (hts (.fieldLink RX5 7 "SpiralFramesModel" "now" "[I") (by decide +kernel)) (fun _ h9 => h9) rfl dX5_logs_50 ?_
          refine lv_sipush (v := 441) hx hb dX5_logs_53 (by decide) ?_
          refine lv_dup2_11 hx hb dX5_logs_56 rfl rfl ?_
          refine x_eqi (show (441 : Int32) = nI 441 from by decide) ?_
          refine x_iald hx hb hK hP 1 0 rfl rfl (k := 441) (by omega) (by decide) dX5_logs_57 ?_
          refine x_eqi (show (mkM D1 S1 R1 N1 (nI 8) f) 441 = (nI 8) from (mkM_K (by omega))) ?_
          refine lv_iconst (v := 1) hx hb dX5_logs_58 (by decide) ?_
          refine lv_isub hx hb dX5_logs_59 ?_
          refine x_eqi (show (nI 8) - 1 = nI (7) from x_eqN (x_subI (nI_toI (by omega)) (show (1 : Int32).toInt = 1 from by decide) (by omega) (by omega)) (by omega)) ?_
          refine x_eqi2 (show (441 : Int32) = nI 441 from by decide) ?_
          refine x_iastE hx hb hK hP hD hS 1 0 rfl rfl (k := 441) (g := mkM D1 S1 R1 N1 (nI 7) f) (upM_K (by omega)) (by omega) (by decide) dX5_logs_60 (fun H locs hP hD hS => ?_)
          have hP : va_P D vwCl [(mm, .inr (5, [.ref mn, .ref mh, .int kp, .ref ms, .int fl, .ref mr, .ref md, .ref mo, .ref mc, .int ty, .ref mt, .int at9, .int nu, .ref mq])), (mn, .inl (cI, 578, .inl (mkM D1 S1 R1 N1 (nI 7) f))), (mc, .inl (cI, 9, .inl (cq)))] H := hP
          have hD : va_D (Ar) [(mm, .inr (5, [.ref mn, .ref mh, .int kp, .ref ms, .int fl, .ref mr, .ref md, .ref mo, .ref mc, .int ty, .ref mt, .int at9, .int nu, .ref mq])), (mn, .inl (cI, 578, .inl (mkM D1 S1 R1 N1 (nI 7) f))), (mc, .inl (cI, 9, .inl (cq)))] := hD
          refine lv_sipush (v := 442) hx hb dX5_logs_61 (by decide) ?_
          refine lv_bipush (v := 17) hx hb dX5_logs_64 (by decide) ?_
          refine lv_aload_n hx hb dX5_logs_66 rfl (lv_at hl 0 rfl) ?_
          refine va_get (v := .ref mn) (D := D) (ci := 5) (C := RX5) (T := TX5) (N := 14) hx hb hts (by decide +kernel) hown hK hP 0 rfl rfl 0 (by decide) (hts (.fieldLink RX5 7 "SpiralFramesModel" "now" "[I") (by decide +kernel)) (fun _ h9 => h9) rfl dX5_logs_67 ?_
          refine lv_sipush (v := 441) hx hb dX5_logs_70 (by decide) ?_
          refine x_eqi (show (441 : Int32) = nI 441 from by decide) ?_
          refine x_iald hx hb hK hP 1 0 rfl rfl (k := 441) (by omega) (by decide) dX5_logs_73 ?_
          refine x_eqi (show (mkM D1 S1 R1 N1 (nI 7) f) 441 = (nI 7) from (mkM_K (by omega))) ?_
          refine lv_imul hx hb dX5_logs_74 ?_
          refine x_eqi (show 17 * nI 7 = nI (17 * 7) from pk_mul 17 7) ?_
          refine lv_iadd hx hb dX5_logs_75 ?_
          refine x_eqi (show 442 + nI (17 * 7) = nI (442 + (17 * 7)) from nI_add 442 (17 * 7)) ?_
          refine lv_istore (lv' := [(5, .int (nI (442 + (17 * 7)))), (0, .ref mm), (1, .int bt), (2, .int tol), (3, .int 1), (4, .int 0)]) hx hb dX5_logs_76 hl (by decide) rfl (fun ls hl => ?_)
          refine lv_aload_n hx hb dX5_logs_78 rfl (lv_at hl 1 rfl) ?_
          refine va_get (v := .ref mn) (D := D) (ci := 5) (C := RX5) (T := TX5) (N := 14) hx hb hts (by decide +kernel) hown hK hP 0 rfl rfl 0 (by decide) (hts (.fieldLink RX5 7 "SpiralFramesModel" "now" "[I") (by decide +kernel)) (fun _ h9 => h9) rfl dX5_logs_79 ?_
          refine lv_iload hx hb dX5_logs_82 (lv_at hl 0 rfl) ?_
          refine lv_iload_n hx hb dX5_logs_84 rfl (lv_at hl 2 rfl) ?_
          refine x_iastE hx hb hK hP hD hS 1 0 rfl rfl (k := 442 + (17 * 7)) (g := mkM D1 S1 R1 N1 (nI 7) (upd f (17 * 7) bt)) (upM_L (j := (17 * 7)) (by omega) (by omega)) (by omega) (by decide) dX5_logs_85 (fun H locs hP hD hS => ?_)
          have hP : va_P D vwCl [(mm, .inr (5, [.ref mn, .ref mh, .int kp, .ref ms, .int fl, .ref mr, .ref md, .ref mo, .ref mc, .int ty, .ref mt, .int at9, .int nu, .ref mq])), (mn, .inl (cI, 578, .inl (mkM D1 S1 R1 N1 (nI 7) (upd f (17 * 7) bt)))), (mc, .inl (cI, 9, .inl (cq)))] H := hP
          have hD : va_D (Ar) [(mm, .inr (5, [.ref mn, .ref mh, .int kp, .ref ms, .int fl, .ref mr, .ref md, .ref mo, .ref mc, .int ty, .ref mt, .int at9, .int nu, .ref mq])), (mn, .inl (cI, 578, .inl (mkM D1 S1 R1 N1 (nI 7) (upd f (17 * 7) bt)))), (mc, .inl (cI, 9, .inl (cq)))] := hD
          refine lv_aload_n hx hb dX5_logs_86 rfl (lv_at hl 1 rfl) ?_
          refine va_get (v := .ref mn) (D := D) (ci := 5) (C := RX5) (T := TX5) (N := 14) hx hb hts (by decide +kernel) hown hK hP 0 rfl rfl 0 (by decide) (hts (.fieldLink RX5 7 "SpiralFramesModel" "now" "[I") (by decide +kernel)) (fun _ h9 => h9) rfl dX5_logs_87 ?_
          refine lv_iload hx hb dX5_logs_90 (lv_at hl 0 rfl) ?_
          refine lv_iconst (v := 1) hx hb dX5_logs_92 (by decide) ?_
          refine lv_iadd hx hb dX5_logs_93 ?_
          refine x_eqi (show nI (442 + (17 * 7)) + 1 = nI ((442 + (17 * 7)) + 1) from nI_add (442 + (17 * 7)) 1) ?_
          refine lv_iload_n hx hb dX5_logs_94 rfl (lv_at hl 3 rfl) ?_
          refine x_iastE hx hb hK hP hD hS 1 0 rfl rfl (k := (442 + (17 * 7)) + 1) (g := mkM D1 S1 R1 N1 (nI 7) (upd (upd f (17 * 7) bt) (17 * 7 + 1) tol)) (upM_L (j := (17 * 7 + 1)) (by omega) (by omega)) (by omega) (by decide) dX5_logs_95 (fun H locs hP hD hS => ?_)
          have hP : va_P D vwCl [(mm, .inr (5, [.ref mn, .ref mh, .int kp, .ref ms, .int fl, .ref mr, .ref md, .ref mo, .ref mc, .int ty, .ref mt, .int at9, .int nu, .ref mq])), (mn, .inl (cI, 578, .inl (mkM D1 S1 R1 N1 (nI 7) (upd (upd f (17 * 7) bt) (17 * 7 + 1) tol)))), (mc, .inl (cI, 9, .inl (cq)))] H := hP
          have hD : va_D (Ar) [(mm, .inr (5, [.ref mn, .ref mh, .int kp, .ref ms, .int fl, .ref mr, .ref md, .ref mo, .ref mc, .int ty, .ref mt, .int at9, .int nu, .ref mq])), (mn, .inl (cI, 578, .inl (mkM D1 S1 R1 N1 (nI 7) (upd (upd f (17 * 7) bt) (17 * 7 + 1) tol)))), (mc, .inl (cI, 9, .inl (cq)))] := hD
          refine lv_aload_n hx hb dX5_logs_96 rfl (lv_at hl 1 rfl) ?_
          refine va_get (v := .ref mn) (D := D) (ci := 5) (C := RX5) (T := TX5) (N := 14) hx hb hts (by decide +kernel) hown hK hP 0 rfl rfl 0 (by decide) (hts (.fieldLink RX5 7 "SpiralFramesModel" "now" "[I") (by decide +kernel)) (fun _ h9 => h9) rfl dX5_logs_97 ?_
          refine lv_iload hx hb dX5_logs_100 (lv_at hl 0 rfl) ?_
          refine lv_iconst (v := 2) hx hb dX5_logs_102 (by decide) ?_
          refine lv_iadd hx hb dX5_logs_103 ?_
          refine x_eqi (show nI (442 + (17 * 7)) + 2 = nI ((442 + (17 * 7)) + 2) from nI_add (442 + (17 * 7)) 2) ?_
          refine lv_iload_n hx hb dX5_logs_104 rfl (lv_at hl 4 rfl) ?_
          refine lv_if_eq (tgt := 112) hx hb dX5_logs_105 (by decide) (fun h => False.elim (by revert h; decide)) (fun _ => ?_)
          refine lv_iconst (v := 1) hx hb dX5_logs_108 (by decide) ?_
          refine lv_goto (tgt := 113) hx hb dX5_logs_109 (by decide) ?_
          refine x_iastE hx hb hK hP hD hS 1 0 rfl rfl (k := (442 + (17 * 7)) + 2) (g := mkM D1 S1 R1 N1 (nI 7) (upd (upd (upd f (17 * 7) bt) (17 * 7 + 1) tol) (17 * 7 + 2) 1)) (upM_L (j := (17 * 7 + 2)) (by omega) (by omega)) (by omega) (by decide) dX5_logs_113 (fun H locs hP hD hS => ?_)
          have hP : va_P D vwCl [(mm, .inr (5, [.ref mn, .ref mh, .int kp, .ref ms, .int fl, .ref mr, .ref md, .ref mo, .ref mc, .int ty, .ref mt, .int at9, .int nu, .ref mq])), (mn, .inl (cI, 578, .inl (mkM D1 S1 R1 N1 (nI 7) (upd (upd (upd f (17 * 7) bt) (17 * 7 + 1) tol) (17 * 7 + 2) 1)))), (mc, .inl (cI, 9, .inl (cq)))] H := hP
          have hD : va_D (Ar) [(mm, .inr (5, [.ref mn, .ref mh, .int kp, .ref ms, .int fl, .ref mr, .ref md, .ref mo, .ref mc, .int ty, .ref mt, .int at9, .int nu, .ref mq])), (mn, .inl (cI, 578, .inl (mkM D1 S1 R1 N1 (nI 7) (upd (upd (upd f (17 * 7) bt) (17 * 7 + 1) tol) (17 * 7 + 2) 1)))), (mc, .inl (cI, 9, .inl (cq)))] := hD
          refine lv_aload_n hx hb dX5_logs_114 rfl (lv_at hl 1 rfl) ?_
          refine va_get (v := .ref mn) (D := D) (ci := 5) (C := RX5) (T := TX5) (N := 14) hx hb hts (by decide +kernel) hown hK hP 0 rfl rfl 0 (by decide) (hts (.fieldLink RX5 7 "SpiralFramesModel" "now" "[I") (by decide +kernel)) (fun _ h9 => h9) rfl dX5_logs_115 ?_
          refine lv_iload hx hb dX5_logs_118 (lv_at hl 0 rfl) ?_
          refine lv_iconst (v := 3) hx hb dX5_logs_120 (by decide) ?_
          refine lv_iadd hx hb dX5_logs_121 ?_
          refine x_eqi (show nI (442 + (17 * 7)) + 3 = nI ((442 + (17 * 7)) + 3) from nI_add (442 + (17 * 7)) 3) ?_
          refine lv_iload hx hb dX5_logs_122 (lv_at hl 5 rfl) ?_
          refine lv_if_eq (tgt := 131) hx hb dX5_logs_124 (by decide) (fun _ => ?_) (fun h => False.elim (by revert h; decide))
          refine lv_iconst (v := 0) hx hb dX5_logs_131 (by decide) ?_
          refine x_iastE hx hb hK hP hD hS 1 0 rfl rfl (k := (442 + (17 * 7)) + 3) (g := mkM D1 S1 R1 N1 (nI 7) (upd (upd (upd (upd f (17 * 7) bt) (17 * 7 + 1) tol) (17 * 7 + 2) 1) (17 * 7 + 3) 0)) (upM_L (j := (17 * 7 + 3)) (by omega) (by omega)) (by omega) (by decide) dX5_logs_132 (fun H locs hP hD hS => ?_)
          have hP : va_P D vwCl [(mm, .inr (5, [.ref mn, .ref mh, .int kp, .ref ms, .int fl, .ref mr, .ref md, .ref mo, .ref mc, .int ty, .ref mt, .int at9, .int nu, .ref mq])), (mn, .inl (cI, 578, .inl (mkM D1 S1 R1 N1 (nI 7) (upd (upd (upd (upd f (17 * 7) bt) (17 * 7 + 1) tol) (17 * 7 + 2) 1) (17 * 7 + 3) 0)))), (mc, .inl (cI, 9, .inl (cq)))] H := hP
          have hD : va_D (Ar) [(mm, .inr (5, [.ref mn, .ref mh, .int kp, .ref ms, .int fl, .ref mr, .ref md, .ref mo, .ref mc, .int ty, .ref mt, .int at9, .int nu, .ref mq])), (mn, .inl (cI, 578, .inl (mkM D1 S1 R1 N1 (nI 7) (upd (upd (upd (upd f (17 * 7) bt) (17 * 7 + 1) tol) (17 * 7 + 2) 1) (17 * 7 + 3) 0)))), (mc, .inl (cI, 9, .inl (cq)))] := hD
          refine lv_aload_n hx hb dX5_logs_133 rfl (lv_at hl 1 rfl) ?_
          refine va_get (v := .ref mn) (D := D) (ci := 5) (C := RX5) (T := TX5) (N := 14) hx hb hts (by decide +kernel) hown hK hP 0 rfl rfl 0 (by decide) (hts (.fieldLink RX5 7 "SpiralFramesModel" "now" "[I") (by decide +kernel)) (fun _ h9 => h9) rfl dX5_logs_134 ?_
          refine lv_iload hx hb dX5_logs_137 (lv_at hl 0 rfl) ?_
          refine lv_iconst (v := 4) hx hb dX5_logs_139 (by decide) ?_
          refine lv_iadd hx hb dX5_logs_140 ?_
          refine x_eqi (show nI (442 + (17 * 7)) + 4 = nI ((442 + (17 * 7)) + 4) from nI_add (442 + (17 * 7)) 4) ?_
          refine lv_iconst (v := 0) hx hb dX5_logs_141 (by decide) ?_
          refine x_iastE hx hb hK hP hD hS 1 0 rfl rfl (k := (442 + (17 * 7)) + 4) (g := mkM D1 S1 R1 N1 (nI 7) (upd (upd (upd (upd (upd f (17 * 7) bt) (17 * 7 + 1) tol) (17 * 7 + 2) 1) (17 * 7 + 3) 0) (17 * 7 + 4) 0)) (upM_L (j := (17 * 7 + 4)) (by omega) (by omega)) (by omega) (by decide) dX5_logs_142 (fun H locs hP hD hS => ?_)
          have hP : va_P D vwCl [(mm, .inr (5, [.ref mn, .ref mh, .int kp, .ref ms, .int fl, .ref mr, .ref md, .ref mo, .ref mc, .int ty, .ref mt, .int at9, .int nu, .ref mq])), (mn, .inl (cI, 578, .inl (mkM D1 S1 R1 N1 (nI 7) (upd (upd (upd (upd (upd f (17 * 7) bt) (17 * 7 + 1) tol) (17 * 7 + 2) 1) (17 * 7 + 3) 0) (17 * 7 + 4) 0)))), (mc, .inl (cI, 9, .inl (cq)))] H := hP
          have hD : va_D (Ar) [(mm, .inr (5, [.ref mn, .ref mh, .int kp, .ref ms, .int fl, .ref mr, .ref md, .ref mo, .ref mc, .int ty, .ref mt, .int at9, .int nu, .ref mq])), (mn, .inl (cI, 578, .inl (mkM D1 S1 R1 N1 (nI 7) (upd (upd (upd (upd (upd f (17 * 7) bt) (17 * 7 + 1) tol) (17 * 7 + 2) 1) (17 * 7 + 3) 0) (17 * 7 + 4) 0)))), (mc, .inl (cI, 9, .inl (cq)))] := hD
          refine lv_aload_n hx hb dX5_logs_143 rfl (lv_at hl 1 rfl) ?_
          refine va_get (v := .ref mn) (D := D) (ci := 5) (C := RX5) (T := TX5) (N := 14) hx hb hts (by decide +kernel) hown hK hP 0 rfl rfl 0 (by decide) (hts (.fieldLink RX5 7 "SpiralFramesModel" "now" "[I") (by decide +kernel)) (fun _ h9 => h9) rfl dX5_logs_144 ?_
          refine lv_iload hx hb dX5_logs_147 (lv_at hl 0 rfl) ?_
          refine lv_iconst (v := 5) hx hb dX5_logs_149 (by decide) ?_
          refine lv_iadd hx hb dX5_logs_150 ?_
          refine x_eqi (show nI (442 + (17 * 7)) + 5 = nI ((442 + (17 * 7)) + 5) from nI_add (442 + (17 * 7)) 5) ?_
          refine lv_iconst (v := 0) hx hb dX5_logs_151 (by decide) ?_
          refine x_iastE hx hb hK hP hD hS 1 0 rfl rfl (k := (442 + (17 * 7)) + 5) (g := mkM D1 S1 R1 N1 (nI 7) (upd (upd (upd (upd (upd (upd f (17 * 7) bt) (17 * 7 + 1) tol) (17 * 7 + 2) 1) (17 * 7 + 3) 0) (17 * 7 + 4) 0) (17 * 7 + 5) 0)) (upM_L (j := (17 * 7 + 5)) (by omega) (by omega)) (by omega) (by decide) dX5_logs_152 (fun H locs hP hD hS => ?_)
          have hP : va_P D vwCl [(mm, .inr (5, [.ref mn, .ref mh, .int kp, .ref ms, .int fl, .ref mr, .ref md, .ref mo, .ref mc, .int ty, .ref mt, .int at9, .int nu, .ref mq])), (mn, .inl (cI, 578, .inl (mkM D1 S1 R1 N1 (nI 7) (upd (upd (upd (upd (upd (upd f (17 * 7) bt) (17 * 7 + 1) tol) (17 * 7 + 2) 1) (17 * 7 + 3) 0) (17 * 7 + 4) 0) (17 * 7 + 5) 0)))), (mc, .inl (cI, 9, .inl (cq)))] H := hP
          have hD : va_D (Ar) [(mm, .inr (5, [.ref mn, .ref mh, .int kp, .ref ms, .int fl, .ref mr, .ref md, .ref mo, .ref mc, .int ty, .ref mt, .int at9, .int nu, .ref mq])), (mn, .inl (cI, 578, .inl (mkM D1 S1 R1 N1 (nI 7) (upd (upd (upd (upd (upd (upd f (17 * 7) bt) (17 * 7 + 1) tol) (17 * 7 + 2) 1) (17 * 7 + 3) 0) (17 * 7 + 4) 0) (17 * 7 + 5) 0)))), (mc, .inl (cI, 9, .inl (cq)))] := hD
          refine lv_aload_n hx hb dX5_logs_153 rfl (lv_at hl 1 rfl) ?_
          refine va_get (v := .ref mn) (D := D) (ci := 5) (C := RX5) (T := TX5) (N := 14) hx hb hts (by decide +kernel) hown hK hP 0 rfl rfl 0 (by decide) (hts (.fieldLink RX5 7 "SpiralFramesModel" "now" "[I") (by decide +kernel)) (fun _ h9 => h9) rfl dX5_logs_154 ?_
          refine lv_iload hx hb dX5_logs_157 (lv_at hl 0 rfl) ?_
          refine lv_bipush (v := 6) hx hb dX5_logs_159 (by decide) ?_
          refine lv_iadd hx hb dX5_logs_161 ?_
          refine x_eqi (show nI (442 + (17 * 7)) + 6 = nI ((442 + (17 * 7)) + 6) from nI_add (442 + (17 * 7)) 6) ?_
          refine lv_iconst (v := 0) hx hb dX5_logs_162 (by decide) ?_
          refine x_iastE hx hb hK hP hD hS 1 0 rfl rfl (k := (442 + (17 * 7)) + 6) (g := mkM D1 S1 R1 N1 (nI 7) (upd (upd (upd (upd (upd (upd (upd f (17 * 7) bt) (17 * 7 + 1) tol) (17 * 7 + 2) 1) (17 * 7 + 3) 0) (17 * 7 + 4) 0) (17 * 7 + 5) 0) (17 * 7 + 6) 0)) (upM_L (j := (17 * 7 + 6)) (by omega) (by omega)) (by omega) (by decide) dX5_logs_163 (fun H locs hP hD hS => ?_)
          have hP : va_P D vwCl [(mm, .inr (5, [.ref mn, .ref mh, .int kp, .ref ms, .int fl, .ref mr, .ref md, .ref mo, .ref mc, .int ty, .ref mt, .int at9, .int nu, .ref mq])), (mn, .inl (cI, 578, .inl (mkM D1 S1 R1 N1 (nI 7) (upd (upd (upd (upd (upd (upd (upd f (17 * 7) bt) (17 * 7 + 1) tol) (17 * 7 + 2) 1) (17 * 7 + 3) 0) (17 * 7 + 4) 0) (17 * 7 + 5) 0) (17 * 7 + 6) 0)))), (mc, .inl (cI, 9, .inl (cq)))] H := hP
          have hD : va_D (Ar) [(mm, .inr (5, [.ref mn, .ref mh, .int kp, .ref ms, .int fl, .ref mr, .ref md, .ref mo, .ref mc, .int ty, .ref mt, .int at9, .int nu, .ref mq])), (mn, .inl (cI, 578, .inl (mkM D1 S1 R1 N1 (nI 7) (upd (upd (upd (upd (upd (upd (upd f (17 * 7) bt) (17 * 7 + 1) tol) (17 * 7 + 2) 1) (17 * 7 + 3) 0) (17 * 7 + 4) 0) (17 * 7 + 5) 0) (17 * 7 + 6) 0)))), (mc, .inl (cI, 9, .inl (cq)))] := hD
          refine lv_iconst (v := 0) hx hb dX5_logs_164 (by decide) ?_
          refine lv_istore (lv' := [(6, .int 0), (5, .int (nI (442 + (17 * 7)))), (0, .ref mm), (1, .int bt), (2, .int tol), (3, .int 1), (4, .int 0)]) hx hb dX5_logs_165 hl (by decide) rfl (fun ls hl => ?_)
          have L167 : ∀ (fuel : Nat) (t : Nat) (g : Nat → Int32), (t ≤ 9) → (g = lgX f (17 * 7) bt tol (nI 1) (nI 0) cd t) → 9 - t < fuel → ∀ (H : Heap) (locs : List Loc), va_P D vwCl [(mm, .inr (5, [.ref mn, .ref mh, .int kp, .ref ms, .int fl, .ref mr, .ref md, .ref mo, .ref mc, .int ty, .ref mt, .int at9, .int nu, .ref mq])), (mn, .inl (cI, 578, .inl (mkM D1 S1 R1 N1 (nI 7) g))), (mc, .inl (cI, 9, .inl (cq)))] H → va_D (Ar) [(mm, .inr (5, [.ref mn, .ref mh, .int kp, .ref ms, .int fl, .ref mr, .ref md, .ref mo, .ref mc, .int ty, .ref mt, .int at9, .int nu, .ref mq])), (mn, .inl (cI, 578, .inl (mkM D1 S1 R1 N1 (nI 7) g))), (mc, .inl (cI, 9, .inl (cq)))] → va_S (Ar) s.heap H locs → ∀ (ls : Array Slot), lv_has ls 8 [(0, .ref mm), (5, .int (nI (442 + 17 * 7))), (6, .int (nI t))] → W p l e (headSpec wsX5_logs ({ frames := 4, cells := 0, slots := 0, locals := 98 } : Room)).room s m ([.ref mm, .int bt, .int tol, .int 1, .int 0] : List Value).toArray below meth c H locs 0 0 Q (F0 m 167 ls []) := by
            intro fuel
            induction fuel with
            | zero =>
              intro t g hi167_0 hi167_1 hfu
              exact absurd hfu (Nat.not_lt_zero _)
            | succ fuel ih167 =>
              intro t g hi167_0 hi167_1 hfu167 H locs hP hD hS ls hl
              refine lv_iload hx hb dX5_logs_167 (lv_at hl 2 rfl) ?_
              refine lv_bipush (v := 9) hx hb dX5_logs_169 (by decide) ?_
              refine x_icmp_ge (tgt := 249) hx hb dX5_logs_171 (by decide) (X := ((t : Nat) : Int)) (nI_toI (by omega)) (Y := 9) (show (9 : Int32).toInt = 9 from by decide) (fun c_171 => ?_) (fun c_171 => ?_)
              · skip
                refine lv_aload_n hx hb dX5_logs_249 rfl (lv_at hl 0 rfl) ?_
                refine va_get (v := .ref mn) (D := D) (ci := 5) (C := RX5) (T := TX5) (N := 14) hx hb hts (by decide +kernel) hown hK hP 0 rfl rfl 0 (by decide) (hts (.fieldLink RX5 7 "SpiralFramesModel" "now" "[I") (by decide +kernel)) (fun _ h9 => h9) rfl dX5_logs_250 ?_
                refine lv_iload hx hb dX5_logs_253 (lv_at hl 1 rfl) ?_
                refine lv_bipush (v := 7) hx hb dX5_logs_255 (by decide) ?_
                refine lv_iadd hx hb dX5_logs_257 ?_
                refine x_eqi (show nI (442 + 17 * 7) + 7 = nI ((442 + 17 * 7) + 7) from nI_add (442 + 17 * 7) 7) ?_
                refine lv_aload_n hx hb dX5_logs_258 rfl (lv_at hl 0 rfl) ?_
                refine lv_iconst (v := 0) hx hb dX5_logs_259 (by decide) ?_
                refine lv_iconst (v := 1) hx hb dX5_logs_260 (by decide) ?_
                refine x_callR (va_runV (As := [.int 0, .int 1]) (rest := [.int (nI ((442 + 17 * 7) + 7)), .ref mn]) ⟨hx, hb, hml, hown, hts⟩ (c_X5_whole l D cI cC cS tt mm mn mh ms mr md mo mc mt mq kp fl ty at9 nu D1 S1 R1 N1 (nI 7) g 0 1 (by first | omega | assumption | decide) (by first | omega | assumption | decide)) (cwV 2 hts gX5_logs_X5_whole rfl rfl rfl (by decide +kernel) ⟨Nat.le_of_ble_eq_true rfl, Nat.le_of_ble_eq_true rfl⟩) ⟨x_blindR, va_recv hK hP (ci := 5) (q0 := 0) rfl rfl, x_preR (hP.sub (ws' := [(mm, .inr (5, [.ref mn, .ref mh, .int kp, .ref ms, .int fl, .ref mr, .ref md, .ref mo, .ref mc, .int ty, .ref mt, .int at9, .int nu, .ref mq])), (mn, .inl (cI, 578, .inl (mkM D1 S1 R1 N1 (nI 7) g)))]) [0, 1] rfl) hK hE hS⟩ rfl rfl hl.1 rfl (lv_room (Nat.le_of_ble_eq_true rfl)) dX5_logs_261 ⟨(Nat.le_of_ble_eq_true rfl), (Nat.le_of_ble_eq_true rfl)⟩) ?_
                refine x_eqi (show wdS (pkN D1 S1 R1 0) (pkN D1 S1 R1 1) = wdS D1 S1 from rfl) ?_
                refine x_iastE hx hb hK hP hD hS 1 0 rfl rfl (k := (442 + 17 * 7) + 7) (g := mkM D1 S1 R1 N1 (nI 7) (upd g (17 * 7 + 7) (wdS D1 S1))) (upM_L (j := (17 * 7 + 7)) (by omega) (by omega)) (by omega) (by decide) dX5_logs_264 (fun H locs hP hD hS => ?_)
                have hP : va_P D vwCl [(mm, .inr (5, [.ref mn, .ref mh, .int kp, .ref ms, .int fl, .ref mr, .ref md, .ref mo, .ref mc, .int ty, .ref mt, .int at9, .int nu, .ref mq])), (mn, .inl (cI, 578, .inl (mkM D1 S1 R1 N1 (nI 7) (upd g (17 * 7 + 7) (wdS D1 S1))))), (mc, .inl (cI, 9, .inl (cq)))] H := hP
                have hD : va_D (Ar) [(mm, .inr (5, [.ref mn, .ref mh, .int kp, .ref ms, .int fl, .ref mr, .ref md, .ref mo, .ref mc, .int ty, .ref mt, .int at9, .int nu, .ref mq])), (mn, .inl (cI, 578, .inl (mkM D1 S1 R1 N1 (nI 7) (upd g (17 * 7 + 7) (wdS D1 S1))))), (mc, .inl (cI, 9, .inl (cq)))] := hD
                refine lv_aload_n hx hb dX5_logs_265 rfl (lv_at hl 0 rfl) ?_
                refine va_get (v := .ref mn) (D := D) (ci := 5) (C := RX5) (T := TX5) (N := 14) hx hb hts (by decide +kernel) hown hK hP 0 rfl rfl 0 (by decide) (hts (.fieldLink RX5 7 "SpiralFramesModel" "now" "[I") (by decide +kernel)) (fun _ h9 => h9) rfl dX5_logs_266 ?_
                refine lv_sipush (v := 441) hx hb dX5_logs_269 (by decide) ?_
                refine lv_dup2_11 hx hb dX5_logs_272 rfl rfl ?_
                refine x_eqi (show (441 : Int32) = nI 441 from by decide) ?_
                refine x_iald hx hb hK hP 1 0 rfl rfl (k := 441) (by omega) (by decide) dX5_logs_273 ?_
                refine x_eqi (show (mkM D1 S1 R1 N1 (nI 7) (upd g (17 * 7 + 7) (wdS D1 S1))) 441 = (nI 7) from (mkM_K (by omega))) ?_
                refine lv_iconst (v := 1) hx hb dX5_logs_274 (by decide) ?_
                refine lv_iadd hx hb dX5_logs_275 ?_
                refine x_eqi (show nI 7 + 1 = nI (7 + 1) from nI_add 7 1) ?_
                refine x_eqi2 (show (441 : Int32) = nI 441 from by decide) ?_
                refine x_iastE hx hb hK hP hD hS 1 0 rfl rfl (k := 441) (g := mkM D1 S1 R1 N1 (nI (7 + 1)) (upd g (17 * 7 + 7) (wdS D1 S1))) (upM_K (by omega)) (by omega) (by decide) dX5_logs_276 (fun H locs hP hD hS => ?_)
                have hP : va_P D vwCl [(mm, .inr (5, [.ref mn, .ref mh, .int kp, .ref ms, .int fl, .ref mr, .ref md, .ref mo, .ref mc, .int ty, .ref mt, .int at9, .int nu, .ref mq])), (mn, .inl (cI, 578, .inl (mkM D1 S1 R1 N1 (nI (7 + 1)) (upd g (17 * 7 + 7) (wdS D1 S1))))), (mc, .inl (cI, 9, .inl (cq)))] H := hP
                have hD : va_D (Ar) [(mm, .inr (5, [.ref mn, .ref mh, .int kp, .ref ms, .int fl, .ref mr, .ref md, .ref mo, .ref mc, .int ty, .ref mt, .int at9, .int nu, .ref mq])), (mn, .inl (cI, 578, .inl (mkM D1 S1 R1 N1 (nI (7 + 1)) (upd g (17 * 7 + 7) (wdS D1 S1))))), (mc, .inl (cI, 9, .inl (cq)))] := hD
                refine x_vretW (w := [(mm, .inr (5, [.ref mn, .ref mh, .int kp, .ref ms, .int fl, .ref mr, .ref md, .ref mo, .ref mc, .int ty, .ref mt, .int at9, .int nu, .ref mq])), (mn, .inl (cI, 578, .inl (mkM D1 S1 R1 N1 (nI (7 + 1)) (upd g (17 * 7 + 7) (wdS D1 S1))))), (mc, .inl (cI, 9, .inl (cq)))]) hQ hAe hx hb hr hlocks (hP.sub [0, 1, 2] rfl) (hD.sub [0, 1, 2] (by decide) rfl) hS ?_ dX5_logs_277
                have e9 : upd g (17 * 7 + 7) (wdS D1 S1) = lgM L1 8 (lgR bt tol 1 0 cd (wdS D1 S1)) := by rw [hi167_1, show t = 9 by omega, lgX_e, hi18_2, show j - 442 = 119 by omega]; rfl
                rw [e9]
                rfl
              · skip
                refine lv_aload_n hx hb dX5_logs_174 rfl (lv_at hl 0 rfl) ?_
                refine va_get (v := .ref mc) (D := D) (ci := 5) (C := RX5) (T := TX5) (N := 14) hx hb hts (by decide +kernel) hown hK hP 0 rfl rfl 8 (by decide) (hts (.fieldLink RX5 28 "SpiralFramesModel" "codes" "[I") (by decide +kernel)) (fun _ h9 => h9) rfl dX5_logs_175 ?_
                refine lv_iload hx hb dX5_logs_178 (lv_at hl 2 rfl) ?_
                refine x_iald hx hb hK hP 2 0 rfl rfl (k := t) (by omega) (by decide) dX5_logs_180 ?_
                refine x_eqi (show cq t = nI (cd t) from hh0 t (by omega)) ?_
                have cd25 := hh1 t
                refine x_if_ne (tgt := 188) hx hb dX5_logs_181 (by decide) (X := ((cd t : Nat) : Int)) (nI_toI (by omega)) (fun c_181 => ?_) (fun c_181 => ?_)
                · skip
                  refine lv_aload_n hx hb dX5_logs_188 rfl (lv_at hl 0 rfl) ?_
                  refine va_get (v := .ref mc) (D := D) (ci := 5) (C := RX5) (T := TX5) (N := 14) hx hb hts (by decide +kernel) hown hK hP 0 rfl rfl 8 (by decide) (hts (.fieldLink RX5 28 "SpiralFramesModel" "codes" "[I") (by decide +kernel)) (fun _ h9 => h9) rfl dX5_logs_189 ?_
                  refine lv_iload hx hb dX5_logs_192 (lv_at hl 2 rfl) ?_
                  refine x_iald hx hb hK hP 2 0 rfl rfl (k := t) (by omega) (by decide) dX5_logs_194 ?_
                  refine x_eqi (show cq t = nI (cd t) from hh0 t (by omega)) ?_
                  refine lv_bipush (v := 25) hx hb dX5_logs_195 (by decide) ?_
                  refine x_icmp_ne (tgt := 204) hx hb dX5_logs_197 (by decide) (X := ((cd t : Nat) : Int)) (nI_toI (by omega)) (Y := 25) (show (25 : Int32).toInt = 25 from by decide) (fun c_197 => ?_) (fun c_197 => ?_)
                  · skip
                    refine lv_iconst (v := 1) hx hb dX5_logs_204 (by decide) ?_
                    refine lv_istore (lv' := [(7, .int 1), (0, .ref mm), (5, .int (nI (442 + 17 * 7))), (6, .int (nI t))]) hx hb dX5_logs_205 hl (by decide) rfl (fun ls hl => ?_)
                    refine lv_aload_n hx hb dX5_logs_207 rfl (lv_at hl 1 rfl) ?_
                    refine va_get (v := .ref mn) (D := D) (ci := 5) (C := RX5) (T := TX5) (N := 14) hx hb hts (by decide +kernel) hown hK hP 0 rfl rfl 0 (by decide) (hts (.fieldLink RX5 7 "SpiralFramesModel" "now" "[I") (by decide +kernel)) (fun _ h9 => h9) rfl dX5_logs_208 ?_
                    refine lv_iload hx hb dX5_logs_211 (lv_at hl 2 rfl) ?_
                    refine lv_iconst (v := 4) hx hb dX5_logs_213 (by decide) ?_
                    refine lv_iadd hx hb dX5_logs_214 ?_
                    refine x_eqi (show nI (442 + 17 * 7) + 4 = nI ((442 + 17 * 7) + 4) from nI_add (442 + 17 * 7) 4) ?_
                    refine lv_iload hx hb dX5_logs_215 (lv_at hl 0 rfl) ?_
                    refine lv_iadd hx hb dX5_logs_217 ?_
                    refine x_eqi (show nI ((442 + 17 * 7) + 4) + 1 = nI (((442 + 17 * 7) + 4) + 1) from nI_add ((442 + 17 * 7) + 4) 1) ?_
                    refine lv_dup2_11 hx hb dX5_logs_218 rfl rfl ?_
                    refine x_iald hx hb hK hP 1 0 rfl rfl (k := ((442 + 17 * 7) + 4) + 1) (by omega) (by decide) dX5_logs_219 ?_
                    refine x_eqi (show (mkM D1 S1 R1 N1 (nI 7) g) (((442 + 17 * 7) + 4) + 1) = g (17 * 7 + 4 + 1) from (mkM_L (j := (17 * 7 + 4 + 1)) (by omega) (by omega))) ?_
                    refine lv_iconst (v := 1) hx hb dX5_logs_220 (by decide) ?_
                    refine lv_iadd hx hb dX5_logs_221 ?_
                    refine x_iastE hx hb hK hP hD hS 1 0 rfl rfl (k := ((442 + 17 * 7) + 4) + 1) (g := mkM D1 S1 R1 N1 (nI 7) (upd g (17 * 7 + 4 + 1) ((g (17 * 7 + 4 + 1)) + 1))) (upM_L (j := (17 * 7 + 4 + 1)) (by omega) (by omega)) (by omega) (by decide) dX5_logs_222 (fun H locs hP hD hS => ?_)
                    have hP : va_P D vwCl [(mm, .inr (5, [.ref mn, .ref mh, .int kp, .ref ms, .int fl, .ref mr, .ref md, .ref mo, .ref mc, .int ty, .ref mt, .int at9, .int nu, .ref mq])), (mn, .inl (cI, 578, .inl (mkM D1 S1 R1 N1 (nI 7) (upd g (17 * 7 + 4 + 1) ((g (17 * 7 + 4 + 1)) + 1))))), (mc, .inl (cI, 9, .inl (cq)))] H := hP
                    have hD : va_D (Ar) [(mm, .inr (5, [.ref mn, .ref mh, .int kp, .ref ms, .int fl, .ref mr, .ref md, .ref mo, .ref mc, .int ty, .ref mt, .int at9, .int nu, .ref mq])), (mn, .inl (cI, 578, .inl (mkM D1 S1 R1 N1 (nI 7) (upd g (17 * 7 + 4 + 1) ((g (17 * 7 + 4 + 1)) + 1))))), (mc, .inl (cI, 9, .inl (cq)))] := hD
                    refine lv_aload_n hx hb dX5_logs_223 rfl (lv_at hl 1 rfl) ?_
                    refine va_get (v := .ref mn) (D := D) (ci := 5) (C := RX5) (T := TX5) (N := 14) hx hb hts (by decide +kernel) hown hK hP 0 rfl rfl 0 (by decide) (hts (.fieldLink RX5 7 "SpiralFramesModel" "now" "[I") (by decide +kernel)) (fun _ h9 => h9) rfl dX5_logs_224 ?_
                    refine lv_iload hx hb dX5_logs_227 (lv_at hl 2 rfl) ?_
                    refine lv_bipush (v := 8) hx hb dX5_logs_229 (by decide) ?_
                    refine lv_iadd hx hb dX5_logs_231 ?_
                    refine x_eqi (show nI (442 + 17 * 7) + 8 = nI ((442 + 17 * 7) + 8) from nI_add (442 + 17 * 7) 8) ?_
                    refine lv_iload hx hb dX5_logs_232 (lv_at hl 3 rfl) ?_
                    refine lv_iadd hx hb dX5_logs_234 ?_
                    refine x_eqi (show nI ((442 + 17 * 7) + 8) + nI t = nI (((442 + 17 * 7) + 8) + t) from nI_add ((442 + 17 * 7) + 8) t) ?_
                    refine lv_aload_n hx hb dX5_logs_235 rfl (lv_at hl 1 rfl) ?_
                    refine va_get (v := .ref mc) (D := D) (ci := 5) (C := RX5) (T := TX5) (N := 14) hx hb hts (by decide +kernel) hown hK hP 0 rfl rfl 8 (by decide) (hts (.fieldLink RX5 28 "SpiralFramesModel" "codes" "[I") (by decide +kernel)) (fun _ h9 => h9) rfl dX5_logs_236 ?_
                    refine lv_iload hx hb dX5_logs_239 (lv_at hl 3 rfl) ?_
                    refine x_iald hx hb hK hP 2 0 rfl rfl (k := t) (by omega) (by decide) dX5_logs_241 ?_
                    refine x_eqi (show cq t = nI (cd t) from hh0 t (by omega)) ?_
                    refine x_iastE hx hb hK hP hD hS 1 0 rfl rfl (k := ((442 + 17 * 7) + 8) + t) (g := mkM D1 S1 R1 N1 (nI 7) (upd (upd g (17 * 7 + 4 + 1) ((g (17 * 7 + 4 + 1)) + 1)) (17 * 7 + 8 + t) (nI (cd t)))) (upM_L (j := (17 * 7 + 8 + t)) (by omega) (by omega)) (by omega) (by decide) dX5_logs_242 (fun H locs hP hD hS => ?_)
                    have hP : va_P D vwCl [(mm, .inr (5, [.ref mn, .ref mh, .int kp, .ref ms, .int fl, .ref mr, .ref md, .ref mo, .ref mc, .int ty, .ref mt, .int at9, .int nu, .ref mq])), (mn, .inl (cI, 578, .inl (mkM D1 S1 R1 N1 (nI 7) (upd (upd g (17 * 7 + 4 + 1) ((g (17 * 7 + 4 + 1)) + 1)) (17 * 7 + 8 + t) (nI (cd t)))))), (mc, .inl (cI, 9, .inl (cq)))] H := hP
                    have hD : va_D (Ar) [(mm, .inr (5, [.ref mn, .ref mh, .int kp, .ref ms, .int fl, .ref mr, .ref md, .ref mo, .ref mc, .int ty, .ref mt, .int at9, .int nu, .ref mq])), (mn, .inl (cI, 578, .inl (mkM D1 S1 R1 N1 (nI 7) (upd (upd g (17 * 7 + 4 + 1) ((g (17 * 7 + 4 + 1)) + 1)) (17 * 7 + 8 + t) (nI (cd t)))))), (mc, .inl (cI, 9, .inl (cq)))] := hD
                    refine lv_iinc (v := nI (t + 1)) (lv' := [(6, .int (nI (t + 1))), (7, .int 1), (0, .ref mm), (5, .int (nI (442 + 17 * 7)))]) hx hb dX5_logs_243 hl (k := 3) rfl (nI_add _ _) (by decide) rfl (fun ls hl => ?_)
                    refine lv_goto (tgt := 167) hx hb dX5_logs_246 (by decide) ?_
                    exact ih167 (t + 1) (upd (upd g (17 * 7 + 4 + 1) ((g (17 * 7 + 4 + 1)) + 1)) (17 * 7 + 8 + t) (nI (cd t))) (by first | omega | assumption | rfl) (by rw [hi167_1]; first | exact lgX_s (kind := 0) (by omega) (by unfold kdN; rw [if_pos (by omega)]) (congrArg (fun z => z + 1) (lgX_k (by omega))) rfl | exact lgX_s (kind := 1) (by omega) (by unfold kdN; rw [if_neg (by omega), if_neg (by omega)]) (congrArg (fun z => z + 1) (lgX_k (by omega))) rfl | exact lgX_s (kind := 2) (by omega) (by unfold kdN; rw [if_neg (by omega), if_pos (by omega)]) (congrArg (fun z => z + 1) (lgX_k (by omega))) rfl) (by omega) H locs (hP.sub [0, 1, 2] rfl) (hD.sub [0, 1, 2] (by decide) rfl) hS ls (lv_sub hl [2, 3, 0] rfl)
                  · skip
                    refine lv_iconst (v := 2) hx hb dX5_logs_200 (by decide) ?_
                    refine lv_goto (tgt := 205) hx hb dX5_logs_201 (by decide) ?_
                    refine lv_istore (lv' := [(7, .int 2), (0, .ref mm), (5, .int (nI (442 + 17 * 7))), (6, .int (nI t))]) hx hb dX5_logs_205 hl (by decide) rfl (fun ls hl => ?_)
                    refine lv_aload_n hx hb dX5_logs_207 rfl (lv_at hl 1 rfl) ?_
                    refine va_get (v := .ref mn) (D := D) (ci := 5) (C := RX5) (T := TX5) (N := 14) hx hb hts (by decide +kernel) hown hK hP 0 rfl rfl 0 (by decide) (hts (.fieldLink RX5 7 "SpiralFramesModel" "now" "[I") (by decide +kernel)) (fun _ h9 => h9) rfl dX5_logs_208 ?_
                    refine lv_iload hx hb dX5_logs_211 (lv_at hl 2 rfl) ?_
                    refine lv_iconst (v := 4) hx hb dX5_logs_213 (by decide) ?_
                    refine lv_iadd hx hb dX5_logs_214 ?_
                    refine x_eqi (show nI (442 + 17 * 7) + 4 = nI ((442 + 17 * 7) + 4) from nI_add (442 + 17 * 7) 4) ?_
                    refine lv_iload hx hb dX5_logs_215 (lv_at hl 0 rfl) ?_
                    refine lv_iadd hx hb dX5_logs_217 ?_
                    refine x_eqi (show nI ((442 + 17 * 7) + 4) + 2 = nI (((442 + 17 * 7) + 4) + 2) from nI_add ((442 + 17 * 7) + 4) 2) ?_
                    refine lv_dup2_11 hx hb dX5_logs_218 rfl rfl ?_
                    refine x_iald hx hb hK hP 1 0 rfl rfl (k := ((442 + 17 * 7) + 4) + 2) (by omega) (by decide) dX5_logs_219 ?_
                    refine x_eqi (show (mkM D1 S1 R1 N1 (nI 7) g) (((442 + 17 * 7) + 4) + 2) = g (17 * 7 + 4 + 2) from (mkM_L (j := (17 * 7 + 4 + 2)) (by omega) (by omega))) ?_
                    refine lv_iconst (v := 1) hx hb dX5_logs_220 (by decide) ?_
                    refine lv_iadd hx hb dX5_logs_221 ?_
                    refine x_iastE hx hb hK hP hD hS 1 0 rfl rfl (k := ((442 + 17 * 7) + 4) + 2) (g := mkM D1 S1 R1 N1 (nI 7) (upd g (17 * 7 + 4 + 2) ((g (17 * 7 + 4 + 2)) + 1))) (upM_L (j := (17 * 7 + 4 + 2)) (by omega) (by omega)) (by omega) (by decide) dX5_logs_222 (fun H locs hP hD hS => ?_)
                    have hP : va_P D vwCl [(mm, .inr (5, [.ref mn, .ref mh, .int kp, .ref ms, .int fl, .ref mr, .ref md, .ref mo, .ref mc, .int ty, .ref mt, .int at9, .int nu, .ref mq])), (mn, .inl (cI, 578, .inl (mkM D1 S1 R1 N1 (nI 7) (upd g (17 * 7 + 4 + 2) ((g (17 * 7 + 4 + 2)) + 1))))), (mc, .inl (cI, 9, .inl (cq)))] H := hP
                    have hD : va_D (Ar) [(mm, .inr (5, [.ref mn, .ref mh, .int kp, .ref ms, .int fl, .ref mr, .ref md, .ref mo, .ref mc, .int ty, .ref mt, .int at9, .int nu, .ref mq])), (mn, .inl (cI, 578, .inl (mkM D1 S1 R1 N1 (nI 7) (upd g (17 * 7 + 4 + 2) ((g (17 * 7 + 4 + 2)) + 1))))), (mc, .inl (cI, 9, .inl (cq)))] := hD
                    refine lv_aload_n hx hb dX5_logs_223 rfl (lv_at hl 1 rfl) ?_
                    refine va_get (v := .ref mn) (D := D) (ci := 5) (C := RX5) (T := TX5) (N := 14) hx hb hts (by decide +kernel) hown hK hP 0 rfl rfl 0 (by decide) (hts (.fieldLink RX5 7 "SpiralFramesModel" "now" "[I") (by decide +kernel)) (fun _ h9 => h9) rfl dX5_logs_224 ?_
                    refine lv_iload hx hb dX5_logs_227 (lv_at hl 2 rfl) ?_
                    refine lv_bipush (v := 8) hx hb dX5_logs_229 (by decide) ?_
                    refine lv_iadd hx hb dX5_logs_231 ?_
                    refine x_eqi (show nI (442 + 17 * 7) + 8 = nI ((442 + 17 * 7) + 8) from nI_add (442 + 17 * 7) 8) ?_
                    refine lv_iload hx hb dX5_logs_232 (lv_at hl 3 rfl) ?_
                    refine lv_iadd hx hb dX5_logs_234 ?_
                    refine x_eqi (show nI ((442 + 17 * 7) + 8) + nI t = nI (((442 + 17 * 7) + 8) + t) from nI_add ((442 + 17 * 7) + 8) t) ?_
                    refine lv_aload_n hx hb dX5_logs_235 rfl (lv_at hl 1 rfl) ?_
                    refine va_get (v := .ref mc) (D := D) (ci := 5) (C := RX5) (T := TX5) (N := 14) hx hb hts (by decide +kernel) hown hK hP 0 rfl rfl 8 (by decide) (hts (.fieldLink RX5 28 "SpiralFramesModel" "codes" "[I") (by decide +kernel)) (fun _ h9 => h9) rfl dX5_logs_236 ?_
                    refine lv_iload hx hb dX5_logs_239 (lv_at hl 3 rfl) ?_
                    refine x_iald hx hb hK hP 2 0 rfl rfl (k := t) (by omega) (by decide) dX5_logs_241 ?_
                    refine x_eqi (show cq t = nI (cd t) from hh0 t (by omega)) ?_
                    refine x_iastE hx hb hK hP hD hS 1 0 rfl rfl (k := ((442 + 17 * 7) + 8) + t) (g := mkM D1 S1 R1 N1 (nI 7) (upd (upd g (17 * 7 + 4 + 2) ((g (17 * 7 + 4 + 2)) + 1)) (17 * 7 + 8 + t) (nI (cd t)))) (upM_L (j := (17 * 7 + 8 + t)) (by omega) (by omega)) (by omega) (by decide) dX5_logs_242 (fun H locs hP hD hS => ?_)
                    have hP : va_P D vwCl [(mm, .inr (5, [.ref mn, .ref mh, .int kp, .ref ms, .int fl, .ref mr, .ref md, .ref mo, .ref mc, .int ty, .ref mt, .int at9, .int nu, .ref mq])), (mn, .inl (cI, 578, .inl (mkM D1 S1 R1 N1 (nI 7) (upd (upd g (17 * 7 + 4 + 2) ((g (17 * 7 + 4 + 2)) + 1)) (17 * 7 + 8 + t) (nI (cd t)))))), (mc, .inl (cI, 9, .inl (cq)))] H := hP
                    have hD : va_D (Ar) [(mm, .inr (5, [.ref mn, .ref mh, .int kp, .ref ms, .int fl, .ref mr, .ref md, .ref mo, .ref mc, .int ty, .ref mt, .int at9, .int nu, .ref mq])), (mn, .inl (cI, 578, .inl (mkM D1 S1 R1 N1 (nI 7) (upd (upd g (17 * 7 + 4 + 2) ((g (17 * 7 + 4 + 2)) + 1)) (17 * 7 + 8 + t) (nI (cd t)))))), (mc, .inl (cI, 9, .inl (cq)))] := hD
                    refine lv_iinc (v := nI (t + 1)) (lv' := [(6, .int (nI (t + 1))), (7, .int 2), (0, .ref mm), (5, .int (nI (442 + 17 * 7)))]) hx hb dX5_logs_243 hl (k := 3) rfl (nI_add _ _) (by decide) rfl (fun ls hl => ?_)
                    refine lv_goto (tgt := 167) hx hb dX5_logs_246 (by decide) ?_
                    exact ih167 (t + 1) (upd (upd g (17 * 7 + 4 + 2) ((g (17 * 7 + 4 + 2)) + 1)) (17 * 7 + 8 + t) (nI (cd t))) (by first | omega | assumption | rfl) (by rw [hi167_1]; first | exact lgX_s (kind := 0) (by omega) (by unfold kdN; rw [if_pos (by omega)]) (congrArg (fun z => z + 1) (lgX_k (by omega))) rfl | exact lgX_s (kind := 1) (by omega) (by unfold kdN; rw [if_neg (by omega), if_neg (by omega)]) (congrArg (fun z => z + 1) (lgX_k (by omega))) rfl | exact lgX_s (kind := 2) (by omega) (by unfold kdN; rw [if_neg (by omega), if_pos (by omega)]) (congrArg (fun z => z + 1) (lgX_k (by omega))) rfl) (by omega) H locs (hP.sub [0, 1, 2] rfl) (hD.sub [0, 1, 2] (by decide) rfl) hS ls (lv_sub hl [2, 3, 0] rfl)
                · skip
                  refine lv_iconst (v := 0) hx hb dX5_logs_184 (by decide) ?_
                  refine lv_goto (tgt := 205) hx hb dX5_logs_185 (by decide) ?_
                  refine lv_istore (lv' := [(7, .int 0), (0, .ref mm), (5, .int (nI (442 + 17 * 7))), (6, .int (nI t))]) hx hb dX5_logs_205 hl (by decide) rfl (fun ls hl => ?_)
                  refine lv_aload_n hx hb dX5_logs_207 rfl (lv_at hl 1 rfl) ?_
                  refine va_get (v := .ref mn) (D := D) (ci := 5) (C := RX5) (T := TX5) (N := 14) hx hb hts (by decide +kernel) hown hK hP 0 rfl rfl 0 (by decide) (hts (.fieldLink RX5 7 "SpiralFramesModel" "now" "[I") (by decide +kernel)) (fun _ h9 => h9) rfl dX5_logs_208 ?_
                  refine lv_iload hx hb dX5_logs_211 (lv_at hl 2 rfl) ?_
                  refine lv_iconst (v := 4) hx hb dX5_logs_213 (by decide) ?_
                  refine lv_iadd hx hb dX5_logs_214 ?_
                  refine x_eqi (show nI (442 + 17 * 7) + 4 = nI ((442 + 17 * 7) + 4) from nI_add (442 + 17 * 7) 4) ?_
                  refine lv_iload hx hb dX5_logs_215 (lv_at hl 0 rfl) ?_
                  refine lv_iadd hx hb dX5_logs_217 ?_
                  refine x_eqi (show nI ((442 + 17 * 7) + 4) + 0 = nI (((442 + 17 * 7) + 4) + 0) from nI_add ((442 + 17 * 7) + 4) 0) ?_
                  refine lv_dup2_11 hx hb dX5_logs_218 rfl rfl ?_
                  refine x_iald hx hb hK hP 1 0 rfl rfl (k := ((442 + 17 * 7) + 4) + 0) (by omega) (by decide) dX5_logs_219 ?_
                  refine x_eqi (show (mkM D1 S1 R1 N1 (nI 7) g) (((442 + 17 * 7) + 4) + 0) = g (17 * 7 + 4 + 0) from (mkM_L (j := (17 * 7 + 4 + 0)) (by omega) (by omega))) ?_
                  refine lv_iconst (v := 1) hx hb dX5_logs_220 (by decide) ?_
                  refine lv_iadd hx hb dX5_logs_221 ?_
                  refine x_iastE hx hb hK hP hD hS 1 0 rfl rfl (k := ((442 + 17 * 7) + 4) + 0) (g := mkM D1 S1 R1 N1 (nI 7) (upd g (17 * 7 + 4 + 0) ((g (17 * 7 + 4 + 0)) + 1))) (upM_L (j := (17 * 7 + 4 + 0)) (by omega) (by omega)) (by omega) (by decide) dX5_logs_222 (fun H locs hP hD hS => ?_)
                  have hP : va_P D vwCl [(mm, .inr (5, [.ref mn, .ref mh, .int kp, .ref ms, .int fl, .ref mr, .ref md, .ref mo, .ref mc, .int ty, .ref mt, .int at9, .int nu, .ref mq])), (mn, .inl (cI, 578, .inl (mkM D1 S1 R1 N1 (nI 7) (upd g (17 * 7 + 4 + 0) ((g (17 * 7 + 4 + 0)) + 1))))), (mc, .inl (cI, 9, .inl (cq)))] H := hP
                  have hD : va_D (Ar) [(mm, .inr (5, [.ref mn, .ref mh, .int kp, .ref ms, .int fl, .ref mr, .ref md, .ref mo, .ref mc, .int ty, .ref mt, .int at9, .int nu, .ref mq])), (mn, .inl (cI, 578, .inl (mkM D1 S1 R1 N1 (nI 7) (upd g (17 * 7 + 4 + 0) ((g (17 * 7 + 4 + 0)) + 1))))), (mc, .inl (cI, 9, .inl (cq)))] := hD
                  refine lv_aload_n hx hb dX5_logs_223 rfl (lv_at hl 1 rfl) ?_
                  refine va_get (v := .ref mn) (D := D) (ci := 5) (C := RX5) (T := TX5) (N := 14) hx hb hts (by decide +kernel) hown hK hP 0 rfl rfl 0 (by decide) (hts (.fieldLink RX5 7 "SpiralFramesModel" "now" "[I") (by decide +kernel)) (fun _ h9 => h9) rfl dX5_logs_224 ?_
                  refine lv_iload hx hb dX5_logs_227 (lv_at hl 2 rfl) ?_
                  refine lv_bipush (v := 8) hx hb dX5_logs_229 (by decide) ?_
                  refine lv_iadd hx hb dX5_logs_231 ?_
                  refine x_eqi (show nI (442 + 17 * 7) + 8 = nI ((442 + 17 * 7) + 8) from nI_add (442 + 17 * 7) 8) ?_
                  refine lv_iload hx hb dX5_logs_232 (lv_at hl 3 rfl) ?_
                  refine lv_iadd hx hb dX5_logs_234 ?_
                  refine x_eqi (show nI ((442 + 17 * 7) + 8) + nI t = nI (((442 + 17 * 7) + 8) + t) from nI_add ((442 + 17 * 7) + 8) t) ?_
                  refine lv_aload_n hx hb dX5_logs_235 rfl (lv_at hl 1 rfl) ?_
                  refine va_get (v := .ref mc) (D := D) (ci := 5) (C := RX5) (T := TX5) (N := 14) hx hb hts (by decide +kernel) hown hK hP 0 rfl rfl 8 (by decide) (hts (.fieldLink RX5 28 "SpiralFramesModel" "codes" "[I") (by decide +kernel)) (fun _ h9 => h9) rfl dX5_logs_236 ?_
                  refine lv_iload hx hb dX5_logs_239 (lv_at hl 3 rfl) ?_
                  refine x_iald hx hb hK hP 2 0 rfl rfl (k := t) (by omega) (by decide) dX5_logs_241 ?_
                  refine x_eqi (show cq t = nI (cd t) from hh0 t (by omega)) ?_
                  refine x_iastE hx hb hK hP hD hS 1 0 rfl rfl (k := ((442 + 17 * 7) + 8) + t) (g := mkM D1 S1 R1 N1 (nI 7) (upd (upd g (17 * 7 + 4 + 0) ((g (17 * 7 + 4 + 0)) + 1)) (17 * 7 + 8 + t) (nI (cd t)))) (upM_L (j := (17 * 7 + 8 + t)) (by omega) (by omega)) (by omega) (by decide) dX5_logs_242 (fun H locs hP hD hS => ?_)
                  have hP : va_P D vwCl [(mm, .inr (5, [.ref mn, .ref mh, .int kp, .ref ms, .int fl, .ref mr, .ref md, .ref mo, .ref mc, .int ty, .ref mt, .int at9, .int nu, .ref mq])), (mn, .inl (cI, 578, .inl (mkM D1 S1 R1 N1 (nI 7) (upd (upd g (17 * 7 + 4 + 0) ((g (17 * 7 + 4 + 0)) + 1)) (17 * 7 + 8 + t) (nI (cd t)))))), (mc, .inl (cI, 9, .inl (cq)))] H := hP
                  have hD : va_D (Ar) [(mm, .inr (5, [.ref mn, .ref mh, .int kp, .ref ms, .int fl, .ref mr, .ref md, .ref mo, .ref mc, .int ty, .ref mt, .int at9, .int nu, .ref mq])), (mn, .inl (cI, 578, .inl (mkM D1 S1 R1 N1 (nI 7) (upd (upd g (17 * 7 + 4 + 0) ((g (17 * 7 + 4 + 0)) + 1)) (17 * 7 + 8 + t) (nI (cd t)))))), (mc, .inl (cI, 9, .inl (cq)))] := hD
                  refine lv_iinc (v := nI (t + 1)) (lv' := [(6, .int (nI (t + 1))), (7, .int 0), (0, .ref mm), (5, .int (nI (442 + 17 * 7)))]) hx hb dX5_logs_243 hl (k := 3) rfl (nI_add _ _) (by decide) rfl (fun ls hl => ?_)
                  refine lv_goto (tgt := 167) hx hb dX5_logs_246 (by decide) ?_
                  exact ih167 (t + 1) (upd (upd g (17 * 7 + 4 + 0) ((g (17 * 7 + 4 + 0)) + 1)) (17 * 7 + 8 + t) (nI (cd t))) (by first | omega | assumption | rfl) (by rw [hi167_1]; first | exact lgX_s (kind := 0) (by omega) (by unfold kdN; rw [if_pos (by omega)]) (congrArg (fun z => z + 1) (lgX_k (by omega))) rfl | exact lgX_s (kind := 1) (by omega) (by unfold kdN; rw [if_neg (by omega), if_neg (by omega)]) (congrArg (fun z => z + 1) (lgX_k (by omega))) rfl | exact lgX_s (kind := 2) (by omega) (by unfold kdN; rw [if_neg (by omega), if_pos (by omega)]) (congrArg (fun z => z + 1) (lgX_k (by omega))) rfl) (by omega) H locs (hP.sub [0, 1, 2] rfl) (hD.sub [0, 1, 2] (by decide) rfl) hS ls (lv_sub hl [2, 3, 0] rfl)
          exact L167 _ 0 (upd (upd (upd (upd (upd (upd (upd f (17 * 7) bt) (17 * 7 + 1) tol) (17 * 7 + 2) 1) (17 * 7 + 3) 0) (17 * 7 + 4) 0) (17 * 7 + 5) 0) (17 * 7 + 6) 0) (by first | omega | assumption | rfl) lgX_0 (Nat.lt_succ_self _) H locs (hP.sub [0, 1, 2] rfl) (hD.sub [0, 1, 2] (by decide) rfl) hS ls (lv_sub hl [2, 1, 0] rfl)
        · skip
          refine lv_aload_n hx hb dX5_logs_26 rfl (lv_at hl 0 rfl) ?_
          refine va_get (v := .ref mn) (D := D) (ci := 5) (C := RX5) (T := TX5) (N := 14) hx hb hts (by decide +kernel) hown hK hP 0 rfl rfl 0 (by decide) (hts (.fieldLink RX5 7 "SpiralFramesModel" "now" "[I") (by decide +kernel)) (fun _ h9 => h9) rfl dX5_logs_27 ?_
          refine lv_iload hx hb dX5_logs_30 (lv_at hl 5 rfl) ?_
          refine lv_aload_n hx hb dX5_logs_32 rfl (lv_at hl 0 rfl) ?_
          refine va_get (v := .ref mn) (D := D) (ci := 5) (C := RX5) (T := TX5) (N := 14) hx hb hts (by decide +kernel) hown hK hP 0 rfl rfl 0 (by decide) (hts (.fieldLink RX5 7 "SpiralFramesModel" "now" "[I") (by decide +kernel)) (fun _ h9 => h9) rfl dX5_logs_33 ?_
          refine lv_iload hx hb dX5_logs_36 (lv_at hl 5 rfl) ?_
          refine lv_bipush (v := 17) hx hb dX5_logs_38 (by decide) ?_
          refine lv_iadd hx hb dX5_logs_40 ?_
          refine x_eqi (show nI j + 17 = nI (j + 17) from nI_add j 17) ?_
          refine x_iald hx hb hK hP 1 0 rfl rfl (k := j + 17) (by omega) (by decide) dX5_logs_41 ?_
          refine x_eqi (show (mkM D1 S1 R1 N1 (nI 8) f) (j + 17) = f (j - 442 + 17) from (mkM_L (j := (j - 442 + 17)) (by omega) (by omega))) ?_
          refine x_iastE hx hb hK hP hD hS 1 0 rfl rfl (k := j) (g := mkM D1 S1 R1 N1 (nI 8) (upd f (j - 442) (f (j - 442 + 17)))) (upM_L (j := (j - 442)) (by omega) (by omega)) (by omega) (by decide) dX5_logs_42 (fun H locs hP hD hS => ?_)
          have hP : va_P D vwCl [(mm, .inr (5, [.ref mn, .ref mh, .int kp, .ref ms, .int fl, .ref mr, .ref md, .ref mo, .ref mc, .int ty, .ref mt, .int at9, .int nu, .ref mq])), (mn, .inl (cI, 578, .inl (mkM D1 S1 R1 N1 (nI 8) (upd f (j - 442) (f (j - 442 + 17)))))), (mc, .inl (cI, 9, .inl (cq)))] H := hP
          have hD : va_D (Ar) [(mm, .inr (5, [.ref mn, .ref mh, .int kp, .ref ms, .int fl, .ref mr, .ref md, .ref mo, .ref mc, .int ty, .ref mt, .int at9, .int nu, .ref mq])), (mn, .inl (cI, 578, .inl (mkM D1 S1 R1 N1 (nI 8) (upd f (j - 442) (f (j - 442 + 17)))))), (mc, .inl (cI, 9, .inl (cq)))] := hD
          refine lv_iinc (v := nI (j + 1)) (lv' := [(5, .int (nI (j + 1))), (0, .ref mm), (1, .int bt), (2, .int tol), (3, .int 1), (4, .int 0)]) hx hb dX5_logs_43 hl (k := 5) rfl (nI_add _ _) (by decide) rfl (fun ls hl => ?_)
          refine lv_goto (tgt := 18) hx hb dX5_logs_46 (by decide) ?_
          exact ih18 (j + 1) (upd f (j - 442) (f (j - 442 + 17))) (by first | omega | assumption | rfl) (by first | omega | assumption | rfl) (by rw [hi18_2, show j + 1 - 442 = (j - 442) + 1 by omega]; exact shL_s shL_at) (by omega) H locs (hP.sub [0, 1, 2] rfl) (hD.sub [0, 1, 2] (by decide) rfl) hS ls (lv_sub hl [1, 2, 3, 4, 5, 0] rfl)
    exact L18 _ 442 L1 (by first | omega | assumption | rfl) (by first | omega | assumption | rfl) shL_0 (Nat.lt_succ_self _) s.heap [] (hP.sub [0, 1, 2] rfl) (hD.sub [0, 1, 2] (by decide) rfl) hS ls (lv_sub hl [1, 2, 3, 4, 5, 0] rfl)
  · skip
    refine lv_aload_n hx hb dX5_logs_0 rfl (lv_at hl 0 rfl) ?_
    refine va_get (v := .ref mn) (D := D) (ci := 5) (C := RX5) (T := TX5) (N := 14) hx hb hts (by decide +kernel) hown hK hP 0 rfl rfl 0 (by decide) (hts (.fieldLink RX5 7 "SpiralFramesModel" "now" "[I") (by decide +kernel)) (fun _ h9 => h9) rfl dX5_logs_1 ?_
    refine lv_sipush (v := 441) hx hb dX5_logs_4 (by decide) ?_
    refine x_eqi (show (441 : Int32) = nI 441 from by decide) ?_
    refine x_iald hx hb hK hP 1 0 rfl rfl (k := 441) (by omega) (by decide) dX5_logs_7 ?_
    refine x_eqi (show (mkM D1 S1 R1 N1 (nI kn) L1) 441 = (nI kn) from (mkM_K (by omega))) ?_
    refine lv_bipush (v := 8) hx hb dX5_logs_8 (by decide) ?_
    refine x_icmp_ne (tgt := 61) hx hb dX5_logs_10 (by decide) (X := ((kn : Nat) : Int)) (nI_toI (by omega)) (Y := 8) (show (8 : Int32).toInt = 8 from by decide) (fun c_10 => ?_) (fun c_10 => ?_)
    rotate_left
    · exfalso; omega
    refine lv_sipush (v := 442) hx hb dX5_logs_61 (by decide) ?_
    refine lv_bipush (v := 17) hx hb dX5_logs_64 (by decide) ?_
    refine lv_aload_n hx hb dX5_logs_66 rfl (lv_at hl 0 rfl) ?_
    refine va_get (v := .ref mn) (D := D) (ci := 5) (C := RX5) (T := TX5) (N := 14) hx hb hts (by decide +kernel) hown hK hP 0 rfl rfl 0 (by decide) (hts (.fieldLink RX5 7 "SpiralFramesModel" "now" "[I") (by decide +kernel)) (fun _ h9 => h9) rfl dX5_logs_67 ?_
    refine lv_sipush (v := 441) hx hb dX5_logs_70 (by decide) ?_
    refine x_eqi (show (441 : Int32) = nI 441 from by decide) ?_
    refine x_iald hx hb hK hP 1 0 rfl rfl (k := 441) (by omega) (by decide) dX5_logs_73 ?_
    refine x_eqi (show (mkM D1 S1 R1 N1 (nI kn) L1) 441 = (nI kn) from (mkM_K (by omega))) ?_
    refine lv_imul hx hb dX5_logs_74 ?_
    refine x_eqi (show 17 * nI kn = nI (17 * kn) from pk_mul 17 kn) ?_
    refine lv_iadd hx hb dX5_logs_75 ?_
    refine x_eqi (show 442 + nI (17 * kn) = nI (442 + (17 * kn)) from nI_add 442 (17 * kn)) ?_
    refine lv_istore (lv' := [(5, .int (nI (442 + (17 * kn)))), (0, .ref mm), (1, .int bt), (2, .int tol), (3, .int 1), (4, .int 0)]) hx hb dX5_logs_76 hl (by decide) rfl (fun ls hl => ?_)
    refine lv_aload_n hx hb dX5_logs_78 rfl (lv_at hl 1 rfl) ?_
    refine va_get (v := .ref mn) (D := D) (ci := 5) (C := RX5) (T := TX5) (N := 14) hx hb hts (by decide +kernel) hown hK hP 0 rfl rfl 0 (by decide) (hts (.fieldLink RX5 7 "SpiralFramesModel" "now" "[I") (by decide +kernel)) (fun _ h9 => h9) rfl dX5_logs_79 ?_
    refine lv_iload hx hb dX5_logs_82 (lv_at hl 0 rfl) ?_
    refine lv_iload_n hx hb dX5_logs_84 rfl (lv_at hl 2 rfl) ?_
    refine x_iastE hx hb hK hP hD hS 1 0 rfl rfl (k := 442 + (17 * kn)) (g := mkM D1 S1 R1 N1 (nI kn) (upd L1 (17 * kn) bt)) (upM_L (j := (17 * kn)) (by omega) (by omega)) (by omega) (by decide) dX5_logs_85 (fun H locs hP hD hS => ?_)
    have hP : va_P D vwCl [(mm, .inr (5, [.ref mn, .ref mh, .int kp, .ref ms, .int fl, .ref mr, .ref md, .ref mo, .ref mc, .int ty, .ref mt, .int at9, .int nu, .ref mq])), (mn, .inl (cI, 578, .inl (mkM D1 S1 R1 N1 (nI kn) (upd L1 (17 * kn) bt)))), (mc, .inl (cI, 9, .inl (cq)))] H := hP
    have hD : va_D (Ar) [(mm, .inr (5, [.ref mn, .ref mh, .int kp, .ref ms, .int fl, .ref mr, .ref md, .ref mo, .ref mc, .int ty, .ref mt, .int at9, .int nu, .ref mq])), (mn, .inl (cI, 578, .inl (mkM D1 S1 R1 N1 (nI kn) (upd L1 (17 * kn) bt)))), (mc, .inl (cI, 9, .inl (cq)))] := hD
    refine lv_aload_n hx hb dX5_logs_86 rfl (lv_at hl 1 rfl) ?_
    refine va_get (v := .ref mn) (D := D) (ci := 5) (C := RX5) (T := TX5) (N := 14) hx hb hts (by decide +kernel) hown hK hP 0 rfl rfl 0 (by decide) (hts (.fieldLink RX5 7 "SpiralFramesModel" "now" "[I") (by decide +kernel)) (fun _ h9 => h9) rfl dX5_logs_87 ?_
    refine lv_iload hx hb dX5_logs_90 (lv_at hl 0 rfl) ?_
    refine lv_iconst (v := 1) hx hb dX5_logs_92 (by decide) ?_
    refine lv_iadd hx hb dX5_logs_93 ?_
    refine x_eqi (show nI (442 + (17 * kn)) + 1 = nI ((442 + (17 * kn)) + 1) from nI_add (442 + (17 * kn)) 1) ?_
    refine lv_iload_n hx hb dX5_logs_94 rfl (lv_at hl 3 rfl) ?_
    refine x_iastE hx hb hK hP hD hS 1 0 rfl rfl (k := (442 + (17 * kn)) + 1) (g := mkM D1 S1 R1 N1 (nI kn) (upd (upd L1 (17 * kn) bt) (17 * kn + 1) tol)) (upM_L (j := (17 * kn + 1)) (by omega) (by omega)) (by omega) (by decide) dX5_logs_95 (fun H locs hP hD hS => ?_)
    have hP : va_P D vwCl [(mm, .inr (5, [.ref mn, .ref mh, .int kp, .ref ms, .int fl, .ref mr, .ref md, .ref mo, .ref mc, .int ty, .ref mt, .int at9, .int nu, .ref mq])), (mn, .inl (cI, 578, .inl (mkM D1 S1 R1 N1 (nI kn) (upd (upd L1 (17 * kn) bt) (17 * kn + 1) tol)))), (mc, .inl (cI, 9, .inl (cq)))] H := hP
    have hD : va_D (Ar) [(mm, .inr (5, [.ref mn, .ref mh, .int kp, .ref ms, .int fl, .ref mr, .ref md, .ref mo, .ref mc, .int ty, .ref mt, .int at9, .int nu, .ref mq])), (mn, .inl (cI, 578, .inl (mkM D1 S1 R1 N1 (nI kn) (upd (upd L1 (17 * kn) bt) (17 * kn + 1) tol)))), (mc, .inl (cI, 9, .inl (cq)))] := hD
    refine lv_aload_n hx hb dX5_logs_96 rfl (lv_at hl 1 rfl) ?_
    refine va_get (v := .ref mn) (D := D) (ci := 5) (C := RX5) (T := TX5) (N := 14) hx hb hts (by decide +kernel) hown hK hP 0 rfl rfl 0 (by decide) (hts (.fieldLink RX5 7 "SpiralFramesModel" "now" "[I") (by decide +kernel)) (fun _ h9 => h9) rfl dX5_logs_97 ?_
    refine lv_iload hx hb dX5_logs_100 (lv_at hl 0 rfl) ?_
    refine lv_iconst (v := 2) hx hb dX5_logs_102 (by decide) ?_
    refine lv_iadd hx hb dX5_logs_103 ?_
    refine x_eqi (show nI (442 + (17 * kn)) + 2 = nI ((442 + (17 * kn)) + 2) from nI_add (442 + (17 * kn)) 2) ?_
    refine lv_iload_n hx hb dX5_logs_104 rfl (lv_at hl 4 rfl) ?_
    refine lv_if_eq (tgt := 112) hx hb dX5_logs_105 (by decide) (fun h => False.elim (by revert h; decide)) (fun _ => ?_)
    refine lv_iconst (v := 1) hx hb dX5_logs_108 (by decide) ?_
    refine lv_goto (tgt := 113) hx hb dX5_logs_109 (by decide) ?_
    refine x_iastE hx hb hK hP hD hS 1 0 rfl rfl (k := (442 + (17 * kn)) + 2) (g := mkM D1 S1 R1 N1 (nI kn) (upd (upd (upd L1 (17 * kn) bt) (17 * kn + 1) tol) (17 * kn + 2) 1)) (upM_L (j := (17 * kn + 2)) (by omega) (by omega)) (by omega) (by decide) dX5_logs_113 (fun H locs hP hD hS => ?_)
    have hP : va_P D vwCl [(mm, .inr (5, [.ref mn, .ref mh, .int kp, .ref ms, .int fl, .ref mr, .ref md, .ref mo, .ref mc, .int ty, .ref mt, .int at9, .int nu, .ref mq])), (mn, .inl (cI, 578, .inl (mkM D1 S1 R1 N1 (nI kn) (upd (upd (upd L1 (17 * kn) bt) (17 * kn + 1) tol) (17 * kn + 2) 1)))), (mc, .inl (cI, 9, .inl (cq)))] H := hP
    have hD : va_D (Ar) [(mm, .inr (5, [.ref mn, .ref mh, .int kp, .ref ms, .int fl, .ref mr, .ref md, .ref mo, .ref mc, .int ty, .ref mt, .int at9, .int nu, .ref mq])), (mn, .inl (cI, 578, .inl (mkM D1 S1 R1 N1 (nI kn) (upd (upd (upd L1 (17 * kn) bt) (17 * kn + 1) tol) (17 * kn + 2) 1)))), (mc, .inl (cI, 9, .inl (cq)))] := hD
    refine lv_aload_n hx hb dX5_logs_114 rfl (lv_at hl 1 rfl) ?_
    refine va_get (v := .ref mn) (D := D) (ci := 5) (C := RX5) (T := TX5) (N := 14) hx hb hts (by decide +kernel) hown hK hP 0 rfl rfl 0 (by decide) (hts (.fieldLink RX5 7 "SpiralFramesModel" "now" "[I") (by decide +kernel)) (fun _ h9 => h9) rfl dX5_logs_115 ?_
    refine lv_iload hx hb dX5_logs_118 (lv_at hl 0 rfl) ?_
    refine lv_iconst (v := 3) hx hb dX5_logs_120 (by decide) ?_
    refine lv_iadd hx hb dX5_logs_121 ?_
    refine x_eqi (show nI (442 + (17 * kn)) + 3 = nI ((442 + (17 * kn)) + 3) from nI_add (442 + (17 * kn)) 3) ?_
    refine lv_iload hx hb dX5_logs_122 (lv_at hl 5 rfl) ?_
    refine lv_if_eq (tgt := 131) hx hb dX5_logs_124 (by decide) (fun _ => ?_) (fun h => False.elim (by revert h; decide))
    refine lv_iconst (v := 0) hx hb dX5_logs_131 (by decide) ?_
    refine x_iastE hx hb hK hP hD hS 1 0 rfl rfl (k := (442 + (17 * kn)) + 3) (g := mkM D1 S1 R1 N1 (nI kn) (upd (upd (upd (upd L1 (17 * kn) bt) (17 * kn + 1) tol) (17 * kn + 2) 1) (17 * kn + 3) 0)) (upM_L (j := (17 * kn + 3)) (by omega) (by omega)) (by omega) (by decide) dX5_logs_132 (fun H locs hP hD hS => ?_)
    have hP : va_P D vwCl [(mm, .inr (5, [.ref mn, .ref mh, .int kp, .ref ms, .int fl, .ref mr, .ref md, .ref mo, .ref mc, .int ty, .ref mt, .int at9, .int nu, .ref mq])), (mn, .inl (cI, 578, .inl (mkM D1 S1 R1 N1 (nI kn) (upd (upd (upd (upd L1 (17 * kn) bt) (17 * kn + 1) tol) (17 * kn + 2) 1) (17 * kn + 3) 0)))), (mc, .inl (cI, 9, .inl (cq)))] H := hP
    have hD : va_D (Ar) [(mm, .inr (5, [.ref mn, .ref mh, .int kp, .ref ms, .int fl, .ref mr, .ref md, .ref mo, .ref mc, .int ty, .ref mt, .int at9, .int nu, .ref mq])), (mn, .inl (cI, 578, .inl (mkM D1 S1 R1 N1 (nI kn) (upd (upd (upd (upd L1 (17 * kn) bt) (17 * kn + 1) tol) (17 * kn + 2) 1) (17 * kn + 3) 0)))), (mc, .inl (cI, 9, .inl (cq)))] := hD
    refine lv_aload_n hx hb dX5_logs_133 rfl (lv_at hl 1 rfl) ?_
    refine va_get (v := .ref mn) (D := D) (ci := 5) (C := RX5) (T := TX5) (N := 14) hx hb hts (by decide +kernel) hown hK hP 0 rfl rfl 0 (by decide) (hts (.fieldLink RX5 7 "SpiralFramesModel" "now" "[I") (by decide +kernel)) (fun _ h9 => h9) rfl dX5_logs_134 ?_
    refine lv_iload hx hb dX5_logs_137 (lv_at hl 0 rfl) ?_
    refine lv_iconst (v := 4) hx hb dX5_logs_139 (by decide) ?_
    refine lv_iadd hx hb dX5_logs_140 ?_
    refine x_eqi (show nI (442 + (17 * kn)) + 4 = nI ((442 + (17 * kn)) + 4) from nI_add (442 + (17 * kn)) 4) ?_
    refine lv_iconst (v := 0) hx hb dX5_logs_141 (by decide) ?_
    refine x_iastE hx hb hK hP hD hS 1 0 rfl rfl (k := (442 + (17 * kn)) + 4) (g := mkM D1 S1 R1 N1 (nI kn) (upd (upd (upd (upd (upd L1 (17 * kn) bt) (17 * kn + 1) tol) (17 * kn + 2) 1) (17 * kn + 3) 0) (17 * kn + 4) 0)) (upM_L (j := (17 * kn + 4)) (by omega) (by omega)) (by omega) (by decide) dX5_logs_142 (fun H locs hP hD hS => ?_)
    have hP : va_P D vwCl [(mm, .inr (5, [.ref mn, .ref mh, .int kp, .ref ms, .int fl, .ref mr, .ref md, .ref mo, .ref mc, .int ty, .ref mt, .int at9, .int nu, .ref mq])), (mn, .inl (cI, 578, .inl (mkM D1 S1 R1 N1 (nI kn) (upd (upd (upd (upd (upd L1 (17 * kn) bt) (17 * kn + 1) tol) (17 * kn + 2) 1) (17 * kn + 3) 0) (17 * kn + 4) 0)))), (mc, .inl (cI, 9, .inl (cq)))] H := hP
    have hD : va_D (Ar) [(mm, .inr (5, [.ref mn, .ref mh, .int kp, .ref ms, .int fl, .ref mr, .ref md, .ref mo, .ref mc, .int ty, .ref mt, .int at9, .int nu, .ref mq])), (mn, .inl (cI, 578, .inl (mkM D1 S1 R1 N1 (nI kn) (upd (upd (upd (upd (upd L1 (17 * kn) bt) (17 * kn + 1) tol) (17 * kn + 2) 1) (17 * kn + 3) 0) (17 * kn + 4) 0)))), (mc, .inl (cI, 9, .inl (cq)))] := hD
    refine lv_aload_n hx hb dX5_logs_143 rfl (lv_at hl 1 rfl) ?_
    refine va_get (v := .ref mn) (D := D) (ci := 5) (C := RX5) (T := TX5) (N := 14) hx hb hts (by decide +kernel) hown hK hP 0 rfl rfl 0 (by decide) (hts (.fieldLink RX5 7 "SpiralFramesModel" "now" "[I") (by decide +kernel)) (fun _ h9 => h9) rfl dX5_logs_144 ?_
    refine lv_iload hx hb dX5_logs_147 (lv_at hl 0 rfl) ?_
    refine lv_iconst (v := 5) hx hb dX5_logs_149 (by decide) ?_
    refine lv_iadd hx hb dX5_logs_150 ?_
    refine x_eqi (show nI (442 + (17 * kn)) + 5 = nI ((442 + (17 * kn)) + 5) from nI_add (442 + (17 * kn)) 5) ?_
    refine lv_iconst (v := 0) hx hb dX5_logs_151 (by decide) ?_
    refine x_iastE hx hb hK hP hD hS 1 0 rfl rfl (k := (442 + (17 * kn)) + 5) (g := mkM D1 S1 R1 N1 (nI kn) (upd (upd (upd (upd (upd (upd L1 (17 * kn) bt) (17 * kn + 1) tol) (17 * kn + 2) 1) (17 * kn + 3) 0) (17 * kn + 4) 0) (17 * kn + 5) 0)) (upM_L (j := (17 * kn + 5)) (by omega) (by omega)) (by omega) (by decide) dX5_logs_152 (fun H locs hP hD hS => ?_)
    have hP : va_P D vwCl [(mm, .inr (5, [.ref mn, .ref mh, .int kp, .ref ms, .int fl, .ref mr, .ref md, .ref mo, .ref mc, .int ty, .ref mt, .int at9, .int nu, .ref mq])), (mn, .inl (cI, 578, .inl (mkM D1 S1 R1 N1 (nI kn) (upd (upd (upd (upd (upd (upd L1 (17 * kn) bt) (17 * kn + 1) tol) (17 * kn + 2) 1) (17 * kn + 3) 0) (17 * kn + 4) 0) (17 * kn + 5) 0)))), (mc, .inl (cI, 9, .inl (cq)))] H := hP
    have hD : va_D (Ar) [(mm, .inr (5, [.ref mn, .ref mh, .int kp, .ref ms, .int fl, .ref mr, .ref md, .ref mo, .ref mc, .int ty, .ref mt, .int at9, .int nu, .ref mq])), (mn, .inl (cI, 578, .inl (mkM D1 S1 R1 N1 (nI kn) (upd (upd (upd (upd (upd (upd L1 (17 * kn) bt) (17 * kn + 1) tol) (17 * kn + 2) 1) (17 * kn + 3) 0) (17 * kn + 4) 0) (17 * kn + 5) 0)))), (mc, .inl (cI, 9, .inl (cq)))] := hD
    refine lv_aload_n hx hb dX5_logs_153 rfl (lv_at hl 1 rfl) ?_
    refine va_get (v := .ref mn) (D := D) (ci := 5) (C := RX5) (T := TX5) (N := 14) hx hb hts (by decide +kernel) hown hK hP 0 rfl rfl 0 (by decide) (hts (.fieldLink RX5 7 "SpiralFramesModel" "now" "[I") (by decide +kernel)) (fun _ h9 => h9) rfl dX5_logs_154 ?_
    refine lv_iload hx hb dX5_logs_157 (lv_at hl 0 rfl) ?_
    refine lv_bipush (v := 6) hx hb dX5_logs_159 (by decide) ?_
    refine lv_iadd hx hb dX5_logs_161 ?_
    refine x_eqi (show nI (442 + (17 * kn)) + 6 = nI ((442 + (17 * kn)) + 6) from nI_add (442 + (17 * kn)) 6) ?_
    refine lv_iconst (v := 0) hx hb dX5_logs_162 (by decide) ?_
    refine x_iastE hx hb hK hP hD hS 1 0 rfl rfl (k := (442 + (17 * kn)) + 6) (g := mkM D1 S1 R1 N1 (nI kn) (upd (upd (upd (upd (upd (upd (upd L1 (17 * kn) bt) (17 * kn + 1) tol) (17 * kn + 2) 1) (17 * kn + 3) 0) (17 * kn + 4) 0) (17 * kn + 5) 0) (17 * kn + 6) 0)) (upM_L (j := (17 * kn + 6)) (by omega) (by omega)) (by omega) (by decide) dX5_logs_163 (fun H locs hP hD hS => ?_)
    have hP : va_P D vwCl [(mm, .inr (5, [.ref mn, .ref mh, .int kp, .ref ms, .int fl, .ref mr, .ref md, .ref mo, .ref mc, .int ty, .ref mt, .int at9, .int nu, .ref mq])), (mn, .inl (cI, 578, .inl (mkM D1 S1 R1 N1 (nI kn) (upd (upd (upd (upd (upd (upd (upd L1 (17 * kn) bt) (17 * kn + 1) tol) (17 * kn + 2) 1) (17 * kn + 3) 0) (17 * kn + 4) 0) (17 * kn + 5) 0) (17 * kn + 6) 0)))), (mc, .inl (cI, 9, .inl (cq)))] H := hP
    have hD : va_D (Ar) [(mm, .inr (5, [.ref mn, .ref mh, .int kp, .ref ms, .int fl, .ref mr, .ref md, .ref mo, .ref mc, .int ty, .ref mt, .int at9, .int nu, .ref mq])), (mn, .inl (cI, 578, .inl (mkM D1 S1 R1 N1 (nI kn) (upd (upd (upd (upd (upd (upd (upd L1 (17 * kn) bt) (17 * kn + 1) tol) (17 * kn + 2) 1) (17 * kn + 3) 0) (17 * kn + 4) 0) (17 * kn + 5) 0) (17 * kn + 6) 0)))), (mc, .inl (cI, 9, .inl (cq)))] := hD
    refine lv_iconst (v := 0) hx hb dX5_logs_164 (by decide) ?_
    refine lv_istore (lv' := [(6, .int 0), (5, .int (nI (442 + (17 * kn)))), (0, .ref mm), (1, .int bt), (2, .int tol), (3, .int 1), (4, .int 0)]) hx hb dX5_logs_165 hl (by decide) rfl (fun ls hl => ?_)
    have L167 : ∀ (fuel : Nat) (t : Nat) (g : Nat → Int32), (t ≤ 9) → (g = lgX L1 (17 * kn) bt tol (nI 1) (nI 0) cd t) → 9 - t < fuel → ∀ (H : Heap) (locs : List Loc), va_P D vwCl [(mm, .inr (5, [.ref mn, .ref mh, .int kp, .ref ms, .int fl, .ref mr, .ref md, .ref mo, .ref mc, .int ty, .ref mt, .int at9, .int nu, .ref mq])), (mn, .inl (cI, 578, .inl (mkM D1 S1 R1 N1 (nI kn) g))), (mc, .inl (cI, 9, .inl (cq)))] H → va_D (Ar) [(mm, .inr (5, [.ref mn, .ref mh, .int kp, .ref ms, .int fl, .ref mr, .ref md, .ref mo, .ref mc, .int ty, .ref mt, .int at9, .int nu, .ref mq])), (mn, .inl (cI, 578, .inl (mkM D1 S1 R1 N1 (nI kn) g))), (mc, .inl (cI, 9, .inl (cq)))] → va_S (Ar) s.heap H locs → ∀ (ls : Array Slot), lv_has ls 8 [(0, .ref mm), (5, .int (nI (442 + 17 * kn))), (6, .int (nI t))] → W p l e (headSpec wsX5_logs ({ frames := 4, cells := 0, slots := 0, locals := 98 } : Room)).room s m ([.ref mm, .int bt, .int tol, .int 1, .int 0] : List Value).toArray below meth c H locs 0 0 Q (F0 m 167 ls []) := by
      intro fuel
      induction fuel with
      | zero =>
        intro t g hi167_0 hi167_1 hfu
        exact absurd hfu (Nat.not_lt_zero _)
      | succ fuel ih167 =>
        intro t g hi167_0 hi167_1 hfu167 H locs hP hD hS ls hl
        refine lv_iload hx hb dX5_logs_167 (lv_at hl 2 rfl) ?_
        refine lv_bipush (v := 9) hx hb dX5_logs_169 (by decide) ?_
        refine x_icmp_ge (tgt := 249) hx hb dX5_logs_171 (by decide) (X := ((t : Nat) : Int)) (nI_toI (by omega)) (Y := 9) (show (9 : Int32).toInt = 9 from by decide) (fun c_171 => ?_) (fun c_171 => ?_)
        · skip
          refine lv_aload_n hx hb dX5_logs_249 rfl (lv_at hl 0 rfl) ?_
          refine va_get (v := .ref mn) (D := D) (ci := 5) (C := RX5) (T := TX5) (N := 14) hx hb hts (by decide +kernel) hown hK hP 0 rfl rfl 0 (by decide) (hts (.fieldLink RX5 7 "SpiralFramesModel" "now" "[I") (by decide +kernel)) (fun _ h9 => h9) rfl dX5_logs_250 ?_
          refine lv_iload hx hb dX5_logs_253 (lv_at hl 1 rfl) ?_
          refine lv_bipush (v := 7) hx hb dX5_logs_255 (by decide) ?_
          refine lv_iadd hx hb dX5_logs_257 ?_
          refine x_eqi (show nI (442 + 17 * kn) + 7 = nI ((442 + 17 * kn) + 7) from nI_add (442 + 17 * kn) 7) ?_
          refine lv_aload_n hx hb dX5_logs_258 rfl (lv_at hl 0 rfl) ?_
          refine lv_iconst (v := 0) hx hb dX5_logs_259 (by decide) ?_
          refine lv_iconst (v := 1) hx hb dX5_logs_260 (by decide) ?_
          refine x_callR (va_runV (As := [.int 0, .int 1]) (rest := [.int (nI ((442 + 17 * kn) + 7)), .ref mn]) ⟨hx, hb, hml, hown, hts⟩ (c_X5_whole l D cI cC cS tt mm mn mh ms mr md mo mc mt mq kp fl ty at9 nu D1 S1 R1 N1 (nI kn) g 0 1 (by first | omega | assumption | decide) (by first | omega | assumption | decide)) (cwV 2 hts gX5_logs_X5_whole rfl rfl rfl (by decide +kernel) ⟨Nat.le_of_ble_eq_true rfl, Nat.le_of_ble_eq_true rfl⟩) ⟨x_blindR, va_recv hK hP (ci := 5) (q0 := 0) rfl rfl, x_preR (hP.sub (ws' := [(mm, .inr (5, [.ref mn, .ref mh, .int kp, .ref ms, .int fl, .ref mr, .ref md, .ref mo, .ref mc, .int ty, .ref mt, .int at9, .int nu, .ref mq])), (mn, .inl (cI, 578, .inl (mkM D1 S1 R1 N1 (nI kn) g)))]) [0, 1] rfl) hK hE hS⟩ rfl rfl hl.1 rfl (lv_room (Nat.le_of_ble_eq_true rfl)) dX5_logs_261 ⟨(Nat.le_of_ble_eq_true rfl), (Nat.le_of_ble_eq_true rfl)⟩) ?_
          refine x_eqi (show wdS (pkN D1 S1 R1 0) (pkN D1 S1 R1 1) = wdS D1 S1 from rfl) ?_
          refine x_iastE hx hb hK hP hD hS 1 0 rfl rfl (k := (442 + 17 * kn) + 7) (g := mkM D1 S1 R1 N1 (nI kn) (upd g (17 * kn + 7) (wdS D1 S1))) (upM_L (j := (17 * kn + 7)) (by omega) (by omega)) (by omega) (by decide) dX5_logs_264 (fun H locs hP hD hS => ?_)
          have hP : va_P D vwCl [(mm, .inr (5, [.ref mn, .ref mh, .int kp, .ref ms, .int fl, .ref mr, .ref md, .ref mo, .ref mc, .int ty, .ref mt, .int at9, .int nu, .ref mq])), (mn, .inl (cI, 578, .inl (mkM D1 S1 R1 N1 (nI kn) (upd g (17 * kn + 7) (wdS D1 S1))))), (mc, .inl (cI, 9, .inl (cq)))] H := hP
          have hD : va_D (Ar) [(mm, .inr (5, [.ref mn, .ref mh, .int kp, .ref ms, .int fl, .ref mr, .ref md, .ref mo, .ref mc, .int ty, .ref mt, .int at9, .int nu, .ref mq])), (mn, .inl (cI, 578, .inl (mkM D1 S1 R1 N1 (nI kn) (upd g (17 * kn + 7) (wdS D1 S1))))), (mc, .inl (cI, 9, .inl (cq)))] := hD
          refine lv_aload_n hx hb dX5_logs_265 rfl (lv_at hl 0 rfl) ?_
          refine va_get (v := .ref mn) (D := D) (ci := 5) (C := RX5) (T := TX5) (N := 14) hx hb hts (by decide +kernel) hown hK hP 0 rfl rfl 0 (by decide) (hts (.fieldLink RX5 7 "SpiralFramesModel" "now" "[I") (by decide +kernel)) (fun _ h9 => h9) rfl dX5_logs_266 ?_
          refine lv_sipush (v := 441) hx hb dX5_logs_269 (by decide) ?_
          refine lv_dup2_11 hx hb dX5_logs_272 rfl rfl ?_
          refine x_eqi (show (441 : Int32) = nI 441 from by decide) ?_
          refine x_iald hx hb hK hP 1 0 rfl rfl (k := 441) (by omega) (by decide) dX5_logs_273 ?_
          refine x_eqi (show (mkM D1 S1 R1 N1 (nI kn) (upd g (17 * kn + 7) (wdS D1 S1))) 441 = (nI kn) from (mkM_K (by omega))) ?_
          refine lv_iconst (v := 1) hx hb dX5_logs_274 (by decide) ?_
          refine lv_iadd hx hb dX5_logs_275 ?_
          refine x_eqi (show nI kn + 1 = nI (kn + 1) from nI_add kn 1) ?_
          refine x_eqi2 (show (441 : Int32) = nI 441 from by decide) ?_
          refine x_iastE hx hb hK hP hD hS 1 0 rfl rfl (k := 441) (g := mkM D1 S1 R1 N1 (nI (kn + 1)) (upd g (17 * kn + 7) (wdS D1 S1))) (upM_K (by omega)) (by omega) (by decide) dX5_logs_276 (fun H locs hP hD hS => ?_)
          have hP : va_P D vwCl [(mm, .inr (5, [.ref mn, .ref mh, .int kp, .ref ms, .int fl, .ref mr, .ref md, .ref mo, .ref mc, .int ty, .ref mt, .int at9, .int nu, .ref mq])), (mn, .inl (cI, 578, .inl (mkM D1 S1 R1 N1 (nI (kn + 1)) (upd g (17 * kn + 7) (wdS D1 S1))))), (mc, .inl (cI, 9, .inl (cq)))] H := hP
          have hD : va_D (Ar) [(mm, .inr (5, [.ref mn, .ref mh, .int kp, .ref ms, .int fl, .ref mr, .ref md, .ref mo, .ref mc, .int ty, .ref mt, .int at9, .int nu, .ref mq])), (mn, .inl (cI, 578, .inl (mkM D1 S1 R1 N1 (nI (kn + 1)) (upd g (17 * kn + 7) (wdS D1 S1))))), (mc, .inl (cI, 9, .inl (cq)))] := hD
          refine x_vretW (w := [(mm, .inr (5, [.ref mn, .ref mh, .int kp, .ref ms, .int fl, .ref mr, .ref md, .ref mo, .ref mc, .int ty, .ref mt, .int at9, .int nu, .ref mq])), (mn, .inl (cI, 578, .inl (mkM D1 S1 R1 N1 (nI (kn + 1)) (upd g (17 * kn + 7) (wdS D1 S1))))), (mc, .inl (cI, 9, .inl (cq)))]) hQ hAe hx hb hr hlocks (hP.sub [0, 1, 2] rfl) (hD.sub [0, 1, 2] (by decide) rfl) hS ?_ dX5_logs_277
          have e9 : upd g (17 * kn + 7) (wdS D1 S1) = lgM L1 kn (lgR bt tol 1 0 cd (wdS D1 S1)) := by rw [hi167_1, show t = 9 by omega, lgX_e]; unfold lgM lgB; rw [if_neg (by omega), show min kn 7 = kn by omega]
          rw [e9, show min (kn + 1) 8 = kn + 1 by omega]
        · skip
          refine lv_aload_n hx hb dX5_logs_174 rfl (lv_at hl 0 rfl) ?_
          refine va_get (v := .ref mc) (D := D) (ci := 5) (C := RX5) (T := TX5) (N := 14) hx hb hts (by decide +kernel) hown hK hP 0 rfl rfl 8 (by decide) (hts (.fieldLink RX5 28 "SpiralFramesModel" "codes" "[I") (by decide +kernel)) (fun _ h9 => h9) rfl dX5_logs_175 ?_
          refine lv_iload hx hb dX5_logs_178 (lv_at hl 2 rfl) ?_
          refine x_iald hx hb hK hP 2 0 rfl rfl (k := t) (by omega) (by decide) dX5_logs_180 ?_
          refine x_eqi (show cq t = nI (cd t) from hh0 t (by omega)) ?_
          have cd25 := hh1 t
          refine x_if_ne (tgt := 188) hx hb dX5_logs_181 (by decide) (X := ((cd t : Nat) : Int)) (nI_toI (by omega)) (fun c_181 => ?_) (fun c_181 => ?_)
          · skip
            refine lv_aload_n hx hb dX5_logs_188 rfl (lv_at hl 0 rfl) ?_
            refine va_get (v := .ref mc) (D := D) (ci := 5) (C := RX5) (T := TX5) (N := 14) hx hb hts (by decide +kernel) hown hK hP 0 rfl rfl 8 (by decide) (hts (.fieldLink RX5 28 "SpiralFramesModel" "codes" "[I") (by decide +kernel)) (fun _ h9 => h9) rfl dX5_logs_189 ?_
            refine lv_iload hx hb dX5_logs_192 (lv_at hl 2 rfl) ?_
            refine x_iald hx hb hK hP 2 0 rfl rfl (k := t) (by omega) (by decide) dX5_logs_194 ?_
            refine x_eqi (show cq t = nI (cd t) from hh0 t (by omega)) ?_
            refine lv_bipush (v := 25) hx hb dX5_logs_195 (by decide) ?_
            refine x_icmp_ne (tgt := 204) hx hb dX5_logs_197 (by decide) (X := ((cd t : Nat) : Int)) (nI_toI (by omega)) (Y := 25) (show (25 : Int32).toInt = 25 from by decide) (fun c_197 => ?_) (fun c_197 => ?_)
            · skip
              refine lv_iconst (v := 1) hx hb dX5_logs_204 (by decide) ?_
              refine lv_istore (lv' := [(7, .int 1), (0, .ref mm), (5, .int (nI (442 + 17 * kn))), (6, .int (nI t))]) hx hb dX5_logs_205 hl (by decide) rfl (fun ls hl => ?_)
              refine lv_aload_n hx hb dX5_logs_207 rfl (lv_at hl 1 rfl) ?_
              refine va_get (v := .ref mn) (D := D) (ci := 5) (C := RX5) (T := TX5) (N := 14) hx hb hts (by decide +kernel) hown hK hP 0 rfl rfl 0 (by decide) (hts (.fieldLink RX5 7 "SpiralFramesModel" "now" "[I") (by decide +kernel)) (fun _ h9 => h9) rfl dX5_logs_208 ?_
              refine lv_iload hx hb dX5_logs_211 (lv_at hl 2 rfl) ?_
              refine lv_iconst (v := 4) hx hb dX5_logs_213 (by decide) ?_
              refine lv_iadd hx hb dX5_logs_214 ?_
              refine x_eqi (show nI (442 + 17 * kn) + 4 = nI ((442 + 17 * kn) + 4) from nI_add (442 + 17 * kn) 4) ?_
              refine lv_iload hx hb dX5_logs_215 (lv_at hl 0 rfl) ?_
              refine lv_iadd hx hb dX5_logs_217 ?_
              refine x_eqi (show nI ((442 + 17 * kn) + 4) + 1 = nI (((442 + 17 * kn) + 4) + 1) from nI_add ((442 + 17 * kn) + 4) 1) ?_
              refine lv_dup2_11 hx hb dX5_logs_218 rfl rfl ?_
              refine x_iald hx hb hK hP 1 0 rfl rfl (k := ((442 + 17 * kn) + 4) + 1) (by omega) (by decide) dX5_logs_219 ?_
              refine x_eqi (show (mkM D1 S1 R1 N1 (nI kn) g) (((442 + 17 * kn) + 4) + 1) = g (17 * kn + 4 + 1) from (mkM_L (j := (17 * kn + 4 + 1)) (by omega) (by omega))) ?_
              refine lv_iconst (v := 1) hx hb dX5_logs_220 (by decide) ?_
              refine lv_iadd hx hb dX5_logs_221 ?_
              refine x_iastE hx hb hK hP hD hS 1 0 rfl rfl (k := ((442 + 17 * kn) + 4) + 1) (g := mkM D1 S1 R1 N1 (nI kn) (upd g (17 * kn + 4 + 1) ((g (17 * kn + 4 + 1)) + 1))) (upM_L (j := (17 * kn + 4 + 1)) (by omega) (by omega)) (by omega) (by decide) dX5_logs_222 (fun H locs hP hD hS => ?_)
              have hP : va_P D vwCl [(mm, .inr (5, [.ref mn, .ref mh, .int kp, .ref ms, .int fl, .ref mr, .ref md, .ref mo, .ref mc, .int ty, .ref mt, .int at9, .int nu, .ref mq])), (mn, .inl (cI, 578, .inl (mkM D1 S1 R1 N1 (nI kn) (upd g (17 * kn + 4 + 1) ((g (17 * kn + 4 + 1)) + 1))))), (mc, .inl (cI, 9, .inl (cq)))] H := hP
              have hD : va_D (Ar) [(mm, .inr (5, [.ref mn, .ref mh, .int kp, .ref ms, .int fl, .ref mr, .ref md, .ref mo, .ref mc, .int ty, .ref mt, .int at9, .int nu, .ref mq])), (mn, .inl (cI, 578, .inl (mkM D1 S1 R1 N1 (nI kn) (upd g (17 * kn + 4 + 1) ((g (17 * kn + 4 + 1)) + 1))))), (mc, .inl (cI, 9, .inl (cq)))] := hD
              refine lv_aload_n hx hb dX5_logs_223 rfl (lv_at hl 1 rfl) ?_
              refine va_get (v := .ref mn) (D := D) (ci := 5) (C := RX5) (T := TX5) (N := 14) hx hb hts (by decide +kernel) hown hK hP 0 rfl rfl 0 (by decide) (hts (.fieldLink RX5 7 "SpiralFramesModel" "now" "[I") (by decide +kernel)) (fun _ h9 => h9) rfl dX5_logs_224 ?_
              refine lv_iload hx hb dX5_logs_227 (lv_at hl 2 rfl) ?_
              refine lv_bipush (v := 8) hx hb dX5_logs_229 (by decide) ?_
              refine lv_iadd hx hb dX5_logs_231 ?_
              refine x_eqi (show nI (442 + 17 * kn) + 8 = nI ((442 + 17 * kn) + 8) from nI_add (442 + 17 * kn) 8) ?_
              refine lv_iload hx hb dX5_logs_232 (lv_at hl 3 rfl) ?_
              refine lv_iadd hx hb dX5_logs_234 ?_
              refine x_eqi (show nI ((442 + 17 * kn) + 8) + nI t = nI (((442 + 17 * kn) + 8) + t) from nI_add ((442 + 17 * kn) + 8) t) ?_
              refine lv_aload_n hx hb dX5_logs_235 rfl (lv_at hl 1 rfl) ?_
              refine va_get (v := .ref mc) (D := D) (ci := 5) (C := RX5) (T := TX5) (N := 14) hx hb hts (by decide +kernel) hown hK hP 0 rfl rfl 8 (by decide) (hts (.fieldLink RX5 28 "SpiralFramesModel" "codes" "[I") (by decide +kernel)) (fun _ h9 => h9) rfl dX5_logs_236 ?_
              refine lv_iload hx hb dX5_logs_239 (lv_at hl 3 rfl) ?_
              refine x_iald hx hb hK hP 2 0 rfl rfl (k := t) (by omega) (by decide) dX5_logs_241 ?_
              refine x_eqi (show cq t = nI (cd t) from hh0 t (by omega)) ?_
              refine x_iastE hx hb hK hP hD hS 1 0 rfl rfl (k := ((442 + 17 * kn) + 8) + t) (g := mkM D1 S1 R1 N1 (nI kn) (upd (upd g (17 * kn + 4 + 1) ((g (17 * kn + 4 + 1)) + 1)) (17 * kn + 8 + t) (nI (cd t)))) (upM_L (j := (17 * kn + 8 + t)) (by omega) (by omega)) (by omega) (by decide) dX5_logs_242 (fun H locs hP hD hS => ?_)
              have hP : va_P D vwCl [(mm, .inr (5, [.ref mn, .ref mh, .int kp, .ref ms, .int fl, .ref mr, .ref md, .ref mo, .ref mc, .int ty, .ref mt, .int at9, .int nu, .ref mq])), (mn, .inl (cI, 578, .inl (mkM D1 S1 R1 N1 (nI kn) (upd (upd g (17 * kn + 4 + 1) ((g (17 * kn + 4 + 1)) + 1)) (17 * kn + 8 + t) (nI (cd t)))))), (mc, .inl (cI, 9, .inl (cq)))] H := hP
              have hD : va_D (Ar) [(mm, .inr (5, [.ref mn, .ref mh, .int kp, .ref ms, .int fl, .ref mr, .ref md, .ref mo, .ref mc, .int ty, .ref mt, .int at9, .int nu, .ref mq])), (mn, .inl (cI, 578, .inl (mkM D1 S1 R1 N1 (nI kn) (upd (upd g (17 * kn + 4 + 1) ((g (17 * kn + 4 + 1)) + 1)) (17 * kn + 8 + t) (nI (cd t)))))), (mc, .inl (cI, 9, .inl (cq)))] := hD
              refine lv_iinc (v := nI (t + 1)) (lv' := [(6, .int (nI (t + 1))), (7, .int 1), (0, .ref mm), (5, .int (nI (442 + 17 * kn)))]) hx hb dX5_logs_243 hl (k := 3) rfl (nI_add _ _) (by decide) rfl (fun ls hl => ?_)
              refine lv_goto (tgt := 167) hx hb dX5_logs_246 (by decide) ?_
              exact ih167 (t + 1) (upd (upd g (17 * kn + 4 + 1) ((g (17 * kn + 4 + 1)) + 1)) (17 * kn + 8 + t) (nI (cd t))) (by first | omega | assumption | rfl) (by rw [hi167_1]; first | exact lgX_s (kind := 0) (by omega) (by unfold kdN; rw [if_pos (by omega)]) (congrArg (fun z => z + 1) (lgX_k (by omega))) rfl | exact lgX_s (kind := 1) (by omega) (by unfold kdN; rw [if_neg (by omega), if_neg (by omega)]) (congrArg (fun z => z + 1) (lgX_k (by omega))) rfl | exact lgX_s (kind := 2) (by omega) (by unfold kdN; rw [if_neg (by omega), if_pos (by omega)]) (congrArg (fun z => z + 1) (lgX_k (by omega))) rfl) (by omega) H locs (hP.sub [0, 1, 2] rfl) (hD.sub [0, 1, 2] (by decide) rfl) hS ls (lv_sub hl [2, 3, 0] rfl)
            · skip
              refine lv_iconst (v := 2) hx hb dX5_logs_200 (by decide) ?_
              refine lv_goto (tgt := 205) hx hb dX5_logs_201 (by decide) ?_
              refine lv_istore (lv' := [(7, .int 2), (0, .ref mm), (5, .int (nI (442 + 17 * kn))), (6, .int (nI t))]) hx hb dX5_logs_205 hl (by decide) rfl (fun ls hl => ?_)
              refine lv_aload_n hx hb dX5_logs_207 rfl (lv_at hl 1 rfl) ?_
              refine va_get (v := .ref mn) (D := D) (ci := 5) (C := RX5) (T := TX5) (N := 14) hx hb hts (by decide +kernel) hown hK hP 0 rfl rfl 0 (by decide) (hts (.fieldLink RX5 7 "SpiralFramesModel" "now" "[I") (by decide +kernel)) (fun _ h9 => h9) rfl dX5_logs_208 ?_
              refine lv_iload hx hb dX5_logs_211 (lv_at hl 2 rfl) ?_
              refine lv_iconst (v := 4) hx hb dX5_logs_213 (by decide) ?_
              refine lv_iadd hx hb dX5_logs_214 ?_
              refine x_eqi (show nI (442 + 17 * kn) + 4 = nI ((442 + 17 * kn) + 4) from nI_add (442 + 17 * kn) 4) ?_
              refine lv_iload hx hb dX5_logs_215 (lv_at hl 0 rfl) ?_
              refine lv_iadd hx hb dX5_logs_217 ?_
              refine x_eqi (show nI ((442 + 17 * kn) + 4) + 2 = nI (((442 + 17 * kn) + 4) + 2) from nI_add ((442 + 17 * kn) + 4) 2) ?_
              refine lv_dup2_11 hx hb dX5_logs_218 rfl rfl ?_
              refine x_iald hx hb hK hP 1 0 rfl rfl (k := ((442 + 17 * kn) + 4) + 2) (by omega) (by decide) dX5_logs_219 ?_
              refine x_eqi (show (mkM D1 S1 R1 N1 (nI kn) g) (((442 + 17 * kn) + 4) + 2) = g (17 * kn + 4 + 2) from (mkM_L (j := (17 * kn + 4 + 2)) (by omega) (by omega))) ?_
              refine lv_iconst (v := 1) hx hb dX5_logs_220 (by decide) ?_
              refine lv_iadd hx hb dX5_logs_221 ?_
              refine x_iastE hx hb hK hP hD hS 1 0 rfl rfl (k := ((442 + 17 * kn) + 4) + 2) (g := mkM D1 S1 R1 N1 (nI kn) (upd g (17 * kn + 4 + 2) ((g (17 * kn + 4 + 2)) + 1))) (upM_L (j := (17 * kn + 4 + 2)) (by omega) (by omega)) (by omega) (by decide) dX5_logs_222 (fun H locs hP hD hS => ?_)
              have hP : va_P D vwCl [(mm, .inr (5, [.ref mn, .ref mh, .int kp, .ref ms, .int fl, .ref mr, .ref md, .ref mo, .ref mc, .int ty, .ref mt, .int at9, .int nu, .ref mq])), (mn, .inl (cI, 578, .inl (mkM D1 S1 R1 N1 (nI kn) (upd g (17 * kn + 4 + 2) ((g (17 * kn + 4 + 2)) + 1))))), (mc, .inl (cI, 9, .inl (cq)))] H := hP
              have hD : va_D (Ar) [(mm, .inr (5, [.ref mn, .ref mh, .int kp, .ref ms, .int fl, .ref mr, .ref md, .ref mo, .ref mc, .int ty, .ref mt, .int at9, .int nu, .ref mq])), (mn, .inl (cI, 578, .inl (mkM D1 S1 R1 N1 (nI kn) (upd g (17 * kn + 4 + 2) ((g (17 * kn + 4 + 2)) + 1))))), (mc, .inl (cI, 9, .inl (cq)))] := hD
              refine lv_aload_n hx hb dX5_logs_223 rfl (lv_at hl 1 rfl) ?_
              refine va_get (v := .ref mn) (D := D) (ci := 5) (C := RX5) (T := TX5) (N := 14) hx hb hts (by decide +kernel) hown hK hP 0 rfl rfl 0 (by decide) (hts (.fieldLink RX5 7 "SpiralFramesModel" "now" "[I") (by decide +kernel)) (fun _ h9 => h9) rfl dX5_logs_224 ?_
              refine lv_iload hx hb dX5_logs_227 (lv_at hl 2 rfl) ?_
              refine lv_bipush (v := 8) hx hb dX5_logs_229 (by decide) ?_
              refine lv_iadd hx hb dX5_logs_231 ?_
              refine x_eqi (show nI (442 + 17 * kn) + 8 = nI ((442 + 17 * kn) + 8) from nI_add (442 + 17 * kn) 8) ?_
              refine lv_iload hx hb dX5_logs_232 (lv_at hl 3 rfl) ?_
              refine lv_iadd hx hb dX5_logs_234 ?_
              refine x_eqi (show nI ((442 + 17 * kn) + 8) + nI t = nI (((442 + 17 * kn) + 8) + t) from nI_add ((442 + 17 * kn) + 8) t) ?_
              refine lv_aload_n hx hb dX5_logs_235 rfl (lv_at hl 1 rfl) ?_
              refine va_get (v := .ref mc) (D := D) (ci := 5) (C := RX5) (T := TX5) (N := 14) hx hb hts (by decide +kernel) hown hK hP 0 rfl rfl 8 (by decide) (hts (.fieldLink RX5 28 "SpiralFramesModel" "codes" "[I") (by decide +kernel)) (fun _ h9 => h9) rfl dX5_logs_236 ?_
              refine lv_iload hx hb dX5_logs_239 (lv_at hl 3 rfl) ?_
              refine x_iald hx hb hK hP 2 0 rfl rfl (k := t) (by omega) (by decide) dX5_logs_241 ?_
              refine x_eqi (show cq t = nI (cd t) from hh0 t (by omega)) ?_
              refine x_iastE hx hb hK hP hD hS 1 0 rfl rfl (k := ((442 + 17 * kn) + 8) + t) (g := mkM D1 S1 R1 N1 (nI kn) (upd (upd g (17 * kn + 4 + 2) ((g (17 * kn + 4 + 2)) + 1)) (17 * kn + 8 + t) (nI (cd t)))) (upM_L (j := (17 * kn + 8 + t)) (by omega) (by omega)) (by omega) (by decide) dX5_logs_242 (fun H locs hP hD hS => ?_)
              have hP : va_P D vwCl [(mm, .inr (5, [.ref mn, .ref mh, .int kp, .ref ms, .int fl, .ref mr, .ref md, .ref mo, .ref mc, .int ty, .ref mt, .int at9, .int nu, .ref mq])), (mn, .inl (cI, 578, .inl (mkM D1 S1 R1 N1 (nI kn) (upd (upd g (17 * kn + 4 + 2) ((g (17 * kn + 4 + 2)) + 1)) (17 * kn + 8 + t) (nI (cd t)))))), (mc, .inl (cI, 9, .inl (cq)))] H := hP
              have hD : va_D (Ar) [(mm, .inr (5, [.ref mn, .ref mh, .int kp, .ref ms, .int fl, .ref mr, .ref md, .ref mo, .ref mc, .int ty, .ref mt, .int at9, .int nu, .ref mq])), (mn, .inl (cI, 578, .inl (mkM D1 S1 R1 N1 (nI kn) (upd (upd g (17 * kn + 4 + 2) ((g (17 * kn + 4 + 2)) + 1)) (17 * kn + 8 + t) (nI (cd t)))))), (mc, .inl (cI, 9, .inl (cq)))] := hD
              refine lv_iinc (v := nI (t + 1)) (lv' := [(6, .int (nI (t + 1))), (7, .int 2), (0, .ref mm), (5, .int (nI (442 + 17 * kn)))]) hx hb dX5_logs_243 hl (k := 3) rfl (nI_add _ _) (by decide) rfl (fun ls hl => ?_)
              refine lv_goto (tgt := 167) hx hb dX5_logs_246 (by decide) ?_
              exact ih167 (t + 1) (upd (upd g (17 * kn + 4 + 2) ((g (17 * kn + 4 + 2)) + 1)) (17 * kn + 8 + t) (nI (cd t))) (by first | omega | assumption | rfl) (by rw [hi167_1]; first | exact lgX_s (kind := 0) (by omega) (by unfold kdN; rw [if_pos (by omega)]) (congrArg (fun z => z + 1) (lgX_k (by omega))) rfl | exact lgX_s (kind := 1) (by omega) (by unfold kdN; rw [if_neg (by omega), if_neg (by omega)]) (congrArg (fun z => z + 1) (lgX_k (by omega))) rfl | exact lgX_s (kind := 2) (by omega) (by unfold kdN; rw [if_neg (by omega), if_pos (by omega)]) (congrArg (fun z => z + 1) (lgX_k (by omega))) rfl) (by omega) H locs (hP.sub [0, 1, 2] rfl) (hD.sub [0, 1, 2] (by decide) rfl) hS ls (lv_sub hl [2, 3, 0] rfl)
          · skip
            refine lv_iconst (v := 0) hx hb dX5_logs_184 (by decide) ?_
            refine lv_goto (tgt := 205) hx hb dX5_logs_185 (by decide) ?_
            refine lv_istore (lv' := [(7, .int 0), (0, .ref mm), (5, .int (nI (442 + 17 * kn))), (6, .int (nI t))]) hx hb dX5_logs_205 hl (by decide) rfl (fun ls hl => ?_)
            refine lv_aload_n hx hb dX5_logs_207 rfl (lv_at hl 1 rfl) ?_
            refine va_get (v := .ref mn) (D := D) (ci := 5) (C := RX5) (T := TX5) (N := 14) hx hb hts (by decide +kernel) hown hK hP 0 rfl rfl 0 (by decide) (hts (.fieldLink RX5 7 "SpiralFramesModel" "now" "[I") (by decide +kernel)) (fun _ h9 => h9) rfl dX5_logs_208 ?_
            refine lv_iload hx hb dX5_logs_211 (lv_at hl 2 rfl) ?_
            refine lv_iconst (v := 4) hx hb dX5_logs_213 (by decide) ?_
            refine lv_iadd hx hb dX5_logs_214 ?_
            refine x_eqi (show nI (442 + 17 * kn) + 4 = nI ((442 + 17 * kn) + 4) from nI_add (442 + 17 * kn) 4) ?_
            refine lv_iload hx hb dX5_logs_215 (lv_at hl 0 rfl) ?_
            refine lv_iadd hx hb dX5_logs_217 ?_
            refine x_eqi (show nI ((442 + 17 * kn) + 4) + 0 = nI (((442 + 17 * kn) + 4) + 0) from nI_add ((442 + 17 * kn) + 4) 0) ?_
            refine lv_dup2_11 hx hb dX5_logs_218 rfl rfl ?_
            refine x_iald hx hb hK hP 1 0 rfl rfl (k := ((442 + 17 * kn) + 4) + 0) (by omega) (by decide) dX5_logs_219 ?_
            refine x_eqi (show (mkM D1 S1 R1 N1 (nI kn) g) (((442 + 17 * kn) + 4) + 0) = g (17 * kn + 4 + 0) from (mkM_L (j := (17 * kn + 4 + 0)) (by omega) (by omega))) ?_
            refine lv_iconst (v := 1) hx hb dX5_logs_220 (by decide) ?_
            refine lv_iadd hx hb dX5_logs_221 ?_
            refine x_iastE hx hb hK hP hD hS 1 0 rfl rfl (k := ((442 + 17 * kn) + 4) + 0) (g := mkM D1 S1 R1 N1 (nI kn) (upd g (17 * kn + 4 + 0) ((g (17 * kn + 4 + 0)) + 1))) (upM_L (j := (17 * kn + 4 + 0)) (by omega) (by omega)) (by omega) (by decide) dX5_logs_222 (fun H locs hP hD hS => ?_)
            have hP : va_P D vwCl [(mm, .inr (5, [.ref mn, .ref mh, .int kp, .ref ms, .int fl, .ref mr, .ref md, .ref mo, .ref mc, .int ty, .ref mt, .int at9, .int nu, .ref mq])), (mn, .inl (cI, 578, .inl (mkM D1 S1 R1 N1 (nI kn) (upd g (17 * kn + 4 + 0) ((g (17 * kn + 4 + 0)) + 1))))), (mc, .inl (cI, 9, .inl (cq)))] H := hP
            have hD : va_D (Ar) [(mm, .inr (5, [.ref mn, .ref mh, .int kp, .ref ms, .int fl, .ref mr, .ref md, .ref mo, .ref mc, .int ty, .ref mt, .int at9, .int nu, .ref mq])), (mn, .inl (cI, 578, .inl (mkM D1 S1 R1 N1 (nI kn) (upd g (17 * kn + 4 + 0) ((g (17 * kn + 4 + 0)) + 1))))), (mc, .inl (cI, 9, .inl (cq)))] := hD
            refine lv_aload_n hx hb dX5_logs_223 rfl (lv_at hl 1 rfl) ?_
            refine va_get (v := .ref mn) (D := D) (ci := 5) (C := RX5) (T := TX5) (N := 14) hx hb hts (by decide +kernel) hown hK hP 0 rfl rfl 0 (by decide) (hts (.fieldLink RX5 7 "SpiralFramesModel" "now" "[I") (by decide +kernel)) (fun _ h9 => h9) rfl dX5_logs_224 ?_
            refine lv_iload hx hb dX5_logs_227 (lv_at hl 2 rfl) ?_
            refine lv_bipush (v := 8) hx hb dX5_logs_229 (by decide) ?_
            refine lv_iadd hx hb dX5_logs_231 ?_
            refine x_eqi (show nI (442 + 17 * kn) + 8 = nI ((442 + 17 * kn) + 8) from nI_add (442 + 17 * kn) 8) ?_
            refine lv_iload hx hb dX5_logs_232 (lv_at hl 3 rfl) ?_
            refine lv_iadd hx hb dX5_logs_234 ?_
            refine x_eqi (show nI ((442 + 17 * kn) + 8) + nI t = nI (((442 + 17 * kn) + 8) + t) from nI_add ((442 + 17 * kn) + 8) t) ?_
            refine lv_aload_n hx hb dX5_logs_235 rfl (lv_at hl 1 rfl) ?_
            refine va_get (v := .ref mc) (D := D) (ci := 5) (C := RX5) (T := TX5) (N := 14) hx hb hts (by decide +kernel) hown hK hP 0 rfl rfl 8 (by decide) (hts (.fieldLink RX5 28 "SpiralFramesModel" "codes" "[I") (by decide +kernel)) (fun _ h9 => h9) rfl dX5_logs_236 ?_
            refine lv_iload hx hb dX5_logs_239 (lv_at hl 3 rfl) ?_
            refine x_iald hx hb hK hP 2 0 rfl rfl (k := t) (by omega) (by decide) dX5_logs_241 ?_
            refine x_eqi (show cq t = nI (cd t) from hh0 t (by omega)) ?_
            refine x_iastE hx hb hK hP hD hS 1 0 rfl rfl (k := ((442 + 17 * kn) + 8) + t) (g := mkM D1 S1 R1 N1 (nI kn) (upd (upd g (17 * kn + 4 + 0) ((g (17 * kn + 4 + 0)) + 1)) (17 * kn + 8 + t) (nI (cd t)))) (upM_L (j := (17 * kn + 8 + t)) (by omega) (by omega)) (by omega) (by decide) dX5_logs_242 (fun H locs hP hD hS => ?_)
            have hP : va_P D vwCl [(mm, .inr (5, [.ref mn, .ref mh, .int kp, .ref ms, .int fl, .ref mr, .ref md, .ref mo, .ref mc, .int ty, .ref mt, .int at9, .int nu, .ref mq])), (mn, .inl (cI, 578, .inl (mkM D1 S1 R1 N1 (nI kn) (upd (upd g (17 * kn + 4 + 0) ((g (17 * kn + 4 + 0)) + 1)) (17 * kn + 8 + t) (nI (cd t)))))), (mc, .inl (cI, 9, .inl (cq)))] H := hP
            have hD : va_D (Ar) [(mm, .inr (5, [.ref mn, .ref mh, .int kp, .ref ms, .int fl, .ref mr, .ref md, .ref mo, .ref mc, .int ty, .ref mt, .int at9, .int nu, .ref mq])), (mn, .inl (cI, 578, .inl (mkM D1 S1 R1 N1 (nI kn) (upd (upd g (17 * kn + 4 + 0) ((g (17 * kn + 4 + 0)) + 1)) (17 * kn + 8 + t) (nI (cd t)))))), (mc, .inl (cI, 9, .inl (cq)))] := hD
            refine lv_iinc (v := nI (t + 1)) (lv' := [(6, .int (nI (t + 1))), (7, .int 0), (0, .ref mm), (5, .int (nI (442 + 17 * kn)))]) hx hb dX5_logs_243 hl (k := 3) rfl (nI_add _ _) (by decide) rfl (fun ls hl => ?_)
            refine lv_goto (tgt := 167) hx hb dX5_logs_246 (by decide) ?_
            exact ih167 (t + 1) (upd (upd g (17 * kn + 4 + 0) ((g (17 * kn + 4 + 0)) + 1)) (17 * kn + 8 + t) (nI (cd t))) (by first | omega | assumption | rfl) (by rw [hi167_1]; first | exact lgX_s (kind := 0) (by omega) (by unfold kdN; rw [if_pos (by omega)]) (congrArg (fun z => z + 1) (lgX_k (by omega))) rfl | exact lgX_s (kind := 1) (by omega) (by unfold kdN; rw [if_neg (by omega), if_neg (by omega)]) (congrArg (fun z => z + 1) (lgX_k (by omega))) rfl | exact lgX_s (kind := 2) (by omega) (by unfold kdN; rw [if_neg (by omega), if_pos (by omega)]) (congrArg (fun z => z + 1) (lgX_k (by omega))) rfl) (by omega) H locs (hP.sub [0, 1, 2] rfl) (hD.sub [0, 1, 2] (by decide) rfl) hS ls (lv_sub hl [2, 3, 0] rfl)
    exact L167 _ 0 (upd (upd (upd (upd (upd (upd (upd L1 (17 * kn) bt) (17 * kn + 1) tol) (17 * kn + 2) 1) (17 * kn + 3) 0) (17 * kn + 4) 0) (17 * kn + 5) 0) (17 * kn + 6) 0) (by first | omega | assumption | rfl) lgX_0 (Nat.lt_succ_self _) H locs (hP.sub [0, 1, 2] rfl) (hD.sub [0, 1, 2] (by decide) rfl) hS ls (lv_sub hl [2, 1, 0] rfl)
set_option maxHeartbeats 4000000 in
set_option maxRecDepth 100000 in
theorem c_X5_logs_11 (l : Launch) (D : va_G) (cI cC cS : ClassId) (tt : Nat → Nat) (sz : Nat) (mm : Nat) (mn : Nat) (mh : Nat) (ms : Nat) (mr : Nat) (md : Nat) (mo : Nat) (mc : Nat) (mt : Nat) (mq : Nat) (kp : Int32) (fl : Int32) (ty : Int32) (at9 : Int32) (nu : Int32) (D1 : Nat → Int32) (S1 : Nat → Int32) (R1 : Nat → Int32) (N1 : Nat → Int32) (L1 : Nat → Int32) (kn : Nat) (cq : Nat → Int32) (cd : Nat → Nat) (bt : Int32) (tol : Int32) (hh0 : ∀ t9, t9 < 9 → cq t9 = nI (cd t9)) (hh1 : ∀ t9, cd t9 ≤ 25) (hh2 : kn ≤ 8) : Met l yX5_logs wsX5_logs ({ frames := 4, cells := 0, slots := 0, locals := 98 } : Room) (x_PW D cI cC cS tt [(mm, .inr (5, [.ref mn, .ref mh, .int kp, .ref ms, .int fl, .ref mr, .ref md, .ref mo, .ref mc, .int ty, .ref mt, .int at9, .int nu, .ref mq])), (mn, .inl (cI, 578, .inl (mkM D1 S1 R1 N1 (nI kn) L1))), (mc, .inl (cI, 9, .inl (cq)))] sz [.ref mm, .int bt, .int tol, .int 1, .int 1]) (x_QWv D [(mm, .inr (5, [.ref mn, .ref mh, .int kp, .ref ms, .int fl, .ref mr, .ref md, .ref mo, .ref mc, .int ty, .ref mt, .int at9, .int nu, .ref mq])), (mn, .inl (cI, 578, .inl (mkM D1 S1 R1 N1 (nI kn) L1))), (mc, .inl (cI, 9, .inl (cq)))] sz (fun (w : va_W) => w = [(mm, .inr (5, [.ref mn, .ref mh, .int kp, .ref ms, .int fl, .ref mr, .ref md, .ref mo, .ref mc, .int ty, .ref mt, .int at9, .int nu, .ref mq])), (mn, .inl (cI, 578, .inl (mkM D1 S1 R1 N1 (nI (min (kn + 1) 8)) (lgM L1 kn (lgR bt tol 1 1 cd (wdS D1 S1)))))), (mc, .inl (cI, 9, .inl (cq)))])) 0 0 (va_A [(mm, .inr (5, [.ref mn, .ref mh, .int kp, .ref ms, .int fl, .ref mr, .ref md, .ref mo, .ref mc, .int ty, .ref mt, .int at9, .int nu, .ref mq])), (mn, .inl (cI, 578, .inl (mkM D1 S1 R1 N1 (nI kn) L1))), (mc, .inl (cI, 9, .inl (cq)))] sz) := by
  refine Met.ofW (cc := cX5_logs) (maxL := 8) (ret := none) (by decide) rfl ?_
  intro p e s m args below meth c s₁ hBd hml hv
  obtain ⟨rfl, hsz, hP, hK, hD0, hE0⟩ := hv
  have hx := hBd.exec
  have hb := hBd.bytes
  have hr := hBd.returns
  have hts := atoms_spec (ws := wsX5_logs) hBd.pre
  have hown : s.vm.findClass RX5 = some m.cls := findClass_of_methodNamed hBd.named
  have hlocks := hBd.notSynchronized
  subst hsz
  obtain ⟨Ar, hAe⟩ : ∃ Ar : Nat → Prop, Ar = va_A [(mm, .inr (5, [.ref mn, .ref mh, .int kp, .ref ms, .int fl, .ref mr, .ref md, .ref mo, .ref mc, .int ty, .ref mt, .int at9, .int nu, .ref mq])), (mn, .inl (cI, 578, .inl (mkM D1 S1 R1 N1 (nI kn) L1))), (mc, .inl (cI, 9, .inl (cq)))] s.heap.size := ⟨_, rfl⟩
  have hD : va_D Ar [(mm, .inr (5, [.ref mn, .ref mh, .int kp, .ref ms, .int fl, .ref mr, .ref md, .ref mo, .ref mc, .int ty, .ref mt, .int at9, .int nu, .ref mq])), (mn, .inl (cI, 578, .inl (mkM D1 S1 R1 N1 (nI kn) L1))), (mc, .inl (cI, 9, .inl (cq)))] := by rw [hAe]; exact hD0.self
  have hA : ∀ q : Nat, s.heap.size ≤ q → Ar q := fun q h => by rw [hAe]; exact Or.inr h
  have hE : x_E tt Ar s := by rw [hAe]; exact hE0
  have hS : va_S Ar s.heap s.heap [] := va_S.rf
  have hl := lv_entry ([.ref mm, .int bt, .int tol, .int 1, .int 1]) (n := 8) (Nat.le_of_ble_eq_true rfl)
  rw [lg_entry_eq]
  generalize (lg_sl ([.ref mm, .int bt, .int tol, .int 1, .int 1]) ++ List.replicate (8 - (lg_sl ([.ref mm, .int bt, .int tol, .int 1, .int 1])).length) Slot.unset).toArray = ls at hl ⊢
  have hl : lv_has ls 8 [(0, .ref mm), (1, .int bt), (2, .int tol), (3, .int 1), (4, .int 1)] := hl
  refine x_genQ (fun Q hQ => ?_)
  rcases (show kn = 8 ∨ kn < 8 by omega) with hk8 | hk8
  · skip
    subst hk8
    refine lv_aload_n hx hb dX5_logs_0 rfl (lv_at hl 0 rfl) ?_
    refine va_get (v := .ref mn) (D := D) (ci := 5) (C := RX5) (T := TX5) (N := 14) hx hb hts (by decide +kernel) hown hK hP 0 rfl rfl 0 (by decide) (hts (.fieldLink RX5 7 "SpiralFramesModel" "now" "[I") (by decide +kernel)) (fun _ h9 => h9) rfl dX5_logs_1 ?_
    refine lv_sipush (v := 441) hx hb dX5_logs_4 (by decide) ?_
    refine x_eqi (show (441 : Int32) = nI 441 from by decide) ?_
    refine x_iald hx hb hK hP 1 0 rfl rfl (k := 441) (by omega) (by decide) dX5_logs_7 ?_
    refine x_eqi (show (mkM D1 S1 R1 N1 (nI 8) L1) 441 = (nI 8) from (mkM_K (by omega))) ?_
    refine lv_bipush (v := 8) hx hb dX5_logs_8 (by decide) ?_
    refine x_icmp_ne (tgt := 61) hx hb dX5_logs_10 (by decide) (X := ((8 : Nat) : Int)) (nI_toI (by omega)) (Y := 8) (show (8 : Int32).toInt = 8 from by decide) (fun h => False.elim (by omega)) (fun _ => ?_)
    refine lv_sipush (v := 442) hx hb dX5_logs_13 (by decide) ?_
    refine lv_istore (lv' := [(5, .int 442), (0, .ref mm), (1, .int bt), (2, .int tol), (3, .int 1), (4, .int 1)]) hx hb dX5_logs_16 hl (by decide) rfl (fun ls hl => ?_)
    have L18 : ∀ (fuel : Nat) (j : Nat) (f : Nat → Int32), (442 ≤ j) → (j ≤ 561) → (f = shL L1 (j - 442)) → 561 - j < fuel → ∀ (H : Heap) (locs : List Loc), va_P D vwCl [(mm, .inr (5, [.ref mn, .ref mh, .int kp, .ref ms, .int fl, .ref mr, .ref md, .ref mo, .ref mc, .int ty, .ref mt, .int at9, .int nu, .ref mq])), (mn, .inl (cI, 578, .inl (mkM D1 S1 R1 N1 (nI 8) f))), (mc, .inl (cI, 9, .inl (cq)))] H → va_D (Ar) [(mm, .inr (5, [.ref mn, .ref mh, .int kp, .ref ms, .int fl, .ref mr, .ref md, .ref mo, .ref mc, .int ty, .ref mt, .int at9, .int nu, .ref mq])), (mn, .inl (cI, 578, .inl (mkM D1 S1 R1 N1 (nI 8) f))), (mc, .inl (cI, 9, .inl (cq)))] → va_S (Ar) s.heap H locs → ∀ (ls : Array Slot), lv_has ls 8 [(0, .ref mm), (1, .int bt), (2, .int tol), (3, .int 1), (4, .int 1), (5, .int (nI j))] → W p l e (headSpec wsX5_logs ({ frames := 4, cells := 0, slots := 0, locals := 98 } : Room)).room s m ([.ref mm, .int bt, .int tol, .int 1, .int 1] : List Value).toArray below meth c H locs 0 0 Q (F0 m 18 ls []) := by
      intro fuel
      induction fuel with
      | zero =>
        intro j f hi18_0 hi18_1 hi18_2 hfu
        exact absurd hfu (Nat.not_lt_zero _)
      | succ fuel ih18 =>
        intro j f hi18_0 hi18_1 hi18_2 hfu18 H locs hP hD hS ls hl
        refine lv_iload hx hb dX5_logs_18 (lv_at hl 5 rfl) ?_
        refine lv_sipush (v := 561) hx hb dX5_logs_20 (by decide) ?_
        refine x_icmp_ge (tgt := 49) hx hb dX5_logs_23 (by decide) (X := ((j : Nat) : Int)) (nI_toI (by omega)) (Y := 561) (show (561 : Int32).toInt = 561 from by decide) (fun c_23 => ?_) (fun c_23 => ?_)
        · skip
          refine lv_aload_n hx hb dX5_logs_49 rfl (lv_at hl 0 rfl) ?_
          refine va_get (v := .ref mn) (D := D) (ci := 5) (C := RX5) (T := TX5) (N := 14) hx hb hts (by decide +kernel) hown hK hP 0 rfl rfl 0 (by decide) (hts (.fieldLink RX5 7 "SpiralFramesModel" "now" "[I") (by decide +kernel)) (fun _ h9 => h9) rfl dX5_logs_50 ?_
          refine lv_sipush (v := 441) hx hb dX5_logs_53 (by decide) ?_
          refine lv_dup2_11 hx hb dX5_logs_56 rfl rfl ?_
          refine x_eqi (show (441 : Int32) = nI 441 from by decide) ?_
          refine x_iald hx hb hK hP 1 0 rfl rfl (k := 441) (by omega) (by decide) dX5_logs_57 ?_
          refine x_eqi (show (mkM D1 S1 R1 N1 (nI 8) f) 441 = (nI 8) from (mkM_K (by omega))) ?_
          refine lv_iconst (v := 1) hx hb dX5_logs_58 (by decide) ?_
          refine lv_isub hx hb dX5_logs_59 ?_
          refine x_eqi (show (nI 8) - 1 = nI (7) from x_eqN (x_subI (nI_toI (by omega)) (show (1 : Int32).toInt = 1 from by decide) (by omega) (by omega)) (by omega)) ?_
          refine x_eqi2 (show (441 : Int32) = nI 441 from by decide) ?_
          refine x_iastE hx hb hK hP hD hS 1 0 rfl rfl (k := 441) (g := mkM D1 S1 R1 N1 (nI 7) f) (upM_K (by omega)) (by omega) (by decide) dX5_logs_60 (fun H locs hP hD hS => ?_)
          have hP : va_P D vwCl [(mm, .inr (5, [.ref mn, .ref mh, .int kp, .ref ms, .int fl, .ref mr, .ref md, .ref mo, .ref mc, .int ty, .ref mt, .int at9, .int nu, .ref mq])), (mn, .inl (cI, 578, .inl (mkM D1 S1 R1 N1 (nI 7) f))), (mc, .inl (cI, 9, .inl (cq)))] H := hP
          have hD : va_D (Ar) [(mm, .inr (5, [.ref mn, .ref mh, .int kp, .ref ms, .int fl, .ref mr, .ref md, .ref mo, .ref mc, .int ty, .ref mt, .int at9, .int nu, .ref mq])), (mn, .inl (cI, 578, .inl (mkM D1 S1 R1 N1 (nI 7) f))), (mc, .inl (cI, 9, .inl (cq)))] := hD
          refine lv_sipush (v := 442) hx hb dX5_logs_61 (by decide) ?_
          refine lv_bipush (v := 17) hx hb dX5_logs_64 (by decide) ?_
          refine lv_aload_n hx hb dX5_logs_66 rfl (lv_at hl 0 rfl) ?_
          refine va_get (v := .ref mn) (D := D) (ci := 5) (C := RX5) (T := TX5) (N := 14) hx hb hts (by decide +kernel) hown hK hP 0 rfl rfl 0 (by decide) (hts (.fieldLink RX5 7 "SpiralFramesModel" "now" "[I") (by decide +kernel)) (fun _ h9 => h9) rfl dX5_logs_67 ?_
          refine lv_sipush (v := 441) hx hb dX5_logs_70 (by decide) ?_
          refine x_eqi (show (441 : Int32) = nI 441 from by decide) ?_
          refine x_iald hx hb hK hP 1 0 rfl rfl (k := 441) (by omega) (by decide) dX5_logs_73 ?_
          refine x_eqi (show (mkM D1 S1 R1 N1 (nI 7) f) 441 = (nI 7) from (mkM_K (by omega))) ?_
          refine lv_imul hx hb dX5_logs_74 ?_
          refine x_eqi (show 17 * nI 7 = nI (17 * 7) from pk_mul 17 7) ?_
          refine lv_iadd hx hb dX5_logs_75 ?_
          refine x_eqi (show 442 + nI (17 * 7) = nI (442 + (17 * 7)) from nI_add 442 (17 * 7)) ?_
          refine lv_istore (lv' := [(5, .int (nI (442 + (17 * 7)))), (0, .ref mm), (1, .int bt), (2, .int tol), (3, .int 1), (4, .int 1)]) hx hb dX5_logs_76 hl (by decide) rfl (fun ls hl => ?_)
          refine lv_aload_n hx hb dX5_logs_78 rfl (lv_at hl 1 rfl) ?_
          refine va_get (v := .ref mn) (D := D) (ci := 5) (C := RX5) (T := TX5) (N := 14) hx hb hts (by decide +kernel) hown hK hP 0 rfl rfl 0 (by decide) (hts (.fieldLink RX5 7 "SpiralFramesModel" "now" "[I") (by decide +kernel)) (fun _ h9 => h9) rfl dX5_logs_79 ?_
          refine lv_iload hx hb dX5_logs_82 (lv_at hl 0 rfl) ?_
          refine lv_iload_n hx hb dX5_logs_84 rfl (lv_at hl 2 rfl) ?_
          refine x_iastE hx hb hK hP hD hS 1 0 rfl rfl (k := 442 + (17 * 7)) (g := mkM D1 S1 R1 N1 (nI 7) (upd f (17 * 7) bt)) (upM_L (j := (17 * 7)) (by omega) (by omega)) (by omega) (by decide) dX5_logs_85 (fun H locs hP hD hS => ?_)
          have hP : va_P D vwCl [(mm, .inr (5, [.ref mn, .ref mh, .int kp, .ref ms, .int fl, .ref mr, .ref md, .ref mo, .ref mc, .int ty, .ref mt, .int at9, .int nu, .ref mq])), (mn, .inl (cI, 578, .inl (mkM D1 S1 R1 N1 (nI 7) (upd f (17 * 7) bt)))), (mc, .inl (cI, 9, .inl (cq)))] H := hP
          have hD : va_D (Ar) [(mm, .inr (5, [.ref mn, .ref mh, .int kp, .ref ms, .int fl, .ref mr, .ref md, .ref mo, .ref mc, .int ty, .ref mt, .int at9, .int nu, .ref mq])), (mn, .inl (cI, 578, .inl (mkM D1 S1 R1 N1 (nI 7) (upd f (17 * 7) bt)))), (mc, .inl (cI, 9, .inl (cq)))] := hD
          refine lv_aload_n hx hb dX5_logs_86 rfl (lv_at hl 1 rfl) ?_
          refine va_get (v := .ref mn) (D := D) (ci := 5) (C := RX5) (T := TX5) (N := 14) hx hb hts (by decide +kernel) hown hK hP 0 rfl rfl 0 (by decide) (hts (.fieldLink RX5 7 "SpiralFramesModel" "now" "[I") (by decide +kernel)) (fun _ h9 => h9) rfl dX5_logs_87 ?_
          refine lv_iload hx hb dX5_logs_90 (lv_at hl 0 rfl) ?_
          refine lv_iconst (v := 1) hx hb dX5_logs_92 (by decide) ?_
          refine lv_iadd hx hb dX5_logs_93 ?_
          refine x_eqi (show nI (442 + (17 * 7)) + 1 = nI ((442 + (17 * 7)) + 1) from nI_add (442 + (17 * 7)) 1) ?_
          refine lv_iload_n hx hb dX5_logs_94 rfl (lv_at hl 3 rfl) ?_
          refine x_iastE hx hb hK hP hD hS 1 0 rfl rfl (k := (442 + (17 * 7)) + 1) (g := mkM D1 S1 R1 N1 (nI 7) (upd (upd f (17 * 7) bt) (17 * 7 + 1) tol)) (upM_L (j := (17 * 7 + 1)) (by omega) (by omega)) (by omega) (by decide) dX5_logs_95 (fun H locs hP hD hS => ?_)
          have hP : va_P D vwCl [(mm, .inr (5, [.ref mn, .ref mh, .int kp, .ref ms, .int fl, .ref mr, .ref md, .ref mo, .ref mc, .int ty, .ref mt, .int at9, .int nu, .ref mq])), (mn, .inl (cI, 578, .inl (mkM D1 S1 R1 N1 (nI 7) (upd (upd f (17 * 7) bt) (17 * 7 + 1) tol)))), (mc, .inl (cI, 9, .inl (cq)))] H := hP
          have hD : va_D (Ar) [(mm, .inr (5, [.ref mn, .ref mh, .int kp, .ref ms, .int fl, .ref mr, .ref md, .ref mo, .ref mc, .int ty, .ref mt, .int at9, .int nu, .ref mq])), (mn, .inl (cI, 578, .inl (mkM D1 S1 R1 N1 (nI 7) (upd (upd f (17 * 7) bt) (17 * 7 + 1) tol)))), (mc, .inl (cI, 9, .inl (cq)))] := hD
          refine lv_aload_n hx hb dX5_logs_96 rfl (lv_at hl 1 rfl) ?_
          refine va_get (v := .ref mn) (D := D) (ci := 5) (C := RX5) (T := TX5) (N := 14) hx hb hts (by decide +kernel) hown hK hP 0 rfl rfl 0 (by decide) (hts (.fieldLink RX5 7 "SpiralFramesModel" "now" "[I") (by decide +kernel)) (fun _ h9 => h9) rfl dX5_logs_97 ?_
          refine lv_iload hx hb dX5_logs_100 (lv_at hl 0 rfl) ?_
          refine lv_iconst (v := 2) hx hb dX5_logs_102 (by decide) ?_
          refine lv_iadd hx hb dX5_logs_103 ?_
          refine x_eqi (show nI (442 + (17 * 7)) + 2 = nI ((442 + (17 * 7)) + 2) from nI_add (442 + (17 * 7)) 2) ?_
          refine lv_iload_n hx hb dX5_logs_104 rfl (lv_at hl 4 rfl) ?_
          refine lv_if_eq (tgt := 112) hx hb dX5_logs_105 (by decide) (fun h => False.elim (by revert h; decide)) (fun _ => ?_)
          refine lv_iconst (v := 1) hx hb dX5_logs_108 (by decide) ?_
          refine lv_goto (tgt := 113) hx hb dX5_logs_109 (by decide) ?_
          refine x_iastE hx hb hK hP hD hS 1 0 rfl rfl (k := (442 + (17 * 7)) + 2) (g := mkM D1 S1 R1 N1 (nI 7) (upd (upd (upd f (17 * 7) bt) (17 * 7 + 1) tol) (17 * 7 + 2) 1)) (upM_L (j := (17 * 7 + 2)) (by omega) (by omega)) (by omega) (by decide) dX5_logs_113 (fun H locs hP hD hS => ?_)
          have hP : va_P D vwCl [(mm, .inr (5, [.ref mn, .ref mh, .int kp, .ref ms, .int fl, .ref mr, .ref md, .ref mo, .ref mc, .int ty, .ref mt, .int at9, .int nu, .ref mq])), (mn, .inl (cI, 578, .inl (mkM D1 S1 R1 N1 (nI 7) (upd (upd (upd f (17 * 7) bt) (17 * 7 + 1) tol) (17 * 7 + 2) 1)))), (mc, .inl (cI, 9, .inl (cq)))] H := hP
          have hD : va_D (Ar) [(mm, .inr (5, [.ref mn, .ref mh, .int kp, .ref ms, .int fl, .ref mr, .ref md, .ref mo, .ref mc, .int ty, .ref mt, .int at9, .int nu, .ref mq])), (mn, .inl (cI, 578, .inl (mkM D1 S1 R1 N1 (nI 7) (upd (upd (upd f (17 * 7) bt) (17 * 7 + 1) tol) (17 * 7 + 2) 1)))), (mc, .inl (cI, 9, .inl (cq)))] := hD
          refine lv_aload_n hx hb dX5_logs_114 rfl (lv_at hl 1 rfl) ?_
          refine va_get (v := .ref mn) (D := D) (ci := 5) (C := RX5) (T := TX5) (N := 14) hx hb hts (by decide +kernel) hown hK hP 0 rfl rfl 0 (by decide) (hts (.fieldLink RX5 7 "SpiralFramesModel" "now" "[I") (by decide +kernel)) (fun _ h9 => h9) rfl dX5_logs_115 ?_
          refine lv_iload hx hb dX5_logs_118 (lv_at hl 0 rfl) ?_
          refine lv_iconst (v := 3) hx hb dX5_logs_120 (by decide) ?_
          refine lv_iadd hx hb dX5_logs_121 ?_
          refine x_eqi (show nI (442 + (17 * 7)) + 3 = nI ((442 + (17 * 7)) + 3) from nI_add (442 + (17 * 7)) 3) ?_
          refine lv_iload hx hb dX5_logs_122 (lv_at hl 5 rfl) ?_
          refine lv_if_eq (tgt := 131) hx hb dX5_logs_124 (by decide) (fun h => False.elim (by revert h; decide)) (fun _ => ?_)
          refine lv_iconst (v := 1) hx hb dX5_logs_127 (by decide) ?_
          refine lv_goto (tgt := 132) hx hb dX5_logs_128 (by decide) ?_
          refine x_iastE hx hb hK hP hD hS 1 0 rfl rfl (k := (442 + (17 * 7)) + 3) (g := mkM D1 S1 R1 N1 (nI 7) (upd (upd (upd (upd f (17 * 7) bt) (17 * 7 + 1) tol) (17 * 7 + 2) 1) (17 * 7 + 3) 1)) (upM_L (j := (17 * 7 + 3)) (by omega) (by omega)) (by omega) (by decide) dX5_logs_132 (fun H locs hP hD hS => ?_)
          have hP : va_P D vwCl [(mm, .inr (5, [.ref mn, .ref mh, .int kp, .ref ms, .int fl, .ref mr, .ref md, .ref mo, .ref mc, .int ty, .ref mt, .int at9, .int nu, .ref mq])), (mn, .inl (cI, 578, .inl (mkM D1 S1 R1 N1 (nI 7) (upd (upd (upd (upd f (17 * 7) bt) (17 * 7 + 1) tol) (17 * 7 + 2) 1) (17 * 7 + 3) 1)))), (mc, .inl (cI, 9, .inl (cq)))] H := hP
          have hD : va_D (Ar) [(mm, .inr (5, [.ref mn, .ref mh, .int kp, .ref ms, .int fl, .ref mr, .ref md, .ref mo, .ref mc, .int ty, .ref mt, .int at9, .int nu, .ref mq])), (mn, .inl (cI, 578, .inl (mkM D1 S1 R1 N1 (nI 7) (upd (upd (upd (upd f (17 * 7) bt) (17 * 7 + 1) tol) (17 * 7 + 2) 1) (17 * 7 + 3) 1)))), (mc, .inl (cI, 9, .inl (cq)))] := hD
          refine lv_aload_n hx hb dX5_logs_133 rfl (lv_at hl 1 rfl) ?_
          refine va_get (v := .ref mn) (D := D) (ci := 5) (C := RX5) (T := TX5) (N := 14) hx hb hts (by decide +kernel) hown hK hP 0 rfl rfl 0 (by decide) (hts (.fieldLink RX5 7 "SpiralFramesModel" "now" "[I") (by decide +kernel)) (fun _ h9 => h9) rfl dX5_logs_134 ?_
          refine lv_iload hx hb dX5_logs_137 (lv_at hl 0 rfl) ?_
          refine lv_iconst (v := 4) hx hb dX5_logs_139 (by decide) ?_
          refine lv_iadd hx hb dX5_logs_140 ?_
          refine x_eqi (show nI (442 + (17 * 7)) + 4 = nI ((442 + (17 * 7)) + 4) from nI_add (442 + (17 * 7)) 4) ?_
          refine lv_iconst (v := 0) hx hb dX5_logs_141 (by decide) ?_
          refine x_iastE hx hb hK hP hD hS 1 0 rfl rfl (k := (442 + (17 * 7)) + 4) (g := mkM D1 S1 R1 N1 (nI 7) (upd (upd (upd (upd (upd f (17 * 7) bt) (17 * 7 + 1) tol) (17 * 7 + 2) 1) (17 * 7 + 3) 1) (17 * 7 + 4) 0)) (upM_L (j := (17 * 7 + 4)) (by omega) (by omega)) (by omega) (by decide) dX5_logs_142 (fun H locs hP hD hS => ?_)
          have hP : va_P D vwCl [(mm, .inr (5, [.ref mn, .ref mh, .int kp, .ref ms, .int fl, .ref mr, .ref md, .ref mo, .ref mc, .int ty, .ref mt, .int at9, .int nu, .ref mq])), (mn, .inl (cI, 578, .inl (mkM D1 S1 R1 N1 (nI 7) (upd (upd (upd (upd (upd f (17 * 7) bt) (17 * 7 + 1) tol) (17 * 7 + 2) 1) (17 * 7 + 3) 1) (17 * 7 + 4) 0)))), (mc, .inl (cI, 9, .inl (cq)))] H := hP
          have hD : va_D (Ar) [(mm, .inr (5, [.ref mn, .ref mh, .int kp, .ref ms, .int fl, .ref mr, .ref md, .ref mo, .ref mc, .int ty, .ref mt, .int at9, .int nu, .ref mq])), (mn, .inl (cI, 578, .inl (mkM D1 S1 R1 N1 (nI 7) (upd (upd (upd (upd (upd f (17 * 7) bt) (17 * 7 + 1) tol) (17 * 7 + 2) 1) (17 * 7 + 3) 1) (17 * 7 + 4) 0)))), (mc, .inl (cI, 9, .inl (cq)))] := hD
          refine lv_aload_n hx hb dX5_logs_143 rfl (lv_at hl 1 rfl) ?_
          refine va_get (v := .ref mn) (D := D) (ci := 5) (C := RX5) (T := TX5) (N := 14) hx hb hts (by decide +kernel) hown hK hP 0 rfl rfl 0 (by decide) (hts (.fieldLink RX5 7 "SpiralFramesModel" "now" "[I") (by decide +kernel)) (fun _ h9 => h9) rfl dX5_logs_144 ?_
          refine lv_iload hx hb dX5_logs_147 (lv_at hl 0 rfl) ?_
          refine lv_iconst (v := 5) hx hb dX5_logs_149 (by decide) ?_
          refine lv_iadd hx hb dX5_logs_150 ?_
          refine x_eqi (show nI (442 + (17 * 7)) + 5 = nI ((442 + (17 * 7)) + 5) from nI_add (442 + (17 * 7)) 5) ?_
          refine lv_iconst (v := 0) hx hb dX5_logs_151 (by decide) ?_
          refine x_iastE hx hb hK hP hD hS 1 0 rfl rfl (k := (442 + (17 * 7)) + 5) (g := mkM D1 S1 R1 N1 (nI 7) (upd (upd (upd (upd (upd (upd f (17 * 7) bt) (17 * 7 + 1) tol) (17 * 7 + 2) 1) (17 * 7 + 3) 1) (17 * 7 + 4) 0) (17 * 7 + 5) 0)) (upM_L (j := (17 * 7 + 5)) (by omega) (by omega)) (by omega) (by decide) dX5_logs_152 (fun H locs hP hD hS => ?_)
          have hP : va_P D vwCl [(mm, .inr (5, [.ref mn, .ref mh, .int kp, .ref ms, .int fl, .ref mr, .ref md, .ref mo, .ref mc, .int ty, .ref mt, .int at9, .int nu, .ref mq])), (mn, .inl (cI, 578, .inl (mkM D1 S1 R1 N1 (nI 7) (upd (upd (upd (upd (upd (upd f (17 * 7) bt) (17 * 7 + 1) tol) (17 * 7 + 2) 1) (17 * 7 + 3) 1) (17 * 7 + 4) 0) (17 * 7 + 5) 0)))), (mc, .inl (cI, 9, .inl (cq)))] H := hP
          have hD : va_D (Ar) [(mm, .inr (5, [.ref mn, .ref mh, .int kp, .ref ms, .int fl, .ref mr, .ref md, .ref mo, .ref mc, .int ty, .ref mt, .int at9, .int nu, .ref mq])), (mn, .inl (cI, 578, .inl (mkM D1 S1 R1 N1 (nI 7) (upd (upd (upd (upd (upd (upd f (17 * 7) bt) (17 * 7 + 1) tol) (17 * 7 + 2) 1) (17 * 7 + 3) 1) (17 * 7 + 4) 0) (17 * 7 + 5) 0)))), (mc, .inl (cI, 9, .inl (cq)))] := hD
          refine lv_aload_n hx hb dX5_logs_153 rfl (lv_at hl 1 rfl) ?_
          refine va_get (v := .ref mn) (D := D) (ci := 5) (C := RX5) (T := TX5) (N := 14) hx hb hts (by decide +kernel) hown hK hP 0 rfl rfl 0 (by decide) (hts (.fieldLink RX5 7 "SpiralFramesModel" "now" "[I") (by decide +kernel)) (fun _ h9 => h9) rfl dX5_logs_154 ?_
          refine lv_iload hx hb dX5_logs_157 (lv_at hl 0 rfl) ?_
          refine lv_bipush (v := 6) hx hb dX5_logs_159 (by decide) ?_
          refine lv_iadd hx hb dX5_logs_161 ?_
          refine x_eqi (show nI (442 + (17 * 7)) + 6 = nI ((442 + (17 * 7)) + 6) from nI_add (442 + (17 * 7)) 6) ?_
          refine lv_iconst (v := 0) hx hb dX5_logs_162 (by decide) ?_
          refine x_iastE hx hb hK hP hD hS 1 0 rfl rfl (k := (442 + (17 * 7)) + 6) (g := mkM D1 S1 R1 N1 (nI 7) (upd (upd (upd (upd (upd (upd (upd f (17 * 7) bt) (17 * 7 + 1) tol) (17 * 7 + 2) 1) (17 * 7 + 3) 1) (17 * 7 + 4) 0) (17 * 7 + 5) 0) (17 * 7 + 6) 0)) (upM_L (j := (17 * 7 + 6)) (by omega) (by omega)) (by omega) (by decide) dX5_logs_163 (fun H locs hP hD hS => ?_)
          have hP : va_P D vwCl [(mm, .inr (5, [.ref mn, .ref mh, .int kp, .ref ms, .int fl, .ref mr, .ref md, .ref mo, .ref mc, .int ty, .ref mt, .int at9, .int nu, .ref mq])), (mn, .inl (cI, 578, .inl (mkM D1 S1 R1 N1 (nI 7) (upd (upd (upd (upd (upd (upd (upd f (17 * 7) bt) (17 * 7 + 1) tol) (17 * 7 + 2) 1) (17 * 7 + 3) 1) (17 * 7 + 4) 0) (17 * 7 + 5) 0) (17 * 7 + 6) 0)))), (mc, .inl (cI, 9, .inl (cq)))] H := hP
          have hD : va_D (Ar) [(mm, .inr (5, [.ref mn, .ref mh, .int kp, .ref ms, .int fl, .ref mr, .ref md, .ref mo, .ref mc, .int ty, .ref mt, .int at9, .int nu, .ref mq])), (mn, .inl (cI, 578, .inl (mkM D1 S1 R1 N1 (nI 7) (upd (upd (upd (upd (upd (upd (upd f (17 * 7) bt) (17 * 7 + 1) tol) (17 * 7 + 2) 1) (17 * 7 + 3) 1) (17 * 7 + 4) 0) (17 * 7 + 5) 0) (17 * 7 + 6) 0)))), (mc, .inl (cI, 9, .inl (cq)))] := hD
          refine lv_iconst (v := 0) hx hb dX5_logs_164 (by decide) ?_
          refine lv_istore (lv' := [(6, .int 0), (5, .int (nI (442 + (17 * 7)))), (0, .ref mm), (1, .int bt), (2, .int tol), (3, .int 1), (4, .int 1)]) hx hb dX5_logs_165 hl (by decide) rfl (fun ls hl => ?_)
          have L167 : ∀ (fuel : Nat) (t : Nat) (g : Nat → Int32), (t ≤ 9) → (g = lgX f (17 * 7) bt tol (nI 1) (nI 1) cd t) → 9 - t < fuel → ∀ (H : Heap) (locs : List Loc), va_P D vwCl [(mm, .inr (5, [.ref mn, .ref mh, .int kp, .ref ms, .int fl, .ref mr, .ref md, .ref mo, .ref mc, .int ty, .ref mt, .int at9, .int nu, .ref mq])), (mn, .inl (cI, 578, .inl (mkM D1 S1 R1 N1 (nI 7) g))), (mc, .inl (cI, 9, .inl (cq)))] H → va_D (Ar) [(mm, .inr (5, [.ref mn, .ref mh, .int kp, .ref ms, .int fl, .ref mr, .ref md, .ref mo, .ref mc, .int ty, .ref mt, .int at9, .int nu, .ref mq])), (mn, .inl (cI, 578, .inl (mkM D1 S1 R1 N1 (nI 7) g))), (mc, .inl (cI, 9, .inl (cq)))] → va_S (Ar) s.heap H locs → ∀ (ls : Array Slot), lv_has ls 8 [(0, .ref mm), (5, .int (nI (442 + 17 * 7))), (6, .int (nI t))] → W p l e (headSpec wsX5_logs ({ frames := 4, cells := 0, slots := 0, locals := 98 } : Room)).room s m ([.ref mm, .int bt, .int tol, .int 1, .int 1] : List Value).toArray below meth c H locs 0 0 Q (F0 m 167 ls []) := by
            intro fuel
            induction fuel with
            | zero =>
              intro t g hi167_0 hi167_1 hfu
              exact absurd hfu (Nat.not_lt_zero _)
            | succ fuel ih167 =>
              intro t g hi167_0 hi167_1 hfu167 H locs hP hD hS ls hl
              refine lv_iload hx hb dX5_logs_167 (lv_at hl 2 rfl) ?_
              refine lv_bipush (v := 9) hx hb dX5_logs_169 (by decide) ?_
              refine x_icmp_ge (tgt := 249) hx hb dX5_logs_171 (by decide) (X := ((t : Nat) : Int)) (nI_toI (by omega)) (Y := 9) (show (9 : Int32).toInt = 9 from by decide) (fun c_171 => ?_) (fun c_171 => ?_)
              · skip
                refine lv_aload_n hx hb dX5_logs_249 rfl (lv_at hl 0 rfl) ?_
                refine va_get (v := .ref mn) (D := D) (ci := 5) (C := RX5) (T := TX5) (N := 14) hx hb hts (by decide +kernel) hown hK hP 0 rfl rfl 0 (by decide) (hts (.fieldLink RX5 7 "SpiralFramesModel" "now" "[I") (by decide +kernel)) (fun _ h9 => h9) rfl dX5_logs_250 ?_
                refine lv_iload hx hb dX5_logs_253 (lv_at hl 1 rfl) ?_
                refine lv_bipush (v := 7) hx hb dX5_logs_255 (by decide) ?_
                refine lv_iadd hx hb dX5_logs_257 ?_
                refine x_eqi (show nI (442 + 17 * 7) + 7 = nI ((442 + 17 * 7) + 7) from nI_add (442 + 17 * 7) 7) ?_
                refine lv_aload_n hx hb dX5_logs_258 rfl (lv_at hl 0 rfl) ?_
                refine lv_iconst (v := 0) hx hb dX5_logs_259 (by decide) ?_
                refine lv_iconst (v := 1) hx hb dX5_logs_260 (by decide) ?_
                refine x_callR (va_runV (As := [.int 0, .int 1]) (rest := [.int (nI ((442 + 17 * 7) + 7)), .ref mn]) ⟨hx, hb, hml, hown, hts⟩ (c_X5_whole l D cI cC cS tt mm mn mh ms mr md mo mc mt mq kp fl ty at9 nu D1 S1 R1 N1 (nI 7) g 0 1 (by first | omega | assumption | decide) (by first | omega | assumption | decide)) (cwV 2 hts gX5_logs_X5_whole rfl rfl rfl (by decide +kernel) ⟨Nat.le_of_ble_eq_true rfl, Nat.le_of_ble_eq_true rfl⟩) ⟨x_blindR, va_recv hK hP (ci := 5) (q0 := 0) rfl rfl, x_preR (hP.sub (ws' := [(mm, .inr (5, [.ref mn, .ref mh, .int kp, .ref ms, .int fl, .ref mr, .ref md, .ref mo, .ref mc, .int ty, .ref mt, .int at9, .int nu, .ref mq])), (mn, .inl (cI, 578, .inl (mkM D1 S1 R1 N1 (nI 7) g)))]) [0, 1] rfl) hK hE hS⟩ rfl rfl hl.1 rfl (lv_room (Nat.le_of_ble_eq_true rfl)) dX5_logs_261 ⟨(Nat.le_of_ble_eq_true rfl), (Nat.le_of_ble_eq_true rfl)⟩) ?_
                refine x_eqi (show wdS (pkN D1 S1 R1 0) (pkN D1 S1 R1 1) = wdS D1 S1 from rfl) ?_
                refine x_iastE hx hb hK hP hD hS 1 0 rfl rfl (k := (442 + 17 * 7) + 7) (g := mkM D1 S1 R1 N1 (nI 7) (upd g (17 * 7 + 7) (wdS D1 S1))) (upM_L (j := (17 * 7 + 7)) (by omega) (by omega)) (by omega) (by decide) dX5_logs_264 (fun H locs hP hD hS => ?_)
                have hP : va_P D vwCl [(mm, .inr (5, [.ref mn, .ref mh, .int kp, .ref ms, .int fl, .ref mr, .ref md, .ref mo, .ref mc, .int ty, .ref mt, .int at9, .int nu, .ref mq])), (mn, .inl (cI, 578, .inl (mkM D1 S1 R1 N1 (nI 7) (upd g (17 * 7 + 7) (wdS D1 S1))))), (mc, .inl (cI, 9, .inl (cq)))] H := hP
                have hD : va_D (Ar) [(mm, .inr (5, [.ref mn, .ref mh, .int kp, .ref ms, .int fl, .ref mr, .ref md, .ref mo, .ref mc, .int ty, .ref mt, .int at9, .int nu, .ref mq])), (mn, .inl (cI, 578, .inl (mkM D1 S1 R1 N1 (nI 7) (upd g (17 * 7 + 7) (wdS D1 S1))))), (mc, .inl (cI, 9, .inl (cq)))] := hD
                refine lv_aload_n hx hb dX5_logs_265 rfl (lv_at hl 0 rfl) ?_
                refine va_get (v := .ref mn) (D := D) (ci := 5) (C := RX5) (T := TX5) (N := 14) hx hb hts (by decide +kernel) hown hK hP 0 rfl rfl 0 (by decide) (hts (.fieldLink RX5 7 "SpiralFramesModel" "now" "[I") (by decide +kernel)) (fun _ h9 => h9) rfl dX5_logs_266 ?_
                refine lv_sipush (v := 441) hx hb dX5_logs_269 (by decide) ?_
                refine lv_dup2_11 hx hb dX5_logs_272 rfl rfl ?_
                refine x_eqi (show (441 : Int32) = nI 441 from by decide) ?_
                refine x_iald hx hb hK hP 1 0 rfl rfl (k := 441) (by omega) (by decide) dX5_logs_273 ?_
                refine x_eqi (show (mkM D1 S1 R1 N1 (nI 7) (upd g (17 * 7 + 7) (wdS D1 S1))) 441 = (nI 7) from (mkM_K (by omega))) ?_
                refine lv_iconst (v := 1) hx hb dX5_logs_274 (by decide) ?_
                refine lv_iadd hx hb dX5_logs_275 ?_
                refine x_eqi (show nI 7 + 1 = nI (7 + 1) from nI_add 7 1) ?_
                refine x_eqi2 (show (441 : Int32) = nI 441 from by decide) ?_
                refine x_iastE hx hb hK hP hD hS 1 0 rfl rfl (k := 441) (g := mkM D1 S1 R1 N1 (nI (7 + 1)) (upd g (17 * 7 + 7) (wdS D1 S1))) (upM_K (by omega)) (by omega) (by decide) dX5_logs_276 (fun H locs hP hD hS => ?_)
                have hP : va_P D vwCl [(mm, .inr (5, [.ref mn, .ref mh, .int kp, .ref ms, .int fl, .ref mr, .ref md, .ref mo, .ref mc, .int ty, .ref mt, .int at9, .int nu, .ref mq])), (mn, .inl (cI, 578, .inl (mkM D1 S1 R1 N1 (nI (7 + 1)) (upd g (17 * 7 + 7) (wdS D1 S1))))), (mc, .inl (cI, 9, .inl (cq)))] H := hP
                have hD : va_D (Ar) [(mm, .inr (5, [.ref mn, .ref mh, .int kp, .ref ms, .int fl, .ref mr, .ref md, .ref mo, .ref mc, .int ty, .ref mt, .int at9, .int nu, .ref mq])), (mn, .inl (cI, 578, .inl (mkM D1 S1 R1 N1 (nI (7 + 1)) (upd g (17 * 7 + 7) (wdS D1 S1))))), (mc, .inl (cI, 9, .inl (cq)))] := hD
                refine x_vretW (w := [(mm, .inr (5, [.ref mn, .ref mh, .int kp, .ref ms, .int fl, .ref mr, .ref md, .ref mo, .ref mc, .int ty, .ref mt, .int at9, .int nu, .ref mq])), (mn, .inl (cI, 578, .inl (mkM D1 S1 R1 N1 (nI (7 + 1)) (upd g (17 * 7 + 7) (wdS D1 S1))))), (mc, .inl (cI, 9, .inl (cq)))]) hQ hAe hx hb hr hlocks (hP.sub [0, 1, 2] rfl) (hD.sub [0, 1, 2] (by decide) rfl) hS ?_ dX5_logs_277
                have e9 : upd g (17 * 7 + 7) (wdS D1 S1) = lgM L1 8 (lgR bt tol 1 1 cd (wdS D1 S1)) := by rw [hi167_1, show t = 9 by omega, lgX_e, hi18_2, show j - 442 = 119 by omega]; rfl
                rw [e9]
                rfl
              · skip
                refine lv_aload_n hx hb dX5_logs_174 rfl (lv_at hl 0 rfl) ?_
                refine va_get (v := .ref mc) (D := D) (ci := 5) (C := RX5) (T := TX5) (N := 14) hx hb hts (by decide +kernel) hown hK hP 0 rfl rfl 8 (by decide) (hts (.fieldLink RX5 28 "SpiralFramesModel" "codes" "[I") (by decide +kernel)) (fun _ h9 => h9) rfl dX5_logs_175 ?_
                refine lv_iload hx hb dX5_logs_178 (lv_at hl 2 rfl) ?_
                refine x_iald hx hb hK hP 2 0 rfl rfl (k := t) (by omega) (by decide) dX5_logs_180 ?_
                refine x_eqi (show cq t = nI (cd t) from hh0 t (by omega)) ?_
                have cd25 := hh1 t
                refine x_if_ne (tgt := 188) hx hb dX5_logs_181 (by decide) (X := ((cd t : Nat) : Int)) (nI_toI (by omega)) (fun c_181 => ?_) (fun c_181 => ?_)
                · skip
                  refine lv_aload_n hx hb dX5_logs_188 rfl (lv_at hl 0 rfl) ?_
                  refine va_get (v := .ref mc) (D := D) (ci := 5) (C := RX5) (T := TX5) (N := 14) hx hb hts (by decide +kernel) hown hK hP 0 rfl rfl 8 (by decide) (hts (.fieldLink RX5 28 "SpiralFramesModel" "codes" "[I") (by decide +kernel)) (fun _ h9 => h9) rfl dX5_logs_189 ?_
                  refine lv_iload hx hb dX5_logs_192 (lv_at hl 2 rfl) ?_
                  refine x_iald hx hb hK hP 2 0 rfl rfl (k := t) (by omega) (by decide) dX5_logs_194 ?_
                  refine x_eqi (show cq t = nI (cd t) from hh0 t (by omega)) ?_
                  refine lv_bipush (v := 25) hx hb dX5_logs_195 (by decide) ?_
                  refine x_icmp_ne (tgt := 204) hx hb dX5_logs_197 (by decide) (X := ((cd t : Nat) : Int)) (nI_toI (by omega)) (Y := 25) (show (25 : Int32).toInt = 25 from by decide) (fun c_197 => ?_) (fun c_197 => ?_)
                  · skip
                    refine lv_iconst (v := 1) hx hb dX5_logs_204 (by decide) ?_
                    refine lv_istore (lv' := [(7, .int 1), (0, .ref mm), (5, .int (nI (442 + 17 * 7))), (6, .int (nI t))]) hx hb dX5_logs_205 hl (by decide) rfl (fun ls hl => ?_)
                    refine lv_aload_n hx hb dX5_logs_207 rfl (lv_at hl 1 rfl) ?_
                    refine va_get (v := .ref mn) (D := D) (ci := 5) (C := RX5) (T := TX5) (N := 14) hx hb hts (by decide +kernel) hown hK hP 0 rfl rfl 0 (by decide) (hts (.fieldLink RX5 7 "SpiralFramesModel" "now" "[I") (by decide +kernel)) (fun _ h9 => h9) rfl dX5_logs_208 ?_
                    refine lv_iload hx hb dX5_logs_211 (lv_at hl 2 rfl) ?_
                    refine lv_iconst (v := 4) hx hb dX5_logs_213 (by decide) ?_
                    refine lv_iadd hx hb dX5_logs_214 ?_
                    refine x_eqi (show nI (442 + 17 * 7) + 4 = nI ((442 + 17 * 7) + 4) from nI_add (442 + 17 * 7) 4) ?_
                    refine lv_iload hx hb dX5_logs_215 (lv_at hl 0 rfl) ?_
                    refine lv_iadd hx hb dX5_logs_217 ?_
                    refine x_eqi (show nI ((442 + 17 * 7) + 4) + 1 = nI (((442 + 17 * 7) + 4) + 1) from nI_add ((442 + 17 * 7) + 4) 1) ?_
                    refine lv_dup2_11 hx hb dX5_logs_218 rfl rfl ?_
                    refine x_iald hx hb hK hP 1 0 rfl rfl (k := ((442 + 17 * 7) + 4) + 1) (by omega) (by decide) dX5_logs_219 ?_
                    refine x_eqi (show (mkM D1 S1 R1 N1 (nI 7) g) (((442 + 17 * 7) + 4) + 1) = g (17 * 7 + 4 + 1) from (mkM_L (j := (17 * 7 + 4 + 1)) (by omega) (by omega))) ?_
                    refine lv_iconst (v := 1) hx hb dX5_logs_220 (by decide) ?_
                    refine lv_iadd hx hb dX5_logs_221 ?_
                    refine x_iastE hx hb hK hP hD hS 1 0 rfl rfl (k := ((442 + 17 * 7) + 4) + 1) (g := mkM D1 S1 R1 N1 (nI 7) (upd g (17 * 7 + 4 + 1) ((g (17 * 7 + 4 + 1)) + 1))) (upM_L (j := (17 * 7 + 4 + 1)) (by omega) (by omega)) (by omega) (by decide) dX5_logs_222 (fun H locs hP hD hS => ?_)
                    have hP : va_P D vwCl [(mm, .inr (5, [.ref mn, .ref mh, .int kp, .ref ms, .int fl, .ref mr, .ref md, .ref mo, .ref mc, .int ty, .ref mt, .int at9, .int nu, .ref mq])), (mn, .inl (cI, 578, .inl (mkM D1 S1 R1 N1 (nI 7) (upd g (17 * 7 + 4 + 1) ((g (17 * 7 + 4 + 1)) + 1))))), (mc, .inl (cI, 9, .inl (cq)))] H := hP
                    have hD : va_D (Ar) [(mm, .inr (5, [.ref mn, .ref mh, .int kp, .ref ms, .int fl, .ref mr, .ref md, .ref mo, .ref mc, .int ty, .ref mt, .int at9, .int nu, .ref mq])), (mn, .inl (cI, 578, .inl (mkM D1 S1 R1 N1 (nI 7) (upd g (17 * 7 + 4 + 1) ((g (17 * 7 + 4 + 1)) + 1))))), (mc, .inl (cI, 9, .inl (cq)))] := hD
                    refine lv_aload_n hx hb dX5_logs_223 rfl (lv_at hl 1 rfl) ?_
                    refine va_get (v := .ref mn) (D := D) (ci := 5) (C := RX5) (T := TX5) (N := 14) hx hb hts (by decide +kernel) hown hK hP 0 rfl rfl 0 (by decide) (hts (.fieldLink RX5 7 "SpiralFramesModel" "now" "[I") (by decide +kernel)) (fun _ h9 => h9) rfl dX5_logs_224 ?_
                    refine lv_iload hx hb dX5_logs_227 (lv_at hl 2 rfl) ?_
                    refine lv_bipush (v := 8) hx hb dX5_logs_229 (by decide) ?_
                    refine lv_iadd hx hb dX5_logs_231 ?_
                    refine x_eqi (show nI (442 + 17 * 7) + 8 = nI ((442 + 17 * 7) + 8) from nI_add (442 + 17 * 7) 8) ?_
                    refine lv_iload hx hb dX5_logs_232 (lv_at hl 3 rfl) ?_
                    refine lv_iadd hx hb dX5_logs_234 ?_
                    refine x_eqi (show nI ((442 + 17 * 7) + 8) + nI t = nI (((442 + 17 * 7) + 8) + t) from nI_add ((442 + 17 * 7) + 8) t) ?_
                    refine lv_aload_n hx hb dX5_logs_235 rfl (lv_at hl 1 rfl) ?_
                    refine va_get (v := .ref mc) (D := D) (ci := 5) (C := RX5) (T := TX5) (N := 14) hx hb hts (by decide +kernel) hown hK hP 0 rfl rfl 8 (by decide) (hts (.fieldLink RX5 28 "SpiralFramesModel" "codes" "[I") (by decide +kernel)) (fun _ h9 => h9) rfl dX5_logs_236 ?_
                    refine lv_iload hx hb dX5_logs_239 (lv_at hl 3 rfl) ?_
                    refine x_iald hx hb hK hP 2 0 rfl rfl (k := t) (by omega) (by decide) dX5_logs_241 ?_
                    refine x_eqi (show cq t = nI (cd t) from hh0 t (by omega)) ?_
                    refine x_iastE hx hb hK hP hD hS 1 0 rfl rfl (k := ((442 + 17 * 7) + 8) + t) (g := mkM D1 S1 R1 N1 (nI 7) (upd (upd g (17 * 7 + 4 + 1) ((g (17 * 7 + 4 + 1)) + 1)) (17 * 7 + 8 + t) (nI (cd t)))) (upM_L (j := (17 * 7 + 8 + t)) (by omega) (by omega)) (by omega) (by decide) dX5_logs_242 (fun H locs hP hD hS => ?_)
                    have hP : va_P D vwCl [(mm, .inr (5, [.ref mn, .ref mh, .int kp, .ref ms, .int fl, .ref mr, .ref md, .ref mo, .ref mc, .int ty, .ref mt, .int at9, .int nu, .ref mq])), (mn, .inl (cI, 578, .inl (mkM D1 S1 R1 N1 (nI 7) (upd (upd g (17 * 7 + 4 + 1) ((g (17 * 7 + 4 + 1)) + 1)) (17 * 7 + 8 + t) (nI (cd t)))))), (mc, .inl (cI, 9, .inl (cq)))] H := hP
                    have hD : va_D (Ar) [(mm, .inr (5, [.ref mn, .ref mh, .int kp, .ref ms, .int fl, .ref mr, .ref md, .ref mo, .ref mc, .int ty, .ref mt, .int at9, .int nu, .ref mq])), (mn, .inl (cI, 578, .inl (mkM D1 S1 R1 N1 (nI 7) (upd (upd g (17 * 7 + 4 + 1) ((g (17 * 7 + 4 + 1)) + 1)) (17 * 7 + 8 + t) (nI (cd t)))))), (mc, .inl (cI, 9, .inl (cq)))] := hD
                    refine lv_iinc (v := nI (t + 1)) (lv' := [(6, .int (nI (t + 1))), (7, .int 1), (0, .ref mm), (5, .int (nI (442 + 17 * 7)))]) hx hb dX5_logs_243 hl (k := 3) rfl (nI_add _ _) (by decide) rfl (fun ls hl => ?_)
                    refine lv_goto (tgt := 167) hx hb dX5_logs_246 (by decide) ?_
                    exact ih167 (t + 1) (upd (upd g (17 * 7 + 4 + 1) ((g (17 * 7 + 4 + 1)) + 1)) (17 * 7 + 8 + t) (nI (cd t))) (by first | omega | assumption | rfl) (by rw [hi167_1]; first | exact lgX_s (kind := 0) (by omega) (by unfold kdN; rw [if_pos (by omega)]) (congrArg (fun z => z + 1) (lgX_k (by omega))) rfl | exact lgX_s (kind := 1) (by omega) (by unfold kdN; rw [if_neg (by omega), if_neg (by omega)]) (congrArg (fun z => z + 1) (lgX_k (by omega))) rfl | exact lgX_s (kind := 2) (by omega) (by unfold kdN; rw [if_neg (by omega), if_pos (by omega)]) (congrArg (fun z => z + 1) (lgX_k (by omega))) rfl) (by omega) H locs (hP.sub [0, 1, 2] rfl) (hD.sub [0, 1, 2] (by decide) rfl) hS ls (lv_sub hl [2, 3, 0] rfl)
                  · skip
                    refine lv_iconst (v := 2) hx hb dX5_logs_200 (by decide) ?_
                    refine lv_goto (tgt := 205) hx hb dX5_logs_201 (by decide) ?_
                    refine lv_istore (lv' := [(7, .int 2), (0, .ref mm), (5, .int (nI (442 + 17 * 7))), (6, .int (nI t))]) hx hb dX5_logs_205 hl (by decide) rfl (fun ls hl => ?_)
                    refine lv_aload_n hx hb dX5_logs_207 rfl (lv_at hl 1 rfl) ?_
                    refine va_get (v := .ref mn) (D := D) (ci := 5) (C := RX5) (T := TX5) (N := 14) hx hb hts (by decide +kernel) hown hK hP 0 rfl rfl 0 (by decide) (hts (.fieldLink RX5 7 "SpiralFramesModel" "now" "[I") (by decide +kernel)) (fun _ h9 => h9) rfl dX5_logs_208 ?_
                    refine lv_iload hx hb dX5_logs_211 (lv_at hl 2 rfl) ?_
                    refine lv_iconst (v := 4) hx hb dX5_logs_213 (by decide) ?_
                    refine lv_iadd hx hb dX5_logs_214 ?_
                    refine x_eqi (show nI (442 + 17 * 7) + 4 = nI ((442 + 17 * 7) + 4) from nI_add (442 + 17 * 7) 4) ?_
                    refine lv_iload hx hb dX5_logs_215 (lv_at hl 0 rfl) ?_
                    refine lv_iadd hx hb dX5_logs_217 ?_
                    refine x_eqi (show nI ((442 + 17 * 7) + 4) + 2 = nI (((442 + 17 * 7) + 4) + 2) from nI_add ((442 + 17 * 7) + 4) 2) ?_
                    refine lv_dup2_11 hx hb dX5_logs_218 rfl rfl ?_
                    refine x_iald hx hb hK hP 1 0 rfl rfl (k := ((442 + 17 * 7) + 4) + 2) (by omega) (by decide) dX5_logs_219 ?_
                    refine x_eqi (show (mkM D1 S1 R1 N1 (nI 7) g) (((442 + 17 * 7) + 4) + 2) = g (17 * 7 + 4 + 2) from (mkM_L (j := (17 * 7 + 4 + 2)) (by omega) (by omega))) ?_
                    refine lv_iconst (v := 1) hx hb dX5_logs_220 (by decide) ?_
                    refine lv_iadd hx hb dX5_logs_221 ?_
                    refine x_iastE hx hb hK hP hD hS 1 0 rfl rfl (k := ((442 + 17 * 7) + 4) + 2) (g := mkM D1 S1 R1 N1 (nI 7) (upd g (17 * 7 + 4 + 2) ((g (17 * 7 + 4 + 2)) + 1))) (upM_L (j := (17 * 7 + 4 + 2)) (by omega) (by omega)) (by omega) (by decide) dX5_logs_222 (fun H locs hP hD hS => ?_)
                    have hP : va_P D vwCl [(mm, .inr (5, [.ref mn, .ref mh, .int kp, .ref ms, .int fl, .ref mr, .ref md, .ref mo, .ref mc, .int ty, .ref mt, .int at9, .int nu, .ref mq])), (mn, .inl (cI, 578, .inl (mkM D1 S1 R1 N1 (nI 7) (upd g (17 * 7 + 4 + 2) ((g (17 * 7 + 4 + 2)) + 1))))), (mc, .inl (cI, 9, .inl (cq)))] H := hP
                    have hD : va_D (Ar) [(mm, .inr (5, [.ref mn, .ref mh, .int kp, .ref ms, .int fl, .ref mr, .ref md, .ref mo, .ref mc, .int ty, .ref mt, .int at9, .int nu, .ref mq])), (mn, .inl (cI, 578, .inl (mkM D1 S1 R1 N1 (nI 7) (upd g (17 * 7 + 4 + 2) ((g (17 * 7 + 4 + 2)) + 1))))), (mc, .inl (cI, 9, .inl (cq)))] := hD
                    refine lv_aload_n hx hb dX5_logs_223 rfl (lv_at hl 1 rfl) ?_
                    refine va_get (v := .ref mn) (D := D) (ci := 5) (C := RX5) (T := TX5) (N := 14) hx hb hts (by decide +kernel) hown hK hP 0 rfl rfl 0 (by decide) (hts (.fieldLink RX5 7 "SpiralFramesModel" "now" "[I") (by decide +kernel)) (fun _ h9 => h9) rfl dX5_logs_224 ?_
                    refine lv_iload hx hb dX5_logs_227 (lv_at hl 2 rfl) ?_
                    refine lv_bipush (v := 8) hx hb dX5_logs_229 (by decide) ?_
                    refine lv_iadd hx hb dX5_logs_231 ?_
                    refine x_eqi (show nI (442 + 17 * 7) + 8 = nI ((442 + 17 * 7) + 8) from nI_add (442 + 17 * 7) 8) ?_
                    refine lv_iload hx hb dX5_logs_232 (lv_at hl 3 rfl) ?_
                    refine lv_iadd hx hb dX5_logs_234 ?_
                    refine x_eqi (show nI ((442 + 17 * 7) + 8) + nI t = nI (((442 + 17 * 7) + 8) + t) from nI_add ((442 + 17 * 7) + 8) t) ?_
                    refine lv_aload_n hx hb dX5_logs_235 rfl (lv_at hl 1 rfl) ?_
                    refine va_get (v := .ref mc) (D := D) (ci := 5) (C := RX5) (T := TX5) (N := 14) hx hb hts (by decide +kernel) hown hK hP 0 rfl rfl 8 (by decide) (hts (.fieldLink RX5 28 "SpiralFramesModel" "codes" "[I") (by decide +kernel)) (fun _ h9 => h9) rfl dX5_logs_236 ?_
                    refine lv_iload hx hb dX5_logs_239 (lv_at hl 3 rfl) ?_
                    refine x_iald hx hb hK hP 2 0 rfl rfl (k := t) (by omega) (by decide) dX5_logs_241 ?_
                    refine x_eqi (show cq t = nI (cd t) from hh0 t (by omega)) ?_
                    refine x_iastE hx hb hK hP hD hS 1 0 rfl rfl (k := ((442 + 17 * 7) + 8) + t) (g := mkM D1 S1 R1 N1 (nI 7) (upd (upd g (17 * 7 + 4 + 2) ((g (17 * 7 + 4 + 2)) + 1)) (17 * 7 + 8 + t) (nI (cd t)))) (upM_L (j := (17 * 7 + 8 + t)) (by omega) (by omega)) (by omega) (by decide) dX5_logs_242 (fun H locs hP hD hS => ?_)
                    have hP : va_P D vwCl [(mm, .inr (5, [.ref mn, .ref mh, .int kp, .ref ms, .int fl, .ref mr, .ref md, .ref mo, .ref mc, .int ty, .ref mt, .int at9, .int nu, .ref mq])), (mn, .inl (cI, 578, .inl (mkM D1 S1 R1 N1 (nI 7) (upd (upd g (17 * 7 + 4 + 2) ((g (17 * 7 + 4 + 2)) + 1)) (17 * 7 + 8 + t) (nI (cd t)))))), (mc, .inl (cI, 9, .inl (cq)))] H := hP
                    have hD : va_D (Ar) [(mm, .inr (5, [.ref mn, .ref mh, .int kp, .ref ms, .int fl, .ref mr, .ref md, .ref mo, .ref mc, .int ty, .ref mt, .int at9, .int nu, .ref mq])), (mn, .inl (cI, 578, .inl (mkM D1 S1 R1 N1 (nI 7) (upd (upd g (17 * 7 + 4 + 2) ((g (17 * 7 + 4 + 2)) + 1)) (17 * 7 + 8 + t) (nI (cd t)))))), (mc, .inl (cI, 9, .inl (cq)))] := hD
                    refine lv_iinc (v := nI (t + 1)) (lv' := [(6, .int (nI (t + 1))), (7, .int 2), (0, .ref mm), (5, .int (nI (442 + 17 * 7)))]) hx hb dX5_logs_243 hl (k := 3) rfl (nI_add _ _) (by decide) rfl (fun ls hl => ?_)
                    refine lv_goto (tgt := 167) hx hb dX5_logs_246 (by decide) ?_
                    exact ih167 (t + 1) (upd (upd g (17 * 7 + 4 + 2) ((g (17 * 7 + 4 + 2)) + 1)) (17 * 7 + 8 + t) (nI (cd t))) (by first | omega | assumption | rfl) (by rw [hi167_1]; first | exact lgX_s (kind := 0) (by omega) (by unfold kdN; rw [if_pos (by omega)]) (congrArg (fun z => z + 1) (lgX_k (by omega))) rfl | exact lgX_s (kind := 1) (by omega) (by unfold kdN; rw [if_neg (by omega), if_neg (by omega)]) (congrArg (fun z => z + 1) (lgX_k (by omega))) rfl | exact lgX_s (kind := 2) (by omega) (by unfold kdN; rw [if_neg (by omega), if_pos (by omega)]) (congrArg (fun z => z + 1) (lgX_k (by omega))) rfl) (by omega) H locs (hP.sub [0, 1, 2] rfl) (hD.sub [0, 1, 2] (by decide) rfl) hS ls (lv_sub hl [2, 3, 0] rfl)
                · skip
                  refine lv_iconst (v := 0) hx hb dX5_logs_184 (by decide) ?_
                  refine lv_goto (tgt := 205) hx hb dX5_logs_185 (by decide) ?_
                  refine lv_istore (lv' := [(7, .int 0), (0, .ref mm), (5, .int (nI (442 + 17 * 7))), (6, .int (nI t))]) hx hb dX5_logs_205 hl (by decide) rfl (fun ls hl => ?_)
                  refine lv_aload_n hx hb dX5_logs_207 rfl (lv_at hl 1 rfl) ?_
                  refine va_get (v := .ref mn) (D := D) (ci := 5) (C := RX5) (T := TX5) (N := 14) hx hb hts (by decide +kernel) hown hK hP 0 rfl rfl 0 (by decide) (hts (.fieldLink RX5 7 "SpiralFramesModel" "now" "[I") (by decide +kernel)) (fun _ h9 => h9) rfl dX5_logs_208 ?_
                  refine lv_iload hx hb dX5_logs_211 (lv_at hl 2 rfl) ?_
                  refine lv_iconst (v := 4) hx hb dX5_logs_213 (by decide) ?_
                  refine lv_iadd hx hb dX5_logs_214 ?_
                  refine x_eqi (show nI (442 + 17 * 7) + 4 = nI ((442 + 17 * 7) + 4) from nI_add (442 + 17 * 7) 4) ?_
                  refine lv_iload hx hb dX5_logs_215 (lv_at hl 0 rfl) ?_
                  refine lv_iadd hx hb dX5_logs_217 ?_
                  refine x_eqi (show nI ((442 + 17 * 7) + 4) + 0 = nI (((442 + 17 * 7) + 4) + 0) from nI_add ((442 + 17 * 7) + 4) 0) ?_
                  refine lv_dup2_11 hx hb dX5_logs_218 rfl rfl ?_
                  refine x_iald hx hb hK hP 1 0 rfl rfl (k := ((442 + 17 * 7) + 4) + 0) (by omega) (by decide) dX5_logs_219 ?_
                  refine x_eqi (show (mkM D1 S1 R1 N1 (nI 7) g) (((442 + 17 * 7) + 4) + 0) = g (17 * 7 + 4 + 0) from (mkM_L (j := (17 * 7 + 4 + 0)) (by omega) (by omega))) ?_
                  refine lv_iconst (v := 1) hx hb dX5_logs_220 (by decide) ?_
                  refine lv_iadd hx hb dX5_logs_221 ?_
                  refine x_iastE hx hb hK hP hD hS 1 0 rfl rfl (k := ((442 + 17 * 7) + 4) + 0) (g := mkM D1 S1 R1 N1 (nI 7) (upd g (17 * 7 + 4 + 0) ((g (17 * 7 + 4 + 0)) + 1))) (upM_L (j := (17 * 7 + 4 + 0)) (by omega) (by omega)) (by omega) (by decide) dX5_logs_222 (fun H locs hP hD hS => ?_)
                  have hP : va_P D vwCl [(mm, .inr (5, [.ref mn, .ref mh, .int kp, .ref ms, .int fl, .ref mr, .ref md, .ref mo, .ref mc, .int ty, .ref mt, .int at9, .int nu, .ref mq])), (mn, .inl (cI, 578, .inl (mkM D1 S1 R1 N1 (nI 7) (upd g (17 * 7 + 4 + 0) ((g (17 * 7 + 4 + 0)) + 1))))), (mc, .inl (cI, 9, .inl (cq)))] H := hP
                  have hD : va_D (Ar) [(mm, .inr (5, [.ref mn, .ref mh, .int kp, .ref ms, .int fl, .ref mr, .ref md, .ref mo, .ref mc, .int ty, .ref mt, .int at9, .int nu, .ref mq])), (mn, .inl (cI, 578, .inl (mkM D1 S1 R1 N1 (nI 7) (upd g (17 * 7 + 4 + 0) ((g (17 * 7 + 4 + 0)) + 1))))), (mc, .inl (cI, 9, .inl (cq)))] := hD
                  refine lv_aload_n hx hb dX5_logs_223 rfl (lv_at hl 1 rfl) ?_
                  refine va_get (v := .ref mn) (D := D) (ci := 5) (C := RX5) (T := TX5) (N := 14) hx hb hts (by decide +kernel) hown hK hP 0 rfl rfl 0 (by decide) (hts (.fieldLink RX5 7 "SpiralFramesModel" "now" "[I") (by decide +kernel)) (fun _ h9 => h9) rfl dX5_logs_224 ?_
                  refine lv_iload hx hb dX5_logs_227 (lv_at hl 2 rfl) ?_
                  refine lv_bipush (v := 8) hx hb dX5_logs_229 (by decide) ?_
                  refine lv_iadd hx hb dX5_logs_231 ?_
                  refine x_eqi (show nI (442 + 17 * 7) + 8 = nI ((442 + 17 * 7) + 8) from nI_add (442 + 17 * 7) 8) ?_
                  refine lv_iload hx hb dX5_logs_232 (lv_at hl 3 rfl) ?_
                  refine lv_iadd hx hb dX5_logs_234 ?_
                  refine x_eqi (show nI ((442 + 17 * 7) + 8) + nI t = nI (((442 + 17 * 7) + 8) + t) from nI_add ((442 + 17 * 7) + 8) t) ?_
                  refine lv_aload_n hx hb dX5_logs_235 rfl (lv_at hl 1 rfl) ?_
                  refine va_get (v := .ref mc) (D := D) (ci := 5) (C := RX5) (T := TX5) (N := 14) hx hb hts (by decide +kernel) hown hK hP 0 rfl rfl 8 (by decide) (hts (.fieldLink RX5 28 "SpiralFramesModel" "codes" "[I") (by decide +kernel)) (fun _ h9 => h9) rfl dX5_logs_236 ?_
                  refine lv_iload hx hb dX5_logs_239 (lv_at hl 3 rfl) ?_
                  refine x_iald hx hb hK hP 2 0 rfl rfl (k := t) (by omega) (by decide) dX5_logs_241 ?_
                  refine x_eqi (show cq t = nI (cd t) from hh0 t (by omega)) ?_
                  refine x_iastE hx hb hK hP hD hS 1 0 rfl rfl (k := ((442 + 17 * 7) + 8) + t) (g := mkM D1 S1 R1 N1 (nI 7) (upd (upd g (17 * 7 + 4 + 0) ((g (17 * 7 + 4 + 0)) + 1)) (17 * 7 + 8 + t) (nI (cd t)))) (upM_L (j := (17 * 7 + 8 + t)) (by omega) (by omega)) (by omega) (by decide) dX5_logs_242 (fun H locs hP hD hS => ?_)
                  have hP : va_P D vwCl [(mm, .inr (5, [.ref mn, .ref mh, .int kp, .ref ms, .int fl, .ref mr, .ref md, .ref mo, .ref mc, .int ty, .ref mt, .int at9, .int nu, .ref mq])), (mn, .inl (cI, 578, .inl (mkM D1 S1 R1 N1 (nI 7) (upd (upd g (17 * 7 + 4 + 0) ((g (17 * 7 + 4 + 0)) + 1)) (17 * 7 + 8 + t) (nI (cd t)))))), (mc, .inl (cI, 9, .inl (cq)))] H := hP
                  have hD : va_D (Ar) [(mm, .inr (5, [.ref mn, .ref mh, .int kp, .ref ms, .int fl, .ref mr, .ref md, .ref mo, .ref mc, .int ty, .ref mt, .int at9, .int nu, .ref mq])), (mn, .inl (cI, 578, .inl (mkM D1 S1 R1 N1 (nI 7) (upd (upd g (17 * 7 + 4 + 0) ((g (17 * 7 + 4 + 0)) + 1)) (17 * 7 + 8 + t) (nI (cd t)))))), (mc, .inl (cI, 9, .inl (cq)))] := hD
                  refine lv_iinc (v := nI (t + 1)) (lv' := [(6, .int (nI (t + 1))), (7, .int 0), (0, .ref mm), (5, .int (nI (442 + 17 * 7)))]) hx hb dX5_logs_243 hl (k := 3) rfl (nI_add _ _) (by decide) rfl (fun ls hl => ?_)
                  refine lv_goto (tgt := 167) hx hb dX5_logs_246 (by decide) ?_
                  exact ih167 (t + 1) (upd (upd g (17 * 7 + 4 + 0) ((g (17 * 7 + 4 + 0)) + 1)) (17 * 7 + 8 + t) (nI (cd t))) (by first | omega | assumption | rfl) (by rw [hi167_1]; first | exact lgX_s (kind := 0) (by omega) (by unfold kdN; rw [if_pos (by omega)]) (congrArg (fun z => z + 1) (lgX_k (by omega))) rfl | exact lgX_s (kind := 1) (by omega) (by unfold kdN; rw [if_neg (by omega), if_neg (by omega)]) (congrArg (fun z => z + 1) (lgX_k (by omega))) rfl | exact lgX_s (kind := 2) (by omega) (by unfold kdN; rw [if_neg (by omega), if_pos (by omega)]) (congrArg (fun z => z + 1) (lgX_k (by omega))) rfl) (by omega) H locs (hP.sub [0, 1, 2] rfl) (hD.sub [0, 1, 2] (by decide) rfl) hS ls (lv_sub hl [2, 3, 0] rfl)
          exact L167 _ 0 (upd (upd (upd (upd (upd (upd (upd f (17 * 7) bt) (17 * 7 + 1) tol) (17 * 7 + 2) 1) (17 * 7 + 3) 1) (17 * 7 + 4) 0) (17 * 7 + 5) 0) (17 * 7 + 6) 0) (by first | omega | assumption | rfl) lgX_0 (Nat.lt_succ_self _) H locs (hP.sub [0, 1, 2] rfl) (hD.sub [0, 1, 2] (by decide) rfl) hS ls (lv_sub hl [2, 1, 0] rfl)
        · skip
          refine lv_aload_n hx hb dX5_logs_26 rfl (lv_at hl 0 rfl) ?_
          refine va_get (v := .ref mn) (D := D) (ci := 5) (C := RX5) (T := TX5) (N := 14) hx hb hts (by decide +kernel) hown hK hP 0 rfl rfl 0 (by decide) (hts (.fieldLink RX5 7 "SpiralFramesModel" "now" "[I") (by decide +kernel)) (fun _ h9 => h9) rfl dX5_logs_27 ?_
          refine lv_iload hx hb dX5_logs_30 (lv_at hl 5 rfl) ?_
          refine lv_aload_n hx hb dX5_logs_32 rfl (lv_at hl 0 rfl) ?_
          refine va_get (v := .ref mn) (D := D) (ci := 5) (C := RX5) (T := TX5) (N := 14) hx hb hts (by decide +kernel) hown hK hP 0 rfl rfl 0 (by decide) (hts (.fieldLink RX5 7 "SpiralFramesModel" "now" "[I") (by decide +kernel)) (fun _ h9 => h9) rfl dX5_logs_33 ?_
          refine lv_iload hx hb dX5_logs_36 (lv_at hl 5 rfl) ?_
          refine lv_bipush (v := 17) hx hb dX5_logs_38 (by decide) ?_
          refine lv_iadd hx hb dX5_logs_40 ?_
          refine x_eqi (show nI j + 17 = nI (j + 17) from nI_add j 17) ?_
          refine x_iald hx hb hK hP 1 0 rfl rfl (k := j + 17) (by omega) (by decide) dX5_logs_41 ?_
          refine x_eqi (show (mkM D1 S1 R1 N1 (nI 8) f) (j + 17) = f (j - 442 + 17) from (mkM_L (j := (j - 442 + 17)) (by omega) (by omega))) ?_
          refine x_iastE hx hb hK hP hD hS 1 0 rfl rfl (k := j) (g := mkM D1 S1 R1 N1 (nI 8) (upd f (j - 442) (f (j - 442 + 17)))) (upM_L (j := (j - 442)) (by omega) (by omega)) (by omega) (by decide) dX5_logs_42 (fun H locs hP hD hS => ?_)
          have hP : va_P D vwCl [(mm, .inr (5, [.ref mn, .ref mh, .int kp, .ref ms, .int fl, .ref mr, .ref md, .ref mo, .ref mc, .int ty, .ref mt, .int at9, .int nu, .ref mq])), (mn, .inl (cI, 578, .inl (mkM D1 S1 R1 N1 (nI 8) (upd f (j - 442) (f (j - 442 + 17)))))), (mc, .inl (cI, 9, .inl (cq)))] H := hP
          have hD : va_D (Ar) [(mm, .inr (5, [.ref mn, .ref mh, .int kp, .ref ms, .int fl, .ref mr, .ref md, .ref mo, .ref mc, .int ty, .ref mt, .int at9, .int nu, .ref mq])), (mn, .inl (cI, 578, .inl (mkM D1 S1 R1 N1 (nI 8) (upd f (j - 442) (f (j - 442 + 17)))))), (mc, .inl (cI, 9, .inl (cq)))] := hD
          refine lv_iinc (v := nI (j + 1)) (lv' := [(5, .int (nI (j + 1))), (0, .ref mm), (1, .int bt), (2, .int tol), (3, .int 1), (4, .int 1)]) hx hb dX5_logs_43 hl (k := 5) rfl (nI_add _ _) (by decide) rfl (fun ls hl => ?_)
          refine lv_goto (tgt := 18) hx hb dX5_logs_46 (by decide) ?_
          exact ih18 (j + 1) (upd f (j - 442) (f (j - 442 + 17))) (by first | omega | assumption | rfl) (by first | omega | assumption | rfl) (by rw [hi18_2, show j + 1 - 442 = (j - 442) + 1 by omega]; exact shL_s shL_at) (by omega) H locs (hP.sub [0, 1, 2] rfl) (hD.sub [0, 1, 2] (by decide) rfl) hS ls (lv_sub hl [1, 2, 3, 4, 5, 0] rfl)
    exact L18 _ 442 L1 (by first | omega | assumption | rfl) (by first | omega | assumption | rfl) shL_0 (Nat.lt_succ_self _) s.heap [] (hP.sub [0, 1, 2] rfl) (hD.sub [0, 1, 2] (by decide) rfl) hS ls (lv_sub hl [1, 2, 3, 4, 5, 0] rfl)
  · skip
    refine lv_aload_n hx hb dX5_logs_0 rfl (lv_at hl 0 rfl) ?_
    refine va_get (v := .ref mn) (D := D) (ci := 5) (C := RX5) (T := TX5) (N := 14) hx hb hts (by decide +kernel) hown hK hP 0 rfl rfl 0 (by decide) (hts (.fieldLink RX5 7 "SpiralFramesModel" "now" "[I") (by decide +kernel)) (fun _ h9 => h9) rfl dX5_logs_1 ?_
    refine lv_sipush (v := 441) hx hb dX5_logs_4 (by decide) ?_
    refine x_eqi (show (441 : Int32) = nI 441 from by decide) ?_
    refine x_iald hx hb hK hP 1 0 rfl rfl (k := 441) (by omega) (by decide) dX5_logs_7 ?_
    refine x_eqi (show (mkM D1 S1 R1 N1 (nI kn) L1) 441 = (nI kn) from (mkM_K (by omega))) ?_
    refine lv_bipush (v := 8) hx hb dX5_logs_8 (by decide) ?_
    refine x_icmp_ne (tgt := 61) hx hb dX5_logs_10 (by decide) (X := ((kn : Nat) : Int)) (nI_toI (by omega)) (Y := 8) (show (8 : Int32).toInt = 8 from by decide) (fun c_10 => ?_) (fun c_10 => ?_)
    rotate_left
    · exfalso; omega
    refine lv_sipush (v := 442) hx hb dX5_logs_61 (by decide) ?_
    refine lv_bipush (v := 17) hx hb dX5_logs_64 (by decide) ?_
    refine lv_aload_n hx hb dX5_logs_66 rfl (lv_at hl 0 rfl) ?_
    refine va_get (v := .ref mn) (D := D) (ci := 5) (C := RX5) (T := TX5) (N := 14) hx hb hts (by decide +kernel) hown hK hP 0 rfl rfl 0 (by decide) (hts (.fieldLink RX5 7 "SpiralFramesModel" "now" "[I") (by decide +kernel)) (fun _ h9 => h9) rfl dX5_logs_67 ?_
    refine lv_sipush (v := 441) hx hb dX5_logs_70 (by decide) ?_
    refine x_eqi (show (441 : Int32) = nI 441 from by decide) ?_
    refine x_iald hx hb hK hP 1 0 rfl rfl (k := 441) (by omega) (by decide) dX5_logs_73 ?_
    refine x_eqi (show (mkM D1 S1 R1 N1 (nI kn) L1) 441 = (nI kn) from (mkM_K (by omega))) ?_
    refine lv_imul hx hb dX5_logs_74 ?_
    refine x_eqi (show 17 * nI kn = nI (17 * kn) from pk_mul 17 kn) ?_
    refine lv_iadd hx hb dX5_logs_75 ?_
    refine x_eqi (show 442 + nI (17 * kn) = nI (442 + (17 * kn)) from nI_add 442 (17 * kn)) ?_
    refine lv_istore (lv' := [(5, .int (nI (442 + (17 * kn)))), (0, .ref mm), (1, .int bt), (2, .int tol), (3, .int 1), (4, .int 1)]) hx hb dX5_logs_76 hl (by decide) rfl (fun ls hl => ?_)
    refine lv_aload_n hx hb dX5_logs_78 rfl (lv_at hl 1 rfl) ?_
    refine va_get (v := .ref mn) (D := D) (ci := 5) (C := RX5) (T := TX5) (N := 14) hx hb hts (by decide +kernel) hown hK hP 0 rfl rfl 0 (by decide) (hts (.fieldLink RX5 7 "SpiralFramesModel" "now" "[I") (by decide +kernel)) (fun _ h9 => h9) rfl dX5_logs_79 ?_
    refine lv_iload hx hb dX5_logs_82 (lv_at hl 0 rfl) ?_
    refine lv_iload_n hx hb dX5_logs_84 rfl (lv_at hl 2 rfl) ?_
    refine x_iastE hx hb hK hP hD hS 1 0 rfl rfl (k := 442 + (17 * kn)) (g := mkM D1 S1 R1 N1 (nI kn) (upd L1 (17 * kn) bt)) (upM_L (j := (17 * kn)) (by omega) (by omega)) (by omega) (by decide) dX5_logs_85 (fun H locs hP hD hS => ?_)
    have hP : va_P D vwCl [(mm, .inr (5, [.ref mn, .ref mh, .int kp, .ref ms, .int fl, .ref mr, .ref md, .ref mo, .ref mc, .int ty, .ref mt, .int at9, .int nu, .ref mq])), (mn, .inl (cI, 578, .inl (mkM D1 S1 R1 N1 (nI kn) (upd L1 (17 * kn) bt)))), (mc, .inl (cI, 9, .inl (cq)))] H := hP
    have hD : va_D (Ar) [(mm, .inr (5, [.ref mn, .ref mh, .int kp, .ref ms, .int fl, .ref mr, .ref md, .ref mo, .ref mc, .int ty, .ref mt, .int at9, .int nu, .ref mq])), (mn, .inl (cI, 578, .inl (mkM D1 S1 R1 N1 (nI kn) (upd L1 (17 * kn) bt)))), (mc, .inl (cI, 9, .inl (cq)))] := hD
    refine lv_aload_n hx hb dX5_logs_86 rfl (lv_at hl 1 rfl) ?_
    refine va_get (v := .ref mn) (D := D) (ci := 5) (C := RX5) (T := TX5) (N := 14) hx hb hts (by decide +kernel) hown hK hP 0 rfl rfl 0 (by decide) (hts (.fieldLink RX5 7 "SpiralFramesModel" "now" "[I") (by decide +kernel)) (fun _ h9 => h9) rfl dX5_logs_87 ?_
    refine lv_iload hx hb dX5_logs_90 (lv_at hl 0 rfl) ?_
    refine lv_iconst (v := 1) hx hb dX5_logs_92 (by decide) ?_
    refine lv_iadd hx hb dX5_logs_93 ?_
    refine x_eqi (show nI (442 + (17 * kn)) + 1 = nI ((442 + (17 * kn)) + 1) from nI_add (442 + (17 * kn)) 1) ?_
    refine lv_iload_n hx hb dX5_logs_94 rfl (lv_at hl 3 rfl) ?_
    refine x_iastE hx hb hK hP hD hS 1 0 rfl rfl (k := (442 + (17 * kn)) + 1) (g := mkM D1 S1 R1 N1 (nI kn) (upd (upd L1 (17 * kn) bt) (17 * kn + 1) tol)) (upM_L (j := (17 * kn + 1)) (by omega) (by omega)) (by omega) (by decide) dX5_logs_95 (fun H locs hP hD hS => ?_)
    have hP : va_P D vwCl [(mm, .inr (5, [.ref mn, .ref mh, .int kp, .ref ms, .int fl, .ref mr, .ref md, .ref mo, .ref mc, .int ty, .ref mt, .int at9, .int nu, .ref mq])), (mn, .inl (cI, 578, .inl (mkM D1 S1 R1 N1 (nI kn) (upd (upd L1 (17 * kn) bt) (17 * kn + 1) tol)))), (mc, .inl (cI, 9, .inl (cq)))] H := hP
    have hD : va_D (Ar) [(mm, .inr (5, [.ref mn, .ref mh, .int kp, .ref ms, .int fl, .ref mr, .ref md, .ref mo, .ref mc, .int ty, .ref mt, .int at9, .int nu, .ref mq])), (mn, .inl (cI, 578, .inl (mkM D1 S1 R1 N1 (nI kn) (upd (upd L1 (17 * kn) bt) (17 * kn + 1) tol)))), (mc, .inl (cI, 9, .inl (cq)))] := hD
    refine lv_aload_n hx hb dX5_logs_96 rfl (lv_at hl 1 rfl) ?_
    refine va_get (v := .ref mn) (D := D) (ci := 5) (C := RX5) (T := TX5) (N := 14) hx hb hts (by decide +kernel) hown hK hP 0 rfl rfl 0 (by decide) (hts (.fieldLink RX5 7 "SpiralFramesModel" "now" "[I") (by decide +kernel)) (fun _ h9 => h9) rfl dX5_logs_97 ?_
    refine lv_iload hx hb dX5_logs_100 (lv_at hl 0 rfl) ?_
    refine lv_iconst (v := 2) hx hb dX5_logs_102 (by decide) ?_
    refine lv_iadd hx hb dX5_logs_103 ?_
    refine x_eqi (show nI (442 + (17 * kn)) + 2 = nI ((442 + (17 * kn)) + 2) from nI_add (442 + (17 * kn)) 2) ?_
    refine lv_iload_n hx hb dX5_logs_104 rfl (lv_at hl 4 rfl) ?_
    refine lv_if_eq (tgt := 112) hx hb dX5_logs_105 (by decide) (fun h => False.elim (by revert h; decide)) (fun _ => ?_)
    refine lv_iconst (v := 1) hx hb dX5_logs_108 (by decide) ?_
    refine lv_goto (tgt := 113) hx hb dX5_logs_109 (by decide) ?_
    refine x_iastE hx hb hK hP hD hS 1 0 rfl rfl (k := (442 + (17 * kn)) + 2) (g := mkM D1 S1 R1 N1 (nI kn) (upd (upd (upd L1 (17 * kn) bt) (17 * kn + 1) tol) (17 * kn + 2) 1)) (upM_L (j := (17 * kn + 2)) (by omega) (by omega)) (by omega) (by decide) dX5_logs_113 (fun H locs hP hD hS => ?_)
    have hP : va_P D vwCl [(mm, .inr (5, [.ref mn, .ref mh, .int kp, .ref ms, .int fl, .ref mr, .ref md, .ref mo, .ref mc, .int ty, .ref mt, .int at9, .int nu, .ref mq])), (mn, .inl (cI, 578, .inl (mkM D1 S1 R1 N1 (nI kn) (upd (upd (upd L1 (17 * kn) bt) (17 * kn + 1) tol) (17 * kn + 2) 1)))), (mc, .inl (cI, 9, .inl (cq)))] H := hP
    have hD : va_D (Ar) [(mm, .inr (5, [.ref mn, .ref mh, .int kp, .ref ms, .int fl, .ref mr, .ref md, .ref mo, .ref mc, .int ty, .ref mt, .int at9, .int nu, .ref mq])), (mn, .inl (cI, 578, .inl (mkM D1 S1 R1 N1 (nI kn) (upd (upd (upd L1 (17 * kn) bt) (17 * kn + 1) tol) (17 * kn + 2) 1)))), (mc, .inl (cI, 9, .inl (cq)))] := hD
    refine lv_aload_n hx hb dX5_logs_114 rfl (lv_at hl 1 rfl) ?_
    refine va_get (v := .ref mn) (D := D) (ci := 5) (C := RX5) (T := TX5) (N := 14) hx hb hts (by decide +kernel) hown hK hP 0 rfl rfl 0 (by decide) (hts (.fieldLink RX5 7 "SpiralFramesModel" "now" "[I") (by decide +kernel)) (fun _ h9 => h9) rfl dX5_logs_115 ?_
    refine lv_iload hx hb dX5_logs_118 (lv_at hl 0 rfl) ?_
    refine lv_iconst (v := 3) hx hb dX5_logs_120 (by decide) ?_
    refine lv_iadd hx hb dX5_logs_121 ?_
    refine x_eqi (show nI (442 + (17 * kn)) + 3 = nI ((442 + (17 * kn)) + 3) from nI_add (442 + (17 * kn)) 3) ?_
    refine lv_iload hx hb dX5_logs_122 (lv_at hl 5 rfl) ?_
    refine lv_if_eq (tgt := 131) hx hb dX5_logs_124 (by decide) (fun h => False.elim (by revert h; decide)) (fun _ => ?_)
    refine lv_iconst (v := 1) hx hb dX5_logs_127 (by decide) ?_
    refine lv_goto (tgt := 132) hx hb dX5_logs_128 (by decide) ?_
    refine x_iastE hx hb hK hP hD hS 1 0 rfl rfl (k := (442 + (17 * kn)) + 3) (g := mkM D1 S1 R1 N1 (nI kn) (upd (upd (upd (upd L1 (17 * kn) bt) (17 * kn + 1) tol) (17 * kn + 2) 1) (17 * kn + 3) 1)) (upM_L (j := (17 * kn + 3)) (by omega) (by omega)) (by omega) (by decide) dX5_logs_132 (fun H locs hP hD hS => ?_)
    have hP : va_P D vwCl [(mm, .inr (5, [.ref mn, .ref mh, .int kp, .ref ms, .int fl, .ref mr, .ref md, .ref mo, .ref mc, .int ty, .ref mt, .int at9, .int nu, .ref mq])), (mn, .inl (cI, 578, .inl (mkM D1 S1 R1 N1 (nI kn) (upd (upd (upd (upd L1 (17 * kn) bt) (17 * kn + 1) tol) (17 * kn + 2) 1) (17 * kn + 3) 1)))), (mc, .inl (cI, 9, .inl (cq)))] H := hP
    have hD : va_D (Ar) [(mm, .inr (5, [.ref mn, .ref mh, .int kp, .ref ms, .int fl, .ref mr, .ref md, .ref mo, .ref mc, .int ty, .ref mt, .int at9, .int nu, .ref mq])), (mn, .inl (cI, 578, .inl (mkM D1 S1 R1 N1 (nI kn) (upd (upd (upd (upd L1 (17 * kn) bt) (17 * kn + 1) tol) (17 * kn + 2) 1) (17 * kn + 3) 1)))), (mc, .inl (cI, 9, .inl (cq)))] := hD
    refine lv_aload_n hx hb dX5_logs_133 rfl (lv_at hl 1 rfl) ?_
    refine va_get (v := .ref mn) (D := D) (ci := 5) (C := RX5) (T := TX5) (N := 14) hx hb hts (by decide +kernel) hown hK hP 0 rfl rfl 0 (by decide) (hts (.fieldLink RX5 7 "SpiralFramesModel" "now" "[I") (by decide +kernel)) (fun _ h9 => h9) rfl dX5_logs_134 ?_
    refine lv_iload hx hb dX5_logs_137 (lv_at hl 0 rfl) ?_
    refine lv_iconst (v := 4) hx hb dX5_logs_139 (by decide) ?_
    refine lv_iadd hx hb dX5_logs_140 ?_
    refine x_eqi (show nI (442 + (17 * kn)) + 4 = nI ((442 + (17 * kn)) + 4) from nI_add (442 + (17 * kn)) 4) ?_
    refine lv_iconst (v := 0) hx hb dX5_logs_141 (by decide) ?_
    refine x_iastE hx hb hK hP hD hS 1 0 rfl rfl (k := (442 + (17 * kn)) + 4) (g := mkM D1 S1 R1 N1 (nI kn) (upd (upd (upd (upd (upd L1 (17 * kn) bt) (17 * kn + 1) tol) (17 * kn + 2) 1) (17 * kn + 3) 1) (17 * kn + 4) 0)) (upM_L (j := (17 * kn + 4)) (by omega) (by omega)) (by omega) (by decide) dX5_logs_142 (fun H locs hP hD hS => ?_)
    have hP : va_P D vwCl [(mm, .inr (5, [.ref mn, .ref mh, .int kp, .ref ms, .int fl, .ref mr, .ref md, .ref mo, .ref mc, .int ty, .ref mt, .int at9, .int nu, .ref mq])), (mn, .inl (cI, 578, .inl (mkM D1 S1 R1 N1 (nI kn) (upd (upd (upd (upd (upd L1 (17 * kn) bt) (17 * kn + 1) tol) (17 * kn + 2) 1) (17 * kn + 3) 1) (17 * kn + 4) 0)))), (mc, .inl (cI, 9, .inl (cq)))] H := hP
    have hD : va_D (Ar) [(mm, .inr (5, [.ref mn, .ref mh, .int kp, .ref ms, .int fl, .ref mr, .ref md, .ref mo, .ref mc, .int ty, .ref mt, .int at9, .int nu, .ref mq])), (mn, .inl (cI, 578, .inl (mkM D1 S1 R1 N1 (nI kn) (upd (upd (upd (upd (upd L1 (17 * kn) bt) (17 * kn + 1) tol) (17 * kn + 2) 1) (17 * kn + 3) 1) (17 * kn + 4) 0)))), (mc, .inl (cI, 9, .inl (cq)))] := hD
    refine lv_aload_n hx hb dX5_logs_143 rfl (lv_at hl 1 rfl) ?_
    refine va_get (v := .ref mn) (D := D) (ci := 5) (C := RX5) (T := TX5) (N := 14) hx hb hts (by decide +kernel) hown hK hP 0 rfl rfl 0 (by decide) (hts (.fieldLink RX5 7 "SpiralFramesModel" "now" "[I") (by decide +kernel)) (fun _ h9 => h9) rfl dX5_logs_144 ?_
    refine lv_iload hx hb dX5_logs_147 (lv_at hl 0 rfl) ?_
    refine lv_iconst (v := 5) hx hb dX5_logs_149 (by decide) ?_
    refine lv_iadd hx hb dX5_logs_150 ?_
    refine x_eqi (show nI (442 + (17 * kn)) + 5 = nI ((442 + (17 * kn)) + 5) from nI_add (442 + (17 * kn)) 5) ?_
    refine lv_iconst (v := 0) hx hb dX5_logs_151 (by decide) ?_
    refine x_iastE hx hb hK hP hD hS 1 0 rfl rfl (k := (442 + (17 * kn)) + 5) (g := mkM D1 S1 R1 N1 (nI kn) (upd (upd (upd (upd (upd (upd L1 (17 * kn) bt) (17 * kn + 1) tol) (17 * kn + 2) 1) (17 * kn + 3) 1) (17 * kn + 4) 0) (17 * kn + 5) 0)) (upM_L (j := (17 * kn + 5)) (by omega) (by omega)) (by omega) (by decide) dX5_logs_152 (fun H locs hP hD hS => ?_)
    have hP : va_P D vwCl [(mm, .inr (5, [.ref mn, .ref mh, .int kp, .ref ms, .int fl, .ref mr, .ref md, .ref mo, .ref mc, .int ty, .ref mt, .int at9, .int nu, .ref mq])), (mn, .inl (cI, 578, .inl (mkM D1 S1 R1 N1 (nI kn) (upd (upd (upd (upd (upd (upd L1 (17 * kn) bt) (17 * kn + 1) tol) (17 * kn + 2) 1) (17 * kn + 3) 1) (17 * kn + 4) 0) (17 * kn + 5) 0)))), (mc, .inl (cI, 9, .inl (cq)))] H := hP
    have hD : va_D (Ar) [(mm, .inr (5, [.ref mn, .ref mh, .int kp, .ref ms, .int fl, .ref mr, .ref md, .ref mo, .ref mc, .int ty, .ref mt, .int at9, .int nu, .ref mq])), (mn, .inl (cI, 578, .inl (mkM D1 S1 R1 N1 (nI kn) (upd (upd (upd (upd (upd (upd L1 (17 * kn) bt) (17 * kn + 1) tol) (17 * kn + 2) 1) (17 * kn + 3) 1) (17 * kn + 4) 0) (17 * kn + 5) 0)))), (mc, .inl (cI, 9, .inl (cq)))] := hD
    refine lv_aload_n hx hb dX5_logs_153 rfl (lv_at hl 1 rfl) ?_
    refine va_get (v := .ref mn) (D := D) (ci := 5) (C := RX5) (T := TX5) (N := 14) hx hb hts (by decide +kernel) hown hK hP 0 rfl rfl 0 (by decide) (hts (.fieldLink RX5 7 "SpiralFramesModel" "now" "[I") (by decide +kernel)) (fun _ h9 => h9) rfl dX5_logs_154 ?_
    refine lv_iload hx hb dX5_logs_157 (lv_at hl 0 rfl) ?_
    refine lv_bipush (v := 6) hx hb dX5_logs_159 (by decide) ?_
    refine lv_iadd hx hb dX5_logs_161 ?_
    refine x_eqi (show nI (442 + (17 * kn)) + 6 = nI ((442 + (17 * kn)) + 6) from nI_add (442 + (17 * kn)) 6) ?_
    refine lv_iconst (v := 0) hx hb dX5_logs_162 (by decide) ?_
    refine x_iastE hx hb hK hP hD hS 1 0 rfl rfl (k := (442 + (17 * kn)) + 6) (g := mkM D1 S1 R1 N1 (nI kn) (upd (upd (upd (upd (upd (upd (upd L1 (17 * kn) bt) (17 * kn + 1) tol) (17 * kn + 2) 1) (17 * kn + 3) 1) (17 * kn + 4) 0) (17 * kn + 5) 0) (17 * kn + 6) 0)) (upM_L (j := (17 * kn + 6)) (by omega) (by omega)) (by omega) (by decide) dX5_logs_163 (fun H locs hP hD hS => ?_)
    have hP : va_P D vwCl [(mm, .inr (5, [.ref mn, .ref mh, .int kp, .ref ms, .int fl, .ref mr, .ref md, .ref mo, .ref mc, .int ty, .ref mt, .int at9, .int nu, .ref mq])), (mn, .inl (cI, 578, .inl (mkM D1 S1 R1 N1 (nI kn) (upd (upd (upd (upd (upd (upd (upd L1 (17 * kn) bt) (17 * kn + 1) tol) (17 * kn + 2) 1) (17 * kn + 3) 1) (17 * kn + 4) 0) (17 * kn + 5) 0) (17 * kn + 6) 0)))), (mc, .inl (cI, 9, .inl (cq)))] H := hP
    have hD : va_D (Ar) [(mm, .inr (5, [.ref mn, .ref mh, .int kp, .ref ms, .int fl, .ref mr, .ref md, .ref mo, .ref mc, .int ty, .ref mt, .int at9, .int nu, .ref mq])), (mn, .inl (cI, 578, .inl (mkM D1 S1 R1 N1 (nI kn) (upd (upd (upd (upd (upd (upd (upd L1 (17 * kn) bt) (17 * kn + 1) tol) (17 * kn + 2) 1) (17 * kn + 3) 1) (17 * kn + 4) 0) (17 * kn + 5) 0) (17 * kn + 6) 0)))), (mc, .inl (cI, 9, .inl (cq)))] := hD
    refine lv_iconst (v := 0) hx hb dX5_logs_164 (by decide) ?_
    refine lv_istore (lv' := [(6, .int 0), (5, .int (nI (442 + (17 * kn)))), (0, .ref mm), (1, .int bt), (2, .int tol), (3, .int 1), (4, .int 1)]) hx hb dX5_logs_165 hl (by decide) rfl (fun ls hl => ?_)
    have L167 : ∀ (fuel : Nat) (t : Nat) (g : Nat → Int32), (t ≤ 9) → (g = lgX L1 (17 * kn) bt tol (nI 1) (nI 1) cd t) → 9 - t < fuel → ∀ (H : Heap) (locs : List Loc), va_P D vwCl [(mm, .inr (5, [.ref mn, .ref mh, .int kp, .ref ms, .int fl, .ref mr, .ref md, .ref mo, .ref mc, .int ty, .ref mt, .int at9, .int nu, .ref mq])), (mn, .inl (cI, 578, .inl (mkM D1 S1 R1 N1 (nI kn) g))), (mc, .inl (cI, 9, .inl (cq)))] H → va_D (Ar) [(mm, .inr (5, [.ref mn, .ref mh, .int kp, .ref ms, .int fl, .ref mr, .ref md, .ref mo, .ref mc, .int ty, .ref mt, .int at9, .int nu, .ref mq])), (mn, .inl (cI, 578, .inl (mkM D1 S1 R1 N1 (nI kn) g))), (mc, .inl (cI, 9, .inl (cq)))] → va_S (Ar) s.heap H locs → ∀ (ls : Array Slot), lv_has ls 8 [(0, .ref mm), (5, .int (nI (442 + 17 * kn))), (6, .int (nI t))] → W p l e (headSpec wsX5_logs ({ frames := 4, cells := 0, slots := 0, locals := 98 } : Room)).room s m ([.ref mm, .int bt, .int tol, .int 1, .int 1] : List Value).toArray below meth c H locs 0 0 Q (F0 m 167 ls []) := by
      intro fuel
      induction fuel with
      | zero =>
        intro t g hi167_0 hi167_1 hfu
        exact absurd hfu (Nat.not_lt_zero _)
      | succ fuel ih167 =>
        intro t g hi167_0 hi167_1 hfu167 H locs hP hD hS ls hl
        refine lv_iload hx hb dX5_logs_167 (lv_at hl 2 rfl) ?_
        refine lv_bipush (v := 9) hx hb dX5_logs_169 (by decide) ?_
        refine x_icmp_ge (tgt := 249) hx hb dX5_logs_171 (by decide) (X := ((t : Nat) : Int)) (nI_toI (by omega)) (Y := 9) (show (9 : Int32).toInt = 9 from by decide) (fun c_171 => ?_) (fun c_171 => ?_)
        · skip
          refine lv_aload_n hx hb dX5_logs_249 rfl (lv_at hl 0 rfl) ?_
          refine va_get (v := .ref mn) (D := D) (ci := 5) (C := RX5) (T := TX5) (N := 14) hx hb hts (by decide +kernel) hown hK hP 0 rfl rfl 0 (by decide) (hts (.fieldLink RX5 7 "SpiralFramesModel" "now" "[I") (by decide +kernel)) (fun _ h9 => h9) rfl dX5_logs_250 ?_
          refine lv_iload hx hb dX5_logs_253 (lv_at hl 1 rfl) ?_
          refine lv_bipush (v := 7) hx hb dX5_logs_255 (by decide) ?_
          refine lv_iadd hx hb dX5_logs_257 ?_
          refine x_eqi (show nI (442 + 17 * kn) + 7 = nI ((442 + 17 * kn) + 7) from nI_add (442 + 17 * kn) 7) ?_
          refine lv_aload_n hx hb dX5_logs_258 rfl (lv_at hl 0 rfl) ?_
          refine lv_iconst (v := 0) hx hb dX5_logs_259 (by decide) ?_
          refine lv_iconst (v := 1) hx hb dX5_logs_260 (by decide) ?_
          refine x_callR (va_runV (As := [.int 0, .int 1]) (rest := [.int (nI ((442 + 17 * kn) + 7)), .ref mn]) ⟨hx, hb, hml, hown, hts⟩ (c_X5_whole l D cI cC cS tt mm mn mh ms mr md mo mc mt mq kp fl ty at9 nu D1 S1 R1 N1 (nI kn) g 0 1 (by first | omega | assumption | decide) (by first | omega | assumption | decide)) (cwV 2 hts gX5_logs_X5_whole rfl rfl rfl (by decide +kernel) ⟨Nat.le_of_ble_eq_true rfl, Nat.le_of_ble_eq_true rfl⟩) ⟨x_blindR, va_recv hK hP (ci := 5) (q0 := 0) rfl rfl, x_preR (hP.sub (ws' := [(mm, .inr (5, [.ref mn, .ref mh, .int kp, .ref ms, .int fl, .ref mr, .ref md, .ref mo, .ref mc, .int ty, .ref mt, .int at9, .int nu, .ref mq])), (mn, .inl (cI, 578, .inl (mkM D1 S1 R1 N1 (nI kn) g)))]) [0, 1] rfl) hK hE hS⟩ rfl rfl hl.1 rfl (lv_room (Nat.le_of_ble_eq_true rfl)) dX5_logs_261 ⟨(Nat.le_of_ble_eq_true rfl), (Nat.le_of_ble_eq_true rfl)⟩) ?_
          refine x_eqi (show wdS (pkN D1 S1 R1 0) (pkN D1 S1 R1 1) = wdS D1 S1 from rfl) ?_
          refine x_iastE hx hb hK hP hD hS 1 0 rfl rfl (k := (442 + 17 * kn) + 7) (g := mkM D1 S1 R1 N1 (nI kn) (upd g (17 * kn + 7) (wdS D1 S1))) (upM_L (j := (17 * kn + 7)) (by omega) (by omega)) (by omega) (by decide) dX5_logs_264 (fun H locs hP hD hS => ?_)
          have hP : va_P D vwCl [(mm, .inr (5, [.ref mn, .ref mh, .int kp, .ref ms, .int fl, .ref mr, .ref md, .ref mo, .ref mc, .int ty, .ref mt, .int at9, .int nu, .ref mq])), (mn, .inl (cI, 578, .inl (mkM D1 S1 R1 N1 (nI kn) (upd g (17 * kn + 7) (wdS D1 S1))))), (mc, .inl (cI, 9, .inl (cq)))] H := hP
          have hD : va_D (Ar) [(mm, .inr (5, [.ref mn, .ref mh, .int kp, .ref ms, .int fl, .ref mr, .ref md, .ref mo, .ref mc, .int ty, .ref mt, .int at9, .int nu, .ref mq])), (mn, .inl (cI, 578, .inl (mkM D1 S1 R1 N1 (nI kn) (upd g (17 * kn + 7) (wdS D1 S1))))), (mc, .inl (cI, 9, .inl (cq)))] := hD
          refine lv_aload_n hx hb dX5_logs_265 rfl (lv_at hl 0 rfl) ?_
          refine va_get (v := .ref mn) (D := D) (ci := 5) (C := RX5) (T := TX5) (N := 14) hx hb hts (by decide +kernel) hown hK hP 0 rfl rfl 0 (by decide) (hts (.fieldLink RX5 7 "SpiralFramesModel" "now" "[I") (by decide +kernel)) (fun _ h9 => h9) rfl dX5_logs_266 ?_
          refine lv_sipush (v := 441) hx hb dX5_logs_269 (by decide) ?_
          refine lv_dup2_11 hx hb dX5_logs_272 rfl rfl ?_
          refine x_eqi (show (441 : Int32) = nI 441 from by decide) ?_
          refine x_iald hx hb hK hP 1 0 rfl rfl (k := 441) (by omega) (by decide) dX5_logs_273 ?_
          refine x_eqi (show (mkM D1 S1 R1 N1 (nI kn) (upd g (17 * kn + 7) (wdS D1 S1))) 441 = (nI kn) from (mkM_K (by omega))) ?_
          refine lv_iconst (v := 1) hx hb dX5_logs_274 (by decide) ?_
          refine lv_iadd hx hb dX5_logs_275 ?_
          refine x_eqi (show nI kn + 1 = nI (kn + 1) from nI_add kn 1) ?_
          refine x_eqi2 (show (441 : Int32) = nI 441 from by decide) ?_
          refine x_iastE hx hb hK hP hD hS 1 0 rfl rfl (k := 441) (g := mkM D1 S1 R1 N1 (nI (kn + 1)) (upd g (17 * kn + 7) (wdS D1 S1))) (upM_K (by omega)) (by omega) (by decide) dX5_logs_276 (fun H locs hP hD hS => ?_)
          have hP : va_P D vwCl [(mm, .inr (5, [.ref mn, .ref mh, .int kp, .ref ms, .int fl, .ref mr, .ref md, .ref mo, .ref mc, .int ty, .ref mt, .int at9, .int nu, .ref mq])), (mn, .inl (cI, 578, .inl (mkM D1 S1 R1 N1 (nI (kn + 1)) (upd g (17 * kn + 7) (wdS D1 S1))))), (mc, .inl (cI, 9, .inl (cq)))] H := hP
          have hD : va_D (Ar) [(mm, .inr (5, [.ref mn, .ref mh, .int kp, .ref ms, .int fl, .ref mr, .ref md, .ref mo, .ref mc, .int ty, .ref mt, .int at9, .int nu, .ref mq])), (mn, .inl (cI, 578, .inl (mkM D1 S1 R1 N1 (nI (kn + 1)) (upd g (17 * kn + 7) (wdS D1 S1))))), (mc, .inl (cI, 9, .inl (cq)))] := hD
          refine x_vretW (w := [(mm, .inr (5, [.ref mn, .ref mh, .int kp, .ref ms, .int fl, .ref mr, .ref md, .ref mo, .ref mc, .int ty, .ref mt, .int at9, .int nu, .ref mq])), (mn, .inl (cI, 578, .inl (mkM D1 S1 R1 N1 (nI (kn + 1)) (upd g (17 * kn + 7) (wdS D1 S1))))), (mc, .inl (cI, 9, .inl (cq)))]) hQ hAe hx hb hr hlocks (hP.sub [0, 1, 2] rfl) (hD.sub [0, 1, 2] (by decide) rfl) hS ?_ dX5_logs_277
          have e9 : upd g (17 * kn + 7) (wdS D1 S1) = lgM L1 kn (lgR bt tol 1 1 cd (wdS D1 S1)) := by rw [hi167_1, show t = 9 by omega, lgX_e]; unfold lgM lgB; rw [if_neg (by omega), show min kn 7 = kn by omega]
          rw [e9, show min (kn + 1) 8 = kn + 1 by omega]
        · skip
          refine lv_aload_n hx hb dX5_logs_174 rfl (lv_at hl 0 rfl) ?_
          refine va_get (v := .ref mc) (D := D) (ci := 5) (C := RX5) (T := TX5) (N := 14) hx hb hts (by decide +kernel) hown hK hP 0 rfl rfl 8 (by decide) (hts (.fieldLink RX5 28 "SpiralFramesModel" "codes" "[I") (by decide +kernel)) (fun _ h9 => h9) rfl dX5_logs_175 ?_
          refine lv_iload hx hb dX5_logs_178 (lv_at hl 2 rfl) ?_
          refine x_iald hx hb hK hP 2 0 rfl rfl (k := t) (by omega) (by decide) dX5_logs_180 ?_
          refine x_eqi (show cq t = nI (cd t) from hh0 t (by omega)) ?_
          have cd25 := hh1 t
          refine x_if_ne (tgt := 188) hx hb dX5_logs_181 (by decide) (X := ((cd t : Nat) : Int)) (nI_toI (by omega)) (fun c_181 => ?_) (fun c_181 => ?_)
          · skip
            refine lv_aload_n hx hb dX5_logs_188 rfl (lv_at hl 0 rfl) ?_
            refine va_get (v := .ref mc) (D := D) (ci := 5) (C := RX5) (T := TX5) (N := 14) hx hb hts (by decide +kernel) hown hK hP 0 rfl rfl 8 (by decide) (hts (.fieldLink RX5 28 "SpiralFramesModel" "codes" "[I") (by decide +kernel)) (fun _ h9 => h9) rfl dX5_logs_189 ?_
            refine lv_iload hx hb dX5_logs_192 (lv_at hl 2 rfl) ?_
            refine x_iald hx hb hK hP 2 0 rfl rfl (k := t) (by omega) (by decide) dX5_logs_194 ?_
            refine x_eqi (show cq t = nI (cd t) from hh0 t (by omega)) ?_
            refine lv_bipush (v := 25) hx hb dX5_logs_195 (by decide) ?_
            refine x_icmp_ne (tgt := 204) hx hb dX5_logs_197 (by decide) (X := ((cd t : Nat) : Int)) (nI_toI (by omega)) (Y := 25) (show (25 : Int32).toInt = 25 from by decide) (fun c_197 => ?_) (fun c_197 => ?_)
            · skip
              refine lv_iconst (v := 1) hx hb dX5_logs_204 (by decide) ?_
              refine lv_istore (lv' := [(7, .int 1), (0, .ref mm), (5, .int (nI (442 + 17 * kn))), (6, .int (nI t))]) hx hb dX5_logs_205 hl (by decide) rfl (fun ls hl => ?_)
              refine lv_aload_n hx hb dX5_logs_207 rfl (lv_at hl 1 rfl) ?_
              refine va_get (v := .ref mn) (D := D) (ci := 5) (C := RX5) (T := TX5) (N := 14) hx hb hts (by decide +kernel) hown hK hP 0 rfl rfl 0 (by decide) (hts (.fieldLink RX5 7 "SpiralFramesModel" "now" "[I") (by decide +kernel)) (fun _ h9 => h9) rfl dX5_logs_208 ?_
              refine lv_iload hx hb dX5_logs_211 (lv_at hl 2 rfl) ?_
              refine lv_iconst (v := 4) hx hb dX5_logs_213 (by decide) ?_
              refine lv_iadd hx hb dX5_logs_214 ?_
              refine x_eqi (show nI (442 + 17 * kn) + 4 = nI ((442 + 17 * kn) + 4) from nI_add (442 + 17 * kn) 4) ?_
              refine lv_iload hx hb dX5_logs_215 (lv_at hl 0 rfl) ?_
              refine lv_iadd hx hb dX5_logs_217 ?_
              refine x_eqi (show nI ((442 + 17 * kn) + 4) + 1 = nI (((442 + 17 * kn) + 4) + 1) from nI_add ((442 + 17 * kn) + 4) 1) ?_
              refine lv_dup2_11 hx hb dX5_logs_218 rfl rfl ?_
              refine x_iald hx hb hK hP 1 0 rfl rfl (k := ((442 + 17 * kn) + 4) + 1) (by omega) (by decide) dX5_logs_219 ?_
              refine x_eqi (show (mkM D1 S1 R1 N1 (nI kn) g) (((442 + 17 * kn) + 4) + 1) = g (17 * kn + 4 + 1) from (mkM_L (j := (17 * kn + 4 + 1)) (by omega) (by omega))) ?_
              refine lv_iconst (v := 1) hx hb dX5_logs_220 (by decide) ?_
              refine lv_iadd hx hb dX5_logs_221 ?_
              refine x_iastE hx hb hK hP hD hS 1 0 rfl rfl (k := ((442 + 17 * kn) + 4) + 1) (g := mkM D1 S1 R1 N1 (nI kn) (upd g (17 * kn + 4 + 1) ((g (17 * kn + 4 + 1)) + 1))) (upM_L (j := (17 * kn + 4 + 1)) (by omega) (by omega)) (by omega) (by decide) dX5_logs_222 (fun H locs hP hD hS => ?_)
              have hP : va_P D vwCl [(mm, .inr (5, [.ref mn, .ref mh, .int kp, .ref ms, .int fl, .ref mr, .ref md, .ref mo, .ref mc, .int ty, .ref mt, .int at9, .int nu, .ref mq])), (mn, .inl (cI, 578, .inl (mkM D1 S1 R1 N1 (nI kn) (upd g (17 * kn + 4 + 1) ((g (17 * kn + 4 + 1)) + 1))))), (mc, .inl (cI, 9, .inl (cq)))] H := hP
              have hD : va_D (Ar) [(mm, .inr (5, [.ref mn, .ref mh, .int kp, .ref ms, .int fl, .ref mr, .ref md, .ref mo, .ref mc, .int ty, .ref mt, .int at9, .int nu, .ref mq])), (mn, .inl (cI, 578, .inl (mkM D1 S1 R1 N1 (nI kn) (upd g (17 * kn + 4 + 1) ((g (17 * kn + 4 + 1)) + 1))))), (mc, .inl (cI, 9, .inl (cq)))] := hD
              refine lv_aload_n hx hb dX5_logs_223 rfl (lv_at hl 1 rfl) ?_
              refine va_get (v := .ref mn) (D := D) (ci := 5) (C := RX5) (T := TX5) (N := 14) hx hb hts (by decide +kernel) hown hK hP 0 rfl rfl 0 (by decide) (hts (.fieldLink RX5 7 "SpiralFramesModel" "now" "[I") (by decide +kernel)) (fun _ h9 => h9) rfl dX5_logs_224 ?_
              refine lv_iload hx hb dX5_logs_227 (lv_at hl 2 rfl) ?_
              refine lv_bipush (v := 8) hx hb dX5_logs_229 (by decide) ?_
              refine lv_iadd hx hb dX5_logs_231 ?_
              refine x_eqi (show nI (442 + 17 * kn) + 8 = nI ((442 + 17 * kn) + 8) from nI_add (442 + 17 * kn) 8) ?_
              refine lv_iload hx hb dX5_logs_232 (lv_at hl 3 rfl) ?_
              refine lv_iadd hx hb dX5_logs_234 ?_
              refine x_eqi (show nI ((442 + 17 * kn) + 8) + nI t = nI (((442 + 17 * kn) + 8) + t) from nI_add ((442 + 17 * kn) + 8) t) ?_
              refine lv_aload_n hx hb dX5_logs_235 rfl (lv_at hl 1 rfl) ?_
              refine va_get (v := .ref mc) (D := D) (ci := 5) (C := RX5) (T := TX5) (N := 14) hx hb hts (by decide +kernel) hown hK hP 0 rfl rfl 8 (by decide) (hts (.fieldLink RX5 28 "SpiralFramesModel" "codes" "[I") (by decide +kernel)) (fun _ h9 => h9) rfl dX5_logs_236 ?_
              refine lv_iload hx hb dX5_logs_239 (lv_at hl 3 rfl) ?_
              refine x_iald hx hb hK hP 2 0 rfl rfl (k := t) (by omega) (by decide) dX5_logs_241 ?_
              refine x_eqi (show cq t = nI (cd t) from hh0 t (by omega)) ?_
              refine x_iastE hx hb hK hP hD hS 1 0 rfl rfl (k := ((442 + 17 * kn) + 8) + t) (g := mkM D1 S1 R1 N1 (nI kn) (upd (upd g (17 * kn + 4 + 1) ((g (17 * kn + 4 + 1)) + 1)) (17 * kn + 8 + t) (nI (cd t)))) (upM_L (j := (17 * kn + 8 + t)) (by omega) (by omega)) (by omega) (by decide) dX5_logs_242 (fun H locs hP hD hS => ?_)
              have hP : va_P D vwCl [(mm, .inr (5, [.ref mn, .ref mh, .int kp, .ref ms, .int fl, .ref mr, .ref md, .ref mo, .ref mc, .int ty, .ref mt, .int at9, .int nu, .ref mq])), (mn, .inl (cI, 578, .inl (mkM D1 S1 R1 N1 (nI kn) (upd (upd g (17 * kn + 4 + 1) ((g (17 * kn + 4 + 1)) + 1)) (17 * kn + 8 + t) (nI (cd t)))))), (mc, .inl (cI, 9, .inl (cq)))] H := hP
              have hD : va_D (Ar) [(mm, .inr (5, [.ref mn, .ref mh, .int kp, .ref ms, .int fl, .ref mr, .ref md, .ref mo, .ref mc, .int ty, .ref mt, .int at9, .int nu, .ref mq])), (mn, .inl (cI, 578, .inl (mkM D1 S1 R1 N1 (nI kn) (upd (upd g (17 * kn + 4 + 1) ((g (17 * kn + 4 + 1)) + 1)) (17 * kn + 8 + t) (nI (cd t)))))), (mc, .inl (cI, 9, .inl (cq)))] := hD
              refine lv_iinc (v := nI (t + 1)) (lv' := [(6, .int (nI (t + 1))), (7, .int 1), (0, .ref mm), (5, .int (nI (442 + 17 * kn)))]) hx hb dX5_logs_243 hl (k := 3) rfl (nI_add _ _) (by decide) rfl (fun ls hl => ?_)
              refine lv_goto (tgt := 167) hx hb dX5_logs_246 (by decide) ?_
              exact ih167 (t + 1) (upd (upd g (17 * kn + 4 + 1) ((g (17 * kn + 4 + 1)) + 1)) (17 * kn + 8 + t) (nI (cd t))) (by first | omega | assumption | rfl) (by rw [hi167_1]; first | exact lgX_s (kind := 0) (by omega) (by unfold kdN; rw [if_pos (by omega)]) (congrArg (fun z => z + 1) (lgX_k (by omega))) rfl | exact lgX_s (kind := 1) (by omega) (by unfold kdN; rw [if_neg (by omega), if_neg (by omega)]) (congrArg (fun z => z + 1) (lgX_k (by omega))) rfl | exact lgX_s (kind := 2) (by omega) (by unfold kdN; rw [if_neg (by omega), if_pos (by omega)]) (congrArg (fun z => z + 1) (lgX_k (by omega))) rfl) (by omega) H locs (hP.sub [0, 1, 2] rfl) (hD.sub [0, 1, 2] (by decide) rfl) hS ls (lv_sub hl [2, 3, 0] rfl)
            · skip
              refine lv_iconst (v := 2) hx hb dX5_logs_200 (by decide) ?_
              refine lv_goto (tgt := 205) hx hb dX5_logs_201 (by decide) ?_
              refine lv_istore (lv' := [(7, .int 2), (0, .ref mm), (5, .int (nI (442 + 17 * kn))), (6, .int (nI t))]) hx hb dX5_logs_205 hl (by decide) rfl (fun ls hl => ?_)
              refine lv_aload_n hx hb dX5_logs_207 rfl (lv_at hl 1 rfl) ?_
              refine va_get (v := .ref mn) (D := D) (ci := 5) (C := RX5) (T := TX5) (N := 14) hx hb hts (by decide +kernel) hown hK hP 0 rfl rfl 0 (by decide) (hts (.fieldLink RX5 7 "SpiralFramesModel" "now" "[I") (by decide +kernel)) (fun _ h9 => h9) rfl dX5_logs_208 ?_
              refine lv_iload hx hb dX5_logs_211 (lv_at hl 2 rfl) ?_
              refine lv_iconst (v := 4) hx hb dX5_logs_213 (by decide) ?_
              refine lv_iadd hx hb dX5_logs_214 ?_
              refine x_eqi (show nI (442 + 17 * kn) + 4 = nI ((442 + 17 * kn) + 4) from nI_add (442 + 17 * kn) 4) ?_
              refine lv_iload hx hb dX5_logs_215 (lv_at hl 0 rfl) ?_
              refine lv_iadd hx hb dX5_logs_217 ?_
              refine x_eqi (show nI ((442 + 17 * kn) + 4) + 2 = nI (((442 + 17 * kn) + 4) + 2) from nI_add ((442 + 17 * kn) + 4) 2) ?_
              refine lv_dup2_11 hx hb dX5_logs_218 rfl rfl ?_
              refine x_iald hx hb hK hP 1 0 rfl rfl (k := ((442 + 17 * kn) + 4) + 2) (by omega) (by decide) dX5_logs_219 ?_
              refine x_eqi (show (mkM D1 S1 R1 N1 (nI kn) g) (((442 + 17 * kn) + 4) + 2) = g (17 * kn + 4 + 2) from (mkM_L (j := (17 * kn + 4 + 2)) (by omega) (by omega))) ?_
              refine lv_iconst (v := 1) hx hb dX5_logs_220 (by decide) ?_
              refine lv_iadd hx hb dX5_logs_221 ?_
              refine x_iastE hx hb hK hP hD hS 1 0 rfl rfl (k := ((442 + 17 * kn) + 4) + 2) (g := mkM D1 S1 R1 N1 (nI kn) (upd g (17 * kn + 4 + 2) ((g (17 * kn + 4 + 2)) + 1))) (upM_L (j := (17 * kn + 4 + 2)) (by omega) (by omega)) (by omega) (by decide) dX5_logs_222 (fun H locs hP hD hS => ?_)
              have hP : va_P D vwCl [(mm, .inr (5, [.ref mn, .ref mh, .int kp, .ref ms, .int fl, .ref mr, .ref md, .ref mo, .ref mc, .int ty, .ref mt, .int at9, .int nu, .ref mq])), (mn, .inl (cI, 578, .inl (mkM D1 S1 R1 N1 (nI kn) (upd g (17 * kn + 4 + 2) ((g (17 * kn + 4 + 2)) + 1))))), (mc, .inl (cI, 9, .inl (cq)))] H := hP
              have hD : va_D (Ar) [(mm, .inr (5, [.ref mn, .ref mh, .int kp, .ref ms, .int fl, .ref mr, .ref md, .ref mo, .ref mc, .int ty, .ref mt, .int at9, .int nu, .ref mq])), (mn, .inl (cI, 578, .inl (mkM D1 S1 R1 N1 (nI kn) (upd g (17 * kn + 4 + 2) ((g (17 * kn + 4 + 2)) + 1))))), (mc, .inl (cI, 9, .inl (cq)))] := hD
              refine lv_aload_n hx hb dX5_logs_223 rfl (lv_at hl 1 rfl) ?_
              refine va_get (v := .ref mn) (D := D) (ci := 5) (C := RX5) (T := TX5) (N := 14) hx hb hts (by decide +kernel) hown hK hP 0 rfl rfl 0 (by decide) (hts (.fieldLink RX5 7 "SpiralFramesModel" "now" "[I") (by decide +kernel)) (fun _ h9 => h9) rfl dX5_logs_224 ?_
              refine lv_iload hx hb dX5_logs_227 (lv_at hl 2 rfl) ?_
              refine lv_bipush (v := 8) hx hb dX5_logs_229 (by decide) ?_
              refine lv_iadd hx hb dX5_logs_231 ?_
              refine x_eqi (show nI (442 + 17 * kn) + 8 = nI ((442 + 17 * kn) + 8) from nI_add (442 + 17 * kn) 8) ?_
              refine lv_iload hx hb dX5_logs_232 (lv_at hl 3 rfl) ?_
              refine lv_iadd hx hb dX5_logs_234 ?_
              refine x_eqi (show nI ((442 + 17 * kn) + 8) + nI t = nI (((442 + 17 * kn) + 8) + t) from nI_add ((442 + 17 * kn) + 8) t) ?_
              refine lv_aload_n hx hb dX5_logs_235 rfl (lv_at hl 1 rfl) ?_
              refine va_get (v := .ref mc) (D := D) (ci := 5) (C := RX5) (T := TX5) (N := 14) hx hb hts (by decide +kernel) hown hK hP 0 rfl rfl 8 (by decide) (hts (.fieldLink RX5 28 "SpiralFramesModel" "codes" "[I") (by decide +kernel)) (fun _ h9 => h9) rfl dX5_logs_236 ?_
              refine lv_iload hx hb dX5_logs_239 (lv_at hl 3 rfl) ?_
              refine x_iald hx hb hK hP 2 0 rfl rfl (k := t) (by omega) (by decide) dX5_logs_241 ?_
              refine x_eqi (show cq t = nI (cd t) from hh0 t (by omega)) ?_
              refine x_iastE hx hb hK hP hD hS 1 0 rfl rfl (k := ((442 + 17 * kn) + 8) + t) (g := mkM D1 S1 R1 N1 (nI kn) (upd (upd g (17 * kn + 4 + 2) ((g (17 * kn + 4 + 2)) + 1)) (17 * kn + 8 + t) (nI (cd t)))) (upM_L (j := (17 * kn + 8 + t)) (by omega) (by omega)) (by omega) (by decide) dX5_logs_242 (fun H locs hP hD hS => ?_)
              have hP : va_P D vwCl [(mm, .inr (5, [.ref mn, .ref mh, .int kp, .ref ms, .int fl, .ref mr, .ref md, .ref mo, .ref mc, .int ty, .ref mt, .int at9, .int nu, .ref mq])), (mn, .inl (cI, 578, .inl (mkM D1 S1 R1 N1 (nI kn) (upd (upd g (17 * kn + 4 + 2) ((g (17 * kn + 4 + 2)) + 1)) (17 * kn + 8 + t) (nI (cd t)))))), (mc, .inl (cI, 9, .inl (cq)))] H := hP
              have hD : va_D (Ar) [(mm, .inr (5, [.ref mn, .ref mh, .int kp, .ref ms, .int fl, .ref mr, .ref md, .ref mo, .ref mc, .int ty, .ref mt, .int at9, .int nu, .ref mq])), (mn, .inl (cI, 578, .inl (mkM D1 S1 R1 N1 (nI kn) (upd (upd g (17 * kn + 4 + 2) ((g (17 * kn + 4 + 2)) + 1)) (17 * kn + 8 + t) (nI (cd t)))))), (mc, .inl (cI, 9, .inl (cq)))] := hD
              refine lv_iinc (v := nI (t + 1)) (lv' := [(6, .int (nI (t + 1))), (7, .int 2), (0, .ref mm), (5, .int (nI (442 + 17 * kn)))]) hx hb dX5_logs_243 hl (k := 3) rfl (nI_add _ _) (by decide) rfl (fun ls hl => ?_)
              refine lv_goto (tgt := 167) hx hb dX5_logs_246 (by decide) ?_
              exact ih167 (t + 1) (upd (upd g (17 * kn + 4 + 2) ((g (17 * kn + 4 + 2)) + 1)) (17 * kn + 8 + t) (nI (cd t))) (by first | omega | assumption | rfl) (by rw [hi167_1]; first | exact lgX_s (kind := 0) (by omega) (by unfold kdN; rw [if_pos (by omega)]) (congrArg (fun z => z + 1) (lgX_k (by omega))) rfl | exact lgX_s (kind := 1) (by omega) (by unfold kdN; rw [if_neg (by omega), if_neg (by omega)]) (congrArg (fun z => z + 1) (lgX_k (by omega))) rfl | exact lgX_s (kind := 2) (by omega) (by unfold kdN; rw [if_neg (by omega), if_pos (by omega)]) (congrArg (fun z => z + 1) (lgX_k (by omega))) rfl) (by omega) H locs (hP.sub [0, 1, 2] rfl) (hD.sub [0, 1, 2] (by decide) rfl) hS ls (lv_sub hl [2, 3, 0] rfl)
          · skip
            refine lv_iconst (v := 0) hx hb dX5_logs_184 (by decide) ?_
            refine lv_goto (tgt := 205) hx hb dX5_logs_185 (by decide) ?_
            refine lv_istore (lv' := [(7, .int 0), (0, .ref mm), (5, .int (nI (442 + 17 * kn))), (6, .int (nI t))]) hx hb dX5_logs_205 hl (by decide) rfl (fun ls hl => ?_)
            refine lv_aload_n hx hb dX5_logs_207 rfl (lv_at hl 1 rfl) ?_
            refine va_get (v := .ref mn) (D := D) (ci := 5) (C := RX5) (T := TX5) (N := 14) hx hb hts (by decide +kernel) hown hK hP 0 rfl rfl 0 (by decide) (hts (.fieldLink RX5 7 "SpiralFramesModel" "now" "[I") (by decide +kernel)) (fun _ h9 => h9) rfl dX5_logs_208 ?_
            refine lv_iload hx hb dX5_logs_211 (lv_at hl 2 rfl) ?_
            refine lv_iconst (v := 4) hx hb dX5_logs_213 (by decide) ?_
            refine lv_iadd hx hb dX5_logs_214 ?_
            refine x_eqi (show nI (442 + 17 * kn) + 4 = nI ((442 + 17 * kn) + 4) from nI_add (442 + 17 * kn) 4) ?_
            refine lv_iload hx hb dX5_logs_215 (lv_at hl 0 rfl) ?_
            refine lv_iadd hx hb dX5_logs_217 ?_
            refine x_eqi (show nI ((442 + 17 * kn) + 4) + 0 = nI (((442 + 17 * kn) + 4) + 0) from nI_add ((442 + 17 * kn) + 4) 0) ?_
            refine lv_dup2_11 hx hb dX5_logs_218 rfl rfl ?_
            refine x_iald hx hb hK hP 1 0 rfl rfl (k := ((442 + 17 * kn) + 4) + 0) (by omega) (by decide) dX5_logs_219 ?_
            refine x_eqi (show (mkM D1 S1 R1 N1 (nI kn) g) (((442 + 17 * kn) + 4) + 0) = g (17 * kn + 4 + 0) from (mkM_L (j := (17 * kn + 4 + 0)) (by omega) (by omega))) ?_
            refine lv_iconst (v := 1) hx hb dX5_logs_220 (by decide) ?_
            refine lv_iadd hx hb dX5_logs_221 ?_
            refine x_iastE hx hb hK hP hD hS 1 0 rfl rfl (k := ((442 + 17 * kn) + 4) + 0) (g := mkM D1 S1 R1 N1 (nI kn) (upd g (17 * kn + 4 + 0) ((g (17 * kn + 4 + 0)) + 1))) (upM_L (j := (17 * kn + 4 + 0)) (by omega) (by omega)) (by omega) (by decide) dX5_logs_222 (fun H locs hP hD hS => ?_)
            have hP : va_P D vwCl [(mm, .inr (5, [.ref mn, .ref mh, .int kp, .ref ms, .int fl, .ref mr, .ref md, .ref mo, .ref mc, .int ty, .ref mt, .int at9, .int nu, .ref mq])), (mn, .inl (cI, 578, .inl (mkM D1 S1 R1 N1 (nI kn) (upd g (17 * kn + 4 + 0) ((g (17 * kn + 4 + 0)) + 1))))), (mc, .inl (cI, 9, .inl (cq)))] H := hP
            have hD : va_D (Ar) [(mm, .inr (5, [.ref mn, .ref mh, .int kp, .ref ms, .int fl, .ref mr, .ref md, .ref mo, .ref mc, .int ty, .ref mt, .int at9, .int nu, .ref mq])), (mn, .inl (cI, 578, .inl (mkM D1 S1 R1 N1 (nI kn) (upd g (17 * kn + 4 + 0) ((g (17 * kn + 4 + 0)) + 1))))), (mc, .inl (cI, 9, .inl (cq)))] := hD
            refine lv_aload_n hx hb dX5_logs_223 rfl (lv_at hl 1 rfl) ?_
            refine va_get (v := .ref mn) (D := D) (ci := 5) (C := RX5) (T := TX5) (N := 14) hx hb hts (by decide +kernel) hown hK hP 0 rfl rfl 0 (by decide) (hts (.fieldLink RX5 7 "SpiralFramesModel" "now" "[I") (by decide +kernel)) (fun _ h9 => h9) rfl dX5_logs_224 ?_
            refine lv_iload hx hb dX5_logs_227 (lv_at hl 2 rfl) ?_
            refine lv_bipush (v := 8) hx hb dX5_logs_229 (by decide) ?_
            refine lv_iadd hx hb dX5_logs_231 ?_
            refine x_eqi (show nI (442 + 17 * kn) + 8 = nI ((442 + 17 * kn) + 8) from nI_add (442 + 17 * kn) 8) ?_
            refine lv_iload hx hb dX5_logs_232 (lv_at hl 3 rfl) ?_
            refine lv_iadd hx hb dX5_logs_234 ?_
            refine x_eqi (show nI ((442 + 17 * kn) + 8) + nI t = nI (((442 + 17 * kn) + 8) + t) from nI_add ((442 + 17 * kn) + 8) t) ?_
            refine lv_aload_n hx hb dX5_logs_235 rfl (lv_at hl 1 rfl) ?_
            refine va_get (v := .ref mc) (D := D) (ci := 5) (C := RX5) (T := TX5) (N := 14) hx hb hts (by decide +kernel) hown hK hP 0 rfl rfl 8 (by decide) (hts (.fieldLink RX5 28 "SpiralFramesModel" "codes" "[I") (by decide +kernel)) (fun _ h9 => h9) rfl dX5_logs_236 ?_
            refine lv_iload hx hb dX5_logs_239 (lv_at hl 3 rfl) ?_
            refine x_iald hx hb hK hP 2 0 rfl rfl (k := t) (by omega) (by decide) dX5_logs_241 ?_
            refine x_eqi (show cq t = nI (cd t) from hh0 t (by omega)) ?_
            refine x_iastE hx hb hK hP hD hS 1 0 rfl rfl (k := ((442 + 17 * kn) + 8) + t) (g := mkM D1 S1 R1 N1 (nI kn) (upd (upd g (17 * kn + 4 + 0) ((g (17 * kn + 4 + 0)) + 1)) (17 * kn + 8 + t) (nI (cd t)))) (upM_L (j := (17 * kn + 8 + t)) (by omega) (by omega)) (by omega) (by decide) dX5_logs_242 (fun H locs hP hD hS => ?_)
            have hP : va_P D vwCl [(mm, .inr (5, [.ref mn, .ref mh, .int kp, .ref ms, .int fl, .ref mr, .ref md, .ref mo, .ref mc, .int ty, .ref mt, .int at9, .int nu, .ref mq])), (mn, .inl (cI, 578, .inl (mkM D1 S1 R1 N1 (nI kn) (upd (upd g (17 * kn + 4 + 0) ((g (17 * kn + 4 + 0)) + 1)) (17 * kn + 8 + t) (nI (cd t)))))), (mc, .inl (cI, 9, .inl (cq)))] H := hP
            have hD : va_D (Ar) [(mm, .inr (5, [.ref mn, .ref mh, .int kp, .ref ms, .int fl, .ref mr, .ref md, .ref mo, .ref mc, .int ty, .ref mt, .int at9, .int nu, .ref mq])), (mn, .inl (cI, 578, .inl (mkM D1 S1 R1 N1 (nI kn) (upd (upd g (17 * kn + 4 + 0) ((g (17 * kn + 4 + 0)) + 1)) (17 * kn + 8 + t) (nI (cd t)))))), (mc, .inl (cI, 9, .inl (cq)))] := hD
            refine lv_iinc (v := nI (t + 1)) (lv' := [(6, .int (nI (t + 1))), (7, .int 0), (0, .ref mm), (5, .int (nI (442 + 17 * kn)))]) hx hb dX5_logs_243 hl (k := 3) rfl (nI_add _ _) (by decide) rfl (fun ls hl => ?_)
            refine lv_goto (tgt := 167) hx hb dX5_logs_246 (by decide) ?_
            exact ih167 (t + 1) (upd (upd g (17 * kn + 4 + 0) ((g (17 * kn + 4 + 0)) + 1)) (17 * kn + 8 + t) (nI (cd t))) (by first | omega | assumption | rfl) (by rw [hi167_1]; first | exact lgX_s (kind := 0) (by omega) (by unfold kdN; rw [if_pos (by omega)]) (congrArg (fun z => z + 1) (lgX_k (by omega))) rfl | exact lgX_s (kind := 1) (by omega) (by unfold kdN; rw [if_neg (by omega), if_neg (by omega)]) (congrArg (fun z => z + 1) (lgX_k (by omega))) rfl | exact lgX_s (kind := 2) (by omega) (by unfold kdN; rw [if_neg (by omega), if_pos (by omega)]) (congrArg (fun z => z + 1) (lgX_k (by omega))) rfl) (by omega) H locs (hP.sub [0, 1, 2] rfl) (hD.sub [0, 1, 2] (by decide) rfl) hS ls (lv_sub hl [2, 3, 0] rfl)
    exact L167 _ 0 (upd (upd (upd (upd (upd (upd (upd L1 (17 * kn) bt) (17 * kn + 1) tol) (17 * kn + 2) 1) (17 * kn + 3) 1) (17 * kn + 4) 0) (17 * kn + 5) 0) (17 * kn + 6) 0) (by first | omega | assumption | rfl) lgX_0 (Nat.lt_succ_self _) H locs (hP.sub [0, 1, 2] rfl) (hD.sub [0, 1, 2] (by decide) rfl) hS ls (lv_sub hl [2, 1, 0] rfl)
