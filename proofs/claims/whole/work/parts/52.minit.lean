/-! ===== the spiral of the model, as far as a place ===== -/
def srP (b : Nat) : Nat → Int32 := fun j => if j ≤ b then zI (x_sr j) else 0
def sdP (b : Nat) : Nat → Int32 := fun j => if j ≤ b then zI (x_sd j) else 0
theorem srP_at {p : Nat} : srP p p = zI (x_sr p) := if_pos (Nat.le_refl p)
theorem sdP_at {p : Nat} : sdP p p = zI (x_sd p) := if_pos (Nat.le_refl p)
theorem srP_s {p : Nat} {v : Int32} (h : v = zI (x_sr (p + 1))) : upd (srP p) (p + 1) v = srP (p + 1) := by
  funext j
  unfold upd srP
  by_cases e : j = p + 1
  · rw [if_pos e, if_pos (by omega), h, e]
  · rw [if_neg e]
    by_cases e2 : j ≤ p
    · rw [if_pos e2, if_pos (by omega)]
    · rw [if_neg e2, if_neg (by omega)]
theorem sdP_s {p : Nat} {v : Int32} (h : v = zI (x_sd (p + 1))) : upd (sdP p) (p + 1) v = sdP (p + 1) := by
  funext j
  unfold upd sdP
  by_cases e : j = p + 1
  · rw [if_pos e, if_pos (by omega), h, e]
  · rw [if_neg e]
    by_cases e2 : j ≤ p
    · rw [if_pos e2, if_pos (by omega)]
    · rw [if_neg e2, if_neg (by omega)]
theorem srP_0 : (fun _ => 0) = srP 0 := by
  funext j
  unfold srP
  by_cases e : j ≤ 0
  · rw [if_pos e, show j = 0 by omega]; rfl
  · rw [if_neg e]
theorem sdP_0 : (fun _ => 0) = sdP 0 := by
  funext j
  unfold sdP
  by_cases e : j ≤ 0
  · rw [if_pos e, show j = 0 by omega]; rfl
  · rw [if_neg e]
theorem srP_24 : srP 24 = x_srF := by
  funext j
  unfold srP x_srF
  by_cases e : j ≤ 24
  · rw [if_pos e]
  · rw [if_neg e]
    have : x_sr j = 0 := by unfold x_sr; rw [List.getD_eq_getElem?_getD, List.getElem?_eq_none (show x_srL.length ≤ j from Nat.le_of_not_lt (fun h : j < 25 => e (by omega)))]; rfl
    rw [this]; rfl
theorem sdP_24 : sdP 24 = x_sdF := by
  funext j
  unfold sdP x_sdF
  by_cases e : j ≤ 24
  · rw [if_pos e]
  · rw [if_neg e]
    have : x_sd j = 0 := by unfold x_sd; rw [List.getD_eq_getElem?_getD, List.getElem?_eq_none (show x_sdL.length ≤ j from Nat.le_of_not_lt (fun h : j < 25 => e (by omega)))]; rfl
    rw [this]; rfl
theorem mk_init : upd (fun _ => 0) 432 200 = mkM (fun _ => 0) (fun _ => 0) (fun _ => 0) (upd (fun _ => 0) 0 200) 0 (fun _ => 0) := by
  refine mkM_e ?_ ?_ ?_ ?_ ?_ ?_ ?_
  · intro j hj; unfold upd; rw [if_neg (by omega)]
  · intro j hj; unfold upd; rw [if_neg (by omega)]
  · intro j hj; unfold upd; rw [if_neg (by omega)]
  · intro j hj
    unfold upd
    by_cases e : j = 0
    · rw [if_pos (by omega), if_pos e]
    · rw [if_neg (by omega), if_neg e]
  · unfold upd; rw [if_neg (by omega)]
  · intro j hj; unfold upd; rw [if_neg (by omega)]
  · intro j hj; unfold upd; rw [if_neg (by omega)]
set_option maxHeartbeats 4000000 in
set_option maxRecDepth 100000 in
theorem c_X5_goes (l : Launch) (D : va_G) (cI cC cS : ClassId) (tt : Nat → Nat) (sz : Nat) (mm : Nat) (mn : Nat) (mh : Nat) (ms : Nat) (mr : Nat) (md : Nat) (mo : Nat) (mc : Nat) (mt : Nat) (mq : Nat) (kp : Int32) (fl : Int32) (ty : Int32) (at9 : Int32) (nu : Int32) (b : Nat) (n : Nat) (f9 : Nat → Int32) (g9 : Nat → Int32) (cc : Int32) (C : Int) (hC_ : cc.toInt = C) (rr : Int32) (R9 : Int) (hR9_ : rr.toInt = R9) (hh0 : f9 = srP b) (hh1 : g9 = sdP b) (hh2 : b ≤ 24) (hh3 : n ≤ 25) (hh4 : -2 ≤ C ∧ C ≤ 2 ∧ -2 ≤ R9 ∧ R9 ≤ 2) (hh5 : ∀ i, i < n → b + i < 24 → x_sr (b + i + 1) = x_sr (b + i) + C ∧ x_sd (b + i + 1) = x_sd (b + i) + R9) : Met l yX5_goes wsX5_goes ({ frames := 0, cells := 0, slots := 0, locals := 0 } : Room) (x_PW D cI cC cS tt [(mm, .inr (5, [.ref mn, .ref mh, .int kp, .ref ms, .int fl, .ref mr, .ref md, .ref mo, .ref mc, .int ty, .ref mt, .int at9, .int nu, .ref mq])), (mr, .inl (cI, 25, .inl (f9))), (md, .inl (cI, 25, .inl (g9)))] sz [.ref mm, .int (nI b), .int cc, .int rr, .int (nI n)]) (x_QWi D [(mm, .inr (5, [.ref mn, .ref mh, .int kp, .ref ms, .int fl, .ref mr, .ref md, .ref mo, .ref mc, .int ty, .ref mt, .int at9, .int nu, .ref mq])), (mr, .inl (cI, 25, .inl (f9))), (md, .inl (cI, 25, .inl (g9)))] sz (fun (r : Int32) (w : va_W) => r = (nI (min (b + n) 24)) ∧ w = [(mm, .inr (5, [.ref mn, .ref mh, .int kp, .ref ms, .int fl, .ref mr, .ref md, .ref mo, .ref mc, .int ty, .ref mt, .int at9, .int nu, .ref mq])), (mr, .inl (cI, 25, .inl (srP (min (b + n) 24)))), (md, .inl (cI, 25, .inl (sdP (min (b + n) 24))))])) 0 0 (va_A [(mm, .inr (5, [.ref mn, .ref mh, .int kp, .ref ms, .int fl, .ref mr, .ref md, .ref mo, .ref mc, .int ty, .ref mt, .int at9, .int nu, .ref mq])), (mr, .inl (cI, 25, .inl (f9))), (md, .inl (cI, 25, .inl (g9)))] sz) := by
  refine Met.ofW (cc := cX5_goes) (maxL := 7) (ret := (some .int)) (by decide) rfl ?_
  intro p e s m args below meth c s₁ hBd hml hv
  obtain ⟨rfl, hsz, hP, hK, hD0, hE0⟩ := hv
  have hx := hBd.exec
  have hb := hBd.bytes
  have hr := hBd.returns
  have hts := atoms_spec (ws := wsX5_goes) hBd.pre
  have hown : s.vm.findClass RX5 = some m.cls := findClass_of_methodNamed hBd.named
  have hlocks := hBd.notSynchronized
  subst hsz
  obtain ⟨Ar, hAe⟩ : ∃ Ar : Nat → Prop, Ar = va_A [(mm, .inr (5, [.ref mn, .ref mh, .int kp, .ref ms, .int fl, .ref mr, .ref md, .ref mo, .ref mc, .int ty, .ref mt, .int at9, .int nu, .ref mq])), (mr, .inl (cI, 25, .inl (f9))), (md, .inl (cI, 25, .inl (g9)))] s.heap.size := ⟨_, rfl⟩
  have hD : va_D Ar [(mm, .inr (5, [.ref mn, .ref mh, .int kp, .ref ms, .int fl, .ref mr, .ref md, .ref mo, .ref mc, .int ty, .ref mt, .int at9, .int nu, .ref mq])), (mr, .inl (cI, 25, .inl (f9))), (md, .inl (cI, 25, .inl (g9)))] := by rw [hAe]; exact hD0.self
  have hA : ∀ q : Nat, s.heap.size ≤ q → Ar q := fun q h => by rw [hAe]; exact Or.inr h
  have hE : x_E tt Ar s := by rw [hAe]; exact hE0
  have hS : va_S Ar s.heap s.heap [] := va_S.rf
  have hl := lv_entry ([.ref mm, .int (nI b), .int cc, .int rr, .int (nI n)]) (n := 7) (Nat.le_of_ble_eq_true rfl)
  rw [lg_entry_eq]
  generalize (lg_sl ([.ref mm, .int (nI b), .int cc, .int rr, .int (nI n)]) ++ List.replicate (7 - (lg_sl ([.ref mm, .int (nI b), .int cc, .int rr, .int (nI n)])).length) Slot.unset).toArray = ls at hl ⊢
  have hl : lv_has ls 7 [(0, .ref mm), (1, .int (nI b)), (2, .int cc), (3, .int rr), (4, .int (nI n))] := hl
  refine x_genQ (fun Q hQ => ?_)
  refine lv_iload_n hx hb dX5_goes_0 rfl (lv_at hl 1 rfl) ?_
  refine lv_istore (lv' := [(5, .int (nI b)), (0, .ref mm), (1, .int (nI b)), (2, .int cc), (3, .int rr), (4, .int (nI n))]) hx hb dX5_goes_1 hl (by decide) rfl (fun ls hl => ?_)
  refine lv_iconst (v := 0) hx hb dX5_goes_3 (by decide) ?_
  refine lv_istore (lv' := [(6, .int 0), (5, .int (nI b)), (0, .ref mm), (1, .int (nI b)), (2, .int cc), (3, .int rr), (4, .int (nI n))]) hx hb dX5_goes_4 hl (by decide) rfl (fun ls hl => ?_)
  have L6 : ∀ (fuel : Nat) (pp : Nat) (kk : Nat) (f : Nat → Int32) (g : Nat → Int32), (pp = b + kk) → (kk ≤ n) → (pp ≤ 24) → (f = srP pp) → (g = sdP pp) → n - kk < fuel → ∀ (H : Heap) (locs : List Loc), va_P D vwCl [(mm, .inr (5, [.ref mn, .ref mh, .int kp, .ref ms, .int fl, .ref mr, .ref md, .ref mo, .ref mc, .int ty, .ref mt, .int at9, .int nu, .ref mq])), (mr, .inl (cI, 25, .inl (f))), (md, .inl (cI, 25, .inl (g)))] H → va_D (Ar) [(mm, .inr (5, [.ref mn, .ref mh, .int kp, .ref ms, .int fl, .ref mr, .ref md, .ref mo, .ref mc, .int ty, .ref mt, .int at9, .int nu, .ref mq])), (mr, .inl (cI, 25, .inl (f))), (md, .inl (cI, 25, .inl (g)))] → va_S (Ar) s.heap H locs → ∀ (ls : Array Slot), lv_has ls 7 [(0, .ref mm), (2, .int cc), (3, .int rr), (4, .int (nI n)), (5, .int (nI pp)), (6, .int (nI kk))] → W p l e (headSpec wsX5_goes ({ frames := 0, cells := 0, slots := 0, locals := 0 } : Room)).room s m ([.ref mm, .int (nI b), .int cc, .int rr, .int (nI n)] : List Value).toArray below meth c H locs 0 0 Q (F0 m 6 ls []) := by
    intro fuel
    induction fuel with
    | zero =>
      intro pp kk f g hi6_0 hi6_1 hi6_2 hi6_3 hi6_4 hfu
      exact absurd hfu (Nat.not_lt_zero _)
    | succ fuel ih6 =>
      intro pp kk f g hi6_0 hi6_1 hi6_2 hi6_3 hi6_4 hfu6 H locs hP hD hS ls hl
      refine lv_iload hx hb dX5_goes_6 (lv_at hl 5 rfl) ?_
      refine lv_iload hx hb dX5_goes_8 (lv_at hl 3 rfl) ?_
      refine x_icmp_ge (tgt := 65) hx hb dX5_goes_10 (by decide) (X := ((kk : Nat) : Int)) (nI_toI (by omega)) (Y := ((n : Nat) : Int)) (nI_toI (by omega)) (fun c_10 => ?_) (fun c_10 => ?_)
      · skip
        refine lv_iload hx hb dX5_goes_65 (lv_at hl 4 rfl) ?_
        refine x_iretW (w := [(mm, .inr (5, [.ref mn, .ref mh, .int kp, .ref ms, .int fl, .ref mr, .ref md, .ref mo, .ref mc, .int ty, .ref mt, .int at9, .int nu, .ref mq])), (mr, .inl (cI, 25, .inl (f))), (md, .inl (cI, 25, .inl (g)))]) hQ hAe hx hb hr hlocks (hP.sub [0, 1, 2] rfl) (hD.sub [0, 1, 2] (by decide) rfl) hS ?_ dX5_goes_67
        exact (by rw [hi6_3, hi6_4, show pp = min (b + n) 24 by omega]; exact ⟨rfl, rfl⟩)
      · skip
        refine lv_iload hx hb dX5_goes_13 (lv_at hl 4 rfl) ?_
        refine lv_bipush (v := 24) hx hb dX5_goes_15 (by decide) ?_
        refine x_icmp_ge (tgt := 65) hx hb dX5_goes_17 (by decide) (X := ((pp : Nat) : Int)) (nI_toI (by omega)) (Y := 24) (show (24 : Int32).toInt = 24 from by decide) (fun c_17 => ?_) (fun c_17 => ?_)
        · skip
          refine lv_iload hx hb dX5_goes_65 (lv_at hl 4 rfl) ?_
          refine x_iretW (w := [(mm, .inr (5, [.ref mn, .ref mh, .int kp, .ref ms, .int fl, .ref mr, .ref md, .ref mo, .ref mc, .int ty, .ref mt, .int at9, .int nu, .ref mq])), (mr, .inl (cI, 25, .inl (f))), (md, .inl (cI, 25, .inl (g)))]) hQ hAe hx hb hr hlocks (hP.sub [0, 1, 2] rfl) (hD.sub [0, 1, 2] (by decide) rfl) hS ?_ dX5_goes_67
          exact (by rw [hi6_3, hi6_4, show pp = min (b + n) 24 by omega]; exact ⟨rfl, rfl⟩)
        · skip
          have bsr := x_sr_b pp (by omega)
          have bsd := x_sd_b pp (by omega)
          have bst := hh5 kk (by omega) (by omega)
          rw [← hi6_0] at bst
          refine lv_aload_n hx hb dX5_goes_20 rfl (lv_at hl 0 rfl) ?_
          refine va_get (v := .ref mr) (D := D) (ci := 5) (C := RX5) (T := TX5) (N := 14) hx hb hts (by decide +kernel) hown hK hP 0 rfl rfl 5 (by decide) (hts (.fieldLink RX5 19 "SpiralFramesModel" "right" "[I") (by decide +kernel)) (fun _ h9 => h9) rfl dX5_goes_21 ?_
          refine lv_iload hx hb dX5_goes_24 (lv_at hl 4 rfl) ?_
          refine lv_iconst (v := 1) hx hb dX5_goes_26 (by decide) ?_
          refine lv_iadd hx hb dX5_goes_27 ?_
          refine x_eqi (show nI pp + 1 = nI (pp + 1) from nI_add pp 1) ?_
          refine lv_aload_n hx hb dX5_goes_28 rfl (lv_at hl 0 rfl) ?_
          refine va_get (v := .ref mr) (D := D) (ci := 5) (C := RX5) (T := TX5) (N := 14) hx hb hts (by decide +kernel) hown hK hP 0 rfl rfl 5 (by decide) (hts (.fieldLink RX5 19 "SpiralFramesModel" "right" "[I") (by decide +kernel)) (fun _ h9 => h9) rfl dX5_goes_29 ?_
          refine lv_iload hx hb dX5_goes_32 (lv_at hl 4 rfl) ?_
          refine x_iald hx hb hK hP 1 0 rfl rfl (k := pp) (by omega) (by decide) dX5_goes_34 ?_
          refine x_eqi (show f pp = zI (x_sr pp) from (by rw [hi6_3]; exact srP_at)) ?_
          refine lv_iload_n hx hb dX5_goes_35 rfl (lv_at hl 1 rfl) ?_
          refine lv_iadd hx hb dX5_goes_36 ?_
          refine x_eqi (show (zI (x_sr pp)) + cc = zI (x_sr (pp + 1)) from zI_eq (x_addI (x_sr_toI pp) hC_ (by omega) (by omega)) (by omega)) ?_
          refine x_iast hx hb hK hP hD hS 1 0 rfl rfl (k := pp + 1) (by omega) (by decide) dX5_goes_37 (fun H locs hP hD hS => ?_)
          have hP : va_P D vwCl [(mm, .inr (5, [.ref mn, .ref mh, .int kp, .ref ms, .int fl, .ref mr, .ref md, .ref mo, .ref mc, .int ty, .ref mt, .int at9, .int nu, .ref mq])), (mr, .inl (cI, 25, .inl (upd f (pp + 1) (zI (x_sr (pp + 1)))))), (md, .inl (cI, 25, .inl (g)))] H := hP
          have hD : va_D (Ar) [(mm, .inr (5, [.ref mn, .ref mh, .int kp, .ref ms, .int fl, .ref mr, .ref md, .ref mo, .ref mc, .int ty, .ref mt, .int at9, .int nu, .ref mq])), (mr, .inl (cI, 25, .inl (upd f (pp + 1) (zI (x_sr (pp + 1)))))), (md, .inl (cI, 25, .inl (g)))] := hD
          refine lv_aload_n hx hb dX5_goes_38 rfl (lv_at hl 0 rfl) ?_
          refine va_get (v := .ref md) (D := D) (ci := 5) (C := RX5) (T := TX5) (N := 14) hx hb hts (by decide +kernel) hown hK hP 0 rfl rfl 6 (by decide) (hts (.fieldLink RX5 22 "SpiralFramesModel" "down" "[I") (by decide +kernel)) (fun _ h9 => h9) rfl dX5_goes_39 ?_
          refine lv_iload hx hb dX5_goes_42 (lv_at hl 4 rfl) ?_
          refine lv_iconst (v := 1) hx hb dX5_goes_44 (by decide) ?_
          refine lv_iadd hx hb dX5_goes_45 ?_
          refine x_eqi (show nI pp + 1 = nI (pp + 1) from nI_add pp 1) ?_
          refine lv_aload_n hx hb dX5_goes_46 rfl (lv_at hl 0 rfl) ?_
          refine va_get (v := .ref md) (D := D) (ci := 5) (C := RX5) (T := TX5) (N := 14) hx hb hts (by decide +kernel) hown hK hP 0 rfl rfl 6 (by decide) (hts (.fieldLink RX5 22 "SpiralFramesModel" "down" "[I") (by decide +kernel)) (fun _ h9 => h9) rfl dX5_goes_47 ?_
          refine lv_iload hx hb dX5_goes_50 (lv_at hl 4 rfl) ?_
          refine x_iald hx hb hK hP 2 0 rfl rfl (k := pp) (by omega) (by decide) dX5_goes_52 ?_
          refine x_eqi (show g pp = zI (x_sd pp) from (by rw [hi6_4]; exact sdP_at)) ?_
          refine lv_iload_n hx hb dX5_goes_53 rfl (lv_at hl 2 rfl) ?_
          refine lv_iadd hx hb dX5_goes_54 ?_
          refine x_eqi (show (zI (x_sd pp)) + rr = zI (x_sd (pp + 1)) from zI_eq (x_addI (x_sd_toI pp) hR9_ (by omega) (by omega)) (by omega)) ?_
          refine x_iast hx hb hK hP hD hS 2 0 rfl rfl (k := pp + 1) (by omega) (by decide) dX5_goes_55 (fun H locs hP hD hS => ?_)
          have hP : va_P D vwCl [(mm, .inr (5, [.ref mn, .ref mh, .int kp, .ref ms, .int fl, .ref mr, .ref md, .ref mo, .ref mc, .int ty, .ref mt, .int at9, .int nu, .ref mq])), (mr, .inl (cI, 25, .inl (upd f (pp + 1) (zI (x_sr (pp + 1)))))), (md, .inl (cI, 25, .inl (upd g (pp + 1) (zI (x_sd (pp + 1))))))] H := hP
          have hD : va_D (Ar) [(mm, .inr (5, [.ref mn, .ref mh, .int kp, .ref ms, .int fl, .ref mr, .ref md, .ref mo, .ref mc, .int ty, .ref mt, .int at9, .int nu, .ref mq])), (mr, .inl (cI, 25, .inl (upd f (pp + 1) (zI (x_sr (pp + 1)))))), (md, .inl (cI, 25, .inl (upd g (pp + 1) (zI (x_sd (pp + 1))))))] := hD
          refine lv_iinc (v := nI (pp + 1)) (lv' := [(5, .int (nI (pp + 1))), (0, .ref mm), (2, .int cc), (3, .int rr), (4, .int (nI n)), (6, .int (nI kk))]) hx hb dX5_goes_56 hl (k := 4) rfl (nI_add _ _) (by decide) rfl (fun ls hl => ?_)
          refine lv_iinc (v := nI (kk + 1)) (lv' := [(6, .int (nI (kk + 1))), (5, .int (nI (pp + 1))), (0, .ref mm), (2, .int cc), (3, .int rr), (4, .int (nI n))]) hx hb dX5_goes_59 hl (k := 5) rfl (nI_add _ _) (by decide) rfl (fun ls hl => ?_)
          refine lv_goto (tgt := 6) hx hb dX5_goes_62 (by decide) ?_
          exact ih6 (pp + 1) (kk + 1) (upd f (pp + 1) (zI (x_sr (pp + 1)))) (upd g (pp + 1) (zI (x_sd (pp + 1)))) (by first | omega | assumption | rfl) (by first | omega | assumption | rfl) (by first | omega | assumption | rfl) (by rw [hi6_3]; exact srP_s rfl) (by rw [hi6_4]; exact sdP_s rfl) (by omega) H locs (hP.sub [0, 1, 2] rfl) (hD.sub [0, 1, 2] (by decide) rfl) hS ls (lv_sub hl [2, 3, 4, 5, 1, 0] rfl)
  exact L6 _ b 0 f9 g9 (by omega) (by first | omega | assumption | rfl) (by first | omega | assumption | rfl) hh0 hh1 (Nat.lt_succ_self _) s.heap [] (hP.sub [0, 1, 2] rfl) (hD.sub [0, 1, 2] (by decide) rfl) hS ls (lv_sub hl [2, 4, 5, 6, 1, 0] rfl)
set_option maxHeartbeats 4000000 in
set_option maxRecDepth 100000 in
theorem c_X5_init (l : Launch) (D : va_G) (cI cC cS : ClassId) (tt : Nat → Nat) (sz : Nat) (mm : Nat) : Met l yX5_init wsX5_init ({ frames := 1, cells := 9, slots := 3737, locals := 26 } : Room) (x_PW D cI cC cS tt [(mm, .inr (5, [.null, .null, .int 0, .null, .int 0, .null, .null, .null, .null, .int 0, .null, .int 0, .int 0, .null]))] sz [.ref mm]) (x_QWv D [(mm, .inr (5, [.null, .null, .int 0, .null, .int 0, .null, .null, .null, .null, .int 0, .null, .int 0, .int 0, .null]))] sz (fun (w : va_W) => ∃ (mn mh ms mr md mo mc mt mq : Nat), w = [(mm, .inr (5, [.ref mn, .ref mh, .int 0, .ref ms, .int 0, .ref mr, .ref md, .ref mo, .ref mc, .int 0, .ref mt, .int 0, .int 0, .ref mq])), (mn, .inl (cI, 578, .inl (mkM (fun _ => 0) (fun _ => 0) (fun _ => 0) (upd (fun _ => 0) 0 200) 0 (fun _ => 0)))), (mh, .inl (cI, 2312, .inl (fun _ => 0))), (ms, .inl (cI, 578, .inl (fun _ => 0))), (mr, .inl (cI, 25, .inl (x_srF))), (md, .inl (cI, 25, .inl (x_sdF))), (mo, .inl (cI, 144, .inl (fun _ => 0))), (mc, .inl (cI, 9, .inl (fun _ => 0))), (mt, .inl (cC, 60, .inl (fun _ => 0))), (mq, .inl (cI, 6, .inl (fun _ => 0)))])) 9 3737 (va_A [(mm, .inr (5, [.null, .null, .int 0, .null, .int 0, .null, .null, .null, .null, .int 0, .null, .int 0, .int 0, .null]))] sz) := by
  refine Met.ofW (cc := cX5_init) (maxL := 3) (ret := none) (by decide) rfl ?_
  intro p e s m args below meth c s₁ hBd hml hv
  obtain ⟨rfl, hsz, hP, hK, hD0, hE0⟩ := hv
  have hx := hBd.exec
  have hb := hBd.bytes
  have hr := hBd.returns
  have hts := atoms_spec (ws := wsX5_init) hBd.pre
  have hown : s.vm.findClass RX5 = some m.cls := findClass_of_methodNamed hBd.named
  have hlocks := hBd.notSynchronized
  have hin : meth.name = "<init>" := (name_of_methodNamed hBd.named hBd.method).1
  subst hsz
  obtain ⟨Ar, hAe⟩ : ∃ Ar : Nat → Prop, Ar = va_A [(mm, .inr (5, [.null, .null, .int 0, .null, .int 0, .null, .null, .null, .null, .int 0, .null, .int 0, .int 0, .null]))] s.heap.size := ⟨_, rfl⟩
  have hD : va_D Ar [(mm, .inr (5, [.null, .null, .int 0, .null, .int 0, .null, .null, .null, .null, .int 0, .null, .int 0, .int 0, .null]))] := by rw [hAe]; exact hD0.self
  have hA : ∀ q : Nat, s.heap.size ≤ q → Ar q := fun q h => by rw [hAe]; exact Or.inr h
  have hE : x_E tt Ar s := by rw [hAe]; exact hE0
  have hS : va_S Ar s.heap s.heap [] := va_S.rf
  have hl := lv_entry ([.ref mm]) (n := 3) (Nat.le_of_ble_eq_true rfl)
  rw [lg_entry_eq]
  generalize (lg_sl ([.ref mm]) ++ List.replicate (3 - (lg_sl ([.ref mm])).length) Slot.unset).toArray = ls at hl ⊢
  have hl : lv_has ls 3 [(0, .ref mm)] := hl
  refine x_genQ (fun Q hQ => ?_)
  refine lv_aload_n hx hb dX5_init_0 rfl (lv_at hl 0 rfl) ?_
  refine W.objInit hx hb hown (hts (.methodLink RX5 1 objectInit) (by decide +kernel)) (hts (.instanceMethod objectInit) (by decide +kernel)) (hts (.code objectInit ⟨#[0xb1]⟩ 1 none) (by decide +kernel)) rfl (by rw [hml]; exact hl.1) rfl dX5_init_1 (Nat.le_of_ble_eq_true rfl) (Nat.le_of_ble_eq_true rfl) ?_
  refine W.eq (g2 := F0 m 4 ls []) rfl ?_
  refine lv_aload_n hx hb dX5_init_4 rfl (lv_at hl 0 rfl) ?_
  refine lv_sipush (v := 578) hx hb dX5_init_5 (by decide) ?_
  refine x_newaI hx hb (hts (.arrayClass .int) (by decide +kernel)) hK hP hD hS hA (N := 578) (by decide) (by decide) (Nat.le_of_ble_eq_true rfl) (Nat.le_of_ble_eq_true rfl) (Nat.le_of_ble_eq_true rfl) dX5_init_8 (fun q8 H hP hD hS => ?_)
  have hP : va_P D vwCl [(mm, .inr (5, [.null, .null, .int 0, .null, .int 0, .null, .null, .null, .null, .int 0, .null, .int 0, .int 0, .null])), (q8, .inl (cI, 578, .inl (fun _ => 0)))] H := hP
  have hD : va_D (Ar) [(mm, .inr (5, [.null, .null, .int 0, .null, .int 0, .null, .null, .null, .null, .int 0, .null, .int 0, .int 0, .null])), (q8, .inl (cI, 578, .inl (fun _ => 0)))] := hD
  refine W.widen (k := 1) (n := 578) (Nat.le_of_ble_eq_true rfl) (Nat.le_of_ble_eq_true rfl) ?_
  refine va_putF (v := .ref q8) (ty := .array .int) (D := D) (ci := 5) (C := RX5) (T := TX5) (N := 14) hx hb hts (by decide +kernel) tyX5 tyX5_ok nmX5 hown hK hP hD hS 0 rfl rfl 0 (by decide) (hts (.fieldLink RX5 7 "SpiralFramesModel" "now" "[I") (by decide +kernel)) (fun _ h9 => h9) rfl hin rfl (by decide +kernel) rfl rfl (Nat.le_of_ble_eq_true rfl) dX5_init_10 (fun H locs hP hD hS => ?_)
  have hP : va_P D vwCl [(mm, .inr (5, [.ref q8, .null, .int 0, .null, .int 0, .null, .null, .null, .null, .int 0, .null, .int 0, .int 0, .null])), (q8, .inl (cI, 578, .inl (fun _ => 0)))] H := hP
  have hD : va_D (Ar) [(mm, .inr (5, [.ref q8, .null, .int 0, .null, .int 0, .null, .null, .null, .null, .int 0, .null, .int 0, .int 0, .null])), (q8, .inl (cI, 578, .inl (fun _ => 0)))] := hD
  refine lv_aload_n hx hb dX5_init_13 rfl (lv_at hl 0 rfl) ?_
  refine lv_sipush (v := 2312) hx hb dX5_init_14 (by decide) ?_
  refine x_newaI hx hb (hts (.arrayClass .int) (by decide +kernel)) hK hP hD hS hA (N := 2312) (by decide) (by decide) (Nat.le_of_ble_eq_true rfl) (Nat.le_of_ble_eq_true rfl) (Nat.le_of_ble_eq_true rfl) dX5_init_17 (fun q17 H hP hD hS => ?_)
  have hP : va_P D vwCl [(mm, .inr (5, [.ref q8, .null, .int 0, .null, .int 0, .null, .null, .null, .null, .int 0, .null, .int 0, .int 0, .null])), (q8, .inl (cI, 578, .inl (fun _ => 0))), (q17, .inl (cI, 2312, .inl (fun _ => 0)))] H := hP
  have hD : va_D (Ar) [(mm, .inr (5, [.ref q8, .null, .int 0, .null, .int 0, .null, .null, .null, .null, .int 0, .null, .int 0, .int 0, .null])), (q8, .inl (cI, 578, .inl (fun _ => 0))), (q17, .inl (cI, 2312, .inl (fun _ => 0)))] := hD
  refine W.widen (k := 2) (n := 2890) (Nat.le_of_ble_eq_true rfl) (Nat.le_of_ble_eq_true rfl) ?_
  refine va_putF (v := .ref q17) (ty := .array .int) (D := D) (ci := 5) (C := RX5) (T := TX5) (N := 14) hx hb hts (by decide +kernel) tyX5 tyX5_ok nmX5 hown hK hP hD hS 0 rfl rfl 1 (by decide) (hts (.fieldLink RX5 13 "SpiralFramesModel" "history" "[I") (by decide +kernel)) (fun _ h9 => h9) rfl hin rfl (by decide +kernel) rfl rfl (Nat.le_of_ble_eq_true rfl) dX5_init_19 (fun H locs hP hD hS => ?_)
  have hP : va_P D vwCl [(mm, .inr (5, [.ref q8, .ref q17, .int 0, .null, .int 0, .null, .null, .null, .null, .int 0, .null, .int 0, .int 0, .null])), (q8, .inl (cI, 578, .inl (fun _ => 0))), (q17, .inl (cI, 2312, .inl (fun _ => 0)))] H := hP
  have hD : va_D (Ar) [(mm, .inr (5, [.ref q8, .ref q17, .int 0, .null, .int 0, .null, .null, .null, .null, .int 0, .null, .int 0, .int 0, .null])), (q8, .inl (cI, 578, .inl (fun _ => 0))), (q17, .inl (cI, 2312, .inl (fun _ => 0)))] := hD
  refine lv_aload_n hx hb dX5_init_22 rfl (lv_at hl 0 rfl) ?_
  refine lv_sipush (v := 578) hx hb dX5_init_23 (by decide) ?_
  refine x_newaI hx hb (hts (.arrayClass .int) (by decide +kernel)) hK hP hD hS hA (N := 578) (by decide) (by decide) (Nat.le_of_ble_eq_true rfl) (Nat.le_of_ble_eq_true rfl) (Nat.le_of_ble_eq_true rfl) dX5_init_26 (fun q26 H hP hD hS => ?_)
  have hP : va_P D vwCl [(mm, .inr (5, [.ref q8, .ref q17, .int 0, .null, .int 0, .null, .null, .null, .null, .int 0, .null, .int 0, .int 0, .null])), (q8, .inl (cI, 578, .inl (fun _ => 0))), (q17, .inl (cI, 2312, .inl (fun _ => 0))), (q26, .inl (cI, 578, .inl (fun _ => 0)))] H := hP
  have hD : va_D (Ar) [(mm, .inr (5, [.ref q8, .ref q17, .int 0, .null, .int 0, .null, .null, .null, .null, .int 0, .null, .int 0, .int 0, .null])), (q8, .inl (cI, 578, .inl (fun _ => 0))), (q17, .inl (cI, 2312, .inl (fun _ => 0))), (q26, .inl (cI, 578, .inl (fun _ => 0)))] := hD
  refine W.widen (k := 3) (n := 3468) (Nat.le_of_ble_eq_true rfl) (Nat.le_of_ble_eq_true rfl) ?_
  refine va_putF (v := .ref q26) (ty := .array .int) (D := D) (ci := 5) (C := RX5) (T := TX5) (N := 14) hx hb hts (by decide +kernel) tyX5 tyX5_ok nmX5 hown hK hP hD hS 0 rfl rfl 3 (by decide) (hts (.fieldLink RX5 16 "SpiralFramesModel" "slot" "[I") (by decide +kernel)) (fun _ h9 => h9) rfl hin rfl (by decide +kernel) rfl rfl (Nat.le_of_ble_eq_true rfl) dX5_init_28 (fun H locs hP hD hS => ?_)
  have hP : va_P D vwCl [(mm, .inr (5, [.ref q8, .ref q17, .int 0, .ref q26, .int 0, .null, .null, .null, .null, .int 0, .null, .int 0, .int 0, .null])), (q8, .inl (cI, 578, .inl (fun _ => 0))), (q17, .inl (cI, 2312, .inl (fun _ => 0))), (q26, .inl (cI, 578, .inl (fun _ => 0)))] H := hP
  have hD : va_D (Ar) [(mm, .inr (5, [.ref q8, .ref q17, .int 0, .ref q26, .int 0, .null, .null, .null, .null, .int 0, .null, .int 0, .int 0, .null])), (q8, .inl (cI, 578, .inl (fun _ => 0))), (q17, .inl (cI, 2312, .inl (fun _ => 0))), (q26, .inl (cI, 578, .inl (fun _ => 0)))] := hD
  refine lv_aload_n hx hb dX5_init_31 rfl (lv_at hl 0 rfl) ?_
  refine lv_bipush (v := 25) hx hb dX5_init_32 (by decide) ?_
  refine x_newaI hx hb (hts (.arrayClass .int) (by decide +kernel)) hK hP hD hS hA (N := 25) (by decide) (by decide) (Nat.le_of_ble_eq_true rfl) (Nat.le_of_ble_eq_true rfl) (Nat.le_of_ble_eq_true rfl) dX5_init_34 (fun q34 H hP hD hS => ?_)
  have hP : va_P D vwCl [(mm, .inr (5, [.ref q8, .ref q17, .int 0, .ref q26, .int 0, .null, .null, .null, .null, .int 0, .null, .int 0, .int 0, .null])), (q8, .inl (cI, 578, .inl (fun _ => 0))), (q17, .inl (cI, 2312, .inl (fun _ => 0))), (q26, .inl (cI, 578, .inl (fun _ => 0))), (q34, .inl (cI, 25, .inl (fun _ => 0)))] H := hP
  have hD : va_D (Ar) [(mm, .inr (5, [.ref q8, .ref q17, .int 0, .ref q26, .int 0, .null, .null, .null, .null, .int 0, .null, .int 0, .int 0, .null])), (q8, .inl (cI, 578, .inl (fun _ => 0))), (q17, .inl (cI, 2312, .inl (fun _ => 0))), (q26, .inl (cI, 578, .inl (fun _ => 0))), (q34, .inl (cI, 25, .inl (fun _ => 0)))] := hD
  refine W.widen (k := 4) (n := 3493) (Nat.le_of_ble_eq_true rfl) (Nat.le_of_ble_eq_true rfl) ?_
  refine va_putF (v := .ref q34) (ty := .array .int) (D := D) (ci := 5) (C := RX5) (T := TX5) (N := 14) hx hb hts (by decide +kernel) tyX5 tyX5_ok nmX5 hown hK hP hD hS 0 rfl rfl 5 (by decide) (hts (.fieldLink RX5 19 "SpiralFramesModel" "right" "[I") (by decide +kernel)) (fun _ h9 => h9) rfl hin rfl (by decide +kernel) rfl rfl (Nat.le_of_ble_eq_true rfl) dX5_init_36 (fun H locs hP hD hS => ?_)
  have hP : va_P D vwCl [(mm, .inr (5, [.ref q8, .ref q17, .int 0, .ref q26, .int 0, .ref q34, .null, .null, .null, .int 0, .null, .int 0, .int 0, .null])), (q8, .inl (cI, 578, .inl (fun _ => 0))), (q17, .inl (cI, 2312, .inl (fun _ => 0))), (q26, .inl (cI, 578, .inl (fun _ => 0))), (q34, .inl (cI, 25, .inl (fun _ => 0)))] H := hP
  have hD : va_D (Ar) [(mm, .inr (5, [.ref q8, .ref q17, .int 0, .ref q26, .int 0, .ref q34, .null, .null, .null, .int 0, .null, .int 0, .int 0, .null])), (q8, .inl (cI, 578, .inl (fun _ => 0))), (q17, .inl (cI, 2312, .inl (fun _ => 0))), (q26, .inl (cI, 578, .inl (fun _ => 0))), (q34, .inl (cI, 25, .inl (fun _ => 0)))] := hD
  refine lv_aload_n hx hb dX5_init_39 rfl (lv_at hl 0 rfl) ?_
  refine lv_bipush (v := 25) hx hb dX5_init_40 (by decide) ?_
  refine x_newaI hx hb (hts (.arrayClass .int) (by decide +kernel)) hK hP hD hS hA (N := 25) (by decide) (by decide) (Nat.le_of_ble_eq_true rfl) (Nat.le_of_ble_eq_true rfl) (Nat.le_of_ble_eq_true rfl) dX5_init_42 (fun q42 H hP hD hS => ?_)
  have hP : va_P D vwCl [(mm, .inr (5, [.ref q8, .ref q17, .int 0, .ref q26, .int 0, .ref q34, .null, .null, .null, .int 0, .null, .int 0, .int 0, .null])), (q8, .inl (cI, 578, .inl (fun _ => 0))), (q17, .inl (cI, 2312, .inl (fun _ => 0))), (q26, .inl (cI, 578, .inl (fun _ => 0))), (q34, .inl (cI, 25, .inl (fun _ => 0))), (q42, .inl (cI, 25, .inl (fun _ => 0)))] H := hP
  have hD : va_D (Ar) [(mm, .inr (5, [.ref q8, .ref q17, .int 0, .ref q26, .int 0, .ref q34, .null, .null, .null, .int 0, .null, .int 0, .int 0, .null])), (q8, .inl (cI, 578, .inl (fun _ => 0))), (q17, .inl (cI, 2312, .inl (fun _ => 0))), (q26, .inl (cI, 578, .inl (fun _ => 0))), (q34, .inl (cI, 25, .inl (fun _ => 0))), (q42, .inl (cI, 25, .inl (fun _ => 0)))] := hD
  refine W.widen (k := 5) (n := 3518) (Nat.le_of_ble_eq_true rfl) (Nat.le_of_ble_eq_true rfl) ?_
  refine va_putF (v := .ref q42) (ty := .array .int) (D := D) (ci := 5) (C := RX5) (T := TX5) (N := 14) hx hb hts (by decide +kernel) tyX5 tyX5_ok nmX5 hown hK hP hD hS 0 rfl rfl 6 (by decide) (hts (.fieldLink RX5 22 "SpiralFramesModel" "down" "[I") (by decide +kernel)) (fun _ h9 => h9) rfl hin rfl (by decide +kernel) rfl rfl (Nat.le_of_ble_eq_true rfl) dX5_init_44 (fun H locs hP hD hS => ?_)
  have hP : va_P D vwCl [(mm, .inr (5, [.ref q8, .ref q17, .int 0, .ref q26, .int 0, .ref q34, .ref q42, .null, .null, .int 0, .null, .int 0, .int 0, .null])), (q8, .inl (cI, 578, .inl (fun _ => 0))), (q17, .inl (cI, 2312, .inl (fun _ => 0))), (q26, .inl (cI, 578, .inl (fun _ => 0))), (q34, .inl (cI, 25, .inl (fun _ => 0))), (q42, .inl (cI, 25, .inl (fun _ => 0)))] H := hP
  have hD : va_D (Ar) [(mm, .inr (5, [.ref q8, .ref q17, .int 0, .ref q26, .int 0, .ref q34, .ref q42, .null, .null, .int 0, .null, .int 0, .int 0, .null])), (q8, .inl (cI, 578, .inl (fun _ => 0))), (q17, .inl (cI, 2312, .inl (fun _ => 0))), (q26, .inl (cI, 578, .inl (fun _ => 0))), (q34, .inl (cI, 25, .inl (fun _ => 0))), (q42, .inl (cI, 25, .inl (fun _ => 0)))] := hD
  refine lv_aload_n hx hb dX5_init_47 rfl (lv_at hl 0 rfl) ?_
  refine lv_sipush (v := 144) hx hb dX5_init_48 (by decide) ?_
  refine x_newaI hx hb (hts (.arrayClass .int) (by decide +kernel)) hK hP hD hS hA (N := 144) (by decide) (by decide) (Nat.le_of_ble_eq_true rfl) (Nat.le_of_ble_eq_true rfl) (Nat.le_of_ble_eq_true rfl) dX5_init_51 (fun q51 H hP hD hS => ?_)
  have hP : va_P D vwCl [(mm, .inr (5, [.ref q8, .ref q17, .int 0, .ref q26, .int 0, .ref q34, .ref q42, .null, .null, .int 0, .null, .int 0, .int 0, .null])), (q8, .inl (cI, 578, .inl (fun _ => 0))), (q17, .inl (cI, 2312, .inl (fun _ => 0))), (q26, .inl (cI, 578, .inl (fun _ => 0))), (q34, .inl (cI, 25, .inl (fun _ => 0))), (q42, .inl (cI, 25, .inl (fun _ => 0))), (q51, .inl (cI, 144, .inl (fun _ => 0)))] H := hP
  have hD : va_D (Ar) [(mm, .inr (5, [.ref q8, .ref q17, .int 0, .ref q26, .int 0, .ref q34, .ref q42, .null, .null, .int 0, .null, .int 0, .int 0, .null])), (q8, .inl (cI, 578, .inl (fun _ => 0))), (q17, .inl (cI, 2312, .inl (fun _ => 0))), (q26, .inl (cI, 578, .inl (fun _ => 0))), (q34, .inl (cI, 25, .inl (fun _ => 0))), (q42, .inl (cI, 25, .inl (fun _ => 0))), (q51, .inl (cI, 144, .inl (fun _ => 0)))] := hD
  refine W.widen (k := 6) (n := 3662) (Nat.le_of_ble_eq_true rfl) (Nat.le_of_ble_eq_true rfl) ?_
  refine va_putF (v := .ref q51) (ty := .array .int) (D := D) (ci := 5) (C := RX5) (T := TX5) (N := 14) hx hb hts (by decide +kernel) tyX5 tyX5_ok nmX5 hown hK hP hD hS 0 rfl rfl 7 (by decide) (hts (.fieldLink RX5 25 "SpiralFramesModel" "old" "[I") (by decide +kernel)) (fun _ h9 => h9) rfl hin rfl (by decide +kernel) rfl rfl (Nat.le_of_ble_eq_true rfl) dX5_init_53 (fun H locs hP hD hS => ?_)
  have hP : va_P D vwCl [(mm, .inr (5, [.ref q8, .ref q17, .int 0, .ref q26, .int 0, .ref q34, .ref q42, .ref q51, .null, .int 0, .null, .int 0, .int 0, .null])), (q8, .inl (cI, 578, .inl (fun _ => 0))), (q17, .inl (cI, 2312, .inl (fun _ => 0))), (q26, .inl (cI, 578, .inl (fun _ => 0))), (q34, .inl (cI, 25, .inl (fun _ => 0))), (q42, .inl (cI, 25, .inl (fun _ => 0))), (q51, .inl (cI, 144, .inl (fun _ => 0)))] H := hP
  have hD : va_D (Ar) [(mm, .inr (5, [.ref q8, .ref q17, .int 0, .ref q26, .int 0, .ref q34, .ref q42, .ref q51, .null, .int 0, .null, .int 0, .int 0, .null])), (q8, .inl (cI, 578, .inl (fun _ => 0))), (q17, .inl (cI, 2312, .inl (fun _ => 0))), (q26, .inl (cI, 578, .inl (fun _ => 0))), (q34, .inl (cI, 25, .inl (fun _ => 0))), (q42, .inl (cI, 25, .inl (fun _ => 0))), (q51, .inl (cI, 144, .inl (fun _ => 0)))] := hD
  refine lv_aload_n hx hb dX5_init_56 rfl (lv_at hl 0 rfl) ?_
  refine lv_bipush (v := 9) hx hb dX5_init_57 (by decide) ?_
  refine x_newaI hx hb (hts (.arrayClass .int) (by decide +kernel)) hK hP hD hS hA (N := 9) (by decide) (by decide) (Nat.le_of_ble_eq_true rfl) (Nat.le_of_ble_eq_true rfl) (Nat.le_of_ble_eq_true rfl) dX5_init_59 (fun q59 H hP hD hS => ?_)
  have hP : va_P D vwCl [(mm, .inr (5, [.ref q8, .ref q17, .int 0, .ref q26, .int 0, .ref q34, .ref q42, .ref q51, .null, .int 0, .null, .int 0, .int 0, .null])), (q8, .inl (cI, 578, .inl (fun _ => 0))), (q17, .inl (cI, 2312, .inl (fun _ => 0))), (q26, .inl (cI, 578, .inl (fun _ => 0))), (q34, .inl (cI, 25, .inl (fun _ => 0))), (q42, .inl (cI, 25, .inl (fun _ => 0))), (q51, .inl (cI, 144, .inl (fun _ => 0))), (q59, .inl (cI, 9, .inl (fun _ => 0)))] H := hP
  have hD : va_D (Ar) [(mm, .inr (5, [.ref q8, .ref q17, .int 0, .ref q26, .int 0, .ref q34, .ref q42, .ref q51, .null, .int 0, .null, .int 0, .int 0, .null])), (q8, .inl (cI, 578, .inl (fun _ => 0))), (q17, .inl (cI, 2312, .inl (fun _ => 0))), (q26, .inl (cI, 578, .inl (fun _ => 0))), (q34, .inl (cI, 25, .inl (fun _ => 0))), (q42, .inl (cI, 25, .inl (fun _ => 0))), (q51, .inl (cI, 144, .inl (fun _ => 0))), (q59, .inl (cI, 9, .inl (fun _ => 0)))] := hD
  refine W.widen (k := 7) (n := 3671) (Nat.le_of_ble_eq_true rfl) (Nat.le_of_ble_eq_true rfl) ?_
  refine va_putF (v := .ref q59) (ty := .array .int) (D := D) (ci := 5) (C := RX5) (T := TX5) (N := 14) hx hb hts (by decide +kernel) tyX5 tyX5_ok nmX5 hown hK hP hD hS 0 rfl rfl 8 (by decide) (hts (.fieldLink RX5 28 "SpiralFramesModel" "codes" "[I") (by decide +kernel)) (fun _ h9 => h9) rfl hin rfl (by decide +kernel) rfl rfl (Nat.le_of_ble_eq_true rfl) dX5_init_61 (fun H locs hP hD hS => ?_)
  have hP : va_P D vwCl [(mm, .inr (5, [.ref q8, .ref q17, .int 0, .ref q26, .int 0, .ref q34, .ref q42, .ref q51, .ref q59, .int 0, .null, .int 0, .int 0, .null])), (q8, .inl (cI, 578, .inl (fun _ => 0))), (q17, .inl (cI, 2312, .inl (fun _ => 0))), (q26, .inl (cI, 578, .inl (fun _ => 0))), (q34, .inl (cI, 25, .inl (fun _ => 0))), (q42, .inl (cI, 25, .inl (fun _ => 0))), (q51, .inl (cI, 144, .inl (fun _ => 0))), (q59, .inl (cI, 9, .inl (fun _ => 0)))] H := hP
  have hD : va_D (Ar) [(mm, .inr (5, [.ref q8, .ref q17, .int 0, .ref q26, .int 0, .ref q34, .ref q42, .ref q51, .ref q59, .int 0, .null, .int 0, .int 0, .null])), (q8, .inl (cI, 578, .inl (fun _ => 0))), (q17, .inl (cI, 2312, .inl (fun _ => 0))), (q26, .inl (cI, 578, .inl (fun _ => 0))), (q34, .inl (cI, 25, .inl (fun _ => 0))), (q42, .inl (cI, 25, .inl (fun _ => 0))), (q51, .inl (cI, 144, .inl (fun _ => 0))), (q59, .inl (cI, 9, .inl (fun _ => 0)))] := hD
  refine lv_aload_n hx hb dX5_init_64 rfl (lv_at hl 0 rfl) ?_
  refine lv_bipush (v := 60) hx hb dX5_init_65 (by decide) ?_
  refine x_newaC hx hb (hts (.arrayClass .char) (by decide +kernel)) hK hP hD hS hA (N := 60) (by decide) (by decide) (Nat.le_of_ble_eq_true rfl) (Nat.le_of_ble_eq_true rfl) (Nat.le_of_ble_eq_true rfl) dX5_init_67 (fun q67 H hP hD hS => ?_)
  have hP : va_P D vwCl [(mm, .inr (5, [.ref q8, .ref q17, .int 0, .ref q26, .int 0, .ref q34, .ref q42, .ref q51, .ref q59, .int 0, .null, .int 0, .int 0, .null])), (q8, .inl (cI, 578, .inl (fun _ => 0))), (q17, .inl (cI, 2312, .inl (fun _ => 0))), (q26, .inl (cI, 578, .inl (fun _ => 0))), (q34, .inl (cI, 25, .inl (fun _ => 0))), (q42, .inl (cI, 25, .inl (fun _ => 0))), (q51, .inl (cI, 144, .inl (fun _ => 0))), (q59, .inl (cI, 9, .inl (fun _ => 0))), (q67, .inl (cC, 60, .inl (fun _ => 0)))] H := hP
  have hD : va_D (Ar) [(mm, .inr (5, [.ref q8, .ref q17, .int 0, .ref q26, .int 0, .ref q34, .ref q42, .ref q51, .ref q59, .int 0, .null, .int 0, .int 0, .null])), (q8, .inl (cI, 578, .inl (fun _ => 0))), (q17, .inl (cI, 2312, .inl (fun _ => 0))), (q26, .inl (cI, 578, .inl (fun _ => 0))), (q34, .inl (cI, 25, .inl (fun _ => 0))), (q42, .inl (cI, 25, .inl (fun _ => 0))), (q51, .inl (cI, 144, .inl (fun _ => 0))), (q59, .inl (cI, 9, .inl (fun _ => 0))), (q67, .inl (cC, 60, .inl (fun _ => 0)))] := hD
  refine W.widen (k := 8) (n := 3731) (Nat.le_of_ble_eq_true rfl) (Nat.le_of_ble_eq_true rfl) ?_
  refine va_putF (v := .ref q67) (ty := .array .char) (D := D) (ci := 5) (C := RX5) (T := TX5) (N := 14) hx hb hts (by decide +kernel) tyX5 tyX5_ok nmX5 hown hK hP hD hS 0 rfl rfl 10 (by decide) (hts (.fieldLink RX5 31 "SpiralFramesModel" "text" "[C") (by decide +kernel)) (fun _ h9 => h9) rfl hin rfl (by decide +kernel) rfl rfl (Nat.le_of_ble_eq_true rfl) dX5_init_69 (fun H locs hP hD hS => ?_)
  have hP : va_P D vwCl [(mm, .inr (5, [.ref q8, .ref q17, .int 0, .ref q26, .int 0, .ref q34, .ref q42, .ref q51, .ref q59, .int 0, .ref q67, .int 0, .int 0, .null])), (q8, .inl (cI, 578, .inl (fun _ => 0))), (q17, .inl (cI, 2312, .inl (fun _ => 0))), (q26, .inl (cI, 578, .inl (fun _ => 0))), (q34, .inl (cI, 25, .inl (fun _ => 0))), (q42, .inl (cI, 25, .inl (fun _ => 0))), (q51, .inl (cI, 144, .inl (fun _ => 0))), (q59, .inl (cI, 9, .inl (fun _ => 0))), (q67, .inl (cC, 60, .inl (fun _ => 0)))] H := hP
  have hD : va_D (Ar) [(mm, .inr (5, [.ref q8, .ref q17, .int 0, .ref q26, .int 0, .ref q34, .ref q42, .ref q51, .ref q59, .int 0, .ref q67, .int 0, .int 0, .null])), (q8, .inl (cI, 578, .inl (fun _ => 0))), (q17, .inl (cI, 2312, .inl (fun _ => 0))), (q26, .inl (cI, 578, .inl (fun _ => 0))), (q34, .inl (cI, 25, .inl (fun _ => 0))), (q42, .inl (cI, 25, .inl (fun _ => 0))), (q51, .inl (cI, 144, .inl (fun _ => 0))), (q59, .inl (cI, 9, .inl (fun _ => 0))), (q67, .inl (cC, 60, .inl (fun _ => 0)))] := hD
  refine lv_aload_n hx hb dX5_init_72 rfl (lv_at hl 0 rfl) ?_
  refine lv_bipush (v := 6) hx hb dX5_init_73 (by decide) ?_
  refine x_newaI hx hb (hts (.arrayClass .int) (by decide +kernel)) hK hP hD hS hA (N := 6) (by decide) (by decide) (Nat.le_of_ble_eq_true rfl) (Nat.le_of_ble_eq_true rfl) (Nat.le_of_ble_eq_true rfl) dX5_init_75 (fun q75 H hP hD hS => ?_)
  have hP : va_P D vwCl [(mm, .inr (5, [.ref q8, .ref q17, .int 0, .ref q26, .int 0, .ref q34, .ref q42, .ref q51, .ref q59, .int 0, .ref q67, .int 0, .int 0, .null])), (q8, .inl (cI, 578, .inl (fun _ => 0))), (q17, .inl (cI, 2312, .inl (fun _ => 0))), (q26, .inl (cI, 578, .inl (fun _ => 0))), (q34, .inl (cI, 25, .inl (fun _ => 0))), (q42, .inl (cI, 25, .inl (fun _ => 0))), (q51, .inl (cI, 144, .inl (fun _ => 0))), (q59, .inl (cI, 9, .inl (fun _ => 0))), (q67, .inl (cC, 60, .inl (fun _ => 0))), (q75, .inl (cI, 6, .inl (fun _ => 0)))] H := hP
  have hD : va_D (Ar) [(mm, .inr (5, [.ref q8, .ref q17, .int 0, .ref q26, .int 0, .ref q34, .ref q42, .ref q51, .ref q59, .int 0, .ref q67, .int 0, .int 0, .null])), (q8, .inl (cI, 578, .inl (fun _ => 0))), (q17, .inl (cI, 2312, .inl (fun _ => 0))), (q26, .inl (cI, 578, .inl (fun _ => 0))), (q34, .inl (cI, 25, .inl (fun _ => 0))), (q42, .inl (cI, 25, .inl (fun _ => 0))), (q51, .inl (cI, 144, .inl (fun _ => 0))), (q59, .inl (cI, 9, .inl (fun _ => 0))), (q67, .inl (cC, 60, .inl (fun _ => 0))), (q75, .inl (cI, 6, .inl (fun _ => 0)))] := hD
  refine W.widen (k := 9) (n := 3737) (Nat.le_of_ble_eq_true rfl) (Nat.le_of_ble_eq_true rfl) ?_
  refine va_putF (v := .ref q75) (ty := .array .int) (D := D) (ci := 5) (C := RX5) (T := TX5) (N := 14) hx hb hts (by decide +kernel) tyX5 tyX5_ok nmX5 hown hK hP hD hS 0 rfl rfl 13 (by decide) (hts (.fieldLink RX5 35 "SpiralFramesModel" "order" "[I") (by decide +kernel)) (fun _ h9 => h9) rfl hin rfl (by decide +kernel) rfl rfl (Nat.le_of_ble_eq_true rfl) dX5_init_77 (fun H locs hP hD hS => ?_)
  have hP : va_P D vwCl [(mm, .inr (5, [.ref q8, .ref q17, .int 0, .ref q26, .int 0, .ref q34, .ref q42, .ref q51, .ref q59, .int 0, .ref q67, .int 0, .int 0, .ref q75])), (q8, .inl (cI, 578, .inl (fun _ => 0))), (q17, .inl (cI, 2312, .inl (fun _ => 0))), (q26, .inl (cI, 578, .inl (fun _ => 0))), (q34, .inl (cI, 25, .inl (fun _ => 0))), (q42, .inl (cI, 25, .inl (fun _ => 0))), (q51, .inl (cI, 144, .inl (fun _ => 0))), (q59, .inl (cI, 9, .inl (fun _ => 0))), (q67, .inl (cC, 60, .inl (fun _ => 0))), (q75, .inl (cI, 6, .inl (fun _ => 0)))] H := hP
  have hD : va_D (Ar) [(mm, .inr (5, [.ref q8, .ref q17, .int 0, .ref q26, .int 0, .ref q34, .ref q42, .ref q51, .ref q59, .int 0, .ref q67, .int 0, .int 0, .ref q75])), (q8, .inl (cI, 578, .inl (fun _ => 0))), (q17, .inl (cI, 2312, .inl (fun _ => 0))), (q26, .inl (cI, 578, .inl (fun _ => 0))), (q34, .inl (cI, 25, .inl (fun _ => 0))), (q42, .inl (cI, 25, .inl (fun _ => 0))), (q51, .inl (cI, 144, .inl (fun _ => 0))), (q59, .inl (cI, 9, .inl (fun _ => 0))), (q67, .inl (cC, 60, .inl (fun _ => 0))), (q75, .inl (cI, 6, .inl (fun _ => 0)))] := hD
  refine lv_aload_n hx hb dX5_init_80 rfl (lv_at hl 0 rfl) ?_
  refine va_get (v := .ref q8) (D := D) (ci := 5) (C := RX5) (T := TX5) (N := 14) hx hb hts (by decide +kernel) hown hK hP 0 rfl rfl 0 (by decide) (hts (.fieldLink RX5 7 "SpiralFramesModel" "now" "[I") (by decide +kernel)) (fun _ h9 => h9) rfl dX5_init_81 ?_
  refine lv_sipush (v := 432) hx hb dX5_init_84 (by decide) ?_
  refine lv_sipush (v := 200) hx hb dX5_init_87 (by decide) ?_
  refine x_eqi2 (show (432 : Int32) = nI 432 from by decide) ?_
  refine x_iast hx hb hK hP hD hS 1 0 rfl rfl (k := 432) (by omega) (by decide) dX5_init_90 (fun H locs hP hD hS => ?_)
  have hP : va_P D vwCl [(mm, .inr (5, [.ref q8, .ref q17, .int 0, .ref q26, .int 0, .ref q34, .ref q42, .ref q51, .ref q59, .int 0, .ref q67, .int 0, .int 0, .ref q75])), (q8, .inl (cI, 578, .inl (upd (fun _ => 0) 432 200))), (q17, .inl (cI, 2312, .inl (fun _ => 0))), (q26, .inl (cI, 578, .inl (fun _ => 0))), (q34, .inl (cI, 25, .inl (fun _ => 0))), (q42, .inl (cI, 25, .inl (fun _ => 0))), (q51, .inl (cI, 144, .inl (fun _ => 0))), (q59, .inl (cI, 9, .inl (fun _ => 0))), (q67, .inl (cC, 60, .inl (fun _ => 0))), (q75, .inl (cI, 6, .inl (fun _ => 0)))] H := hP
  have hD : va_D (Ar) [(mm, .inr (5, [.ref q8, .ref q17, .int 0, .ref q26, .int 0, .ref q34, .ref q42, .ref q51, .ref q59, .int 0, .ref q67, .int 0, .int 0, .ref q75])), (q8, .inl (cI, 578, .inl (upd (fun _ => 0) 432 200))), (q17, .inl (cI, 2312, .inl (fun _ => 0))), (q26, .inl (cI, 578, .inl (fun _ => 0))), (q34, .inl (cI, 25, .inl (fun _ => 0))), (q42, .inl (cI, 25, .inl (fun _ => 0))), (q51, .inl (cI, 144, .inl (fun _ => 0))), (q59, .inl (cI, 9, .inl (fun _ => 0))), (q67, .inl (cC, 60, .inl (fun _ => 0))), (q75, .inl (cI, 6, .inl (fun _ => 0)))] := hD
  refine lv_iconst (v := 0) hx hb dX5_init_91 (by decide) ?_
  refine lv_istore_n (lv' := [(1, .int 0), (0, .ref mm)]) hx hb dX5_init_92 rfl hl (by decide) rfl (fun ls hl => ?_)
  refine lv_iconst (v := 1) hx hb dX5_init_93 (by decide) ?_
  refine lv_istore_n (lv' := [(2, .int 1), (1, .int 0), (0, .ref mm)]) hx hb dX5_init_94 rfl hl (by decide) rfl (fun ls hl => ?_)
  refine lv_iload_n hx hb dX5_init_95 rfl (lv_at hl 1 rfl) ?_
  refine lv_bipush (v := 24) hx hb dX5_init_96 (by decide) ?_
  refine lv_icmp_ge (tgt := 147) hx hb dX5_init_98 (by decide) (fun h => False.elim (by revert h; decide)) (fun _ => ?_)
  refine lv_aload_n hx hb dX5_init_101 rfl (lv_at hl 2 rfl) ?_
  refine lv_iload_n hx hb dX5_init_102 rfl (lv_at hl 1 rfl) ?_
  refine lv_iconst (v := 1) hx hb dX5_init_103 (by decide) ?_
  refine lv_iconst (v := 0) hx hb dX5_init_104 (by decide) ?_
  refine lv_iload_n hx hb dX5_init_105 rfl (lv_at hl 0 rfl) ?_
  refine x_callWi (wc := [(mm, .inr (5, [.ref q8, .ref q17, .int 0, .ref q26, .int 0, .ref q34, .ref q42, .ref q51, .ref q59, .int 0, .ref q67, .int 0, .int 0, .ref q75])), (q34, .inl (cI, 25, .inl (fun _ => 0))), (q42, .inl (cI, 25, .inl (fun _ => 0)))]) (wr := [(q8, .inl (cI, 578, .inl (upd (fun _ => 0) 432 200))), (q17, .inl (cI, 2312, .inl (fun _ => 0))), (q26, .inl (cI, 578, .inl (fun _ => 0))), (q51, .inl (cI, 144, .inl (fun _ => 0))), (q59, .inl (cI, 9, .inl (fun _ => 0))), (q67, .inl (cC, 60, .inl (fun _ => 0))), (q75, .inl (cI, 6, .inl (fun _ => 0)))]) (va_runV (As := [.int 0, .int 1, .int 0, .int 1]) (rest := []) ⟨hx, hb, hml, hown, hts⟩ (c_X5_goes l D cI cC cS tt H.size mm q8 q17 q26 q34 q42 q51 q59 q67 q75 0 0 0 0 0 0 1 (fun _ => 0) (fun _ => 0) 1 1 (show (1 : Int32).toInt = 1 from by decide) 0 0 (show (0 : Int32).toInt = 0 from by decide) (by first | exact srP_0 | rfl) (by first | exact sdP_0 | rfl) (by decide) (by decide) (by decide) (by decide)) (cwV 4 hts gX5_init_X5_goes rfl rfl rfl (by decide +kernel) ⟨Nat.le_of_ble_eq_true rfl, Nat.le_of_ble_eq_true rfl⟩) ⟨x_blindW, va_recv hK hP (ci := 5) (q0 := 0) rfl rfl, x_preW hP hD hK hE hS hA [0, 4, 5] rfl (by decide)⟩ rfl rfl hl.1 rfl (lv_room (Nat.le_of_ble_eq_true rfl)) dX5_init_106 ⟨(Nat.le_of_ble_eq_true rfl), (Nat.le_of_ble_eq_true rfl)⟩) hP hD hS hA [0, 4, 5] [1, 2, 3, 6, 7, 8, 9] rfl rfl (by decide) (by decide) (fun r_1 w1 H locs hw hP hD hS => ?_)
  obtain ⟨rfl, rfl⟩ := hw
  have hP : va_P D vwCl [(mm, .inr (5, [.ref q8, .ref q17, .int 0, .ref q26, .int 0, .ref q34, .ref q42, .ref q51, .ref q59, .int 0, .ref q67, .int 0, .int 0, .ref q75])), (q34, .inl (cI, 25, .inl (srP (min (0 + 1) 24)))), (q42, .inl (cI, 25, .inl (sdP (min (0 + 1) 24)))), (q8, .inl (cI, 578, .inl (upd (fun _ => 0) 432 200))), (q17, .inl (cI, 2312, .inl (fun _ => 0))), (q26, .inl (cI, 578, .inl (fun _ => 0))), (q51, .inl (cI, 144, .inl (fun _ => 0))), (q59, .inl (cI, 9, .inl (fun _ => 0))), (q67, .inl (cC, 60, .inl (fun _ => 0))), (q75, .inl (cI, 6, .inl (fun _ => 0)))] H := hP
  have hD : va_D (Ar) [(mm, .inr (5, [.ref q8, .ref q17, .int 0, .ref q26, .int 0, .ref q34, .ref q42, .ref q51, .ref q59, .int 0, .ref q67, .int 0, .int 0, .ref q75])), (q34, .inl (cI, 25, .inl (srP (min (0 + 1) 24)))), (q42, .inl (cI, 25, .inl (sdP (min (0 + 1) 24)))), (q8, .inl (cI, 578, .inl (upd (fun _ => 0) 432 200))), (q17, .inl (cI, 2312, .inl (fun _ => 0))), (q26, .inl (cI, 578, .inl (fun _ => 0))), (q51, .inl (cI, 144, .inl (fun _ => 0))), (q59, .inl (cI, 9, .inl (fun _ => 0))), (q67, .inl (cC, 60, .inl (fun _ => 0))), (q75, .inl (cI, 6, .inl (fun _ => 0)))] := hD
  refine x_eqi (show nI (min (0 + 1) 24) = 1 from (by decide)) ?_
  refine lv_istore_n (lv' := [(1, .int 1), (2, .int 1), (0, .ref mm)]) hx hb dX5_init_109 rfl hl (by decide) rfl (fun ls hl => ?_)
  refine lv_aload_n hx hb dX5_init_110 rfl (lv_at hl 2 rfl) ?_
  refine lv_iload_n hx hb dX5_init_111 rfl (lv_at hl 0 rfl) ?_
  refine lv_iconst (v := 0) hx hb dX5_init_112 (by decide) ?_
  refine lv_iconst (v := 1) hx hb dX5_init_113 (by decide) ?_
  refine lv_iload_n hx hb dX5_init_114 rfl (lv_at hl 1 rfl) ?_
  refine x_callWi (wc := [(mm, .inr (5, [.ref q8, .ref q17, .int 0, .ref q26, .int 0, .ref q34, .ref q42, .ref q51, .ref q59, .int 0, .ref q67, .int 0, .int 0, .ref q75])), (q34, .inl (cI, 25, .inl (srP (min (0 + 1) 24)))), (q42, .inl (cI, 25, .inl (sdP (min (0 + 1) 24))))]) (wr := [(q8, .inl (cI, 578, .inl (upd (fun _ => 0) 432 200))), (q17, .inl (cI, 2312, .inl (fun _ => 0))), (q26, .inl (cI, 578, .inl (fun _ => 0))), (q51, .inl (cI, 144, .inl (fun _ => 0))), (q59, .inl (cI, 9, .inl (fun _ => 0))), (q67, .inl (cC, 60, .inl (fun _ => 0))), (q75, .inl (cI, 6, .inl (fun _ => 0)))]) (va_runV (As := [.int 1, .int 0, .int 1, .int 1]) (rest := []) ⟨hx, hb, hml, hown, hts⟩ (c_X5_goes l D cI cC cS tt H.size mm q8 q17 q26 q34 q42 q51 q59 q67 q75 0 0 0 0 0 1 1 (srP (min (0 + 1) 24)) (sdP (min (0 + 1) 24)) 0 0 (show (0 : Int32).toInt = 0 from by decide) 1 1 (show (1 : Int32).toInt = 1 from by decide) (by first | exact srP_0 | rfl) (by first | exact sdP_0 | rfl) (by decide) (by decide) (by decide) (by decide)) (cwV 4 hts gX5_init_X5_goes rfl rfl rfl (by decide +kernel) ⟨Nat.le_of_ble_eq_true rfl, Nat.le_of_ble_eq_true rfl⟩) ⟨x_blindW, va_recv hK hP (ci := 5) (q0 := 0) rfl rfl, x_preW hP hD hK hE hS hA [0, 1, 2] rfl (by decide)⟩ rfl rfl hl.1 rfl (lv_room (Nat.le_of_ble_eq_true rfl)) dX5_init_115 ⟨(Nat.le_of_ble_eq_true rfl), (Nat.le_of_ble_eq_true rfl)⟩) hP hD hS hA [0, 1, 2] [3, 4, 5, 6, 7, 8, 9] rfl rfl (by decide) (by decide) (fun r_2 w1 H locs hw hP hD hS => ?_)
  obtain ⟨rfl, rfl⟩ := hw
  have hP : va_P D vwCl [(mm, .inr (5, [.ref q8, .ref q17, .int 0, .ref q26, .int 0, .ref q34, .ref q42, .ref q51, .ref q59, .int 0, .ref q67, .int 0, .int 0, .ref q75])), (q34, .inl (cI, 25, .inl (srP (min (1 + 1) 24)))), (q42, .inl (cI, 25, .inl (sdP (min (1 + 1) 24)))), (q8, .inl (cI, 578, .inl (upd (fun _ => 0) 432 200))), (q17, .inl (cI, 2312, .inl (fun _ => 0))), (q26, .inl (cI, 578, .inl (fun _ => 0))), (q51, .inl (cI, 144, .inl (fun _ => 0))), (q59, .inl (cI, 9, .inl (fun _ => 0))), (q67, .inl (cC, 60, .inl (fun _ => 0))), (q75, .inl (cI, 6, .inl (fun _ => 0)))] H := hP
  have hD : va_D (Ar) [(mm, .inr (5, [.ref q8, .ref q17, .int 0, .ref q26, .int 0, .ref q34, .ref q42, .ref q51, .ref q59, .int 0, .ref q67, .int 0, .int 0, .ref q75])), (q34, .inl (cI, 25, .inl (srP (min (1 + 1) 24)))), (q42, .inl (cI, 25, .inl (sdP (min (1 + 1) 24)))), (q8, .inl (cI, 578, .inl (upd (fun _ => 0) 432 200))), (q17, .inl (cI, 2312, .inl (fun _ => 0))), (q26, .inl (cI, 578, .inl (fun _ => 0))), (q51, .inl (cI, 144, .inl (fun _ => 0))), (q59, .inl (cI, 9, .inl (fun _ => 0))), (q67, .inl (cC, 60, .inl (fun _ => 0))), (q75, .inl (cI, 6, .inl (fun _ => 0)))] := hD
  refine x_eqi (show nI (min (1 + 1) 24) = 2 from (by decide)) ?_
  refine lv_istore_n (lv' := [(1, .int 2), (2, .int 1), (0, .ref mm)]) hx hb dX5_init_118 rfl hl (by decide) rfl (fun ls hl => ?_)
  refine lv_aload_n hx hb dX5_init_119 rfl (lv_at hl 2 rfl) ?_
  refine lv_iload_n hx hb dX5_init_120 rfl (lv_at hl 0 rfl) ?_
  refine lv_iconst (v := (-1)) hx hb dX5_init_121 (by decide) ?_
  refine lv_iconst (v := 0) hx hb dX5_init_122 (by decide) ?_
  refine lv_iload_n hx hb dX5_init_123 rfl (lv_at hl 1 rfl) ?_
  refine lv_iconst (v := 1) hx hb dX5_init_124 (by decide) ?_
  refine lv_iadd hx hb dX5_init_125 ?_
  refine x_eqi (show (1 : Int32) + 1 = 2 from by decide) ?_
  refine x_callWi (wc := [(mm, .inr (5, [.ref q8, .ref q17, .int 0, .ref q26, .int 0, .ref q34, .ref q42, .ref q51, .ref q59, .int 0, .ref q67, .int 0, .int 0, .ref q75])), (q34, .inl (cI, 25, .inl (srP (min (1 + 1) 24)))), (q42, .inl (cI, 25, .inl (sdP (min (1 + 1) 24))))]) (wr := [(q8, .inl (cI, 578, .inl (upd (fun _ => 0) 432 200))), (q17, .inl (cI, 2312, .inl (fun _ => 0))), (q26, .inl (cI, 578, .inl (fun _ => 0))), (q51, .inl (cI, 144, .inl (fun _ => 0))), (q59, .inl (cI, 9, .inl (fun _ => 0))), (q67, .inl (cC, 60, .inl (fun _ => 0))), (q75, .inl (cI, 6, .inl (fun _ => 0)))]) (va_runV (As := [.int 2, .int (-1), .int 0, .int 2]) (rest := []) ⟨hx, hb, hml, hown, hts⟩ (c_X5_goes l D cI cC cS tt H.size mm q8 q17 q26 q34 q42 q51 q59 q67 q75 0 0 0 0 0 2 2 (srP (min (1 + 1) 24)) (sdP (min (1 + 1) 24)) (-1) (-1) (show (-1 : Int32).toInt = -1 from by decide) 0 0 (show (0 : Int32).toInt = 0 from by decide) (by first | exact srP_0 | rfl) (by first | exact sdP_0 | rfl) (by decide) (by decide) (by decide) (by decide)) (cwV 4 hts gX5_init_X5_goes rfl rfl rfl (by decide +kernel) ⟨Nat.le_of_ble_eq_true rfl, Nat.le_of_ble_eq_true rfl⟩) ⟨x_blindW, va_recv hK hP (ci := 5) (q0 := 0) rfl rfl, x_preW hP hD hK hE hS hA [0, 1, 2] rfl (by decide)⟩ rfl rfl hl.1 rfl (lv_room (Nat.le_of_ble_eq_true rfl)) dX5_init_126 ⟨(Nat.le_of_ble_eq_true rfl), (Nat.le_of_ble_eq_true rfl)⟩) hP hD hS hA [0, 1, 2] [3, 4, 5, 6, 7, 8, 9] rfl rfl (by decide) (by decide) (fun r_3 w1 H locs hw hP hD hS => ?_)
  obtain ⟨rfl, rfl⟩ := hw
  have hP : va_P D vwCl [(mm, .inr (5, [.ref q8, .ref q17, .int 0, .ref q26, .int 0, .ref q34, .ref q42, .ref q51, .ref q59, .int 0, .ref q67, .int 0, .int 0, .ref q75])), (q34, .inl (cI, 25, .inl (srP (min (2 + 2) 24)))), (q42, .inl (cI, 25, .inl (sdP (min (2 + 2) 24)))), (q8, .inl (cI, 578, .inl (upd (fun _ => 0) 432 200))), (q17, .inl (cI, 2312, .inl (fun _ => 0))), (q26, .inl (cI, 578, .inl (fun _ => 0))), (q51, .inl (cI, 144, .inl (fun _ => 0))), (q59, .inl (cI, 9, .inl (fun _ => 0))), (q67, .inl (cC, 60, .inl (fun _ => 0))), (q75, .inl (cI, 6, .inl (fun _ => 0)))] H := hP
  have hD : va_D (Ar) [(mm, .inr (5, [.ref q8, .ref q17, .int 0, .ref q26, .int 0, .ref q34, .ref q42, .ref q51, .ref q59, .int 0, .ref q67, .int 0, .int 0, .ref q75])), (q34, .inl (cI, 25, .inl (srP (min (2 + 2) 24)))), (q42, .inl (cI, 25, .inl (sdP (min (2 + 2) 24)))), (q8, .inl (cI, 578, .inl (upd (fun _ => 0) 432 200))), (q17, .inl (cI, 2312, .inl (fun _ => 0))), (q26, .inl (cI, 578, .inl (fun _ => 0))), (q51, .inl (cI, 144, .inl (fun _ => 0))), (q59, .inl (cI, 9, .inl (fun _ => 0))), (q67, .inl (cC, 60, .inl (fun _ => 0))), (q75, .inl (cI, 6, .inl (fun _ => 0)))] := hD
  refine x_eqi (show nI (min (2 + 2) 24) = 4 from (by decide)) ?_
  refine lv_istore_n (lv' := [(1, .int 4), (2, .int 1), (0, .ref mm)]) hx hb dX5_init_129 rfl hl (by decide) rfl (fun ls hl => ?_)
  refine lv_aload_n hx hb dX5_init_130 rfl (lv_at hl 2 rfl) ?_
  refine lv_iload_n hx hb dX5_init_131 rfl (lv_at hl 0 rfl) ?_
  refine lv_iconst (v := 0) hx hb dX5_init_132 (by decide) ?_
  refine lv_iconst (v := (-1)) hx hb dX5_init_133 (by decide) ?_
  refine lv_iload_n hx hb dX5_init_134 rfl (lv_at hl 1 rfl) ?_
  refine lv_iconst (v := 1) hx hb dX5_init_135 (by decide) ?_
  refine lv_iadd hx hb dX5_init_136 ?_
  refine x_eqi (show (1 : Int32) + 1 = 2 from by decide) ?_
  refine x_callWi (wc := [(mm, .inr (5, [.ref q8, .ref q17, .int 0, .ref q26, .int 0, .ref q34, .ref q42, .ref q51, .ref q59, .int 0, .ref q67, .int 0, .int 0, .ref q75])), (q34, .inl (cI, 25, .inl (srP (min (2 + 2) 24)))), (q42, .inl (cI, 25, .inl (sdP (min (2 + 2) 24))))]) (wr := [(q8, .inl (cI, 578, .inl (upd (fun _ => 0) 432 200))), (q17, .inl (cI, 2312, .inl (fun _ => 0))), (q26, .inl (cI, 578, .inl (fun _ => 0))), (q51, .inl (cI, 144, .inl (fun _ => 0))), (q59, .inl (cI, 9, .inl (fun _ => 0))), (q67, .inl (cC, 60, .inl (fun _ => 0))), (q75, .inl (cI, 6, .inl (fun _ => 0)))]) (va_runV (As := [.int 4, .int 0, .int (-1), .int 2]) (rest := []) ⟨hx, hb, hml, hown, hts⟩ (c_X5_goes l D cI cC cS tt H.size mm q8 q17 q26 q34 q42 q51 q59 q67 q75 0 0 0 0 0 4 2 (srP (min (2 + 2) 24)) (sdP (min (2 + 2) 24)) 0 0 (show (0 : Int32).toInt = 0 from by decide) (-1) (-1) (show (-1 : Int32).toInt = -1 from by decide) (by first | exact srP_0 | rfl) (by first | exact sdP_0 | rfl) (by decide) (by decide) (by decide) (by decide)) (cwV 4 hts gX5_init_X5_goes rfl rfl rfl (by decide +kernel) ⟨Nat.le_of_ble_eq_true rfl, Nat.le_of_ble_eq_true rfl⟩) ⟨x_blindW, va_recv hK hP (ci := 5) (q0 := 0) rfl rfl, x_preW hP hD hK hE hS hA [0, 1, 2] rfl (by decide)⟩ rfl rfl hl.1 rfl (lv_room (Nat.le_of_ble_eq_true rfl)) dX5_init_137 ⟨(Nat.le_of_ble_eq_true rfl), (Nat.le_of_ble_eq_true rfl)⟩) hP hD hS hA [0, 1, 2] [3, 4, 5, 6, 7, 8, 9] rfl rfl (by decide) (by decide) (fun r_4 w1 H locs hw hP hD hS => ?_)
  obtain ⟨rfl, rfl⟩ := hw
  have hP : va_P D vwCl [(mm, .inr (5, [.ref q8, .ref q17, .int 0, .ref q26, .int 0, .ref q34, .ref q42, .ref q51, .ref q59, .int 0, .ref q67, .int 0, .int 0, .ref q75])), (q34, .inl (cI, 25, .inl (srP (min (4 + 2) 24)))), (q42, .inl (cI, 25, .inl (sdP (min (4 + 2) 24)))), (q8, .inl (cI, 578, .inl (upd (fun _ => 0) 432 200))), (q17, .inl (cI, 2312, .inl (fun _ => 0))), (q26, .inl (cI, 578, .inl (fun _ => 0))), (q51, .inl (cI, 144, .inl (fun _ => 0))), (q59, .inl (cI, 9, .inl (fun _ => 0))), (q67, .inl (cC, 60, .inl (fun _ => 0))), (q75, .inl (cI, 6, .inl (fun _ => 0)))] H := hP
  have hD : va_D (Ar) [(mm, .inr (5, [.ref q8, .ref q17, .int 0, .ref q26, .int 0, .ref q34, .ref q42, .ref q51, .ref q59, .int 0, .ref q67, .int 0, .int 0, .ref q75])), (q34, .inl (cI, 25, .inl (srP (min (4 + 2) 24)))), (q42, .inl (cI, 25, .inl (sdP (min (4 + 2) 24)))), (q8, .inl (cI, 578, .inl (upd (fun _ => 0) 432 200))), (q17, .inl (cI, 2312, .inl (fun _ => 0))), (q26, .inl (cI, 578, .inl (fun _ => 0))), (q51, .inl (cI, 144, .inl (fun _ => 0))), (q59, .inl (cI, 9, .inl (fun _ => 0))), (q67, .inl (cC, 60, .inl (fun _ => 0))), (q75, .inl (cI, 6, .inl (fun _ => 0)))] := hD
  refine x_eqi (show nI (min (4 + 2) 24) = 6 from (by decide)) ?_
  refine lv_istore_n (lv' := [(1, .int 6), (2, .int 1), (0, .ref mm)]) hx hb dX5_init_140 rfl hl (by decide) rfl (fun ls hl => ?_)
  refine lv_iinc (v := 3) (lv' := [(2, .int 3), (1, .int 6), (0, .ref mm)]) hx hb dX5_init_141 hl (k := 1) rfl (by decide) (by decide) rfl (fun ls hl => ?_)
  refine lv_goto (tgt := 95) hx hb dX5_init_144 (by decide) ?_
  refine lv_iload_n hx hb dX5_init_95 rfl (lv_at hl 1 rfl) ?_
  refine lv_bipush (v := 24) hx hb dX5_init_96 (by decide) ?_
  refine lv_icmp_ge (tgt := 147) hx hb dX5_init_98 (by decide) (fun h => False.elim (by revert h; decide)) (fun _ => ?_)
  refine lv_aload_n hx hb dX5_init_101 rfl (lv_at hl 2 rfl) ?_
  refine lv_iload_n hx hb dX5_init_102 rfl (lv_at hl 1 rfl) ?_
  refine lv_iconst (v := 1) hx hb dX5_init_103 (by decide) ?_
  refine lv_iconst (v := 0) hx hb dX5_init_104 (by decide) ?_
  refine lv_iload_n hx hb dX5_init_105 rfl (lv_at hl 0 rfl) ?_
  refine x_callWi (wc := [(mm, .inr (5, [.ref q8, .ref q17, .int 0, .ref q26, .int 0, .ref q34, .ref q42, .ref q51, .ref q59, .int 0, .ref q67, .int 0, .int 0, .ref q75])), (q34, .inl (cI, 25, .inl (srP (min (4 + 2) 24)))), (q42, .inl (cI, 25, .inl (sdP (min (4 + 2) 24))))]) (wr := [(q8, .inl (cI, 578, .inl (upd (fun _ => 0) 432 200))), (q17, .inl (cI, 2312, .inl (fun _ => 0))), (q26, .inl (cI, 578, .inl (fun _ => 0))), (q51, .inl (cI, 144, .inl (fun _ => 0))), (q59, .inl (cI, 9, .inl (fun _ => 0))), (q67, .inl (cC, 60, .inl (fun _ => 0))), (q75, .inl (cI, 6, .inl (fun _ => 0)))]) (va_runV (As := [.int 6, .int 1, .int 0, .int 3]) (rest := []) ⟨hx, hb, hml, hown, hts⟩ (c_X5_goes l D cI cC cS tt H.size mm q8 q17 q26 q34 q42 q51 q59 q67 q75 0 0 0 0 0 6 3 (srP (min (4 + 2) 24)) (sdP (min (4 + 2) 24)) 1 1 (show (1 : Int32).toInt = 1 from by decide) 0 0 (show (0 : Int32).toInt = 0 from by decide) (by first | exact srP_0 | rfl) (by first | exact sdP_0 | rfl) (by decide) (by decide) (by decide) (by decide)) (cwV 4 hts gX5_init_X5_goes rfl rfl rfl (by decide +kernel) ⟨Nat.le_of_ble_eq_true rfl, Nat.le_of_ble_eq_true rfl⟩) ⟨x_blindW, va_recv hK hP (ci := 5) (q0 := 0) rfl rfl, x_preW hP hD hK hE hS hA [0, 1, 2] rfl (by decide)⟩ rfl rfl hl.1 rfl (lv_room (Nat.le_of_ble_eq_true rfl)) dX5_init_106 ⟨(Nat.le_of_ble_eq_true rfl), (Nat.le_of_ble_eq_true rfl)⟩) hP hD hS hA [0, 1, 2] [3, 4, 5, 6, 7, 8, 9] rfl rfl (by decide) (by decide) (fun r_5 w1 H locs hw hP hD hS => ?_)
  obtain ⟨rfl, rfl⟩ := hw
  have hP : va_P D vwCl [(mm, .inr (5, [.ref q8, .ref q17, .int 0, .ref q26, .int 0, .ref q34, .ref q42, .ref q51, .ref q59, .int 0, .ref q67, .int 0, .int 0, .ref q75])), (q34, .inl (cI, 25, .inl (srP (min (6 + 3) 24)))), (q42, .inl (cI, 25, .inl (sdP (min (6 + 3) 24)))), (q8, .inl (cI, 578, .inl (upd (fun _ => 0) 432 200))), (q17, .inl (cI, 2312, .inl (fun _ => 0))), (q26, .inl (cI, 578, .inl (fun _ => 0))), (q51, .inl (cI, 144, .inl (fun _ => 0))), (q59, .inl (cI, 9, .inl (fun _ => 0))), (q67, .inl (cC, 60, .inl (fun _ => 0))), (q75, .inl (cI, 6, .inl (fun _ => 0)))] H := hP
  have hD : va_D (Ar) [(mm, .inr (5, [.ref q8, .ref q17, .int 0, .ref q26, .int 0, .ref q34, .ref q42, .ref q51, .ref q59, .int 0, .ref q67, .int 0, .int 0, .ref q75])), (q34, .inl (cI, 25, .inl (srP (min (6 + 3) 24)))), (q42, .inl (cI, 25, .inl (sdP (min (6 + 3) 24)))), (q8, .inl (cI, 578, .inl (upd (fun _ => 0) 432 200))), (q17, .inl (cI, 2312, .inl (fun _ => 0))), (q26, .inl (cI, 578, .inl (fun _ => 0))), (q51, .inl (cI, 144, .inl (fun _ => 0))), (q59, .inl (cI, 9, .inl (fun _ => 0))), (q67, .inl (cC, 60, .inl (fun _ => 0))), (q75, .inl (cI, 6, .inl (fun _ => 0)))] := hD
  refine x_eqi (show nI (min (6 + 3) 24) = 9 from (by decide)) ?_
  refine lv_istore_n (lv' := [(1, .int 9), (2, .int 3), (0, .ref mm)]) hx hb dX5_init_109 rfl hl (by decide) rfl (fun ls hl => ?_)
  refine lv_aload_n hx hb dX5_init_110 rfl (lv_at hl 2 rfl) ?_
  refine lv_iload_n hx hb dX5_init_111 rfl (lv_at hl 0 rfl) ?_
  refine lv_iconst (v := 0) hx hb dX5_init_112 (by decide) ?_
  refine lv_iconst (v := 1) hx hb dX5_init_113 (by decide) ?_
  refine lv_iload_n hx hb dX5_init_114 rfl (lv_at hl 1 rfl) ?_
  refine x_callWi (wc := [(mm, .inr (5, [.ref q8, .ref q17, .int 0, .ref q26, .int 0, .ref q34, .ref q42, .ref q51, .ref q59, .int 0, .ref q67, .int 0, .int 0, .ref q75])), (q34, .inl (cI, 25, .inl (srP (min (6 + 3) 24)))), (q42, .inl (cI, 25, .inl (sdP (min (6 + 3) 24))))]) (wr := [(q8, .inl (cI, 578, .inl (upd (fun _ => 0) 432 200))), (q17, .inl (cI, 2312, .inl (fun _ => 0))), (q26, .inl (cI, 578, .inl (fun _ => 0))), (q51, .inl (cI, 144, .inl (fun _ => 0))), (q59, .inl (cI, 9, .inl (fun _ => 0))), (q67, .inl (cC, 60, .inl (fun _ => 0))), (q75, .inl (cI, 6, .inl (fun _ => 0)))]) (va_runV (As := [.int 9, .int 0, .int 1, .int 3]) (rest := []) ⟨hx, hb, hml, hown, hts⟩ (c_X5_goes l D cI cC cS tt H.size mm q8 q17 q26 q34 q42 q51 q59 q67 q75 0 0 0 0 0 9 3 (srP (min (6 + 3) 24)) (sdP (min (6 + 3) 24)) 0 0 (show (0 : Int32).toInt = 0 from by decide) 1 1 (show (1 : Int32).toInt = 1 from by decide) (by first | exact srP_0 | rfl) (by first | exact sdP_0 | rfl) (by decide) (by decide) (by decide) (by decide)) (cwV 4 hts gX5_init_X5_goes rfl rfl rfl (by decide +kernel) ⟨Nat.le_of_ble_eq_true rfl, Nat.le_of_ble_eq_true rfl⟩) ⟨x_blindW, va_recv hK hP (ci := 5) (q0 := 0) rfl rfl, x_preW hP hD hK hE hS hA [0, 1, 2] rfl (by decide)⟩ rfl rfl hl.1 rfl (lv_room (Nat.le_of_ble_eq_true rfl)) dX5_init_115 ⟨(Nat.le_of_ble_eq_true rfl), (Nat.le_of_ble_eq_true rfl)⟩) hP hD hS hA [0, 1, 2] [3, 4, 5, 6, 7, 8, 9] rfl rfl (by decide) (by decide) (fun r_6 w1 H locs hw hP hD hS => ?_)
  obtain ⟨rfl, rfl⟩ := hw
  have hP : va_P D vwCl [(mm, .inr (5, [.ref q8, .ref q17, .int 0, .ref q26, .int 0, .ref q34, .ref q42, .ref q51, .ref q59, .int 0, .ref q67, .int 0, .int 0, .ref q75])), (q34, .inl (cI, 25, .inl (srP (min (9 + 3) 24)))), (q42, .inl (cI, 25, .inl (sdP (min (9 + 3) 24)))), (q8, .inl (cI, 578, .inl (upd (fun _ => 0) 432 200))), (q17, .inl (cI, 2312, .inl (fun _ => 0))), (q26, .inl (cI, 578, .inl (fun _ => 0))), (q51, .inl (cI, 144, .inl (fun _ => 0))), (q59, .inl (cI, 9, .inl (fun _ => 0))), (q67, .inl (cC, 60, .inl (fun _ => 0))), (q75, .inl (cI, 6, .inl (fun _ => 0)))] H := hP
  have hD : va_D (Ar) [(mm, .inr (5, [.ref q8, .ref q17, .int 0, .ref q26, .int 0, .ref q34, .ref q42, .ref q51, .ref q59, .int 0, .ref q67, .int 0, .int 0, .ref q75])), (q34, .inl (cI, 25, .inl (srP (min (9 + 3) 24)))), (q42, .inl (cI, 25, .inl (sdP (min (9 + 3) 24)))), (q8, .inl (cI, 578, .inl (upd (fun _ => 0) 432 200))), (q17, .inl (cI, 2312, .inl (fun _ => 0))), (q26, .inl (cI, 578, .inl (fun _ => 0))), (q51, .inl (cI, 144, .inl (fun _ => 0))), (q59, .inl (cI, 9, .inl (fun _ => 0))), (q67, .inl (cC, 60, .inl (fun _ => 0))), (q75, .inl (cI, 6, .inl (fun _ => 0)))] := hD
  refine x_eqi (show nI (min (9 + 3) 24) = 12 from (by decide)) ?_
  refine lv_istore_n (lv' := [(1, .int 12), (2, .int 3), (0, .ref mm)]) hx hb dX5_init_118 rfl hl (by decide) rfl (fun ls hl => ?_)
  refine lv_aload_n hx hb dX5_init_119 rfl (lv_at hl 2 rfl) ?_
  refine lv_iload_n hx hb dX5_init_120 rfl (lv_at hl 0 rfl) ?_
  refine lv_iconst (v := (-1)) hx hb dX5_init_121 (by decide) ?_
  refine lv_iconst (v := 0) hx hb dX5_init_122 (by decide) ?_
  refine lv_iload_n hx hb dX5_init_123 rfl (lv_at hl 1 rfl) ?_
  refine lv_iconst (v := 1) hx hb dX5_init_124 (by decide) ?_
  refine lv_iadd hx hb dX5_init_125 ?_
  refine x_eqi (show (3 : Int32) + 1 = 4 from by decide) ?_
  refine x_callWi (wc := [(mm, .inr (5, [.ref q8, .ref q17, .int 0, .ref q26, .int 0, .ref q34, .ref q42, .ref q51, .ref q59, .int 0, .ref q67, .int 0, .int 0, .ref q75])), (q34, .inl (cI, 25, .inl (srP (min (9 + 3) 24)))), (q42, .inl (cI, 25, .inl (sdP (min (9 + 3) 24))))]) (wr := [(q8, .inl (cI, 578, .inl (upd (fun _ => 0) 432 200))), (q17, .inl (cI, 2312, .inl (fun _ => 0))), (q26, .inl (cI, 578, .inl (fun _ => 0))), (q51, .inl (cI, 144, .inl (fun _ => 0))), (q59, .inl (cI, 9, .inl (fun _ => 0))), (q67, .inl (cC, 60, .inl (fun _ => 0))), (q75, .inl (cI, 6, .inl (fun _ => 0)))]) (va_runV (As := [.int 12, .int (-1), .int 0, .int 4]) (rest := []) ⟨hx, hb, hml, hown, hts⟩ (c_X5_goes l D cI cC cS tt H.size mm q8 q17 q26 q34 q42 q51 q59 q67 q75 0 0 0 0 0 12 4 (srP (min (9 + 3) 24)) (sdP (min (9 + 3) 24)) (-1) (-1) (show (-1 : Int32).toInt = -1 from by decide) 0 0 (show (0 : Int32).toInt = 0 from by decide) (by first | exact srP_0 | rfl) (by first | exact sdP_0 | rfl) (by decide) (by decide) (by decide) (by decide)) (cwV 4 hts gX5_init_X5_goes rfl rfl rfl (by decide +kernel) ⟨Nat.le_of_ble_eq_true rfl, Nat.le_of_ble_eq_true rfl⟩) ⟨x_blindW, va_recv hK hP (ci := 5) (q0 := 0) rfl rfl, x_preW hP hD hK hE hS hA [0, 1, 2] rfl (by decide)⟩ rfl rfl hl.1 rfl (lv_room (Nat.le_of_ble_eq_true rfl)) dX5_init_126 ⟨(Nat.le_of_ble_eq_true rfl), (Nat.le_of_ble_eq_true rfl)⟩) hP hD hS hA [0, 1, 2] [3, 4, 5, 6, 7, 8, 9] rfl rfl (by decide) (by decide) (fun r_7 w1 H locs hw hP hD hS => ?_)
  obtain ⟨rfl, rfl⟩ := hw
  have hP : va_P D vwCl [(mm, .inr (5, [.ref q8, .ref q17, .int 0, .ref q26, .int 0, .ref q34, .ref q42, .ref q51, .ref q59, .int 0, .ref q67, .int 0, .int 0, .ref q75])), (q34, .inl (cI, 25, .inl (srP (min (12 + 4) 24)))), (q42, .inl (cI, 25, .inl (sdP (min (12 + 4) 24)))), (q8, .inl (cI, 578, .inl (upd (fun _ => 0) 432 200))), (q17, .inl (cI, 2312, .inl (fun _ => 0))), (q26, .inl (cI, 578, .inl (fun _ => 0))), (q51, .inl (cI, 144, .inl (fun _ => 0))), (q59, .inl (cI, 9, .inl (fun _ => 0))), (q67, .inl (cC, 60, .inl (fun _ => 0))), (q75, .inl (cI, 6, .inl (fun _ => 0)))] H := hP
  have hD : va_D (Ar) [(mm, .inr (5, [.ref q8, .ref q17, .int 0, .ref q26, .int 0, .ref q34, .ref q42, .ref q51, .ref q59, .int 0, .ref q67, .int 0, .int 0, .ref q75])), (q34, .inl (cI, 25, .inl (srP (min (12 + 4) 24)))), (q42, .inl (cI, 25, .inl (sdP (min (12 + 4) 24)))), (q8, .inl (cI, 578, .inl (upd (fun _ => 0) 432 200))), (q17, .inl (cI, 2312, .inl (fun _ => 0))), (q26, .inl (cI, 578, .inl (fun _ => 0))), (q51, .inl (cI, 144, .inl (fun _ => 0))), (q59, .inl (cI, 9, .inl (fun _ => 0))), (q67, .inl (cC, 60, .inl (fun _ => 0))), (q75, .inl (cI, 6, .inl (fun _ => 0)))] := hD
  refine x_eqi (show nI (min (12 + 4) 24) = 16 from (by decide)) ?_
  refine lv_istore_n (lv' := [(1, .int 16), (2, .int 3), (0, .ref mm)]) hx hb dX5_init_129 rfl hl (by decide) rfl (fun ls hl => ?_)
  refine lv_aload_n hx hb dX5_init_130 rfl (lv_at hl 2 rfl) ?_
  refine lv_iload_n hx hb dX5_init_131 rfl (lv_at hl 0 rfl) ?_
  refine lv_iconst (v := 0) hx hb dX5_init_132 (by decide) ?_
  refine lv_iconst (v := (-1)) hx hb dX5_init_133 (by decide) ?_
  refine lv_iload_n hx hb dX5_init_134 rfl (lv_at hl 1 rfl) ?_
  refine lv_iconst (v := 1) hx hb dX5_init_135 (by decide) ?_
  refine lv_iadd hx hb dX5_init_136 ?_
  refine x_eqi (show (3 : Int32) + 1 = 4 from by decide) ?_
  refine x_callWi (wc := [(mm, .inr (5, [.ref q8, .ref q17, .int 0, .ref q26, .int 0, .ref q34, .ref q42, .ref q51, .ref q59, .int 0, .ref q67, .int 0, .int 0, .ref q75])), (q34, .inl (cI, 25, .inl (srP (min (12 + 4) 24)))), (q42, .inl (cI, 25, .inl (sdP (min (12 + 4) 24))))]) (wr := [(q8, .inl (cI, 578, .inl (upd (fun _ => 0) 432 200))), (q17, .inl (cI, 2312, .inl (fun _ => 0))), (q26, .inl (cI, 578, .inl (fun _ => 0))), (q51, .inl (cI, 144, .inl (fun _ => 0))), (q59, .inl (cI, 9, .inl (fun _ => 0))), (q67, .inl (cC, 60, .inl (fun _ => 0))), (q75, .inl (cI, 6, .inl (fun _ => 0)))]) (va_runV (As := [.int 16, .int 0, .int (-1), .int 4]) (rest := []) ⟨hx, hb, hml, hown, hts⟩ (c_X5_goes l D cI cC cS tt H.size mm q8 q17 q26 q34 q42 q51 q59 q67 q75 0 0 0 0 0 16 4 (srP (min (12 + 4) 24)) (sdP (min (12 + 4) 24)) 0 0 (show (0 : Int32).toInt = 0 from by decide) (-1) (-1) (show (-1 : Int32).toInt = -1 from by decide) (by first | exact srP_0 | rfl) (by first | exact sdP_0 | rfl) (by decide) (by decide) (by decide) (by decide)) (cwV 4 hts gX5_init_X5_goes rfl rfl rfl (by decide +kernel) ⟨Nat.le_of_ble_eq_true rfl, Nat.le_of_ble_eq_true rfl⟩) ⟨x_blindW, va_recv hK hP (ci := 5) (q0 := 0) rfl rfl, x_preW hP hD hK hE hS hA [0, 1, 2] rfl (by decide)⟩ rfl rfl hl.1 rfl (lv_room (Nat.le_of_ble_eq_true rfl)) dX5_init_137 ⟨(Nat.le_of_ble_eq_true rfl), (Nat.le_of_ble_eq_true rfl)⟩) hP hD hS hA [0, 1, 2] [3, 4, 5, 6, 7, 8, 9] rfl rfl (by decide) (by decide) (fun r_8 w1 H locs hw hP hD hS => ?_)
  obtain ⟨rfl, rfl⟩ := hw
  have hP : va_P D vwCl [(mm, .inr (5, [.ref q8, .ref q17, .int 0, .ref q26, .int 0, .ref q34, .ref q42, .ref q51, .ref q59, .int 0, .ref q67, .int 0, .int 0, .ref q75])), (q34, .inl (cI, 25, .inl (srP (min (16 + 4) 24)))), (q42, .inl (cI, 25, .inl (sdP (min (16 + 4) 24)))), (q8, .inl (cI, 578, .inl (upd (fun _ => 0) 432 200))), (q17, .inl (cI, 2312, .inl (fun _ => 0))), (q26, .inl (cI, 578, .inl (fun _ => 0))), (q51, .inl (cI, 144, .inl (fun _ => 0))), (q59, .inl (cI, 9, .inl (fun _ => 0))), (q67, .inl (cC, 60, .inl (fun _ => 0))), (q75, .inl (cI, 6, .inl (fun _ => 0)))] H := hP
  have hD : va_D (Ar) [(mm, .inr (5, [.ref q8, .ref q17, .int 0, .ref q26, .int 0, .ref q34, .ref q42, .ref q51, .ref q59, .int 0, .ref q67, .int 0, .int 0, .ref q75])), (q34, .inl (cI, 25, .inl (srP (min (16 + 4) 24)))), (q42, .inl (cI, 25, .inl (sdP (min (16 + 4) 24)))), (q8, .inl (cI, 578, .inl (upd (fun _ => 0) 432 200))), (q17, .inl (cI, 2312, .inl (fun _ => 0))), (q26, .inl (cI, 578, .inl (fun _ => 0))), (q51, .inl (cI, 144, .inl (fun _ => 0))), (q59, .inl (cI, 9, .inl (fun _ => 0))), (q67, .inl (cC, 60, .inl (fun _ => 0))), (q75, .inl (cI, 6, .inl (fun _ => 0)))] := hD
  refine x_eqi (show nI (min (16 + 4) 24) = 20 from (by decide)) ?_
  refine lv_istore_n (lv' := [(1, .int 20), (2, .int 3), (0, .ref mm)]) hx hb dX5_init_140 rfl hl (by decide) rfl (fun ls hl => ?_)
  refine lv_iinc (v := 5) (lv' := [(2, .int 5), (1, .int 20), (0, .ref mm)]) hx hb dX5_init_141 hl (k := 1) rfl (by decide) (by decide) rfl (fun ls hl => ?_)
  refine lv_goto (tgt := 95) hx hb dX5_init_144 (by decide) ?_
  refine lv_iload_n hx hb dX5_init_95 rfl (lv_at hl 1 rfl) ?_
  refine lv_bipush (v := 24) hx hb dX5_init_96 (by decide) ?_
  refine lv_icmp_ge (tgt := 147) hx hb dX5_init_98 (by decide) (fun h => False.elim (by revert h; decide)) (fun _ => ?_)
  refine lv_aload_n hx hb dX5_init_101 rfl (lv_at hl 2 rfl) ?_
  refine lv_iload_n hx hb dX5_init_102 rfl (lv_at hl 1 rfl) ?_
  refine lv_iconst (v := 1) hx hb dX5_init_103 (by decide) ?_
  refine lv_iconst (v := 0) hx hb dX5_init_104 (by decide) ?_
  refine lv_iload_n hx hb dX5_init_105 rfl (lv_at hl 0 rfl) ?_
  refine x_callWi (wc := [(mm, .inr (5, [.ref q8, .ref q17, .int 0, .ref q26, .int 0, .ref q34, .ref q42, .ref q51, .ref q59, .int 0, .ref q67, .int 0, .int 0, .ref q75])), (q34, .inl (cI, 25, .inl (srP (min (16 + 4) 24)))), (q42, .inl (cI, 25, .inl (sdP (min (16 + 4) 24))))]) (wr := [(q8, .inl (cI, 578, .inl (upd (fun _ => 0) 432 200))), (q17, .inl (cI, 2312, .inl (fun _ => 0))), (q26, .inl (cI, 578, .inl (fun _ => 0))), (q51, .inl (cI, 144, .inl (fun _ => 0))), (q59, .inl (cI, 9, .inl (fun _ => 0))), (q67, .inl (cC, 60, .inl (fun _ => 0))), (q75, .inl (cI, 6, .inl (fun _ => 0)))]) (va_runV (As := [.int 20, .int 1, .int 0, .int 5]) (rest := []) ⟨hx, hb, hml, hown, hts⟩ (c_X5_goes l D cI cC cS tt H.size mm q8 q17 q26 q34 q42 q51 q59 q67 q75 0 0 0 0 0 20 5 (srP (min (16 + 4) 24)) (sdP (min (16 + 4) 24)) 1 1 (show (1 : Int32).toInt = 1 from by decide) 0 0 (show (0 : Int32).toInt = 0 from by decide) (by first | exact srP_0 | rfl) (by first | exact sdP_0 | rfl) (by decide) (by decide) (by decide) (by decide)) (cwV 4 hts gX5_init_X5_goes rfl rfl rfl (by decide +kernel) ⟨Nat.le_of_ble_eq_true rfl, Nat.le_of_ble_eq_true rfl⟩) ⟨x_blindW, va_recv hK hP (ci := 5) (q0 := 0) rfl rfl, x_preW hP hD hK hE hS hA [0, 1, 2] rfl (by decide)⟩ rfl rfl hl.1 rfl (lv_room (Nat.le_of_ble_eq_true rfl)) dX5_init_106 ⟨(Nat.le_of_ble_eq_true rfl), (Nat.le_of_ble_eq_true rfl)⟩) hP hD hS hA [0, 1, 2] [3, 4, 5, 6, 7, 8, 9] rfl rfl (by decide) (by decide) (fun r_9 w1 H locs hw hP hD hS => ?_)
  obtain ⟨rfl, rfl⟩ := hw
  have hP : va_P D vwCl [(mm, .inr (5, [.ref q8, .ref q17, .int 0, .ref q26, .int 0, .ref q34, .ref q42, .ref q51, .ref q59, .int 0, .ref q67, .int 0, .int 0, .ref q75])), (q34, .inl (cI, 25, .inl (srP (min (20 + 5) 24)))), (q42, .inl (cI, 25, .inl (sdP (min (20 + 5) 24)))), (q8, .inl (cI, 578, .inl (upd (fun _ => 0) 432 200))), (q17, .inl (cI, 2312, .inl (fun _ => 0))), (q26, .inl (cI, 578, .inl (fun _ => 0))), (q51, .inl (cI, 144, .inl (fun _ => 0))), (q59, .inl (cI, 9, .inl (fun _ => 0))), (q67, .inl (cC, 60, .inl (fun _ => 0))), (q75, .inl (cI, 6, .inl (fun _ => 0)))] H := hP
  have hD : va_D (Ar) [(mm, .inr (5, [.ref q8, .ref q17, .int 0, .ref q26, .int 0, .ref q34, .ref q42, .ref q51, .ref q59, .int 0, .ref q67, .int 0, .int 0, .ref q75])), (q34, .inl (cI, 25, .inl (srP (min (20 + 5) 24)))), (q42, .inl (cI, 25, .inl (sdP (min (20 + 5) 24)))), (q8, .inl (cI, 578, .inl (upd (fun _ => 0) 432 200))), (q17, .inl (cI, 2312, .inl (fun _ => 0))), (q26, .inl (cI, 578, .inl (fun _ => 0))), (q51, .inl (cI, 144, .inl (fun _ => 0))), (q59, .inl (cI, 9, .inl (fun _ => 0))), (q67, .inl (cC, 60, .inl (fun _ => 0))), (q75, .inl (cI, 6, .inl (fun _ => 0)))] := hD
  refine x_eqi (show nI (min (20 + 5) 24) = 24 from (by decide)) ?_
  refine lv_istore_n (lv' := [(1, .int 24), (2, .int 5), (0, .ref mm)]) hx hb dX5_init_109 rfl hl (by decide) rfl (fun ls hl => ?_)
  refine lv_aload_n hx hb dX5_init_110 rfl (lv_at hl 2 rfl) ?_
  refine lv_iload_n hx hb dX5_init_111 rfl (lv_at hl 0 rfl) ?_
  refine lv_iconst (v := 0) hx hb dX5_init_112 (by decide) ?_
  refine lv_iconst (v := 1) hx hb dX5_init_113 (by decide) ?_
  refine lv_iload_n hx hb dX5_init_114 rfl (lv_at hl 1 rfl) ?_
  refine x_callWi (wc := [(mm, .inr (5, [.ref q8, .ref q17, .int 0, .ref q26, .int 0, .ref q34, .ref q42, .ref q51, .ref q59, .int 0, .ref q67, .int 0, .int 0, .ref q75])), (q34, .inl (cI, 25, .inl (srP (min (20 + 5) 24)))), (q42, .inl (cI, 25, .inl (sdP (min (20 + 5) 24))))]) (wr := [(q8, .inl (cI, 578, .inl (upd (fun _ => 0) 432 200))), (q17, .inl (cI, 2312, .inl (fun _ => 0))), (q26, .inl (cI, 578, .inl (fun _ => 0))), (q51, .inl (cI, 144, .inl (fun _ => 0))), (q59, .inl (cI, 9, .inl (fun _ => 0))), (q67, .inl (cC, 60, .inl (fun _ => 0))), (q75, .inl (cI, 6, .inl (fun _ => 0)))]) (va_runV (As := [.int 24, .int 0, .int 1, .int 5]) (rest := []) ⟨hx, hb, hml, hown, hts⟩ (c_X5_goes l D cI cC cS tt H.size mm q8 q17 q26 q34 q42 q51 q59 q67 q75 0 0 0 0 0 24 5 (srP (min (20 + 5) 24)) (sdP (min (20 + 5) 24)) 0 0 (show (0 : Int32).toInt = 0 from by decide) 1 1 (show (1 : Int32).toInt = 1 from by decide) (by first | exact srP_0 | rfl) (by first | exact sdP_0 | rfl) (by decide) (by decide) (by decide) (by decide)) (cwV 4 hts gX5_init_X5_goes rfl rfl rfl (by decide +kernel) ⟨Nat.le_of_ble_eq_true rfl, Nat.le_of_ble_eq_true rfl⟩) ⟨x_blindW, va_recv hK hP (ci := 5) (q0 := 0) rfl rfl, x_preW hP hD hK hE hS hA [0, 1, 2] rfl (by decide)⟩ rfl rfl hl.1 rfl (lv_room (Nat.le_of_ble_eq_true rfl)) dX5_init_115 ⟨(Nat.le_of_ble_eq_true rfl), (Nat.le_of_ble_eq_true rfl)⟩) hP hD hS hA [0, 1, 2] [3, 4, 5, 6, 7, 8, 9] rfl rfl (by decide) (by decide) (fun r_10 w1 H locs hw hP hD hS => ?_)
  obtain ⟨rfl, rfl⟩ := hw
  have hP : va_P D vwCl [(mm, .inr (5, [.ref q8, .ref q17, .int 0, .ref q26, .int 0, .ref q34, .ref q42, .ref q51, .ref q59, .int 0, .ref q67, .int 0, .int 0, .ref q75])), (q34, .inl (cI, 25, .inl (srP (min (24 + 5) 24)))), (q42, .inl (cI, 25, .inl (sdP (min (24 + 5) 24)))), (q8, .inl (cI, 578, .inl (upd (fun _ => 0) 432 200))), (q17, .inl (cI, 2312, .inl (fun _ => 0))), (q26, .inl (cI, 578, .inl (fun _ => 0))), (q51, .inl (cI, 144, .inl (fun _ => 0))), (q59, .inl (cI, 9, .inl (fun _ => 0))), (q67, .inl (cC, 60, .inl (fun _ => 0))), (q75, .inl (cI, 6, .inl (fun _ => 0)))] H := hP
  have hD : va_D (Ar) [(mm, .inr (5, [.ref q8, .ref q17, .int 0, .ref q26, .int 0, .ref q34, .ref q42, .ref q51, .ref q59, .int 0, .ref q67, .int 0, .int 0, .ref q75])), (q34, .inl (cI, 25, .inl (srP (min (24 + 5) 24)))), (q42, .inl (cI, 25, .inl (sdP (min (24 + 5) 24)))), (q8, .inl (cI, 578, .inl (upd (fun _ => 0) 432 200))), (q17, .inl (cI, 2312, .inl (fun _ => 0))), (q26, .inl (cI, 578, .inl (fun _ => 0))), (q51, .inl (cI, 144, .inl (fun _ => 0))), (q59, .inl (cI, 9, .inl (fun _ => 0))), (q67, .inl (cC, 60, .inl (fun _ => 0))), (q75, .inl (cI, 6, .inl (fun _ => 0)))] := hD
  refine x_eqi (show nI (min (24 + 5) 24) = 24 from (by decide)) ?_
  refine lv_istore_n (lv' := [(1, .int 24), (2, .int 5), (0, .ref mm)]) hx hb dX5_init_118 rfl hl (by decide) rfl (fun ls hl => ?_)
  refine lv_aload_n hx hb dX5_init_119 rfl (lv_at hl 2 rfl) ?_
  refine lv_iload_n hx hb dX5_init_120 rfl (lv_at hl 0 rfl) ?_
  refine lv_iconst (v := (-1)) hx hb dX5_init_121 (by decide) ?_
  refine lv_iconst (v := 0) hx hb dX5_init_122 (by decide) ?_
  refine lv_iload_n hx hb dX5_init_123 rfl (lv_at hl 1 rfl) ?_
  refine lv_iconst (v := 1) hx hb dX5_init_124 (by decide) ?_
  refine lv_iadd hx hb dX5_init_125 ?_
  refine x_eqi (show (5 : Int32) + 1 = 6 from by decide) ?_
  refine x_callWi (wc := [(mm, .inr (5, [.ref q8, .ref q17, .int 0, .ref q26, .int 0, .ref q34, .ref q42, .ref q51, .ref q59, .int 0, .ref q67, .int 0, .int 0, .ref q75])), (q34, .inl (cI, 25, .inl (srP (min (24 + 5) 24)))), (q42, .inl (cI, 25, .inl (sdP (min (24 + 5) 24))))]) (wr := [(q8, .inl (cI, 578, .inl (upd (fun _ => 0) 432 200))), (q17, .inl (cI, 2312, .inl (fun _ => 0))), (q26, .inl (cI, 578, .inl (fun _ => 0))), (q51, .inl (cI, 144, .inl (fun _ => 0))), (q59, .inl (cI, 9, .inl (fun _ => 0))), (q67, .inl (cC, 60, .inl (fun _ => 0))), (q75, .inl (cI, 6, .inl (fun _ => 0)))]) (va_runV (As := [.int 24, .int (-1), .int 0, .int 6]) (rest := []) ⟨hx, hb, hml, hown, hts⟩ (c_X5_goes l D cI cC cS tt H.size mm q8 q17 q26 q34 q42 q51 q59 q67 q75 0 0 0 0 0 24 6 (srP (min (24 + 5) 24)) (sdP (min (24 + 5) 24)) (-1) (-1) (show (-1 : Int32).toInt = -1 from by decide) 0 0 (show (0 : Int32).toInt = 0 from by decide) (by first | exact srP_0 | rfl) (by first | exact sdP_0 | rfl) (by decide) (by decide) (by decide) (by decide)) (cwV 4 hts gX5_init_X5_goes rfl rfl rfl (by decide +kernel) ⟨Nat.le_of_ble_eq_true rfl, Nat.le_of_ble_eq_true rfl⟩) ⟨x_blindW, va_recv hK hP (ci := 5) (q0 := 0) rfl rfl, x_preW hP hD hK hE hS hA [0, 1, 2] rfl (by decide)⟩ rfl rfl hl.1 rfl (lv_room (Nat.le_of_ble_eq_true rfl)) dX5_init_126 ⟨(Nat.le_of_ble_eq_true rfl), (Nat.le_of_ble_eq_true rfl)⟩) hP hD hS hA [0, 1, 2] [3, 4, 5, 6, 7, 8, 9] rfl rfl (by decide) (by decide) (fun r_11 w1 H locs hw hP hD hS => ?_)
  obtain ⟨rfl, rfl⟩ := hw
  have hP : va_P D vwCl [(mm, .inr (5, [.ref q8, .ref q17, .int 0, .ref q26, .int 0, .ref q34, .ref q42, .ref q51, .ref q59, .int 0, .ref q67, .int 0, .int 0, .ref q75])), (q34, .inl (cI, 25, .inl (srP (min (24 + 6) 24)))), (q42, .inl (cI, 25, .inl (sdP (min (24 + 6) 24)))), (q8, .inl (cI, 578, .inl (upd (fun _ => 0) 432 200))), (q17, .inl (cI, 2312, .inl (fun _ => 0))), (q26, .inl (cI, 578, .inl (fun _ => 0))), (q51, .inl (cI, 144, .inl (fun _ => 0))), (q59, .inl (cI, 9, .inl (fun _ => 0))), (q67, .inl (cC, 60, .inl (fun _ => 0))), (q75, .inl (cI, 6, .inl (fun _ => 0)))] H := hP
  have hD : va_D (Ar) [(mm, .inr (5, [.ref q8, .ref q17, .int 0, .ref q26, .int 0, .ref q34, .ref q42, .ref q51, .ref q59, .int 0, .ref q67, .int 0, .int 0, .ref q75])), (q34, .inl (cI, 25, .inl (srP (min (24 + 6) 24)))), (q42, .inl (cI, 25, .inl (sdP (min (24 + 6) 24)))), (q8, .inl (cI, 578, .inl (upd (fun _ => 0) 432 200))), (q17, .inl (cI, 2312, .inl (fun _ => 0))), (q26, .inl (cI, 578, .inl (fun _ => 0))), (q51, .inl (cI, 144, .inl (fun _ => 0))), (q59, .inl (cI, 9, .inl (fun _ => 0))), (q67, .inl (cC, 60, .inl (fun _ => 0))), (q75, .inl (cI, 6, .inl (fun _ => 0)))] := hD
  refine x_eqi (show nI (min (24 + 6) 24) = 24 from (by decide)) ?_
  refine lv_istore_n (lv' := [(1, .int 24), (2, .int 5), (0, .ref mm)]) hx hb dX5_init_129 rfl hl (by decide) rfl (fun ls hl => ?_)
  refine lv_aload_n hx hb dX5_init_130 rfl (lv_at hl 2 rfl) ?_
  refine lv_iload_n hx hb dX5_init_131 rfl (lv_at hl 0 rfl) ?_
  refine lv_iconst (v := 0) hx hb dX5_init_132 (by decide) ?_
  refine lv_iconst (v := (-1)) hx hb dX5_init_133 (by decide) ?_
  refine lv_iload_n hx hb dX5_init_134 rfl (lv_at hl 1 rfl) ?_
  refine lv_iconst (v := 1) hx hb dX5_init_135 (by decide) ?_
  refine lv_iadd hx hb dX5_init_136 ?_
  refine x_eqi (show (5 : Int32) + 1 = 6 from by decide) ?_
  refine x_callWi (wc := [(mm, .inr (5, [.ref q8, .ref q17, .int 0, .ref q26, .int 0, .ref q34, .ref q42, .ref q51, .ref q59, .int 0, .ref q67, .int 0, .int 0, .ref q75])), (q34, .inl (cI, 25, .inl (srP (min (24 + 6) 24)))), (q42, .inl (cI, 25, .inl (sdP (min (24 + 6) 24))))]) (wr := [(q8, .inl (cI, 578, .inl (upd (fun _ => 0) 432 200))), (q17, .inl (cI, 2312, .inl (fun _ => 0))), (q26, .inl (cI, 578, .inl (fun _ => 0))), (q51, .inl (cI, 144, .inl (fun _ => 0))), (q59, .inl (cI, 9, .inl (fun _ => 0))), (q67, .inl (cC, 60, .inl (fun _ => 0))), (q75, .inl (cI, 6, .inl (fun _ => 0)))]) (va_runV (As := [.int 24, .int 0, .int (-1), .int 6]) (rest := []) ⟨hx, hb, hml, hown, hts⟩ (c_X5_goes l D cI cC cS tt H.size mm q8 q17 q26 q34 q42 q51 q59 q67 q75 0 0 0 0 0 24 6 (srP (min (24 + 6) 24)) (sdP (min (24 + 6) 24)) 0 0 (show (0 : Int32).toInt = 0 from by decide) (-1) (-1) (show (-1 : Int32).toInt = -1 from by decide) (by first | exact srP_0 | rfl) (by first | exact sdP_0 | rfl) (by decide) (by decide) (by decide) (by decide)) (cwV 4 hts gX5_init_X5_goes rfl rfl rfl (by decide +kernel) ⟨Nat.le_of_ble_eq_true rfl, Nat.le_of_ble_eq_true rfl⟩) ⟨x_blindW, va_recv hK hP (ci := 5) (q0 := 0) rfl rfl, x_preW hP hD hK hE hS hA [0, 1, 2] rfl (by decide)⟩ rfl rfl hl.1 rfl (lv_room (Nat.le_of_ble_eq_true rfl)) dX5_init_137 ⟨(Nat.le_of_ble_eq_true rfl), (Nat.le_of_ble_eq_true rfl)⟩) hP hD hS hA [0, 1, 2] [3, 4, 5, 6, 7, 8, 9] rfl rfl (by decide) (by decide) (fun r_12 w1 H locs hw hP hD hS => ?_)
  obtain ⟨rfl, rfl⟩ := hw
  have hP : va_P D vwCl [(mm, .inr (5, [.ref q8, .ref q17, .int 0, .ref q26, .int 0, .ref q34, .ref q42, .ref q51, .ref q59, .int 0, .ref q67, .int 0, .int 0, .ref q75])), (q34, .inl (cI, 25, .inl (srP (min (24 + 6) 24)))), (q42, .inl (cI, 25, .inl (sdP (min (24 + 6) 24)))), (q8, .inl (cI, 578, .inl (upd (fun _ => 0) 432 200))), (q17, .inl (cI, 2312, .inl (fun _ => 0))), (q26, .inl (cI, 578, .inl (fun _ => 0))), (q51, .inl (cI, 144, .inl (fun _ => 0))), (q59, .inl (cI, 9, .inl (fun _ => 0))), (q67, .inl (cC, 60, .inl (fun _ => 0))), (q75, .inl (cI, 6, .inl (fun _ => 0)))] H := hP
  have hD : va_D (Ar) [(mm, .inr (5, [.ref q8, .ref q17, .int 0, .ref q26, .int 0, .ref q34, .ref q42, .ref q51, .ref q59, .int 0, .ref q67, .int 0, .int 0, .ref q75])), (q34, .inl (cI, 25, .inl (srP (min (24 + 6) 24)))), (q42, .inl (cI, 25, .inl (sdP (min (24 + 6) 24)))), (q8, .inl (cI, 578, .inl (upd (fun _ => 0) 432 200))), (q17, .inl (cI, 2312, .inl (fun _ => 0))), (q26, .inl (cI, 578, .inl (fun _ => 0))), (q51, .inl (cI, 144, .inl (fun _ => 0))), (q59, .inl (cI, 9, .inl (fun _ => 0))), (q67, .inl (cC, 60, .inl (fun _ => 0))), (q75, .inl (cI, 6, .inl (fun _ => 0)))] := hD
  refine x_eqi (show nI (min (24 + 6) 24) = 24 from (by decide)) ?_
  refine lv_istore_n (lv' := [(1, .int 24), (2, .int 5), (0, .ref mm)]) hx hb dX5_init_140 rfl hl (by decide) rfl (fun ls hl => ?_)
  refine lv_iinc (v := 7) (lv' := [(2, .int 7), (1, .int 24), (0, .ref mm)]) hx hb dX5_init_141 hl (k := 1) rfl (by decide) (by decide) rfl (fun ls hl => ?_)
  refine lv_goto (tgt := 95) hx hb dX5_init_144 (by decide) ?_
  refine lv_iload_n hx hb dX5_init_95 rfl (lv_at hl 1 rfl) ?_
  refine lv_bipush (v := 24) hx hb dX5_init_96 (by decide) ?_
  refine lv_icmp_ge (tgt := 147) hx hb dX5_init_98 (by decide) (fun _ => ?_) (fun h => False.elim (by revert h; decide))
  refine W.widen (k := 9) (n := 3737) (Nat.le_of_ble_eq_true rfl) (Nat.le_of_ble_eq_true rfl) ?_
  refine x_vretW (w := [(mm, .inr (5, [.ref q8, .ref q17, .int 0, .ref q26, .int 0, .ref q34, .ref q42, .ref q51, .ref q59, .int 0, .ref q67, .int 0, .int 0, .ref q75])), (q8, .inl (cI, 578, .inl (upd (fun _ => 0) 432 200))), (q17, .inl (cI, 2312, .inl (fun _ => 0))), (q26, .inl (cI, 578, .inl (fun _ => 0))), (q34, .inl (cI, 25, .inl (srP (min (24 + 6) 24)))), (q42, .inl (cI, 25, .inl (sdP (min (24 + 6) 24)))), (q51, .inl (cI, 144, .inl (fun _ => 0))), (q59, .inl (cI, 9, .inl (fun _ => 0))), (q67, .inl (cC, 60, .inl (fun _ => 0))), (q75, .inl (cI, 6, .inl (fun _ => 0)))]) hQ hAe hx hb hr hlocks (hP.sub [0, 3, 4, 5, 1, 2, 6, 7, 8, 9] rfl) (hD.sub [0, 3, 4, 5, 1, 2, 6, 7, 8, 9] (by decide) rfl) hS ?_ dX5_init_147
  exact ⟨q8, q17, q26, q34, q42, q51, q59, q67, q75, by rw [mk_init, ← srP_24, ← sdP_24]; rfl⟩
