set_option maxHeartbeats 4000000 in
set_option maxRecDepth 100000 in
theorem c_X1_readOrder (l : Launch) (D : va_G) (cI cC cS : ClassId) (tt : Nat → Nat) (sz : Nat) (q0 : Nat) (sg : Nat) (pr : Nat) (ln : Nat) (at9 : Nat) (pt : Nat) (to9 : Int32) (tx : Nat → Int32) (pa : Nat → Int32) (hh0 : ln ≤ 60) (hh1 : at9 ≤ ln) (hh2 : pt + 6 ≤ 72) : Met l yX1_readOrder wsX1_readOrder ({ frames := 3, cells := 0, slots := 0, locals := 69 } : Room) (x_PW D cI cC cS tt [(q0, .inr (1, [.ref sg, .int (nI ln), .int (nI at9), .ref pr, .int to9])), (sg, .inl (cC, 60, .inl (tx))), (pr, .inl (cI, 72, .inl (pa)))] sz [.ref q0, .int (nI pt)]) (x_QWi D [(q0, .inr (1, [.ref sg, .int (nI ln), .int (nI at9), .ref pr, .int to9])), (sg, .inl (cC, 60, .inl (tx))), (pr, .inl (cI, 72, .inl (pa)))] sz (fun (r : Int32) (w : va_W) => (∃ (pa2 : Nat → Int32), r = 1 ∧ w = [(q0, .inr (1, [.ref sg, .int (nI ln), .int (nI ((oRes tx ln at9).2)), .ref pr, .int to9])), (sg, .inl (cC, 60, .inl (tx))), (pr, .inl (cI, 72, .inl (pa2)))] ∧ ((oRes tx ln at9).1 = true) ∧ (∀ k9, k9 < oK tx ln at9 → pa2 (pt + k9) = zI (oV tx ln at9 k9)) ∧ (∀ j9, (j9 < pt ∨ pt + 6 ≤ j9) → pa2 j9 = pa j9)) ∨ (∃ (pa2 : Nat → Int32), r = 0 ∧ w = [(q0, .inr (1, [.ref sg, .int (nI ln), .int (nI ((oRes tx ln at9).2)), .ref pr, .int to9])), (sg, .inl (cC, 60, .inl (tx))), (pr, .inl (cI, 72, .inl (pa2)))] ∧ ((oRes tx ln at9).1 = false) ∧ (∀ j9, (j9 < pt ∨ pt + 6 ≤ j9) → pa2 j9 = pa j9)))) 0 0 (va_A [(q0, .inr (1, [.ref sg, .int (nI ln), .int (nI at9), .ref pr, .int to9])), (sg, .inl (cC, 60, .inl (tx))), (pr, .inl (cI, 72, .inl (pa)))] sz) := by
  refine Met.ofW (cc := cX1_readOrder) (maxL := 2) (ret := (some .boolean)) (by decide) rfl ?_
  intro p e s m args below meth c s₁ hBd hml hv
  obtain ⟨rfl, hsz, hP, hK, hD0, hE⟩ := hv
  have hx := hBd.exec
  have hb := hBd.bytes
  have hr := hBd.returns
  have hts := atoms_spec (ws := wsX1_readOrder) hBd.pre
  have hown : s.vm.findClass RX1 = some m.cls := findClass_of_methodNamed hBd.named
  have hlocks := hBd.notSynchronized
  subst hsz
  obtain ⟨Ar, hAe⟩ : ∃ Ar : Nat → Prop, Ar = va_A [(q0, .inr (1, [.ref sg, .int (nI ln), .int (nI at9), .ref pr, .int to9])), (sg, .inl (cC, 60, .inl (tx))), (pr, .inl (cI, 72, .inl (pa)))] s.heap.size := ⟨_, rfl⟩
  have hD : va_D Ar [(q0, .inr (1, [.ref sg, .int (nI ln), .int (nI at9), .ref pr, .int to9])), (sg, .inl (cC, 60, .inl (tx))), (pr, .inl (cI, 72, .inl (pa)))] := by rw [hAe]; exact hD0.self
  have hA : ∀ q : Nat, s.heap.size ≤ q → Ar q := fun q h => by rw [hAe]; exact Or.inr h
  have hE : x_E tt Ar s := by rw [hAe]; exact hE
  have hS : va_S Ar s.heap s.heap [] := va_S.rf
  have hl := lv_entry ([.ref q0, .int (nI pt)]) (n := 2) (Nat.le_of_ble_eq_true rfl)
  rw [lg_entry_eq]
  generalize (lg_sl ([.ref q0, .int (nI pt)]) ++ List.replicate (2 - (lg_sl ([.ref q0, .int (nI pt)])).length) Slot.unset).toArray = ls at hl ⊢
  have hl : lv_has ls 2 [(0, .ref q0), (1, .int (nI pt))] := hl
  refine x_genQ (fun Q hQ => ?_)
  refine lv_aload_n hx hb dX1_readOrder_0 rfl (lv_at hl 0 rfl) ?_
  refine lv_bipush (v := 98) hx hb dX1_readOrder_1 (by decide) ?_
  refine x_callWi (wc := [(q0, .inr (1, [.ref sg, .int (nI ln), .int (nI at9), .ref pr, .int to9])), (sg, .inl (cC, 60, .inl (tx))), (pr, .inl (cI, 72, .inl (pa)))]) (wr := []) (va_runV (As := [.int 98]) (rest := []) ⟨hx, hb, hml, hown, hts⟩ (c_X1_takes l D cI cC cS tt s.heap.size q0 sg pr ln at9 to9 tx pa 98 98 (show (98 : Int32).toInt = 98 from by decide) (by first | assumption | omega | decide) (by first | assumption | omega | decide) (by first | assumption | omega | decide)) (cwV 1 hts gX1_readOrder_X1_takes rfl rfl rfl (by decide +kernel) ⟨Nat.le_of_ble_eq_true rfl, Nat.le_of_ble_eq_true rfl⟩) ⟨x_blindW, va_recv hK hP (ci := 1) (q0 := 0) rfl rfl, x_preW hP hD hK hE hS hA [0, 1, 2] rfl (by decide)⟩ rfl rfl hl.1 rfl (lv_room (Nat.le_of_ble_eq_true rfl)) dX1_readOrder_3 ⟨(Nat.le_of_ble_eq_true rfl), (Nat.le_of_ble_eq_true rfl)⟩) hP hD hS hA [0, 1, 2] [] rfl rfl (by decide) (by decide) (fun r_1 w1 H locs hw hP hD hS => ?_)
  rcases hw with ⟨rfl, rfl, hf3_0⟩ | ⟨rfl, rfl, hf3_0⟩
  · skip
    have hP : va_P D vwCl [(q0, .inr (1, [.ref sg, .int (nI ln), .int (nI (at9 + 1)), .ref pr, .int to9])), (sg, .inl (cC, 60, .inl (tx))), (pr, .inl (cI, 72, .inl (pa)))] H := hP
    have hD : va_D (Ar) [(q0, .inr (1, [.ref sg, .int (nI ln), .int (nI (at9 + 1)), .ref pr, .int to9])), (sg, .inl (cC, 60, .inl (tx))), (pr, .inl (cI, 72, .inl (pa)))] := hD
    refine lv_if_eq (tgt := 112) hx hb dX1_readOrder_6 (by decide) (fun h => False.elim (by revert h; decide)) (fun _ => ?_)
    refine lv_aload_n hx hb dX1_readOrder_9 rfl (lv_at hl 0 rfl) ?_
    refine lv_iload_n hx hb dX1_readOrder_10 rfl (lv_at hl 1 rfl) ?_
    refine lv_iconst (v := 0) hx hb dX1_readOrder_11 (by decide) ?_
    refine x_callWv (wc := [(q0, .inr (1, [.ref sg, .int (nI ln), .int (nI (at9 + 1)), .ref pr, .int to9])), (pr, .inl (cI, 72, .inl (pa)))]) (wr := [(sg, .inl (cC, 60, .inl (tx)))]) (va_runV (As := [.int (nI pt), .int 0]) (rest := []) ⟨hx, hb, hml, hown, hts⟩ (c_X1_putPart l D cI cC cS tt H.size q0 sg pr pt (nI ln) (nI (at9 + 1)) to9 0 pa (by first | assumption | omega | decide)) (cwV 2 hts gX1_readOrder_X1_putPart rfl rfl rfl (by decide +kernel) ⟨Nat.le_of_ble_eq_true rfl, Nat.le_of_ble_eq_true rfl⟩) ⟨x_blindW, va_recv hK hP (ci := 1) (q0 := 0) rfl rfl, x_preW hP hD hK hE hS hA [0, 2] rfl (by decide)⟩ rfl rfl hl.1 rfl (lv_room (Nat.le_of_ble_eq_true rfl)) dX1_readOrder_12 ⟨(Nat.le_of_ble_eq_true rfl), (Nat.le_of_ble_eq_true rfl)⟩) hP hD hS hA [0, 2] [1] rfl rfl (by decide) (by decide) (fun w1 H locs hw hP hD hS => ?_)
    obtain rfl := hw
    have hP : va_P D vwCl [(q0, .inr (1, [.ref sg, .int (nI ln), .int (nI (at9 + 1)), .ref pr, .int to9])), (pr, .inl (cI, 72, .inl (upd pa pt 0))), (sg, .inl (cC, 60, .inl (tx)))] H := hP
    have hD : va_D (Ar) [(q0, .inr (1, [.ref sg, .int (nI ln), .int (nI (at9 + 1)), .ref pr, .int to9])), (pr, .inl (cI, 72, .inl (upd pa pt 0))), (sg, .inl (cC, 60, .inl (tx)))] := hD
    refine lv_aload_n hx hb dX1_readOrder_15 rfl (lv_at hl 0 rfl) ?_
    refine lv_iload_n hx hb dX1_readOrder_16 rfl (lv_at hl 1 rfl) ?_
    refine lv_iconst (v := 1) hx hb dX1_readOrder_17 (by decide) ?_
    refine lv_iadd hx hb dX1_readOrder_18 ?_
    refine x_eqi (show nI pt + 1 = nI (pt + 1) from nI_add pt 1) ?_
    refine lv_iconst (v := 0) hx hb dX1_readOrder_19 (by decide) ?_
    refine x_callWi (wc := [(q0, .inr (1, [.ref sg, .int (nI ln), .int (nI ((at9 + 1))), .ref pr, .int to9])), (sg, .inl (cC, 60, .inl (tx))), (pr, .inl (cI, 72, .inl ((upd pa pt 0))))]) (wr := []) (va_runV (As := [.int (nI (pt + 1)), .int 0]) (rest := []) ⟨hx, hb, hml, hown, hts⟩ (c_X1_readNumber_0 l D cI cC cS tt H.size q0 sg pr ln (at9 + 1) (pt + 1) to9 tx (upd pa pt 0) (by first | assumption | omega | decide) (by first | assumption | omega | decide) (by first | assumption | omega | decide)) (cwV 2 hts gX1_readOrder_X1_readNumber rfl rfl rfl (by decide +kernel) ⟨Nat.le_of_ble_eq_true rfl, Nat.le_of_ble_eq_true rfl⟩) ⟨x_blindW, va_recv hK hP (ci := 1) (q0 := 0) rfl rfl, x_preW hP hD hK hE hS hA [0, 2, 1] rfl (by decide)⟩ rfl rfl hl.1 rfl (lv_room (Nat.le_of_ble_eq_true rfl)) dX1_readOrder_20 ⟨(Nat.le_of_ble_eq_true rfl), (Nat.le_of_ble_eq_true rfl)⟩) hP hD hS hA [0, 2, 1] [] rfl rfl (by decide) (by decide) (fun r_3 w1 H locs hw hP hD hS => ?_)
    rcases hw with ⟨rfl, rfl, hf20_0, hf20_1⟩ | ⟨rfl, rfl, hf20_0⟩
    · skip
      have hP : va_P D vwCl [(q0, .inr (1, [.ref sg, .int (nI ln), .int (nI (dE tx ln (at9 + 1))), .ref pr, .int to9])), (sg, .inl (cC, 60, .inl (tx))), (pr, .inl (cI, 72, .inl (upd (upd pa pt 0) (pt + 1) (zI (dV tx ln (at9 + 1))))))] H := hP
      have hD : va_D (Ar) [(q0, .inr (1, [.ref sg, .int (nI ln), .int (nI (dE tx ln (at9 + 1))), .ref pr, .int to9])), (sg, .inl (cC, 60, .inl (tx))), (pr, .inl (cI, 72, .inl (upd (upd pa pt 0) (pt + 1) (zI (dV tx ln (at9 + 1))))))] := hD
      refine lv_if_eq (tgt := 110) hx hb dX1_readOrder_23 (by decide) (fun h => False.elim (by revert h; decide)) (fun _ => ?_)
      refine lv_aload_n hx hb dX1_readOrder_26 rfl (lv_at hl 0 rfl) ?_
      refine lv_bipush (v := 44) hx hb dX1_readOrder_27 (by decide) ?_
      refine x_callWi (wc := [(q0, .inr (1, [.ref sg, .int (nI ln), .int (nI ((dE tx ln (at9 + 1)))), .ref pr, .int to9])), (sg, .inl (cC, 60, .inl (tx))), (pr, .inl (cI, 72, .inl ((upd (upd pa pt 0) (pt + 1) (zI (dV tx ln (at9 + 1)))))))]) (wr := []) (va_runV (As := [.int 44]) (rest := []) ⟨hx, hb, hml, hown, hts⟩ (c_X1_takes l D cI cC cS tt H.size q0 sg pr ln (dE tx ln (at9 + 1)) to9 tx (upd (upd pa pt 0) (pt + 1) (zI (dV tx ln (at9 + 1)))) 44 44 (show (44 : Int32).toInt = 44 from by decide) (by first | assumption | omega | decide) (by first | assumption | omega | decide) (by first | assumption | omega | decide)) (cwV 1 hts gX1_readOrder_X1_takes rfl rfl rfl (by decide +kernel) ⟨Nat.le_of_ble_eq_true rfl, Nat.le_of_ble_eq_true rfl⟩) ⟨x_blindW, va_recv hK hP (ci := 1) (q0 := 0) rfl rfl, x_preW hP hD hK hE hS hA [0, 1, 2] rfl (by decide)⟩ rfl rfl hl.1 rfl (lv_room (Nat.le_of_ble_eq_true rfl)) dX1_readOrder_29 ⟨(Nat.le_of_ble_eq_true rfl), (Nat.le_of_ble_eq_true rfl)⟩) hP hD hS hA [0, 1, 2] [] rfl rfl (by decide) (by decide) (fun r_4 w1 H locs hw hP hD hS => ?_)
      rcases hw with ⟨rfl, rfl, hf29_0⟩ | ⟨rfl, rfl, hf29_0⟩
      · skip
        have hP : va_P D vwCl [(q0, .inr (1, [.ref sg, .int (nI ln), .int (nI ((dE tx ln (at9 + 1)) + 1)), .ref pr, .int to9])), (sg, .inl (cC, 60, .inl (tx))), (pr, .inl (cI, 72, .inl ((upd (upd pa pt 0) (pt + 1) (zI (dV tx ln (at9 + 1)))))))] H := hP
        have hD : va_D (Ar) [(q0, .inr (1, [.ref sg, .int (nI ln), .int (nI ((dE tx ln (at9 + 1)) + 1)), .ref pr, .int to9])), (sg, .inl (cC, 60, .inl (tx))), (pr, .inl (cI, 72, .inl ((upd (upd pa pt 0) (pt + 1) (zI (dV tx ln (at9 + 1)))))))] := hD
        refine lv_if_eq (tgt := 110) hx hb dX1_readOrder_32 (by decide) (fun h => False.elim (by revert h; decide)) (fun _ => ?_)
        refine lv_aload_n hx hb dX1_readOrder_35 rfl (lv_at hl 0 rfl) ?_
        refine lv_iload_n hx hb dX1_readOrder_36 rfl (lv_at hl 1 rfl) ?_
        refine lv_iconst (v := 2) hx hb dX1_readOrder_37 (by decide) ?_
        refine lv_iadd hx hb dX1_readOrder_38 ?_
        refine x_eqi (show nI pt + 2 = nI (pt + 2) from nI_add pt 2) ?_
        refine lv_iconst (v := 0) hx hb dX1_readOrder_39 (by decide) ?_
        refine x_callWi (wc := [(q0, .inr (1, [.ref sg, .int (nI ln), .int (nI (((dE tx ln (at9 + 1)) + 1))), .ref pr, .int to9])), (sg, .inl (cC, 60, .inl (tx))), (pr, .inl (cI, 72, .inl ((upd (upd pa pt 0) (pt + 1) (zI (dV tx ln (at9 + 1)))))))]) (wr := []) (va_runV (As := [.int (nI (pt + 2)), .int 0]) (rest := []) ⟨hx, hb, hml, hown, hts⟩ (c_X1_readNumber_0 l D cI cC cS tt H.size q0 sg pr ln ((dE tx ln (at9 + 1)) + 1) (pt + 2) to9 tx (upd (upd pa pt 0) (pt + 1) (zI (dV tx ln (at9 + 1)))) (by first | assumption | omega | decide) (by first | assumption | omega | decide) (by first | assumption | omega | decide)) (cwV 2 hts gX1_readOrder_X1_readNumber rfl rfl rfl (by decide +kernel) ⟨Nat.le_of_ble_eq_true rfl, Nat.le_of_ble_eq_true rfl⟩) ⟨x_blindW, va_recv hK hP (ci := 1) (q0 := 0) rfl rfl, x_preW hP hD hK hE hS hA [0, 1, 2] rfl (by decide)⟩ rfl rfl hl.1 rfl (lv_room (Nat.le_of_ble_eq_true rfl)) dX1_readOrder_40 ⟨(Nat.le_of_ble_eq_true rfl), (Nat.le_of_ble_eq_true rfl)⟩) hP hD hS hA [0, 1, 2] [] rfl rfl (by decide) (by decide) (fun r_5 w1 H locs hw hP hD hS => ?_)
        rcases hw with ⟨rfl, rfl, hf40_0, hf40_1⟩ | ⟨rfl, rfl, hf40_0⟩
        · skip
          have hP : va_P D vwCl [(q0, .inr (1, [.ref sg, .int (nI ln), .int (nI (dE tx ln ((dE tx ln (at9 + 1)) + 1))), .ref pr, .int to9])), (sg, .inl (cC, 60, .inl (tx))), (pr, .inl (cI, 72, .inl (upd (upd (upd pa pt 0) (pt + 1) (zI (dV tx ln (at9 + 1)))) (pt + 2) (zI (dV tx ln ((dE tx ln (at9 + 1)) + 1))))))] H := hP
          have hD : va_D (Ar) [(q0, .inr (1, [.ref sg, .int (nI ln), .int (nI (dE tx ln ((dE tx ln (at9 + 1)) + 1))), .ref pr, .int to9])), (sg, .inl (cC, 60, .inl (tx))), (pr, .inl (cI, 72, .inl (upd (upd (upd pa pt 0) (pt + 1) (zI (dV tx ln (at9 + 1)))) (pt + 2) (zI (dV tx ln ((dE tx ln (at9 + 1)) + 1))))))] := hD
          refine lv_if_eq (tgt := 110) hx hb dX1_readOrder_43 (by decide) (fun h => False.elim (by revert h; decide)) (fun _ => ?_)
          refine lv_aload_n hx hb dX1_readOrder_46 rfl (lv_at hl 0 rfl) ?_
          refine lv_bipush (v := 44) hx hb dX1_readOrder_47 (by decide) ?_
          refine x_callWi (wc := [(q0, .inr (1, [.ref sg, .int (nI ln), .int (nI ((dE tx ln ((dE tx ln (at9 + 1)) + 1)))), .ref pr, .int to9])), (sg, .inl (cC, 60, .inl (tx))), (pr, .inl (cI, 72, .inl ((upd (upd (upd pa pt 0) (pt + 1) (zI (dV tx ln (at9 + 1)))) (pt + 2) (zI (dV tx ln ((dE tx ln (at9 + 1)) + 1)))))))]) (wr := []) (va_runV (As := [.int 44]) (rest := []) ⟨hx, hb, hml, hown, hts⟩ (c_X1_takes l D cI cC cS tt H.size q0 sg pr ln (dE tx ln ((dE tx ln (at9 + 1)) + 1)) to9 tx (upd (upd (upd pa pt 0) (pt + 1) (zI (dV tx ln (at9 + 1)))) (pt + 2) (zI (dV tx ln ((dE tx ln (at9 + 1)) + 1)))) 44 44 (show (44 : Int32).toInt = 44 from by decide) (by first | assumption | omega | decide) (by first | assumption | omega | decide) (by first | assumption | omega | decide)) (cwV 1 hts gX1_readOrder_X1_takes rfl rfl rfl (by decide +kernel) ⟨Nat.le_of_ble_eq_true rfl, Nat.le_of_ble_eq_true rfl⟩) ⟨x_blindW, va_recv hK hP (ci := 1) (q0 := 0) rfl rfl, x_preW hP hD hK hE hS hA [0, 1, 2] rfl (by decide)⟩ rfl rfl hl.1 rfl (lv_room (Nat.le_of_ble_eq_true rfl)) dX1_readOrder_49 ⟨(Nat.le_of_ble_eq_true rfl), (Nat.le_of_ble_eq_true rfl)⟩) hP hD hS hA [0, 1, 2] [] rfl rfl (by decide) (by decide) (fun r_6 w1 H locs hw hP hD hS => ?_)
          rcases hw with ⟨rfl, rfl, hf49_0⟩ | ⟨rfl, rfl, hf49_0⟩
          · skip
            have hP : va_P D vwCl [(q0, .inr (1, [.ref sg, .int (nI ln), .int (nI ((dE tx ln ((dE tx ln (at9 + 1)) + 1)) + 1)), .ref pr, .int to9])), (sg, .inl (cC, 60, .inl (tx))), (pr, .inl (cI, 72, .inl ((upd (upd (upd pa pt 0) (pt + 1) (zI (dV tx ln (at9 + 1)))) (pt + 2) (zI (dV tx ln ((dE tx ln (at9 + 1)) + 1)))))))] H := hP
            have hD : va_D (Ar) [(q0, .inr (1, [.ref sg, .int (nI ln), .int (nI ((dE tx ln ((dE tx ln (at9 + 1)) + 1)) + 1)), .ref pr, .int to9])), (sg, .inl (cC, 60, .inl (tx))), (pr, .inl (cI, 72, .inl ((upd (upd (upd pa pt 0) (pt + 1) (zI (dV tx ln (at9 + 1)))) (pt + 2) (zI (dV tx ln ((dE tx ln (at9 + 1)) + 1)))))))] := hD
            refine lv_if_eq (tgt := 110) hx hb dX1_readOrder_52 (by decide) (fun h => False.elim (by revert h; decide)) (fun _ => ?_)
            refine lv_aload_n hx hb dX1_readOrder_55 rfl (lv_at hl 0 rfl) ?_
            refine lv_iload_n hx hb dX1_readOrder_56 rfl (lv_at hl 1 rfl) ?_
            refine lv_iconst (v := 3) hx hb dX1_readOrder_57 (by decide) ?_
            refine lv_iadd hx hb dX1_readOrder_58 ?_
            refine x_eqi (show nI pt + 3 = nI (pt + 3) from nI_add pt 3) ?_
            refine lv_iconst (v := 0) hx hb dX1_readOrder_59 (by decide) ?_
            refine x_callWi (wc := [(q0, .inr (1, [.ref sg, .int (nI ln), .int (nI (((dE tx ln ((dE tx ln (at9 + 1)) + 1)) + 1))), .ref pr, .int to9])), (sg, .inl (cC, 60, .inl (tx))), (pr, .inl (cI, 72, .inl ((upd (upd (upd pa pt 0) (pt + 1) (zI (dV tx ln (at9 + 1)))) (pt + 2) (zI (dV tx ln ((dE tx ln (at9 + 1)) + 1)))))))]) (wr := []) (va_runV (As := [.int (nI (pt + 3)), .int 0]) (rest := []) ⟨hx, hb, hml, hown, hts⟩ (c_X1_readNumber_0 l D cI cC cS tt H.size q0 sg pr ln ((dE tx ln ((dE tx ln (at9 + 1)) + 1)) + 1) (pt + 3) to9 tx (upd (upd (upd pa pt 0) (pt + 1) (zI (dV tx ln (at9 + 1)))) (pt + 2) (zI (dV tx ln ((dE tx ln (at9 + 1)) + 1)))) (by first | assumption | omega | decide) (by first | assumption | omega | decide) (by first | assumption | omega | decide)) (cwV 2 hts gX1_readOrder_X1_readNumber rfl rfl rfl (by decide +kernel) ⟨Nat.le_of_ble_eq_true rfl, Nat.le_of_ble_eq_true rfl⟩) ⟨x_blindW, va_recv hK hP (ci := 1) (q0 := 0) rfl rfl, x_preW hP hD hK hE hS hA [0, 1, 2] rfl (by decide)⟩ rfl rfl hl.1 rfl (lv_room (Nat.le_of_ble_eq_true rfl)) dX1_readOrder_60 ⟨(Nat.le_of_ble_eq_true rfl), (Nat.le_of_ble_eq_true rfl)⟩) hP hD hS hA [0, 1, 2] [] rfl rfl (by decide) (by decide) (fun r_7 w1 H locs hw hP hD hS => ?_)
            rcases hw with ⟨rfl, rfl, hf60_0, hf60_1⟩ | ⟨rfl, rfl, hf60_0⟩
            · skip
              have hP : va_P D vwCl [(q0, .inr (1, [.ref sg, .int (nI ln), .int (nI (dE tx ln ((dE tx ln ((dE tx ln (at9 + 1)) + 1)) + 1))), .ref pr, .int to9])), (sg, .inl (cC, 60, .inl (tx))), (pr, .inl (cI, 72, .inl (upd (upd (upd (upd pa pt 0) (pt + 1) (zI (dV tx ln (at9 + 1)))) (pt + 2) (zI (dV tx ln ((dE tx ln (at9 + 1)) + 1)))) (pt + 3) (zI (dV tx ln ((dE tx ln ((dE tx ln (at9 + 1)) + 1)) + 1))))))] H := hP
              have hD : va_D (Ar) [(q0, .inr (1, [.ref sg, .int (nI ln), .int (nI (dE tx ln ((dE tx ln ((dE tx ln (at9 + 1)) + 1)) + 1))), .ref pr, .int to9])), (sg, .inl (cC, 60, .inl (tx))), (pr, .inl (cI, 72, .inl (upd (upd (upd (upd pa pt 0) (pt + 1) (zI (dV tx ln (at9 + 1)))) (pt + 2) (zI (dV tx ln ((dE tx ln (at9 + 1)) + 1)))) (pt + 3) (zI (dV tx ln ((dE tx ln ((dE tx ln (at9 + 1)) + 1)) + 1))))))] := hD
              refine lv_if_eq (tgt := 110) hx hb dX1_readOrder_63 (by decide) (fun h => False.elim (by revert h; decide)) (fun _ => ?_)
              refine lv_aload_n hx hb dX1_readOrder_66 rfl (lv_at hl 0 rfl) ?_
              refine lv_bipush (v := 44) hx hb dX1_readOrder_67 (by decide) ?_
              refine x_callWi (wc := [(q0, .inr (1, [.ref sg, .int (nI ln), .int (nI ((dE tx ln ((dE tx ln ((dE tx ln (at9 + 1)) + 1)) + 1)))), .ref pr, .int to9])), (sg, .inl (cC, 60, .inl (tx))), (pr, .inl (cI, 72, .inl ((upd (upd (upd (upd pa pt 0) (pt + 1) (zI (dV tx ln (at9 + 1)))) (pt + 2) (zI (dV tx ln ((dE tx ln (at9 + 1)) + 1)))) (pt + 3) (zI (dV tx ln ((dE tx ln ((dE tx ln (at9 + 1)) + 1)) + 1)))))))]) (wr := []) (va_runV (As := [.int 44]) (rest := []) ⟨hx, hb, hml, hown, hts⟩ (c_X1_takes l D cI cC cS tt H.size q0 sg pr ln (dE tx ln ((dE tx ln ((dE tx ln (at9 + 1)) + 1)) + 1)) to9 tx (upd (upd (upd (upd pa pt 0) (pt + 1) (zI (dV tx ln (at9 + 1)))) (pt + 2) (zI (dV tx ln ((dE tx ln (at9 + 1)) + 1)))) (pt + 3) (zI (dV tx ln ((dE tx ln ((dE tx ln (at9 + 1)) + 1)) + 1)))) 44 44 (show (44 : Int32).toInt = 44 from by decide) (by first | assumption | omega | decide) (by first | assumption | omega | decide) (by first | assumption | omega | decide)) (cwV 1 hts gX1_readOrder_X1_takes rfl rfl rfl (by decide +kernel) ⟨Nat.le_of_ble_eq_true rfl, Nat.le_of_ble_eq_true rfl⟩) ⟨x_blindW, va_recv hK hP (ci := 1) (q0 := 0) rfl rfl, x_preW hP hD hK hE hS hA [0, 1, 2] rfl (by decide)⟩ rfl rfl hl.1 rfl (lv_room (Nat.le_of_ble_eq_true rfl)) dX1_readOrder_69 ⟨(Nat.le_of_ble_eq_true rfl), (Nat.le_of_ble_eq_true rfl)⟩) hP hD hS hA [0, 1, 2] [] rfl rfl (by decide) (by decide) (fun r_8 w1 H locs hw hP hD hS => ?_)
              rcases hw with ⟨rfl, rfl, hf69_0⟩ | ⟨rfl, rfl, hf69_0⟩
              · skip
                have hP : va_P D vwCl [(q0, .inr (1, [.ref sg, .int (nI ln), .int (nI ((dE tx ln ((dE tx ln ((dE tx ln (at9 + 1)) + 1)) + 1)) + 1)), .ref pr, .int to9])), (sg, .inl (cC, 60, .inl (tx))), (pr, .inl (cI, 72, .inl ((upd (upd (upd (upd pa pt 0) (pt + 1) (zI (dV tx ln (at9 + 1)))) (pt + 2) (zI (dV tx ln ((dE tx ln (at9 + 1)) + 1)))) (pt + 3) (zI (dV tx ln ((dE tx ln ((dE tx ln (at9 + 1)) + 1)) + 1)))))))] H := hP
                have hD : va_D (Ar) [(q0, .inr (1, [.ref sg, .int (nI ln), .int (nI ((dE tx ln ((dE tx ln ((dE tx ln (at9 + 1)) + 1)) + 1)) + 1)), .ref pr, .int to9])), (sg, .inl (cC, 60, .inl (tx))), (pr, .inl (cI, 72, .inl ((upd (upd (upd (upd pa pt 0) (pt + 1) (zI (dV tx ln (at9 + 1)))) (pt + 2) (zI (dV tx ln ((dE tx ln (at9 + 1)) + 1)))) (pt + 3) (zI (dV tx ln ((dE tx ln ((dE tx ln (at9 + 1)) + 1)) + 1)))))))] := hD
                refine lv_if_eq (tgt := 110) hx hb dX1_readOrder_72 (by decide) (fun h => False.elim (by revert h; decide)) (fun _ => ?_)
                refine lv_aload_n hx hb dX1_readOrder_75 rfl (lv_at hl 0 rfl) ?_
                refine lv_iload_n hx hb dX1_readOrder_76 rfl (lv_at hl 1 rfl) ?_
                refine lv_iconst (v := 4) hx hb dX1_readOrder_77 (by decide) ?_
                refine lv_iadd hx hb dX1_readOrder_78 ?_
                refine x_eqi (show nI pt + 4 = nI (pt + 4) from nI_add pt 4) ?_
                refine lv_iconst (v := 0) hx hb dX1_readOrder_79 (by decide) ?_
                refine x_callWi (wc := [(q0, .inr (1, [.ref sg, .int (nI ln), .int (nI (((dE tx ln ((dE tx ln ((dE tx ln (at9 + 1)) + 1)) + 1)) + 1))), .ref pr, .int to9])), (sg, .inl (cC, 60, .inl (tx))), (pr, .inl (cI, 72, .inl ((upd (upd (upd (upd pa pt 0) (pt + 1) (zI (dV tx ln (at9 + 1)))) (pt + 2) (zI (dV tx ln ((dE tx ln (at9 + 1)) + 1)))) (pt + 3) (zI (dV tx ln ((dE tx ln ((dE tx ln (at9 + 1)) + 1)) + 1)))))))]) (wr := []) (va_runV (As := [.int (nI (pt + 4)), .int 0]) (rest := []) ⟨hx, hb, hml, hown, hts⟩ (c_X1_readNumber_0 l D cI cC cS tt H.size q0 sg pr ln ((dE tx ln ((dE tx ln ((dE tx ln (at9 + 1)) + 1)) + 1)) + 1) (pt + 4) to9 tx (upd (upd (upd (upd pa pt 0) (pt + 1) (zI (dV tx ln (at9 + 1)))) (pt + 2) (zI (dV tx ln ((dE tx ln (at9 + 1)) + 1)))) (pt + 3) (zI (dV tx ln ((dE tx ln ((dE tx ln (at9 + 1)) + 1)) + 1)))) (by first | assumption | omega | decide) (by first | assumption | omega | decide) (by first | assumption | omega | decide)) (cwV 2 hts gX1_readOrder_X1_readNumber rfl rfl rfl (by decide +kernel) ⟨Nat.le_of_ble_eq_true rfl, Nat.le_of_ble_eq_true rfl⟩) ⟨x_blindW, va_recv hK hP (ci := 1) (q0 := 0) rfl rfl, x_preW hP hD hK hE hS hA [0, 1, 2] rfl (by decide)⟩ rfl rfl hl.1 rfl (lv_room (Nat.le_of_ble_eq_true rfl)) dX1_readOrder_80 ⟨(Nat.le_of_ble_eq_true rfl), (Nat.le_of_ble_eq_true rfl)⟩) hP hD hS hA [0, 1, 2] [] rfl rfl (by decide) (by decide) (fun r_9 w1 H locs hw hP hD hS => ?_)
                rcases hw with ⟨rfl, rfl, hf80_0, hf80_1⟩ | ⟨rfl, rfl, hf80_0⟩
                · skip
                  have hP : va_P D vwCl [(q0, .inr (1, [.ref sg, .int (nI ln), .int (nI (dE tx ln ((dE tx ln ((dE tx ln ((dE tx ln (at9 + 1)) + 1)) + 1)) + 1))), .ref pr, .int to9])), (sg, .inl (cC, 60, .inl (tx))), (pr, .inl (cI, 72, .inl (upd (upd (upd (upd (upd pa pt 0) (pt + 1) (zI (dV tx ln (at9 + 1)))) (pt + 2) (zI (dV tx ln ((dE tx ln (at9 + 1)) + 1)))) (pt + 3) (zI (dV tx ln ((dE tx ln ((dE tx ln (at9 + 1)) + 1)) + 1)))) (pt + 4) (zI (dV tx ln ((dE tx ln ((dE tx ln ((dE tx ln (at9 + 1)) + 1)) + 1)) + 1))))))] H := hP
                  have hD : va_D (Ar) [(q0, .inr (1, [.ref sg, .int (nI ln), .int (nI (dE tx ln ((dE tx ln ((dE tx ln ((dE tx ln (at9 + 1)) + 1)) + 1)) + 1))), .ref pr, .int to9])), (sg, .inl (cC, 60, .inl (tx))), (pr, .inl (cI, 72, .inl (upd (upd (upd (upd (upd pa pt 0) (pt + 1) (zI (dV tx ln (at9 + 1)))) (pt + 2) (zI (dV tx ln ((dE tx ln (at9 + 1)) + 1)))) (pt + 3) (zI (dV tx ln ((dE tx ln ((dE tx ln (at9 + 1)) + 1)) + 1)))) (pt + 4) (zI (dV tx ln ((dE tx ln ((dE tx ln ((dE tx ln (at9 + 1)) + 1)) + 1)) + 1))))))] := hD
                  refine lv_if_eq (tgt := 110) hx hb dX1_readOrder_83 (by decide) (fun h => False.elim (by revert h; decide)) (fun _ => ?_)
                  refine lv_aload_n hx hb dX1_readOrder_86 rfl (lv_at hl 0 rfl) ?_
                  refine lv_bipush (v := 61) hx hb dX1_readOrder_87 (by decide) ?_
                  refine x_callWi (wc := [(q0, .inr (1, [.ref sg, .int (nI ln), .int (nI ((dE tx ln ((dE tx ln ((dE tx ln ((dE tx ln (at9 + 1)) + 1)) + 1)) + 1)))), .ref pr, .int to9])), (sg, .inl (cC, 60, .inl (tx))), (pr, .inl (cI, 72, .inl ((upd (upd (upd (upd (upd pa pt 0) (pt + 1) (zI (dV tx ln (at9 + 1)))) (pt + 2) (zI (dV tx ln ((dE tx ln (at9 + 1)) + 1)))) (pt + 3) (zI (dV tx ln ((dE tx ln ((dE tx ln (at9 + 1)) + 1)) + 1)))) (pt + 4) (zI (dV tx ln ((dE tx ln ((dE tx ln ((dE tx ln (at9 + 1)) + 1)) + 1)) + 1)))))))]) (wr := []) (va_runV (As := [.int 61]) (rest := []) ⟨hx, hb, hml, hown, hts⟩ (c_X1_takes l D cI cC cS tt H.size q0 sg pr ln (dE tx ln ((dE tx ln ((dE tx ln ((dE tx ln (at9 + 1)) + 1)) + 1)) + 1)) to9 tx (upd (upd (upd (upd (upd pa pt 0) (pt + 1) (zI (dV tx ln (at9 + 1)))) (pt + 2) (zI (dV tx ln ((dE tx ln (at9 + 1)) + 1)))) (pt + 3) (zI (dV tx ln ((dE tx ln ((dE tx ln (at9 + 1)) + 1)) + 1)))) (pt + 4) (zI (dV tx ln ((dE tx ln ((dE tx ln ((dE tx ln (at9 + 1)) + 1)) + 1)) + 1)))) 61 61 (show (61 : Int32).toInt = 61 from by decide) (by first | assumption | omega | decide) (by first | assumption | omega | decide) (by first | assumption | omega | decide)) (cwV 1 hts gX1_readOrder_X1_takes rfl rfl rfl (by decide +kernel) ⟨Nat.le_of_ble_eq_true rfl, Nat.le_of_ble_eq_true rfl⟩) ⟨x_blindW, va_recv hK hP (ci := 1) (q0 := 0) rfl rfl, x_preW hP hD hK hE hS hA [0, 1, 2] rfl (by decide)⟩ rfl rfl hl.1 rfl (lv_room (Nat.le_of_ble_eq_true rfl)) dX1_readOrder_89 ⟨(Nat.le_of_ble_eq_true rfl), (Nat.le_of_ble_eq_true rfl)⟩) hP hD hS hA [0, 1, 2] [] rfl rfl (by decide) (by decide) (fun r_10 w1 H locs hw hP hD hS => ?_)
                  rcases hw with ⟨rfl, rfl, hf89_0⟩ | ⟨rfl, rfl, hf89_0⟩
                  · skip
                    have hP : va_P D vwCl [(q0, .inr (1, [.ref sg, .int (nI ln), .int (nI ((dE tx ln ((dE tx ln ((dE tx ln ((dE tx ln (at9 + 1)) + 1)) + 1)) + 1)) + 1)), .ref pr, .int to9])), (sg, .inl (cC, 60, .inl (tx))), (pr, .inl (cI, 72, .inl ((upd (upd (upd (upd (upd pa pt 0) (pt + 1) (zI (dV tx ln (at9 + 1)))) (pt + 2) (zI (dV tx ln ((dE tx ln (at9 + 1)) + 1)))) (pt + 3) (zI (dV tx ln ((dE tx ln ((dE tx ln (at9 + 1)) + 1)) + 1)))) (pt + 4) (zI (dV tx ln ((dE tx ln ((dE tx ln ((dE tx ln (at9 + 1)) + 1)) + 1)) + 1)))))))] H := hP
                    have hD : va_D (Ar) [(q0, .inr (1, [.ref sg, .int (nI ln), .int (nI ((dE tx ln ((dE tx ln ((dE tx ln ((dE tx ln (at9 + 1)) + 1)) + 1)) + 1)) + 1)), .ref pr, .int to9])), (sg, .inl (cC, 60, .inl (tx))), (pr, .inl (cI, 72, .inl ((upd (upd (upd (upd (upd pa pt 0) (pt + 1) (zI (dV tx ln (at9 + 1)))) (pt + 2) (zI (dV tx ln ((dE tx ln (at9 + 1)) + 1)))) (pt + 3) (zI (dV tx ln ((dE tx ln ((dE tx ln (at9 + 1)) + 1)) + 1)))) (pt + 4) (zI (dV tx ln ((dE tx ln ((dE tx ln ((dE tx ln (at9 + 1)) + 1)) + 1)) + 1)))))))] := hD
                    refine lv_if_eq (tgt := 110) hx hb dX1_readOrder_92 (by decide) (fun h => False.elim (by revert h; decide)) (fun _ => ?_)
                    refine lv_aload_n hx hb dX1_readOrder_95 rfl (lv_at hl 0 rfl) ?_
                    refine lv_iload_n hx hb dX1_readOrder_96 rfl (lv_at hl 1 rfl) ?_
                    refine lv_iconst (v := 5) hx hb dX1_readOrder_97 (by decide) ?_
                    refine lv_iadd hx hb dX1_readOrder_98 ?_
                    refine x_eqi (show nI pt + 5 = nI (pt + 5) from nI_add pt 5) ?_
                    refine lv_iconst (v := 0) hx hb dX1_readOrder_99 (by decide) ?_
                    refine x_callWi (wc := [(q0, .inr (1, [.ref sg, .int (nI ln), .int (nI (((dE tx ln ((dE tx ln ((dE tx ln ((dE tx ln (at9 + 1)) + 1)) + 1)) + 1)) + 1))), .ref pr, .int to9])), (sg, .inl (cC, 60, .inl (tx))), (pr, .inl (cI, 72, .inl ((upd (upd (upd (upd (upd pa pt 0) (pt + 1) (zI (dV tx ln (at9 + 1)))) (pt + 2) (zI (dV tx ln ((dE tx ln (at9 + 1)) + 1)))) (pt + 3) (zI (dV tx ln ((dE tx ln ((dE tx ln (at9 + 1)) + 1)) + 1)))) (pt + 4) (zI (dV tx ln ((dE tx ln ((dE tx ln ((dE tx ln (at9 + 1)) + 1)) + 1)) + 1)))))))]) (wr := []) (va_runV (As := [.int (nI (pt + 5)), .int 0]) (rest := []) ⟨hx, hb, hml, hown, hts⟩ (c_X1_readNumber_0 l D cI cC cS tt H.size q0 sg pr ln ((dE tx ln ((dE tx ln ((dE tx ln ((dE tx ln (at9 + 1)) + 1)) + 1)) + 1)) + 1) (pt + 5) to9 tx (upd (upd (upd (upd (upd pa pt 0) (pt + 1) (zI (dV tx ln (at9 + 1)))) (pt + 2) (zI (dV tx ln ((dE tx ln (at9 + 1)) + 1)))) (pt + 3) (zI (dV tx ln ((dE tx ln ((dE tx ln (at9 + 1)) + 1)) + 1)))) (pt + 4) (zI (dV tx ln ((dE tx ln ((dE tx ln ((dE tx ln (at9 + 1)) + 1)) + 1)) + 1)))) (by first | assumption | omega | decide) (by first | assumption | omega | decide) (by first | assumption | omega | decide)) (cwV 2 hts gX1_readOrder_X1_readNumber rfl rfl rfl (by decide +kernel) ⟨Nat.le_of_ble_eq_true rfl, Nat.le_of_ble_eq_true rfl⟩) ⟨x_blindW, va_recv hK hP (ci := 1) (q0 := 0) rfl rfl, x_preW hP hD hK hE hS hA [0, 1, 2] rfl (by decide)⟩ rfl rfl hl.1 rfl (lv_room (Nat.le_of_ble_eq_true rfl)) dX1_readOrder_100 ⟨(Nat.le_of_ble_eq_true rfl), (Nat.le_of_ble_eq_true rfl)⟩) hP hD hS hA [0, 1, 2] [] rfl rfl (by decide) (by decide) (fun r_11 w1 H locs hw hP hD hS => ?_)
                    rcases hw with ⟨rfl, rfl, hf100_0, hf100_1⟩ | ⟨rfl, rfl, hf100_0⟩
                    · skip
                      have hP : va_P D vwCl [(q0, .inr (1, [.ref sg, .int (nI ln), .int (nI (dE tx ln ((dE tx ln ((dE tx ln ((dE tx ln ((dE tx ln (at9 + 1)) + 1)) + 1)) + 1)) + 1))), .ref pr, .int to9])), (sg, .inl (cC, 60, .inl (tx))), (pr, .inl (cI, 72, .inl (upd (upd (upd (upd (upd (upd pa pt 0) (pt + 1) (zI (dV tx ln (at9 + 1)))) (pt + 2) (zI (dV tx ln ((dE tx ln (at9 + 1)) + 1)))) (pt + 3) (zI (dV tx ln ((dE tx ln ((dE tx ln (at9 + 1)) + 1)) + 1)))) (pt + 4) (zI (dV tx ln ((dE tx ln ((dE tx ln ((dE tx ln (at9 + 1)) + 1)) + 1)) + 1)))) (pt + 5) (zI (dV tx ln ((dE tx ln ((dE tx ln ((dE tx ln ((dE tx ln (at9 + 1)) + 1)) + 1)) + 1)) + 1))))))] H := hP
                      have hD : va_D (Ar) [(q0, .inr (1, [.ref sg, .int (nI ln), .int (nI (dE tx ln ((dE tx ln ((dE tx ln ((dE tx ln ((dE tx ln (at9 + 1)) + 1)) + 1)) + 1)) + 1))), .ref pr, .int to9])), (sg, .inl (cC, 60, .inl (tx))), (pr, .inl (cI, 72, .inl (upd (upd (upd (upd (upd (upd pa pt 0) (pt + 1) (zI (dV tx ln (at9 + 1)))) (pt + 2) (zI (dV tx ln ((dE tx ln (at9 + 1)) + 1)))) (pt + 3) (zI (dV tx ln ((dE tx ln ((dE tx ln (at9 + 1)) + 1)) + 1)))) (pt + 4) (zI (dV tx ln ((dE tx ln ((dE tx ln ((dE tx ln (at9 + 1)) + 1)) + 1)) + 1)))) (pt + 5) (zI (dV tx ln ((dE tx ln ((dE tx ln ((dE tx ln ((dE tx ln (at9 + 1)) + 1)) + 1)) + 1)) + 1))))))] := hD
                      refine lv_if_eq (tgt := 110) hx hb dX1_readOrder_103 (by decide) (fun h => False.elim (by revert h; decide)) (fun _ => ?_)
                      refine lv_iconst (v := 1) hx hb dX1_readOrder_106 (by decide) ?_
                      refine lv_goto (tgt := 111) hx hb dX1_readOrder_107 (by decide) ?_
                      refine x_zretW (w := [(q0, .inr (1, [.ref sg, .int (nI ln), .int (nI (dE tx ln ((dE tx ln ((dE tx ln ((dE tx ln ((dE tx ln (at9 + 1)) + 1)) + 1)) + 1)) + 1))), .ref pr, .int to9])), (sg, .inl (cC, 60, .inl (tx))), (pr, .inl (cI, 72, .inl (upd (upd (upd (upd (upd (upd pa pt 0) (pt + 1) (zI (dV tx ln (at9 + 1)))) (pt + 2) (zI (dV tx ln ((dE tx ln (at9 + 1)) + 1)))) (pt + 3) (zI (dV tx ln ((dE tx ln ((dE tx ln (at9 + 1)) + 1)) + 1)))) (pt + 4) (zI (dV tx ln ((dE tx ln ((dE tx ln ((dE tx ln (at9 + 1)) + 1)) + 1)) + 1)))) (pt + 5) (zI (dV tx ln ((dE tx ln ((dE tx ln ((dE tx ln ((dE tx ln (at9 + 1)) + 1)) + 1)) + 1)) + 1))))))]) hQ hAe hx hb hr hlocks (by decide) (hP.sub [0, 1, 2] rfl) (hD.sub [0, 1, 2] (by decide) rfl) hS ?_ dX1_readOrder_111
                      refine Or.inl ?_
                      have hOR : oRes tx ln at9 = (true, dE tx ln ((dE tx ln ((dE tx ln ((dE tx ln ((dE tx ln (at9 + 1)) + 1)) + 1)) + 1)) + 1)) := by unfold oRes; rw [if_pos hf3_0, if_pos hf20_0, if_pos hf29_0, if_pos hf40_0, if_pos hf49_0, if_pos hf60_0, if_pos hf69_0, if_pos hf80_0, if_pos hf89_0, if_pos hf100_0]
                      exact ⟨upd (upd (upd (upd (upd (upd pa pt 0) (pt + 1) (zI (dV tx ln (at9 + 1)))) (pt + 2) (zI (dV tx ln ((dE tx ln (at9 + 1)) + 1)))) (pt + 3) (zI (dV tx ln ((dE tx ln ((dE tx ln (at9 + 1)) + 1)) + 1)))) (pt + 4) (zI (dV tx ln ((dE tx ln ((dE tx ln ((dE tx ln (at9 + 1)) + 1)) + 1)) + 1)))) (pt + 5) (zI (dV tx ln ((dE tx ln ((dE tx ln ((dE tx ln ((dE tx ln (at9 + 1)) + 1)) + 1)) + 1)) + 1))), rfl, by rw [hOR], by rw [hOR], (fun k9 h9 => by unfold oK at h9; rw [if_pos hf3_0] at h9; unfold oV; rw [if_pos hf3_0]; rcases (show k9 = 0 ∨ k9 = 1 ∨ k9 = 2 ∨ k9 = 3 ∨ k9 = 4 ∨ k9 = 5 by omega) with rfl | rfl | rfl | rfl | rfl | rfl <;> simp [upd] <;> rfl), (fun j9 h9 => by simp only [upd]; repeat (rw [if_neg (by omega)]))⟩
                    · skip
                      have hP : va_P D vwCl [(q0, .inr (1, [.ref sg, .int (nI ln), .int (nI (((dE tx ln ((dE tx ln ((dE tx ln ((dE tx ln (at9 + 1)) + 1)) + 1)) + 1)) + 1))), .ref pr, .int to9])), (sg, .inl (cC, 60, .inl (tx))), (pr, .inl (cI, 72, .inl ((upd (upd (upd (upd (upd pa pt 0) (pt + 1) (zI (dV tx ln (at9 + 1)))) (pt + 2) (zI (dV tx ln ((dE tx ln (at9 + 1)) + 1)))) (pt + 3) (zI (dV tx ln ((dE tx ln ((dE tx ln (at9 + 1)) + 1)) + 1)))) (pt + 4) (zI (dV tx ln ((dE tx ln ((dE tx ln ((dE tx ln (at9 + 1)) + 1)) + 1)) + 1)))))))] H := hP
                      have hD : va_D (Ar) [(q0, .inr (1, [.ref sg, .int (nI ln), .int (nI (((dE tx ln ((dE tx ln ((dE tx ln ((dE tx ln (at9 + 1)) + 1)) + 1)) + 1)) + 1))), .ref pr, .int to9])), (sg, .inl (cC, 60, .inl (tx))), (pr, .inl (cI, 72, .inl ((upd (upd (upd (upd (upd pa pt 0) (pt + 1) (zI (dV tx ln (at9 + 1)))) (pt + 2) (zI (dV tx ln ((dE tx ln (at9 + 1)) + 1)))) (pt + 3) (zI (dV tx ln ((dE tx ln ((dE tx ln (at9 + 1)) + 1)) + 1)))) (pt + 4) (zI (dV tx ln ((dE tx ln ((dE tx ln ((dE tx ln (at9 + 1)) + 1)) + 1)) + 1)))))))] := hD
                      refine lv_if_eq (tgt := 110) hx hb dX1_readOrder_103 (by decide) (fun _ => ?_) (fun h => False.elim (by revert h; decide))
                      refine lv_iconst (v := 0) hx hb dX1_readOrder_110 (by decide) ?_
                      refine x_zretW (w := [(q0, .inr (1, [.ref sg, .int (nI ln), .int (nI (((dE tx ln ((dE tx ln ((dE tx ln ((dE tx ln (at9 + 1)) + 1)) + 1)) + 1)) + 1))), .ref pr, .int to9])), (sg, .inl (cC, 60, .inl (tx))), (pr, .inl (cI, 72, .inl ((upd (upd (upd (upd (upd pa pt 0) (pt + 1) (zI (dV tx ln (at9 + 1)))) (pt + 2) (zI (dV tx ln ((dE tx ln (at9 + 1)) + 1)))) (pt + 3) (zI (dV tx ln ((dE tx ln ((dE tx ln (at9 + 1)) + 1)) + 1)))) (pt + 4) (zI (dV tx ln ((dE tx ln ((dE tx ln ((dE tx ln (at9 + 1)) + 1)) + 1)) + 1)))))))]) hQ hAe hx hb hr hlocks (by decide) (hP.sub [0, 1, 2] rfl) (hD.sub [0, 1, 2] (by decide) rfl) hS ?_ dX1_readOrder_111
                      refine Or.inr (?_)
                      have hOR : oRes tx ln at9 = (false, ((dE tx ln ((dE tx ln ((dE tx ln ((dE tx ln (at9 + 1)) + 1)) + 1)) + 1)) + 1)) := by unfold oRes; rw [if_pos hf3_0, if_pos hf20_0, if_pos hf29_0, if_pos hf40_0, if_pos hf49_0, if_pos hf60_0, if_pos hf69_0, if_pos hf80_0, if_pos hf89_0, if_neg hf100_0]
                      exact ⟨(upd (upd (upd (upd (upd pa pt 0) (pt + 1) (zI (dV tx ln (at9 + 1)))) (pt + 2) (zI (dV tx ln ((dE tx ln (at9 + 1)) + 1)))) (pt + 3) (zI (dV tx ln ((dE tx ln ((dE tx ln (at9 + 1)) + 1)) + 1)))) (pt + 4) (zI (dV tx ln ((dE tx ln ((dE tx ln ((dE tx ln (at9 + 1)) + 1)) + 1)) + 1)))), rfl, by rw [hOR], by rw [hOR], (fun j9 h9 => by simp only [upd]; repeat (rw [if_neg (by omega)]))⟩
                  · skip
                    have hP : va_P D vwCl [(q0, .inr (1, [.ref sg, .int (nI ln), .int (nI ((dE tx ln ((dE tx ln ((dE tx ln ((dE tx ln (at9 + 1)) + 1)) + 1)) + 1)))), .ref pr, .int to9])), (sg, .inl (cC, 60, .inl (tx))), (pr, .inl (cI, 72, .inl ((upd (upd (upd (upd (upd pa pt 0) (pt + 1) (zI (dV tx ln (at9 + 1)))) (pt + 2) (zI (dV tx ln ((dE tx ln (at9 + 1)) + 1)))) (pt + 3) (zI (dV tx ln ((dE tx ln ((dE tx ln (at9 + 1)) + 1)) + 1)))) (pt + 4) (zI (dV tx ln ((dE tx ln ((dE tx ln ((dE tx ln (at9 + 1)) + 1)) + 1)) + 1)))))))] H := hP
                    have hD : va_D (Ar) [(q0, .inr (1, [.ref sg, .int (nI ln), .int (nI ((dE tx ln ((dE tx ln ((dE tx ln ((dE tx ln (at9 + 1)) + 1)) + 1)) + 1)))), .ref pr, .int to9])), (sg, .inl (cC, 60, .inl (tx))), (pr, .inl (cI, 72, .inl ((upd (upd (upd (upd (upd pa pt 0) (pt + 1) (zI (dV tx ln (at9 + 1)))) (pt + 2) (zI (dV tx ln ((dE tx ln (at9 + 1)) + 1)))) (pt + 3) (zI (dV tx ln ((dE tx ln ((dE tx ln (at9 + 1)) + 1)) + 1)))) (pt + 4) (zI (dV tx ln ((dE tx ln ((dE tx ln ((dE tx ln (at9 + 1)) + 1)) + 1)) + 1)))))))] := hD
                    refine lv_if_eq (tgt := 110) hx hb dX1_readOrder_92 (by decide) (fun _ => ?_) (fun h => False.elim (by revert h; decide))
                    refine lv_iconst (v := 0) hx hb dX1_readOrder_110 (by decide) ?_
                    refine x_zretW (w := [(q0, .inr (1, [.ref sg, .int (nI ln), .int (nI ((dE tx ln ((dE tx ln ((dE tx ln ((dE tx ln (at9 + 1)) + 1)) + 1)) + 1)))), .ref pr, .int to9])), (sg, .inl (cC, 60, .inl (tx))), (pr, .inl (cI, 72, .inl ((upd (upd (upd (upd (upd pa pt 0) (pt + 1) (zI (dV tx ln (at9 + 1)))) (pt + 2) (zI (dV tx ln ((dE tx ln (at9 + 1)) + 1)))) (pt + 3) (zI (dV tx ln ((dE tx ln ((dE tx ln (at9 + 1)) + 1)) + 1)))) (pt + 4) (zI (dV tx ln ((dE tx ln ((dE tx ln ((dE tx ln (at9 + 1)) + 1)) + 1)) + 1)))))))]) hQ hAe hx hb hr hlocks (by decide) (hP.sub [0, 1, 2] rfl) (hD.sub [0, 1, 2] (by decide) rfl) hS ?_ dX1_readOrder_111
                    refine Or.inr (?_)
                    have hOR : oRes tx ln at9 = (false, (dE tx ln ((dE tx ln ((dE tx ln ((dE tx ln (at9 + 1)) + 1)) + 1)) + 1))) := by unfold oRes; rw [if_pos hf3_0, if_pos hf20_0, if_pos hf29_0, if_pos hf40_0, if_pos hf49_0, if_pos hf60_0, if_pos hf69_0, if_pos hf80_0, if_neg hf89_0]
                    exact ⟨(upd (upd (upd (upd (upd pa pt 0) (pt + 1) (zI (dV tx ln (at9 + 1)))) (pt + 2) (zI (dV tx ln ((dE tx ln (at9 + 1)) + 1)))) (pt + 3) (zI (dV tx ln ((dE tx ln ((dE tx ln (at9 + 1)) + 1)) + 1)))) (pt + 4) (zI (dV tx ln ((dE tx ln ((dE tx ln ((dE tx ln (at9 + 1)) + 1)) + 1)) + 1)))), rfl, by rw [hOR], by rw [hOR], (fun j9 h9 => by simp only [upd]; repeat (rw [if_neg (by omega)]))⟩
                · skip
                  have hP : va_P D vwCl [(q0, .inr (1, [.ref sg, .int (nI ln), .int (nI (((dE tx ln ((dE tx ln ((dE tx ln (at9 + 1)) + 1)) + 1)) + 1))), .ref pr, .int to9])), (sg, .inl (cC, 60, .inl (tx))), (pr, .inl (cI, 72, .inl ((upd (upd (upd (upd pa pt 0) (pt + 1) (zI (dV tx ln (at9 + 1)))) (pt + 2) (zI (dV tx ln ((dE tx ln (at9 + 1)) + 1)))) (pt + 3) (zI (dV tx ln ((dE tx ln ((dE tx ln (at9 + 1)) + 1)) + 1)))))))] H := hP
                  have hD : va_D (Ar) [(q0, .inr (1, [.ref sg, .int (nI ln), .int (nI (((dE tx ln ((dE tx ln ((dE tx ln (at9 + 1)) + 1)) + 1)) + 1))), .ref pr, .int to9])), (sg, .inl (cC, 60, .inl (tx))), (pr, .inl (cI, 72, .inl ((upd (upd (upd (upd pa pt 0) (pt + 1) (zI (dV tx ln (at9 + 1)))) (pt + 2) (zI (dV tx ln ((dE tx ln (at9 + 1)) + 1)))) (pt + 3) (zI (dV tx ln ((dE tx ln ((dE tx ln (at9 + 1)) + 1)) + 1)))))))] := hD
                  refine lv_if_eq (tgt := 110) hx hb dX1_readOrder_83 (by decide) (fun _ => ?_) (fun h => False.elim (by revert h; decide))
                  refine lv_iconst (v := 0) hx hb dX1_readOrder_110 (by decide) ?_
                  refine x_zretW (w := [(q0, .inr (1, [.ref sg, .int (nI ln), .int (nI (((dE tx ln ((dE tx ln ((dE tx ln (at9 + 1)) + 1)) + 1)) + 1))), .ref pr, .int to9])), (sg, .inl (cC, 60, .inl (tx))), (pr, .inl (cI, 72, .inl ((upd (upd (upd (upd pa pt 0) (pt + 1) (zI (dV tx ln (at9 + 1)))) (pt + 2) (zI (dV tx ln ((dE tx ln (at9 + 1)) + 1)))) (pt + 3) (zI (dV tx ln ((dE tx ln ((dE tx ln (at9 + 1)) + 1)) + 1)))))))]) hQ hAe hx hb hr hlocks (by decide) (hP.sub [0, 1, 2] rfl) (hD.sub [0, 1, 2] (by decide) rfl) hS ?_ dX1_readOrder_111
                  refine Or.inr (?_)
                  have hOR : oRes tx ln at9 = (false, ((dE tx ln ((dE tx ln ((dE tx ln (at9 + 1)) + 1)) + 1)) + 1)) := by unfold oRes; rw [if_pos hf3_0, if_pos hf20_0, if_pos hf29_0, if_pos hf40_0, if_pos hf49_0, if_pos hf60_0, if_pos hf69_0, if_neg hf80_0]
                  exact ⟨(upd (upd (upd (upd pa pt 0) (pt + 1) (zI (dV tx ln (at9 + 1)))) (pt + 2) (zI (dV tx ln ((dE tx ln (at9 + 1)) + 1)))) (pt + 3) (zI (dV tx ln ((dE tx ln ((dE tx ln (at9 + 1)) + 1)) + 1)))), rfl, by rw [hOR], by rw [hOR], (fun j9 h9 => by simp only [upd]; repeat (rw [if_neg (by omega)]))⟩
              · skip
                have hP : va_P D vwCl [(q0, .inr (1, [.ref sg, .int (nI ln), .int (nI ((dE tx ln ((dE tx ln ((dE tx ln (at9 + 1)) + 1)) + 1)))), .ref pr, .int to9])), (sg, .inl (cC, 60, .inl (tx))), (pr, .inl (cI, 72, .inl ((upd (upd (upd (upd pa pt 0) (pt + 1) (zI (dV tx ln (at9 + 1)))) (pt + 2) (zI (dV tx ln ((dE tx ln (at9 + 1)) + 1)))) (pt + 3) (zI (dV tx ln ((dE tx ln ((dE tx ln (at9 + 1)) + 1)) + 1)))))))] H := hP
                have hD : va_D (Ar) [(q0, .inr (1, [.ref sg, .int (nI ln), .int (nI ((dE tx ln ((dE tx ln ((dE tx ln (at9 + 1)) + 1)) + 1)))), .ref pr, .int to9])), (sg, .inl (cC, 60, .inl (tx))), (pr, .inl (cI, 72, .inl ((upd (upd (upd (upd pa pt 0) (pt + 1) (zI (dV tx ln (at9 + 1)))) (pt + 2) (zI (dV tx ln ((dE tx ln (at9 + 1)) + 1)))) (pt + 3) (zI (dV tx ln ((dE tx ln ((dE tx ln (at9 + 1)) + 1)) + 1)))))))] := hD
                refine lv_if_eq (tgt := 110) hx hb dX1_readOrder_72 (by decide) (fun _ => ?_) (fun h => False.elim (by revert h; decide))
                refine lv_iconst (v := 0) hx hb dX1_readOrder_110 (by decide) ?_
                refine x_zretW (w := [(q0, .inr (1, [.ref sg, .int (nI ln), .int (nI ((dE tx ln ((dE tx ln ((dE tx ln (at9 + 1)) + 1)) + 1)))), .ref pr, .int to9])), (sg, .inl (cC, 60, .inl (tx))), (pr, .inl (cI, 72, .inl ((upd (upd (upd (upd pa pt 0) (pt + 1) (zI (dV tx ln (at9 + 1)))) (pt + 2) (zI (dV tx ln ((dE tx ln (at9 + 1)) + 1)))) (pt + 3) (zI (dV tx ln ((dE tx ln ((dE tx ln (at9 + 1)) + 1)) + 1)))))))]) hQ hAe hx hb hr hlocks (by decide) (hP.sub [0, 1, 2] rfl) (hD.sub [0, 1, 2] (by decide) rfl) hS ?_ dX1_readOrder_111
                refine Or.inr (?_)
                have hOR : oRes tx ln at9 = (false, (dE tx ln ((dE tx ln ((dE tx ln (at9 + 1)) + 1)) + 1))) := by unfold oRes; rw [if_pos hf3_0, if_pos hf20_0, if_pos hf29_0, if_pos hf40_0, if_pos hf49_0, if_pos hf60_0, if_neg hf69_0]
                exact ⟨(upd (upd (upd (upd pa pt 0) (pt + 1) (zI (dV tx ln (at9 + 1)))) (pt + 2) (zI (dV tx ln ((dE tx ln (at9 + 1)) + 1)))) (pt + 3) (zI (dV tx ln ((dE tx ln ((dE tx ln (at9 + 1)) + 1)) + 1)))), rfl, by rw [hOR], by rw [hOR], (fun j9 h9 => by simp only [upd]; repeat (rw [if_neg (by omega)]))⟩
            · skip
              have hP : va_P D vwCl [(q0, .inr (1, [.ref sg, .int (nI ln), .int (nI (((dE tx ln ((dE tx ln (at9 + 1)) + 1)) + 1))), .ref pr, .int to9])), (sg, .inl (cC, 60, .inl (tx))), (pr, .inl (cI, 72, .inl ((upd (upd (upd pa pt 0) (pt + 1) (zI (dV tx ln (at9 + 1)))) (pt + 2) (zI (dV tx ln ((dE tx ln (at9 + 1)) + 1)))))))] H := hP
              have hD : va_D (Ar) [(q0, .inr (1, [.ref sg, .int (nI ln), .int (nI (((dE tx ln ((dE tx ln (at9 + 1)) + 1)) + 1))), .ref pr, .int to9])), (sg, .inl (cC, 60, .inl (tx))), (pr, .inl (cI, 72, .inl ((upd (upd (upd pa pt 0) (pt + 1) (zI (dV tx ln (at9 + 1)))) (pt + 2) (zI (dV tx ln ((dE tx ln (at9 + 1)) + 1)))))))] := hD
              refine lv_if_eq (tgt := 110) hx hb dX1_readOrder_63 (by decide) (fun _ => ?_) (fun h => False.elim (by revert h; decide))
              refine lv_iconst (v := 0) hx hb dX1_readOrder_110 (by decide) ?_
              refine x_zretW (w := [(q0, .inr (1, [.ref sg, .int (nI ln), .int (nI (((dE tx ln ((dE tx ln (at9 + 1)) + 1)) + 1))), .ref pr, .int to9])), (sg, .inl (cC, 60, .inl (tx))), (pr, .inl (cI, 72, .inl ((upd (upd (upd pa pt 0) (pt + 1) (zI (dV tx ln (at9 + 1)))) (pt + 2) (zI (dV tx ln ((dE tx ln (at9 + 1)) + 1)))))))]) hQ hAe hx hb hr hlocks (by decide) (hP.sub [0, 1, 2] rfl) (hD.sub [0, 1, 2] (by decide) rfl) hS ?_ dX1_readOrder_111
              refine Or.inr (?_)
              have hOR : oRes tx ln at9 = (false, ((dE tx ln ((dE tx ln (at9 + 1)) + 1)) + 1)) := by unfold oRes; rw [if_pos hf3_0, if_pos hf20_0, if_pos hf29_0, if_pos hf40_0, if_pos hf49_0, if_neg hf60_0]
              exact ⟨(upd (upd (upd pa pt 0) (pt + 1) (zI (dV tx ln (at9 + 1)))) (pt + 2) (zI (dV tx ln ((dE tx ln (at9 + 1)) + 1)))), rfl, by rw [hOR], by rw [hOR], (fun j9 h9 => by simp only [upd]; repeat (rw [if_neg (by omega)]))⟩
          · skip
            have hP : va_P D vwCl [(q0, .inr (1, [.ref sg, .int (nI ln), .int (nI ((dE tx ln ((dE tx ln (at9 + 1)) + 1)))), .ref pr, .int to9])), (sg, .inl (cC, 60, .inl (tx))), (pr, .inl (cI, 72, .inl ((upd (upd (upd pa pt 0) (pt + 1) (zI (dV tx ln (at9 + 1)))) (pt + 2) (zI (dV tx ln ((dE tx ln (at9 + 1)) + 1)))))))] H := hP
            have hD : va_D (Ar) [(q0, .inr (1, [.ref sg, .int (nI ln), .int (nI ((dE tx ln ((dE tx ln (at9 + 1)) + 1)))), .ref pr, .int to9])), (sg, .inl (cC, 60, .inl (tx))), (pr, .inl (cI, 72, .inl ((upd (upd (upd pa pt 0) (pt + 1) (zI (dV tx ln (at9 + 1)))) (pt + 2) (zI (dV tx ln ((dE tx ln (at9 + 1)) + 1)))))))] := hD
            refine lv_if_eq (tgt := 110) hx hb dX1_readOrder_52 (by decide) (fun _ => ?_) (fun h => False.elim (by revert h; decide))
            refine lv_iconst (v := 0) hx hb dX1_readOrder_110 (by decide) ?_
            refine x_zretW (w := [(q0, .inr (1, [.ref sg, .int (nI ln), .int (nI ((dE tx ln ((dE tx ln (at9 + 1)) + 1)))), .ref pr, .int to9])), (sg, .inl (cC, 60, .inl (tx))), (pr, .inl (cI, 72, .inl ((upd (upd (upd pa pt 0) (pt + 1) (zI (dV tx ln (at9 + 1)))) (pt + 2) (zI (dV tx ln ((dE tx ln (at9 + 1)) + 1)))))))]) hQ hAe hx hb hr hlocks (by decide) (hP.sub [0, 1, 2] rfl) (hD.sub [0, 1, 2] (by decide) rfl) hS ?_ dX1_readOrder_111
            refine Or.inr (?_)
            have hOR : oRes tx ln at9 = (false, (dE tx ln ((dE tx ln (at9 + 1)) + 1))) := by unfold oRes; rw [if_pos hf3_0, if_pos hf20_0, if_pos hf29_0, if_pos hf40_0, if_neg hf49_0]
            exact ⟨(upd (upd (upd pa pt 0) (pt + 1) (zI (dV tx ln (at9 + 1)))) (pt + 2) (zI (dV tx ln ((dE tx ln (at9 + 1)) + 1)))), rfl, by rw [hOR], by rw [hOR], (fun j9 h9 => by simp only [upd]; repeat (rw [if_neg (by omega)]))⟩
        · skip
          have hP : va_P D vwCl [(q0, .inr (1, [.ref sg, .int (nI ln), .int (nI (((dE tx ln (at9 + 1)) + 1))), .ref pr, .int to9])), (sg, .inl (cC, 60, .inl (tx))), (pr, .inl (cI, 72, .inl ((upd (upd pa pt 0) (pt + 1) (zI (dV tx ln (at9 + 1)))))))] H := hP
          have hD : va_D (Ar) [(q0, .inr (1, [.ref sg, .int (nI ln), .int (nI (((dE tx ln (at9 + 1)) + 1))), .ref pr, .int to9])), (sg, .inl (cC, 60, .inl (tx))), (pr, .inl (cI, 72, .inl ((upd (upd pa pt 0) (pt + 1) (zI (dV tx ln (at9 + 1)))))))] := hD
          refine lv_if_eq (tgt := 110) hx hb dX1_readOrder_43 (by decide) (fun _ => ?_) (fun h => False.elim (by revert h; decide))
          refine lv_iconst (v := 0) hx hb dX1_readOrder_110 (by decide) ?_
          refine x_zretW (w := [(q0, .inr (1, [.ref sg, .int (nI ln), .int (nI (((dE tx ln (at9 + 1)) + 1))), .ref pr, .int to9])), (sg, .inl (cC, 60, .inl (tx))), (pr, .inl (cI, 72, .inl ((upd (upd pa pt 0) (pt + 1) (zI (dV tx ln (at9 + 1)))))))]) hQ hAe hx hb hr hlocks (by decide) (hP.sub [0, 1, 2] rfl) (hD.sub [0, 1, 2] (by decide) rfl) hS ?_ dX1_readOrder_111
          refine Or.inr (?_)
          have hOR : oRes tx ln at9 = (false, ((dE tx ln (at9 + 1)) + 1)) := by unfold oRes; rw [if_pos hf3_0, if_pos hf20_0, if_pos hf29_0, if_neg hf40_0]
          exact ⟨(upd (upd pa pt 0) (pt + 1) (zI (dV tx ln (at9 + 1)))), rfl, by rw [hOR], by rw [hOR], (fun j9 h9 => by simp only [upd]; repeat (rw [if_neg (by omega)]))⟩
      · skip
        have hP : va_P D vwCl [(q0, .inr (1, [.ref sg, .int (nI ln), .int (nI ((dE tx ln (at9 + 1)))), .ref pr, .int to9])), (sg, .inl (cC, 60, .inl (tx))), (pr, .inl (cI, 72, .inl ((upd (upd pa pt 0) (pt + 1) (zI (dV tx ln (at9 + 1)))))))] H := hP
        have hD : va_D (Ar) [(q0, .inr (1, [.ref sg, .int (nI ln), .int (nI ((dE tx ln (at9 + 1)))), .ref pr, .int to9])), (sg, .inl (cC, 60, .inl (tx))), (pr, .inl (cI, 72, .inl ((upd (upd pa pt 0) (pt + 1) (zI (dV tx ln (at9 + 1)))))))] := hD
        refine lv_if_eq (tgt := 110) hx hb dX1_readOrder_32 (by decide) (fun _ => ?_) (fun h => False.elim (by revert h; decide))
        refine lv_iconst (v := 0) hx hb dX1_readOrder_110 (by decide) ?_
        refine x_zretW (w := [(q0, .inr (1, [.ref sg, .int (nI ln), .int (nI ((dE tx ln (at9 + 1)))), .ref pr, .int to9])), (sg, .inl (cC, 60, .inl (tx))), (pr, .inl (cI, 72, .inl ((upd (upd pa pt 0) (pt + 1) (zI (dV tx ln (at9 + 1)))))))]) hQ hAe hx hb hr hlocks (by decide) (hP.sub [0, 1, 2] rfl) (hD.sub [0, 1, 2] (by decide) rfl) hS ?_ dX1_readOrder_111
        refine Or.inr (?_)
        have hOR : oRes tx ln at9 = (false, (dE tx ln (at9 + 1))) := by unfold oRes; rw [if_pos hf3_0, if_pos hf20_0, if_neg hf29_0]
        exact ⟨(upd (upd pa pt 0) (pt + 1) (zI (dV tx ln (at9 + 1)))), rfl, by rw [hOR], by rw [hOR], (fun j9 h9 => by simp only [upd]; repeat (rw [if_neg (by omega)]))⟩
    · skip
      have hP : va_P D vwCl [(q0, .inr (1, [.ref sg, .int (nI ln), .int (nI ((at9 + 1))), .ref pr, .int to9])), (sg, .inl (cC, 60, .inl (tx))), (pr, .inl (cI, 72, .inl ((upd pa pt 0))))] H := hP
      have hD : va_D (Ar) [(q0, .inr (1, [.ref sg, .int (nI ln), .int (nI ((at9 + 1))), .ref pr, .int to9])), (sg, .inl (cC, 60, .inl (tx))), (pr, .inl (cI, 72, .inl ((upd pa pt 0))))] := hD
      refine lv_if_eq (tgt := 110) hx hb dX1_readOrder_23 (by decide) (fun _ => ?_) (fun h => False.elim (by revert h; decide))
      refine lv_iconst (v := 0) hx hb dX1_readOrder_110 (by decide) ?_
      refine x_zretW (w := [(q0, .inr (1, [.ref sg, .int (nI ln), .int (nI ((at9 + 1))), .ref pr, .int to9])), (sg, .inl (cC, 60, .inl (tx))), (pr, .inl (cI, 72, .inl ((upd pa pt 0))))]) hQ hAe hx hb hr hlocks (by decide) (hP.sub [0, 1, 2] rfl) (hD.sub [0, 1, 2] (by decide) rfl) hS ?_ dX1_readOrder_111
      refine Or.inr (?_)
      have hOR : oRes tx ln at9 = (false, (at9 + 1)) := by unfold oRes; rw [if_pos hf3_0, if_neg hf20_0]
      exact ⟨(upd pa pt 0), rfl, by rw [hOR], by rw [hOR], (fun j9 h9 => by simp only [upd]; repeat (rw [if_neg (by omega)]))⟩
  · skip
    have hP : va_P D vwCl [(q0, .inr (1, [.ref sg, .int (nI ln), .int (nI at9), .ref pr, .int to9])), (sg, .inl (cC, 60, .inl (tx))), (pr, .inl (cI, 72, .inl (pa)))] H := hP
    have hD : va_D (Ar) [(q0, .inr (1, [.ref sg, .int (nI ln), .int (nI at9), .ref pr, .int to9])), (sg, .inl (cC, 60, .inl (tx))), (pr, .inl (cI, 72, .inl (pa)))] := hD
    refine lv_if_eq (tgt := 112) hx hb dX1_readOrder_6 (by decide) (fun _ => ?_) (fun h => False.elim (by revert h; decide))
    refine lv_aload_n hx hb dX1_readOrder_112 rfl (lv_at hl 0 rfl) ?_
    refine lv_bipush (v := 115) hx hb dX1_readOrder_113 (by decide) ?_
    refine x_callWi (wc := [(q0, .inr (1, [.ref sg, .int (nI ln), .int (nI at9), .ref pr, .int to9])), (sg, .inl (cC, 60, .inl (tx))), (pr, .inl (cI, 72, .inl (pa)))]) (wr := []) (va_runV (As := [.int 115]) (rest := []) ⟨hx, hb, hml, hown, hts⟩ (c_X1_takes l D cI cC cS tt H.size q0 sg pr ln at9 to9 tx pa 115 115 (show (115 : Int32).toInt = 115 from by decide) (by first | assumption | omega | decide) (by first | assumption | omega | decide) (by first | assumption | omega | decide)) (cwV 1 hts gX1_readOrder_X1_takes rfl rfl rfl (by decide +kernel) ⟨Nat.le_of_ble_eq_true rfl, Nat.le_of_ble_eq_true rfl⟩) ⟨x_blindW, va_recv hK hP (ci := 1) (q0 := 0) rfl rfl, x_preW hP hD hK hE hS hA [0, 1, 2] rfl (by decide)⟩ rfl rfl hl.1 rfl (lv_room (Nat.le_of_ble_eq_true rfl)) dX1_readOrder_115 ⟨(Nat.le_of_ble_eq_true rfl), (Nat.le_of_ble_eq_true rfl)⟩) hP hD hS hA [0, 1, 2] [] rfl rfl (by decide) (by decide) (fun r_12 w1 H locs hw hP hD hS => ?_)
    rcases hw with ⟨rfl, rfl, hf115_0⟩ | ⟨rfl, rfl, hf115_0⟩
    · skip
      have hP : va_P D vwCl [(q0, .inr (1, [.ref sg, .int (nI ln), .int (nI (at9 + 1)), .ref pr, .int to9])), (sg, .inl (cC, 60, .inl (tx))), (pr, .inl (cI, 72, .inl (pa)))] H := hP
      have hD : va_D (Ar) [(q0, .inr (1, [.ref sg, .int (nI ln), .int (nI (at9 + 1)), .ref pr, .int to9])), (sg, .inl (cC, 60, .inl (tx))), (pr, .inl (cI, 72, .inl (pa)))] := hD
      refine lv_if_eq (tgt := 164) hx hb dX1_readOrder_118 (by decide) (fun h => False.elim (by revert h; decide)) (fun _ => ?_)
      refine lv_aload_n hx hb dX1_readOrder_121 rfl (lv_at hl 0 rfl) ?_
      refine lv_iload_n hx hb dX1_readOrder_122 rfl (lv_at hl 1 rfl) ?_
      refine lv_iconst (v := 1) hx hb dX1_readOrder_123 (by decide) ?_
      refine x_callWv (wc := [(q0, .inr (1, [.ref sg, .int (nI ln), .int (nI (at9 + 1)), .ref pr, .int to9])), (pr, .inl (cI, 72, .inl (pa)))]) (wr := [(sg, .inl (cC, 60, .inl (tx)))]) (va_runV (As := [.int (nI pt), .int 1]) (rest := []) ⟨hx, hb, hml, hown, hts⟩ (c_X1_putPart l D cI cC cS tt H.size q0 sg pr pt (nI ln) (nI (at9 + 1)) to9 1 pa (by first | assumption | omega | decide)) (cwV 2 hts gX1_readOrder_X1_putPart rfl rfl rfl (by decide +kernel) ⟨Nat.le_of_ble_eq_true rfl, Nat.le_of_ble_eq_true rfl⟩) ⟨x_blindW, va_recv hK hP (ci := 1) (q0 := 0) rfl rfl, x_preW hP hD hK hE hS hA [0, 2] rfl (by decide)⟩ rfl rfl hl.1 rfl (lv_room (Nat.le_of_ble_eq_true rfl)) dX1_readOrder_124 ⟨(Nat.le_of_ble_eq_true rfl), (Nat.le_of_ble_eq_true rfl)⟩) hP hD hS hA [0, 2] [1] rfl rfl (by decide) (by decide) (fun w1 H locs hw hP hD hS => ?_)
      obtain rfl := hw
      have hP : va_P D vwCl [(q0, .inr (1, [.ref sg, .int (nI ln), .int (nI (at9 + 1)), .ref pr, .int to9])), (pr, .inl (cI, 72, .inl (upd pa pt 1))), (sg, .inl (cC, 60, .inl (tx)))] H := hP
      have hD : va_D (Ar) [(q0, .inr (1, [.ref sg, .int (nI ln), .int (nI (at9 + 1)), .ref pr, .int to9])), (pr, .inl (cI, 72, .inl (upd pa pt 1))), (sg, .inl (cC, 60, .inl (tx)))] := hD
      refine lv_aload_n hx hb dX1_readOrder_127 rfl (lv_at hl 0 rfl) ?_
      refine lv_iload_n hx hb dX1_readOrder_128 rfl (lv_at hl 1 rfl) ?_
      refine lv_iconst (v := 1) hx hb dX1_readOrder_129 (by decide) ?_
      refine lv_iadd hx hb dX1_readOrder_130 ?_
      refine x_eqi (show nI pt + 1 = nI (pt + 1) from nI_add pt 1) ?_
      refine lv_iconst (v := 1) hx hb dX1_readOrder_131 (by decide) ?_
      refine x_callWi (wc := [(q0, .inr (1, [.ref sg, .int (nI ln), .int (nI ((at9 + 1))), .ref pr, .int to9])), (sg, .inl (cC, 60, .inl (tx))), (pr, .inl (cI, 72, .inl ((upd pa pt 1))))]) (wr := []) (va_runV (As := [.int (nI (pt + 1)), .int 1]) (rest := []) ⟨hx, hb, hml, hown, hts⟩ (c_X1_readNumber_1 l D cI cC cS tt H.size q0 sg pr ln (at9 + 1) (pt + 1) to9 tx (upd pa pt 1) (by first | assumption | omega | decide) (by first | assumption | omega | decide) (by first | assumption | omega | decide)) (cwV 2 hts gX1_readOrder_X1_readNumber rfl rfl rfl (by decide +kernel) ⟨Nat.le_of_ble_eq_true rfl, Nat.le_of_ble_eq_true rfl⟩) ⟨x_blindW, va_recv hK hP (ci := 1) (q0 := 0) rfl rfl, x_preW hP hD hK hE hS hA [0, 2, 1] rfl (by decide)⟩ rfl rfl hl.1 rfl (lv_room (Nat.le_of_ble_eq_true rfl)) dX1_readOrder_132 ⟨(Nat.le_of_ble_eq_true rfl), (Nat.le_of_ble_eq_true rfl)⟩) hP hD hS hA [0, 2, 1] [] rfl rfl (by decide) (by decide) (fun r_14 w1 H locs hw hP hD hS => ?_)
      rcases hw with ⟨rfl, rfl, hf132_0, hf132_1⟩ | ⟨rfl, rfl, hf132_0⟩
      · skip
        have hP : va_P D vwCl [(q0, .inr (1, [.ref sg, .int (nI ln), .int (nI (nE tx ln (at9 + 1))), .ref pr, .int to9])), (sg, .inl (cC, 60, .inl (tx))), (pr, .inl (cI, 72, .inl (upd (upd pa pt 1) (pt + 1) (zI (nV tx ln (at9 + 1))))))] H := hP
        have hD : va_D (Ar) [(q0, .inr (1, [.ref sg, .int (nI ln), .int (nI (nE tx ln (at9 + 1))), .ref pr, .int to9])), (sg, .inl (cC, 60, .inl (tx))), (pr, .inl (cI, 72, .inl (upd (upd pa pt 1) (pt + 1) (zI (nV tx ln (at9 + 1))))))] := hD
        refine lv_if_eq (tgt := 162) hx hb dX1_readOrder_135 (by decide) (fun h => False.elim (by revert h; decide)) (fun _ => ?_)
        refine lv_aload_n hx hb dX1_readOrder_138 rfl (lv_at hl 0 rfl) ?_
        refine lv_bipush (v := 44) hx hb dX1_readOrder_139 (by decide) ?_
        refine x_callWi (wc := [(q0, .inr (1, [.ref sg, .int (nI ln), .int (nI ((nE tx ln (at9 + 1)))), .ref pr, .int to9])), (sg, .inl (cC, 60, .inl (tx))), (pr, .inl (cI, 72, .inl ((upd (upd pa pt 1) (pt + 1) (zI (nV tx ln (at9 + 1)))))))]) (wr := []) (va_runV (As := [.int 44]) (rest := []) ⟨hx, hb, hml, hown, hts⟩ (c_X1_takes l D cI cC cS tt H.size q0 sg pr ln (nE tx ln (at9 + 1)) to9 tx (upd (upd pa pt 1) (pt + 1) (zI (nV tx ln (at9 + 1)))) 44 44 (show (44 : Int32).toInt = 44 from by decide) (by first | assumption | omega | decide) (by first | assumption | omega | decide) (by first | assumption | omega | decide)) (cwV 1 hts gX1_readOrder_X1_takes rfl rfl rfl (by decide +kernel) ⟨Nat.le_of_ble_eq_true rfl, Nat.le_of_ble_eq_true rfl⟩) ⟨x_blindW, va_recv hK hP (ci := 1) (q0 := 0) rfl rfl, x_preW hP hD hK hE hS hA [0, 1, 2] rfl (by decide)⟩ rfl rfl hl.1 rfl (lv_room (Nat.le_of_ble_eq_true rfl)) dX1_readOrder_141 ⟨(Nat.le_of_ble_eq_true rfl), (Nat.le_of_ble_eq_true rfl)⟩) hP hD hS hA [0, 1, 2] [] rfl rfl (by decide) (by decide) (fun r_15 w1 H locs hw hP hD hS => ?_)
        rcases hw with ⟨rfl, rfl, hf141_0⟩ | ⟨rfl, rfl, hf141_0⟩
        · skip
          have hP : va_P D vwCl [(q0, .inr (1, [.ref sg, .int (nI ln), .int (nI ((nE tx ln (at9 + 1)) + 1)), .ref pr, .int to9])), (sg, .inl (cC, 60, .inl (tx))), (pr, .inl (cI, 72, .inl ((upd (upd pa pt 1) (pt + 1) (zI (nV tx ln (at9 + 1)))))))] H := hP
          have hD : va_D (Ar) [(q0, .inr (1, [.ref sg, .int (nI ln), .int (nI ((nE tx ln (at9 + 1)) + 1)), .ref pr, .int to9])), (sg, .inl (cC, 60, .inl (tx))), (pr, .inl (cI, 72, .inl ((upd (upd pa pt 1) (pt + 1) (zI (nV tx ln (at9 + 1)))))))] := hD
          refine lv_if_eq (tgt := 162) hx hb dX1_readOrder_144 (by decide) (fun h => False.elim (by revert h; decide)) (fun _ => ?_)
          refine lv_aload_n hx hb dX1_readOrder_147 rfl (lv_at hl 0 rfl) ?_
          refine lv_iload_n hx hb dX1_readOrder_148 rfl (lv_at hl 1 rfl) ?_
          refine lv_iconst (v := 2) hx hb dX1_readOrder_149 (by decide) ?_
          refine lv_iadd hx hb dX1_readOrder_150 ?_
          refine x_eqi (show nI pt + 2 = nI (pt + 2) from nI_add pt 2) ?_
          refine lv_iconst (v := 1) hx hb dX1_readOrder_151 (by decide) ?_
          refine x_callWi (wc := [(q0, .inr (1, [.ref sg, .int (nI ln), .int (nI (((nE tx ln (at9 + 1)) + 1))), .ref pr, .int to9])), (sg, .inl (cC, 60, .inl (tx))), (pr, .inl (cI, 72, .inl ((upd (upd pa pt 1) (pt + 1) (zI (nV tx ln (at9 + 1)))))))]) (wr := []) (va_runV (As := [.int (nI (pt + 2)), .int 1]) (rest := []) ⟨hx, hb, hml, hown, hts⟩ (c_X1_readNumber_1 l D cI cC cS tt H.size q0 sg pr ln ((nE tx ln (at9 + 1)) + 1) (pt + 2) to9 tx (upd (upd pa pt 1) (pt + 1) (zI (nV tx ln (at9 + 1)))) (by first | assumption | omega | decide) (by first | assumption | omega | decide) (by first | assumption | omega | decide)) (cwV 2 hts gX1_readOrder_X1_readNumber rfl rfl rfl (by decide +kernel) ⟨Nat.le_of_ble_eq_true rfl, Nat.le_of_ble_eq_true rfl⟩) ⟨x_blindW, va_recv hK hP (ci := 1) (q0 := 0) rfl rfl, x_preW hP hD hK hE hS hA [0, 1, 2] rfl (by decide)⟩ rfl rfl hl.1 rfl (lv_room (Nat.le_of_ble_eq_true rfl)) dX1_readOrder_152 ⟨(Nat.le_of_ble_eq_true rfl), (Nat.le_of_ble_eq_true rfl)⟩) hP hD hS hA [0, 1, 2] [] rfl rfl (by decide) (by decide) (fun r_16 w1 H locs hw hP hD hS => ?_)
          rcases hw with ⟨rfl, rfl, hf152_0, hf152_1⟩ | ⟨rfl, rfl, hf152_0⟩
          · skip
            have hP : va_P D vwCl [(q0, .inr (1, [.ref sg, .int (nI ln), .int (nI (nE tx ln ((nE tx ln (at9 + 1)) + 1))), .ref pr, .int to9])), (sg, .inl (cC, 60, .inl (tx))), (pr, .inl (cI, 72, .inl (upd (upd (upd pa pt 1) (pt + 1) (zI (nV tx ln (at9 + 1)))) (pt + 2) (zI (nV tx ln ((nE tx ln (at9 + 1)) + 1))))))] H := hP
            have hD : va_D (Ar) [(q0, .inr (1, [.ref sg, .int (nI ln), .int (nI (nE tx ln ((nE tx ln (at9 + 1)) + 1))), .ref pr, .int to9])), (sg, .inl (cC, 60, .inl (tx))), (pr, .inl (cI, 72, .inl (upd (upd (upd pa pt 1) (pt + 1) (zI (nV tx ln (at9 + 1)))) (pt + 2) (zI (nV tx ln ((nE tx ln (at9 + 1)) + 1))))))] := hD
            refine lv_if_eq (tgt := 162) hx hb dX1_readOrder_155 (by decide) (fun h => False.elim (by revert h; decide)) (fun _ => ?_)
            refine lv_iconst (v := 1) hx hb dX1_readOrder_158 (by decide) ?_
            refine lv_goto (tgt := 163) hx hb dX1_readOrder_159 (by decide) ?_
            refine x_zretW (w := [(q0, .inr (1, [.ref sg, .int (nI ln), .int (nI (nE tx ln ((nE tx ln (at9 + 1)) + 1))), .ref pr, .int to9])), (sg, .inl (cC, 60, .inl (tx))), (pr, .inl (cI, 72, .inl (upd (upd (upd pa pt 1) (pt + 1) (zI (nV tx ln (at9 + 1)))) (pt + 2) (zI (nV tx ln ((nE tx ln (at9 + 1)) + 1))))))]) hQ hAe hx hb hr hlocks (by decide) (hP.sub [0, 1, 2] rfl) (hD.sub [0, 1, 2] (by decide) rfl) hS ?_ dX1_readOrder_163
            refine Or.inl ?_
            have hOR : oRes tx ln at9 = (true, nE tx ln ((nE tx ln (at9 + 1)) + 1)) := by unfold oRes; rw [if_neg hf3_0, if_pos hf115_0, if_pos hf132_0, if_pos hf141_0, if_pos hf152_0]
            exact ⟨upd (upd (upd pa pt 1) (pt + 1) (zI (nV tx ln (at9 + 1)))) (pt + 2) (zI (nV tx ln ((nE tx ln (at9 + 1)) + 1))), rfl, by rw [hOR], by rw [hOR], (fun k9 h9 => by unfold oK at h9; rw [if_neg hf3_0] at h9; unfold oV; rw [if_neg hf3_0]; rcases (show k9 = 0 ∨ k9 = 1 ∨ k9 = 2 by omega) with rfl | rfl | rfl <;> simp [upd] <;> rfl), (fun j9 h9 => by simp only [upd]; repeat (rw [if_neg (by omega)]))⟩
          · skip
            have hP : va_P D vwCl [(q0, .inr (1, [.ref sg, .int (nI ln), .int (nI (nF tx ln ((nE tx ln (at9 + 1)) + 1))), .ref pr, .int to9])), (sg, .inl (cC, 60, .inl (tx))), (pr, .inl (cI, 72, .inl ((upd (upd pa pt 1) (pt + 1) (zI (nV tx ln (at9 + 1)))))))] H := hP
            have hD : va_D (Ar) [(q0, .inr (1, [.ref sg, .int (nI ln), .int (nI (nF tx ln ((nE tx ln (at9 + 1)) + 1))), .ref pr, .int to9])), (sg, .inl (cC, 60, .inl (tx))), (pr, .inl (cI, 72, .inl ((upd (upd pa pt 1) (pt + 1) (zI (nV tx ln (at9 + 1)))))))] := hD
            refine lv_if_eq (tgt := 162) hx hb dX1_readOrder_155 (by decide) (fun _ => ?_) (fun h => False.elim (by revert h; decide))
            refine lv_iconst (v := 0) hx hb dX1_readOrder_162 (by decide) ?_
            refine x_zretW (w := [(q0, .inr (1, [.ref sg, .int (nI ln), .int (nI (nF tx ln ((nE tx ln (at9 + 1)) + 1))), .ref pr, .int to9])), (sg, .inl (cC, 60, .inl (tx))), (pr, .inl (cI, 72, .inl ((upd (upd pa pt 1) (pt + 1) (zI (nV tx ln (at9 + 1)))))))]) hQ hAe hx hb hr hlocks (by decide) (hP.sub [0, 1, 2] rfl) (hD.sub [0, 1, 2] (by decide) rfl) hS ?_ dX1_readOrder_163
            refine Or.inr (?_)
            have hOR : oRes tx ln at9 = (false, nF tx ln ((nE tx ln (at9 + 1)) + 1)) := by unfold oRes; rw [if_neg hf3_0, if_pos hf115_0, if_pos hf132_0, if_pos hf141_0, if_neg hf152_0]
            exact ⟨(upd (upd pa pt 1) (pt + 1) (zI (nV tx ln (at9 + 1)))), rfl, by rw [hOR], by rw [hOR], (fun j9 h9 => by simp only [upd]; repeat (rw [if_neg (by omega)]))⟩
        · skip
          have hP : va_P D vwCl [(q0, .inr (1, [.ref sg, .int (nI ln), .int (nI ((nE tx ln (at9 + 1)))), .ref pr, .int to9])), (sg, .inl (cC, 60, .inl (tx))), (pr, .inl (cI, 72, .inl ((upd (upd pa pt 1) (pt + 1) (zI (nV tx ln (at9 + 1)))))))] H := hP
          have hD : va_D (Ar) [(q0, .inr (1, [.ref sg, .int (nI ln), .int (nI ((nE tx ln (at9 + 1)))), .ref pr, .int to9])), (sg, .inl (cC, 60, .inl (tx))), (pr, .inl (cI, 72, .inl ((upd (upd pa pt 1) (pt + 1) (zI (nV tx ln (at9 + 1)))))))] := hD
          refine lv_if_eq (tgt := 162) hx hb dX1_readOrder_144 (by decide) (fun _ => ?_) (fun h => False.elim (by revert h; decide))
          refine lv_iconst (v := 0) hx hb dX1_readOrder_162 (by decide) ?_
          refine x_zretW (w := [(q0, .inr (1, [.ref sg, .int (nI ln), .int (nI ((nE tx ln (at9 + 1)))), .ref pr, .int to9])), (sg, .inl (cC, 60, .inl (tx))), (pr, .inl (cI, 72, .inl ((upd (upd pa pt 1) (pt + 1) (zI (nV tx ln (at9 + 1)))))))]) hQ hAe hx hb hr hlocks (by decide) (hP.sub [0, 1, 2] rfl) (hD.sub [0, 1, 2] (by decide) rfl) hS ?_ dX1_readOrder_163
          refine Or.inr (?_)
          have hOR : oRes tx ln at9 = (false, (nE tx ln (at9 + 1))) := by unfold oRes; rw [if_neg hf3_0, if_pos hf115_0, if_pos hf132_0, if_neg hf141_0]
          exact ⟨(upd (upd pa pt 1) (pt + 1) (zI (nV tx ln (at9 + 1)))), rfl, by rw [hOR], by rw [hOR], (fun j9 h9 => by simp only [upd]; repeat (rw [if_neg (by omega)]))⟩
      · skip
        have hP : va_P D vwCl [(q0, .inr (1, [.ref sg, .int (nI ln), .int (nI (nF tx ln (at9 + 1))), .ref pr, .int to9])), (sg, .inl (cC, 60, .inl (tx))), (pr, .inl (cI, 72, .inl ((upd pa pt 1))))] H := hP
        have hD : va_D (Ar) [(q0, .inr (1, [.ref sg, .int (nI ln), .int (nI (nF tx ln (at9 + 1))), .ref pr, .int to9])), (sg, .inl (cC, 60, .inl (tx))), (pr, .inl (cI, 72, .inl ((upd pa pt 1))))] := hD
        refine lv_if_eq (tgt := 162) hx hb dX1_readOrder_135 (by decide) (fun _ => ?_) (fun h => False.elim (by revert h; decide))
        refine lv_iconst (v := 0) hx hb dX1_readOrder_162 (by decide) ?_
        refine x_zretW (w := [(q0, .inr (1, [.ref sg, .int (nI ln), .int (nI (nF tx ln (at9 + 1))), .ref pr, .int to9])), (sg, .inl (cC, 60, .inl (tx))), (pr, .inl (cI, 72, .inl ((upd pa pt 1))))]) hQ hAe hx hb hr hlocks (by decide) (hP.sub [0, 1, 2] rfl) (hD.sub [0, 1, 2] (by decide) rfl) hS ?_ dX1_readOrder_163
        refine Or.inr (?_)
        have hOR : oRes tx ln at9 = (false, nF tx ln (at9 + 1)) := by unfold oRes; rw [if_neg hf3_0, if_pos hf115_0, if_neg hf132_0]
        exact ⟨(upd pa pt 1), rfl, by rw [hOR], by rw [hOR], (fun j9 h9 => by simp only [upd]; repeat (rw [if_neg (by omega)]))⟩
    · skip
      have hP : va_P D vwCl [(q0, .inr (1, [.ref sg, .int (nI ln), .int (nI at9), .ref pr, .int to9])), (sg, .inl (cC, 60, .inl (tx))), (pr, .inl (cI, 72, .inl (pa)))] H := hP
      have hD : va_D (Ar) [(q0, .inr (1, [.ref sg, .int (nI ln), .int (nI at9), .ref pr, .int to9])), (sg, .inl (cC, 60, .inl (tx))), (pr, .inl (cI, 72, .inl (pa)))] := hD
      refine lv_if_eq (tgt := 164) hx hb dX1_readOrder_118 (by decide) (fun _ => ?_) (fun h => False.elim (by revert h; decide))
      refine lv_iconst (v := 0) hx hb dX1_readOrder_164 (by decide) ?_
      refine x_zretW (w := [(q0, .inr (1, [.ref sg, .int (nI ln), .int (nI at9), .ref pr, .int to9])), (sg, .inl (cC, 60, .inl (tx))), (pr, .inl (cI, 72, .inl (pa)))]) hQ hAe hx hb hr hlocks (by decide) (hP.sub [0, 1, 2] rfl) (hD.sub [0, 1, 2] (by decide) rfl) hS ?_ dX1_readOrder_165
      refine Or.inr (?_)
      have hOR : oRes tx ln at9 = (false, at9) := by unfold oRes; rw [if_neg hf3_0, if_neg hf115_0]
      exact ⟨pa, rfl, by rw [hOR], by rw [hOR], (fun j9 h9 => by rfl)⟩
set_option maxHeartbeats 4000000 in
set_option maxRecDepth 100000 in
theorem c_X1_read (l : Launch) (D : va_G) (cI cC cS : ClassId) (tt : Nat → Nat) (sz : Nat) (q0 : Nat) (sg : Nat) (pr : Nat) (ln : Nat) (at9 : Int32) (to9 : Int32) (tx : Nat → Int32) (pa : Nat → Int32) (hh0 : ln ≤ 60) : Met l yX1_read wsX1_read ({ frames := 4, cells := 0, slots := 0, locals := 90 } : Room) (x_PW D cI cC cS tt [(q0, .inr (1, [.ref sg, .int (nI ln), .int at9, .ref pr, .int to9])), (sg, .inl (cC, 60, .inl (tx))), (pr, .inl (cI, 72, .inl (pa)))] sz [.ref q0]) (x_QWi D [(q0, .inr (1, [.ref sg, .int (nI ln), .int at9, .ref pr, .int to9])), (sg, .inl (cC, 60, .inl (tx))), (pr, .inl (cI, 72, .inl (pa)))] sz (fun (r : Int32) (w : va_W) => (∃ (a9 n9 : Nat) (pa2 : Nat → Int32), r = -1 ∧ w = [(q0, .inr (1, [.ref sg, .int (nI ln), .int (nI a9), .ref pr, .int (nI n9)])), (sg, .inl (cC, 60, .inl (tx))), (pr, .inl (cI, 72, .inl (pa2)))] ∧ ((tRes tx ln 13 0 0).1 = true) ∧ (n9 = (tRes tx ln 13 0 0).2.2) ∧ (1 ≤ n9 ∧ n9 ≤ 12) ∧ (pGood tx ln n9 pa2)) ∨ (∃ (to2 : Int32) (pa2 : Nat → Int32), r = nI ((tRes tx ln 13 0 0).2.1) ∧ w = [(q0, .inr (1, [.ref sg, .int (nI ln), .int (nI ((tRes tx ln 13 0 0).2.1)), .ref pr, .int to2])), (sg, .inl (cC, 60, .inl (tx))), (pr, .inl (cI, 72, .inl (pa2)))] ∧ ((tRes tx ln 13 0 0).1 = false) ∧ ((tRes tx ln 13 0 0).2.1 ≤ ln)))) 0 0 (va_A [(q0, .inr (1, [.ref sg, .int (nI ln), .int at9, .ref pr, .int to9])), (sg, .inl (cC, 60, .inl (tx))), (pr, .inl (cI, 72, .inl (pa)))] sz) := by
  refine Met.ofW (cc := cX1_read) (maxL := 2) (ret := (some .int)) (by decide) rfl ?_
  intro p e s m args below meth c s₁ hBd hml hv
  obtain ⟨rfl, hsz, hP, hK, hD0, hE⟩ := hv
  have hx := hBd.exec
  have hb := hBd.bytes
  have hr := hBd.returns
  have hts := atoms_spec (ws := wsX1_read) hBd.pre
  have hown : s.vm.findClass RX1 = some m.cls := findClass_of_methodNamed hBd.named
  have hlocks := hBd.notSynchronized
  subst hsz
  obtain ⟨Ar, hAe⟩ : ∃ Ar : Nat → Prop, Ar = va_A [(q0, .inr (1, [.ref sg, .int (nI ln), .int at9, .ref pr, .int to9])), (sg, .inl (cC, 60, .inl (tx))), (pr, .inl (cI, 72, .inl (pa)))] s.heap.size := ⟨_, rfl⟩
  have hD : va_D Ar [(q0, .inr (1, [.ref sg, .int (nI ln), .int at9, .ref pr, .int to9])), (sg, .inl (cC, 60, .inl (tx))), (pr, .inl (cI, 72, .inl (pa)))] := by rw [hAe]; exact hD0.self
  have hA : ∀ q : Nat, s.heap.size ≤ q → Ar q := fun q h => by rw [hAe]; exact Or.inr h
  have hE : x_E tt Ar s := by rw [hAe]; exact hE
  have hS : va_S Ar s.heap s.heap [] := va_S.rf
  have hl := lv_entry ([.ref q0]) (n := 2) (Nat.le_of_ble_eq_true rfl)
  rw [lg_entry_eq]
  generalize (lg_sl ([.ref q0]) ++ List.replicate (2 - (lg_sl ([.ref q0])).length) Slot.unset).toArray = ls at hl ⊢
  have hl : lv_has ls 2 [(0, .ref q0)] := hl
  refine x_genQ (fun Q hQ => ?_)
  refine lv_aload_n hx hb dX1_read_0 rfl (lv_at hl 0 rfl) ?_
  refine lv_iconst (v := 0) hx hb dX1_read_1 (by decide) ?_
  refine va_put (v := .int 0) (ty := .int) (D := D) (ci := 1) (C := RX1) (T := TX1) (N := 5) hx hb hts (by decide +kernel) tyX1 tyX1_ok nmX1 hown hK hP hD hS 0 rfl rfl 2 (by decide) (hts (.fieldLink RX1 19 "SpiralFrames$Orders" "at" "I") (by decide +kernel)) (fun _ h9 => h9) rfl (by decide +kernel) rfl rfl (Nat.le_of_ble_eq_true rfl) dX1_read_2 (fun H locs hP hD hS => ?_)
  have hP : va_P D vwCl [(q0, .inr (1, [.ref sg, .int (nI ln), .int 0, .ref pr, .int to9])), (sg, .inl (cC, 60, .inl (tx))), (pr, .inl (cI, 72, .inl (pa)))] H := hP
  have hD : va_D (Ar) [(q0, .inr (1, [.ref sg, .int (nI ln), .int 0, .ref pr, .int to9])), (sg, .inl (cC, 60, .inl (tx))), (pr, .inl (cI, 72, .inl (pa)))] := hD
  refine lv_aload_n hx hb dX1_read_5 rfl (lv_at hl 0 rfl) ?_
  refine lv_iconst (v := 0) hx hb dX1_read_6 (by decide) ?_
  refine va_put (v := .int 0) (ty := .int) (D := D) (ci := 1) (C := RX1) (T := TX1) (N := 5) hx hb hts (by decide +kernel) tyX1 tyX1_ok nmX1 hown hK hP hD hS 0 rfl rfl 4 (by decide) (hts (.fieldLink RX1 26 "SpiralFrames$Orders" "total" "I") (by decide +kernel)) (fun _ h9 => h9) rfl (by decide +kernel) rfl rfl (Nat.le_of_ble_eq_true rfl) dX1_read_7 (fun H locs hP hD hS => ?_)
  have hP : va_P D vwCl [(q0, .inr (1, [.ref sg, .int (nI ln), .int 0, .ref pr, .int 0])), (sg, .inl (cC, 60, .inl (tx))), (pr, .inl (cI, 72, .inl (pa)))] H := hP
  have hD : va_D (Ar) [(q0, .inr (1, [.ref sg, .int (nI ln), .int 0, .ref pr, .int 0])), (sg, .inl (cC, 60, .inl (tx))), (pr, .inl (cI, 72, .inl (pa)))] := hD
  refine lv_iconst (v := 0) hx hb dX1_read_10 (by decide) ?_
  refine lv_istore_n (lv' := [(1, .int 0), (0, .ref q0)]) hx hb dX1_read_11 rfl hl (by decide) rfl (fun ls hl => ?_)
  have L12 : ∀ (fuel : Nat) (o9 : Nat) (a9 : Nat) (f : Nat → Int32), o9 ≤ 12 → 5 * o9 ≤ a9 ∧ a9 ≤ ln → a9 = oS tx ln o9 → tRes tx ln 13 0 0 = tRes tx ln (13 - o9) a9 o9 → pGood tx ln o9 f → 12 - o9 < fuel → ∀ (H : Heap) (locs : List Loc), va_P D vwCl [(q0, .inr (1, [.ref sg, .int (nI ln), .int (nI a9), .ref pr, .int (nI o9)])), (sg, .inl (cC, 60, .inl (tx))), (pr, .inl (cI, 72, .inl (f)))] H → va_D (Ar) [(q0, .inr (1, [.ref sg, .int (nI ln), .int (nI a9), .ref pr, .int (nI o9)])), (sg, .inl (cC, 60, .inl (tx))), (pr, .inl (cI, 72, .inl (f)))] → va_S (Ar) s.heap H locs → ∀ (ls : Array Slot), lv_has ls 2 [(0, .ref q0), (1, .int (nI o9))] → W p l e (headSpec wsX1_read ({ frames := 4, cells := 0, slots := 0, locals := 90 } : Room)).room s m ([.ref q0] : List Value).toArray below meth c H locs 0 0 Q (F0 m 12 ls []) := by
    intro fuel
    induction fuel with
    | zero =>
      intro o9 a9 f hi12_0 hi12_1 hi12_2 hi12_3 hi12_4 hfu
      exact absurd hfu (Nat.not_lt_zero _)
    | succ fuel ih12 =>
      intro o9 a9 f hi12_0 hi12_1 hi12_2 hi12_3 hi12_4 hfu12 H locs hP hD hS ls hl
      refine lv_iload_n hx hb dX1_read_12 rfl (lv_at hl 1 rfl) ?_
      refine lv_bipush (v := 12) hx hb dX1_read_13 (by decide) ?_
      refine x_icmp_ge (tgt := 77) hx hb dX1_read_15 (by decide) (X := ((o9 : Nat) : Int)) (nI_toI (by omega)) (Y := 12) (show (12 : Int32).toInt = 12 from by decide) (fun c_15 => ?_) (fun c_15 => ?_)
      · skip
        refine lv_aload_n hx hb dX1_read_77 rfl (lv_at hl 0 rfl) ?_
        refine va_get (v := .int (nI a9)) (D := D) (ci := 1) (C := RX1) (T := TX1) (N := 5) hx hb hts (by decide +kernel) hown hK hP 0 rfl rfl 2 (by decide) (hts (.fieldLink RX1 19 "SpiralFrames$Orders" "at" "I") (by decide +kernel)) (fun _ h9 => h9) rfl dX1_read_78 ?_
        refine x_iretW (w := [(q0, .inr (1, [.ref sg, .int (nI ln), .int (nI a9), .ref pr, .int (nI o9)])), (sg, .inl (cC, 60, .inl (tx))), (pr, .inl (cI, 72, .inl (f)))]) hQ hAe hx hb hr hlocks (hP.sub [0, 1, 2] rfl) (hD.sub [0, 1, 2] (by decide) rfl) hS ?_ dX1_read_81
        refine Or.inr (?_)
        have tr : tRes tx ln 13 0 0 = (false, a9, o9) := by rw [hi12_3, show 13 - o9 = 1 by omega, tRes_s (by omega), oRes_end (by omega)]; rfl
        exact ⟨nI o9, f, by rw [tr], by rw [tr], by rw [tr], by rw [tr]; show a9 ≤ ln; omega⟩
      · skip
        refine lv_aload_n hx hb dX1_read_18 rfl (lv_at hl 0 rfl) ?_
        refine lv_iload_n hx hb dX1_read_19 rfl (lv_at hl 1 rfl) ?_
        refine lv_bipush (v := 6) hx hb dX1_read_20 (by decide) ?_
        refine lv_imul hx hb dX1_read_22 ?_
        refine x_eqi (show nI o9 * 6 = nI (o9 * 6) from pk_mul o9 6) ?_
        refine x_callWi (wc := [(q0, .inr (1, [.ref sg, .int (nI ln), .int (nI a9), .ref pr, .int (nI o9)])), (sg, .inl (cC, 60, .inl (tx))), (pr, .inl (cI, 72, .inl (f)))]) (wr := []) (va_runV (As := [.int (nI (o9 * 6))]) (rest := []) ⟨hx, hb, hml, hown, hts⟩ (c_X1_readOrder l D cI cC cS tt H.size q0 sg pr ln a9 (o9 * 6) (nI o9) tx f (by first | assumption | omega | decide) (by first | assumption | omega | decide) (by first | assumption | omega | decide)) (cwV 1 hts gX1_read_X1_readOrder rfl rfl rfl (by decide +kernel) ⟨Nat.le_of_ble_eq_true rfl, Nat.le_of_ble_eq_true rfl⟩) ⟨x_blindW, va_recv hK hP (ci := 1) (q0 := 0) rfl rfl, x_preW hP hD hK hE hS hA [0, 1, 2] rfl (by decide)⟩ rfl rfl hl.1 rfl (lv_room (Nat.le_of_ble_eq_true rfl)) dX1_read_23 ⟨(Nat.le_of_ble_eq_true rfl), (Nat.le_of_ble_eq_true rfl)⟩) hP hD hS hA [0, 1, 2] [] rfl rfl (by decide) (by decide) (fun r_1 w1 H locs hw hP hD hS => ?_)
        rcases hw with ⟨pa2_2, rfl, rfl, hf23_0, hf23_1, hf23_2⟩ | ⟨pa2_3, rfl, rfl, hf23_0, hf23_1⟩
        · skip
          have hP : va_P D vwCl [(q0, .inr (1, [.ref sg, .int (nI ln), .int (nI ((oRes tx ln a9).2)), .ref pr, .int (nI o9)])), (sg, .inl (cC, 60, .inl (tx))), (pr, .inl (cI, 72, .inl (pa2_2)))] H := hP
          have hD : va_D (Ar) [(q0, .inr (1, [.ref sg, .int (nI ln), .int (nI ((oRes tx ln a9).2)), .ref pr, .int (nI o9)])), (sg, .inl (cC, 60, .inl (tx))), (pr, .inl (cI, 72, .inl (pa2_2)))] := hD
          refine lv_if_ne (tgt := 34) hx hb dX1_read_26 (by decide) (fun _ => ?_) (fun h => False.elim (by revert h; decide))
          have e49 := oRes_4 hf23_0
          refine lv_aload_n hx hb dX1_read_34 rfl (lv_at hl 0 rfl) ?_
          refine lv_dup hx hb dX1_read_35 rfl ?_
          refine va_get (v := .int (nI o9)) (D := D) (ci := 1) (C := RX1) (T := TX1) (N := 5) hx hb hts (by decide +kernel) hown hK hP 0 rfl rfl 4 (by decide) (hts (.fieldLink RX1 26 "SpiralFrames$Orders" "total" "I") (by decide +kernel)) (fun _ h9 => h9) rfl dX1_read_36 ?_
          refine lv_iconst (v := 1) hx hb dX1_read_39 (by decide) ?_
          refine lv_iadd hx hb dX1_read_40 ?_
          refine x_eqi (show nI o9 + 1 = nI (o9 + 1) from nI_add o9 1) ?_
          refine va_put (v := .int (nI (o9 + 1))) (ty := .int) (D := D) (ci := 1) (C := RX1) (T := TX1) (N := 5) hx hb hts (by decide +kernel) tyX1 tyX1_ok nmX1 hown hK hP hD hS 0 rfl rfl 4 (by decide) (hts (.fieldLink RX1 26 "SpiralFrames$Orders" "total" "I") (by decide +kernel)) (fun _ h9 => h9) rfl (by decide +kernel) rfl rfl (Nat.le_of_ble_eq_true rfl) dX1_read_41 (fun H locs hP hD hS => ?_)
          have hP : va_P D vwCl [(q0, .inr (1, [.ref sg, .int (nI ln), .int (nI ((oRes tx ln a9).2)), .ref pr, .int (nI (o9 + 1))])), (sg, .inl (cC, 60, .inl (tx))), (pr, .inl (cI, 72, .inl (pa2_2)))] H := hP
          have hD : va_D (Ar) [(q0, .inr (1, [.ref sg, .int (nI ln), .int (nI ((oRes tx ln a9).2)), .ref pr, .int (nI (o9 + 1))])), (sg, .inl (cC, 60, .inl (tx))), (pr, .inl (cI, 72, .inl (pa2_2)))] := hD
          refine lv_aload_n hx hb dX1_read_44 rfl (lv_at hl 0 rfl) ?_
          refine va_get (v := .int (nI ((oRes tx ln a9).2))) (D := D) (ci := 1) (C := RX1) (T := TX1) (N := 5) hx hb hts (by decide +kernel) hown hK hP 0 rfl rfl 2 (by decide) (hts (.fieldLink RX1 19 "SpiralFrames$Orders" "at" "I") (by decide +kernel)) (fun _ h9 => h9) rfl dX1_read_45 ?_
          refine lv_aload_n hx hb dX1_read_48 rfl (lv_at hl 0 rfl) ?_
          refine va_get (v := .int (nI ln)) (D := D) (ci := 1) (C := RX1) (T := TX1) (N := 5) hx hb hts (by decide +kernel) hown hK hP 0 rfl rfl 1 (by decide) (hts (.fieldLink RX1 15 "SpiralFrames$Orders" "length" "I") (by decide +kernel)) (fun _ h9 => h9) rfl dX1_read_49 ?_
          refine x_icmp_lt (tgt := 57) hx hb dX1_read_52 (by decide) (X := (((oRes tx ln a9).2 : Nat) : Int)) (nI_toI (by omega)) (Y := ((ln : Nat) : Int)) (nI_toI (by omega)) (fun c_52 => ?_) (fun c_52 => ?_)
          · skip
            refine lv_aload_n hx hb dX1_read_57 rfl (lv_at hl 0 rfl) ?_
            refine lv_bipush (v := 59) hx hb dX1_read_58 (by decide) ?_
            refine x_callWi (wc := [(q0, .inr (1, [.ref sg, .int (nI ln), .int (nI (((oRes tx ln a9).2))), .ref pr, .int (nI (o9 + 1))])), (sg, .inl (cC, 60, .inl (tx))), (pr, .inl (cI, 72, .inl (pa2_2)))]) (wr := []) (va_runV (As := [.int 59]) (rest := []) ⟨hx, hb, hml, hown, hts⟩ (c_X1_takes l D cI cC cS tt H.size q0 sg pr ln ((oRes tx ln a9).2) (nI (o9 + 1)) tx pa2_2 59 59 (show (59 : Int32).toInt = 59 from by decide) (by first | assumption | omega | decide) (by first | assumption | omega | decide) (by first | assumption | omega | decide)) (cwV 1 hts gX1_read_X1_takes rfl rfl rfl (by decide +kernel) ⟨Nat.le_of_ble_eq_true rfl, Nat.le_of_ble_eq_true rfl⟩) ⟨x_blindW, va_recv hK hP (ci := 1) (q0 := 0) rfl rfl, x_preW hP hD hK hE hS hA [0, 1, 2] rfl (by decide)⟩ rfl rfl hl.1 rfl (lv_room (Nat.le_of_ble_eq_true rfl)) dX1_read_60 ⟨(Nat.le_of_ble_eq_true rfl), (Nat.le_of_ble_eq_true rfl)⟩) hP hD hS hA [0, 1, 2] [] rfl rfl (by decide) (by decide) (fun r_4 w1 H locs hw hP hD hS => ?_)
            rcases hw with ⟨rfl, rfl, hf60_0⟩ | ⟨rfl, rfl, hf60_0⟩
            · skip
              have hP : va_P D vwCl [(q0, .inr (1, [.ref sg, .int (nI ln), .int (nI (((oRes tx ln a9).2) + 1)), .ref pr, .int (nI (o9 + 1))])), (sg, .inl (cC, 60, .inl (tx))), (pr, .inl (cI, 72, .inl (pa2_2)))] H := hP
              have hD : va_D (Ar) [(q0, .inr (1, [.ref sg, .int (nI ln), .int (nI (((oRes tx ln a9).2) + 1)), .ref pr, .int (nI (o9 + 1))])), (sg, .inl (cC, 60, .inl (tx))), (pr, .inl (cI, 72, .inl (pa2_2)))] := hD
              refine lv_if_ne (tgt := 71) hx hb dX1_read_63 (by decide) (fun _ => ?_) (fun h => False.elim (by revert h; decide))
              refine lv_iinc (v := nI (o9 + 1)) (lv' := [(1, .int (nI (o9 + 1))), (0, .ref q0)]) hx hb dX1_read_71 hl (k := 1) rfl (nI_add _ _) (by decide) rfl (fun ls hl => ?_)
              refine lv_goto (tgt := 12) hx hb dX1_read_74 (by decide) ?_
              exact ih12 (o9 + 1) (((oRes tx ln a9).2) + 1) pa2_2 (by first | assumption | omega | rfl) (by have e4 := oRes_4 hf23_0; omega) (by show _ = (oRes tx ln (oS tx ln o9)).2 + 1; rw [← hi12_2]) (by rw [hi12_3, tRes_s (by omega), if_pos hf23_0, if_pos (by omega), if_pos hf60_0, show 13 - o9 - 1 = 13 - (o9 + 1) by omega]) (pGood_s hi12_4 (by rw [← hi12_2]; exact hf23_1) (fun j hj => hf23_2 j hj)) (by omega) H locs (hP.sub [0, 1, 2] rfl) (hD.sub [0, 1, 2] (by decide) rfl) hS ls (lv_sub hl [1, 0] rfl)
            · skip
              have hP : va_P D vwCl [(q0, .inr (1, [.ref sg, .int (nI ln), .int (nI (((oRes tx ln a9).2))), .ref pr, .int (nI (o9 + 1))])), (sg, .inl (cC, 60, .inl (tx))), (pr, .inl (cI, 72, .inl (pa2_2)))] H := hP
              have hD : va_D (Ar) [(q0, .inr (1, [.ref sg, .int (nI ln), .int (nI (((oRes tx ln a9).2))), .ref pr, .int (nI (o9 + 1))])), (sg, .inl (cC, 60, .inl (tx))), (pr, .inl (cI, 72, .inl (pa2_2)))] := hD
              refine lv_if_ne (tgt := 71) hx hb dX1_read_63 (by decide) (fun h => False.elim (by revert h; decide)) (fun _ => ?_)
              refine lv_aload_n hx hb dX1_read_66 rfl (lv_at hl 0 rfl) ?_
              refine va_get (v := .int (nI (((oRes tx ln a9).2)))) (D := D) (ci := 1) (C := RX1) (T := TX1) (N := 5) hx hb hts (by decide +kernel) hown hK hP 0 rfl rfl 2 (by decide) (hts (.fieldLink RX1 19 "SpiralFrames$Orders" "at" "I") (by decide +kernel)) (fun _ h9 => h9) rfl dX1_read_67 ?_
              refine x_iretW (w := [(q0, .inr (1, [.ref sg, .int (nI ln), .int (nI (((oRes tx ln a9).2))), .ref pr, .int (nI (o9 + 1))])), (sg, .inl (cC, 60, .inl (tx))), (pr, .inl (cI, 72, .inl (pa2_2)))]) hQ hAe hx hb hr hlocks (hP.sub [0, 1, 2] rfl) (hD.sub [0, 1, 2] (by decide) rfl) hS ?_ dX1_read_70
              refine Or.inr (?_)
              have tr : tRes tx ln 13 0 0 = (false, (oRes tx ln a9).2, o9 + 1) := by rw [hi12_3, tRes_s (by omega), if_pos hf23_0, if_pos (by omega), if_neg hf60_0]
              exact ⟨nI (o9 + 1), pa2_2, by rw [tr], by rw [tr], by rw [tr], by rw [tr]; exact (oRes_4 hf23_0).2⟩
          · skip
            refine lv_iconst (v := (-1)) hx hb dX1_read_55 (by decide) ?_
            refine x_iretW (w := [(q0, .inr (1, [.ref sg, .int (nI ln), .int (nI ((oRes tx ln a9).2)), .ref pr, .int (nI (o9 + 1))])), (sg, .inl (cC, 60, .inl (tx))), (pr, .inl (cI, 72, .inl (pa2_2)))]) hQ hAe hx hb hr hlocks (hP.sub [0, 1, 2] rfl) (hD.sub [0, 1, 2] (by decide) rfl) hS ?_ dX1_read_56
            refine Or.inl ?_
            have tr : tRes tx ln 13 0 0 = (true, (oRes tx ln a9).2, o9 + 1) := by rw [hi12_3, tRes_s (by omega), if_pos hf23_0, if_neg (by omega)]
            exact ⟨_, o9 + 1, pa2_2, rfl, rfl, by rw [tr], by rw [tr], by omega, pGood_s hi12_4 (by rw [← hi12_2]; exact hf23_1) (fun j hj => hf23_2 j hj)⟩
        · skip
          have hP : va_P D vwCl [(q0, .inr (1, [.ref sg, .int (nI ln), .int (nI ((oRes tx ln a9).2)), .ref pr, .int (nI o9)])), (sg, .inl (cC, 60, .inl (tx))), (pr, .inl (cI, 72, .inl (pa2_3)))] H := hP
          have hD : va_D (Ar) [(q0, .inr (1, [.ref sg, .int (nI ln), .int (nI ((oRes tx ln a9).2)), .ref pr, .int (nI o9)])), (sg, .inl (cC, 60, .inl (tx))), (pr, .inl (cI, 72, .inl (pa2_3)))] := hD
          refine lv_if_ne (tgt := 34) hx hb dX1_read_26 (by decide) (fun h => False.elim (by revert h; decide)) (fun _ => ?_)
          refine lv_aload_n hx hb dX1_read_29 rfl (lv_at hl 0 rfl) ?_
          refine va_get (v := .int (nI ((oRes tx ln a9).2))) (D := D) (ci := 1) (C := RX1) (T := TX1) (N := 5) hx hb hts (by decide +kernel) hown hK hP 0 rfl rfl 2 (by decide) (hts (.fieldLink RX1 19 "SpiralFrames$Orders" "at" "I") (by decide +kernel)) (fun _ h9 => h9) rfl dX1_read_30 ?_
          refine x_iretW (w := [(q0, .inr (1, [.ref sg, .int (nI ln), .int (nI ((oRes tx ln a9).2)), .ref pr, .int (nI o9)])), (sg, .inl (cC, 60, .inl (tx))), (pr, .inl (cI, 72, .inl (pa2_3)))]) hQ hAe hx hb hr hlocks (hP.sub [0, 1, 2] rfl) (hD.sub [0, 1, 2] (by decide) rfl) hS ?_ dX1_read_33
          refine Or.inr (?_)
          have tr : tRes tx ln 13 0 0 = (false, (oRes tx ln a9).2, o9) := by rw [hi12_3, tRes_s (by omega), if_neg (by rw [hf23_0]; exact Bool.false_ne_true)]
          exact ⟨nI o9, pa2_3, by rw [tr], by rw [tr], by rw [tr], by rw [tr]; exact oRes_le (by omega)⟩
  exact L12 _ 0 0 pa (by first | assumption | omega | rfl) (by omega) rfl rfl (fun o ho => absurd ho (Nat.not_lt_zero _)) (Nat.lt_succ_self _) H locs (hP.sub [0, 1, 2] rfl) (hD.sub [0, 1, 2] (by decide) rfl) hS ls (lv_sub hl [1, 0] rfl)
