/-! ===== the start: classes, arrays, statics ===== -/
set_option maxRecDepth 20000 in
theorem x_nest_in : ∀ w ∈ x_nest, w ∈ tables_1 := mem_ps [19, 25, 35, 37, 39, 41, 57, 63, 67, 82, 91, 130, 134, 142, 146, 157, 168, 182, 195, 215, 232, 252, 256, 268, 276, 279, 298, 302, 303, 304, 305, 309, 310, 326, 327, 330, 335, 336, 349, 357, 365, 382, 409, 418, 427, 428, 433, 442, 450, 455, 467, 468] (by decide +kernel)
theorem tb_in {w : Cond} (h : w ∈ tables_1) : w ∈ lw_tbl := List.mem_append_right _ h
theorem st_arr {s : State} {args : Array Value} {ty : FieldType} (h : (Cond.arrayClass ty).before args s = true) : ∃ cA : ClassId, ArrOfT s cA ty ∧ s.vm.findClass ("[" ++ ty.toString) = some cA := by
  obtain ⟨cA, kA, comp, h1, h2, h3⟩ := Cond.arrayClass_spec h
  exact ⟨cA, fun n z => ⟨fun k h => (by cases h), kA, h2, comp, h3⟩, h1⟩
theorem st_arq {s : State} {args : Array Value} {C : String} (h : (Cond.arrayOver (.object C)).before args s = true) : ∃ cA : ClassId, ArrOfT s cA (.object C) ∧ va_RA s cA (.object C) := by
  obtain ⟨comp, cA, kA, h1, h2, h3, h4, h5⟩ := Cond.arrayOver_spec h
  exact ⟨cA, fun n z => ⟨fun k h => (by cases h), kA, h3, comp, h4⟩, kA, comp, h3, h4, h1, h5⟩
abbrev cN9 : Cond := Jvm.Cond.and given_1 narrow_1
set_option maxRecDepth 20000 in
theorem st_el0 : ∀ j, j < 25 → Cond.eq (.elem (.static "SpiralFrames" "STEPS_RIGHT" "[I") (.int (Int32.ofNat j))) (.int (zI (x_sr j))) ∈ flatC cN9 := by decide +kernel
set_option maxRecDepth 20000 in
theorem st_ar0 : Cond.arrayOf (.static "SpiralFrames" "STEPS_RIGHT" "[I") .int ∈ flatC cN9 := by decide +kernel
set_option maxRecDepth 20000 in
theorem st_ln0 : Cond.eq (.length (.static "SpiralFrames" "STEPS_RIGHT" "[I")) (.int 25) ∈ flatC cN9 := by decide +kernel
theorem st_T0 {s : State} {b : Nat} {A : Nat → Prop} (hts : ∀ w ∈ lw_tbl, w.before #[Value.ref b] s = true) (hgv : cN9.before #[Value.ref b] s = true) (hA : ∀ a : Nat, a < s.heap.size → ¬ A a) : ∃ t : Nat, va_Z "SpiralFrames" "STEPS_RIGHT" "[I" (.ref t) A s s.heap ∧ va_T .int t 25 (fun j => .int (zI (x_sr j))) A s s.heap := by
  have hs := flat_of_before _ hgv
  obtain ⟨t, h1, h2⟩ := va_Tof (tm := (.static "SpiralFrames" "STEPS_RIGHT" "[I")) (N := 25) (f := fun j => .int (zI (x_sr j))) (A := A) (by decide) (hs _ st_ar0) (va_eqt (z := 25) (hs _ st_ln0)) (fun j hj => va_eqt (hs _ (st_el0 j hj))) hA
  exact ⟨t, va_Zof (hts _ (tb_in (List.mem_of_getElem? (i := 289) (by decide +kernel)))) (hts _ (tb_in (List.mem_of_getElem? (i := 1) (by decide +kernel)))) h1 hA, h2⟩
set_option maxRecDepth 20000 in
theorem st_el1 : ∀ j, j < 25 → Cond.eq (.elem (.static "SpiralFrames" "STEPS_DOWN" "[I") (.int (Int32.ofNat j))) (.int (zI (x_sd j))) ∈ flatC cN9 := by decide +kernel
set_option maxRecDepth 20000 in
theorem st_ar1 : Cond.arrayOf (.static "SpiralFrames" "STEPS_DOWN" "[I") .int ∈ flatC cN9 := by decide +kernel
set_option maxRecDepth 20000 in
theorem st_ln1 : Cond.eq (.length (.static "SpiralFrames" "STEPS_DOWN" "[I")) (.int 25) ∈ flatC cN9 := by decide +kernel
theorem st_T1 {s : State} {b : Nat} {A : Nat → Prop} (hts : ∀ w ∈ lw_tbl, w.before #[Value.ref b] s = true) (hgv : cN9.before #[Value.ref b] s = true) (hA : ∀ a : Nat, a < s.heap.size → ¬ A a) : ∃ t : Nat, va_Z "SpiralFrames" "STEPS_DOWN" "[I" (.ref t) A s s.heap ∧ va_T .int t 25 (fun j => .int (zI (x_sd j))) A s s.heap := by
  have hs := flat_of_before _ hgv
  obtain ⟨t, h1, h2⟩ := va_Tof (tm := (.static "SpiralFrames" "STEPS_DOWN" "[I")) (N := 25) (f := fun j => .int (zI (x_sd j))) (A := A) (by decide) (hs _ st_ar1) (va_eqt (z := 25) (hs _ st_ln1)) (fun j hj => va_eqt (hs _ (st_el1 j hj))) hA
  exact ⟨t, va_Zof (hts _ (tb_in (List.mem_of_getElem? (i := 297) (by decide +kernel)))) (hts _ (tb_in (List.mem_of_getElem? (i := 1) (by decide +kernel)))) h1 hA, h2⟩
set_option maxRecDepth 20000 in
theorem st_el2 : ∀ j, j < 3 → Cond.eq (.elem (.static "SpiralFrames" "LOWEST_SETTINGS" "[I") (.int (Int32.ofNat j))) (.int (zI (x_lo j))) ∈ flatC cN9 := by decide +kernel
set_option maxRecDepth 20000 in
theorem st_ar2 : Cond.arrayOf (.static "SpiralFrames" "LOWEST_SETTINGS" "[I") .int ∈ flatC cN9 := by decide +kernel
set_option maxRecDepth 20000 in
theorem st_ln2 : Cond.eq (.length (.static "SpiralFrames" "LOWEST_SETTINGS" "[I")) (.int 3) ∈ flatC cN9 := by decide +kernel
theorem st_T2 {s : State} {b : Nat} {A : Nat → Prop} (hts : ∀ w ∈ lw_tbl, w.before #[Value.ref b] s = true) (hgv : cN9.before #[Value.ref b] s = true) (hA : ∀ a : Nat, a < s.heap.size → ¬ A a) : ∃ t : Nat, va_Z "SpiralFrames" "LOWEST_SETTINGS" "[I" (.ref t) A s s.heap ∧ va_T .int t 3 (fun j => .int (zI (x_lo j))) A s s.heap := by
  have hs := flat_of_before _ hgv
  obtain ⟨t, h1, h2⟩ := va_Tof (tm := (.static "SpiralFrames" "LOWEST_SETTINGS" "[I")) (N := 3) (f := fun j => .int (zI (x_lo j))) (A := A) (by decide) (hs _ st_ar2) (va_eqt (z := 3) (hs _ st_ln2)) (fun j hj => va_eqt (hs _ (st_el2 j hj))) hA
  exact ⟨t, va_Zof (hts _ (tb_in (List.mem_of_getElem? (i := 245) (by decide +kernel)))) (hts _ (tb_in (List.mem_of_getElem? (i := 1) (by decide +kernel)))) h1 hA, h2⟩
set_option maxRecDepth 20000 in
theorem st_el3 : ∀ j, j < 3 → Cond.eq (.elem (.static "SpiralFrames" "HIGHEST_SETTINGS" "[I") (.int (Int32.ofNat j))) (.int (zI (x_hi j))) ∈ flatC cN9 := by decide +kernel
set_option maxRecDepth 20000 in
theorem st_ar3 : Cond.arrayOf (.static "SpiralFrames" "HIGHEST_SETTINGS" "[I") .int ∈ flatC cN9 := by decide +kernel
set_option maxRecDepth 20000 in
theorem st_ln3 : Cond.eq (.length (.static "SpiralFrames" "HIGHEST_SETTINGS" "[I")) (.int 3) ∈ flatC cN9 := by decide +kernel
theorem st_T3 {s : State} {b : Nat} {A : Nat → Prop} (hts : ∀ w ∈ lw_tbl, w.before #[Value.ref b] s = true) (hgv : cN9.before #[Value.ref b] s = true) (hA : ∀ a : Nat, a < s.heap.size → ¬ A a) : ∃ t : Nat, va_Z "SpiralFrames" "HIGHEST_SETTINGS" "[I" (.ref t) A s s.heap ∧ va_T .int t 3 (fun j => .int (zI (x_hi j))) A s s.heap := by
  have hs := flat_of_before _ hgv
  obtain ⟨t, h1, h2⟩ := va_Tof (tm := (.static "SpiralFrames" "HIGHEST_SETTINGS" "[I")) (N := 3) (f := fun j => .int (zI (x_hi j))) (A := A) (by decide) (hs _ st_ar3) (va_eqt (z := 3) (hs _ st_ln3)) (fun j hj => va_eqt (hs _ (st_el3 j hj))) hA
  exact ⟨t, va_Zof (hts _ (tb_in (List.mem_of_getElem? (i := 247) (by decide +kernel)))) (hts _ (tb_in (List.mem_of_getElem? (i := 1) (by decide +kernel)))) h1 hA, h2⟩
set_option maxHeartbeats 4000000 in
set_option maxRecDepth 100000 in
theorem st_E {s : State} {b : Nat} {A : Nat → Prop} (hts : ∀ w ∈ lw_tbl, w.before #[Value.ref b] s = true) (hgv : cN9.before #[Value.ref b] s = true) (hA : ∀ a : Nat, a < s.heap.size → ¬ A a) : ∃ tt : Nat → Nat, x_E tt A s := by
  obtain ⟨t0, z0⟩ := st_T0 hts hgv hA
  obtain ⟨t1, z1⟩ := st_T1 hts hgv hA
  obtain ⟨t2, z2⟩ := st_T2 hts hgv hA
  obtain ⟨t3, z3⟩ := st_T3 hts hgv hA
  refine ⟨lstA [t0, t1, t2, t3], fun w hw => ?_, va_AO.of (hts _ (tb_in (List.mem_of_getElem? (i := 54) (by decide +kernel)))), z0, z1, z2, z3⟩
  have hm := hts w (tb_in (x_nest_in w hw))
  rcases x_nest_kind w hw with ⟨_, _, _, _, _, _, rfl⟩ | ⟨_, _, _, _, rfl⟩ <;> exact va_Nw.of rfl hm
theorem st_K {s : State} {b : Nat} (hts : ∀ w ∈ lw_tbl, w.before #[Value.ref b] s = true) : ∃ (Dg : va_G) (cI cC cS : ClassId), va_K Dg vwCl (x_ty cI cC cS) s := by
  have hts9 : ∀ w ∈ wsL_law, w.before #[Value.ref b] s = true := fun w h => hts w (wsL_law_in w h)
  obtain ⟨c0, i0, hk0⟩ := u_known (C := RX0) (T := TX0) (N := 1) (n := 1) hts9 inlX0 (hts9 (.instantiable RX0 1) (List.mem_of_getElem? (i := 25) (by decide +kernel)))
  obtain ⟨c1, i1, hk1⟩ := u_known (C := RX1) (T := TX1) (N := 5) (n := 5) hts9 inlX1 (hts9 (.instantiable RX1 5) (List.mem_of_getElem? (i := 21) (by decide +kernel)))
  obtain ⟨c2, i2, hk2⟩ := u_known (C := RX2) (T := TX2) (N := 1) (n := 1) hts9 inlX2 (hts9 (.instantiable RX2 1) (List.mem_of_getElem? (i := 29) (by decide +kernel)))
  obtain ⟨c3, i3, hk3⟩ := u_known (C := RX3) (T := TX3) (N := 5) (n := 5) hts9 inlX3 (hts9 (.instantiable RX3 5) (List.mem_of_getElem? (i := 13) (by decide +kernel)))
  obtain ⟨c4, i4, hk4⟩ := u_known (C := RX4) (T := TX4) (N := 9) (n := 9) hts9 inlX4 (hts9 (.instantiable RX4 9) (List.mem_of_getElem? (i := 1) (by decide +kernel)))
  obtain ⟨c5, i5, hk5⟩ := u_known (C := RX5) (T := TX5) (N := 14) (n := 14) hts9 inlX5 (hts9 (.instantiable RX5 14) (List.mem_of_getElem? (i := 4) (by decide +kernel)))
  obtain ⟨cI, hI1, hI2⟩ := st_arr (hts9 (.arrayClass .int) (List.mem_of_getElem? (i := 32) (by decide +kernel)))
  obtain ⟨cC, hC1, hC2⟩ := st_arr (hts9 (.arrayClass .char) (List.mem_of_getElem? (i := 50) (by decide +kernel)))
  obtain ⟨cS, hS1, hS2⟩ := st_arq (hts _ (tb_in (List.mem_of_getElem? (a := Cond.arrayOver (.object "SpiralFrames$State")) (i := 54) (by decide +kernel))))
  refine ⟨(fun k => if k = 0 then c0 else if k = 1 then c1 else if k = 2 then c2 else if k = 3 then c3 else if k = 4 then c4 else c5, fun k => if k = 0 then i0 else if k = 1 then i1 else if k = 2 then i2 else if k = 3 then i3 else if k = 4 then i4 else i5), cI, cC, cS, ?_, ?_⟩
  · intro k q hq
    match k, hq with
    | 0, hq => cases hq; exact hk0
    | 1, hq => cases hq; exact hk1
    | 2, hq => cases hq; exact hk2
    | 3, hq => cases hq; exact hk3
    | 4, hq => cases hq; exact hk4
    | 5, hq => cases hq; exact hk5
    | k + 6, hq => simp [vwCl] at hq
  · intro k q hq
    match k, hq with
    | 0, hq => cases hq; exact ⟨hI1, hI2⟩
    | 1, hq => cases hq; exact ⟨hC1, hC2⟩
    | 2, hq => cases hq; exact ⟨hS1, hS2⟩
    | k + 3, hq => simp [x_ty] at hq
set_option maxHeartbeats 4000000 in
set_option maxRecDepth 100000 in
/-- the law, from its entry -/
theorem whole_start {p : Program} {e : Env} {s : State} {m : MethodId} {below : List Frame} {meth : Method} {c : Code} (l : Launch) (hflags : l.flags = flags0) {b L : Nat} {xs : Nat → Int32} (hL : L ≤ 3072) (C0 : lw_At p s m meth c b L xs) : W p l e room_1 s m #[Value.ref b] below meth c s.heap [] 0 0 (lw_Z below #[Value.ref b] s) (entryFrame m ([Value.ref b] : List Value).toArray 4) := by
  obtain ⟨hx, hb, hr, hml, hown, hts, hX, hbl, hlocks, hgv⟩ := id C0
  obtain ⟨A, hAe⟩ : ∃ A : Nat → Prop, A = (fun q : Nat => s.heap.size ≤ q) := ⟨_, rfl⟩
  have hA : ∀ q : Nat, s.heap.size ≤ q → A q := fun q h => by rw [hAe]; exact h
  have hbA : ¬ A b := by rw [hAe]; exact Nat.not_le.mpr hbl
  have hts9 : ∀ w ∈ wsL_law, w.before #[Value.ref b] s = true := fun w h => hts w (wsL_law_in w h)
  obtain ⟨Dg, cI, cC, cS, hK⟩ := st_K hts
  obtain ⟨tt, hE⟩ := st_E (A := A) hts hgv (fun a ha => by rw [hAe]; exact Nat.not_le.mpr ha)
  have hS : va_S A s.heap s.heap [] := va_S.rf
  have hP : va_P Dg vwCl [] s.heap := fun k q h => by simp at h
  have hD : va_D A [] := ⟨fun i j p q h => by simp at h, fun k q h => by simp at h⟩
  have hl := lv_entry ([.ref b]) (n := 4) (Nat.le_of_ble_eq_true rfl)
  rw [lg_entry_eq]
  generalize (lg_sl ([.ref b]) ++ List.replicate (4 - (lg_sl ([.ref b])).length) Slot.unset).toArray = ls at hl ⊢
  have hl : lv_has ls 4 [(0, .ref b)] := hl
  refine va_new (ci := 4) (fs := [.null, .null, .int 0, .int 0, .null, .null, .null, .null, .null]) (C := RX4) (T := TX4) (N := 9) hx hb hts9 inlX4 tyX4 tyX4_ok hown (hts9 (.classLink RL 7 RX4) (List.mem_of_getElem? (i := 0) (by decide +kernel))) (hts9 (.instantiable RX4 9) (List.mem_of_getElem? (i := 1) (by decide +kernel))) (hts9 (.initialized RX4) (List.mem_of_getElem? (i := 2) (by decide +kernel))) hK hP hD hS hA rfl (fun j hj => by rcases (show j = 0 ∨ j = 1 ∨ j = 2 ∨ j = 3 ∨ j = 4 ∨ j = 5 ∨ j = 6 ∨ j = 7 ∨ j = 8 by omega) with rfl | rfl | rfl | rfl | rfl | rfl | rfl | rfl | rfl <;> rfl) (Nat.le_of_ble_eq_true rfl) (Nat.le_of_ble_eq_true rfl) dL_law_0 (fun x H hP hD hS => ?_)
  have hP : va_P Dg vwCl ([(x, .inr (4, [.null, .null, .int 0, .int 0, .null, .null, .null, .null, .null]))] ++ []) H := hP
  have hD : va_D A ([(x, .inr (4, [.null, .null, .int 0, .int 0, .null, .null, .null, .null, .null]))] ++ []) := hD
  refine W.widen (k := 1) (n := 9) (by omega) (by omega) ?_
  refine lv_dup hx hb dL_law_3 rfl ?_
  refine x_callPv hP hD hS hA (va_runI (As := []) (rest := [.ref x]) ⟨hx, hb, hml, hown, hts9⟩ (c_X4_init l Dg cI cC cS tt H.size x) (cwI 0 hts9 gL_law_X4_init rfl rfl rfl (hts9 (.initialized RX4) (List.mem_of_getElem? (i := 2) (by decide +kernel))) (hts9 (.methodLink RL 9 yX4_init) (List.mem_of_getElem? (i := 6) (by decide +kernel))) (hts9 (.instanceMethod yX4_init) (List.mem_of_getElem? (i := 7) (by decide +kernel))) rfl (by decide +kernel) ⟨Nat.le_of_ble_eq_true rfl, Nat.le_of_ble_eq_true rfl⟩) ⟨x_blindW, x_preP hP hD hK hE hS hA⟩ rfl rfl hl.1 rfl (lv_room (Nat.le_of_ble_eq_true rfl)) dL_law_4 ⟨Nat.le_of_ble_eq_true rfl, Nat.le_of_ble_eq_true rfl⟩) (fun w1 H locs hw hP hD hS => ?_)
  obtain ⟨w, hwe, hXS⟩ : ∃ w : va_W, w = w1 ∧ XS cI cC cS x (fun _ => 0) (fun _ => 0) (fun _ => 0) (upd (fun _ => 0) 0 200) (fun _ => 0) 0 0 (fun _ => none) (fun _ => []) .null [] 0 (fun _ => 0) w := by
    obtain ⟨u0, u1, u2, u3, u4, u5, u6, u7, u8, hy, og, sg, pr, fg, f1, b0, b1, cg, rfl⟩ := hw
    refine ⟨_, rfl, u0, u1, u2, u3, u4, u5, u6, u7, u8, hy, og, fg, b0, cg, sg, pr, f1, b1, 0, 0, (fun _ => 0), (fun _ => 0), (fun _ => 0), (fun _ => 0), ?_⟩
    rw [show hwL (fun _ => ([] : va_W)) ++ ([] : va_W) = [] from rfl, List.append_nil]
    exact List.Perm.refl _
  subst hwe
  have hP : va_P Dg vwCl w H := by rw [List.append_nil] at hP; exact hP
  have hD : va_D A w := by rw [List.append_nil] at hD; exact hD
  refine lv_astore_n (lv' := [(1, .ref x), (0, .ref b)]) hx hb dL_law_7 rfl hl (by decide) rfl (fun ls hl => ?_)
  refine va_new (ci := 5) (fs := [.null, .null, .int 0, .null, .int 0, .null, .null, .null, .null, .int 0, .null, .int 0, .int 0, .null]) (C := RX5) (T := TX5) (N := 14) hx hb hts9 inlX5 tyX5 tyX5_ok hown (hts9 (.classLink RL 10 RX5) (List.mem_of_getElem? (i := 3) (by decide +kernel))) (hts9 (.instantiable RX5 14) (List.mem_of_getElem? (i := 4) (by decide +kernel))) (hts9 (.initialized RX5) (List.mem_of_getElem? (i := 5) (by decide +kernel))) hK hP hD hS hA rfl (fun j hj => by rcases (show j = 0 ∨ j = 1 ∨ j = 2 ∨ j = 3 ∨ j = 4 ∨ j = 5 ∨ j = 6 ∨ j = 7 ∨ j = 8 ∨ j = 9 ∨ j = 10 ∨ j = 11 ∨ j = 12 ∨ j = 13 by omega) with rfl | rfl | rfl | rfl | rfl | rfl | rfl | rfl | rfl | rfl | rfl | rfl | rfl | rfl <;> rfl) (Nat.le_of_ble_eq_true rfl) (Nat.le_of_ble_eq_true rfl) dL_law_8 (fun mm H hP hD hS => ?_)
  have hP : va_P Dg vwCl ([(mm, .inr (5, [.null, .null, .int 0, .null, .int 0, .null, .null, .null, .null, .int 0, .null, .int 0, .int 0, .null]))] ++ w) H := x_comm.1 hP
  have hD : va_D A ([(mm, .inr (5, [.null, .null, .int 0, .null, .int 0, .null, .null, .null, .null, .int 0, .null, .int 0, .int 0, .null]))] ++ w) := x_commD.1 hD
  refine lv_dup hx hb dL_law_11 rfl ?_
  refine x_callPv hP hD hS hA (va_runI (As := []) (rest := [.ref mm]) ⟨hx, hb, hml, hown, hts9⟩ (c_X5_init l Dg cI cC cS tt H.size mm) (cwI 0 hts9 gL_law_X5_init rfl rfl rfl (hts9 (.initialized RX5) (List.mem_of_getElem? (i := 5) (by decide +kernel))) (hts9 (.methodLink RL 12 yX5_init) (List.mem_of_getElem? (i := 60) (by decide +kernel))) (hts9 (.instanceMethod yX5_init) (List.mem_of_getElem? (i := 61) (by decide +kernel))) rfl (by decide +kernel) ⟨Nat.le_of_ble_eq_true rfl, Nat.le_of_ble_eq_true rfl⟩) ⟨x_blindW, x_preP hP hD hK hE hS hA⟩ rfl rfl hl.1 rfl (lv_room (Nat.le_of_ble_eq_true rfl)) dL_law_12 ⟨Nat.le_of_ble_eq_true rfl, Nat.le_of_ble_eq_true rfl⟩) (fun w1 H locs hw hP hD hS => ?_)
  obtain ⟨v, hve, hMS⟩ : ∃ v : va_W, v = w1 ∧ MS cI cC mm (fun _ => 0) (fun _ => 0) (fun _ => 0) (upd (fun _ => 0) 0 200) (nI (min 0 8)) (fun _ => 0) 0 (fun _ => 0) 0 (fun _ => 0) 0 (fun _ => 0) v := by
    obtain ⟨mn, mh, ms, mr, md, mo, mc, mt, mq, rfl⟩ := hw
    exact ⟨_, rfl, mn, mh, ms, mr, md, mo, mc, mt, mq, 0, 0, (fun _ => 0), (fun _ => 0), (fun _ => 0), List.Perm.refl _⟩
  subst hve
  refine lv_astore_n (lv' := [(2, .ref mm), (1, .ref x), (0, .ref b)]) hx hb dL_law_15 rfl hl (by decide) rfl (fun ls hl => ?_)
  refine lv_iconst (v := nI (6 * 0)) hx hb dL_law_16 (by decide) ?_
  refine lv_istore_n (lv' := [(3, .int (nI (6 * 0))), (2, .ref mm), (1, .ref x), (0, .ref b)]) hx hb dL_law_17 rfl hl (by decide) rfl (fun ls hl => ?_)
  refine W.widen (k := 29 + 9 * 0) (n := 4866 + 585 * 0) (Nat.le_of_ble_eq_true rfl) (Nat.le_of_ble_eq_true rfl) ?_
  subst hAe
  exact law_loop (tt := tt) ⟨hx, hb, hml, hown, hts9, hK, hE, hA, hX, hbl, hbA, hL⟩ hr hlocks (L + 1) 0 (by omega) (by omega) w v H locs ls ⟨_, _, _, _, _, _, _, _, _, _, _, _, _, _, _, _, _, _, gd_0, HI_0, Or.inl ⟨rfl, rfl, rfl⟩, Nat.zero_le _, hXS, hMS⟩ (x_comm.1 hP) (x_commD.1 hD) hS (lv_sub hl [3, 2, 1, 0] rfl)
