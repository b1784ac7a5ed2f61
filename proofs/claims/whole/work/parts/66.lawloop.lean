def R_law : String := "SpiralFramesLaw"
def lw_P (b : Addr) (xs : List Int32) (args : Array Value) (s : State) : Prop := args = #[.ref b] ∧ s.IntsAt b xs ∧ xs.length ≤ 3072 ∧ (Jvm.Cond.and given_1 narrow_1).before args s = true
def lw_Q (_ : Array Value) (s : State) (o : Outcome) (t : State) : Prop := o = .returned (some (.int 1)) ∧ Framed s o t [] 600000 7302250
def lw_Z (below : List Frame) (a : Array Value) (s : State) : State → Prop := fun t => ∃ o, t.status = .running ∧ Ended t below o ∧ lw_Q a s o t
/-- the law's own end, with 1 on the stack, nothing written that was there before, its room as the claim has it -/
theorem lw_ret {p : Program} {l : Launch} {e : Env} {s : State} {m : MethodId} {below : List Frame} {meth : Method} {c : Code} {b : Nat} (hx : p.tables.exec = Jvm.exec) (hb : c.code = code) (hr : meth.sig.returnType = ret) (hlocks : meth.locks = false) {pc : Nat} {H : Heap} {ls : Array Slot} (hdg : decode code pc = .ok (.ireturn, 1)) : W p l e room_1 s m #[Value.ref b] below meth c H [] 600000 7302250 (lw_Z below #[Value.ref b] s) (F0 m pc ls [.int 1]) := by
  intro T hT X
  obtain ⟨fs, hret, hrun, hended, hW, hframe⟩ := X.leave (v := some (.int 1)) (hlocks := hlocks) (fun h => by rw [hr] at h; cases h)
  have hmeth' : T.vm.method? m = some meth := X.method'
  refine ⟨T.setFrames fs, ?_, .returned (some (.int 1)), hrun, hended, rfl, ⟨_, rfl⟩, hW, hframe⟩
  jvm_step X.here [X.here.top, hx, hb, hdg, hmeth', hr, ret, narrow_b1]
  (try refine ⟨rfl, ?_⟩); (try refine ⟨rfl, ?_⟩)
  first | (intro acts; rw [hret _ acts rfl rfl rfl]) | rw [hret _ _ rfl rfl rfl]
  exact Steps.refl _
/-- what holds at the law's entry: the machine, the code, the tables' words (any of lw_tbl by 'hts w (by decide +kernel)'), the script of L ints xs at the cell b, what the Statement gives of the start (any of its parts by flat_of_before) -/
def lw_At (p : Program) (s : State) (m : MethodId) (meth : Method) (c : Code) (b L : Nat) (xs : Nat → Int32) : Prop :=
  p.tables.exec = Jvm.exec ∧ c.code = code ∧ meth.sig.returnType = ret ∧ c.maxLocals = 4 ∧ s.vm.findClass R_law = some m.cls ∧ (∀ w ∈ lw_tbl, w.before #[Value.ref b] s = true) ∧ va_X b L xs s s.heap ∧ b < s.heap.size ∧ meth.locks = false ∧ (Jvm.Cond.and given_1 narrow_1).before #[Value.ref b] s = true
/-! ===== the loop ===== -/
set_option maxHeartbeats 4000000 in
set_option maxRecDepth 100000 in
theorem law_loop {p : Program} {l : Launch} {e : Env} {s : State} {m : MethodId} {below : List Frame} {meth : Method} {c : Code} {b L : Nat} {xs : Nat → Int32} {Dg : va_G} {cI cC cS : ClassId} {tt : Nat → Nat} {x mm : Nat} (C0 : LCtx p s m c b L xs Dg (fun q : Nat => s.heap.size ≤ q) cI cC cS tt) (hr : meth.sig.returnType = ret) (hlocks : meth.locks = false) :
    ∀ (f n : Nat), L < 6 * n + f → 6 * n ≤ L → ∀ (w v : va_W) (H : Heap) (locs : List Loc) (ls : Array Slot), INV cI cC cS n x mm w v → va_P Dg vwCl (w ++ v) H → va_D (fun q : Nat => s.heap.size ≤ q) (w ++ v) → va_S (fun q : Nat => s.heap.size ≤ q) s.heap H locs → lv_has ls 4 [(0, .ref b), (1, .ref x), (2, .ref mm), (3, .int (nI (6 * n)))] → W p l e room_1 s m #[Value.ref b] below meth c H locs (29 + 9 * n) (4866 + 585 * n) (lw_Z below #[Value.ref b] s) (F0 m 18 ls []) := by
  intro f
  induction f with
  | zero =>
    intro n h1 h2
    exact absurd h1 (by omega)
  | succ f ih =>
    intro n h1 h2 w v H locs ls hI hP hD hS hl
    obtain ⟨hx, hb, hml, hown, hts, hK, hE, hA, hX, hbl, hbA, hL⟩ := id C0
    refine lv_iload_n hx hb dL_law_18 rfl (lv_at hl 3 rfl) ?_
    refine lv_aload_n hx hb dL_law_19 rfl (lv_at hl 0 rfl) ?_
    refine va_slen hx hb hX hbl hbA hS dL_law_20 ?_
    refine lv_bipush (v := 6) hx hb dL_law_21 (by decide) ?_
    refine lv_isub hx hb dL_law_23 ?_
    refine x_icmp_gt (tgt := 802) hx hb dL_law_24 (by decide) (X := ((6 * n : Nat) : Int)) (nI_toI (by omega)) (Y := (L : Int) - 6) (x_subI (x := Int32.ofNat L) (X := (L : Int)) (nI_toI (n := L) (by omega)) (by decide) (by omega) (by omega)) (fun c1 => ?_) (fun c1 => ?_)
    · skip
      refine lv_iconst (v := 1) hx hb dL_law_802 (by decide) ?_
      refine va_forget (fun q hq => hS.2.2 q hq) ?_
      refine W.widen (k := 600000) (n := 7302250) (by omega) (by omega) ?_
      exact lw_ret hx hb hr hlocks dL_law_803
    · have nx : ∀ (w1 v1 : va_W) (H1 : Heap) (locs1 : List Loc), INV cI cC cS (n + 1) x mm w1 v1 → va_P Dg vwCl (w1 ++ v1) H1 → va_D (fun q : Nat => s.heap.size ≤ q) (w1 ++ v1) → va_S (fun q : Nat => s.heap.size ≤ q) s.heap H1 locs1 → W p l e room_1 s m #[Value.ref b] below meth c H1 locs1 (29 + 9 * n + 9) (4866 + 585 * n + 585) (lw_Z below #[Value.ref b] s) (F0 m 796 ls []) := by
        intro w1 v1 H1 locs1 hI1 hP1 hD1 hS1
        refine lv_iinc (v := nI (6 * (n + 1))) (lv' := [(3, .int (nI (6 * (n + 1)))), (0, .ref b), (1, .ref x), (2, .ref mm)]) hx hb dL_law_796 hl (k := 3) rfl (by rw [show 6 * (n + 1) = 6 * n + 6 by omega]; exact nI_add (6 * n) 6) (by decide) rfl (fun ls1 hl1 => ?_)
        refine lv_goto (tgt := 18) hx hb dL_law_799 (by decide) ?_
        refine W.widen (k := 29 + 9 * (n + 1)) (n := 4866 + 585 * (n + 1)) (by omega) (by omega) ?_
        exact ih (n + 1) (by omega) (by omega) w1 v1 H1 locs1 ls1 hI1 hP1 hD1 hS1 (lv_sub hl1 [1, 2, 3, 0] rfl)
      refine lv_aload_n hx hb dL_law_27 rfl (lv_at hl 0 rfl) ?_
      refine lv_iload_n hx hb dL_law_28 rfl (lv_at hl 3 rfl) ?_
      refine va_sld hx hb hX hbl hbA hS (vp_in_nI (show 6 * n < L by omega) (by omega)) dL_law_29 ?_
      refine lv_bipush (v := 31) hx hb dL_law_30 (by decide) ?_
      refine lv_iand hx hb dL_law_32 ?_
      refine lv_topi (fun z ez => ?_)
      rcases (show z.toInt < 0 ∨ 21 < z.toInt ∨ z.toInt = 0 ∨ z.toInt = 1 ∨ z.toInt = 2 ∨ z.toInt = 3 ∨ z.toInt = 4 ∨ z.toInt = 5 ∨ z.toInt = 6 ∨ z.toInt = 7 ∨ z.toInt = 8 ∨ z.toInt = 9 ∨ z.toInt = 10 ∨ z.toInt = 11 ∨ z.toInt = 12 ∨ z.toInt = 13 ∨ z.toInt = 14 ∨ z.toInt = 15 ∨ z.toInt = 16 ∨ z.toInt = 17 ∨ z.toInt = 18 ∨ z.toInt = 19 ∨ z.toInt = 20 ∨ z.toInt = 21 by omega) with h | h | h | h | h | h | h | h | h | h | h | h | h | h | h | h | h | h | h | h | h | h | h | h
      · skip
        refine lv_tableOut (tgt := 796) hx hb dL_law_33 (Or.inl h) (by decide) ?_
        refine W.widen (k := 29 + 9 * n + 9) (n := 4866 + 585 * n + 585) (by omega) (by omega) ?_
        exact nx w v H locs (INV_mono hI) hP hD hS
      · skip
        refine lv_tableOut (tgt := 796) hx hb dL_law_33 (Or.inr h) (by decide) ?_
        refine W.widen (k := 29 + 9 * n + 9) (n := 4866 + 585 * n + 585) (by omega) (by omega) ?_
        exact nx w v H locs (INV_mono hI) hP hD hS
      · skip
        refine lv_tableIn (off := 103) (tgt := 136) hx hb dL_law_33 (by omega) (by omega) (by rw [h]; rfl) (by decide) ?_
        exact cs_set C0 hI (by omega) hl (by omega) hP hD hS (by omega) (by omega) nx
      · skip
        refine lv_tableIn (off := 146) (tgt := 179) hx hb dL_law_33 (by omega) (by omega) (by rw [h]; rfl) (by decide) ?_
        exact cs_fill C0 hI (by omega) hl (by omega) hP hD hS (by omega) (by omega) nx
      · skip
        refine lv_tableIn (off := 209) (tgt := 242) hx hb dL_law_33 (by omega) (by omega) (by rw [h]; rfl) (by decide) ?_
        exact cs_shift C0 hI (by omega) hl (by omega) hP hD hS (by omega) (by omega) nx
      · skip
        refine lv_tableIn (off := 242) (tgt := 275) hx hb dL_law_33 (by omega) (by omega) (by rw [h]; rfl) (by decide) ?_
        exact cs_paint C0 hI (by omega) hl (by omega) hP hD hS (by omega) (by omega) nx
      · skip
        refine lv_tableIn (off := 255) (tgt := 288) hx hb dL_law_33 (by omega) (by omega) (by rw [h]; rfl) (by decide) ?_
        exact cs_setNumber C0 hI (by omega) hl (by omega) hP hD hS (by omega) (by omega) nx
      · skip
        refine lv_tableIn (off := 288) (tgt := 321) hx hb dL_law_33 (by omega) (by omega) (by rw [h]; rfl) (by decide) ?_
        exact cs_send C0 hI (by omega) hl (by omega) hP hD hS (by omega) (by omega) nx
      · skip
        refine lv_tableIn (off := 327) (tgt := 360) hx hb dL_law_33 (by omega) (by omega) (by rw [h]; rfl) (by decide) ?_
        exact cs_sendKeyed C0 hI (by omega) hl (by omega) hP hD hS (by omega) (by omega) nx
      · skip
        refine lv_tableIn (off := 366) (tgt := 399) hx hb dL_law_33 (by omega) (by omega) (by rw [h]; rfl) (by decide) ?_
        exact cs_type C0 hI (by omega) hl (by omega) hP hD hS (by omega) (by omega) nx
      · skip
        refine lv_tableIn (off := 391) (tgt := 424) hx hb dL_law_33 (by omega) (by omega) (by rw [h]; rfl) (by decide) ?_
        exact cs_clearText C0 hI (by omega) hl (by omega) hP hD hS (by omega) (by omega) nx
      · skip
        refine lv_tableIn (off := 404) (tgt := 437) hx hb dL_law_33 (by omega) (by omega) (by rw [h]; rfl) (by decide) ?_
        exact cs_undo C0 hI (by omega) hl (by omega) hP hD hS (by omega) (by omega) nx
      · skip
        refine lv_tableIn (off := 417) (tgt := 450) hx hb dL_law_33 (by omega) (by omega) (by rw [h]; rfl) (by decide) ?_
        exact cs_keep C0 hI (by omega) hl (by omega) hP hD hS (by omega) (by omega) nx
      · skip
        refine lv_tableIn (off := 430) (tgt := 463) hx hb dL_law_33 (by omega) (by omega) (by rw [h]; rfl) (by decide) ?_
        exact cs_restore C0 hI (by omega) hl (by omega) hP hD hS (by omega) (by omega) nx
      · skip
        refine lv_tableIn (off := 443) (tgt := 476) hx hb dL_law_33 (by omega) (by omega) (by rw [h]; rfl) (by decide) ?_
        exact cs_point C0 hI (by omega) hl (by omega) hP hD hS (by omega) (by omega) nx
      · skip
        refine lv_tableIn (off := 486) (tgt := 519) hx hb dL_law_33 (by omega) (by omega) (by rw [h]; rfl) (by decide) ?_
        exact cs_difference C0 hI (by omega) hl (by omega) hP hD hS (by omega) (by omega) nx
      · skip
        refine lv_tableIn (off := 529) (tgt := 562) hx hb dL_law_33 (by omega) (by omega) (by rw [h]; rfl) (by decide) ?_
        exact cs_spiral C0 hI (by omega) hl (by omega) hP hD hS (by omega) (by omega) nx
      · skip
        refine lv_tableIn (off := 562) (tgt := 595) hx hb dL_law_33 (by omega) (by omega) (by rw [h]; rfl) (by decide) ?_
        exact cs_wouldCode C0 hI (by omega) hl (by omega) hP hD hS (by omega) (by omega) nx
      · skip
        refine lv_tableIn (off := 605) (tgt := 638) hx hb dL_law_33 (by omega) (by omega) (by rw [h]; rfl) (by decide) ?_
        exact cs_wouldSpend C0 hI (by omega) hl (by omega) hP hD hS (by omega) (by omega) nx
      · skip
        refine lv_tableIn (off := 628) (tgt := 661) hx hb dL_law_33 (by omega) (by omega) (by rw [h]; rfl) (by decide) ?_
        exact cs_wouldNeed C0 hI (by omega) hl (by omega) hP hD hS (by omega) (by omega) nx
      · skip
        refine lv_tableIn (off := 641) (tgt := 674) hx hb dL_law_33 (by omega) (by omega) (by rw [h]; rfl) (by decide) ?_
        exact cs_best C0 hI (by omega) hl (by omega) hP hD hS (by omega) (by omega) nx
      · skip
        refine lv_tableIn (off := 674) (tgt := 707) hx hb dL_law_33 (by omega) (by omega) (by rw [h]; rfl) (by decide) ?_
        exact cs_frame C0 hI (by omega) hl (by omega) hP hD hS (by omega) (by omega) nx
      · skip
        refine lv_tableIn (off := 707) (tgt := 740) hx hb dL_law_33 (by omega) (by omega) (by rw [h]; rfl) (by decide) ?_
        exact cs_sent C0 hI (by omega) hl (by omega) hP hD hS (by omega) (by omega) nx
      · skip
        refine lv_tableIn (off := 740) (tgt := 773) hx hb dL_law_33 (by omega) (by omega) (by rw [h]; rfl) (by decide) ?_
        exact cs_count C0 hI (by omega) hl (by omega) hP hD hS (by omega) (by omega) nx
