/-! ===== pure words of the finder: the first place, the best one, the tolerance ===== -/
def fsQ (P : Nat → Bool) : Nat → Nat → Nat
  | p, 0 => p
  | p, n + 1 => if P p = true then p else fsQ P (p + 1) n
theorem fsQ_t {P : Nat → Bool} {p n : Nat} (hn : 0 < n) (h : P p = true) : fsQ P p n = p := by
  obtain ⟨m, rfl⟩ : ∃ m, n = m + 1 := ⟨n - 1, by omega⟩
  unfold fsQ
  rw [if_pos h]
theorem fsQ_f {P : Nat → Bool} {p n : Nat} (hn : 0 < n) (h : ¬ P p = true) : fsQ P p n = fsQ P (p + 1) (n - 1) := by
  obtain ⟨m, rfl⟩ : ∃ m, n = m + 1 := ⟨n - 1, by omega⟩
  conv => lhs; unfold fsQ
  rw [if_neg h]
  rfl
theorem fsQ_le {P : Nat → Bool} : ∀ (n p : Nat), p ≤ fsQ P p n ∧ fsQ P p n ≤ p + n
  | 0, p => by unfold fsQ; omega
  | n + 1, p => by
    by_cases h : P p = true
    · rw [fsQ_t (by omega) h]; omega
    · rw [fsQ_f (by omega) h]
      have := fsQ_le (P := P) n (p + 1)
      simp only [Nat.add_sub_cancel]
      omega
theorem fsQ_c {P P' : Nat → Bool} : ∀ (n p : Nat), (∀ j, p ≤ j → j < p + n → P j = P' j) → fsQ P p n = fsQ P' p n
  | 0, p, _ => by unfold fsQ; rfl
  | n + 1, p, h => by
    unfold fsQ
    rw [h p (by omega) (by omega), fsQ_c n (p + 1) (fun j h1 h2 => h j (by omega) (by omega))]
/-- what is told if the search ends ahead of its end -/
theorem fsQ_hit {P : Nat → Bool} : ∀ (n p : Nat), fsQ P p n < p + n → P (fsQ P p n) = true
  | 0, p, h => by unfold fsQ at h; omega
  | n + 1, p, h => by
    by_cases h1 : P p = true
    · rw [fsQ_t (by omega) h1]; exact h1
    · rw [fsQ_f (by omega) h1] at h ⊢
      exact fsQ_hit n (p + 1) (by simp only [Nat.add_sub_cancel] at h; omega)
/-- the difference of a tile by a place; 1000 beyond the screen -/
def dfv (dr sc : Nat → Int32) (t p : Nat) : Int32 := if wIn t p then tdS dr sc t p else 1000
def dtF (df dr sc : Nat → Int32) (t n : Nat) : Nat → Int32 := fun k => if t * 25 ≤ k ∧ k < t * 25 + n then dfv dr sc t (k - t * 25) else df k
def daF (df dr sc : Nat → Int32) (n : Nat) : Nat → Int32 := fun k => if k < n * 25 then dfv dr sc (k / 25) (k % 25) else df k
theorem dtF_0 {df dr sc : Nat → Int32} {t : Nat} : df = dtF df dr sc t 0 := by
  funext k; unfold dtF; rw [if_neg (by omega)]
theorem dtF_s {df dr sc : Nat → Int32} {t n : Nat} {v : Int32} (h : v = dfv dr sc t n) : upd (dtF df dr sc t n) (t * 25 + n) v = dtF df dr sc t (n + 1) := by
  funext k
  unfold upd dtF
  by_cases hk : k = t * 25 + n
  · rw [if_pos hk, if_pos (by omega), h, show k - t * 25 = n by omega]
  · rw [if_neg hk]
    by_cases hc : t * 25 ≤ k ∧ k < t * 25 + n
    · rw [if_pos hc, if_pos (by omega)]
    · rw [if_neg hc, if_neg (by omega)]
theorem daF_0 {df dr sc : Nat → Int32} : df = daF df dr sc 0 := by
  funext k; unfold daF; rw [if_neg (by omega)]
theorem daF_s {df dr sc : Nat → Int32} {t : Nat} : dtF (daF df dr sc t) dr sc t 25 = daF df dr sc (t + 1) := by
  funext k
  unfold dtF daF
  by_cases hc : t * 25 ≤ k ∧ k < t * 25 + 25
  · rw [if_pos hc, if_pos (by omega), show k / 25 = t by omega, show k - t * 25 = k % 25 by omega]
  · rw [if_neg hc]
    by_cases h2 : k < t * 25
    · rw [if_pos h2, if_pos (by omega)]
    · rw [if_neg h2, if_neg (by omega)]
theorem daF_at {df dr sc : Nat → Int32} {t p : Nat} (ht : t < 9) (hp : p < 25) : daF df dr sc 9 (t * 25 + p) = dfv dr sc t p := by
  unfold daF
  rw [if_pos (by omega), show (t * 25 + p) / 25 = t by omega, show (t * 25 + p) % 25 = p by omega]
theorem dtF_at {df dr sc : Nat → Int32} {t p : Nat} (hp : p < 25) : dtF df dr sc t 25 (t * 25 + p) = dfv dr sc t p := by
  unfold dtF
  rw [if_pos (by omega), show t * 25 + p - t * 25 = p by omega]
abbrev cdP (df : Nat → Int32) (t : Nat) (Tl : Int) : Nat → Bool := fun p => decide ((df (t * 25 + p)).toInt ≤ Tl)
def cdQ (df : Nat → Int32) (t : Nat) (Tl : Int) : Nat := fsQ (cdP df t Tl) 0 25
theorem cdQ_le {df : Nat → Int32} {t : Nat} {Tl : Int} : cdQ df t Tl ≤ 25 := (fsQ_le 25 0).2
def bwQ (df : Nat → Int32) (Tl : Int) : Int32 := sm (fun t => nI (btN (cdQ df t Tl))) 9
abbrev ntP (df : Nat → Int32) (Sp : Int) : Nat → Bool := fun t => decide ((bwQ df ((t : Nat) : Int)).toInt ≤ Sp)
def ntQ (df : Nat → Int32) (Ls : Nat) (Sp : Int) : Nat := fsQ (ntP df Sp) Ls (240 - Ls)
def bsN (g : Nat → Int32) : Nat → Nat
  | 0 => 0
  | n + 1 => if (g (n + 1)).toInt < (g (bsN g n)).toInt then n + 1 else bsN g n
theorem bsN_le (g : Nat → Int32) : ∀ n, bsN g n ≤ n
  | 0 => Nat.le_refl 0
  | n + 1 => by
    unfold bsN
    have := bsN_le g n
    split <;> omega
theorem bsN_s {g : Nat → Int32} {n : Nat} (hn : 0 < n) : bsN g n = if (g n).toInt < (g (bsN g (n - 1))).toInt then n else bsN g (n - 1) := by
  obtain ⟨m, rfl⟩ : ∃ m, n = m + 1 := ⟨n - 1, by omega⟩
  rfl
theorem x_xor {a b : Nat} (ha : a < 2147483648) (hb : b < 2147483648) : 0 ≤ (nI a ^^^ nI b).toInt := by
  have e : nI a ^^^ nI b = nI (a ^^^ b) := by
    apply Int32.toBitVec_inj.mp
    show (nI a).toBitVec ^^^ (nI b).toBitVec = (nI (a ^^^ b)).toBitVec
    show BitVec.ofNat 32 a ^^^ BitVec.ofNat 32 b = BitVec.ofNat 32 (a ^^^ b)
    rw [BitVec.ofNat_xor]
  have h : a ^^^ b < 2 ^ 31 := Nat.xor_lt_two_pow (by omega) (by omega)
  rw [e, nI_toI (by omega)]
  omega
set_option maxHeartbeats 4000000 in
set_option maxRecDepth 100000 in
theorem c_X0_differenceAt (l : Launch) (D : va_G) (cI cC cS : ClassId) (tt : Nat → Nat) (q0 : Nat) (q1 : Nat) (T : Nat) (P : Nat) (df : Nat → Int32) (hh0 : T < 9) (hh1 : P < 25) : Met l yX0_differenceAt wsX0_differenceAt ({ frames := 1, cells := 0, slots := 0, locals := 22 } : Room) (x_PR D cI cC cS tt [(q0, .inr (0, [.ref q1])), (q1, .inl (cI, 225, .inl (df)))] [.ref q0, .int (nI T), .int (nI P)]) (QcRead (df (T * 25 + P))) 0 0 (fun _ => False) := by
  refine Met.ofW (cc := cX0_differenceAt) (maxL := 4) (ret := (some .int)) (by decide) rfl ?_
  intro p e s m args below meth c s₁ hBd hml hv
  obtain ⟨rfl, hP, hK, hE⟩ := hv
  have hx := hBd.exec
  have hb := hBd.bytes
  have hr := hBd.returns
  have hts := atoms_spec (ws := wsX0_differenceAt) hBd.pre
  have hown : s.vm.findClass RX0 = some m.cls := findClass_of_methodNamed hBd.named
  have hlocks := hBd.notSynchronized
  have hS : va_S (fun _ => False) s.heap s.heap [] := va_S.rf
  have hl := lv_entry ([.ref q0, .int (nI T), .int (nI P)]) (n := 4) (Nat.le_of_ble_eq_true rfl)
  rw [lg_entry_eq]
  generalize (lg_sl ([.ref q0, .int (nI T), .int (nI P)]) ++ List.replicate (4 - (lg_sl ([.ref q0, .int (nI T), .int (nI P)])).length) Slot.unset).toArray = ls at hl ⊢
  have hl : lv_has ls 4 [(0, .ref q0), (1, .int (nI T)), (2, .int (nI P))] := hl
  refine x_genQ (fun Q hQ => ?_)
  refine lv_iload_n hx hb dX0_differenceAt_0 rfl (lv_at hl 1 rfl) ?_
  refine x_callR (va_runSN (As := [.int (nI T)]) (rest := []) ⟨hx, hb, hml, hown, hts⟩ (c_X4_isTile l D cI cC cS tt (nI T) ((T : Nat) : Int) (nI_toI (by omega))) ⟨(va_cnB 1 hts gX0_differenceAt_X4_isTile_n19 rfl rfl rfl (x_nestk hE.1 (w := .methodLinkNest RX0 19 yX4_isTile RX4) 24 rfl) (hts (.initialized RX4) (by decide +kernel)) (by decide +kernel) ⟨Nat.le_of_ble_eq_true rfl, Nat.le_of_ble_eq_true rfl⟩), hts (.static yX4_isTile) (by decide +kernel), trivial⟩ ⟨x_blindR, x_preR (hP.sub (ws' := []) [] rfl) hK hE hS⟩ rfl rfl hl.1 rfl (lv_room (Nat.le_of_ble_eq_true rfl)) dX0_differenceAt_1 ⟨(Nat.le_of_ble_eq_true rfl), (Nat.le_of_ble_eq_true rfl)⟩) ?_
  refine x_ifB_eq (tgt := 21) hx hb dX0_differenceAt_4 (by decide) (fun c_4 => ?_) (fun c_4 => ?_)
  · exfalso; omega
  refine lv_iload_n hx hb dX0_differenceAt_7 rfl (lv_at hl 2 rfl) ?_
  refine lv_iconst (v := 0) hx hb dX0_differenceAt_8 (by decide) ?_
  refine lv_bipush (v := 24) hx hb dX0_differenceAt_9 (by decide) ?_
  refine x_callR (va_runSN (As := [.int (nI P), .int 0, .int 24]) (rest := []) ⟨hx, hb, hml, hown, hts⟩ (c_X4_isBetween l D cI cC cS tt (nI P) ((P : Nat) : Int) (nI_toI (by omega)) 0 0 (show (0 : Int32).toInt = 0 from by decide) 24 24 (show (24 : Int32).toInt = 24 from by decide)) ⟨(va_cnB 3 hts gX0_differenceAt_X4_isBetween_n33 rfl rfl rfl (x_nestk hE.1 (w := .methodLinkNest RX0 33 yX4_isBetween RX4) 33 rfl) (hts (.initialized RX4) (by decide +kernel)) (by decide +kernel) ⟨Nat.le_of_ble_eq_true rfl, Nat.le_of_ble_eq_true rfl⟩), hts (.static yX4_isBetween) (by decide +kernel), trivial⟩ ⟨x_blindR, x_preR (hP.sub (ws' := []) [] rfl) hK hE hS⟩ rfl rfl hl.1 rfl (lv_room (Nat.le_of_ble_eq_true rfl)) dX0_differenceAt_11 ⟨(Nat.le_of_ble_eq_true rfl), (Nat.le_of_ble_eq_true rfl)⟩) ?_
  refine x_ifB_eq (tgt := 21) hx hb dX0_differenceAt_14 (by decide) (fun c_14 => ?_) (fun c_14 => ?_)
  · exfalso; omega
  refine lv_iconst (v := 1) hx hb dX0_differenceAt_17 (by decide) ?_
  refine lv_goto (tgt := 22) hx hb dX0_differenceAt_18 (by decide) ?_
  refine lv_istore_n (lv' := [(3, .int 1), (0, .ref q0), (1, .int (nI T)), (2, .int (nI P))]) hx hb dX0_differenceAt_22 rfl hl (by decide) rfl (fun ls hl => ?_)
  refine lv_iload_n hx hb dX0_differenceAt_23 rfl (lv_at hl 0 rfl) ?_
  refine lv_if_eq (tgt := 41) hx hb dX0_differenceAt_24 (by decide) (fun h => False.elim (by revert h; decide)) (fun _ => ?_)
  refine lv_aload_n hx hb dX0_differenceAt_27 rfl (lv_at hl 1 rfl) ?_
  refine va_get (v := .ref q1) (D := D) (ci := 0) (C := RX0) (T := TX0) (N := 1) hx hb hts (by decide +kernel) hown hK hP 0 rfl rfl 0 (by decide) (hts (.fieldLink RX0 9 "SpiralFrames$Finder" "differences" "[I") (by decide +kernel)) (fun _ h9 => h9) rfl dX0_differenceAt_28 ?_
  refine lv_iload_n hx hb dX0_differenceAt_31 rfl (lv_at hl 2 rfl) ?_
  refine lv_bipush (v := 25) hx hb dX0_differenceAt_32 (by decide) ?_
  refine lv_imul hx hb dX0_differenceAt_34 ?_
  refine x_eqi (show nI T * 25 = nI (T * 25) from pk_mul T 25) ?_
  refine lv_iload_n hx hb dX0_differenceAt_35 rfl (lv_at hl 3 rfl) ?_
  refine lv_iadd hx hb dX0_differenceAt_36 ?_
  refine x_eqi (show nI (T * 25) + nI P = nI ((T * 25) + P) from nI_add (T * 25) P) ?_
  refine x_iald hx hb hK hP 1 0 rfl rfl (k := (T * 25) + P) (by omega) (by decide) dX0_differenceAt_37 ?_
  refine lv_goto (tgt := 44) hx hb dX0_differenceAt_38 (by decide) ?_
  exact x_iretR hQ hx hb hr hlocks rfl dX0_differenceAt_44
set_option maxHeartbeats 4000000 in
set_option maxRecDepth 100000 in
theorem c_X0_compareTile (l : Launch) (D : va_G) (cI cC cS : ClassId) (tt : Nat → Nat) (sz : Nat) (q0 : Nat) (q1 : Nat) (d0 : Nat) (d1 : Nat) (e0 : Nat) (e1 : Nat) (T : Nat) (df : Nat → Int32) (dr : Nat → Int32) (sc : Nat → Int32) (hh0 : T < 9) : Met l yX0_compareTile wsX0_compareTile ({ frames := 3, cells := 0, slots := 0, locals := 73 } : Room) (x_PW D cI cC cS tt [(q0, .inr (0, [.ref q1])), (q1, .inl (cI, 225, .inl (df))), (d0, .inr (2, [.ref d1])), (d1, .inl (cI, 144, .inl (dr))), (e0, .inr (2, [.ref e1])), (e1, .inl (cI, 144, .inl (sc)))] sz [.ref q0, .ref d0, .ref e0, .int (nI T)]) (x_QWv D [(q0, .inr (0, [.ref q1])), (q1, .inl (cI, 225, .inl (df))), (d0, .inr (2, [.ref d1])), (d1, .inl (cI, 144, .inl (dr))), (e0, .inr (2, [.ref e1])), (e1, .inl (cI, 144, .inl (sc)))] sz (fun (w : va_W) => w = [(q0, .inr (0, [.ref q1])), (q1, .inl (cI, 225, .inl (dtF df dr sc T 25))), (d0, .inr (2, [.ref d1])), (d1, .inl (cI, 144, .inl (dr))), (e0, .inr (2, [.ref e1])), (e1, .inl (cI, 144, .inl (sc)))])) 0 0 (va_A [(q0, .inr (0, [.ref q1])), (q1, .inl (cI, 225, .inl (df))), (d0, .inr (2, [.ref d1])), (d1, .inl (cI, 144, .inl (dr))), (e0, .inr (2, [.ref e1])), (e1, .inl (cI, 144, .inl (sc)))] sz) := by
  refine Met.ofW (cc := cX0_compareTile) (maxL := 5) (ret := none) (by decide) rfl ?_
  intro p e s m args below meth c s₁ hBd hml hv
  obtain ⟨rfl, hsz, hP, hK, hD0, hE⟩ := hv
  have hx := hBd.exec
  have hb := hBd.bytes
  have hr := hBd.returns
  have hts := atoms_spec (ws := wsX0_compareTile) hBd.pre
  have hown : s.vm.findClass RX0 = some m.cls := findClass_of_methodNamed hBd.named
  have hlocks := hBd.notSynchronized
  subst hsz
  obtain ⟨Ar, hAe⟩ : ∃ Ar : Nat → Prop, Ar = va_A [(q0, .inr (0, [.ref q1])), (q1, .inl (cI, 225, .inl (df))), (d0, .inr (2, [.ref d1])), (d1, .inl (cI, 144, .inl (dr))), (e0, .inr (2, [.ref e1])), (e1, .inl (cI, 144, .inl (sc)))] s.heap.size := ⟨_, rfl⟩
  have hD : va_D Ar [(q0, .inr (0, [.ref q1])), (q1, .inl (cI, 225, .inl (df))), (d0, .inr (2, [.ref d1])), (d1, .inl (cI, 144, .inl (dr))), (e0, .inr (2, [.ref e1])), (e1, .inl (cI, 144, .inl (sc)))] := by rw [hAe]; exact hD0.self
  have hA : ∀ q : Nat, s.heap.size ≤ q → Ar q := fun q h => by rw [hAe]; exact Or.inr h
  have hE : x_E tt Ar s := by rw [hAe]; exact hE
  have hS : va_S Ar s.heap s.heap [] := va_S.rf
  have hl := lv_entry ([.ref q0, .ref d0, .ref e0, .int (nI T)]) (n := 5) (Nat.le_of_ble_eq_true rfl)
  rw [lg_entry_eq]
  generalize (lg_sl ([.ref q0, .ref d0, .ref e0, .int (nI T)]) ++ List.replicate (5 - (lg_sl ([.ref q0, .ref d0, .ref e0, .int (nI T)])).length) Slot.unset).toArray = ls at hl ⊢
  have hl : lv_has ls 5 [(0, .ref q0), (1, .ref d0), (2, .ref e0), (3, .int (nI T))] := hl
  refine x_genQ (fun Q hQ => ?_)
  refine lv_iload_n hx hb dX0_compareTile_0 rfl (lv_at hl 3 rfl) ?_
  refine x_callR (va_runSN (As := [.int (nI T)]) (rest := []) ⟨hx, hb, hml, hown, hts⟩ (c_X4_isTile l D cI cC cS tt (nI T) ((T : Nat) : Int) (nI_toI (by omega))) ⟨(va_cnB 1 hts gX0_compareTile_X4_isTile_n19 rfl rfl rfl (x_nestk hE.1 (w := .methodLinkNest RX0 19 yX4_isTile RX4) 24 rfl) (hts (.initialized RX4) (by decide +kernel)) (by decide +kernel) ⟨Nat.le_of_ble_eq_true rfl, Nat.le_of_ble_eq_true rfl⟩), hts (.static yX4_isTile) (by decide +kernel), trivial⟩ ⟨x_blindR, x_preR (hP.sub (ws' := []) [] rfl) hK hE hS⟩ rfl rfl hl.1 rfl (lv_room (Nat.le_of_ble_eq_true rfl)) dX0_compareTile_1 ⟨(Nat.le_of_ble_eq_true rfl), (Nat.le_of_ble_eq_true rfl)⟩) ?_
  refine x_ifB_ne (tgt := 8) hx hb dX0_compareTile_4 (by decide) (fun c_4 => ?_) (fun c_4 => ?_)
  rotate_left
  · exfalso; omega
  refine lv_iconst (v := 0) hx hb dX0_compareTile_8 (by decide) ?_
  refine lv_istore (lv' := [(4, .int 0), (0, .ref q0), (1, .ref d0), (2, .ref e0), (3, .int (nI T))]) hx hb dX0_compareTile_9 hl (by decide) rfl (fun ls hl => ?_)
  have L11 : ∀ (fuel : Nat) (pp : Nat) (f : Nat → Int32), pp ≤ 25 → f = dtF df dr sc T pp → 25 - pp < fuel → ∀ (H : Heap) (locs : List Loc), va_P D vwCl [(q0, .inr (0, [.ref q1])), (q1, .inl (cI, 225, .inl (f))), (d0, .inr (2, [.ref d1])), (d1, .inl (cI, 144, .inl (dr))), (e0, .inr (2, [.ref e1])), (e1, .inl (cI, 144, .inl (sc)))] H → va_D (Ar) [(q0, .inr (0, [.ref q1])), (q1, .inl (cI, 225, .inl (f))), (d0, .inr (2, [.ref d1])), (d1, .inl (cI, 144, .inl (dr))), (e0, .inr (2, [.ref e1])), (e1, .inl (cI, 144, .inl (sc)))] → va_S (Ar) s.heap H locs → ∀ (ls : Array Slot), lv_has ls 5 [(0, .ref q0), (1, .ref d0), (2, .ref e0), (3, .int (nI T)), (4, .int (nI pp))] → W p l e (headSpec wsX0_compareTile ({ frames := 3, cells := 0, slots := 0, locals := 73 } : Room)).room s m ([.ref q0, .ref d0, .ref e0, .int (nI T)] : List Value).toArray below meth c H locs 0 0 Q (F0 m 11 ls []) := by
    intro fuel
    induction fuel with
    | zero =>
      intro pp f hi11_0 hi11_1 hfu
      exact absurd hfu (Nat.not_lt_zero _)
    | succ fuel ih11 =>
      intro pp f hi11_0 hi11_1 hfu11 H locs hP hD hS ls hl
      refine lv_iload hx hb dX0_compareTile_11 (lv_at hl 4 rfl) ?_
      refine lv_bipush (v := 25) hx hb dX0_compareTile_13 (by decide) ?_
      refine x_icmp_ge (tgt := 59) hx hb dX0_compareTile_15 (by decide) (X := ((pp : Nat) : Int)) (nI_toI (by omega)) (Y := 25) (show (25 : Int32).toInt = 25 from by decide) (fun c_15 => ?_) (fun c_15 => ?_)
      · skip
        refine x_vretW (w := [(q0, .inr (0, [.ref q1])), (q1, .inl (cI, 225, .inl (f))), (d0, .inr (2, [.ref d1])), (d1, .inl (cI, 144, .inl (dr))), (e0, .inr (2, [.ref e1])), (e1, .inl (cI, 144, .inl (sc)))]) hQ hAe hx hb hr hlocks (hP.sub [0, 1, 2, 3, 4, 5] rfl) (hD.sub [0, 1, 2, 3, 4, 5] (by decide) rfl) hS ?_ dX0_compareTile_59
        rw [hi11_1, show pp = 25 by omega]
      · skip
        refine lv_aload_n hx hb dX0_compareTile_18 rfl (lv_at hl 0 rfl) ?_
        refine va_get (v := .ref q1) (D := D) (ci := 0) (C := RX0) (T := TX0) (N := 1) hx hb hts (by decide +kernel) hown hK hP 0 rfl rfl 0 (by decide) (hts (.fieldLink RX0 9 "SpiralFrames$Finder" "differences" "[I") (by decide +kernel)) (fun _ h9 => h9) rfl dX0_compareTile_19 ?_
        refine lv_iload_n hx hb dX0_compareTile_22 rfl (lv_at hl 3 rfl) ?_
        refine lv_bipush (v := 25) hx hb dX0_compareTile_23 (by decide) ?_
        refine lv_imul hx hb dX0_compareTile_25 ?_
        refine x_eqi (show nI T * 25 = nI (T * 25) from pk_mul T 25) ?_
        refine lv_iload hx hb dX0_compareTile_26 (lv_at hl 4 rfl) ?_
        refine lv_iadd hx hb dX0_compareTile_28 ?_
        refine x_eqi (show nI (T * 25) + nI pp = nI ((T * 25) + pp) from nI_add (T * 25) pp) ?_
        refine lv_iload_n hx hb dX0_compareTile_29 rfl (lv_at hl 3 rfl) ?_
        refine lv_iload hx hb dX0_compareTile_30 (lv_at hl 4 rfl) ?_
        refine x_callR (va_runSN (As := [.int (nI T), .int (nI pp)]) (rest := [.int (nI ((T * 25) + pp)), .ref q1]) ⟨hx, hb, hml, hown, hts⟩ (c_X4_isWithin l D cI cC cS tt T pp (by first | assumption | omega | decide) (by first | assumption | omega | decide)) ⟨(va_cnB 2 hts gX0_compareTile_X4_isWithin_n23 rfl rfl rfl (x_nestk hE.1 (w := .methodLinkNest RX0 23 yX4_isWithin RX4) 25 rfl) (hts (.initialized RX4) (by decide +kernel)) (by decide +kernel) ⟨Nat.le_of_ble_eq_true rfl, Nat.le_of_ble_eq_true rfl⟩), hts (.static yX4_isWithin) (by decide +kernel), trivial⟩ ⟨x_blindR, x_preR (hP.sub (ws' := []) [] rfl) hK hE hS⟩ rfl rfl hl.1 rfl (lv_room (Nat.le_of_ble_eq_true rfl)) dX0_compareTile_32 ⟨(Nat.le_of_ble_eq_true rfl), (Nat.le_of_ble_eq_true rfl)⟩) ?_
        refine x_ifB_eq (tgt := 49) hx hb dX0_compareTile_35 (by decide) (fun c_35 => ?_) (fun c_35 => ?_)
        · skip
          refine lv_sipush (v := 1000) hx hb dX0_compareTile_49 (by decide) ?_
          refine x_iast hx hb hK hP hD hS 1 0 rfl rfl (k := (T * 25) + pp) (by omega) (by decide) dX0_compareTile_52 (fun H locs hP hD hS => ?_)
          have hP : va_P D vwCl [(q0, .inr (0, [.ref q1])), (q1, .inl (cI, 225, .inl (upd f ((T * 25) + pp) 1000))), (d0, .inr (2, [.ref d1])), (d1, .inl (cI, 144, .inl (dr))), (e0, .inr (2, [.ref e1])), (e1, .inl (cI, 144, .inl (sc)))] H := hP
          have hD : va_D (Ar) [(q0, .inr (0, [.ref q1])), (q1, .inl (cI, 225, .inl (upd f ((T * 25) + pp) 1000))), (d0, .inr (2, [.ref d1])), (d1, .inl (cI, 144, .inl (dr))), (e0, .inr (2, [.ref e1])), (e1, .inl (cI, 144, .inl (sc)))] := hD
          refine lv_iinc (v := nI (pp + 1)) (lv' := [(4, .int (nI (pp + 1))), (0, .ref q0), (1, .ref d0), (2, .ref e0), (3, .int (nI T))]) hx hb dX0_compareTile_53 hl (k := 4) rfl (nI_add _ _) (by decide) rfl (fun ls hl => ?_)
          refine lv_goto (tgt := 11) hx hb dX0_compareTile_56 (by decide) ?_
          exact ih11 (pp + 1) (upd f ((T * 25) + pp) 1000) (by first | assumption | omega | rfl) (by rw [hi11_1]; refine dtF_s ?_; unfold dfv; first | rw [if_pos c_35] | rw [if_neg c_35]) (by omega) H locs (hP.sub [0, 1, 2, 3, 4, 5] rfl) (hD.sub [0, 1, 2, 3, 4, 5] (by decide) rfl) hS ls (lv_sub hl [1, 2, 3, 4, 0] rfl)
        · skip
          refine lv_aload_n hx hb dX0_compareTile_38 rfl (lv_at hl 1 rfl) ?_
          refine lv_aload_n hx hb dX0_compareTile_39 rfl (lv_at hl 2 rfl) ?_
          refine lv_iload_n hx hb dX0_compareTile_40 rfl (lv_at hl 3 rfl) ?_
          refine lv_iload hx hb dX0_compareTile_41 (lv_at hl 4 rfl) ?_
          refine x_callR (va_runVN (As := [.ref e0, .int (nI T), .int (nI pp)]) (rest := [.int (nI ((T * 25) + pp)), .ref q1]) ⟨hx, hb, hml, hown, hts⟩ (c_X2_tileDifference l D cI cC cS tt d0 d1 e0 e1 T pp dr sc (by first | assumption | omega | decide) (by first | assumption | omega | decide)) ⟨(va_cnB 3 hts gX0_compareTile_X2_tileDifference_n27 rfl rfl rfl (x_nestk hE.1 (w := .methodLinkNest RX0 27 yX2_tileDifference RX4) 26 rfl) (hts (.initialized RX2) (by decide +kernel)) (by decide +kernel) ⟨Nat.le_of_ble_eq_true rfl, Nat.le_of_ble_eq_true rfl⟩), hts (.instanceMethod yX2_tileDifference) (by decide +kernel), hts (.selects RX2 yX2_tileDifference yX2_tileDifference) (by decide +kernel)⟩ ⟨x_blindR, va_recv hK hP (ci := 2) (q0 := 2) rfl rfl, x_preR (hP.sub (ws' := [(d0, .inr (2, [.ref d1])), (d1, .inl (cI, 144, .inl (dr))), (e0, .inr (2, [.ref e1])), (e1, .inl (cI, 144, .inl (sc)))]) [2, 3, 4, 5] rfl) hK hE hS⟩ rfl rfl hl.1 rfl (lv_room (Nat.le_of_ble_eq_true rfl)) dX0_compareTile_43 ⟨(Nat.le_of_ble_eq_true rfl), (Nat.le_of_ble_eq_true rfl)⟩) ?_
          refine lv_goto (tgt := 52) hx hb dX0_compareTile_46 (by decide) ?_
          refine x_iast hx hb hK hP hD hS 1 0 rfl rfl (k := (T * 25) + pp) (by omega) (by decide) dX0_compareTile_52 (fun H locs hP hD hS => ?_)
          have hP : va_P D vwCl [(q0, .inr (0, [.ref q1])), (q1, .inl (cI, 225, .inl (upd f ((T * 25) + pp) (tdS dr sc T pp)))), (d0, .inr (2, [.ref d1])), (d1, .inl (cI, 144, .inl (dr))), (e0, .inr (2, [.ref e1])), (e1, .inl (cI, 144, .inl (sc)))] H := hP
          have hD : va_D (Ar) [(q0, .inr (0, [.ref q1])), (q1, .inl (cI, 225, .inl (upd f ((T * 25) + pp) (tdS dr sc T pp)))), (d0, .inr (2, [.ref d1])), (d1, .inl (cI, 144, .inl (dr))), (e0, .inr (2, [.ref e1])), (e1, .inl (cI, 144, .inl (sc)))] := hD
          refine lv_iinc (v := nI (pp + 1)) (lv' := [(4, .int (nI (pp + 1))), (0, .ref q0), (1, .ref d0), (2, .ref e0), (3, .int (nI T))]) hx hb dX0_compareTile_53 hl (k := 4) rfl (nI_add _ _) (by decide) rfl (fun ls hl => ?_)
          refine lv_goto (tgt := 11) hx hb dX0_compareTile_56 (by decide) ?_
          exact ih11 (pp + 1) (upd f ((T * 25) + pp) (tdS dr sc T pp)) (by first | assumption | omega | rfl) (by rw [hi11_1]; refine dtF_s ?_; unfold dfv; first | rw [if_pos c_35] | rw [if_neg c_35]) (by omega) H locs (hP.sub [0, 1, 2, 3, 4, 5] rfl) (hD.sub [0, 1, 2, 3, 4, 5] (by decide) rfl) hS ls (lv_sub hl [1, 2, 3, 4, 0] rfl)
  exact L11 _ 0 df (by first | assumption | omega | rfl) dtF_0 (Nat.lt_succ_self _) s.heap [] (hP.sub [0, 1, 2, 3, 4, 5] rfl) (hD.sub [0, 1, 2, 3, 4, 5] (by decide) rfl) hS ls (lv_sub hl [1, 2, 3, 4, 0] rfl)
set_option maxHeartbeats 4000000 in
set_option maxRecDepth 100000 in
theorem c_X0_compareAll (l : Launch) (D : va_G) (cI cC cS : ClassId) (tt : Nat → Nat) (sz : Nat) (q0 : Nat) (q1 : Nat) (d0 : Nat) (d1 : Nat) (e0 : Nat) (e1 : Nat) (df : Nat → Int32) (dr : Nat → Int32) (sc : Nat → Int32) : Met l yX0_compareAll wsX0_compareAll ({ frames := 4, cells := 0, slots := 0, locals := 97 } : Room) (x_PW D cI cC cS tt [(q0, .inr (0, [.ref q1])), (q1, .inl (cI, 225, .inl (df))), (d0, .inr (2, [.ref d1])), (d1, .inl (cI, 144, .inl (dr))), (e0, .inr (2, [.ref e1])), (e1, .inl (cI, 144, .inl (sc)))] sz [.ref q0, .ref d0, .ref e0]) (x_QWv D [(q0, .inr (0, [.ref q1])), (q1, .inl (cI, 225, .inl (df))), (d0, .inr (2, [.ref d1])), (d1, .inl (cI, 144, .inl (dr))), (e0, .inr (2, [.ref e1])), (e1, .inl (cI, 144, .inl (sc)))] sz (fun (w : va_W) => w = [(q0, .inr (0, [.ref q1])), (q1, .inl (cI, 225, .inl (daF df dr sc 9))), (d0, .inr (2, [.ref d1])), (d1, .inl (cI, 144, .inl (dr))), (e0, .inr (2, [.ref e1])), (e1, .inl (cI, 144, .inl (sc)))])) 0 0 (va_A [(q0, .inr (0, [.ref q1])), (q1, .inl (cI, 225, .inl (df))), (d0, .inr (2, [.ref d1])), (d1, .inl (cI, 144, .inl (dr))), (e0, .inr (2, [.ref e1])), (e1, .inl (cI, 144, .inl (sc)))] sz) := by
  refine Met.ofW (cc := cX0_compareAll) (maxL := 4) (ret := none) (by decide) rfl ?_
  intro p e s m args below meth c s₁ hBd hml hv
  obtain ⟨rfl, hsz, hP, hK, hD0, hE⟩ := hv
  have hx := hBd.exec
  have hb := hBd.bytes
  have hr := hBd.returns
  have hts := atoms_spec (ws := wsX0_compareAll) hBd.pre
  have hown : s.vm.findClass RX0 = some m.cls := findClass_of_methodNamed hBd.named
  have hlocks := hBd.notSynchronized
  subst hsz
  obtain ⟨Ar, hAe⟩ : ∃ Ar : Nat → Prop, Ar = va_A [(q0, .inr (0, [.ref q1])), (q1, .inl (cI, 225, .inl (df))), (d0, .inr (2, [.ref d1])), (d1, .inl (cI, 144, .inl (dr))), (e0, .inr (2, [.ref e1])), (e1, .inl (cI, 144, .inl (sc)))] s.heap.size := ⟨_, rfl⟩
  have hD : va_D Ar [(q0, .inr (0, [.ref q1])), (q1, .inl (cI, 225, .inl (df))), (d0, .inr (2, [.ref d1])), (d1, .inl (cI, 144, .inl (dr))), (e0, .inr (2, [.ref e1])), (e1, .inl (cI, 144, .inl (sc)))] := by rw [hAe]; exact hD0.self
  have hA : ∀ q : Nat, s.heap.size ≤ q → Ar q := fun q h => by rw [hAe]; exact Or.inr h
  have hE : x_E tt Ar s := by rw [hAe]; exact hE
  have hS : va_S Ar s.heap s.heap [] := va_S.rf
  have hl := lv_entry ([.ref q0, .ref d0, .ref e0]) (n := 4) (Nat.le_of_ble_eq_true rfl)
  rw [lg_entry_eq]
  generalize (lg_sl ([.ref q0, .ref d0, .ref e0]) ++ List.replicate (4 - (lg_sl ([.ref q0, .ref d0, .ref e0])).length) Slot.unset).toArray = ls at hl ⊢
  have hl : lv_has ls 4 [(0, .ref q0), (1, .ref d0), (2, .ref e0)] := hl
  refine x_genQ (fun Q hQ => ?_)
  refine lv_iconst (v := 0) hx hb dX0_compareAll_0 (by decide) ?_
  refine lv_istore_n (lv' := [(3, .int 0), (0, .ref q0), (1, .ref d0), (2, .ref e0)]) hx hb dX0_compareAll_1 rfl hl (by decide) rfl (fun ls hl => ?_)
  have L2 : ∀ (fuel : Nat) (tt9 : Nat) (f : Nat → Int32), tt9 ≤ 9 → f = daF df dr sc tt9 → 9 - tt9 < fuel → ∀ (H : Heap) (locs : List Loc), va_P D vwCl [(q0, .inr (0, [.ref q1])), (q1, .inl (cI, 225, .inl (f))), (d0, .inr (2, [.ref d1])), (d1, .inl (cI, 144, .inl (dr))), (e0, .inr (2, [.ref e1])), (e1, .inl (cI, 144, .inl (sc)))] H → va_D (Ar) [(q0, .inr (0, [.ref q1])), (q1, .inl (cI, 225, .inl (f))), (d0, .inr (2, [.ref d1])), (d1, .inl (cI, 144, .inl (dr))), (e0, .inr (2, [.ref e1])), (e1, .inl (cI, 144, .inl (sc)))] → va_S (Ar) s.heap H locs → ∀ (ls : Array Slot), lv_has ls 4 [(0, .ref q0), (1, .ref d0), (2, .ref e0), (3, .int (nI tt9))] → W p l e (headSpec wsX0_compareAll ({ frames := 4, cells := 0, slots := 0, locals := 97 } : Room)).room s m ([.ref q0, .ref d0, .ref e0] : List Value).toArray below meth c H locs 0 0 Q (F0 m 2 ls []) := by
    intro fuel
    induction fuel with
    | zero =>
      intro tt9 f hi2_0 hi2_1 hfu
      exact absurd hfu (Nat.not_lt_zero _)
    | succ fuel ih2 =>
      intro tt9 f hi2_0 hi2_1 hfu2 H locs hP hD hS ls hl
      refine lv_iload_n hx hb dX0_compareAll_2 rfl (lv_at hl 3 rfl) ?_
      refine lv_bipush (v := 9) hx hb dX0_compareAll_3 (by decide) ?_
      refine x_icmp_ge (tgt := 21) hx hb dX0_compareAll_5 (by decide) (X := ((tt9 : Nat) : Int)) (nI_toI (by omega)) (Y := 9) (show (9 : Int32).toInt = 9 from by decide) (fun c_5 => ?_) (fun c_5 => ?_)
      · skip
        refine x_vretW (w := [(q0, .inr (0, [.ref q1])), (q1, .inl (cI, 225, .inl (f))), (d0, .inr (2, [.ref d1])), (d1, .inl (cI, 144, .inl (dr))), (e0, .inr (2, [.ref e1])), (e1, .inl (cI, 144, .inl (sc)))]) hQ hAe hx hb hr hlocks (hP.sub [0, 1, 2, 3, 4, 5] rfl) (hD.sub [0, 1, 2, 3, 4, 5] (by decide) rfl) hS ?_ dX0_compareAll_21
        rw [hi2_1, show tt9 = 9 by omega]
      · skip
        refine lv_aload_n hx hb dX0_compareAll_8 rfl (lv_at hl 0 rfl) ?_
        refine lv_aload_n hx hb dX0_compareAll_9 rfl (lv_at hl 1 rfl) ?_
        refine lv_aload_n hx hb dX0_compareAll_10 rfl (lv_at hl 2 rfl) ?_
        refine lv_iload_n hx hb dX0_compareAll_11 rfl (lv_at hl 3 rfl) ?_
        refine x_callWv (wc := [(q0, .inr (0, [.ref q1])), (q1, .inl (cI, 225, .inl (f))), (d0, .inr (2, [.ref d1])), (d1, .inl (cI, 144, .inl (dr))), (e0, .inr (2, [.ref e1])), (e1, .inl (cI, 144, .inl (sc)))]) (wr := []) (va_runV (As := [.ref d0, .ref e0, .int (nI tt9)]) (rest := []) ⟨hx, hb, hml, hown, hts⟩ (c_X0_compareTile l D cI cC cS tt H.size q0 q1 d0 d1 e0 e1 tt9 f dr sc (by first | assumption | omega | decide)) (cwV 3 hts gX0_compareAll_X0_compareTile rfl rfl rfl (by decide +kernel) ⟨Nat.le_of_ble_eq_true rfl, Nat.le_of_ble_eq_true rfl⟩) ⟨x_blindW, va_recv hK hP (ci := 0) (q0 := 0) rfl rfl, x_preW hP hD hK hE hS hA [0, 1, 2, 3, 4, 5] rfl (by decide)⟩ rfl rfl hl.1 rfl (lv_room (Nat.le_of_ble_eq_true rfl)) dX0_compareAll_12 ⟨(Nat.le_of_ble_eq_true rfl), (Nat.le_of_ble_eq_true rfl)⟩) hP hD hS hA [0, 1, 2, 3, 4, 5] [] rfl rfl (by decide) (by decide) (fun w1 H locs hw hP hD hS => ?_)
        obtain rfl := hw
        have hP : va_P D vwCl [(q0, .inr (0, [.ref q1])), (q1, .inl (cI, 225, .inl (dtF f dr sc tt9 25))), (d0, .inr (2, [.ref d1])), (d1, .inl (cI, 144, .inl (dr))), (e0, .inr (2, [.ref e1])), (e1, .inl (cI, 144, .inl (sc)))] H := hP
        have hD : va_D (Ar) [(q0, .inr (0, [.ref q1])), (q1, .inl (cI, 225, .inl (dtF f dr sc tt9 25))), (d0, .inr (2, [.ref d1])), (d1, .inl (cI, 144, .inl (dr))), (e0, .inr (2, [.ref e1])), (e1, .inl (cI, 144, .inl (sc)))] := hD
        refine lv_iinc (v := nI (tt9 + 1)) (lv' := [(3, .int (nI (tt9 + 1))), (0, .ref q0), (1, .ref d0), (2, .ref e0)]) hx hb dX0_compareAll_15 hl (k := 3) rfl (nI_add _ _) (by decide) rfl (fun ls hl => ?_)
        refine lv_goto (tgt := 2) hx hb dX0_compareAll_18 (by decide) ?_
        exact ih2 (tt9 + 1) (dtF f dr sc tt9 25) (by first | assumption | omega | rfl) (by rw [hi2_1]; exact daF_s) (by omega) H locs (hP.sub [0, 1, 2, 3, 4, 5] rfl) (hD.sub [0, 1, 2, 3, 4, 5] (by decide) rfl) hS ls (lv_sub hl [1, 2, 3, 0] rfl)
  exact L2 _ 0 df (by first | assumption | omega | rfl) daF_0 (Nat.lt_succ_self _) s.heap [] (hP.sub [0, 1, 2, 3, 4, 5] rfl) (hD.sub [0, 1, 2, 3, 4, 5] (by decide) rfl) hS ls (lv_sub hl [1, 2, 3, 0] rfl)
set_option maxHeartbeats 4000000 in
set_option maxRecDepth 100000 in
theorem c_X0_codeOf (l : Launch) (D : va_G) (cI cC cS : ClassId) (tt : Nat → Nat) (q0 : Nat) (q1 : Nat) (T : Nat) (df : Nat → Int32) (tl : Int32) (Tl : Int) (hTl_ : tl.toInt = Tl) (hh0 : T < 9) : Met l yX0_codeOf wsX0_codeOf ({ frames := 2, cells := 0, slots := 0, locals := 45 } : Room) (x_PR D cI cC cS tt [(q0, .inr (0, [.ref q1])), (q1, .inl (cI, 225, .inl (df)))] [.ref q0, .int (nI T), .int tl]) (QcRead (nI (cdQ df T Tl))) 0 0 (fun _ => False) := by
  refine Met.ofW (cc := cX0_codeOf) (maxL := 4) (ret := (some .int)) (by decide) rfl ?_
  intro p e s m args below meth c s₁ hBd hml hv
  obtain ⟨rfl, hP, hK, hE⟩ := hv
  have hx := hBd.exec
  have hb := hBd.bytes
  have hr := hBd.returns
  have hts := atoms_spec (ws := wsX0_codeOf) hBd.pre
  have hown : s.vm.findClass RX0 = some m.cls := findClass_of_methodNamed hBd.named
  have hlocks := hBd.notSynchronized
  have hS : va_S (fun _ => False) s.heap s.heap [] := va_S.rf
  have hl := lv_entry ([.ref q0, .int (nI T), .int tl]) (n := 4) (Nat.le_of_ble_eq_true rfl)
  rw [lg_entry_eq]
  generalize (lg_sl ([.ref q0, .int (nI T), .int tl]) ++ List.replicate (4 - (lg_sl ([.ref q0, .int (nI T), .int tl])).length) Slot.unset).toArray = ls at hl ⊢
  have hl : lv_has ls 4 [(0, .ref q0), (1, .int (nI T)), (2, .int tl)] := hl
  refine x_genQ (fun Q hQ => ?_)
  refine lv_iconst (v := 0) hx hb dX0_codeOf_0 (by decide) ?_
  refine lv_istore_n (lv' := [(3, .int 0), (0, .ref q0), (1, .int (nI T)), (2, .int tl)]) hx hb dX0_codeOf_1 rfl hl (by decide) rfl (fun ls hl => ?_)
  have L2 : ∀ (fuel : Nat) (pp : Nat), pp ≤ 25 → cdQ df T Tl = fsQ (cdP df T Tl) pp (25 - pp) → 25 - pp < fuel → ∀ (ls : Array Slot), lv_has ls 4 [(0, .ref q0), (1, .int (nI T)), (2, .int tl), (3, .int (nI pp))] → W p l e (headSpec wsX0_codeOf ({ frames := 2, cells := 0, slots := 0, locals := 45 } : Room)).room s m ([.ref q0, .int (nI T), .int tl] : List Value).toArray below meth c s.heap [] 0 0 Q (F0 m 2 ls []) := by
    intro fuel
    induction fuel with
    | zero =>
      intro pp hi2_0 hi2_1 hfu
      exact absurd hfu (Nat.not_lt_zero _)
    | succ fuel ih2 =>
      intro pp hi2_0 hi2_1 hfu2 ls hl
      refine lv_iload_n hx hb dX0_codeOf_2 rfl (lv_at hl 3 rfl) ?_
      refine lv_bipush (v := 25) hx hb dX0_codeOf_3 (by decide) ?_
      refine x_icmp_ge (tgt := 26) hx hb dX0_codeOf_5 (by decide) (X := ((pp : Nat) : Int)) (nI_toI (by omega)) (Y := 25) (show (25 : Int32).toInt = 25 from by decide) (fun c_5 => ?_) (fun c_5 => ?_)
      · skip
        refine lv_bipush (v := 25) hx hb dX0_codeOf_26 (by decide) ?_
        exact x_iretR hQ hx hb hr hlocks (by rw [hi2_1, show pp = 25 by omega]; rfl) dX0_codeOf_28
      · skip
        refine lv_aload_n hx hb dX0_codeOf_8 rfl (lv_at hl 0 rfl) ?_
        refine lv_iload_n hx hb dX0_codeOf_9 rfl (lv_at hl 1 rfl) ?_
        refine lv_iload_n hx hb dX0_codeOf_10 rfl (lv_at hl 3 rfl) ?_
        refine x_callR (va_runV (As := [.int (nI T), .int (nI pp)]) (rest := []) ⟨hx, hb, hml, hown, hts⟩ (c_X0_differenceAt l D cI cC cS tt q0 q1 T pp df (by first | assumption | omega | decide) (by first | assumption | omega | decide)) (cwV 2 hts gX0_codeOf_X0_differenceAt rfl rfl rfl (by decide +kernel) ⟨Nat.le_of_ble_eq_true rfl, Nat.le_of_ble_eq_true rfl⟩) ⟨x_blindR, va_recv hK hP (ci := 0) (q0 := 0) rfl rfl, x_preR (hP.sub (ws' := [(q0, .inr (0, [.ref q1])), (q1, .inl (cI, 225, .inl (df)))]) [0, 1] rfl) hK hE hS⟩ rfl rfl hl.1 rfl (lv_room (Nat.le_of_ble_eq_true rfl)) dX0_codeOf_11 ⟨(Nat.le_of_ble_eq_true rfl), (Nat.le_of_ble_eq_true rfl)⟩) ?_
        refine lv_iload_n hx hb dX0_codeOf_14 rfl (lv_at hl 2 rfl) ?_
        refine x_icmp_gt (tgt := 20) hx hb dX0_codeOf_15 (by decide) (X := (df (T * 25 + pp)).toInt) rfl (Y := Tl) hTl_ (fun c_15 => ?_) (fun c_15 => ?_)
        · skip
          refine lv_iinc (v := nI (pp + 1)) (lv' := [(3, .int (nI (pp + 1))), (0, .ref q0), (1, .int (nI T)), (2, .int tl)]) hx hb dX0_codeOf_20 hl (k := 3) rfl (nI_add _ _) (by decide) rfl (fun ls hl => ?_)
          refine lv_goto (tgt := 2) hx hb dX0_codeOf_23 (by decide) ?_
          exact ih2 (pp + 1) (by first | assumption | omega | rfl) (by rw [hi2_1, fsQ_f (by omega) (by rw [decide_eq_true_eq]; omega)]; rfl) (by omega) ls (lv_sub hl [1, 2, 3, 0] rfl)
        · skip
          refine lv_iload_n hx hb dX0_codeOf_18 rfl (lv_at hl 3 rfl) ?_
          exact x_iretR hQ hx hb hr hlocks (by rw [hi2_1, fsQ_t (by omega) (decide_eq_true c_15)]) dX0_codeOf_19
  exact L2 _ 0 (by first | assumption | omega | rfl) rfl (Nat.lt_succ_self _) ls (lv_sub hl [1, 2, 3, 0] rfl)
set_option maxHeartbeats 4000000 in
set_option maxRecDepth 100000 in
theorem c_X0_bestPlace (l : Launch) (D : va_G) (cI cC cS : ClassId) (tt : Nat → Nat) (q0 : Nat) (q1 : Nat) (T : Nat) (df : Nat → Int32) (hh0 : T < 9) : Met l yX0_bestPlace wsX0_bestPlace ({ frames := 2, cells := 0, slots := 0, locals := 45 } : Room) (x_PR D cI cC cS tt [(q0, .inr (0, [.ref q1])), (q1, .inl (cI, 225, .inl (df)))] [.ref q0, .int (nI T)]) (QcRead (nI (bsN (fun p9 => df (T * 25 + p9)) 24))) 0 0 (fun _ => False) := by
  refine Met.ofW (cc := cX0_bestPlace) (maxL := 4) (ret := (some .int)) (by decide) rfl ?_
  intro p e s m args below meth c s₁ hBd hml hv
  obtain ⟨rfl, hP, hK, hE⟩ := hv
  have hx := hBd.exec
  have hb := hBd.bytes
  have hr := hBd.returns
  have hts := atoms_spec (ws := wsX0_bestPlace) hBd.pre
  have hown : s.vm.findClass RX0 = some m.cls := findClass_of_methodNamed hBd.named
  have hlocks := hBd.notSynchronized
  have hS : va_S (fun _ => False) s.heap s.heap [] := va_S.rf
  have hl := lv_entry ([.ref q0, .int (nI T)]) (n := 4) (Nat.le_of_ble_eq_true rfl)
  rw [lg_entry_eq]
  generalize (lg_sl ([.ref q0, .int (nI T)]) ++ List.replicate (4 - (lg_sl ([.ref q0, .int (nI T)])).length) Slot.unset).toArray = ls at hl ⊢
  have hl : lv_has ls 4 [(0, .ref q0), (1, .int (nI T))] := hl
  refine x_genQ (fun Q hQ => ?_)
  refine lv_iconst (v := 0) hx hb dX0_bestPlace_0 (by decide) ?_
  refine lv_istore_n (lv' := [(2, .int 0), (0, .ref q0), (1, .int (nI T))]) hx hb dX0_bestPlace_1 rfl hl (by decide) rfl (fun ls hl => ?_)
  refine lv_iconst (v := 1) hx hb dX0_bestPlace_2 (by decide) ?_
  refine lv_istore_n (lv' := [(3, .int 1), (2, .int 0), (0, .ref q0), (1, .int (nI T))]) hx hb dX0_bestPlace_3 rfl hl (by decide) rfl (fun ls hl => ?_)
  have L4 : ∀ (fuel : Nat) (pp : Nat) (fd : Nat), 1 ≤ pp ∧ pp ≤ 25 → fd = bsN (fun p9 => df (T * 25 + p9)) (pp - 1) → fd < 25 → 25 - pp < fuel → ∀ (ls : Array Slot), lv_has ls 4 [(0, .ref q0), (1, .int (nI T)), (2, .int (nI fd)), (3, .int (nI pp))] → W p l e (headSpec wsX0_bestPlace ({ frames := 2, cells := 0, slots := 0, locals := 45 } : Room)).room s m ([.ref q0, .int (nI T)] : List Value).toArray below meth c s.heap [] 0 0 Q (F0 m 4 ls []) := by
    intro fuel
    induction fuel with
    | zero =>
      intro pp fd hi4_0 hi4_1 hi4_2 hfu
      exact absurd hfu (Nat.not_lt_zero _)
    | succ fuel ih4 =>
      intro pp fd hi4_0 hi4_1 hi4_2 hfu4 ls hl
      refine lv_iload_n hx hb dX0_bestPlace_4 rfl (lv_at hl 3 rfl) ?_
      refine lv_bipush (v := 25) hx hb dX0_bestPlace_5 (by decide) ?_
      refine x_icmp_ge (tgt := 33) hx hb dX0_bestPlace_7 (by decide) (X := ((pp : Nat) : Int)) (nI_toI (by omega)) (Y := 25) (show (25 : Int32).toInt = 25 from by decide) (fun c_7 => ?_) (fun c_7 => ?_)
      · skip
        refine lv_iload_n hx hb dX0_bestPlace_33 rfl (lv_at hl 2 rfl) ?_
        exact x_iretR hQ hx hb hr hlocks (by rw [hi4_1, show pp = 25 by omega]) dX0_bestPlace_34
      · skip
        refine lv_aload_n hx hb dX0_bestPlace_10 rfl (lv_at hl 0 rfl) ?_
        refine lv_iload_n hx hb dX0_bestPlace_11 rfl (lv_at hl 1 rfl) ?_
        refine lv_iload_n hx hb dX0_bestPlace_12 rfl (lv_at hl 3 rfl) ?_
        refine x_callR (va_runV (As := [.int (nI T), .int (nI pp)]) (rest := []) ⟨hx, hb, hml, hown, hts⟩ (c_X0_differenceAt l D cI cC cS tt q0 q1 T pp df (by first | assumption | omega | decide) (by first | assumption | omega | decide)) (cwV 2 hts gX0_bestPlace_X0_differenceAt rfl rfl rfl (by decide +kernel) ⟨Nat.le_of_ble_eq_true rfl, Nat.le_of_ble_eq_true rfl⟩) ⟨x_blindR, va_recv hK hP (ci := 0) (q0 := 0) rfl rfl, x_preR (hP.sub (ws' := [(q0, .inr (0, [.ref q1])), (q1, .inl (cI, 225, .inl (df)))]) [0, 1] rfl) hK hE hS⟩ rfl rfl hl.1 rfl (lv_room (Nat.le_of_ble_eq_true rfl)) dX0_bestPlace_13 ⟨(Nat.le_of_ble_eq_true rfl), (Nat.le_of_ble_eq_true rfl)⟩) ?_
        refine lv_aload_n hx hb dX0_bestPlace_16 rfl (lv_at hl 0 rfl) ?_
        refine lv_iload_n hx hb dX0_bestPlace_17 rfl (lv_at hl 1 rfl) ?_
        refine lv_iload_n hx hb dX0_bestPlace_18 rfl (lv_at hl 2 rfl) ?_
        refine x_callR (va_runV (As := [.int (nI T), .int (nI fd)]) (rest := [.int (df (T * 25 + pp))]) ⟨hx, hb, hml, hown, hts⟩ (c_X0_differenceAt l D cI cC cS tt q0 q1 T fd df (by first | assumption | omega | decide) (by first | assumption | omega | decide)) (cwV 2 hts gX0_bestPlace_X0_differenceAt rfl rfl rfl (by decide +kernel) ⟨Nat.le_of_ble_eq_true rfl, Nat.le_of_ble_eq_true rfl⟩) ⟨x_blindR, va_recv hK hP (ci := 0) (q0 := 0) rfl rfl, x_preR (hP.sub (ws' := [(q0, .inr (0, [.ref q1])), (q1, .inl (cI, 225, .inl (df)))]) [0, 1] rfl) hK hE hS⟩ rfl rfl hl.1 rfl (lv_room (Nat.le_of_ble_eq_true rfl)) dX0_bestPlace_19 ⟨(Nat.le_of_ble_eq_true rfl), (Nat.le_of_ble_eq_true rfl)⟩) ?_
        refine x_icmp_ge (tgt := 27) hx hb dX0_bestPlace_22 (by decide) (X := (df (T * 25 + pp)).toInt) rfl (Y := (df (T * 25 + fd)).toInt) rfl (fun c_22 => ?_) (fun c_22 => ?_)
        · skip
          refine lv_iinc (v := nI (pp + 1)) (lv' := [(3, .int (nI (pp + 1))), (0, .ref q0), (1, .int (nI T)), (2, .int (nI fd))]) hx hb dX0_bestPlace_27 hl (k := 3) rfl (nI_add _ _) (by decide) rfl (fun ls hl => ?_)
          refine lv_goto (tgt := 4) hx hb dX0_bestPlace_30 (by decide) ?_
          exact ih4 (pp + 1) fd (by omega) (by rw [show pp + 1 - 1 = pp by omega, bsN_s (by omega), ← hi4_1]; first | exact (if_pos c_22).symm | exact (if_neg (by omega)).symm) (by first | assumption | omega | rfl) (by omega) ls (lv_sub hl [1, 2, 3, 0] rfl)
        · skip
          refine lv_iload_n hx hb dX0_bestPlace_25 rfl (lv_at hl 3 rfl) ?_
          refine lv_istore_n (lv' := [(2, .int (nI pp)), (0, .ref q0), (1, .int (nI T)), (3, .int (nI pp))]) hx hb dX0_bestPlace_26 rfl hl (by decide) rfl (fun ls hl => ?_)
          refine lv_iinc (v := nI (pp + 1)) (lv' := [(3, .int (nI (pp + 1))), (2, .int (nI pp)), (0, .ref q0), (1, .int (nI T))]) hx hb dX0_bestPlace_27 hl (k := 3) rfl (nI_add _ _) (by decide) rfl (fun ls hl => ?_)
          refine lv_goto (tgt := 4) hx hb dX0_bestPlace_30 (by decide) ?_
          exact ih4 (pp + 1) pp (by omega) (by rw [show pp + 1 - 1 = pp by omega, bsN_s (by omega), ← hi4_1]; first | exact (if_pos c_22).symm | exact (if_neg (by omega)).symm) (by first | assumption | omega | rfl) (by omega) ls (lv_sub hl [2, 3, 1, 0] rfl)
  exact L4 _ 1 0 (by omega) rfl (by first | assumption | omega | rfl) (Nat.lt_succ_self _) ls (lv_sub hl [2, 3, 1, 0] rfl)
set_option maxHeartbeats 4000000 in
set_option maxRecDepth 100000 in
theorem c_X0_bitsWith (l : Launch) (D : va_G) (cI cC cS : ClassId) (tt : Nat → Nat) (q0 : Nat) (q1 : Nat) (df : Nat → Int32) (tl : Int32) (Tl : Int) (hTl_ : tl.toInt = Tl) : Met l yX0_bitsWith wsX0_bitsWith ({ frames := 3, cells := 0, slots := 0, locals := 68 } : Room) (x_PR D cI cC cS tt [(q0, .inr (0, [.ref q1])), (q1, .inl (cI, 225, .inl (df)))] [.ref q0, .int tl]) (QcRead (bwQ df Tl)) 0 0 (fun _ => False) := by
  refine Met.ofW (cc := cX0_bitsWith) (maxL := 4) (ret := (some .int)) (by decide) rfl ?_
  intro p e s m args below meth c s₁ hBd hml hv
  obtain ⟨rfl, hP, hK, hE⟩ := hv
  have hx := hBd.exec
  have hb := hBd.bytes
  have hr := hBd.returns
  have hts := atoms_spec (ws := wsX0_bitsWith) hBd.pre
  have hown : s.vm.findClass RX0 = some m.cls := findClass_of_methodNamed hBd.named
  have hlocks := hBd.notSynchronized
  have hS : va_S (fun _ => False) s.heap s.heap [] := va_S.rf
  have hl := lv_entry ([.ref q0, .int tl]) (n := 4) (Nat.le_of_ble_eq_true rfl)
  rw [lg_entry_eq]
  generalize (lg_sl ([.ref q0, .int tl]) ++ List.replicate (4 - (lg_sl ([.ref q0, .int tl])).length) Slot.unset).toArray = ls at hl ⊢
  have hl : lv_has ls 4 [(0, .ref q0), (1, .int tl)] := hl
  refine x_genQ (fun Q hQ => ?_)
  refine lv_iconst (v := 0) hx hb dX0_bitsWith_0 (by decide) ?_
  refine lv_istore_n (lv' := [(2, .int 0), (0, .ref q0), (1, .int tl)]) hx hb dX0_bitsWith_1 rfl hl (by decide) rfl (fun ls hl => ?_)
  refine lv_iconst (v := 0) hx hb dX0_bitsWith_2 (by decide) ?_
  refine lv_istore_n (lv' := [(3, .int 0), (2, .int 0), (0, .ref q0), (1, .int tl)]) hx hb dX0_bitsWith_3 rfl hl (by decide) rfl (fun ls hl => ?_)
  have L4 : ∀ (fuel : Nat) (j : Nat) (n : Int32), j ≤ 9 → n = sm (fun t => nI (btN (cdQ df t Tl))) j → 9 - j < fuel → ∀ (ls : Array Slot), lv_has ls 4 [(0, .ref q0), (1, .int tl), (2, .int n), (3, .int (nI j))] → W p l e (headSpec wsX0_bitsWith ({ frames := 3, cells := 0, slots := 0, locals := 68 } : Room)).room s m ([.ref q0, .int tl] : List Value).toArray below meth c s.heap [] 0 0 Q (F0 m 4 ls []) := by
    intro fuel
    induction fuel with
    | zero =>
      intro j n hi4_0 hi4_1 hfu
      exact absurd hfu (Nat.not_lt_zero _)
    | succ fuel ih4 =>
      intro j n hi4_0 hi4_1 hfu4 ls hl
      refine lv_iload_n hx hb dX0_bitsWith_4 rfl (lv_at hl 3 rfl) ?_
      refine lv_bipush (v := 9) hx hb dX0_bitsWith_5 (by decide) ?_
      refine x_icmp_ge (tgt := 28) hx hb dX0_bitsWith_7 (by decide) (X := ((j : Nat) : Int)) (nI_toI (by omega)) (Y := 9) (show (9 : Int32).toInt = 9 from by decide) (fun c_7 => ?_) (fun c_7 => ?_)
      · skip
        refine lv_iload_n hx hb dX0_bitsWith_28 rfl (lv_at hl 2 rfl) ?_
        exact x_iretR hQ hx hb hr hlocks (by rw [hi4_1, show j = 9 by omega]; rfl) dX0_bitsWith_29
      · skip
        refine lv_iload_n hx hb dX0_bitsWith_10 rfl (lv_at hl 2 rfl) ?_
        refine lv_aload_n hx hb dX0_bitsWith_11 rfl (lv_at hl 0 rfl) ?_
        refine lv_iload_n hx hb dX0_bitsWith_12 rfl (lv_at hl 3 rfl) ?_
        refine lv_iload_n hx hb dX0_bitsWith_13 rfl (lv_at hl 1 rfl) ?_
        refine x_callR (va_runV (As := [.int (nI j), .int tl]) (rest := [.int n]) ⟨hx, hb, hml, hown, hts⟩ (c_X0_codeOf l D cI cC cS tt q0 q1 j df tl Tl hTl_ (by first | assumption | omega | decide)) (cwV 2 hts gX0_bitsWith_X0_codeOf rfl rfl rfl (by decide +kernel) ⟨Nat.le_of_ble_eq_true rfl, Nat.le_of_ble_eq_true rfl⟩) ⟨x_blindR, va_recv hK hP (ci := 0) (q0 := 0) rfl rfl, x_preR (hP.sub (ws' := [(q0, .inr (0, [.ref q1])), (q1, .inl (cI, 225, .inl (df)))]) [0, 1] rfl) hK hE hS⟩ rfl rfl hl.1 rfl (lv_room (Nat.le_of_ble_eq_true rfl)) dX0_bitsWith_14 ⟨(Nat.le_of_ble_eq_true rfl), (Nat.le_of_ble_eq_true rfl)⟩) ?_
        refine x_callR (va_runSN (As := [.int (nI (cdQ df j Tl))]) (rest := [.int n]) ⟨hx, hb, hml, hown, hts⟩ (c_X4_bitsOf l D cI cC cS tt (cdQ df j Tl) cdQ_le) ⟨(va_cnB 1 hts gX0_bitsWith_X4_bitsOf_n44 rfl rfl rfl (x_nestk hE.1 (w := .methodLinkNest RX0 44 yX4_bitsOf RX4) 34 rfl) (hts (.initialized RX4) (by decide +kernel)) (by decide +kernel) ⟨Nat.le_of_ble_eq_true rfl, Nat.le_of_ble_eq_true rfl⟩), hts (.static yX4_bitsOf) (by decide +kernel), trivial⟩ ⟨x_blindR, x_preR (hP.sub (ws' := []) [] rfl) hK hE hS⟩ rfl rfl hl.1 rfl (lv_room (Nat.le_of_ble_eq_true rfl)) dX0_bitsWith_17 ⟨(Nat.le_of_ble_eq_true rfl), (Nat.le_of_ble_eq_true rfl)⟩) ?_
        refine lv_iadd hx hb dX0_bitsWith_20 ?_
        refine lv_istore_n (lv' := [(2, .int (n + (nI (btN (cdQ df j Tl))))), (0, .ref q0), (1, .int tl), (3, .int (nI j))]) hx hb dX0_bitsWith_21 rfl hl (by decide) rfl (fun ls hl => ?_)
        refine lv_iinc (v := nI (j + 1)) (lv' := [(3, .int (nI (j + 1))), (2, .int (n + (nI (btN (cdQ df j Tl))))), (0, .ref q0), (1, .int tl)]) hx hb dX0_bitsWith_22 hl (k := 3) rfl (nI_add _ _) (by decide) rfl (fun ls hl => ?_)
        refine lv_goto (tgt := 4) hx hb dX0_bitsWith_25 (by decide) ?_
        exact ih4 (j + 1) (n + (nI (btN (cdQ df j Tl)))) (by first | assumption | omega | rfl) (by rw [sm_s, ← hi4_1]) (by omega) ls (lv_sub hl [2, 3, 1, 0] rfl)
  exact L4 _ 0 0 (by first | assumption | omega | rfl) rfl (Nat.lt_succ_self _) ls (lv_sub hl [2, 3, 1, 0] rfl)
set_option maxHeartbeats 4000000 in
set_option maxRecDepth 100000 in
theorem c_X0_neededTolerance (l : Launch) (D : va_G) (cI cC cS : ClassId) (tt : Nat → Nat) (q0 : Nat) (q1 : Nat) (Ls : Nat) (df : Nat → Int32) (sp : Int32) (Sp : Int) (hSp_ : sp.toInt = Sp) (hh0 : Ls ≤ 240) : Met l yX0_neededTolerance wsX0_neededTolerance ({ frames := 4, cells := 0, slots := 0, locals := 91 } : Room) (x_PR D cI cC cS tt [(q0, .inr (0, [.ref q1])), (q1, .inl (cI, 225, .inl (df)))] [.ref q0, .int (nI Ls), .int sp]) (QcRead (nI (ntQ df Ls Sp))) 0 0 (fun _ => False) := by
  refine Met.ofW (cc := cX0_neededTolerance) (maxL := 4) (ret := (some .int)) (by decide) rfl ?_
  intro p e s m args below meth c s₁ hBd hml hv
  obtain ⟨rfl, hP, hK, hE⟩ := hv
  have hx := hBd.exec
  have hb := hBd.bytes
  have hr := hBd.returns
  have hts := atoms_spec (ws := wsX0_neededTolerance) hBd.pre
  have hown : s.vm.findClass RX0 = some m.cls := findClass_of_methodNamed hBd.named
  have hlocks := hBd.notSynchronized
  have hS : va_S (fun _ => False) s.heap s.heap [] := va_S.rf
  have hl := lv_entry ([.ref q0, .int (nI Ls), .int sp]) (n := 4) (Nat.le_of_ble_eq_true rfl)
  rw [lg_entry_eq]
  generalize (lg_sl ([.ref q0, .int (nI Ls), .int sp]) ++ List.replicate (4 - (lg_sl ([.ref q0, .int (nI Ls), .int sp])).length) Slot.unset).toArray = ls at hl ⊢
  have hl : lv_has ls 4 [(0, .ref q0), (1, .int (nI Ls)), (2, .int sp)] := hl
  refine x_genQ (fun Q hQ => ?_)
  refine lv_iload_n hx hb dX0_neededTolerance_0 rfl (lv_at hl 1 rfl) ?_
  refine lv_istore_n (lv' := [(3, .int (nI Ls)), (0, .ref q0), (1, .int (nI Ls)), (2, .int sp)]) hx hb dX0_neededTolerance_1 rfl hl (by decide) rfl (fun ls hl => ?_)
  have L2 : ∀ (fuel : Nat) (pp : Nat), pp ≤ 240 → ntQ df Ls Sp = fsQ (ntP df Sp) pp (240 - pp) → 240 - pp < fuel → ∀ (ls : Array Slot), lv_has ls 4 [(0, .ref q0), (2, .int sp), (3, .int (nI pp))] → W p l e (headSpec wsX0_neededTolerance ({ frames := 4, cells := 0, slots := 0, locals := 91 } : Room)).room s m ([.ref q0, .int (nI Ls), .int sp] : List Value).toArray below meth c s.heap [] 0 0 Q (F0 m 2 ls []) := by
    intro fuel
    induction fuel with
    | zero =>
      intro pp hi2_0 hi2_1 hfu
      exact absurd hfu (Nat.not_lt_zero _)
    | succ fuel ih2 =>
      intro pp hi2_0 hi2_1 hfu2 ls hl
      refine lv_iload_n hx hb dX0_neededTolerance_2 rfl (lv_at hl 2 rfl) ?_
      refine lv_sipush (v := 240) hx hb dX0_neededTolerance_3 (by decide) ?_
      refine x_icmp_ge (tgt := 26) hx hb dX0_neededTolerance_6 (by decide) (X := ((pp : Nat) : Int)) (nI_toI (by omega)) (Y := 240) (show (240 : Int32).toInt = 240 from by decide) (fun c_6 => ?_) (fun c_6 => ?_)
      · skip
        refine lv_sipush (v := 240) hx hb dX0_neededTolerance_26 (by decide) ?_
        exact x_iretR hQ hx hb hr hlocks (by rw [hi2_1, show pp = 240 by omega]; rfl) dX0_neededTolerance_29
      · skip
        refine lv_aload_n hx hb dX0_neededTolerance_9 rfl (lv_at hl 0 rfl) ?_
        refine lv_iload_n hx hb dX0_neededTolerance_10 rfl (lv_at hl 2 rfl) ?_
        refine x_callR (va_runV (As := [.int (nI pp)]) (rest := []) ⟨hx, hb, hml, hown, hts⟩ (c_X0_bitsWith l D cI cC cS tt q0 q1 df (nI pp) ((pp : Nat) : Int) (nI_toI (by omega))) (cwV 1 hts gX0_neededTolerance_X0_bitsWith rfl rfl rfl (by decide +kernel) ⟨Nat.le_of_ble_eq_true rfl, Nat.le_of_ble_eq_true rfl⟩) ⟨x_blindR, va_recv hK hP (ci := 0) (q0 := 0) rfl rfl, x_preR (hP.sub (ws' := [(q0, .inr (0, [.ref q1])), (q1, .inl (cI, 225, .inl (df)))]) [0, 1] rfl) hK hE hS⟩ rfl rfl hl.1 rfl (lv_room (Nat.le_of_ble_eq_true rfl)) dX0_neededTolerance_11 ⟨(Nat.le_of_ble_eq_true rfl), (Nat.le_of_ble_eq_true rfl)⟩) ?_
        refine lv_iload_n hx hb dX0_neededTolerance_14 rfl (lv_at hl 1 rfl) ?_
        refine x_icmp_gt (tgt := 20) hx hb dX0_neededTolerance_15 (by decide) (X := (bwQ df ((pp : Nat) : Int)).toInt) rfl (Y := Sp) hSp_ (fun c_15 => ?_) (fun c_15 => ?_)
        · skip
          refine lv_iinc (v := nI (pp + 1)) (lv' := [(3, .int (nI (pp + 1))), (0, .ref q0), (2, .int sp)]) hx hb dX0_neededTolerance_20 hl (k := 2) rfl (nI_add _ _) (by decide) rfl (fun ls hl => ?_)
          refine lv_goto (tgt := 2) hx hb dX0_neededTolerance_23 (by decide) ?_
          exact ih2 (pp + 1) (by first | assumption | omega | rfl) (by rw [hi2_1, fsQ_f (by omega) (by rw [decide_eq_true_eq]; omega)]; rfl) (by omega) ls (lv_sub hl [1, 2, 0] rfl)
        · skip
          refine lv_iload_n hx hb dX0_neededTolerance_18 rfl (lv_at hl 2 rfl) ?_
          exact x_iretR hQ hx hb hr hlocks (by rw [hi2_1, fsQ_t (by omega) (decide_eq_true c_15)]) dX0_neededTolerance_19
  exact L2 _ Ls (by first | assumption | omega | rfl) rfl (Nat.lt_succ_self _) ls (lv_sub hl [1, 3, 0] rfl)
set_option maxHeartbeats 4000000 in
set_option maxRecDepth 100000 in
theorem c_X3_copyFrom (l : Launch) (D : va_G) (cI cC cS : ClassId) (tt : Nat → Nat) (sz : Nat) (u0 : Nat) (u1 : Nat) (u2 : Nat) (u3 : Nat) (u4 : Nat) (u5 : Nat) (u6 : Nat) (u7 : Nat) (u8 : Nat) (v0 : Nat) (v1 : Nat) (v2 : Nat) (v3 : Nat) (v4 : Nat) (v5 : Nat) (v6 : Nat) (v7 : Nat) (v8 : Nat) (D1 : Nat → Int32) (S1 : Nat → Int32) (R1 : Nat → Int32) (N1 : Nat → Int32) (G1 : Nat → Int32) (D2 : Nat → Int32) (S2 : Nat → Int32) (R2 : Nat → Int32) (N2 : Nat → Int32) (G2 : Nat → Int32) : Met l yX3_copyFrom wsX3_copyFrom ({ frames := 2, cells := 0, slots := 0, locals := 81 } : Room) (x_PW D cI cC cS tt [(u0, .inr (3, [.ref u1, .ref u3, .ref u5, .ref u7, .ref u8])), (u1, .inr (2, [.ref u2])), (u2, .inl (cI, 144, .inl (D1))), (u3, .inr (2, [.ref u4])), (u4, .inl (cI, 144, .inl (S1))), (u5, .inr (2, [.ref u6])), (u6, .inl (cI, 144, .inl (R1))), (u7, .inl (cI, 9, .inl (N1))), (u8, .inl (cI, 136, .inl (G1))), (v0, .inr (3, [.ref v1, .ref v3, .ref v5, .ref v7, .ref v8])), (v1, .inr (2, [.ref v2])), (v2, .inl (cI, 144, .inl (D2))), (v3, .inr (2, [.ref v4])), (v4, .inl (cI, 144, .inl (S2))), (v5, .inr (2, [.ref v6])), (v6, .inl (cI, 144, .inl (R2))), (v7, .inl (cI, 9, .inl (N2))), (v8, .inl (cI, 136, .inl (G2)))] sz [.ref u0, .ref v0]) (x_QWv D [(u0, .inr (3, [.ref u1, .ref u3, .ref u5, .ref u7, .ref u8])), (u1, .inr (2, [.ref u2])), (u2, .inl (cI, 144, .inl (D1))), (u3, .inr (2, [.ref u4])), (u4, .inl (cI, 144, .inl (S1))), (u5, .inr (2, [.ref u6])), (u6, .inl (cI, 144, .inl (R1))), (u7, .inl (cI, 9, .inl (N1))), (u8, .inl (cI, 136, .inl (G1))), (v0, .inr (3, [.ref v1, .ref v3, .ref v5, .ref v7, .ref v8])), (v1, .inr (2, [.ref v2])), (v2, .inl (cI, 144, .inl (D2))), (v3, .inr (2, [.ref v4])), (v4, .inl (cI, 144, .inl (S2))), (v5, .inr (2, [.ref v6])), (v6, .inl (cI, 144, .inl (R2))), (v7, .inl (cI, 9, .inl (N2))), (v8, .inl (cI, 136, .inl (G2)))] sz (fun (w : va_W) => w = [(u0, .inr (3, [.ref u1, .ref u3, .ref u5, .ref u7, .ref u8])), (u1, .inr (2, [.ref u2])), (u2, .inl (cI, 144, .inl (D2))), (u3, .inr (2, [.ref u4])), (u4, .inl (cI, 144, .inl (S2))), (u5, .inr (2, [.ref u6])), (u6, .inl (cI, 144, .inl (R2))), (u7, .inl (cI, 9, .inl (N2))), (u8, .inl (cI, 136, .inl (G2))), (v0, .inr (3, [.ref v1, .ref v3, .ref v5, .ref v7, .ref v8])), (v1, .inr (2, [.ref v2])), (v2, .inl (cI, 144, .inl (D2))), (v3, .inr (2, [.ref v4])), (v4, .inl (cI, 144, .inl (S2))), (v5, .inr (2, [.ref v6])), (v6, .inl (cI, 144, .inl (R2))), (v7, .inl (cI, 9, .inl (N2))), (v8, .inl (cI, 136, .inl (G2)))])) 0 0 (va_A [(u0, .inr (3, [.ref u1, .ref u3, .ref u5, .ref u7, .ref u8])), (u1, .inr (2, [.ref u2])), (u2, .inl (cI, 144, .inl (D1))), (u3, .inr (2, [.ref u4])), (u4, .inl (cI, 144, .inl (S1))), (u5, .inr (2, [.ref u6])), (u6, .inl (cI, 144, .inl (R1))), (u7, .inl (cI, 9, .inl (N1))), (u8, .inl (cI, 136, .inl (G1))), (v0, .inr (3, [.ref v1, .ref v3, .ref v5, .ref v7, .ref v8])), (v1, .inr (2, [.ref v2])), (v2, .inl (cI, 144, .inl (D2))), (v3, .inr (2, [.ref v4])), (v4, .inl (cI, 144, .inl (S2))), (v5, .inr (2, [.ref v6])), (v6, .inl (cI, 144, .inl (R2))), (v7, .inl (cI, 9, .inl (N2))), (v8, .inl (cI, 136, .inl (G2)))] sz) := by
  refine Met.ofW (cc := cX3_copyFrom) (maxL := 2) (ret := none) (by decide) rfl ?_
  intro p e s m args below meth c s₁ hBd hml hv
  obtain ⟨rfl, hsz, hP, hK, hD0, hE⟩ := hv
  have hx := hBd.exec
  have hb := hBd.bytes
  have hr := hBd.returns
  have hts := atoms_spec (ws := wsX3_copyFrom) hBd.pre
  have hown : s.vm.findClass RX3 = some m.cls := findClass_of_methodNamed hBd.named
  have hlocks := hBd.notSynchronized
  subst hsz
  obtain ⟨Ar, hAe⟩ : ∃ Ar : Nat → Prop, Ar = va_A [(u0, .inr (3, [.ref u1, .ref u3, .ref u5, .ref u7, .ref u8])), (u1, .inr (2, [.ref u2])), (u2, .inl (cI, 144, .inl (D1))), (u3, .inr (2, [.ref u4])), (u4, .inl (cI, 144, .inl (S1))), (u5, .inr (2, [.ref u6])), (u6, .inl (cI, 144, .inl (R1))), (u7, .inl (cI, 9, .inl (N1))), (u8, .inl (cI, 136, .inl (G1))), (v0, .inr (3, [.ref v1, .ref v3, .ref v5, .ref v7, .ref v8])), (v1, .inr (2, [.ref v2])), (v2, .inl (cI, 144, .inl (D2))), (v3, .inr (2, [.ref v4])), (v4, .inl (cI, 144, .inl (S2))), (v5, .inr (2, [.ref v6])), (v6, .inl (cI, 144, .inl (R2))), (v7, .inl (cI, 9, .inl (N2))), (v8, .inl (cI, 136, .inl (G2)))] s.heap.size := ⟨_, rfl⟩
  have hD : va_D Ar [(u0, .inr (3, [.ref u1, .ref u3, .ref u5, .ref u7, .ref u8])), (u1, .inr (2, [.ref u2])), (u2, .inl (cI, 144, .inl (D1))), (u3, .inr (2, [.ref u4])), (u4, .inl (cI, 144, .inl (S1))), (u5, .inr (2, [.ref u6])), (u6, .inl (cI, 144, .inl (R1))), (u7, .inl (cI, 9, .inl (N1))), (u8, .inl (cI, 136, .inl (G1))), (v0, .inr (3, [.ref v1, .ref v3, .ref v5, .ref v7, .ref v8])), (v1, .inr (2, [.ref v2])), (v2, .inl (cI, 144, .inl (D2))), (v3, .inr (2, [.ref v4])), (v4, .inl (cI, 144, .inl (S2))), (v5, .inr (2, [.ref v6])), (v6, .inl (cI, 144, .inl (R2))), (v7, .inl (cI, 9, .inl (N2))), (v8, .inl (cI, 136, .inl (G2)))] := by rw [hAe]; exact hD0.self
  have hA : ∀ q : Nat, s.heap.size ≤ q → Ar q := fun q h => by rw [hAe]; exact Or.inr h
  have hE : x_E tt Ar s := by rw [hAe]; exact hE
  have hS : va_S Ar s.heap s.heap [] := va_S.rf
  have hl := lv_entry ([.ref u0, .ref v0]) (n := 2) (Nat.le_of_ble_eq_true rfl)
  rw [lg_entry_eq]
  generalize (lg_sl ([.ref u0, .ref v0]) ++ List.replicate (2 - (lg_sl ([.ref u0, .ref v0])).length) Slot.unset).toArray = ls at hl ⊢
  have hl : lv_has ls 2 [(0, .ref u0), (1, .ref v0)] := hl
  refine x_genQ (fun Q hQ => ?_)
  refine lv_aload_n hx hb dX3_copyFrom_0 rfl (lv_at hl 0 rfl) ?_
  refine va_get (v := .ref u1) (D := D) (ci := 3) (C := RX3) (T := TX3) (N := 5) hx hb hts (by decide +kernel) hown hK hP 0 rfl rfl 0 (by decide) (hts (.fieldLink RX3 12 "SpiralFrames$State" "drawing" "LSpiralFrames$Picture;") (by decide +kernel)) (fun _ h9 => h9) rfl dX3_copyFrom_1 ?_
  refine lv_aload_n hx hb dX3_copyFrom_4 rfl (lv_at hl 1 rfl) ?_
  refine va_get (v := .ref v1) (D := D) (ci := 3) (C := RX3) (T := TX3) (N := 5) hx hb hts (by decide +kernel) hown hK hP 9 rfl rfl 0 (by decide) (hts (.fieldLink RX3 12 "SpiralFrames$State" "drawing" "LSpiralFrames$Picture;") (by decide +kernel)) (fun _ h9 => h9) rfl dX3_copyFrom_5 ?_
  refine x_callWv (wc := [(u1, .inr (2, [.ref u2])), (u2, .inl (cI, 144, .inl (D1))), (v1, .inr (2, [.ref v2])), (v2, .inl (cI, 144, .inl (D2)))]) (wr := [(u0, .inr (3, [.ref u1, .ref u3, .ref u5, .ref u7, .ref u8])), (u3, .inr (2, [.ref u4])), (u4, .inl (cI, 144, .inl (S1))), (u5, .inr (2, [.ref u6])), (u6, .inl (cI, 144, .inl (R1))), (u7, .inl (cI, 9, .inl (N1))), (u8, .inl (cI, 136, .inl (G1))), (v0, .inr (3, [.ref v1, .ref v3, .ref v5, .ref v7, .ref v8])), (v3, .inr (2, [.ref v4])), (v4, .inl (cI, 144, .inl (S2))), (v5, .inr (2, [.ref v6])), (v6, .inl (cI, 144, .inl (R2))), (v7, .inl (cI, 9, .inl (N2))), (v8, .inl (cI, 136, .inl (G2)))]) (va_runVN (As := [.ref v1]) (rest := []) ⟨hx, hb, hml, hown, hts⟩ (c_X2_copyFrom l D cI cC cS tt s.heap.size u1 u2 v1 v2 D1 D2) ⟨(va_cnB 1 hts gX3_copyFrom_X2_copyFrom_n31 rfl rfl rfl (x_nestk hE.1 (w := .methodLinkNest RX3 31 yX2_copyFrom RX4) 14 rfl) (hts (.initialized RX2) (by decide +kernel)) (by decide +kernel) ⟨Nat.le_of_ble_eq_true rfl, Nat.le_of_ble_eq_true rfl⟩), hts (.instanceMethod yX2_copyFrom) (by decide +kernel), hts (.selects RX2 yX2_copyFrom yX2_copyFrom) (by decide +kernel)⟩ ⟨x_blindW, va_recv hK hP (ci := 2) (q0 := 1) rfl rfl, x_preW hP hD hK hE hS hA [1, 2, 10, 11] rfl (by decide)⟩ rfl rfl hl.1 rfl (lv_room (Nat.le_of_ble_eq_true rfl)) dX3_copyFrom_8 ⟨(Nat.le_of_ble_eq_true rfl), (Nat.le_of_ble_eq_true rfl)⟩) hP hD hS hA [1, 2, 10, 11] [0, 3, 4, 5, 6, 7, 8, 9, 12, 13, 14, 15, 16, 17] rfl rfl (by decide) (by decide) (fun w1 H locs hw hP hD hS => ?_)
  obtain rfl := hw
  have hP : va_P D vwCl [(u1, .inr (2, [.ref u2])), (u2, .inl (cI, 144, .inl (D2))), (v1, .inr (2, [.ref v2])), (v2, .inl (cI, 144, .inl (D2))), (u0, .inr (3, [.ref u1, .ref u3, .ref u5, .ref u7, .ref u8])), (u3, .inr (2, [.ref u4])), (u4, .inl (cI, 144, .inl (S1))), (u5, .inr (2, [.ref u6])), (u6, .inl (cI, 144, .inl (R1))), (u7, .inl (cI, 9, .inl (N1))), (u8, .inl (cI, 136, .inl (G1))), (v0, .inr (3, [.ref v1, .ref v3, .ref v5, .ref v7, .ref v8])), (v3, .inr (2, [.ref v4])), (v4, .inl (cI, 144, .inl (S2))), (v5, .inr (2, [.ref v6])), (v6, .inl (cI, 144, .inl (R2))), (v7, .inl (cI, 9, .inl (N2))), (v8, .inl (cI, 136, .inl (G2)))] H := hP
  have hD : va_D (Ar) [(u1, .inr (2, [.ref u2])), (u2, .inl (cI, 144, .inl (D2))), (v1, .inr (2, [.ref v2])), (v2, .inl (cI, 144, .inl (D2))), (u0, .inr (3, [.ref u1, .ref u3, .ref u5, .ref u7, .ref u8])), (u3, .inr (2, [.ref u4])), (u4, .inl (cI, 144, .inl (S1))), (u5, .inr (2, [.ref u6])), (u6, .inl (cI, 144, .inl (R1))), (u7, .inl (cI, 9, .inl (N1))), (u8, .inl (cI, 136, .inl (G1))), (v0, .inr (3, [.ref v1, .ref v3, .ref v5, .ref v7, .ref v8])), (v3, .inr (2, [.ref v4])), (v4, .inl (cI, 144, .inl (S2))), (v5, .inr (2, [.ref v6])), (v6, .inl (cI, 144, .inl (R2))), (v7, .inl (cI, 9, .inl (N2))), (v8, .inl (cI, 136, .inl (G2)))] := hD
  refine lv_aload_n hx hb dX3_copyFrom_11 rfl (lv_at hl 0 rfl) ?_
  refine va_get (v := .ref u3) (D := D) (ci := 3) (C := RX3) (T := TX3) (N := 5) hx hb hts (by decide +kernel) hown hK hP 4 rfl rfl 1 (by decide) (hts (.fieldLink RX3 18 "SpiralFrames$State" "sender" "LSpiralFrames$Picture;") (by decide +kernel)) (fun _ h9 => h9) rfl dX3_copyFrom_12 ?_
  refine lv_aload_n hx hb dX3_copyFrom_15 rfl (lv_at hl 1 rfl) ?_
  refine va_get (v := .ref v3) (D := D) (ci := 3) (C := RX3) (T := TX3) (N := 5) hx hb hts (by decide +kernel) hown hK hP 11 rfl rfl 1 (by decide) (hts (.fieldLink RX3 18 "SpiralFrames$State" "sender" "LSpiralFrames$Picture;") (by decide +kernel)) (fun _ h9 => h9) rfl dX3_copyFrom_16 ?_
  refine x_callWv (wc := [(u3, .inr (2, [.ref u4])), (u4, .inl (cI, 144, .inl (S1))), (v3, .inr (2, [.ref v4])), (v4, .inl (cI, 144, .inl (S2)))]) (wr := [(u1, .inr (2, [.ref u2])), (u2, .inl (cI, 144, .inl (D2))), (v1, .inr (2, [.ref v2])), (v2, .inl (cI, 144, .inl (D2))), (u0, .inr (3, [.ref u1, .ref u3, .ref u5, .ref u7, .ref u8])), (u5, .inr (2, [.ref u6])), (u6, .inl (cI, 144, .inl (R1))), (u7, .inl (cI, 9, .inl (N1))), (u8, .inl (cI, 136, .inl (G1))), (v0, .inr (3, [.ref v1, .ref v3, .ref v5, .ref v7, .ref v8])), (v5, .inr (2, [.ref v6])), (v6, .inl (cI, 144, .inl (R2))), (v7, .inl (cI, 9, .inl (N2))), (v8, .inl (cI, 136, .inl (G2)))]) (va_runVN (As := [.ref v3]) (rest := []) ⟨hx, hb, hml, hown, hts⟩ (c_X2_copyFrom l D cI cC cS tt H.size u3 u4 v3 v4 S1 S2) ⟨(va_cnB 1 hts gX3_copyFrom_X2_copyFrom_n31 rfl rfl rfl (x_nestk hE.1 (w := .methodLinkNest RX3 31 yX2_copyFrom RX4) 14 rfl) (hts (.initialized RX2) (by decide +kernel)) (by decide +kernel) ⟨Nat.le_of_ble_eq_true rfl, Nat.le_of_ble_eq_true rfl⟩), hts (.instanceMethod yX2_copyFrom) (by decide +kernel), hts (.selects RX2 yX2_copyFrom yX2_copyFrom) (by decide +kernel)⟩ ⟨x_blindW, va_recv hK hP (ci := 2) (q0 := 5) rfl rfl, x_preW hP hD hK hE hS hA [5, 6, 12, 13] rfl (by decide)⟩ rfl rfl hl.1 rfl (lv_room (Nat.le_of_ble_eq_true rfl)) dX3_copyFrom_19 ⟨(Nat.le_of_ble_eq_true rfl), (Nat.le_of_ble_eq_true rfl)⟩) hP hD hS hA [5, 6, 12, 13] [0, 1, 2, 3, 4, 7, 8, 9, 10, 11, 14, 15, 16, 17] rfl rfl (by decide) (by decide) (fun w1 H locs hw hP hD hS => ?_)
  obtain rfl := hw
  have hP : va_P D vwCl [(u3, .inr (2, [.ref u4])), (u4, .inl (cI, 144, .inl (S2))), (v3, .inr (2, [.ref v4])), (v4, .inl (cI, 144, .inl (S2))), (u1, .inr (2, [.ref u2])), (u2, .inl (cI, 144, .inl (D2))), (v1, .inr (2, [.ref v2])), (v2, .inl (cI, 144, .inl (D2))), (u0, .inr (3, [.ref u1, .ref u3, .ref u5, .ref u7, .ref u8])), (u5, .inr (2, [.ref u6])), (u6, .inl (cI, 144, .inl (R1))), (u7, .inl (cI, 9, .inl (N1))), (u8, .inl (cI, 136, .inl (G1))), (v0, .inr (3, [.ref v1, .ref v3, .ref v5, .ref v7, .ref v8])), (v5, .inr (2, [.ref v6])), (v6, .inl (cI, 144, .inl (R2))), (v7, .inl (cI, 9, .inl (N2))), (v8, .inl (cI, 136, .inl (G2)))] H := hP
  have hD : va_D (Ar) [(u3, .inr (2, [.ref u4])), (u4, .inl (cI, 144, .inl (S2))), (v3, .inr (2, [.ref v4])), (v4, .inl (cI, 144, .inl (S2))), (u1, .inr (2, [.ref u2])), (u2, .inl (cI, 144, .inl (D2))), (v1, .inr (2, [.ref v2])), (v2, .inl (cI, 144, .inl (D2))), (u0, .inr (3, [.ref u1, .ref u3, .ref u5, .ref u7, .ref u8])), (u5, .inr (2, [.ref u6])), (u6, .inl (cI, 144, .inl (R1))), (u7, .inl (cI, 9, .inl (N1))), (u8, .inl (cI, 136, .inl (G1))), (v0, .inr (3, [.ref v1, .ref v3, .ref v5, .ref v7, .ref v8])), (v5, .inr (2, [.ref v6])), (v6, .inl (cI, 144, .inl (R2))), (v7, .inl (cI, 9, .inl (N2))), (v8, .inl (cI, 136, .inl (G2)))] := hD
  refine lv_aload_n hx hb dX3_copyFrom_22 rfl (lv_at hl 0 rfl) ?_
  refine va_get (v := .ref u5) (D := D) (ci := 3) (C := RX3) (T := TX3) (N := 5) hx hb hts (by decide +kernel) hown hK hP 8 rfl rfl 2 (by decide) (hts (.fieldLink RX3 21 "SpiralFrames$State" "receiver" "LSpiralFrames$Picture;") (by decide +kernel)) (fun _ h9 => h9) rfl dX3_copyFrom_23 ?_
  refine lv_aload_n hx hb dX3_copyFrom_26 rfl (lv_at hl 1 rfl) ?_
  refine va_get (v := .ref v5) (D := D) (ci := 3) (C := RX3) (T := TX3) (N := 5) hx hb hts (by decide +kernel) hown hK hP 13 rfl rfl 2 (by decide) (hts (.fieldLink RX3 21 "SpiralFrames$State" "receiver" "LSpiralFrames$Picture;") (by decide +kernel)) (fun _ h9 => h9) rfl dX3_copyFrom_27 ?_
  refine x_callWv (wc := [(u5, .inr (2, [.ref u6])), (u6, .inl (cI, 144, .inl (R1))), (v5, .inr (2, [.ref v6])), (v6, .inl (cI, 144, .inl (R2)))]) (wr := [(u3, .inr (2, [.ref u4])), (u4, .inl (cI, 144, .inl (S2))), (v3, .inr (2, [.ref v4])), (v4, .inl (cI, 144, .inl (S2))), (u1, .inr (2, [.ref u2])), (u2, .inl (cI, 144, .inl (D2))), (v1, .inr (2, [.ref v2])), (v2, .inl (cI, 144, .inl (D2))), (u0, .inr (3, [.ref u1, .ref u3, .ref u5, .ref u7, .ref u8])), (u7, .inl (cI, 9, .inl (N1))), (u8, .inl (cI, 136, .inl (G1))), (v0, .inr (3, [.ref v1, .ref v3, .ref v5, .ref v7, .ref v8])), (v7, .inl (cI, 9, .inl (N2))), (v8, .inl (cI, 136, .inl (G2)))]) (va_runVN (As := [.ref v5]) (rest := []) ⟨hx, hb, hml, hown, hts⟩ (c_X2_copyFrom l D cI cC cS tt H.size u5 u6 v5 v6 R1 R2) ⟨(va_cnB 1 hts gX3_copyFrom_X2_copyFrom_n31 rfl rfl rfl (x_nestk hE.1 (w := .methodLinkNest RX3 31 yX2_copyFrom RX4) 14 rfl) (hts (.initialized RX2) (by decide +kernel)) (by decide +kernel) ⟨Nat.le_of_ble_eq_true rfl, Nat.le_of_ble_eq_true rfl⟩), hts (.instanceMethod yX2_copyFrom) (by decide +kernel), hts (.selects RX2 yX2_copyFrom yX2_copyFrom) (by decide +kernel)⟩ ⟨x_blindW, va_recv hK hP (ci := 2) (q0 := 9) rfl rfl, x_preW hP hD hK hE hS hA [9, 10, 14, 15] rfl (by decide)⟩ rfl rfl hl.1 rfl (lv_room (Nat.le_of_ble_eq_true rfl)) dX3_copyFrom_30 ⟨(Nat.le_of_ble_eq_true rfl), (Nat.le_of_ble_eq_true rfl)⟩) hP hD hS hA [9, 10, 14, 15] [0, 1, 2, 3, 4, 5, 6, 7, 8, 11, 12, 13, 16, 17] rfl rfl (by decide) (by decide) (fun w1 H locs hw hP hD hS => ?_)
  obtain rfl := hw
  have hP : va_P D vwCl [(u5, .inr (2, [.ref u6])), (u6, .inl (cI, 144, .inl (R2))), (v5, .inr (2, [.ref v6])), (v6, .inl (cI, 144, .inl (R2))), (u3, .inr (2, [.ref u4])), (u4, .inl (cI, 144, .inl (S2))), (v3, .inr (2, [.ref v4])), (v4, .inl (cI, 144, .inl (S2))), (u1, .inr (2, [.ref u2])), (u2, .inl (cI, 144, .inl (D2))), (v1, .inr (2, [.ref v2])), (v2, .inl (cI, 144, .inl (D2))), (u0, .inr (3, [.ref u1, .ref u3, .ref u5, .ref u7, .ref u8])), (u7, .inl (cI, 9, .inl (N1))), (u8, .inl (cI, 136, .inl (G1))), (v0, .inr (3, [.ref v1, .ref v3, .ref v5, .ref v7, .ref v8])), (v7, .inl (cI, 9, .inl (N2))), (v8, .inl (cI, 136, .inl (G2)))] H := hP
  have hD : va_D (Ar) [(u5, .inr (2, [.ref u6])), (u6, .inl (cI, 144, .inl (R2))), (v5, .inr (2, [.ref v6])), (v6, .inl (cI, 144, .inl (R2))), (u3, .inr (2, [.ref u4])), (u4, .inl (cI, 144, .inl (S2))), (v3, .inr (2, [.ref v4])), (v4, .inl (cI, 144, .inl (S2))), (u1, .inr (2, [.ref u2])), (u2, .inl (cI, 144, .inl (D2))), (v1, .inr (2, [.ref v2])), (v2, .inl (cI, 144, .inl (D2))), (u0, .inr (3, [.ref u1, .ref u3, .ref u5, .ref u7, .ref u8])), (u7, .inl (cI, 9, .inl (N1))), (u8, .inl (cI, 136, .inl (G1))), (v0, .inr (3, [.ref v1, .ref v3, .ref v5, .ref v7, .ref v8])), (v7, .inl (cI, 9, .inl (N2))), (v8, .inl (cI, 136, .inl (G2)))] := hD
  refine lv_aload_n hx hb dX3_copyFrom_33 rfl (lv_at hl 1 rfl) ?_
  refine va_get (v := .ref v7) (D := D) (ci := 3) (C := RX3) (T := TX3) (N := 5) hx hb hts (by decide +kernel) hown hK hP 15 rfl rfl 3 (by decide) (hts (.fieldLink RX3 24 "SpiralFrames$State" "numbers" "[I") (by decide +kernel)) (fun _ h9 => h9) rfl dX3_copyFrom_34 ?_
  refine lv_iconst (v := 0) hx hb dX3_copyFrom_37 (by decide) ?_
  refine lv_aload_n hx hb dX3_copyFrom_38 rfl (lv_at hl 0 rfl) ?_
  refine va_get (v := .ref u7) (D := D) (ci := 3) (C := RX3) (T := TX3) (N := 5) hx hb hts (by decide +kernel) hown hK hP 12 rfl rfl 3 (by decide) (hts (.fieldLink RX3 24 "SpiralFrames$State" "numbers" "[I") (by decide +kernel)) (fun _ h9 => h9) rfl dX3_copyFrom_39 ?_
  refine lv_iconst (v := 0) hx hb dX3_copyFrom_42 (by decide) ?_
  refine lv_bipush (v := 9) hx hb dX3_copyFrom_43 (by decide) ?_
  refine x_copy hx hb (by rw [hml]; exact hl.1.symm) hown (hts (.methodLink RX3 35 arraycopyName) (by decide +kernel)) (hts (.native arraycopyName) (by decide +kernel)) (hts (.static arraycopyName) (by decide +kernel)) (hts (.initialized "java/lang/System") (by decide +kernel)) hK hP hD hS 16 13 rfl rfl (N := 9) (by decide) (by decide) (Nat.le_of_ble_eq_true rfl) (Nat.le_of_ble_eq_true rfl) dX3_copyFrom_45 (fun H locs hP hD hS => ?_)
  have hP : va_P D vwCl [(u5, .inr (2, [.ref u6])), (u6, .inl (cI, 144, .inl (R2))), (v5, .inr (2, [.ref v6])), (v6, .inl (cI, 144, .inl (R2))), (u3, .inr (2, [.ref u4])), (u4, .inl (cI, 144, .inl (S2))), (v3, .inr (2, [.ref v4])), (v4, .inl (cI, 144, .inl (S2))), (u1, .inr (2, [.ref u2])), (u2, .inl (cI, 144, .inl (D2))), (v1, .inr (2, [.ref v2])), (v2, .inl (cI, 144, .inl (D2))), (u0, .inr (3, [.ref u1, .ref u3, .ref u5, .ref u7, .ref u8])), (u7, .inl (cI, 9, .inl (N2))), (u8, .inl (cI, 136, .inl (G1))), (v0, .inr (3, [.ref v1, .ref v3, .ref v5, .ref v7, .ref v8])), (v7, .inl (cI, 9, .inl (N2))), (v8, .inl (cI, 136, .inl (G2)))] H := hP
  have hD : va_D (Ar) [(u5, .inr (2, [.ref u6])), (u6, .inl (cI, 144, .inl (R2))), (v5, .inr (2, [.ref v6])), (v6, .inl (cI, 144, .inl (R2))), (u3, .inr (2, [.ref u4])), (u4, .inl (cI, 144, .inl (S2))), (v3, .inr (2, [.ref v4])), (v4, .inl (cI, 144, .inl (S2))), (u1, .inr (2, [.ref u2])), (u2, .inl (cI, 144, .inl (D2))), (v1, .inr (2, [.ref v2])), (v2, .inl (cI, 144, .inl (D2))), (u0, .inr (3, [.ref u1, .ref u3, .ref u5, .ref u7, .ref u8])), (u7, .inl (cI, 9, .inl (N2))), (u8, .inl (cI, 136, .inl (G1))), (v0, .inr (3, [.ref v1, .ref v3, .ref v5, .ref v7, .ref v8])), (v7, .inl (cI, 9, .inl (N2))), (v8, .inl (cI, 136, .inl (G2)))] := hD
  refine lv_aload_n hx hb dX3_copyFrom_48 rfl (lv_at hl 1 rfl) ?_
  refine va_get (v := .ref v8) (D := D) (ci := 3) (C := RX3) (T := TX3) (N := 5) hx hb hts (by decide +kernel) hown hK hP 15 rfl rfl 4 (by decide) (hts (.fieldLink RX3 28 "SpiralFrames$State" "log" "[I") (by decide +kernel)) (fun _ h9 => h9) rfl dX3_copyFrom_49 ?_
  refine lv_iconst (v := 0) hx hb dX3_copyFrom_52 (by decide) ?_
  refine lv_aload_n hx hb dX3_copyFrom_53 rfl (lv_at hl 0 rfl) ?_
  refine va_get (v := .ref u8) (D := D) (ci := 3) (C := RX3) (T := TX3) (N := 5) hx hb hts (by decide +kernel) hown hK hP 12 rfl rfl 4 (by decide) (hts (.fieldLink RX3 28 "SpiralFrames$State" "log" "[I") (by decide +kernel)) (fun _ h9 => h9) rfl dX3_copyFrom_54 ?_
  refine lv_iconst (v := 0) hx hb dX3_copyFrom_57 (by decide) ?_
  refine lv_sipush (v := 136) hx hb dX3_copyFrom_58 (by decide) ?_
  refine x_copy hx hb (by rw [hml]; exact hl.1.symm) hown (hts (.methodLink RX3 35 arraycopyName) (by decide +kernel)) (hts (.native arraycopyName) (by decide +kernel)) (hts (.static arraycopyName) (by decide +kernel)) (hts (.initialized "java/lang/System") (by decide +kernel)) hK hP hD hS 17 14 rfl rfl (N := 136) (by decide) (by decide) (Nat.le_of_ble_eq_true rfl) (Nat.le_of_ble_eq_true rfl) dX3_copyFrom_61 (fun H locs hP hD hS => ?_)
  have hP : va_P D vwCl [(u5, .inr (2, [.ref u6])), (u6, .inl (cI, 144, .inl (R2))), (v5, .inr (2, [.ref v6])), (v6, .inl (cI, 144, .inl (R2))), (u3, .inr (2, [.ref u4])), (u4, .inl (cI, 144, .inl (S2))), (v3, .inr (2, [.ref v4])), (v4, .inl (cI, 144, .inl (S2))), (u1, .inr (2, [.ref u2])), (u2, .inl (cI, 144, .inl (D2))), (v1, .inr (2, [.ref v2])), (v2, .inl (cI, 144, .inl (D2))), (u0, .inr (3, [.ref u1, .ref u3, .ref u5, .ref u7, .ref u8])), (u7, .inl (cI, 9, .inl (N2))), (u8, .inl (cI, 136, .inl (G2))), (v0, .inr (3, [.ref v1, .ref v3, .ref v5, .ref v7, .ref v8])), (v7, .inl (cI, 9, .inl (N2))), (v8, .inl (cI, 136, .inl (G2)))] H := hP
  have hD : va_D (Ar) [(u5, .inr (2, [.ref u6])), (u6, .inl (cI, 144, .inl (R2))), (v5, .inr (2, [.ref v6])), (v6, .inl (cI, 144, .inl (R2))), (u3, .inr (2, [.ref u4])), (u4, .inl (cI, 144, .inl (S2))), (v3, .inr (2, [.ref v4])), (v4, .inl (cI, 144, .inl (S2))), (u1, .inr (2, [.ref u2])), (u2, .inl (cI, 144, .inl (D2))), (v1, .inr (2, [.ref v2])), (v2, .inl (cI, 144, .inl (D2))), (u0, .inr (3, [.ref u1, .ref u3, .ref u5, .ref u7, .ref u8])), (u7, .inl (cI, 9, .inl (N2))), (u8, .inl (cI, 136, .inl (G2))), (v0, .inr (3, [.ref v1, .ref v3, .ref v5, .ref v7, .ref v8])), (v7, .inl (cI, 9, .inl (N2))), (v8, .inl (cI, 136, .inl (G2)))] := hD
  refine x_vretW (w := [(u0, .inr (3, [.ref u1, .ref u3, .ref u5, .ref u7, .ref u8])), (u1, .inr (2, [.ref u2])), (u2, .inl (cI, 144, .inl (D2))), (u3, .inr (2, [.ref u4])), (u4, .inl (cI, 144, .inl (S2))), (u5, .inr (2, [.ref u6])), (u6, .inl (cI, 144, .inl (R2))), (u7, .inl (cI, 9, .inl (N2))), (u8, .inl (cI, 136, .inl (G2))), (v0, .inr (3, [.ref v1, .ref v3, .ref v5, .ref v7, .ref v8])), (v1, .inr (2, [.ref v2])), (v2, .inl (cI, 144, .inl (D2))), (v3, .inr (2, [.ref v4])), (v4, .inl (cI, 144, .inl (S2))), (v5, .inr (2, [.ref v6])), (v6, .inl (cI, 144, .inl (R2))), (v7, .inl (cI, 9, .inl (N2))), (v8, .inl (cI, 136, .inl (G2)))]) hQ hAe hx hb hr hlocks (hP.sub [12, 8, 9, 4, 5, 0, 1, 13, 14, 15, 10, 11, 6, 7, 2, 3, 16, 17] rfl) (hD.sub [12, 8, 9, 4, 5, 0, 1, 13, 14, 15, 10, 11, 6, 7, 2, 3, 16, 17] (by decide) rfl) hS ?_ dX3_copyFrom_64
  exact rfl
set_option maxHeartbeats 4000000 in
set_option maxRecDepth 100000 in
theorem c_X3_picture_0 (l : Launch) (D : va_G) (cI cC cS : ClassId) (tt : Nat → Nat) (u0 : Nat) (u1 : Nat) (u2 : Nat) (u3 : Nat) (u4 : Nat) (u5 : Nat) (u6 : Nat) (u7 : Nat) (u8 : Nat) : Met l yX3_picture wsX3_picture ({ frames := 0, cells := 0, slots := 0, locals := 0 } : Room) (x_PR D cI cC cS tt [(u0, .inr (3, [.ref u1, .ref u3, .ref u5, .ref u7, .ref u8]))] [.ref u0, .int 0]) (x_QcRef u1) 0 0 (fun _ => False) := by
  refine Met.ofW (cc := cX3_picture) (maxL := 2) (ret := (some (.object "SpiralFrames$Picture"))) (by decide) rfl ?_
  intro p e s m args below meth c s₁ hBd hml hv
  obtain ⟨rfl, hP, hK, hE⟩ := hv
  have hx := hBd.exec
  have hb := hBd.bytes
  have hr := hBd.returns
  have hts := atoms_spec (ws := wsX3_picture) hBd.pre
  have hown : s.vm.findClass RX3 = some m.cls := findClass_of_methodNamed hBd.named
  have hlocks := hBd.notSynchronized
  have hS : va_S (fun _ => False) s.heap s.heap [] := va_S.rf
  have hl := lv_entry ([.ref u0, .int 0]) (n := 2) (Nat.le_of_ble_eq_true rfl)
  rw [lg_entry_eq]
  generalize (lg_sl ([.ref u0, .int 0]) ++ List.replicate (2 - (lg_sl ([.ref u0, .int 0])).length) Slot.unset).toArray = ls at hl ⊢
  have hl : lv_has ls 2 [(0, .ref u0), (1, .int 0)] := hl
  refine x_genQ (fun Q hQ => ?_)
  refine lv_iload_n hx hb dX3_picture_0 rfl (lv_at hl 1 rfl) ?_
  refine lv_if_ne (tgt := 9) hx hb dX3_picture_1 (by decide) (fun h => False.elim (by revert h; decide)) (fun _ => ?_)
  refine lv_aload_n hx hb dX3_picture_4 rfl (lv_at hl 0 rfl) ?_
  refine va_get (v := .ref u1) (D := D) (ci := 3) (C := RX3) (T := TX3) (N := 5) hx hb hts (by decide +kernel) hown hK hP 0 rfl rfl 0 (by decide) (hts (.fieldLink RX3 12 "SpiralFrames$State" "drawing" "LSpiralFrames$Picture;") (by decide +kernel)) (fun _ h9 => h9) rfl dX3_picture_5 ?_
  exact x_aretR hQ hx hb hr hlocks (Or.inl ⟨_, rfl⟩) rfl dX3_picture_8
set_option maxHeartbeats 4000000 in
set_option maxRecDepth 100000 in
theorem c_X3_picture_1 (l : Launch) (D : va_G) (cI cC cS : ClassId) (tt : Nat → Nat) (u0 : Nat) (u1 : Nat) (u2 : Nat) (u3 : Nat) (u4 : Nat) (u5 : Nat) (u6 : Nat) (u7 : Nat) (u8 : Nat) : Met l yX3_picture wsX3_picture ({ frames := 0, cells := 0, slots := 0, locals := 0 } : Room) (x_PR D cI cC cS tt [(u0, .inr (3, [.ref u1, .ref u3, .ref u5, .ref u7, .ref u8]))] [.ref u0, .int 1]) (x_QcRef u3) 0 0 (fun _ => False) := by
  refine Met.ofW (cc := cX3_picture) (maxL := 2) (ret := (some (.object "SpiralFrames$Picture"))) (by decide) rfl ?_
  intro p e s m args below meth c s₁ hBd hml hv
  obtain ⟨rfl, hP, hK, hE⟩ := hv
  have hx := hBd.exec
  have hb := hBd.bytes
  have hr := hBd.returns
  have hts := atoms_spec (ws := wsX3_picture) hBd.pre
  have hown : s.vm.findClass RX3 = some m.cls := findClass_of_methodNamed hBd.named
  have hlocks := hBd.notSynchronized
  have hS : va_S (fun _ => False) s.heap s.heap [] := va_S.rf
  have hl := lv_entry ([.ref u0, .int 1]) (n := 2) (Nat.le_of_ble_eq_true rfl)
  rw [lg_entry_eq]
  generalize (lg_sl ([.ref u0, .int 1]) ++ List.replicate (2 - (lg_sl ([.ref u0, .int 1])).length) Slot.unset).toArray = ls at hl ⊢
  have hl : lv_has ls 2 [(0, .ref u0), (1, .int 1)] := hl
  refine x_genQ (fun Q hQ => ?_)
  refine lv_iload_n hx hb dX3_picture_0 rfl (lv_at hl 1 rfl) ?_
  refine lv_if_ne (tgt := 9) hx hb dX3_picture_1 (by decide) (fun _ => ?_) (fun h => False.elim (by revert h; decide))
  refine lv_iload_n hx hb dX3_picture_9 rfl (lv_at hl 1 rfl) ?_
  refine lv_iconst (v := 1) hx hb dX3_picture_10 (by decide) ?_
  refine lv_icmp_ne (tgt := 21) hx hb dX3_picture_11 (by decide) (fun h => False.elim (by revert h; decide)) (fun _ => ?_)
  refine lv_aload_n hx hb dX3_picture_14 rfl (lv_at hl 0 rfl) ?_
  refine va_get (v := .ref u3) (D := D) (ci := 3) (C := RX3) (T := TX3) (N := 5) hx hb hts (by decide +kernel) hown hK hP 0 rfl rfl 1 (by decide) (hts (.fieldLink RX3 18 "SpiralFrames$State" "sender" "LSpiralFrames$Picture;") (by decide +kernel)) (fun _ h9 => h9) rfl dX3_picture_15 ?_
  refine lv_goto (tgt := 25) hx hb dX3_picture_18 (by decide) ?_
  exact x_aretR hQ hx hb hr hlocks (Or.inl ⟨_, rfl⟩) rfl dX3_picture_25
set_option maxHeartbeats 4000000 in
set_option maxRecDepth 100000 in
theorem c_X3_picture_2 (l : Launch) (D : va_G) (cI cC cS : ClassId) (tt : Nat → Nat) (u0 : Nat) (u1 : Nat) (u2 : Nat) (u3 : Nat) (u4 : Nat) (u5 : Nat) (u6 : Nat) (u7 : Nat) (u8 : Nat) : Met l yX3_picture wsX3_picture ({ frames := 0, cells := 0, slots := 0, locals := 0 } : Room) (x_PR D cI cC cS tt [(u0, .inr (3, [.ref u1, .ref u3, .ref u5, .ref u7, .ref u8]))] [.ref u0, .int 2]) (x_QcRef u5) 0 0 (fun _ => False) := by
  refine Met.ofW (cc := cX3_picture) (maxL := 2) (ret := (some (.object "SpiralFrames$Picture"))) (by decide) rfl ?_
  intro p e s m args below meth c s₁ hBd hml hv
  obtain ⟨rfl, hP, hK, hE⟩ := hv
  have hx := hBd.exec
  have hb := hBd.bytes
  have hr := hBd.returns
  have hts := atoms_spec (ws := wsX3_picture) hBd.pre
  have hown : s.vm.findClass RX3 = some m.cls := findClass_of_methodNamed hBd.named
  have hlocks := hBd.notSynchronized
  have hS : va_S (fun _ => False) s.heap s.heap [] := va_S.rf
  have hl := lv_entry ([.ref u0, .int 2]) (n := 2) (Nat.le_of_ble_eq_true rfl)
  rw [lg_entry_eq]
  generalize (lg_sl ([.ref u0, .int 2]) ++ List.replicate (2 - (lg_sl ([.ref u0, .int 2])).length) Slot.unset).toArray = ls at hl ⊢
  have hl : lv_has ls 2 [(0, .ref u0), (1, .int 2)] := hl
  refine x_genQ (fun Q hQ => ?_)
  refine lv_iload_n hx hb dX3_picture_0 rfl (lv_at hl 1 rfl) ?_
  refine lv_if_ne (tgt := 9) hx hb dX3_picture_1 (by decide) (fun _ => ?_) (fun h => False.elim (by revert h; decide))
  refine lv_iload_n hx hb dX3_picture_9 rfl (lv_at hl 1 rfl) ?_
  refine lv_iconst (v := 1) hx hb dX3_picture_10 (by decide) ?_
  refine lv_icmp_ne (tgt := 21) hx hb dX3_picture_11 (by decide) (fun _ => ?_) (fun h => False.elim (by revert h; decide))
  refine lv_aload_n hx hb dX3_picture_21 rfl (lv_at hl 0 rfl) ?_
  refine va_get (v := .ref u5) (D := D) (ci := 3) (C := RX3) (T := TX3) (N := 5) hx hb hts (by decide +kernel) hown hK hP 0 rfl rfl 2 (by decide) (hts (.fieldLink RX3 21 "SpiralFrames$State" "receiver" "LSpiralFrames$Picture;") (by decide +kernel)) (fun _ h9 => h9) rfl dX3_picture_22 ?_
  exact x_aretR hQ hx hb hr hlocks (Or.inl ⟨_, rfl⟩) rfl dX3_picture_25
set_option maxHeartbeats 4000000 in
set_option maxRecDepth 100000 in
theorem c_X3_spendable (l : Launch) (D : va_G) (cI cC cS : ClassId) (tt : Nat → Nat) (u0 : Nat) (u1 : Nat) (u3 : Nat) (u5 : Nat) (u7 : Nat) (u8 : Nat) (N1 : Nat → Int32) : Met l yX3_spendable wsX3_spendable ({ frames := 0, cells := 0, slots := 0, locals := 0 } : Room) (x_PR D cI cC cS tt [(u0, .inr (3, [.ref u1, .ref u3, .ref u5, .ref u7, .ref u8])), (u7, .inl (cI, 9, .inl (N1)))] [.ref u0]) (QcRead (N1 0 + N1 3)) 0 0 (fun _ => False) := by
  refine Met.ofW (cc := cX3_spendable) (maxL := 1) (ret := (some .int)) (by decide) rfl ?_
  intro p e s m args below meth c s₁ hBd hml hv
  obtain ⟨rfl, hP, hK, hE⟩ := hv
  have hx := hBd.exec
  have hb := hBd.bytes
  have hr := hBd.returns
  have hts := atoms_spec (ws := wsX3_spendable) hBd.pre
  have hown : s.vm.findClass RX3 = some m.cls := findClass_of_methodNamed hBd.named
  have hlocks := hBd.notSynchronized
  have hS : va_S (fun _ => False) s.heap s.heap [] := va_S.rf
  have hl := lv_entry ([.ref u0]) (n := 1) (Nat.le_of_ble_eq_true rfl)
  rw [lg_entry_eq]
  generalize (lg_sl ([.ref u0]) ++ List.replicate (1 - (lg_sl ([.ref u0])).length) Slot.unset).toArray = ls at hl ⊢
  have hl : lv_has ls 1 [(0, .ref u0)] := hl
  refine x_genQ (fun Q hQ => ?_)
  refine lv_aload_n hx hb dX3_spendable_0 rfl (lv_at hl 0 rfl) ?_
  refine va_get (v := .ref u7) (D := D) (ci := 3) (C := RX3) (T := TX3) (N := 5) hx hb hts (by decide +kernel) hown hK hP 0 rfl rfl 3 (by decide) (hts (.fieldLink RX3 24 "SpiralFrames$State" "numbers" "[I") (by decide +kernel)) (fun _ h9 => h9) rfl dX3_spendable_1 ?_
  refine lv_iconst (v := 0) hx hb dX3_spendable_4 (by decide) ?_
  refine x_eqi (show (0 : Int32) = nI 0 from by decide) ?_
  refine x_iald hx hb hK hP 1 0 rfl rfl (k := 0) (by omega) (by decide) dX3_spendable_5 ?_
  refine lv_aload_n hx hb dX3_spendable_6 rfl (lv_at hl 0 rfl) ?_
  refine va_get (v := .ref u7) (D := D) (ci := 3) (C := RX3) (T := TX3) (N := 5) hx hb hts (by decide +kernel) hown hK hP 0 rfl rfl 3 (by decide) (hts (.fieldLink RX3 24 "SpiralFrames$State" "numbers" "[I") (by decide +kernel)) (fun _ h9 => h9) rfl dX3_spendable_7 ?_
  refine lv_iconst (v := 3) hx hb dX3_spendable_10 (by decide) ?_
  refine x_eqi (show (3 : Int32) = nI 3 from by decide) ?_
  refine x_iald hx hb hK hP 1 0 rfl rfl (k := 3) (by omega) (by decide) dX3_spendable_11 ?_
  refine lv_iadd hx hb dX3_spendable_12 ?_
  exact x_iretR hQ hx hb hr hlocks rfl dX3_spendable_13
set_option maxHeartbeats 4000000 in
set_option maxRecDepth 100000 in
theorem c_X3_canBeKeyed (l : Launch) (D : va_G) (cI cC cS : ClassId) (tt : Nat → Nat) (u0 : Nat) (u1 : Nat) (u3 : Nat) (u5 : Nat) (u7 : Nat) (u8 : Nat) (N1 : Nat → Int32) : Met l yX3_canBeKeyed wsX3_canBeKeyed ({ frames := 1, cells := 0, slots := 0, locals := 20 } : Room) (x_PR D cI cC cS tt [(u0, .inr (3, [.ref u1, .ref u3, .ref u5, .ref u7, .ref u8])), (u7, .inl (cI, 9, .inl (N1)))] [.ref u0]) (QcRead (bI (decide (594 ≤ (N1 0 + N1 3).toInt)))) 0 0 (fun _ => False) := by
  refine Met.ofW (cc := cX3_canBeKeyed) (maxL := 1) (ret := (some .boolean)) (by decide) rfl ?_
  intro p e s m args below meth c s₁ hBd hml hv
  obtain ⟨rfl, hP, hK, hE⟩ := hv
  have hx := hBd.exec
  have hb := hBd.bytes
  have hr := hBd.returns
  have hts := atoms_spec (ws := wsX3_canBeKeyed) hBd.pre
  have hown : s.vm.findClass RX3 = some m.cls := findClass_of_methodNamed hBd.named
  have hlocks := hBd.notSynchronized
  have hS : va_S (fun _ => False) s.heap s.heap [] := va_S.rf
  have hl := lv_entry ([.ref u0]) (n := 1) (Nat.le_of_ble_eq_true rfl)
  rw [lg_entry_eq]
  generalize (lg_sl ([.ref u0]) ++ List.replicate (1 - (lg_sl ([.ref u0])).length) Slot.unset).toArray = ls at hl ⊢
  have hl : lv_has ls 1 [(0, .ref u0)] := hl
  refine x_genQ (fun Q hQ => ?_)
  refine lv_sipush (v := 594) hx hb dX3_canBeKeyed_0 (by decide) ?_
  refine lv_aload_n hx hb dX3_canBeKeyed_3 rfl (lv_at hl 0 rfl) ?_
  refine x_callR (va_runV (As := []) (rest := [.int 594]) ⟨hx, hb, hml, hown, hts⟩ (c_X3_spendable l D cI cC cS tt u0 u1 u3 u5 u7 u8 N1) (cwV 0 hts gX3_canBeKeyed_X3_spendable rfl rfl rfl (by decide +kernel) ⟨Nat.le_of_ble_eq_true rfl, Nat.le_of_ble_eq_true rfl⟩) ⟨x_blindR, va_recv hK hP (ci := 3) (q0 := 0) rfl rfl, x_preR (hP.sub (ws' := [(u0, .inr (3, [.ref u1, .ref u3, .ref u5, .ref u7, .ref u8])), (u7, .inl (cI, 9, .inl (N1)))]) [0, 1] rfl) hK hE hS⟩ rfl rfl hl.1 rfl (lv_room (Nat.le_of_ble_eq_true rfl)) dX3_canBeKeyed_4 ⟨(Nat.le_of_ble_eq_true rfl), (Nat.le_of_ble_eq_true rfl)⟩) ?_
  refine x_icmp_gt (tgt := 14) hx hb dX3_canBeKeyed_7 (by decide) (X := 594) (show (594 : Int32).toInt = 594 from by decide) (Y := (N1 0 + N1 3).toInt) rfl (fun c_7 => ?_) (fun c_7 => ?_)
  · skip
    refine lv_iconst (v := 0) hx hb dX3_canBeKeyed_14 (by decide) ?_
    exact x_zretR hQ hx hb hr hlocks (by decide) (bI_f (by omega)) dX3_canBeKeyed_15
  · skip
    refine lv_iconst (v := 1) hx hb dX3_canBeKeyed_10 (by decide) ?_
    refine lv_goto (tgt := 15) hx hb dX3_canBeKeyed_11 (by decide) ?_
    exact x_zretR hQ hx hb hr hlocks (by decide) (bI_t (by omega)) dX3_canBeKeyed_15
set_option maxHeartbeats 4000000 in
set_option maxRecDepth 100000 in
theorem c_X3_isToBeKeyed (l : Launch) (D : va_G) (cI cC cS : ClassId) (tt : Nat → Nat) (u0 : Nat) (u1 : Nat) (u3 : Nat) (u5 : Nat) (u7 : Nat) (u8 : Nat) (N1 : Nat → Int32) : Met l yX3_isToBeKeyed wsX3_isToBeKeyed ({ frames := 0, cells := 0, slots := 0, locals := 0 } : Room) (x_PR D cI cC cS tt [(u0, .inr (3, [.ref u1, .ref u3, .ref u5, .ref u7, .ref u8])), (u7, .inl (cI, 9, .inl (N1)))] [.ref u0]) (QcRead (bI (decide (0 < (N1 2).toInt ∧ (N1 2).toInt ≤ (N1 8).toInt)))) 0 0 (fun _ => False) := by
  refine Met.ofW (cc := cX3_isToBeKeyed) (maxL := 1) (ret := (some .boolean)) (by decide) rfl ?_
  intro p e s m args below meth c s₁ hBd hml hv
  obtain ⟨rfl, hP, hK, hE⟩ := hv
  have hx := hBd.exec
  have hb := hBd.bytes
  have hr := hBd.returns
  have hts := atoms_spec (ws := wsX3_isToBeKeyed) hBd.pre
  have hown : s.vm.findClass RX3 = some m.cls := findClass_of_methodNamed hBd.named
  have hlocks := hBd.notSynchronized
  have hS : va_S (fun _ => False) s.heap s.heap [] := va_S.rf
  have hl := lv_entry ([.ref u0]) (n := 1) (Nat.le_of_ble_eq_true rfl)
  rw [lg_entry_eq]
  generalize (lg_sl ([.ref u0]) ++ List.replicate (1 - (lg_sl ([.ref u0])).length) Slot.unset).toArray = ls at hl ⊢
  have hl : lv_has ls 1 [(0, .ref u0)] := hl
  refine x_genQ (fun Q hQ => ?_)
  refine lv_aload_n hx hb dX3_isToBeKeyed_0 rfl (lv_at hl 0 rfl) ?_
  refine va_get (v := .ref u7) (D := D) (ci := 3) (C := RX3) (T := TX3) (N := 5) hx hb hts (by decide +kernel) hown hK hP 0 rfl rfl 3 (by decide) (hts (.fieldLink RX3 24 "SpiralFrames$State" "numbers" "[I") (by decide +kernel)) (fun _ h9 => h9) rfl dX3_isToBeKeyed_1 ?_
  refine lv_iconst (v := 2) hx hb dX3_isToBeKeyed_4 (by decide) ?_
  refine x_eqi (show (2 : Int32) = nI 2 from by decide) ?_
  refine x_iald hx hb hK hP 1 0 rfl rfl (k := 2) (by omega) (by decide) dX3_isToBeKeyed_5 ?_
  refine x_if_le (tgt := 29) hx hb dX3_isToBeKeyed_6 (by decide) (X := (N1 2).toInt) rfl (fun c_6 => ?_) (fun c_6 => ?_)
  · skip
    refine lv_iconst (v := 0) hx hb dX3_isToBeKeyed_29 (by decide) ?_
    exact x_zretR hQ hx hb hr hlocks (by decide) (bI_f (by omega)) dX3_isToBeKeyed_30
  · skip
    refine lv_aload_n hx hb dX3_isToBeKeyed_9 rfl (lv_at hl 0 rfl) ?_
    refine va_get (v := .ref u7) (D := D) (ci := 3) (C := RX3) (T := TX3) (N := 5) hx hb hts (by decide +kernel) hown hK hP 0 rfl rfl 3 (by decide) (hts (.fieldLink RX3 24 "SpiralFrames$State" "numbers" "[I") (by decide +kernel)) (fun _ h9 => h9) rfl dX3_isToBeKeyed_10 ?_
    refine lv_bipush (v := 8) hx hb dX3_isToBeKeyed_13 (by decide) ?_
    refine x_eqi (show (8 : Int32) = nI 8 from by decide) ?_
    refine x_iald hx hb hK hP 1 0 rfl rfl (k := 8) (by omega) (by decide) dX3_isToBeKeyed_15 ?_
    refine lv_aload_n hx hb dX3_isToBeKeyed_16 rfl (lv_at hl 0 rfl) ?_
    refine va_get (v := .ref u7) (D := D) (ci := 3) (C := RX3) (T := TX3) (N := 5) hx hb hts (by decide +kernel) hown hK hP 0 rfl rfl 3 (by decide) (hts (.fieldLink RX3 24 "SpiralFrames$State" "numbers" "[I") (by decide +kernel)) (fun _ h9 => h9) rfl dX3_isToBeKeyed_17 ?_
    refine lv_iconst (v := 2) hx hb dX3_isToBeKeyed_20 (by decide) ?_
    refine x_eqi (show (2 : Int32) = nI 2 from by decide) ?_
    refine x_iald hx hb hK hP 1 0 rfl rfl (k := 2) (by omega) (by decide) dX3_isToBeKeyed_21 ?_
    refine x_icmp_lt (tgt := 29) hx hb dX3_isToBeKeyed_22 (by decide) (X := (N1 8).toInt) rfl (Y := (N1 2).toInt) rfl (fun c_22 => ?_) (fun c_22 => ?_)
    · skip
      refine lv_iconst (v := 0) hx hb dX3_isToBeKeyed_29 (by decide) ?_
      exact x_zretR hQ hx hb hr hlocks (by decide) (bI_f (by omega)) dX3_isToBeKeyed_30
    · skip
      refine lv_iconst (v := 1) hx hb dX3_isToBeKeyed_25 (by decide) ?_
      refine lv_goto (tgt := 30) hx hb dX3_isToBeKeyed_26 (by decide) ?_
      exact x_zretR hQ hx hb hr hlocks (by decide) (bI_t (by omega)) dX3_isToBeKeyed_30
set_option maxHeartbeats 4000000 in
set_option maxRecDepth 100000 in
theorem c_J9_floorMod_7cf53 (l : Launch) (D : va_G) (cI cC cS : ClassId) (tt : Nat → Nat) (a : Nat) (d9 : Nat) (hh0 : a < 2147483648) (hh1 : 0 < d9) (hh2 : d9 < 2147483648) : Met l yJ9_floorMod_7cf53 wsJ9_floorMod_7cf53 ({ frames := 0, cells := 0, slots := 0, locals := 0 } : Room) (x_PR D cI cC cS tt [] [.int (nI a), .int (nI d9)]) (QcRead (nI (a % d9))) 0 0 (fun _ => False) := by
  refine x_ofWF (cc := cJ9_floorMod_7cf53) (maxL := 3) (ret := (some .int)) (by decide +kernel) rfl ?_
  intro p e s m args below meth c s₁ hBd hml hv
  obtain ⟨rfl, hP, hK, hE⟩ := hv
  have hx := hBd.exec
  have hb := hBd.bytes
  have hr := hBd.returns
  have hts := atoms_spec (ws := wsJ9_floorMod_7cf53) hBd.pre
  have hown : s.vm.findClass RJ9 = some m.cls := findClass_of_methodNamed hBd.named
  have hlocks := hBd.notSynchronized
  have hS : va_S (fun _ => False) s.heap s.heap [] := va_S.rf
  have hl := lv_entry ([.int (nI a), .int (nI d9)]) (n := 3) (Nat.le_of_ble_eq_true rfl)
  rw [lg_entry_eq]
  generalize (lg_sl ([.int (nI a), .int (nI d9)]) ++ List.replicate (3 - (lg_sl ([.int (nI a), .int (nI d9)])).length) Slot.unset).toArray = ls at hl ⊢
  have hl : lv_has ls 3 [(0, .int (nI a)), (1, .int (nI d9))] := hl
  refine x_genQ (fun Q hQ => ?_)
  refine lv_iload_n hx hb dJ9_floorMod_7cf53_0 rfl (lv_at hl 0 rfl) ?_
  refine lv_iload_n hx hb dJ9_floorMod_7cf53_1 rfl (lv_at hl 1 rfl) ?_
  refine lv_irem hx hb dJ9_floorMod_7cf53_2 (x_ne0 (by omega) (by omega)) ?_
  refine x_eqi (x_rem (a := a) (d := d9) (by omega) (by omega) (by omega)) ?_
  refine lv_istore_n (lv' := [(2, .int (nI (a % d9))), (0, .int (nI a)), (1, .int (nI d9))]) hx hb dJ9_floorMod_7cf53_3 rfl hl (by decide) rfl (fun ls hl => ?_)
  refine lv_iload_n hx hb dJ9_floorMod_7cf53_4 rfl (lv_at hl 1 rfl) ?_
  refine lv_iload_n hx hb dJ9_floorMod_7cf53_5 rfl (lv_at hl 2 rfl) ?_
  refine lv_ixor hx hb dJ9_floorMod_7cf53_6 ?_
  refine x_if_ge (tgt := 18) hx hb dJ9_floorMod_7cf53_7 (by decide) (X := ((nI a) ^^^ (nI d9)).toInt) rfl (fun c_7 => ?_) (fun c_7 => ?_)
  rotate_left
  · exfalso; have := x_xor hh0 hh2; omega
  refine lv_iload_n hx hb dJ9_floorMod_7cf53_18 rfl (lv_at hl 0 rfl) ?_
  exact x_iretR hQ hx hb hr hlocks rfl dJ9_floorMod_7cf53_19
set_option maxHeartbeats 4000000 in
set_option maxRecDepth 100000 in
theorem c_X3_logIndex (l : Launch) (D : va_G) (cI cC cS : ClassId) (tt : Nat → Nat) (fr : Nat) (pt : Nat) (hh0 : fr < 100000) (hh1 : pt < 17) : Met l yX3_logIndex wsX3_logIndex ({ frames := 1, cells := 0, slots := 0, locals := 22 } : Room) (x_PR D cI cC cS tt [] [.int (nI fr), .int (nI pt)]) (QcRead (nI (fr % 8 * 17 + pt))) 0 0 (fun _ => False) := by
  refine Met.ofW (cc := cX3_logIndex) (maxL := 2) (ret := (some .int)) (by decide) rfl ?_
  intro p e s m args below meth c s₁ hBd hml hv
  obtain ⟨rfl, hP, hK, hE⟩ := hv
  have hx := hBd.exec
  have hb := hBd.bytes
  have hr := hBd.returns
  have hts := atoms_spec (ws := wsX3_logIndex) hBd.pre
  have hown : s.vm.findClass RX3 = some m.cls := findClass_of_methodNamed hBd.named
  have hlocks := hBd.notSynchronized
  have hS : va_S (fun _ => False) s.heap s.heap [] := va_S.rf
  have hl := lv_entry ([.int (nI fr), .int (nI pt)]) (n := 2) (Nat.le_of_ble_eq_true rfl)
  rw [lg_entry_eq]
  generalize (lg_sl ([.int (nI fr), .int (nI pt)]) ++ List.replicate (2 - (lg_sl ([.int (nI fr), .int (nI pt)])).length) Slot.unset).toArray = ls at hl ⊢
  have hl : lv_has ls 2 [(0, .int (nI fr)), (1, .int (nI pt))] := hl
  refine x_genQ (fun Q hQ => ?_)
  refine lv_iload_n hx hb dX3_logIndex_0 rfl (lv_at hl 0 rfl) ?_
  refine lv_bipush (v := 8) hx hb dX3_logIndex_1 (by decide) ?_
  refine x_callR (va_runS (As := [.int (nI fr), .int 8]) (rest := []) ⟨hx, hb, hml, hown, hts⟩ (c_J9_floorMod_7cf53 l D cI cC cS tt fr 8 (by first | assumption | omega | decide) (by first | assumption | omega | decide) (by first | assumption | omega | decide)) (va_cwS 2 hts gX3_logIndex_J9_floorMod_7cf53 rfl rfl rfl (by decide +kernel) ⟨Nat.le_of_ble_eq_true rfl, Nat.le_of_ble_eq_true rfl⟩) ⟨x_blindR, x_preR (hP.sub (ws' := []) [] rfl) hK hE hS⟩ rfl rfl hl.1 rfl (lv_room (Nat.le_of_ble_eq_true rfl)) dX3_logIndex_3 ⟨(Nat.le_of_ble_eq_true rfl), (Nat.le_of_ble_eq_true rfl)⟩) ?_
  refine lv_bipush (v := 17) hx hb dX3_logIndex_6 (by decide) ?_
  refine lv_imul hx hb dX3_logIndex_8 ?_
  refine x_eqi (show nI (fr % 8) * 17 = nI ((fr % 8) * 17) from pk_mul (fr % 8) 17) ?_
  refine lv_iload_n hx hb dX3_logIndex_9 rfl (lv_at hl 1 rfl) ?_
  refine lv_iadd hx hb dX3_logIndex_10 ?_
  refine x_eqi (show nI ((fr % 8) * 17) + nI pt = nI (((fr % 8) * 17) + pt) from nI_add ((fr % 8) * 17) pt) ?_
  exact x_iretR hQ hx hb hr hlocks rfl dX3_logIndex_11
set_option maxHeartbeats 4000000 in
set_option maxRecDepth 100000 in
theorem c_X3_knowsFrame (l : Launch) (D : va_G) (cI cC cS : ClassId) (tt : Nat → Nat) (u0 : Nat) (u1 : Nat) (u3 : Nat) (u5 : Nat) (u7 : Nat) (u8 : Nat) (fr : Nat) (N1 : Nat → Int32) (bk : Int32) (Bk : Int) (hBk_ : bk.toInt = Bk) (hh0 : N1 4 = nI fr) (hh1 : fr < 100000) : Met l yX3_knowsFrame wsX3_knowsFrame ({ frames := 1, cells := 0, slots := 0, locals := 30 } : Room) (x_PR D cI cC cS tt [(u0, .inr (3, [.ref u1, .ref u3, .ref u5, .ref u7, .ref u8])), (u7, .inl (cI, 9, .inl (N1)))] [.ref u0, .int bk]) (QcRead (bI (decide (0 ≤ Bk ∧ Bk < ((min fr 8 : Nat) : Int))))) 0 0 (fun _ => False) := by
  refine Met.ofW (cc := cX3_knowsFrame) (maxL := 2) (ret := (some .boolean)) (by decide) rfl ?_
  intro p e s m args below meth c s₁ hBd hml hv
  obtain ⟨rfl, hP, hK, hE⟩ := hv
  have hx := hBd.exec
  have hb := hBd.bytes
  have hr := hBd.returns
  have hts := atoms_spec (ws := wsX3_knowsFrame) hBd.pre
  have hown : s.vm.findClass RX3 = some m.cls := findClass_of_methodNamed hBd.named
  have hlocks := hBd.notSynchronized
  have hS : va_S (fun _ => False) s.heap s.heap [] := va_S.rf
  have hl := lv_entry ([.ref u0, .int bk]) (n := 2) (Nat.le_of_ble_eq_true rfl)
  rw [lg_entry_eq]
  generalize (lg_sl ([.ref u0, .int bk]) ++ List.replicate (2 - (lg_sl ([.ref u0, .int bk])).length) Slot.unset).toArray = ls at hl ⊢
  have hl : lv_has ls 2 [(0, .ref u0), (1, .int bk)] := hl
  refine x_genQ (fun Q hQ => ?_)
  refine lv_iload_n hx hb dX3_knowsFrame_0 rfl (lv_at hl 1 rfl) ?_
  refine x_if_lt (tgt := 23) hx hb dX3_knowsFrame_1 (by decide) (X := Bk) hBk_ (fun c_1 => ?_) (fun c_1 => ?_)
  · skip
    refine lv_iconst (v := 0) hx hb dX3_knowsFrame_23 (by decide) ?_
    exact x_zretR hQ hx hb hr hlocks (by decide) (bI_f (by omega)) dX3_knowsFrame_24
  · skip
    refine lv_iload_n hx hb dX3_knowsFrame_4 rfl (lv_at hl 1 rfl) ?_
    refine lv_bipush (v := 8) hx hb dX3_knowsFrame_5 (by decide) ?_
    refine lv_aload_n hx hb dX3_knowsFrame_7 rfl (lv_at hl 0 rfl) ?_
    refine va_get (v := .ref u7) (D := D) (ci := 3) (C := RX3) (T := TX3) (N := 5) hx hb hts (by decide +kernel) hown hK hP 0 rfl rfl 3 (by decide) (hts (.fieldLink RX3 24 "SpiralFrames$State" "numbers" "[I") (by decide +kernel)) (fun _ h9 => h9) rfl dX3_knowsFrame_8 ?_
    refine lv_iconst (v := 4) hx hb dX3_knowsFrame_11 (by decide) ?_
    refine x_eqi (show (4 : Int32) = nI 4 from by decide) ?_
    refine x_iald hx hb hK hP 1 0 rfl rfl (k := 4) (by omega) (by decide) dX3_knowsFrame_12 ?_
    refine x_eqi (show N1 4 = nI fr from hh0) ?_
    refine va_mmin hx hb (by rw [hml]; exact hl.1.symm) hown (hts (.methodLink RX3 45 Lib.Math.min.name) (by decide +kernel)) (hts (.static Lib.Math.min.name) (by decide +kernel)) (hts (.initialized "java/lang/Math") (by decide +kernel)) (hts (.code Lib.Math.min.name Lib.Math.min.code 2 (some .int)) (by decide +kernel)) (Nat.le_of_ble_eq_true rfl) (Nat.le_of_ble_eq_true rfl) (Nat.le_of_ble_eq_true rfl) (Nat.le_of_ble_eq_true rfl) dX3_knowsFrame_13 ?_
    refine x_eqi (show (if (nI fr) < 8 then (nI fr) else 8) = nI (min fr 8) from x_minN (k := 8) (by omega) (by decide)) ?_
    refine x_icmp_ge (tgt := 23) hx hb dX3_knowsFrame_16 (by decide) (X := Bk) hBk_ (Y := ((min fr 8 : Nat) : Int)) (nI_toI (by omega)) (fun c_16 => ?_) (fun c_16 => ?_)
    · skip
      refine lv_iconst (v := 0) hx hb dX3_knowsFrame_23 (by decide) ?_
      exact x_zretR hQ hx hb hr hlocks (by decide) (bI_f (by omega)) dX3_knowsFrame_24
    · skip
      refine lv_iconst (v := 1) hx hb dX3_knowsFrame_19 (by decide) ?_
      refine lv_goto (tgt := 24) hx hb dX3_knowsFrame_20 (by decide) ?_
      exact x_zretR hQ hx hb hr hlocks (by decide) (bI_t (by omega)) dX3_knowsFrame_24
set_option maxHeartbeats 4000000 in
set_option maxRecDepth 100000 in
theorem c_X3_logged (l : Launch) (D : va_G) (cI cC cS : ClassId) (tt : Nat → Nat) (u0 : Nat) (u1 : Nat) (u3 : Nat) (u5 : Nat) (u7 : Nat) (u8 : Nat) (fr : Nat) (bk : Nat) (pt : Nat) (N1 : Nat → Int32) (G1 : Nat → Int32) (hh0 : N1 4 = nI fr) (hh1 : fr < 100000) (hh2 : bk < fr) (hh3 : pt < 17) : Met l yX3_logged wsX3_logged ({ frames := 2, cells := 0, slots := 0, locals := 43 } : Room) (x_PR D cI cC cS tt [(u0, .inr (3, [.ref u1, .ref u3, .ref u5, .ref u7, .ref u8])), (u7, .inl (cI, 9, .inl (N1))), (u8, .inl (cI, 136, .inl (G1)))] [.ref u0, .int (nI bk), .int (nI pt)]) (QcRead (G1 ((fr - 1 - bk) % 8 * 17 + pt))) 0 0 (fun _ => False) := by
  refine Met.ofW (cc := cX3_logged) (maxL := 4) (ret := (some .int)) (by decide) rfl ?_
  intro p e s m args below meth c s₁ hBd hml hv
  obtain ⟨rfl, hP, hK, hE⟩ := hv
  have hx := hBd.exec
  have hb := hBd.bytes
  have hr := hBd.returns
  have hts := atoms_spec (ws := wsX3_logged) hBd.pre
  have hown : s.vm.findClass RX3 = some m.cls := findClass_of_methodNamed hBd.named
  have hlocks := hBd.notSynchronized
  have hS : va_S (fun _ => False) s.heap s.heap [] := va_S.rf
  have hl := lv_entry ([.ref u0, .int (nI bk), .int (nI pt)]) (n := 4) (Nat.le_of_ble_eq_true rfl)
  rw [lg_entry_eq]
  generalize (lg_sl ([.ref u0, .int (nI bk), .int (nI pt)]) ++ List.replicate (4 - (lg_sl ([.ref u0, .int (nI bk), .int (nI pt)])).length) Slot.unset).toArray = ls at hl ⊢
  have hl : lv_has ls 4 [(0, .ref u0), (1, .int (nI bk)), (2, .int (nI pt))] := hl
  refine x_genQ (fun Q hQ => ?_)
  refine lv_aload_n hx hb dX3_logged_0 rfl (lv_at hl 0 rfl) ?_
  refine va_get (v := .ref u7) (D := D) (ci := 3) (C := RX3) (T := TX3) (N := 5) hx hb hts (by decide +kernel) hown hK hP 0 rfl rfl 3 (by decide) (hts (.fieldLink RX3 24 "SpiralFrames$State" "numbers" "[I") (by decide +kernel)) (fun _ h9 => h9) rfl dX3_logged_1 ?_
  refine lv_iconst (v := 4) hx hb dX3_logged_4 (by decide) ?_
  refine x_eqi (show (4 : Int32) = nI 4 from by decide) ?_
  refine x_iald hx hb hK hP 1 0 rfl rfl (k := 4) (by omega) (by decide) dX3_logged_5 ?_
  refine x_eqi (show N1 4 = nI fr from hh0) ?_
  refine lv_iconst (v := 1) hx hb dX3_logged_6 (by decide) ?_
  refine lv_isub hx hb dX3_logged_7 ?_
  refine x_eqi (show (nI fr) - 1 = nI (fr - 1) from x_eqN (x_subI (nI_toI (by omega)) (show (1 : Int32).toInt = 1 from by decide) (by omega) (by omega)) (by omega)) ?_
  refine lv_iload_n hx hb dX3_logged_8 rfl (lv_at hl 1 rfl) ?_
  refine lv_isub hx hb dX3_logged_9 ?_
  refine x_eqi (show (nI (fr - 1)) - (nI bk) = nI (fr - 1 - bk) from x_eqN (x_subI (nI_toI (by omega)) (nI_toI (by omega)) (by omega) (by omega)) (by omega)) ?_
  refine lv_iload_n hx hb dX3_logged_10 rfl (lv_at hl 2 rfl) ?_
  refine x_callR (va_runS (As := [.int (nI (fr - 1 - bk)), .int (nI pt)]) (rest := []) ⟨hx, hb, hml, hown, hts⟩ (c_X3_logIndex l D cI cC cS tt (fr - 1 - bk) pt (by first | assumption | omega | decide) (by first | assumption | omega | decide)) (va_cwS 2 hts gX3_logged_X3_logIndex rfl rfl rfl (by decide +kernel) ⟨Nat.le_of_ble_eq_true rfl, Nat.le_of_ble_eq_true rfl⟩) ⟨x_blindR, x_preR (hP.sub (ws' := []) [] rfl) hK hE hS⟩ rfl rfl hl.1 rfl (lv_room (Nat.le_of_ble_eq_true rfl)) dX3_logged_11 ⟨(Nat.le_of_ble_eq_true rfl), (Nat.le_of_ble_eq_true rfl)⟩) ?_
  refine lv_istore_n (lv' := [(3, .int (nI ((fr - 1 - bk) % 8 * 17 + pt))), (0, .ref u0), (1, .int (nI bk)), (2, .int (nI pt))]) hx hb dX3_logged_14 rfl hl (by decide) rfl (fun ls hl => ?_)
  refine lv_iload_n hx hb dX3_logged_15 rfl (lv_at hl 0 rfl) ?_
  refine lv_iconst (v := 0) hx hb dX3_logged_16 (by decide) ?_
  refine lv_aload_n hx hb dX3_logged_17 rfl (lv_at hl 1 rfl) ?_
  refine va_get (v := .ref u8) (D := D) (ci := 3) (C := RX3) (T := TX3) (N := 5) hx hb hts (by decide +kernel) hown hK hP 0 rfl rfl 4 (by decide) (hts (.fieldLink RX3 28 "SpiralFrames$State" "log" "[I") (by decide +kernel)) (fun _ h9 => h9) rfl dX3_logged_18 ?_
  refine va_alen (v := 136) hx hb hK hP 2 0 rfl rfl rfl dX3_logged_21 ?_
  refine lv_iconst (v := 1) hx hb dX3_logged_22 (by decide) ?_
  refine lv_isub hx hb dX3_logged_23 ?_
  refine x_eqi (show (136 : Int32) - 1 = 135 from by decide) ?_
  refine x_callR (va_runSN (As := [.int (nI ((fr - 1 - bk) % 8 * 17 + pt)), .int 0, .int 135]) (rest := []) ⟨hx, hb, hml, hown, hts⟩ (c_X4_isBetween l D cI cC cS tt (nI ((fr - 1 - bk) % 8 * 17 + pt)) (((fr - 1 - bk) % 8 * 17 + pt : Nat) : Int) (nI_toI (by omega)) 0 0 (show (0 : Int32).toInt = 0 from by decide) 135 135 (show (135 : Int32).toInt = 135 from by decide)) ⟨(va_cnB 3 hts gX3_logged_X4_isBetween_n54 rfl rfl rfl (x_nestk hE.1 (w := .methodLinkNest RX3 54 yX4_isBetween RX4) 39 rfl) (hts (.initialized RX4) (by decide +kernel)) (by decide +kernel) ⟨Nat.le_of_ble_eq_true rfl, Nat.le_of_ble_eq_true rfl⟩), hts (.static yX4_isBetween) (by decide +kernel), trivial⟩ ⟨x_blindR, x_preR (hP.sub (ws' := []) [] rfl) hK hE hS⟩ rfl rfl hl.1 rfl (lv_room (Nat.le_of_ble_eq_true rfl)) dX3_logged_24 ⟨(Nat.le_of_ble_eq_true rfl), (Nat.le_of_ble_eq_true rfl)⟩) ?_
  refine x_ifB_eq (tgt := 39) hx hb dX3_logged_27 (by decide) (fun c_27 => ?_) (fun c_27 => ?_)
  · exfalso; omega
  refine lv_aload_n hx hb dX3_logged_30 rfl (lv_at hl 1 rfl) ?_
  refine va_get (v := .ref u8) (D := D) (ci := 3) (C := RX3) (T := TX3) (N := 5) hx hb hts (by decide +kernel) hown hK hP 0 rfl rfl 4 (by decide) (hts (.fieldLink RX3 28 "SpiralFrames$State" "log" "[I") (by decide +kernel)) (fun _ h9 => h9) rfl dX3_logged_31 ?_
  refine lv_iload_n hx hb dX3_logged_34 rfl (lv_at hl 0 rfl) ?_
  refine x_iald hx hb hK hP 2 0 rfl rfl (k := (fr - 1 - bk) % 8 * 17 + pt) (by omega) (by decide) dX3_logged_35 ?_
  refine lv_goto (tgt := 41) hx hb dX3_logged_36 (by decide) ?_
  exact x_iretR hQ hx hb hr hlocks rfl dX3_logged_41
set_option maxHeartbeats 4000000 in
set_option maxRecDepth 100000 in
theorem c_X3_putInLog (l : Launch) (D : va_G) (cI cC cS : ClassId) (tt : Nat → Nat) (sz : Nat) (u0 : Nat) (u1 : Nat) (u3 : Nat) (u5 : Nat) (u7 : Nat) (u8 : Nat) (fr : Nat) (pt : Nat) (N1 : Nat → Int32) (G1 : Nat → Int32) (v : Int32) (hh0 : N1 4 = nI fr) (hh1 : fr < 100000) (hh2 : pt < 17) : Met l yX3_putInLog wsX3_putInLog ({ frames := 2, cells := 0, slots := 0, locals := 43 } : Room) (x_PW D cI cC cS tt [(u0, .inr (3, [.ref u1, .ref u3, .ref u5, .ref u7, .ref u8])), (u7, .inl (cI, 9, .inl (N1))), (u8, .inl (cI, 136, .inl (G1)))] sz [.ref u0, .int (nI pt), .int v]) (x_QWv D [(u0, .inr (3, [.ref u1, .ref u3, .ref u5, .ref u7, .ref u8])), (u7, .inl (cI, 9, .inl (N1))), (u8, .inl (cI, 136, .inl (G1)))] sz (fun (w : va_W) => w = [(u0, .inr (3, [.ref u1, .ref u3, .ref u5, .ref u7, .ref u8])), (u7, .inl (cI, 9, .inl (N1))), (u8, .inl (cI, 136, .inl (upd G1 (fr % 8 * 17 + pt) v)))])) 0 0 (va_A [(u0, .inr (3, [.ref u1, .ref u3, .ref u5, .ref u7, .ref u8])), (u7, .inl (cI, 9, .inl (N1))), (u8, .inl (cI, 136, .inl (G1)))] sz) := by
  refine Met.ofW (cc := cX3_putInLog) (maxL := 4) (ret := none) (by decide) rfl ?_
  intro p e s m args below meth c s₁ hBd hml hv
  obtain ⟨rfl, hsz, hP, hK, hD0, hE⟩ := hv
  have hx := hBd.exec
  have hb := hBd.bytes
  have hr := hBd.returns
  have hts := atoms_spec (ws := wsX3_putInLog) hBd.pre
  have hown : s.vm.findClass RX3 = some m.cls := findClass_of_methodNamed hBd.named
  have hlocks := hBd.notSynchronized
  subst hsz
  obtain ⟨Ar, hAe⟩ : ∃ Ar : Nat → Prop, Ar = va_A [(u0, .inr (3, [.ref u1, .ref u3, .ref u5, .ref u7, .ref u8])), (u7, .inl (cI, 9, .inl (N1))), (u8, .inl (cI, 136, .inl (G1)))] s.heap.size := ⟨_, rfl⟩
  have hD : va_D Ar [(u0, .inr (3, [.ref u1, .ref u3, .ref u5, .ref u7, .ref u8])), (u7, .inl (cI, 9, .inl (N1))), (u8, .inl (cI, 136, .inl (G1)))] := by rw [hAe]; exact hD0.self
  have hA : ∀ q : Nat, s.heap.size ≤ q → Ar q := fun q h => by rw [hAe]; exact Or.inr h
  have hE : x_E tt Ar s := by rw [hAe]; exact hE
  have hS : va_S Ar s.heap s.heap [] := va_S.rf
  have hl := lv_entry ([.ref u0, .int (nI pt), .int v]) (n := 4) (Nat.le_of_ble_eq_true rfl)
  rw [lg_entry_eq]
  generalize (lg_sl ([.ref u0, .int (nI pt), .int v]) ++ List.replicate (4 - (lg_sl ([.ref u0, .int (nI pt), .int v])).length) Slot.unset).toArray = ls at hl ⊢
  have hl : lv_has ls 4 [(0, .ref u0), (1, .int (nI pt)), (2, .int v)] := hl
  refine x_genQ (fun Q hQ => ?_)
  refine lv_aload_n hx hb dX3_putInLog_0 rfl (lv_at hl 0 rfl) ?_
  refine va_get (v := .ref u7) (D := D) (ci := 3) (C := RX3) (T := TX3) (N := 5) hx hb hts (by decide +kernel) hown hK hP 0 rfl rfl 3 (by decide) (hts (.fieldLink RX3 24 "SpiralFrames$State" "numbers" "[I") (by decide +kernel)) (fun _ h9 => h9) rfl dX3_putInLog_1 ?_
  refine lv_iconst (v := 4) hx hb dX3_putInLog_4 (by decide) ?_
  refine x_eqi (show (4 : Int32) = nI 4 from by decide) ?_
  refine x_iald hx hb hK hP 1 0 rfl rfl (k := 4) (by omega) (by decide) dX3_putInLog_5 ?_
  refine x_eqi (show N1 4 = nI fr from hh0) ?_
  refine lv_iload_n hx hb dX3_putInLog_6 rfl (lv_at hl 1 rfl) ?_
  refine x_callR (va_runS (As := [.int (nI fr), .int (nI pt)]) (rest := []) ⟨hx, hb, hml, hown, hts⟩ (c_X3_logIndex l D cI cC cS tt fr pt (by first | assumption | omega | decide) (by first | assumption | omega | decide)) (va_cwS 2 hts gX3_putInLog_X3_logIndex rfl rfl rfl (by decide +kernel) ⟨Nat.le_of_ble_eq_true rfl, Nat.le_of_ble_eq_true rfl⟩) ⟨x_blindR, x_preR (hP.sub (ws' := []) [] rfl) hK hE hS⟩ rfl rfl hl.1 rfl (lv_room (Nat.le_of_ble_eq_true rfl)) dX3_putInLog_7 ⟨(Nat.le_of_ble_eq_true rfl), (Nat.le_of_ble_eq_true rfl)⟩) ?_
  refine lv_istore_n (lv' := [(3, .int (nI (fr % 8 * 17 + pt))), (0, .ref u0), (1, .int (nI pt)), (2, .int v)]) hx hb dX3_putInLog_10 rfl hl (by decide) rfl (fun ls hl => ?_)
  refine lv_iload_n hx hb dX3_putInLog_11 rfl (lv_at hl 0 rfl) ?_
  refine lv_iconst (v := 0) hx hb dX3_putInLog_12 (by decide) ?_
  refine lv_aload_n hx hb dX3_putInLog_13 rfl (lv_at hl 1 rfl) ?_
  refine va_get (v := .ref u8) (D := D) (ci := 3) (C := RX3) (T := TX3) (N := 5) hx hb hts (by decide +kernel) hown hK hP 0 rfl rfl 4 (by decide) (hts (.fieldLink RX3 28 "SpiralFrames$State" "log" "[I") (by decide +kernel)) (fun _ h9 => h9) rfl dX3_putInLog_14 ?_
  refine va_alen (v := 136) hx hb hK hP 2 0 rfl rfl rfl dX3_putInLog_17 ?_
  refine lv_iconst (v := 1) hx hb dX3_putInLog_18 (by decide) ?_
  refine lv_isub hx hb dX3_putInLog_19 ?_
  refine x_eqi (show (136 : Int32) - 1 = 135 from by decide) ?_
  refine x_callR (va_runSN (As := [.int (nI (fr % 8 * 17 + pt)), .int 0, .int 135]) (rest := []) ⟨hx, hb, hml, hown, hts⟩ (c_X4_isBetween l D cI cC cS tt (nI (fr % 8 * 17 + pt)) ((fr % 8 * 17 + pt : Nat) : Int) (nI_toI (by omega)) 0 0 (show (0 : Int32).toInt = 0 from by decide) 135 135 (show (135 : Int32).toInt = 135 from by decide)) ⟨(va_cnB 3 hts gX3_putInLog_X4_isBetween_n54 rfl rfl rfl (x_nestk hE.1 (w := .methodLinkNest RX3 54 yX4_isBetween RX4) 39 rfl) (hts (.initialized RX4) (by decide +kernel)) (by decide +kernel) ⟨Nat.le_of_ble_eq_true rfl, Nat.le_of_ble_eq_true rfl⟩), hts (.static yX4_isBetween) (by decide +kernel), trivial⟩ ⟨x_blindR, x_preR (hP.sub (ws' := []) [] rfl) hK hE hS⟩ rfl rfl hl.1 rfl (lv_room (Nat.le_of_ble_eq_true rfl)) dX3_putInLog_20 ⟨(Nat.le_of_ble_eq_true rfl), (Nat.le_of_ble_eq_true rfl)⟩) ?_
  refine x_ifB_eq (tgt := 33) hx hb dX3_putInLog_23 (by decide) (fun c_23 => ?_) (fun c_23 => ?_)
  · exfalso; omega
  refine lv_aload_n hx hb dX3_putInLog_26 rfl (lv_at hl 1 rfl) ?_
  refine va_get (v := .ref u8) (D := D) (ci := 3) (C := RX3) (T := TX3) (N := 5) hx hb hts (by decide +kernel) hown hK hP 0 rfl rfl 4 (by decide) (hts (.fieldLink RX3 28 "SpiralFrames$State" "log" "[I") (by decide +kernel)) (fun _ h9 => h9) rfl dX3_putInLog_27 ?_
  refine lv_iload_n hx hb dX3_putInLog_30 rfl (lv_at hl 0 rfl) ?_
  refine lv_iload_n hx hb dX3_putInLog_31 rfl (lv_at hl 3 rfl) ?_
  refine x_iast hx hb hK hP hD hS 2 0 rfl rfl (k := fr % 8 * 17 + pt) (by omega) (by decide) dX3_putInLog_32 (fun H locs hP hD hS => ?_)
  have hP : va_P D vwCl [(u0, .inr (3, [.ref u1, .ref u3, .ref u5, .ref u7, .ref u8])), (u7, .inl (cI, 9, .inl (N1))), (u8, .inl (cI, 136, .inl (upd G1 (fr % 8 * 17 + pt) v)))] H := hP
  have hD : va_D (Ar) [(u0, .inr (3, [.ref u1, .ref u3, .ref u5, .ref u7, .ref u8])), (u7, .inl (cI, 9, .inl (N1))), (u8, .inl (cI, 136, .inl (upd G1 (fr % 8 * 17 + pt) v)))] := hD
  refine x_vretW (w := [(u0, .inr (3, [.ref u1, .ref u3, .ref u5, .ref u7, .ref u8])), (u7, .inl (cI, 9, .inl (N1))), (u8, .inl (cI, 136, .inl (upd G1 (fr % 8 * 17 + pt) v)))]) hQ hAe hx hb hr hlocks (hP.sub [0, 1, 2] rfl) (hD.sub [0, 1, 2] (by decide) rfl) hS ?_ dX3_putInLog_33
  exact rfl
