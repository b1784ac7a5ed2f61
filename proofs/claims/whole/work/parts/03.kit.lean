/-! ===== our own rows over the kit: contracts that only read, contracts that write, comparisons over Int ===== -/
def x_nest : List Cond := [.methodLinkNest RX4 9 yX3_init RX4, .methodLinkNest RX3 11 yX2_init RX4, .fieldLinkNest RX4 63 "SpiralFrames$State" "drawing" "LSpiralFrames$Picture;" RX4, .fieldLinkNest RX4 170 "SpiralFrames$State" "sender" "LSpiralFrames$Picture;" RX4, .fieldLinkNest RX4 208 "SpiralFrames$State" "receiver" "LSpiralFrames$Picture;" RX4, .fieldLinkNest RX4 111 "SpiralFrames$State" "numbers" "[I" RX4, .methodLinkNest RX4 32 yX1_init RX4, .fieldLinkNest RX4 129 "SpiralFrames$Orders" "length" "I" RX4, .fieldLinkNest RX4 98 "SpiralFrames$Orders" "total" "I" RX4, .methodLinkNest RX4 39 yX0_init RX4, .methodLinkNest RX4 46 yX2_init RX4, .methodLinkNest RX4 66 yX2_levelAt RX4, .methodLinkNest RX2 15 yX4_isPoint RX4, .methodLinkNest RX4 137 yX3_copyFrom RX4, .methodLinkNest RX3 31 yX2_copyFrom RX4, .methodLinkNest RX4 73 yX2_putLevel RX4, .methodLinkNest RX4 81 yX2_putBox RX4, .methodLinkNest RX4 87 yX2_moveBy RX4, .methodLinkNest RX4 91 yX1_read RX4, .methodLinkNest RX1 29 yX4_isBetween RX4, .methodLinkNest RX4 232 yX1_part RX4, .methodLinkNest RX4 114 yX3_isToBeKeyed RX4, .methodLinkNest RX4 118 yX3_canBeKeyed RX4, .methodLinkNest RX4 186 yX0_compareAll RX4, .methodLinkNest RX0 19 yX4_isTile RX4, .methodLinkNest RX0 23 yX4_isWithin RX4, .methodLinkNest RX0 27 yX2_tileDifference RX4, .methodLinkNest RX2 46 yX4_tileColumn RX4, .methodLinkNest RX2 50 yX4_tileRow RX4, .methodLinkNest RX2 53 yX4_stepRight RX4, .methodLinkNest RX2 56 yX4_stepDown RX4, .methodLinkNest RX4 193 yX3_spendable RX4, .methodLinkNest RX4 196 yX0_neededTolerance RX4, .methodLinkNest RX0 33 yX4_isBetween RX4, .methodLinkNest RX0 44 yX4_bitsOf RX4, .methodLinkNest RX4 177 yX0_codeOf RX4, .methodLinkNest RX4 250 yX2_copyFrom RX4, .methodLinkNest RX4 252 yX2_takeTile RX4, .methodLinkNest RX4 256 yX3_putInLog RX4, .methodLinkNest RX3 54 yX4_isBetween RX4, .methodLinkNest RX4 149 yX2_wholeDifference RX4, .methodLinkNest RX4 125 yX1_add RX4, .methodLinkNest RX4 145 yX3_picture RX4, .methodLinkNest RX4 156 yX2_tileDifference RX4, .methodLinkNest RX4 173 yX0_compareTile RX4, .methodLinkNest RX4 183 yX0_differenceAt RX4, .methodLinkNest RX4 190 yX0_bitsWith RX4, .methodLinkNest RX4 199 yX0_bestPlace RX4, .methodLinkNest RX4 202 yX3_knowsFrame RX4, .methodLinkNest RX4 205 yX3_logged RX4, .methodLinkNest RX4 211 yX2_unlikePoints RX4, .methodLinkNest RX4 214 yX2_unlikeTiles RX4]
def x_srL : List Int := [0, 1, 1, 0, -1, -1, -1, 0, 1, 2, 2, 2, 2, 1, 0, -1, -2, -2, -2, -2, -2, -1, 0, 1, 2]
def x_sdL : List Int := [0, 0, 1, 1, 1, 0, -1, -1, -1, -1, 0, 1, 2, 2, 2, 2, 2, 1, 0, -1, -2, -2, -2, -2, -2]
/-- the steps of the spiral: to the right, down -/
def x_sr (j : Nat) : Int := x_srL.getD j 0
def x_sd (j : Nat) : Int := x_sdL.getD j 0
def x_loL : List Int := [9, 0, 0]
def x_hiL : List Int := [600, 240, 50]
def x_lo (j : Nat) : Int := x_loL.getD j 0
def x_hi (j : Nat) : Int := x_hiL.getD j 0
/-- an int by its number -/
def zI (z : Int) : Int32 := Int32.ofInt z
/-- a boolean as an int -/
def bI (b : Bool) : Int32 := if b = true then 1 else 0
abbrev x_ty (cI cC cS : ClassId) : List (ClassId × FieldType) := [(cI, .int), (cC, .char), (cS, .object "SpiralFrames$State")]
/-- what the methods need of the tables beside their words, and the four static rows -/
def x_E (tt : Nat → Nat) (A : Nat → Prop) (U : State) : Prop := (∀ w ∈ x_nest, va_Nw w U) ∧ va_AO "SpiralFrames$State" U ∧
  (va_Z "SpiralFrames" "STEPS_RIGHT" "[I" (.ref (tt 0)) A U U.heap ∧ va_T .int (tt 0) 25 (fun j => .int (zI (x_sr j))) A U U.heap) ∧
  (va_Z "SpiralFrames" "STEPS_DOWN" "[I" (.ref (tt 1)) A U U.heap ∧ va_T .int (tt 1) 25 (fun j => .int (zI (x_sd j))) A U U.heap) ∧
  (va_Z "SpiralFrames" "LOWEST_SETTINGS" "[I" (.ref (tt 2)) A U U.heap ∧ va_T .int (tt 2) 3 (fun j => .int (zI (x_lo j))) A U U.heap) ∧
  (va_Z "SpiralFrames" "HIGHEST_SETTINGS" "[I" (.ref (tt 3)) A U U.heap ∧ va_T .int (tt 3) 3 (fun j => .int (zI (x_hi j))) A U U.heap)
theorem x_nestk {P : Cond → Prop} (h : ∀ w ∈ x_nest, P w) {w : Cond} (k : Nat) (hk : x_nest[k]? = some w) : P w := h w (List.mem_of_getElem? hk)
theorem x_nest_kind : ∀ w ∈ x_nest, (∃ a i b n d h, w = Cond.fieldLinkNest a i b n d h) ∨ (∃ a i x h, w = Cond.methodLinkNest a i x h) := by
  intro w hw
  simp only [x_nest, List.mem_cons, List.not_mem_nil, or_false] at hw
  rcases hw with rfl | rfl | rfl | rfl | rfl | rfl | rfl | rfl | rfl | rfl | rfl | rfl | rfl | rfl | rfl | rfl | rfl | rfl | rfl | rfl | rfl | rfl | rfl | rfl | rfl | rfl | rfl | rfl | rfl | rfl | rfl | rfl | rfl | rfl | rfl | rfl | rfl | rfl | rfl | rfl | rfl | rfl | rfl | rfl | rfl | rfl | rfl | rfl | rfl | rfl | rfl | rfl <;> first | exact Or.inl ⟨_, _, _, _, _, _, rfl⟩ | exact Or.inr ⟨_, _, _, _, rfl⟩
theorem x_E.same {tt : Nat → Nat} {A : Nat → Prop} {U V : State} (h : x_E tt A U) (hv : U.vm = V.vm) (hh : U.heap = V.heap) : x_E tt A V := by
  have hal : U.vm.Alike V.vm := by rw [hv]; exact Vm.Alike.refl _
  obtain ⟨h1, h2, h3, h4, h5, h6⟩ := h
  refine ⟨fun w hw => ?_, h2.moved hal, ?_, ?_, ?_, ?_⟩
  · rcases x_nest_kind w hw with ⟨_, _, _, _, _, _, rfl⟩ | ⟨_, _, _, _, rfl⟩ <;> exact (h1 _ hw).same rfl hv
  all_goals (rw [← hh]; first | exact ⟨h3.1.moved hal, h3.2.moved hal⟩ | exact ⟨h4.1.moved hal, h4.2.moved hal⟩ | exact ⟨h5.1.moved hal, h5.2.moved hal⟩ | exact ⟨h6.1.moved hal, h6.2.moved hal⟩)
/-- the same behind some steps of the caller, for a callee's own part -/
theorem x_E.pass {tt : Nat → Nat} {A A' : Nat → Prop} {s U : State} {H : Heap} {locs : List Loc} (h : x_E tt A s) (hS : va_S A s.heap H locs) (hAA : ∀ q, A' q → A q) (hU : U.heap = H) (hW : s.WarmedH U.vm) : x_E tt A' U := by
  obtain ⟨h1, h2, h3, h4, h5, h6⟩ := h
  refine ⟨fun w hw => ?_, h2.moved hW.alike, ?_, ?_, ?_, ?_⟩
  · rcases x_nest_kind w hw with ⟨_, _, _, _, _, _, rfl⟩ | ⟨_, _, _, _, rfl⟩
    · exact va_Nw.warmF hW (h1 _ hw)
    · exact va_Nw.warmM hW (h1 _ hw)
  all_goals (rw [hU])
  · exact ⟨((h3.1.kept hS.2.1).narrow hAA).moved hW.alike, ((h3.2.kept hS.2.1).narrow hAA).moved hW.alike⟩
  · exact ⟨((h4.1.kept hS.2.1).narrow hAA).moved hW.alike, ((h4.2.kept hS.2.1).narrow hAA).moved hW.alike⟩
  · exact ⟨((h5.1.kept hS.2.1).narrow hAA).moved hW.alike, ((h5.2.kept hS.2.1).narrow hAA).moved hW.alike⟩
  · exact ⟨((h6.1.kept hS.2.1).narrow hAA).moved hW.alike, ((h6.2.kept hS.2.1).narrow hAA).moved hW.alike⟩
/-- start of a contract that only reads -/
def x_PR (D : va_G) (cI cC cS : ClassId) (tt : Nat → Nat) (ws : va_W) (av : List Value) : Array Value → State → Prop := va_Pc av (fun U => va_P D vwCl ws U.heap ∧ va_K D vwCl (x_ty cI cC cS) U ∧ x_E tt (fun _ => False) U)
/-- start and end of a contract that writes: the end tells the whole world of the method by a list -/
def x_PW (D : va_G) (cI cC cS : ClassId) (tt : Nat → Nat) (ws : va_W) (sz : Nat) (av : List Value) : Array Value → State → Prop := va_Pc av (fun U => U.heap.size = sz ∧ va_P D vwCl ws U.heap ∧ va_K D vwCl (x_ty cI cC cS) U ∧ va_D (fun _ => True) ws ∧ x_E tt (va_A ws sz) U)
def x_B (D : va_G) (A : Nat → Prop) (w : va_W) (t : State) : Prop := va_P D vwCl w t.heap ∧ va_D A w
abbrev x_QWi (D : va_G) (ws : va_W) (sz : Nat) (post : Int32 → va_W → Prop) : Array Value → State → Outcome → State → Prop := va_Qi post (x_B D (va_A ws sz)) (va_A ws sz)
abbrev x_QWv (D : va_G) (ws : va_W) (sz : Nat) (post : va_W → Prop) : Array Value → State → Outcome → State → Prop := va_Qv post (x_B D (va_A ws sz)) (va_A ws sz)
theorem x_blindR {D : va_G} {cI cC cS : ClassId} {tt : Nat → Nat} {ws : va_W} {av : List Value} : FrameBlind (x_PR D cI cC cS tt ws av) := by
  intro a U g mk q
  obtain ⟨q0, qP, qK, qE⟩ := q
  exact ⟨q0, qP, va_K.moved (u := U) (U := U.calling g mk a) (Vm.Alike.refl U.vm) qK, qE.same rfl rfl⟩
theorem x_blindW {D : va_G} {cI cC cS : ClassId} {tt : Nat → Nat} {ws : va_W} {sz : Nat} {av : List Value} : FrameBlind (x_PW D cI cC cS tt ws sz av) := by
  intro a U g mk q
  obtain ⟨q0, q1, qP, qK, qD, qE⟩ := q
  exact ⟨q0, q1, qP, va_K.moved (u := U) (U := U.calling g mk a) (Vm.Alike.refl U.vm) qK, qD, qE.same rfl rfl⟩
theorem x_P_iff {D : va_G} {ws : va_W} {H : Heap} : va_P D vwCl ws H ↔ ∀ q ∈ ws, va_at D vwCl q H := by
  constructor
  · intro h q hq
    obtain ⟨i, hi⟩ := List.getElem?_of_mem hq
    exact h i q hi
  · intro h k q hk
    exact h q (List.mem_of_getElem? hk)
theorem x_D_iff {A : Nat → Prop} {ws : va_W} : va_D A ws ↔ (ws.map (fun q => q.1)).Nodup ∧ ∀ q ∈ ws, A q.1 := by
  constructor
  · intro h
    refine ⟨?_, fun q hq => ?_⟩
    · refine List.pairwise_iff_getElem.mpr fun i j hi hj hij => ?_
      rw [List.length_map] at hi hj
      rw [List.getElem_map, List.getElem_map]
      intro e
      have := h.1 i j _ _ (List.getElem?_eq_getElem hi) (List.getElem?_eq_getElem hj) e
      omega
    · obtain ⟨i, hi⟩ := List.getElem?_of_mem hq
      exact h.2 i q hi
  · intro h
    refine ⟨fun i j x y hi hj hxy => ?_, fun k q hk => h.2 q (List.mem_of_getElem? hk)⟩
    have h1 := List.pairwise_iff_getElem.mp h.1
    have key : ∀ (i j : Nat) (x y : Nat × va_E), ws[i]? = some x → ws[j]? = some y → x.1 = y.1 → ¬ i < j := by
      intro i j x y hi hj hxy hlt
      obtain ⟨li, ei⟩ := List.getElem?_eq_some_iff.mp hi
      obtain ⟨lj, ej⟩ := List.getElem?_eq_some_iff.mp hj
      refine h1 i j (by rw [List.length_map]; exact li) (by rw [List.length_map]; exact lj) hlt ?_
      rw [List.getElem_map, List.getElem_map, ei, ej, hxy]
    have a := key i j x y hi hj hxy
    have b := key j i y x hj hi hxy.symm
    omega
theorem x_P_perm {D : va_G} {w1 w2 : va_W} {H : Heap} (hp : w1.Perm w2) (h : va_P D vwCl w1 H) : va_P D vwCl w2 H := x_P_iff.mpr fun q hq => x_P_iff.mp h q (hp.mem_iff.mpr hq)
theorem x_D_perm {A : Nat → Prop} {w1 w2 : va_W} (hp : w1.Perm w2) (h : va_D A w1) : va_D A w2 := by
  have h2 := x_D_iff.mp h
  exact x_D_iff.mpr ⟨(hp.map _).nodup_iff.mp h2.1, fun q hq => h2.2 q (hp.mem_iff.mpr hq)⟩
theorem x_comm {D : va_G} {w1 w2 : va_W} {H : Heap} : va_P D vwCl (w1 ++ w2) H ↔ va_P D vwCl (w2 ++ w1) H := ⟨x_P_perm List.perm_append_comm, x_P_perm List.perm_append_comm⟩
theorem x_commD {A : Nat → Prop} {w1 w2 : va_W} : va_D A (w1 ++ w2) ↔ va_D A (w2 ++ w1) := ⟨x_D_perm List.perm_append_comm, x_D_perm List.perm_append_comm⟩
theorem zI_add (a b : Int) : zI a + zI b = zI (a + b) := (Int32.ofInt_add a b).symm
theorem zI_sub (a b : Int) : zI a - zI b = zI (a - b) := (Int32.ofInt_sub a b).symm
theorem zI_mul (a b : Int) : zI a * zI b = zI (a * b) := (Int32.ofInt_mul a b).symm
theorem zI_neg (a : Int) : -zI a = zI (-a) := (Int32.ofInt_neg a).symm
theorem zI_nI (n : Nat) : nI n = zI (n : Int) := rfl
theorem zI_of (x : Int32) : x = zI x.toInt := (Int32.ofInt_toInt x).symm
theorem zI_toInt {z : Int} (h1 : -2147483648 ≤ z) (h2 : z < 2147483648) : (zI z).toInt = z := by
  show (Int32.ofInt z).toInt = z
  rw [Int32.toInt_ofInt]
  have hs : (Int32.size : Int) = 4294967296 := rfl
  exact Int.bmod_eq_of_le (by omega) (by omega)
theorem zI_nat {z : Int} {n : Nat} (h : z = (n : Int)) : zI z = nI n := by rw [h]; rfl
theorem nI_toI {n : Nat} (h : n < 2147483648) : (nI n).toInt = (n : Int) := nI_toInt (by omega)
theorem bI_t {P : Prop} [Decidable P] (h : P) : (1 : Int32) = bI (decide P) := by rw [decide_eq_true h]; rfl
theorem bI_f {P : Prop} [Decidable P] (h : ¬ P) : (0 : Int32) = bI (decide P) := by rw [decide_eq_false h]; rfl
theorem bI_nar (b : Bool) : narrow .boolean (.int (bI b)) = .int (bI b) := by cases b <;> rfl
theorem bI_ne0 {b : Bool} (h : ¬ bI b = 0) : b = true := by cases b; exact absurd rfl h; rfl
theorem bI_eq0 {b : Bool} (h : bI b = 0) : b = false := by cases b; rfl; exact absurd h (by decide)
theorem x_rem {a d : Nat} (ha : a < 2147483648) (h0 : 0 < d) (hd : d < 2147483648) : nI a - nI a / nI d * nI d = nI (a % d) := pk_rem (by omega) h0 (by omega)
theorem x_div {a d : Nat} (ha : a < 2147483648) (h0 : 0 < d) (hd : d < 2147483648) : nI a / nI d = nI (a / d) := pk_div (by omega) h0 (by omega)
theorem x_ne0 {d : Nat} (h0 : 0 < d) (hd : d < 2147483648) : ¬ nI d = 0 := nI_ne0 h0 (by omega)
theorem x_addI {x y : Int32} {X Y : Int} (hX : x.toInt = X) (hY : y.toInt = Y) (h1 : -2147483648 ≤ X + Y) (h2 : X + Y < 2147483648) : (x + y).toInt = X + Y := by
  rw [zI_of x, zI_of y, hX, hY, zI_add, zI_toInt h1 h2]
theorem x_subI {x y : Int32} {X Y : Int} (hX : x.toInt = X) (hY : y.toInt = Y) (h1 : -2147483648 ≤ X - Y) (h2 : X - Y < 2147483648) : (x - y).toInt = X - Y := by
  rw [zI_of x, zI_of y, hX, hY, zI_sub, zI_toInt h1 h2]
theorem x_mulI {x y : Int32} {X Y : Int} (hX : x.toInt = X) (hY : y.toInt = Y) (h1 : -2147483648 ≤ X * Y) (h2 : X * Y < 2147483648) : (x * y).toInt = X * Y := by
  rw [zI_of x, zI_of y, hX, hY, zI_mul, zI_toInt h1 h2]
theorem x_negI {x : Int32} {X : Int} (hX : x.toInt = X) (h1 : -2147483648 < X) : (-x).toInt = -X := by
  have h2 : X < 2147483648 := by rw [← hX]; exact Int32.toInt_lt x
  rw [zI_of x, hX, zI_neg, zI_toInt (by omega) (by omega)]
theorem x_toNat {x : Int32} {X : Int} (hX : x.toInt = X) (h : 0 ≤ X) : x = nI X.toNat := by
  rw [zI_of x, hX]
  exact zI_nat (by omega)
theorem x_eqN {x : Int32} {X : Int} {n : Nat} (hX : x.toInt = X) (h : X = (n : Int)) : x = nI n := by
  rw [zI_of x, hX]
  exact zI_nat h
theorem x_sr_b : ∀ j, j < 25 → -2 ≤ x_sr j ∧ x_sr j ≤ 2 := by decide
theorem x_sd_b : ∀ j, j < 25 → -2 ≤ x_sd j ∧ x_sd j ≤ 2 := by decide
theorem x_arrV {cA : ClassId} {N : Nat} {f g : Nat → Value} (h : ∀ j, j < N → f j = g j) : arrV cA N f = arrV cA N g := by
  unfold arrV
  rw [show (fun j : Fin N => f j.val) = (fun j : Fin N => g j.val) from funext fun j => h j.val j.isLt]
theorem x_cell_ext {cA : ClassId} {N : Nat} {f g : Nat → Int32} (h : ∀ j, j < N → f j = g j) : vp_cell cA (N, .inl f) = vp_cell cA (N, .inl g) := by
  rw [vp_cell_i, vp_cell_i]
  exact x_arrV (fun j hj => by show Value.int (f j) = Value.int (g j); rw [h j hj])
section XRW
variable {p : Program} {l : Launch} {e : Env} {R : Room} {s : State} {m : MethodId} {args : Array Value} {below : List Frame} {meth : Method} {c : Code} {H : Heap} {locs : List Loc} {cells slots : Nat} {Q : State → Prop}
variable {cc : ByteArray} {pc : Nat} {ls : Array Slot} {rest : List Value} {D : va_G} {A : Nat → Prop} {a : Nat} {tys : List (ClassId × FieldType)} {ws : va_W} {H0 : Heap}
theorem x_eqi {x y : Int32} (h : x = y) (k : W p l e R s m args below meth c H locs cells slots Q (F0 m pc ls (.int y :: rest))) : W p l e R s m args below meth c H locs cells slots Q (F0 m pc ls (.int x :: rest)) := by
  subst h
  exact k
theorem x_eqi2 {x y : Int32} {v : Value} (h : x = y) (k : W p l e R s m args below meth c H locs cells slots Q (F0 m pc ls (v :: .int y :: rest))) : W p l e R s m args below meth c H locs cells slots Q (F0 m pc ls (v :: .int x :: rest)) := by
  subst h
  exact k
theorem x_icmp_eq (hexec : p.tables.exec = Jvm.exec) (hb : c.code = cc) {x y : Int32} {off : Int} {tgt : Nat} (hdg : decode cc pc = .ok (.if_icmp .eq off, 3)) (ht : (pc : Int) + off = (tgt : Int)) {X : Int} (hX : x.toInt = X) {Y : Int} (hY : y.toInt = Y)
    (kt : X = Y → W p l e R s m args below meth c H locs cells slots Q (F0 m tgt ls rest)) (kf : ¬ X = Y → W p l e R s m args below meth c H locs cells slots Q (F0 m (pc + 3) ls rest)) : W p l e R s m args below meth c H locs cells slots Q (F0 m pc ls (.int y :: .int x :: rest)) := by
  subst hX; subst hY
  have z0 : (0 : Int32).toInt = 0 := by decide
  refine lv_icmp_eq hexec hb hdg ht (fun h => kt ?_) (fun h => kf ?_)
  · first | (simp only [Int32.lt_iff_toInt_lt, Int32.le_iff_toInt_le, ← Int32.toInt_inj, z0] at h; omega) | (simp only [Int32.lt_iff_toInt_lt, Int32.le_iff_toInt_le, ← Int32.toInt_inj, z0] at h; exact h)
  · first | (simp only [Int32.lt_iff_toInt_lt, Int32.le_iff_toInt_le, ← Int32.toInt_inj, z0] at h; omega) | (simp only [Int32.lt_iff_toInt_lt, Int32.le_iff_toInt_le, ← Int32.toInt_inj, z0] at h; exact h)
theorem x_if_eq (hexec : p.tables.exec = Jvm.exec) (hb : c.code = cc) {x : Int32} {off : Int} {tgt : Nat} (hdg : decode cc pc = .ok (.ifCond .eq off, 3)) (ht : (pc : Int) + off = (tgt : Int)) {X : Int} (hX : x.toInt = X)
    (kt : X = 0 → W p l e R s m args below meth c H locs cells slots Q (F0 m tgt ls rest)) (kf : ¬ X = 0 → W p l e R s m args below meth c H locs cells slots Q (F0 m (pc + 3) ls rest)) : W p l e R s m args below meth c H locs cells slots Q (F0 m pc ls (.int x :: rest)) := by
  subst hX
  have z0 : (0 : Int32).toInt = 0 := by decide
  refine lv_if_eq hexec hb hdg ht (fun h => kt ?_) (fun h => kf ?_)
  · first | (simp only [Int32.lt_iff_toInt_lt, Int32.le_iff_toInt_le, ← Int32.toInt_inj, z0] at h; omega) | (simp only [Int32.lt_iff_toInt_lt, Int32.le_iff_toInt_le, ← Int32.toInt_inj, z0] at h; exact h)
  · first | (simp only [Int32.lt_iff_toInt_lt, Int32.le_iff_toInt_le, ← Int32.toInt_inj, z0] at h; omega) | (simp only [Int32.lt_iff_toInt_lt, Int32.le_iff_toInt_le, ← Int32.toInt_inj, z0] at h; exact h)
theorem x_icmp_ne (hexec : p.tables.exec = Jvm.exec) (hb : c.code = cc) {x y : Int32} {off : Int} {tgt : Nat} (hdg : decode cc pc = .ok (.if_icmp .ne off, 3)) (ht : (pc : Int) + off = (tgt : Int)) {X : Int} (hX : x.toInt = X) {Y : Int} (hY : y.toInt = Y)
    (kt : X ≠ Y → W p l e R s m args below meth c H locs cells slots Q (F0 m tgt ls rest)) (kf : X = Y → W p l e R s m args below meth c H locs cells slots Q (F0 m (pc + 3) ls rest)) : W p l e R s m args below meth c H locs cells slots Q (F0 m pc ls (.int y :: .int x :: rest)) := by
  subst hX; subst hY
  have z0 : (0 : Int32).toInt = 0 := by decide
  refine lv_icmp_ne hexec hb hdg ht (fun h => kt ?_) (fun h => kf ?_)
  · first | (simp only [Int32.lt_iff_toInt_lt, Int32.le_iff_toInt_le, ← Int32.toInt_inj, z0] at h; omega) | (simp only [Int32.lt_iff_toInt_lt, Int32.le_iff_toInt_le, ← Int32.toInt_inj, z0] at h; exact h)
  · first | (simp only [Int32.lt_iff_toInt_lt, Int32.le_iff_toInt_le, ← Int32.toInt_inj, z0] at h; omega) | (simp only [Int32.lt_iff_toInt_lt, Int32.le_iff_toInt_le, ← Int32.toInt_inj, z0] at h; exact h)
theorem x_if_ne (hexec : p.tables.exec = Jvm.exec) (hb : c.code = cc) {x : Int32} {off : Int} {tgt : Nat} (hdg : decode cc pc = .ok (.ifCond .ne off, 3)) (ht : (pc : Int) + off = (tgt : Int)) {X : Int} (hX : x.toInt = X)
    (kt : X ≠ 0 → W p l e R s m args below meth c H locs cells slots Q (F0 m tgt ls rest)) (kf : X = 0 → W p l e R s m args below meth c H locs cells slots Q (F0 m (pc + 3) ls rest)) : W p l e R s m args below meth c H locs cells slots Q (F0 m pc ls (.int x :: rest)) := by
  subst hX
  have z0 : (0 : Int32).toInt = 0 := by decide
  refine lv_if_ne hexec hb hdg ht (fun h => kt ?_) (fun h => kf ?_)
  · first | (simp only [Int32.lt_iff_toInt_lt, Int32.le_iff_toInt_le, ← Int32.toInt_inj, z0] at h; omega) | (simp only [Int32.lt_iff_toInt_lt, Int32.le_iff_toInt_le, ← Int32.toInt_inj, z0] at h; exact h)
  · first | (simp only [Int32.lt_iff_toInt_lt, Int32.le_iff_toInt_le, ← Int32.toInt_inj, z0] at h; omega) | (simp only [Int32.lt_iff_toInt_lt, Int32.le_iff_toInt_le, ← Int32.toInt_inj, z0] at h; exact h)
theorem x_icmp_lt (hexec : p.tables.exec = Jvm.exec) (hb : c.code = cc) {x y : Int32} {off : Int} {tgt : Nat} (hdg : decode cc pc = .ok (.if_icmp .lt off, 3)) (ht : (pc : Int) + off = (tgt : Int)) {X : Int} (hX : x.toInt = X) {Y : Int} (hY : y.toInt = Y)
    (kt : X < Y → W p l e R s m args below meth c H locs cells slots Q (F0 m tgt ls rest)) (kf : Y ≤ X → W p l e R s m args below meth c H locs cells slots Q (F0 m (pc + 3) ls rest)) : W p l e R s m args below meth c H locs cells slots Q (F0 m pc ls (.int y :: .int x :: rest)) := by
  subst hX; subst hY
  have z0 : (0 : Int32).toInt = 0 := by decide
  refine lv_icmp_lt hexec hb hdg ht (fun h => kt ?_) (fun h => kf ?_)
  · first | (simp only [Int32.lt_iff_toInt_lt, Int32.le_iff_toInt_le, ← Int32.toInt_inj, z0] at h; omega) | (simp only [Int32.lt_iff_toInt_lt, Int32.le_iff_toInt_le, ← Int32.toInt_inj, z0] at h; exact h)
  · first | (simp only [Int32.lt_iff_toInt_lt, Int32.le_iff_toInt_le, ← Int32.toInt_inj, z0] at h; omega) | (simp only [Int32.lt_iff_toInt_lt, Int32.le_iff_toInt_le, ← Int32.toInt_inj, z0] at h; exact h)
theorem x_if_lt (hexec : p.tables.exec = Jvm.exec) (hb : c.code = cc) {x : Int32} {off : Int} {tgt : Nat} (hdg : decode cc pc = .ok (.ifCond .lt off, 3)) (ht : (pc : Int) + off = (tgt : Int)) {X : Int} (hX : x.toInt = X)
    (kt : X < 0 → W p l e R s m args below meth c H locs cells slots Q (F0 m tgt ls rest)) (kf : 0 ≤ X → W p l e R s m args below meth c H locs cells slots Q (F0 m (pc + 3) ls rest)) : W p l e R s m args below meth c H locs cells slots Q (F0 m pc ls (.int x :: rest)) := by
  subst hX
  have z0 : (0 : Int32).toInt = 0 := by decide
  refine lv_if_lt hexec hb hdg ht (fun h => kt ?_) (fun h => kf ?_)
  · first | (simp only [Int32.lt_iff_toInt_lt, Int32.le_iff_toInt_le, ← Int32.toInt_inj, z0] at h; omega) | (simp only [Int32.lt_iff_toInt_lt, Int32.le_iff_toInt_le, ← Int32.toInt_inj, z0] at h; exact h)
  · first | (simp only [Int32.lt_iff_toInt_lt, Int32.le_iff_toInt_le, ← Int32.toInt_inj, z0] at h; omega) | (simp only [Int32.lt_iff_toInt_lt, Int32.le_iff_toInt_le, ← Int32.toInt_inj, z0] at h; exact h)
theorem x_icmp_ge (hexec : p.tables.exec = Jvm.exec) (hb : c.code = cc) {x y : Int32} {off : Int} {tgt : Nat} (hdg : decode cc pc = .ok (.if_icmp .ge off, 3)) (ht : (pc : Int) + off = (tgt : Int)) {X : Int} (hX : x.toInt = X) {Y : Int} (hY : y.toInt = Y)
    (kt : Y ≤ X → W p l e R s m args below meth c H locs cells slots Q (F0 m tgt ls rest)) (kf : X < Y → W p l e R s m args below meth c H locs cells slots Q (F0 m (pc + 3) ls rest)) : W p l e R s m args below meth c H locs cells slots Q (F0 m pc ls (.int y :: .int x :: rest)) := by
  subst hX; subst hY
  have z0 : (0 : Int32).toInt = 0 := by decide
  refine lv_icmp_ge hexec hb hdg ht (fun h => kt ?_) (fun h => kf ?_)
  · first | (simp only [Int32.lt_iff_toInt_lt, Int32.le_iff_toInt_le, ← Int32.toInt_inj, z0] at h; omega) | (simp only [Int32.lt_iff_toInt_lt, Int32.le_iff_toInt_le, ← Int32.toInt_inj, z0] at h; exact h)
  · first | (simp only [Int32.lt_iff_toInt_lt, Int32.le_iff_toInt_le, ← Int32.toInt_inj, z0] at h; omega) | (simp only [Int32.lt_iff_toInt_lt, Int32.le_iff_toInt_le, ← Int32.toInt_inj, z0] at h; exact h)
theorem x_if_ge (hexec : p.tables.exec = Jvm.exec) (hb : c.code = cc) {x : Int32} {off : Int} {tgt : Nat} (hdg : decode cc pc = .ok (.ifCond .ge off, 3)) (ht : (pc : Int) + off = (tgt : Int)) {X : Int} (hX : x.toInt = X)
    (kt : 0 ≤ X → W p l e R s m args below meth c H locs cells slots Q (F0 m tgt ls rest)) (kf : X < 0 → W p l e R s m args below meth c H locs cells slots Q (F0 m (pc + 3) ls rest)) : W p l e R s m args below meth c H locs cells slots Q (F0 m pc ls (.int x :: rest)) := by
  subst hX
  have z0 : (0 : Int32).toInt = 0 := by decide
  refine lv_if_ge hexec hb hdg ht (fun h => kt ?_) (fun h => kf ?_)
  · first | (simp only [Int32.lt_iff_toInt_lt, Int32.le_iff_toInt_le, ← Int32.toInt_inj, z0] at h; omega) | (simp only [Int32.lt_iff_toInt_lt, Int32.le_iff_toInt_le, ← Int32.toInt_inj, z0] at h; exact h)
  · first | (simp only [Int32.lt_iff_toInt_lt, Int32.le_iff_toInt_le, ← Int32.toInt_inj, z0] at h; omega) | (simp only [Int32.lt_iff_toInt_lt, Int32.le_iff_toInt_le, ← Int32.toInt_inj, z0] at h; exact h)
theorem x_icmp_gt (hexec : p.tables.exec = Jvm.exec) (hb : c.code = cc) {x y : Int32} {off : Int} {tgt : Nat} (hdg : decode cc pc = .ok (.if_icmp .gt off, 3)) (ht : (pc : Int) + off = (tgt : Int)) {X : Int} (hX : x.toInt = X) {Y : Int} (hY : y.toInt = Y)
    (kt : Y < X → W p l e R s m args below meth c H locs cells slots Q (F0 m tgt ls rest)) (kf : X ≤ Y → W p l e R s m args below meth c H locs cells slots Q (F0 m (pc + 3) ls rest)) : W p l e R s m args below meth c H locs cells slots Q (F0 m pc ls (.int y :: .int x :: rest)) := by
  subst hX; subst hY
  have z0 : (0 : Int32).toInt = 0 := by decide
  refine lv_icmp_gt hexec hb hdg ht (fun h => kt ?_) (fun h => kf ?_)
  · first | (simp only [Int32.lt_iff_toInt_lt, Int32.le_iff_toInt_le, ← Int32.toInt_inj, z0] at h; omega) | (simp only [Int32.lt_iff_toInt_lt, Int32.le_iff_toInt_le, ← Int32.toInt_inj, z0] at h; exact h)
  · first | (simp only [Int32.lt_iff_toInt_lt, Int32.le_iff_toInt_le, ← Int32.toInt_inj, z0] at h; omega) | (simp only [Int32.lt_iff_toInt_lt, Int32.le_iff_toInt_le, ← Int32.toInt_inj, z0] at h; exact h)
theorem x_if_gt (hexec : p.tables.exec = Jvm.exec) (hb : c.code = cc) {x : Int32} {off : Int} {tgt : Nat} (hdg : decode cc pc = .ok (.ifCond .gt off, 3)) (ht : (pc : Int) + off = (tgt : Int)) {X : Int} (hX : x.toInt = X)
    (kt : 0 < X → W p l e R s m args below meth c H locs cells slots Q (F0 m tgt ls rest)) (kf : X ≤ 0 → W p l e R s m args below meth c H locs cells slots Q (F0 m (pc + 3) ls rest)) : W p l e R s m args below meth c H locs cells slots Q (F0 m pc ls (.int x :: rest)) := by
  subst hX
  have z0 : (0 : Int32).toInt = 0 := by decide
  refine lv_if_gt hexec hb hdg ht (fun h => kt ?_) (fun h => kf ?_)
  · first | (simp only [Int32.lt_iff_toInt_lt, Int32.le_iff_toInt_le, ← Int32.toInt_inj, z0] at h; omega) | (simp only [Int32.lt_iff_toInt_lt, Int32.le_iff_toInt_le, ← Int32.toInt_inj, z0] at h; exact h)
  · first | (simp only [Int32.lt_iff_toInt_lt, Int32.le_iff_toInt_le, ← Int32.toInt_inj, z0] at h; omega) | (simp only [Int32.lt_iff_toInt_lt, Int32.le_iff_toInt_le, ← Int32.toInt_inj, z0] at h; exact h)
theorem x_icmp_le (hexec : p.tables.exec = Jvm.exec) (hb : c.code = cc) {x y : Int32} {off : Int} {tgt : Nat} (hdg : decode cc pc = .ok (.if_icmp .le off, 3)) (ht : (pc : Int) + off = (tgt : Int)) {X : Int} (hX : x.toInt = X) {Y : Int} (hY : y.toInt = Y)
    (kt : X ≤ Y → W p l e R s m args below meth c H locs cells slots Q (F0 m tgt ls rest)) (kf : Y < X → W p l e R s m args below meth c H locs cells slots Q (F0 m (pc + 3) ls rest)) : W p l e R s m args below meth c H locs cells slots Q (F0 m pc ls (.int y :: .int x :: rest)) := by
  subst hX; subst hY
  have z0 : (0 : Int32).toInt = 0 := by decide
  refine lv_icmp_le hexec hb hdg ht (fun h => kt ?_) (fun h => kf ?_)
  · first | (simp only [Int32.lt_iff_toInt_lt, Int32.le_iff_toInt_le, ← Int32.toInt_inj, z0] at h; omega) | (simp only [Int32.lt_iff_toInt_lt, Int32.le_iff_toInt_le, ← Int32.toInt_inj, z0] at h; exact h)
  · first | (simp only [Int32.lt_iff_toInt_lt, Int32.le_iff_toInt_le, ← Int32.toInt_inj, z0] at h; omega) | (simp only [Int32.lt_iff_toInt_lt, Int32.le_iff_toInt_le, ← Int32.toInt_inj, z0] at h; exact h)
theorem x_if_le (hexec : p.tables.exec = Jvm.exec) (hb : c.code = cc) {x : Int32} {off : Int} {tgt : Nat} (hdg : decode cc pc = .ok (.ifCond .le off, 3)) (ht : (pc : Int) + off = (tgt : Int)) {X : Int} (hX : x.toInt = X)
    (kt : X ≤ 0 → W p l e R s m args below meth c H locs cells slots Q (F0 m tgt ls rest)) (kf : 0 < X → W p l e R s m args below meth c H locs cells slots Q (F0 m (pc + 3) ls rest)) : W p l e R s m args below meth c H locs cells slots Q (F0 m pc ls (.int x :: rest)) := by
  subst hX
  have z0 : (0 : Int32).toInt = 0 := by decide
  refine lv_if_le hexec hb hdg ht (fun h => kt ?_) (fun h => kf ?_)
  · first | (simp only [Int32.lt_iff_toInt_lt, Int32.le_iff_toInt_le, ← Int32.toInt_inj, z0] at h; omega) | (simp only [Int32.lt_iff_toInt_lt, Int32.le_iff_toInt_le, ← Int32.toInt_inj, z0] at h; exact h)
  · first | (simp only [Int32.lt_iff_toInt_lt, Int32.le_iff_toInt_le, ← Int32.toInt_inj, z0] at h; omega) | (simp only [Int32.lt_iff_toInt_lt, Int32.le_iff_toInt_le, ← Int32.toInt_inj, z0] at h; exact h)
theorem x_ifB_eq (hexec : p.tables.exec = Jvm.exec) (hb : c.code = cc) {P : Prop} [Decidable P] {off : Int} {tgt : Nat} (hdg : decode cc pc = .ok (.ifCond .eq off, 3)) (ht : (pc : Int) + off = (tgt : Int))
    (kt : ¬ P → W p l e R s m args below meth c H locs cells slots Q (F0 m tgt ls rest)) (kf : P → W p l e R s m args below meth c H locs cells slots Q (F0 m (pc + 3) ls rest)) : W p l e R s m args below meth c H locs cells slots Q (F0 m pc ls (.int (bI (decide P)) :: rest)) :=
  lv_if_eq hexec hb hdg ht (fun h => kt (of_decide_eq_false (bI_eq0 h))) (fun h => kf (of_decide_eq_true (bI_ne0 h)))
theorem x_ifB_ne (hexec : p.tables.exec = Jvm.exec) (hb : c.code = cc) {P : Prop} [Decidable P] {off : Int} {tgt : Nat} (hdg : decode cc pc = .ok (.ifCond .ne off, 3)) (ht : (pc : Int) + off = (tgt : Int))
    (kt : P → W p l e R s m args below meth c H locs cells slots Q (F0 m tgt ls rest)) (kf : ¬ P → W p l e R s m args below meth c H locs cells slots Q (F0 m (pc + 3) ls rest)) : W p l e R s m args below meth c H locs cells slots Q (F0 m pc ls (.int (bI (decide P)) :: rest)) :=
  lv_if_ne hexec hb hdg ht (fun h => kt (of_decide_eq_true (bI_ne0 h))) (fun h => kf (of_decide_eq_false (bI_eq0 h)))
theorem x_iald (hexec : p.tables.exec = Jvm.exec) (hb : c.code = cc) (hK : va_K D vwCl tys s) (hP : va_P D vwCl ws H) (q0 t0 : Nat) {cA : ClassId} {n : Nat} {f : Nat → Int32} (ha : ws[q0]? = some (a, .inl (cA, n, .inl f))) (ht : tys[t0]? = some (cA, .int)) {k : Nat} (hk : k < n) (hn : n < 2147483648) (hdg : decode cc pc = .ok (.iaload, 1))
    (kk : W p l e R s m args below meth c H locs cells slots Q (F0 m (pc + 1) ls (.int (f k) :: rest))) : W p l e R s m args below meth c H locs cells slots Q (F0 m pc ls (.int (nI k) :: .ref a :: rest)) := by
  refine va_iald hexec hb hK hP q0 t0 ha ht (vp_in_nI hk (by omega)) hdg ?_
  rw [nI_clamp (by omega)]
  exact kk
theorem x_cald (hexec : p.tables.exec = Jvm.exec) (hb : c.code = cc) (hK : va_K D vwCl tys s) (hP : va_P D vwCl ws H) (q0 t0 : Nat) {cA : ClassId} {n : Nat} {f : Nat → Int32} (ha : ws[q0]? = some (a, .inl (cA, n, .inl f))) (ht : tys[t0]? = some (cA, .char)) {k : Nat} (hk : k < n) (hn : n < 2147483648) (hdg : decode cc pc = .ok (.caload, 1))
    (kk : W p l e R s m args below meth c H locs cells slots Q (F0 m (pc + 1) ls (.int (f k) :: rest))) : W p l e R s m args below meth c H locs cells slots Q (F0 m pc ls (.int (nI k) :: .ref a :: rest)) := by
  refine va_cald hexec hb hK hP q0 t0 ha ht (vp_in_nI hk (by omega)) hdg ?_
  rw [nI_clamp (by omega)]
  exact kk
theorem x_iast (hexec : p.tables.exec = Jvm.exec) (hb : c.code = cc) (hK : va_K D vwCl tys s) (hP : va_P D vwCl ws H) (hD : va_D A ws) (hS : va_S A H0 H locs) (q0 t0 : Nat) {cA : ClassId} {n : Nat} {f : Nat → Int32} (ha : ws[q0]? = some (a, .inl (cA, n, .inl f))) (ht : tys[t0]? = some (cA, .int)) {k : Nat} {x : Int32} (hk : k < n) (hn : n < 2147483648) (hdg : decode cc pc = .ok (.iastore, 1))
    (kk : ∀ (H1 : Heap) (locs1 : List Loc), va_P D vwCl (ws.set q0 (a, .inl (cA, n, .inl (upd f k x)))) H1 → va_D A (ws.set q0 (a, .inl (cA, n, .inl (upd f k x)))) → va_S A H0 H1 locs1 → W p l e R s m args below meth c H1 locs1 cells slots Q (F0 m (pc + 1) ls rest)) : W p l e R s m args below meth c H locs cells slots Q (F0 m pc ls (.int x :: .int (nI k) :: .ref a :: rest)) := by
  refine va_iast hexec hb hK hP hD hS q0 t0 ha ht (vp_in_nI hk (by omega)) hdg ?_
  rw [nI_clamp (by omega)]
  exact kk
theorem x_cast (hexec : p.tables.exec = Jvm.exec) (hb : c.code = cc) (hK : va_K D vwCl tys s) (hP : va_P D vwCl ws H) (hD : va_D A ws) (hS : va_S A H0 H locs) (q0 t0 : Nat) {cA : ClassId} {n : Nat} {f : Nat → Int32} (ha : ws[q0]? = some (a, .inl (cA, n, .inl f))) (ht : tys[t0]? = some (cA, .char)) {k : Nat} {x : Int32} (hx : vp_nar .char x = x) (hk : k < n) (hn : n < 2147483648) (hdg : decode cc pc = .ok (.castore, 1))
    (kk : ∀ (H1 : Heap) (locs1 : List Loc), va_P D vwCl (ws.set q0 (a, .inl (cA, n, .inl (upd f k x)))) H1 → va_D A (ws.set q0 (a, .inl (cA, n, .inl (upd f k x)))) → va_S A H0 H1 locs1 → W p l e R s m args below meth c H1 locs1 cells slots Q (F0 m (pc + 1) ls rest)) : W p l e R s m args below meth c H locs cells slots Q (F0 m pc ls (.int x :: .int (nI k) :: .ref a :: rest)) := by
  refine va_cast hexec hb hK hP hD hS q0 t0 ha ht (vp_in_nI hk (by omega)) hdg ?_
  rw [nI_clamp (by omega), hx]
  exact kk
theorem x_tld (hexec : p.tables.exec = Jvm.exec) (hb : c.code = cc) {t N : Nat} {f : Nat → Int} (hT : va_T .int t N (fun j => .int (zI (f j))) A s s.heap) (hS : va_S A s.heap H locs) {k : Nat} (hk : k < N) (hn : N < 2147483648) (hdg : decode cc pc = .ok (.iaload, 1))
    (kk : W p l e R s m args below meth c H locs cells slots Q (F0 m (pc + 1) ls (.int (zI (f k)) :: rest))) : W p l e R s m args below meth c H locs cells slots Q (F0 m pc ls (.int (nI k) :: .ref t :: rest)) :=
  va_ti hexec hb hT hS (vp_in_nI hk (by omega)) (by rw [nI_clamp (by omega)]) hdg kk
theorem x_callR {r : Int32} {st0 : List Value} {a : Array Value} (hr : va_Run p l e R s m args below meth c H locs cells slots 0 0 (F0 m pc ls st0) rest (QcRead r a) (fun _ => False))
    (kk : W p l e R s m args below meth c H locs cells slots Q (F0 m (pc + 3) ls (.int r :: rest))) : W p l e R s m args below meth c H locs cells slots Q (F0 m pc ls st0) := by
  intro T hT X
  obtain ⟨v, st₀, t, T', L, h0, X', hL, e1, e2, ⟨hv, hh⟩, st⟩ := hr T hT X
  cases hv
  obtain ⟨t2, a1, b1⟩ := kk T' (by rw [e1, hh, h0]) (Stand.forget X' (fun q h => (hL q h).elim))
  exact ⟨t2, st t2 a1, b1⟩
theorem x_genQ {Q0 : State → Prop} {g : JFrame} (k : ∀ Q : State → Prop, Q = Q0 → W p l e R s m args below meth c H locs cells slots Q g) : W p l e R s m args below meth c H locs cells slots Q0 g := k Q0 rfl
theorem x_iretR {v r : Int32} (hQ : Q = MQ below (QcRead r) args s 0 0 (fun _ => False)) (hexec : p.tables.exec = Jvm.exec) (hb : c.code = cc) (hr : meth.sig.returnType = some .int) (hlocks : meth.locks = false) (he : v = r) (hdg : decode cc pc = .ok (.ireturn, 1)) :
    W p l e R s m args below meth c s.heap [] 0 0 Q (F0 m pc ls [.int v]) := by
  subst he; subst hQ
  exact W.iret hexec hb hr (fun t ht hW => ⟨rfl, ht⟩) (fun _ h => by cases h) hdg hlocks
theorem x_zretR {v r : Int32} (hQ : Q = MQ below (QcRead r) args s 0 0 (fun _ => False)) (hexec : p.tables.exec = Jvm.exec) (hb : c.code = cc) (hr : meth.sig.returnType = some .boolean) (hlocks : meth.locks = false) (hn : narrow .boolean (.int v) = .int v) (he : v = r) (hdg : decode cc pc = .ok (.ireturn, 1)) :
    W p l e R s m args below meth c s.heap [] 0 0 Q (F0 m pc ls [.int v]) := by
  subst he; subst hQ
  exact W.zret hexec hb hr hn (fun t ht hW => ⟨rfl, ht⟩) (fun _ h => by cases h) hdg hlocks
theorem x_iretW {v : Int32} {w : va_W} {post : Int32 → va_W → Prop} {sz : Nat} {ws0 : va_W} (hQ : Q = MQ below (x_QWi D ws0 sz post) args s cells slots (va_A ws0 sz)) (hAe : A = va_A ws0 sz) (hexec : p.tables.exec = Jvm.exec) (hb : c.code = cc) (hr : meth.sig.returnType = some .int) (hlocks : meth.locks = false) (hP : va_P D vwCl w H) (hD : va_D A w) (hS : va_S A s.heap H locs) (he : post v w) (hdg : decode cc pc = .ok (.ireturn, 1)) :
    W p l e R s m args below meth c H locs cells slots Q (F0 m pc ls [.int v]) := by
  subst hQ; subst hAe
  exact W.iret hexec hb hr (fun t ht hW => ⟨⟨v, w, rfl, he, by rw [ht]; exact hP, hD⟩, hS.F ht⟩) hS.2.2 hdg hlocks
theorem x_zretW {v : Int32} {w : va_W} {post : Int32 → va_W → Prop} {sz : Nat} {ws0 : va_W} (hQ : Q = MQ below (x_QWi D ws0 sz post) args s cells slots (va_A ws0 sz)) (hAe : A = va_A ws0 sz) (hexec : p.tables.exec = Jvm.exec) (hb : c.code = cc) (hr : meth.sig.returnType = some .boolean) (hlocks : meth.locks = false) (hn : narrow .boolean (.int v) = .int v) (hP : va_P D vwCl w H) (hD : va_D A w) (hS : va_S A s.heap H locs) (he : post v w) (hdg : decode cc pc = .ok (.ireturn, 1)) :
    W p l e R s m args below meth c H locs cells slots Q (F0 m pc ls [.int v]) := by
  subst hQ; subst hAe
  exact W.zret hexec hb hr hn (fun t ht hW => ⟨⟨v, w, rfl, he, by rw [ht]; exact hP, hD⟩, hS.F ht⟩) hS.2.2 hdg hlocks
theorem x_vretW {w : va_W} {post : va_W → Prop} {sz : Nat} {ws0 : va_W} (hQ : Q = MQ below (x_QWv D ws0 sz post) args s cells slots (va_A ws0 sz)) (hAe : A = va_A ws0 sz) (hexec : p.tables.exec = Jvm.exec) (hb : c.code = cc) (hr : meth.sig.returnType = none) (hlocks : meth.locks = false) (hP : va_P D vwCl w H) (hD : va_D A w) (hS : va_S A s.heap H locs) (he : post w) (hdg : decode cc pc = .ok (.return_, 1)) :
    W p l e R s m args below meth c H locs cells slots Q (F0 m pc ls []) := by
  subst hQ; subst hAe
  exact W.vret hexec hb hr (fun t ht hW => ⟨⟨w, rfl, he, by rw [ht]; exact hP, hD⟩, hS.F ht⟩) hS.2.2 hdg hlocks
theorem x_copy (hexec : p.tables.exec = Jvm.exec) (hb : c.code = cc) (hml : c.maxLocals = ls.size) {own : String} {index : Nat} (hown : s.vm.findClass own = some m.cls) (hlink : (Cond.methodLink own index arraycopyName).before args s = true) (hnat : (Cond.native arraycopyName).before args s = true) (hstat : (Cond.static arraycopyName).before args s = true) (hini : (Cond.initialized "java/lang/System").before args s = true)
    {cI cC cS : ClassId} (hK : va_K D vwCl (x_ty cI cC cS) s) (hP : va_P D vwCl ws H) (hD : va_D A ws) (hS : va_S A H0 H locs) (q0 q1 : Nat) {a0 : Nat} {N : Nat} {f g : Nat → Int32} (ha0 : ws[q0]? = some (a0, .inl (cI, N, .inl f))) (ha1 : ws[q1]? = some (a, .inl (cI, N, .inl g)))
    {n : Int32} (h3 : ¬ n < 0) (hn : n.toNatClampNeg = N)
    (hframes : 1 ≤ R.frames) (hlocals : (rest.map fun v => v.category).sum + (nativeFrameWords "java/lang/System" "arraycopy" 5 + 11) ≤ R.locals) (hdg : decode cc pc = .ok (.invokestatic index, 3))
    (kk : ∀ (H1 : Heap) (locs1 : List Loc), va_P D vwCl (ws.set q1 (a, .inl (cI, N, .inl f))) H1 → va_D A (ws.set q1 (a, .inl (cI, N, .inl f))) → va_S A H0 H1 locs1 → W p l e R s m args below meth c H1 locs1 cells slots Q (F0 m (pc + 3) ls rest)) : W p l e R s m args below meth c H locs cells slots Q (F0 m pc ls (.int n :: .int 0 :: .ref a :: .int 0 :: .ref a0 :: rest)) := by
  have z : (0 : Int32).toNatClampNeg = 0 := rfl
  refine va_copyi hexec hb hml hown hlink hnat hstat hini hK hP hD hS q0 q1 0 0 ha0 ha1 rfl rfl rfl (by decide) (by decide) h3 (by rw [z, hn]; omega) (by rw [z, hn]; omega) (fun _ _ => rfl) hframes hlocals hdg (fun H1 locs1 hP1 hD1 hS1 => ?_)
  rw [z, hn] at hP1 hD1
  have e : vp_cell cI (N, .inl (va_cpy f g 0 0 N)) = vp_cell cI (N, .inl f) := x_cell_ext (fun j hj => by simp [va_cpy, hj])
  have hl : q1 < ws.length := (List.getElem?_eq_some_iff.mp ha1).1
  have hP2 : va_P D vwCl (ws.set q1 (a, .inl (cI, N, .inl f))) H1 := by
    intro k q hk
    by_cases hkp : k = q1
    · subst hkp
      rw [List.getElem?_set_self hl] at hk
      cases hk
      have h9 := hP1 k (a, .inl (cI, N, .inl (va_cpy f g 0 0 N))) (by rw [List.getElem?_set_self hl])
      exact Eq.trans h9 (congrArg some e)
    · rw [List.getElem?_set_ne (Ne.symm hkp)] at hk
      exact hP1 k q (by rw [List.getElem?_set_ne (Ne.symm hkp)]; exact hk)
  exact kk H1 locs1 hP2 (hD.set ha1) hS1
theorem x_aldq (hexec : p.tables.exec = Jvm.exec) (hb : c.code = cc) (hK : va_K D vwCl tys s) (hP : va_P D vwCl ws H) (q0 t0 : Nat) {cA : ClassId} {C : String} {n : Nat} {f : Nat → Option Nat} (ha : ws[q0]? = some (a, .inl (cA, n, .inr (.inr (.inr (.inr f)))))) (ht : tys[t0]? = some (cA, .object C)) {k : Nat} (hk : k < n) (hn : n < 2147483648) (hdg : decode cc pc = .ok (.aaload, 1))
    (kk : W p l e R s m args below meth c H locs cells slots Q (F0 m (pc + 1) ls (va_rf (f k) :: rest))) : W p l e R s m args below meth c H locs cells slots Q (F0 m pc ls (.int (nI k) :: .ref a :: rest)) := by
  refine va_aldq hexec hb hK hP q0 t0 ha ht (vp_in_nI hk (by omega)) hdg ?_
  rw [nI_clamp (by omega)]
  exact kk
theorem x_preR {cI cC cS : ClassId} {tt : Nat → Nat} {wc : va_W} {As : List Value} (hP : va_P D vwCl wc H) (hK : va_K D vwCl (x_ty cI cC cS) s) (hE : x_E tt A s) (hS : va_S A s.heap H locs) : ∀ U : State, U.heap = H → s.WarmedH U.vm → x_PR D cI cC cS tt wc As As.toArray U :=
  fun U hU hW => ⟨rfl, by rw [hU]; exact hP, va_K.moved hW.alike hK, hE.pass hS (fun _ h => h.elim) hU hW⟩
theorem x_preW {cI cC cS : ClassId} {tt : Nat → Nat} {wc : va_W} {As : List Value} (hP : va_P D vwCl ws H) (hD : va_D A ws) (hK : va_K D vwCl (x_ty cI cC cS) s) (hE : x_E tt A s) (hS : va_S A s.heap H locs) (hA : ∀ q, s.heap.size ≤ q → A q) (isC : List Nat) (hC : isC.map (fun i => ws[i]?) = wc.map some) (hn : va_nd isC = true) : ∀ U : State, U.heap = H → s.WarmedH U.vm → x_PW D cI cC cS tt wc H.size As As.toArray U := by
  intro U hU hW
  have hPc : va_P D vwCl wc H := by
    intro k q hk
    have h1 : (isC.map (fun i => ws[i]?))[k]? = some (some q) := by rw [hC, List.getElem?_map, hk]; rfl
    rw [List.getElem?_map] at h1
    cases hi : isC[k]? with
    | none => rw [hi] at h1; cases h1
    | some i => rw [hi] at h1; exact hP i q (Option.some.inj h1)
  have hF := va_free hD hS hA isC hC
  exact ⟨rfl, by rw [hU], by rw [hU]; exact hPc, va_K.moved hW.alike hK, (hD.sub isC hn hC).weaken (fun _ _ _ _ => trivial), hE.pass hS hF hU hW⟩
theorem x_callWi {st0 : List Value} {av : Array Value} {mc ms : Nat} {wc wr : va_W} {post : Int32 → va_W → Prop} (hr : va_Run p l e R s m args below meth c H locs cells slots mc ms (F0 m pc ls st0) rest (x_QWi D wc H.size post av) (va_A wc H.size)) (hP : va_P D vwCl ws H) (hD : va_D A ws) (hS : va_S A s.heap H locs) (hA : ∀ q, s.heap.size ≤ q → A q) (isC isR : List Nat) (hC : isC.map (fun i => ws[i]?) = wc.map some) (hR : isR.map (fun i => ws[i]?) = wr.map some) (hn : va_nd isR = true) (hdis : ∀ i ∈ isR, i ∉ isC)
    (kk : ∀ (r : Int32) (w1 : va_W) (H1 : Heap) (locs1 : List Loc), post r w1 → va_P D vwCl (w1 ++ wr) H1 → va_D A (w1 ++ wr) → va_S A s.heap H1 locs1 → W p l e R s m args below meth c H1 locs1 (cells + mc) (slots + ms) Q (F0 m (pc + 3) ls (.int r :: rest))) : W p l e R s m args below meth c H locs cells slots Q (F0 m pc ls st0) := by
  have hF := va_free hD hS hA isC hC
  refine va_calli hr hS (fun q _ h => hF q h) hF (fun r u t H1 locs1 ht hvm hw hB hz1 hk1 hS1 => ?_)
  obtain ⟨hP1, hD1⟩ := hB
  rw [ht] at hP1
  obtain ⟨hP2, hD2⟩ := va_join (wr := wr) (w1 := u) hP hD isC isR hC hR hn hdis hk1 hF hP1 hD1
  exact kk r u H1 locs1 hw (x_comm.1 hP2) (x_commD.1 hD2) hS1
theorem x_callWv {st0 : List Value} {av : Array Value} {mc ms : Nat} {wc wr : va_W} {post : va_W → Prop} (hr : va_Run p l e R s m args below meth c H locs cells slots mc ms (F0 m pc ls st0) rest (x_QWv D wc H.size post av) (va_A wc H.size)) (hP : va_P D vwCl ws H) (hD : va_D A ws) (hS : va_S A s.heap H locs) (hA : ∀ q, s.heap.size ≤ q → A q) (isC isR : List Nat) (hC : isC.map (fun i => ws[i]?) = wc.map some) (hR : isR.map (fun i => ws[i]?) = wr.map some) (hn : va_nd isR = true) (hdis : ∀ i ∈ isR, i ∉ isC)
    (kk : ∀ (w1 : va_W) (H1 : Heap) (locs1 : List Loc), post w1 → va_P D vwCl (w1 ++ wr) H1 → va_D A (w1 ++ wr) → va_S A s.heap H1 locs1 → W p l e R s m args below meth c H1 locs1 (cells + mc) (slots + ms) Q (F0 m (pc + 3) ls rest)) : W p l e R s m args below meth c H locs cells slots Q (F0 m pc ls st0) := by
  have hF := va_free hD hS hA isC hC
  refine va_callv hr hS (fun q _ h => hF q h) hF (fun u t H1 locs1 ht hvm hw hB hz1 hk1 hS1 => ?_)
  obtain ⟨hP1, hD1⟩ := hB
  rw [ht] at hP1
  obtain ⟨hP2, hD2⟩ := va_join (wr := wr) (w1 := u) hP hD isC isR hC hR hn hdis hk1 hF hP1 hD1
  exact kk u H1 locs1 hw (x_comm.1 hP2) (x_commD.1 hD2) hS1
end XRW
