/-! ===== the model's row: three pictures, numbers, the log ===== -/
def mkM (D S R N : Nat → Int32) (K : Int32) (L : Nat → Int32) : Nat → Int32 := fun k => if k < 144 then D k else if k < 288 then S (k - 144) else if k < 432 then R (k - 288) else if k < 441 then N (k - 432) else if k = 441 then K else if k < 578 then L (k - 442) else 0
section MKM
variable {D S R N L : Nat → Int32} {K v : Int32} {k j : Nat}
theorem mkM_D (h : k = j) (hj : j < 144) : mkM D S R N K L k = D j := by
  subst h; unfold mkM; rw [if_pos hj]
theorem mkM_S (h : k = 144 + j) (hj : j < 144) : mkM D S R N K L k = S j := by
  subst h; unfold mkM; rw [if_neg (by omega), if_pos (by omega), show 144 + j - 144 = j by omega]
theorem mkM_R (h : k = 288 + j) (hj : j < 144) : mkM D S R N K L k = R j := by
  subst h; unfold mkM; rw [if_neg (by omega), if_neg (by omega), if_pos (by omega), show 288 + j - 288 = j by omega]
theorem mkM_N (h : k = 432 + j) (hj : j < 9) : mkM D S R N K L k = N j := by
  subst h; unfold mkM; rw [if_neg (by omega), if_neg (by omega), if_neg (by omega), if_pos (by omega), show 432 + j - 432 = j by omega]
theorem mkM_K (h : k = 441) : mkM D S R N K L k = K := by
  subst h; unfold mkM; rw [if_neg (by omega), if_neg (by omega), if_neg (by omega), if_neg (by omega), if_pos rfl]
theorem mkM_L (h : k = 442 + j) (hj : j < 136) : mkM D S R N K L k = L j := by
  subst h; unfold mkM; rw [if_neg (by omega), if_neg (by omega), if_neg (by omega), if_neg (by omega), if_neg (by omega), if_pos (by omega), show 442 + j - 442 = j by omega]
/-- two rows that agree where they have something -/
theorem mkM_c {D' S' R' N' L' : Nat → Int32} {K' : Int32} (h1 : ∀ j, j < 144 → D j = D' j) (h2 : ∀ j, j < 144 → S j = S' j) (h3 : ∀ j, j < 144 → R j = R' j) (h4 : ∀ j, j < 9 → N j = N' j) (h5 : K = K') (h6 : ∀ j, j < 136 → L j = L' j) : mkM D S R N K L = mkM D' S' R' N' K' L' := by
  funext q
  unfold mkM
  by_cases q1 : q < 144
  · rw [if_pos q1, if_pos q1]; exact h1 q q1
  rw [if_neg q1, if_neg q1]
  by_cases q2 : q < 288
  · rw [if_pos q2, if_pos q2]; exact h2 _ (by omega)
  rw [if_neg q2, if_neg q2]
  by_cases q3 : q < 432
  · rw [if_pos q3, if_pos q3]; exact h3 _ (by omega)
  rw [if_neg q3, if_neg q3]
  by_cases q4 : q < 441
  · rw [if_pos q4, if_pos q4]; exact h4 _ (by omega)
  rw [if_neg q4, if_neg q4]
  by_cases q5 : q = 441
  · rw [if_pos q5, if_pos q5]; exact h5
  rw [if_neg q5, if_neg q5]
  by_cases q6 : q < 578
  · rw [if_pos q6, if_pos q6]; exact h6 _ (by omega)
  rw [if_neg q6, if_neg q6]
theorem mkM_far (h : 578 ≤ k) : mkM D S R N K L k = 0 := by
  unfold mkM; rw [if_neg (by omega), if_neg (by omega), if_neg (by omega), if_neg (by omega), if_neg (by omega), if_neg (by omega)]
/-- a row is told by its parts -/
theorem mkM_e {M : Nat → Int32} (h1 : ∀ j, j < 144 → M j = D j) (h2 : ∀ j, j < 144 → M (144 + j) = S j) (h3 : ∀ j, j < 144 → M (288 + j) = R j) (h4 : ∀ j, j < 9 → M (432 + j) = N j) (h5 : M 441 = K) (h6 : ∀ j, j < 136 → M (442 + j) = L j) (h7 : ∀ j, 578 ≤ j → M j = 0) : M = mkM D S R N K L := by
  funext q
  by_cases q1 : q < 144
  · rw [mkM_D rfl q1]; exact h1 q q1
  by_cases q2 : q < 288
  · have e := h2 (q - 144) (by omega)
    rw [mkM_S (j := q - 144) (by omega) (by omega), ← e, show 144 + (q - 144) = q by omega]
  by_cases q3 : q < 432
  · have e := h3 (q - 288) (by omega)
    rw [mkM_R (j := q - 288) (by omega) (by omega), ← e, show 288 + (q - 288) = q by omega]
  by_cases q4 : q < 441
  · have e := h4 (q - 432) (by omega)
    rw [mkM_N (j := q - 432) (by omega) (by omega), ← e, show 432 + (q - 432) = q by omega]
  by_cases q5 : q = 441
  · rw [mkM_K q5, q5]; exact h5
  by_cases q6 : q < 578
  · have e := h6 (q - 442) (by omega)
    rw [mkM_L (j := q - 442) (by omega) (by omega), ← e, show 442 + (q - 442) = q by omega]
  · rw [mkM_far (by omega)]; exact h7 q (by omega)
theorem upM_D (h : k = j) (hj : j < 144) : upd (mkM D S R N K L) k v = mkM (upd D j v) S R N K L := by
  subst h
  funext q
  by_cases e : q = k
  · subst e; rw [mkM_D rfl hj]; unfold upd; rw [if_pos rfl, if_pos rfl]
  · show (if q = k then v else mkM D S R N K L q) = _
    rw [if_neg e]
    unfold mkM
    by_cases q1 : q < 144
    · rw [if_pos q1, if_pos q1]; unfold upd; rw [if_neg e]
    · rw [if_neg q1, if_neg q1]
theorem upM_S (h : k = 144 + j) (hj : j < 144) : upd (mkM D S R N K L) k v = mkM D (upd S j v) R N K L := by
  subst h
  refine mkM_e ?_ ?_ ?_ ?_ ?_ ?_ ?_
  · intro q hq; unfold upd; rw [if_neg (by omega)]; exact mkM_D rfl hq
  · intro q hq
    unfold upd
    by_cases e : q = j
    · rw [if_pos (by omega), if_pos e]
    · rw [if_neg (by omega), if_neg e]; exact mkM_S rfl hq
  · intro q hq; unfold upd; rw [if_neg (by omega)]; exact mkM_R rfl hq
  · intro q hq; unfold upd; rw [if_neg (by omega)]; exact mkM_N rfl hq
  · unfold upd; rw [if_neg (by omega)]; exact mkM_K rfl
  · intro q hq; unfold upd; rw [if_neg (by omega)]; exact mkM_L rfl hq
  · intro q hq; unfold upd; rw [if_neg (by omega)]; exact mkM_far hq
theorem upM_R (h : k = 288 + j) (hj : j < 144) : upd (mkM D S R N K L) k v = mkM D S (upd R j v) N K L := by
  subst h
  refine mkM_e ?_ ?_ ?_ ?_ ?_ ?_ ?_
  · intro q hq; unfold upd; rw [if_neg (by omega)]; exact mkM_D rfl hq
  · intro q hq; unfold upd; rw [if_neg (by omega)]; exact mkM_S rfl hq
  · intro q hq
    unfold upd
    by_cases e : q = j
    · rw [if_pos (by omega), if_pos e]
    · rw [if_neg (by omega), if_neg e]; exact mkM_R rfl hq
  · intro q hq; unfold upd; rw [if_neg (by omega)]; exact mkM_N rfl hq
  · unfold upd; rw [if_neg (by omega)]; exact mkM_K rfl
  · intro q hq; unfold upd; rw [if_neg (by omega)]; exact mkM_L rfl hq
  · intro q hq; unfold upd; rw [if_neg (by omega)]; exact mkM_far hq
theorem upM_N (h : k = 432 + j) (hj : j < 9) : upd (mkM D S R N K L) k v = mkM D S R (upd N j v) K L := by
  subst h
  refine mkM_e ?_ ?_ ?_ ?_ ?_ ?_ ?_
  · intro q hq; unfold upd; rw [if_neg (by omega)]; exact mkM_D rfl hq
  · intro q hq; unfold upd; rw [if_neg (by omega)]; exact mkM_S rfl hq
  · intro q hq; unfold upd; rw [if_neg (by omega)]; exact mkM_R rfl hq
  · intro q hq
    unfold upd
    by_cases e : q = j
    · rw [if_pos (by omega), if_pos e]
    · rw [if_neg (by omega), if_neg e]; exact mkM_N rfl hq
  · unfold upd; rw [if_neg (by omega)]; exact mkM_K rfl
  · intro q hq; unfold upd; rw [if_neg (by omega)]; exact mkM_L rfl hq
  · intro q hq; unfold upd; rw [if_neg (by omega)]; exact mkM_far hq
theorem upM_K (h : k = 441) : upd (mkM D S R N K L) k v = mkM D S R N v L := by
  subst h
  refine mkM_e ?_ ?_ ?_ ?_ ?_ ?_ ?_
  · intro q hq; unfold upd; rw [if_neg (by omega)]; exact mkM_D rfl hq
  · intro q hq; unfold upd; rw [if_neg (by omega)]; exact mkM_S rfl hq
  · intro q hq; unfold upd; rw [if_neg (by omega)]; exact mkM_R rfl hq
  · intro q hq; unfold upd; rw [if_neg (by omega)]; exact mkM_N rfl hq
  · unfold upd; rw [if_pos rfl]
  · intro q hq; unfold upd; rw [if_neg (by omega)]; exact mkM_L rfl hq
  · intro q hq; unfold upd; rw [if_neg (by omega)]; exact mkM_far hq
theorem upM_L (h : k = 442 + j) (hj : j < 136) : upd (mkM D S R N K L) k v = mkM D S R N K (upd L j v) := by
  subst h
  refine mkM_e ?_ ?_ ?_ ?_ ?_ ?_ ?_
  · intro q hq; unfold upd; rw [if_neg (by omega)]; exact mkM_D rfl hq
  · intro q hq; unfold upd; rw [if_neg (by omega)]; exact mkM_S rfl hq
  · intro q hq; unfold upd; rw [if_neg (by omega)]; exact mkM_R rfl hq
  · intro q hq; unfold upd; rw [if_neg (by omega)]; exact mkM_N rfl hq
  · unfold upd; rw [if_neg (by omega)]; exact mkM_K rfl
  · intro q hq
    unfold upd
    by_cases e : q = j
    · rw [if_pos (by omega), if_pos e]
    · rw [if_neg (by omega), if_neg e]; exact mkM_L rfl hq
  · intro q hq; unfold upd; rw [if_neg (by omega)]; exact mkM_far hq
/-- a point of a picture by its number -/
def pkN (D S R : Nat → Int32) (P : Nat) : Nat → Int32 := if P = 0 then D else if P = 1 then S else R
theorem mkM_pk {P : Nat} (hP : P < 3) (h : k = 144 * P + j) (hj : j < 144) : mkM D S R N K L k = pkN D S R P j := by
  unfold pkN
  rcases (show P = 0 ∨ P = 1 ∨ P = 2 by omega) with e | e | e <;> subst e
  · rw [if_pos rfl]; exact mkM_D (by omega) hj
  · rw [if_neg (by omega), if_pos rfl]; exact mkM_S (by omega) hj
  · rw [if_neg (by omega), if_neg (by omega)]; exact mkM_R (by omega) hj
end MKM
theorem pkN_0 {D S R : Nat → Int32} : pkN D S R 0 = D := rfl
theorem pkN_1 {D S R : Nat → Int32} : pkN D S R 1 = S := rfl
theorem pkN_2 {D S R : Nat → Int32} : pkN D S R 2 = R := rfl
/-! levels -/
abbrev lvB (f : Nat → Int32) : Prop := ∀ k, 0 ≤ (f k).toInt ∧ (f k).toInt ≤ 15
theorem gtZ_b {f : Nat → Int32} (h : lvB f) (X Y : Int) : 0 ≤ (gtZ f X Y).toInt ∧ (gtZ f X Y).toInt ≤ 15 := by
  unfold gtZ
  split
  · exact h _
  · decide
theorem x_subB {a b : Int32} (ha : 0 ≤ a.toInt ∧ a.toInt ≤ 15) (hb : 0 ≤ b.toInt ∧ b.toInt ≤ 15) : (a - b).toInt = a.toInt - b.toInt := x_subI rfl rfl (by omega) (by omega)
theorem absI_b {a b : Int32} (ha : 0 ≤ a.toInt ∧ a.toInt ≤ 15) (hb : 0 ≤ b.toInt ∧ b.toInt ≤ 15) : 0 ≤ (absI (a - b)).toInt ∧ (absI (a - b)).toInt ≤ 15 := by
  have e := x_subB ha hb
  unfold absI
  have z0 : (0 : Int32).toInt = 0 := by decide
  by_cases h : 0 ≤ a - b
  · rw [if_pos h]
    have h2 := Int32.le_iff_toInt_le.mp h
    rw [e, z0] at h2
    rw [e]; omega
  · rw [if_neg h]
    have h2 : ¬ (0 : Int32).toInt ≤ (a - b).toInt := fun q => h (Int32.le_iff_toInt_le.mpr q)
    rw [e, z0] at h2
    rw [show (0 - (a - b)).toInt = 0 - (a.toInt - b.toInt) from x_subI z0 e (by omega) (by omega)]
    omega
theorem sm_b {f : Nat → Int32} {B : Int} (hB : 0 ≤ B ∧ B ≤ 1000) : ∀ n, n ≤ 1000 → (∀ j, j < n → 0 ≤ (f j).toInt ∧ (f j).toInt ≤ B) → 0 ≤ (sm f n).toInt ∧ (sm f n).toInt ≤ (n : Int) * B
  | 0, _, _ => by rw [sm_0]; exact ⟨by decide, by rw [show ((0 : Nat) : Int) = 0 from rfl, Int.zero_mul]; decide⟩
  | n + 1, hn, h => by
    have ih := sm_b (f := f) hB n (by omega) (fun j hj => h j (by omega))
    have e := h n (by omega)
    have hm : (n : Int) * B ≤ 1000 * 1000 := Int.mul_le_mul (by omega) hB.2 hB.1 (by omega)
    have hs : ((n + 1 : Nat) : Int) * B = (n : Int) * B + B := by rw [Int.natCast_add, Int.add_mul]; simp
    rw [sm_s, hs, show (sm f n + f n).toInt = (sm f n).toInt + (f n).toInt from x_addI rfl rfl (by omega) (by omega)]
    omega
theorem tdT_b {f g : Nat → Int32} (hf : lvB f) (hg : lvB g) (p x y : Nat) : 0 ≤ (tdT f g p x y).toInt ∧ (tdT f g p x y).toInt ≤ 15 := absI_b (hf _) (gtZ_b hg _ _)
theorem tdR_b {f g : Nat → Int32} (hf : lvB f) (hg : lvB g) (t p y : Nat) : 0 ≤ (tdR f g t p y).toInt ∧ (tdR f g t p y).toInt ≤ 60 := by
  have h := sm_b (f := fun i => tdT f g p (t % 3 * 4 + i) y) (B := 15) (by omega) 4 (by omega) (fun j _ => tdT_b hf hg _ _ _)
  unfold tdR
  omega
theorem tdS_b {f g : Nat → Int32} (hf : lvB f) (hg : lvB g) (t p : Nat) : 0 ≤ (tdS f g t p).toInt ∧ (tdS f g t p).toInt ≤ 240 := by
  have h := sm_b (f := fun j => tdR f g t p (t / 3 * 4 + j)) (B := 60) (by omega) 4 (by omega) (fun j _ => tdR_b hf hg _ _ _)
  unfold tdS
  omega
/-- the difference of a tile by a place; -5 beyond the screen -/
def dfw (D S : Nat → Int32) (t p : Nat) : Int32 := if wIn t p then tdS D S t p else -5
theorem dfw_v {D S : Nat → Int32} (hD : lvB D) (hS : lvB S) {t p : Nat} {Tl : Int} (hT : Tl ≤ 240) : (¬ (dfw D S t p).toInt = -5 ∧ (dfw D S t p).toInt ≤ Tl) ↔ (dfv D S t p).toInt ≤ Tl := by
  have b := tdS_b hD hS t p
  unfold dfw dfv
  by_cases h : wIn t p
  · rw [if_pos h, if_pos h]; omega
  · rw [if_neg h, if_neg h, show (-5 : Int32).toInt = -5 by decide, show (1000 : Int32).toInt = 1000 by decide]; omega
theorem wIn_0 {t : Nat} (h : t < 9) : wIn t 0 := by
  unfold wIn
  rw [show x_sr 0 = 0 from rfl, show x_sd 0 = 0 from rfl]
  omega
theorem dfw_0 {D S : Nat → Int32} {t : Nat} (h : t < 9) : dfw D S t 0 = tdS D S t 0 := if_pos (wIn_0 h)
theorem cdV_240 {D S : Nat → Int32} (hD : lvB D) (hS : lvB S) {t : Nat} (h : t < 9) : cdV D S t 240 = 0 := by
  unfold cdV
  refine fsQ_t (by omega) (decide_eq_true ?_)
  unfold dfv
  rw [if_pos (wIn_0 h)]
  exact (tdS_b hD hS t 0).2
theorem bwV_240 {D S : Nat → Int32} (hD : lvB D) (hS : lvB S) : bwV D S 240 = 9 := by
  unfold bwV
  rw [sm_c (g := fun _ => 1) 9 (fun j hj => by rw [cdV_240 hD hS hj]; rfl)]
  rfl
theorem cdV_in {D S : Nat → Int32} {t : Nat} {Tl : Int} (hT : Tl ≤ 240) : cdV D S t Tl = 25 ∨ (cdV D S t Tl < 25 ∧ wIn t (cdV D S t Tl)) := by
  have h := cdV_le (D := D) (S := S) (t := t) (Tl := Tl)
  by_cases h1 : cdV D S t Tl < 25
  · right
    refine ⟨h1, ?_⟩
    have h2 := of_decide_eq_true (fsQ_hit (P := fun p => decide ((dfv D S t p).toInt ≤ Tl)) 25 0 h1)
    by_cases h3 : wIn t (cdV D S t Tl)
    · exact h3
    · exfalso
      have e : dfv D S t (cdV D S t Tl) = 1000 := if_neg h3
      have h2' : (dfv D S t (cdV D S t Tl)).toInt ≤ Tl := h2
      rw [e, show (1000 : Int32).toInt = 1000 by decide] at h2'
      omega
  · left; omega
/-! the history's row -/
def shF (Hs : Nat → Int32) (n : Nat) : Nat → Int32 := fun x => if x < n then Hs (x + 578) else Hs x
def cpF (Hs M : Nat → Int32) (b n : Nat) : Nat → Int32 := fun x => if b ≤ x ∧ x < b + n then M (x - b) else Hs x
def rcH (Hs M : Nat → Int32) (k : Nat) : Nat → Int32 := if k = 4 then cpF (shF Hs 1734) M 1734 578 else cpF Hs M (578 * k) 578
theorem shF_0 {Hs : Nat → Int32} : Hs = shF Hs 0 := by funext x; unfold shF; rw [if_neg (by omega)]
theorem shF_at {Hs : Nat → Int32} {n : Nat} : shF Hs n (n + 578) = Hs (n + 578) := by unfold shF; rw [if_neg (by omega)]
theorem shF_s {Hs : Nat → Int32} {n : Nat} {v : Int32} (h : v = Hs (n + 578)) : upd (shF Hs n) n v = shF Hs (n + 1) := by
  funext x
  unfold upd shF
  by_cases e : x = n
  · rw [if_pos e, if_pos (by omega), h, e]
  · rw [if_neg e]
    by_cases e2 : x < n
    · rw [if_pos e2, if_pos (by omega)]
    · rw [if_neg e2, if_neg (by omega)]
theorem cpF_0 {Hs M : Nat → Int32} {b : Nat} : Hs = cpF Hs M b 0 := by funext x; unfold cpF; rw [if_neg (by omega)]
theorem cpF_s {Hs M : Nat → Int32} {b n k : Nat} (hk : k = b + n) {v : Int32} (h : v = M n) : upd (cpF Hs M b n) k v = cpF Hs M b (n + 1) := by
  subst hk
  funext x
  unfold upd cpF
  by_cases e : x = b + n
  · rw [if_pos e, if_pos (by omega), h, show x - b = n by omega]
  · rw [if_neg e]
    by_cases e2 : b ≤ x ∧ x < b + n
    · rw [if_pos e2, if_pos (by omega)]
    · rw [if_neg e2, if_neg (by omega)]
section XR4
variable {p : Program} {l : Launch} {e : Env} {R : Room} {s : State} {m : MethodId} {args : Array Value} {below : List Frame} {meth : Method} {c : Code} {H : Heap} {locs : List Loc} {cells slots : Nat} {Q : State → Prop}
variable {cc : ByteArray} {pc : Nat} {ls : Array Slot} {rest : List Value} {D : va_G} {A : Nat → Prop} {a : Nat} {tys : List (ClassId × FieldType)} {ws : va_W} {H0 : Heap}
theorem x_iastE (hexec : p.tables.exec = Jvm.exec) (hb : c.code = cc) (hK : va_K D vwCl tys s) (hP : va_P D vwCl ws H) (hD : va_D A ws) (hS : va_S A H0 H locs) (q0 t0 : Nat) {cA : ClassId} {n : Nat} {f g : Nat → Int32} (ha : ws[q0]? = some (a, .inl (cA, n, .inl f))) (ht : tys[t0]? = some (cA, .int)) {k : Nat} {x : Int32} (he : upd f k x = g) (hk : k < n) (hn : n < 2147483648) (hdg : decode cc pc = .ok (.iastore, 1))
    (kk : ∀ (H1 : Heap) (locs1 : List Loc), va_P D vwCl (ws.set q0 (a, .inl (cA, n, .inl g))) H1 → va_D A (ws.set q0 (a, .inl (cA, n, .inl g))) → va_S A H0 H1 locs1 → W p l e R s m args below meth c H1 locs1 cells slots Q (F0 m (pc + 1) ls rest)) : W p l e R s m args below meth c H locs cells slots Q (F0 m pc ls (.int x :: .int (nI k) :: .ref a :: rest)) := by
  subst he
  exact x_iast hexec hb hK hP hD hS q0 t0 ha ht hk hn hdg kk
end XR4
