/-! ===== the model's frame ===== -/
/-- the place of a point within its tile -/
def psN (x : Nat) : Nat := x / 12 % 4 * 4 + x % 12 % 4
def apK (D T : Nat → Int32) (cd : Nat → Nat) (t k : Nat) : Nat → Int32 := fun x => if x < 144 ∧ (tlN x < t ∨ (tlN x = t ∧ psN x < k)) then apP D T cd x else T x
theorem apK_0 {D T : Nat → Int32} {cd : Nat → Nat} {t : Nat} : apF D T cd t = apK D T cd t 0 := by
  funext x
  unfold apF apK
  by_cases h : x < 144 ∧ tlN x < t
  · rw [if_pos h, if_pos (by omega)]
  · rw [if_neg h, if_neg (by omega)]
theorem psN_lt (x : Nat) : psN x < 16 := by unfold psN; omega
theorem apK_16 {D T : Nat → Int32} {cd : Nat → Nat} {t k : Nat} (hk : 16 ≤ k) : apK D T cd t k = apF D T cd (t + 1) := by
  funext x
  have := psN_lt x
  unfold apF apK
  by_cases h : x < 144 ∧ tlN x < t + 1
  · rw [if_pos h, if_pos (by omega)]
  · rw [if_neg h, if_neg (by omega)]
theorem tp_eq {t k x : Nat} (ht : t < 9) (hk : k < 16) (hx : x < 144) : (tlN x = t ∧ psN x = k) ↔ x = (t / 3 * 4 + k / 4) * 12 + (t % 3 * 4 + k % 4) := by
  unfold tlN psN
  omega
theorem apK_s {D T : Nat → Int32} {cd : Nat → Nat} {t k : Nat} (ht : t < 9) (hk : k < 16) {v : Int32} (h : v = apP D T cd ((t / 3 * 4 + k / 4) * 12 + (t % 3 * 4 + k % 4))) : upd (apK D T cd t k) ((t / 3 * 4 + k / 4) * 12 + (t % 3 * 4 + k % 4)) v = apK D T cd t (k + 1) := by
  funext x
  have hb : (t / 3 * 4 + k / 4) * 12 + (t % 3 * 4 + k % 4) < 144 := by omega
  unfold upd apK
  by_cases hx : x < 144
  · have e := tp_eq ht hk hx
    by_cases h2 : x = (t / 3 * 4 + k / 4) * 12 + (t % 3 * 4 + k % 4)
    · have e2 := e.mpr h2
      rw [if_pos h2, if_pos ⟨hx, Or.inr ⟨e2.1, by omega⟩⟩, h, h2]
    · rw [if_neg h2]
      by_cases h3 : tlN x < t ∨ (tlN x = t ∧ psN x < k)
      · rw [if_pos ⟨hx, h3⟩, if_pos ⟨hx, by omega⟩]
      · have h4 : ¬ (tlN x = t ∧ psN x = k) := fun z => h2 (e.mp z)
        rw [if_neg (fun z => h3 z.2), if_neg (by omega)]
  · rw [if_neg (by omega), if_neg (by omega), if_neg (by omega)]
theorem apP_w {D T : Nat → Int32} {cd : Nat → Nat} {t k : Nat} (ht : t < 9) (hk : k < 16) (h : cd t = 25) : D ((t / 3 * 4 + k / 4) * 12 + (t % 3 * 4 + k % 4)) = apP D T cd ((t / 3 * 4 + k / 4) * 12 + (t % 3 * 4 + k % 4)) := by
  have e := (tp_eq ht hk (x := (t / 3 * 4 + k / 4) * 12 + (t % 3 * 4 + k % 4)) (by omega)).mpr rfl
  unfold apP
  rw [e.1, if_pos h]
theorem apP_m {D T : Nat → Int32} {cd : Nat → Nat} {t k i : Nat} (ht : t < 9) (hk : k < 16) (h : ¬ cd t = 25) (hw : wIn t (cd t)) (hi : (i : Int) = (((t / 3 * 4 + k / 4 : Nat) : Int) + x_sd (cd t)) * 12 + (((t % 3 * 4 + k % 4 : Nat) : Int) + x_sr (cd t))) : T i = apP D T cd ((t / 3 * 4 + k / 4) * 12 + (t % 3 * 4 + k % 4)) := by
  have e := (tp_eq ht hk (x := (t / 3 * 4 + k / 4) * 12 + (t % 3 * 4 + k % 4)) (by omega)).mpr rfl
  have e1 : ((t / 3 * 4 + k / 4) * 12 + (t % 3 * 4 + k % 4)) % 12 = t % 3 * 4 + k % 4 := by omega
  have e2 : ((t / 3 * 4 + k / 4) * 12 + (t % 3 * 4 + k % 4)) / 12 = t / 3 * 4 + k / 4 := by omega
  unfold apP
  rw [e.1, if_neg h, e1, e2]
  unfold gtZ
  unfold wIn at hw
  rw [if_pos (by omega)]
  exact congrArg T (by omega)
/-! the model's log -/
def shL (L : Nat → Int32) (n : Nat) : Nat → Int32 := fun x => if x < n then L (x + 17) else L x
theorem shL_0 {L : Nat → Int32} : L = shL L 0 := by funext x; unfold shL; rw [if_neg (by omega)]
theorem shL_at {L : Nat → Int32} {n : Nat} : shL L n (n + 17) = L (n + 17) := by unfold shL; rw [if_neg (by omega)]
theorem shL_s {L : Nat → Int32} {n : Nat} {v : Int32} (h : v = L (n + 17)) : upd (shL L n) n v = shL L (n + 1) := by
  funext x
  unfold upd shL
  by_cases e : x = n
  · rw [if_pos e, if_pos (by omega), h, e]
  · rw [if_neg e]
    by_cases e2 : x < n
    · rw [if_pos e2, if_pos (by omega)]
    · rw [if_neg e2, if_neg (by omega)]
def lgB (L : Nat → Int32) (kn : Nat) : Nat → Int32 := if kn = 8 then shL L 119 else L
def lgM (L : Nat → Int32) (kn : Nat) (row : Nat → Int32) : Nat → Int32 := cpF (lgB L kn) row (17 * min kn 7) 17
def kcN (cd : Nat → Nat) (kind n : Nat) : Int32 := sm (fun t => if kdN (cd t) = kind then 1 else 0) n
def lgX (B : Nat → Int32) (b : Nat) (bt tol k2 k3 : Int32) (cd : Nat → Nat) (t : Nat) : Nat → Int32 := fun j => if j = b then bt else if j = b + 1 then tol else if j = b + 2 then k2 else if j = b + 3 then k3 else if b + 4 ≤ j ∧ j < b + 7 then kcN cd (j - (b + 4)) t else if b + 8 ≤ j ∧ j < b + 8 + t then nI (cd (j - (b + 8))) else B j
theorem lgX_0 {B : Nat → Int32} {b : Nat} {bt tol k2 k3 : Int32} {cd : Nat → Nat} : upd (upd (upd (upd (upd (upd (upd B b bt) (b + 1) tol) (b + 2) k2) (b + 3) k3) (b + 4) 0) (b + 5) 0) (b + 6) 0 = lgX B b bt tol k2 k3 cd 0 := by
  funext j
  unfold lgX upd kcN
  rw [sm_0]
  by_cases h0 : j = b
  · rw [if_neg (by omega), if_neg (by omega), if_neg (by omega), if_neg (by omega), if_neg (by omega), if_neg (by omega), if_pos h0, if_pos h0]
  by_cases h1 : j = b + 1
  · rw [if_neg (by omega), if_neg (by omega), if_neg (by omega), if_neg (by omega), if_neg (by omega), if_pos h1, if_neg h0, if_pos h1]
  by_cases h2 : j = b + 2
  · rw [if_neg (by omega), if_neg (by omega), if_neg (by omega), if_neg (by omega), if_pos h2, if_neg h0, if_neg h1, if_pos h2]
  by_cases h3 : j = b + 3
  · rw [if_neg (by omega), if_neg (by omega), if_neg (by omega), if_pos h3, if_neg h0, if_neg h1, if_neg h2, if_pos h3]
  rw [if_neg h0, if_neg h1, if_neg h2, if_neg h3]
  by_cases h4 : b + 4 ≤ j ∧ j < b + 7
  · rw [if_pos h4]
    by_cases h6 : j = b + 6
    · rw [if_pos h6, if_neg h0, if_neg h1, if_neg h2, if_neg h3]
    by_cases h5 : j = b + 5
    · rw [if_neg h6, if_pos h5, if_neg h0, if_neg h1, if_neg h2, if_neg h3]
    · rw [if_neg h6, if_neg h5, if_pos (by omega), if_neg h0, if_neg h1, if_neg h2, if_neg h3]
  · rw [if_neg h4, if_neg (by omega), if_neg (by omega), if_neg (by omega), if_neg h3, if_neg h2, if_neg h1, if_neg h0, if_neg (by omega)]
theorem lgX_k {B : Nat → Int32} {b : Nat} {bt tol k2 k3 : Int32} {cd : Nat → Nat} {t kind : Nat} (hk : kind < 3) : lgX B b bt tol k2 k3 cd t (b + 4 + kind) = kcN cd kind t := by
  unfold lgX
  rw [if_neg (by omega), if_neg (by omega), if_neg (by omega), if_neg (by omega), if_pos (by omega), show b + 4 + kind - (b + 4) = kind by omega]
theorem kcN_s {cd : Nat → Nat} {kind n : Nat} : kcN cd kind (n + 1) = kcN cd kind n + (if kdN (cd n) = kind then 1 else 0) := rfl
theorem lgX_s {B : Nat → Int32} {b : Nat} {bt tol k2 k3 : Int32} {cd : Nat → Nat} {t kind : Nat} (hk : kind < 3) (h : kdN (cd t) = kind) {v w : Int32} (hv : v = kcN cd kind t + 1) (hw : w = nI (cd t)) : upd (upd (lgX B b bt tol k2 k3 cd t) (b + 4 + kind) v) (b + 8 + t) w = lgX B b bt tol k2 k3 cd (t + 1) := by
  funext j
  by_cases h8 : j = b + 8 + t
  · unfold upd lgX
    rw [if_pos h8, if_neg (by omega), if_neg (by omega), if_neg (by omega), if_neg (by omega), if_neg (by omega), if_pos (by omega), hw, show j - (b + 8) = t by omega]
  · show (if j = b + 8 + t then w else upd (lgX B b bt tol k2 k3 cd t) (b + 4 + kind) v j) = _
    rw [if_neg h8]
    unfold upd
    by_cases hj : j = b + 4 + kind
    · rw [if_pos hj, hj, lgX_k hk, kcN_s, if_pos h, hv]
    · rw [if_neg hj]
      unfold lgX
      by_cases h0 : j = b
      · rw [if_pos h0, if_pos h0]
      by_cases h1 : j = b + 1
      · rw [if_neg h0, if_pos h1, if_neg h0, if_pos h1]
      by_cases h2 : j = b + 2
      · rw [if_neg h0, if_neg h1, if_pos h2, if_neg h0, if_neg h1, if_pos h2]
      by_cases h3 : j = b + 3
      · rw [if_neg h0, if_neg h1, if_neg h2, if_pos h3, if_neg h0, if_neg h1, if_neg h2, if_pos h3]
      rw [if_neg h0, if_neg h1, if_neg h2, if_neg h3, if_neg h0, if_neg h1, if_neg h2, if_neg h3]
      by_cases h4 : b + 4 ≤ j ∧ j < b + 7
      · rw [if_pos h4, if_pos h4, kcN_s, if_neg (by omega), Int32.add_zero]
      · rw [if_neg h4, if_neg h4]
        by_cases h5 : b + 8 ≤ j ∧ j < b + 8 + t
        · rw [if_pos h5, if_pos (by omega)]
        · rw [if_neg h5, if_neg (by omega)]
theorem lgR_k {b tol : Int32} {kd ls : Nat} {cd : Nat → Nat} {df : Int32} {w : Nat} (h1 : 4 ≤ w) (h2 : w < 7) : lgR b tol kd ls cd df w = kcS cd (w - 4) := by
  unfold lgR
  rw [if_neg (by omega), if_neg (by omega), if_neg (by omega), if_neg (by omega), if_pos (by omega)]
theorem lgR_c {b tol : Int32} {kd ls : Nat} {cd : Nat → Nat} {df : Int32} {w : Nat} (h1 : 8 ≤ w) : lgR b tol kd ls cd df w = nI (cd (w - 8)) := by
  unfold lgR
  rw [if_neg (by omega), if_neg (by omega), if_neg (by omega), if_neg (by omega), if_neg (by omega), if_neg (by omega)]
theorem lgX_e {B : Nat → Int32} {b : Nat} {bt tol : Int32} {kd ls : Nat} {cd : Nat → Nat} {df : Int32} : upd (lgX B b bt tol (nI kd) (nI ls) cd 9) (b + 7) df = cpF B (lgR bt tol kd ls cd df) b 17 := by
  funext j
  show (if j = b + 7 then df else lgX B b bt tol (nI kd) (nI ls) cd 9 j) = _
  by_cases hj : b ≤ j ∧ j < b + 17
  · have er : cpF B (lgR bt tol kd ls cd df) b 17 j = lgR bt tol kd ls cd df (j - b) := if_pos hj
    rw [er]
    by_cases h7 : j = b + 7
    · rw [if_pos h7, show j - b = 7 by omega]; rfl
    rw [if_neg h7]
    by_cases h0 : j = b
    · rw [show j - b = 0 by omega]; unfold lgX; rw [if_pos h0]; rfl
    by_cases h1 : j = b + 1
    · rw [show j - b = 1 by omega]; unfold lgX; rw [if_neg h0, if_pos h1]; rfl
    by_cases h2 : j = b + 2
    · rw [show j - b = 2 by omega]; unfold lgX; rw [if_neg h0, if_neg h1, if_pos h2]; rfl
    by_cases h3 : j = b + 3
    · rw [show j - b = 3 by omega]; unfold lgX; rw [if_neg h0, if_neg h1, if_neg h2, if_pos h3]; rfl
    by_cases h4 : b + 4 ≤ j ∧ j < b + 7
    · rw [lgR_k (by omega) (by omega), show j - b - 4 = j - (b + 4) by omega]; unfold lgX; rw [if_neg h0, if_neg h1, if_neg h2, if_neg h3, if_pos h4]; rfl
    · rw [lgR_c (by omega), show j - b - 8 = j - (b + 8) by omega]; unfold lgX; rw [if_neg h0, if_neg h1, if_neg h2, if_neg h3, if_neg h4, if_pos (by omega)]
  · have er : cpF B (lgR bt tol kd ls cd df) b 17 j = B j := if_neg hj
    rw [er, if_neg (by omega)]
    unfold lgX
    rw [if_neg (by omega), if_neg (by omega), if_neg (by omega), if_neg (by omega), if_neg (by omega), if_neg (by omega)]
theorem mn6_1 {x : Int32} (h : 600 < x.toInt) : 600 = mn6 x := by
  unfold mn6
  rw [if_neg (fun q => by have q2 := Int32.lt_iff_toInt_lt.mp q; rw [show (600 : Int32).toInt = 600 by decide] at q2; omega)]
theorem mn6_2 {x : Int32} (h : x.toInt ≤ 600) : x = mn6 x := by
  unfold mn6
  by_cases q : x < 600
  · rw [if_pos q]
  · rw [if_neg q]
    have q2 : ¬ x.toInt < (600 : Int32).toInt := fun z => q (Int32.lt_iff_toInt_lt.mpr z)
    rw [show (600 : Int32).toInt = 600 by decide] at q2
    exact Int32.toInt_inj.mp (by rw [show (600 : Int32).toInt = 600 by decide]; omega)
/-- a row that is copied over another one -/
theorem cp_mk {D S R N L D2 S2 R2 N2 L2 : Nat → Int32} {K K2 : Int32} {M : Nat → Int32} (h : ∀ x, x < 578 → M x = mkM D2 S2 R2 N2 K2 L2 x) : cpF (mkM D S R N K L) M 0 578 = mkM D2 S2 R2 N2 K2 L2 := by
  funext x
  unfold cpF
  by_cases hx : x < 578
  · rw [if_pos (by omega), Nat.sub_zero]; exact h x hx
  · rw [if_neg (by omega), mkM_far (by omega), mkM_far (by omega)]
