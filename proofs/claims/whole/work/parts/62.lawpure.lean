/-! ===== the law: what stands on both sides, in pure words ===== -/
theorem pm_ac (a b c : va_W) : (a ++ (b ++ c)).Perm (b ++ (a ++ c)) := by
  rw [← List.append_assoc, ← List.append_assoc]
  exact List.Perm.append_right c List.perm_append_comm
theorem pm_4 (a b c d : va_W) : ((a ++ b) ++ (c ++ d)).Perm ((a ++ c) ++ (b ++ d)) := by
  rw [List.append_assoc, List.append_assoc]
  exact List.Perm.append_left a (pm_ac b c d)
/-- a list by its places -/
theorem pm_is {ws w : va_W} (n : Nat) (is : List Nat) (h : is.isPerm (List.range n) = true) (hn : ws.length = n) (hs : is.map (fun i => ws[i]?) = w.map some) : ws.Perm w := by
  subst hn
  have h1 : (is.map (fun i => ws[i]?)).Perm ((List.range ws.length).map (fun i => ws[i]?)) := (List.isPerm_iff.mp h).map _
  have h2 : (List.range ws.length).map (fun i => ws[i]?) = ws.map some := by
    refine List.ext_getElem? (fun k => ?_)
    by_cases hk : k < ws.length
    · rw [List.getElem?_map, List.getElem?_map, List.getElem?_range hk, List.getElem?_eq_getElem hk]
      simp [List.getElem?_eq_getElem hk]
    · rw [List.getElem?_eq_none (by simp; omega), List.getElem?_eq_none (by simp; omega)]
  rw [hs, h2] at h1
  have h3 := h1.filterMap id
  simp only [List.filterMap_map] at h3
  have e : ∀ l : va_W, List.filterMap (id ∘ some) l = l := fun l => by
    induction l with
    | nil => rfl
    | cons a l ih => simp
  rw [e, e] at h3
  exact h3.symm
/-! the history's four places -/
def hwL (sl : Nat → va_W) : va_W := sl 0 ++ (sl 1 ++ (sl 2 ++ sl 3))
def hoL (sl : Nat → va_W) (k : Nat) : va_W := if k = 0 then sl 1 ++ (sl 2 ++ sl 3) else if k = 1 then sl 0 ++ (sl 2 ++ sl 3) else if k = 2 then sl 0 ++ (sl 1 ++ sl 3) else sl 0 ++ (sl 1 ++ sl 2)
def upW (sl : Nat → va_W) (k : Nat) (nv : va_W) : Nat → va_W := fun j => if j = k then nv else sl j
theorem upW_self {sl : Nat → va_W} {k : Nat} {nv : va_W} : upW sl k nv k = nv := if_pos rfl
theorem upW_ne {sl : Nat → va_W} {k j : Nat} {nv : va_W} (h : j ≠ k) : upW sl k nv j = sl j := if_neg h
theorem hw_k {sl : Nat → va_W} {k : Nat} (hk : k < 4) : (hwL sl).Perm (sl k ++ hoL sl k) := by
  unfold hwL hoL
  rcases (show k = 0 ∨ k = 1 ∨ k = 2 ∨ k = 3 by omega) with e | e | e | e <;> subst e
  · exact List.Perm.refl _
  · exact pm_ac _ _ _
  · exact (List.Perm.append_left _ (pm_ac _ _ _)).trans (pm_ac _ _ _)
  · have h1 : sl 0 ++ (sl 1 ++ (sl 2 ++ sl 3)) = (sl 0 ++ (sl 1 ++ sl 2)) ++ sl 3 := by simp [List.append_assoc]
    rw [h1]
    exact List.perm_append_comm
theorem ho_up {sl : Nat → va_W} {k : Nat} {nv : va_W} (hk : k < 4) : hoL (upW sl k nv) k = hoL sl k := by
  unfold hoL
  rcases (show k = 0 ∨ k = 1 ∨ k = 2 ∨ k = 3 by omega) with e | e | e | e <;> subst e <;> rfl
theorem hw_up {sl : Nat → va_W} {k : Nat} {nv : va_W} (hk : k < 4) : (hwL (upW sl k nv)).Perm (nv ++ hoL sl k) := by
  have h := hw_k (sl := upW sl k nv) hk
  rw [upW_self, ho_up hk] at h
  exact h
/-! ways of the tail: its part in a call, the rest -/
theorem tw_0 {sl : Nat → va_W} {sn : va_W} : (hwL sl ++ sn).Perm ([] ++ (hwL sl ++ sn)) := List.Perm.refl _
theorem tw_k {sl : Nat → va_W} {sn : va_W} {k : Nat} (hk : k < 4) : (hwL sl ++ sn).Perm (sl k ++ (hoL sl k ++ sn)) := by
  rw [← List.append_assoc]
  exact List.Perm.append_right sn (hw_k hk)
theorem tw_up {sl : Nat → va_W} {sn nv : va_W} {k : Nat} (hk : k < 4) : (hwL (upW sl k nv) ++ sn).Perm (nv ++ (hoL sl k ++ sn)) := by
  rw [← List.append_assoc]
  exact List.Perm.append_right sn (hw_up hk)
theorem tw_s {sl : Nat → va_W} {sn : va_W} : (hwL sl ++ sn).Perm (sn ++ hwL sl) := List.perm_append_comm
theorem tw_sk {sl : Nat → va_W} {sn : va_W} {k : Nat} (hk : k < 4) : (hwL sl ++ sn).Perm ((sn ++ sl k) ++ hoL sl k) := by
  rw [List.append_assoc]
  exact List.perm_append_comm.trans (List.Perm.append_left sn (hw_k hk))
theorem tw_sup {sl : Nat → va_W} {sn nv : va_W} {k : Nat} (hk : k < 4) : (hwL (upW sl k nv) ++ sn).Perm ((sn ++ nv) ++ hoL sl k) := by
  rw [List.append_assoc]
  exact List.perm_append_comm.trans (List.Perm.append_left sn (hw_up hk))
/-- a world's part in a call ahead of all else -/
theorem pm_in {w E wc0 wr0 T tc tr : va_W} (hp : w.Perm (E ++ T)) (hE : E.Perm (wc0 ++ wr0)) (hT : T.Perm (tc ++ tr)) : w.Perm ((wc0 ++ tc) ++ (wr0 ++ tr)) := hp.trans ((hE.append hT).trans (pm_4 _ _ _ _))
theorem pm_out {E wc0 wr0 T tc tr : va_W} (hE : E.Perm (wc0 ++ wr0)) (hT : T.Perm (tc ++ tr)) : ((wc0 ++ tc) ++ (wr0 ++ tr)).Perm (E ++ T) := ((hE.append hT).trans (pm_4 _ _ _ _)).symm
theorem pm_v {w wc wr v : va_W} (h : w.Perm (wc ++ wr)) : (w ++ v).Perm (wc ++ (wr ++ v)) := by
  rw [← List.append_assoc]
  exact List.Perm.append_right v h
/-! ===== a state in order: of at most n frames ===== -/
def gd (n : Nat) (D S R N G L : Nat → Int32) (fr : Nat) : Prop := fr ≤ n ∧ (lvB D ∧ lvB S ∧ lvB R) ∧ (9 ≤ (N 0).toInt ∧ (N 0).toInt ≤ 600) ∧ (0 ≤ (N 1).toInt ∧ (N 1).toInt ≤ 240) ∧ (0 ≤ (N 3).toInt ∧ (N 3).toInt ≤ 600) ∧ N 4 = nI fr ∧ LR G fr L
theorem gd_mono {n n2 : Nat} {D S R N G L : Nat → Int32} {fr : Nat} (h : gd n D S R N G L fr) (hn : n ≤ n2) : gd n2 D S R N G L fr := ⟨Nat.le_trans h.1 hn, h.2⟩
theorem gd_D {n : Nat} {D D2 S R N G L : Nat → Int32} {fr : Nat} (h : gd n D S R N G L fr) (hD : lvB D2) : gd n D2 S R N G L fr := ⟨h.1, ⟨hD, h.2.1.2⟩, h.2.2⟩
theorem gd_N {n : Nat} {D S R N G L : Nat → Int32} {fr : Nat} (h : gd n D S R N G L fr) {Wt : Int} {v : Int32} (hs : snG Wt v.toInt) : gd n D S R (upd N Wt.toNat v) G L fr := by
  obtain ⟨h1, h2, h3, h4, h5, h6, h7⟩ := h
  obtain ⟨hw, ha, hb⟩ := hs
  rcases (show Wt = 0 ∨ Wt = 1 ∨ Wt = 2 by omega) with e | e | e <;> subst e
  · have a : (9 : Int) ≤ v.toInt := ha
    have b : v.toInt ≤ 600 := hb
    exact ⟨h1, h2, ⟨a, b⟩, h4, h5, h6, h7⟩
  · have a : (0 : Int) ≤ v.toInt := ha
    have b : v.toInt ≤ 240 := hb
    exact ⟨h1, h2, h3, ⟨a, b⟩, h5, h6, h7⟩
  · exact ⟨h1, h2, h3, h4, h5, h6, h7⟩
theorem gd_Ls {n : Nat} {D S R N G L : Nat → Int32} {fr : Nat} (h : gd n D S R N G L fr) : ∃ Ls : Nat, N 1 = nI Ls ∧ Ls ≤ 240 := ⟨(N 1).toInt.toNat, x_toNat rfl h.2.2.2.1.1, by have := h.2.2.2.1; omega⟩
theorem gd_sp {n : Nat} {D S R N G L : Nat → Int32} {fr : Nat} (h : gd n D S R N G L fr) : (N 0 + N 3).toInt = (N 0).toInt + (N 3).toInt ∧ 9 ≤ (N 0 + N 3).toInt := by
  obtain ⟨-, -, h3, -, h5, -⟩ := h
  have e : (N 0 + N 3).toInt = (N 0).toInt + (N 3).toInt := x_addI rfl rfl (by omega) (by omega)
  exact ⟨e, by omega⟩
theorem gd_frame {n : Nat} {D S R N G L R2 row : Nat → Int32} {fr Ls kd ls : Nat} (h : gd n D S R N G L fr) (hL : Ls ≤ 240) (hk : kd = 0 ∨ (kd = 1 ∧ 594 ≤ (N 0 + N 3).toInt)) (hR : lvB R2) :
    gd (n + 1) D (apS D S (sfC kd D S Ls (N 0 + N 3).toInt)) R2 (cfN N (sfB (sfC kd D S Ls (N 0 + N 3).toInt)) kd ls) (lgP G fr row 17) (lgM L (min fr 8) row) (fr + 1) := by
  have hsp := gd_sp h
  obtain ⟨h1, h2, h3, h4, h5, h6, h7⟩ := h
  have hb := sfB_b (sfC kd D S Ls (N 0 + N 3).toInt)
  have hle : (sfB (sfC kd D S Ls (N 0 + N 3).toInt)).toInt ≤ (N 0 + N 3).toInt := by
    rcases hk with z | ⟨z, z2⟩ <;> subst z
    · rw [sfB_0]; exact ntV_hit h2.1 h2.2.1 hL hsp.2
    · rw [sfB_1, show (594 : Int32).toInt = 594 by decide]; exact z2
  have e : (N 0 + N 3 - sfB (sfC kd D S Ls (N 0 + N 3).toInt)).toInt = (N 0 + N 3).toInt - (sfB (sfC kd D S Ls (N 0 + N 3).toInt)).toInt := x_subI rfl rfl (by omega) (by omega)
  refine ⟨by omega, ⟨h2.1, lvB_ap h2.1 h2.2.1 _, hR⟩, h3, h4, ?_, ?_, LR_s h7⟩
  · exact mn6_b (by omega)
  · show N 4 + 1 = nI (fr + 1)
    rw [h6]
    exact nI_1 fr
theorem gd_0 : gd 0 (fun _ => 0) (fun _ => 0) (fun _ => 0) (upd (fun _ => 0) 0 200) (fun _ => 0) (fun _ => 0) 0 := ⟨Nat.le_refl 0, ⟨lvB_0, lvB_0, lvB_0⟩, by decide, by decide, by decide, rfl, LR_0⟩
/-! ===== the history: the class's ring and the model's rows ===== -/
def HI (cI : ClassId) (n k hcn : Nat) (hf : Nat → Option Nat) (sl : Nat → va_W) (Hs : Nat → Int32) : Prop := k < 4 ∧ hcn ≤ 4 ∧ (∀ j, j < 4 → hsP cI hf j (sl j)) ∧
  ∀ j, j < hcn → ∃ (a9 : Nat → Nat) (D S R N G L : Nat → Int32) (fr : Nat), gd n D S R N G L fr ∧ hf ((k + 4 - hcn + j) % 4) = some (a9 0) ∧ sl ((k + 4 - hcn + j) % 4) = stW cI a9 D S R N G ∧ ∀ q, q < 578 → Hs (578 * j + q) = mkM D S R N (nI (min fr 8)) L q
theorem HI_mono {cI : ClassId} {n n2 k hcn : Nat} {hf : Nat → Option Nat} {sl : Nat → va_W} {Hs : Nat → Int32} (h : HI cI n k hcn hf sl Hs) (hn : n ≤ n2) : HI cI n2 k hcn hf sl Hs := by
  refine ⟨h.1, h.2.1, h.2.2.1, fun j hj => ?_⟩
  obtain ⟨a9, D, S, R, N, G, L, fr, g1, g2⟩ := h.2.2.2 j hj
  exact ⟨a9, D, S, R, N, G, L, fr, gd_mono g1 hn, g2⟩
theorem HI_0 {cI : ClassId} : HI cI 0 0 0 (fun _ => none) (fun _ => []) (fun _ => 0) := ⟨by decide, by decide, fun j _ => Or.inl ⟨rfl, rfl⟩, fun j hj => absurd hj (Nat.not_lt_zero j)⟩
theorem HI_rec {cI : ClassId} {n k hcn : Nat} {hf hf2 : Nat → Option Nat} {sl : Nat → va_W} {Hs D S R N G L : Nat → Int32} {fr : Nat} {nv : va_W} (h : HI cI n k hcn hf sl Hs) (hg : gd n D S R N G L fr) (hq : hsQ cI hf hf2 k D S R N G nv) :
    HI cI n ((k + 1) % 4) (min (hcn + 1) 4) hf2 (upW sl k nv) (rcH Hs (mkM D S R N (nI (min fr 8)) L) hcn) := by
  obtain ⟨hk, hc, hs, hh⟩ := h
  obtain ⟨a9, rfl, rfl⟩ := hq
  refine ⟨by omega, by omega, fun j hj => ?_, fun j hj => ?_⟩
  · by_cases e : j = k
    · subst e
      exact Or.inr ⟨a9, D, S, R, N, G, va_up_self _ _ _, upW_self⟩
    · have e1 : va_up hf k (some (a9 0)) j = hf j := va_up_ne _ _ e
      have e2 : upW sl k (stW cI a9 D S R N G) j = sl j := upW_ne e
      rcases hs j hj with ⟨z1, z2⟩ | ⟨b9, D2, S2, R2, N2, G2, z1, z2⟩
      · exact Or.inl ⟨e1.trans z1, e2.trans z2⟩
      · exact Or.inr ⟨b9, D2, S2, R2, N2, G2, e1.trans z1, e2.trans z2⟩
  · by_cases e : j + 1 = min (hcn + 1) 4
    · have ei : ((k + 1) % 4 + 4 - min (hcn + 1) 4 + j) % 4 = k := by omega
      rw [ei]
      refine ⟨a9, D, S, R, N, G, L, fr, hg, va_up_self _ _ _, upW_self, fun q hq => ?_⟩
      unfold rcH
      by_cases h4 : hcn = 4
      · rw [if_pos h4]
        unfold cpF
        rw [if_pos (by omega)]
        exact congrArg _ (by omega)
      · rw [if_neg h4]
        unfold cpF
        rw [if_pos (by omega)]
        exact congrArg _ (by omega)
    · by_cases h4 : hcn = 4
      · obtain ⟨b9, D2, S2, R2, N2, G2, L2, fr2, g1, g2, g3, g4⟩ := hh (j + 1) (by omega)
        have ei : ((k + 1) % 4 + 4 - min (hcn + 1) 4 + j) % 4 = (k + 4 - hcn + (j + 1)) % 4 := by omega
        have en : (k + 4 - hcn + (j + 1)) % 4 ≠ k := by omega
        rw [ei]
        refine ⟨b9, D2, S2, R2, N2, G2, L2, fr2, g1, (va_up_ne _ _ en).trans g2, (upW_ne en).trans g3, fun q hq => ?_⟩
        rw [← g4 q hq]
        unfold rcH
        rw [if_pos h4]
        unfold cpF
        rw [if_neg (by omega)]
        unfold shF
        rw [if_pos (by omega)]
        exact congrArg Hs (by omega)
      · obtain ⟨b9, D2, S2, R2, N2, G2, L2, fr2, g1, g2, g3, g4⟩ := hh j (by omega)
        have ei : ((k + 1) % 4 + 4 - min (hcn + 1) 4 + j) % 4 = (k + 4 - hcn + j) % 4 := by omega
        have en : (k + 4 - hcn + j) % 4 ≠ k := by omega
        rw [ei]
        refine ⟨b9, D2, S2, R2, N2, G2, L2, fr2, g1, (va_up_ne _ _ en).trans g2, (upW_ne en).trans g3, fun q hq => ?_⟩
        rw [← g4 q hq]
        unfold rcH
        rw [if_neg h4]
        unfold cpF
        rw [if_neg (by omega)]
theorem HI_undo {cI : ClassId} {n k hcn : Nat} {hf : Nat → Option Nat} {sl : Nat → va_W} {Hs : Nat → Int32} (h : HI cI n k hcn hf sl Hs) (h1 : 1 ≤ hcn) : HI cI n ((k + 3) % 4) (hcn - 1) hf sl Hs ∧
    ∃ (a9 : Nat → Nat) (D S R N G L : Nat → Int32) (fr : Nat), gd n D S R N G L fr ∧ hf ((k + 3) % 4) = some (a9 0) ∧ sl ((k + 3) % 4) = stW cI a9 D S R N G ∧ ∀ q, q < 578 → Hs (578 * (hcn - 1) + q) = mkM D S R N (nI (min fr 8)) L q := by
  obtain ⟨hk, hc, hs, hh⟩ := h
  refine ⟨⟨by omega, by omega, hs, fun j hj => ?_⟩, ?_⟩
  · have e := hh j (by omega)
    have ei : ((k + 3) % 4 + 4 - (hcn - 1) + j) % 4 = (k + 4 - hcn + j) % 4 := by omega
    rw [ei]
    exact e
  · have e := hh (hcn - 1) (by omega)
    have ei : (k + 4 - hcn + (hcn - 1)) % 4 = (k + 3) % 4 := by omega
    rw [ei] at e
    exact e
/-! ===== the snapshot ===== -/
def SI (cI : ClassId) (n : Nat) (sv : Value) (sn : va_W) (fl : Int32) (ss : Nat → Int32) : Prop := (sv = .null ∧ sn = [] ∧ fl = 0) ∨
  ∃ (a9 : Nat → Nat) (D S R N G L : Nat → Int32) (fr : Nat), gd n D S R N G L fr ∧ sv = .ref (a9 0) ∧ sn = stW cI a9 D S R N G ∧ fl = 1 ∧ ∀ q, q < 578 → ss q = mkM D S R N (nI (min fr 8)) L q
theorem SI_mono {cI : ClassId} {n n2 : Nat} {sv : Value} {sn : va_W} {fl : Int32} {ss : Nat → Int32} (h : SI cI n sv sn fl ss) (hn : n ≤ n2) : SI cI n2 sv sn fl ss := by
  rcases h with h | ⟨a9, D, S, R, N, G, L, fr, g1, g2⟩
  · exact Or.inl h
  · exact Or.inr ⟨a9, D, S, R, N, G, L, fr, gd_mono g1 hn, g2⟩
theorem SI_keep {cI : ClassId} {n : Nat} {a9 : Nat → Nat} {ss D S R N G L : Nat → Int32} {fr : Nat} (hg : gd n D S R N G L fr) : SI cI n (.ref (a9 0)) (stW cI a9 D S R N G) 1 (cpF ss (mkM D S R N (nI (min fr 8)) L) 0 578) :=
  Or.inr ⟨a9, D, S, R, N, G, L, fr, hg, rfl, rfl, rfl, fun q hq => by
    unfold cpF
    rw [if_pos (by omega), Nat.sub_zero]⟩
