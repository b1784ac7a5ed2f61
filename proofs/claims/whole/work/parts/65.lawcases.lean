/-! ===== the law's cases ===== -/
/-- what holds at the loop's head: both sides are in order and tell the same -/
def INV (cI cC cS : ClassId) (n x mm : Nat) (w v : va_W) : Prop := ∃ (D1 S1 R1 N1 G1 L1 : Nat → Int32) (fr k hcn : Nat) (hf : Nat → Option Nat) (sl : Nat → va_W) (Hs : Nat → Int32) (sv : Value) (sn : va_W) (fl : Int32) (ss : Nat → Int32) (ln : Nat) (tx : Nat → Int32), gd n D1 S1 R1 N1 G1 L1 fr ∧ HI cI n k hcn hf sl Hs ∧ SI cI n sv sn fl ss ∧ ln ≤ 60 ∧ XS cI cC cS x D1 S1 R1 N1 G1 k hcn hf sl sv sn ln tx w ∧ MS cI cC mm D1 S1 R1 N1 (nI (min fr 8)) L1 hcn Hs fl ss ln tx v
theorem INV_mono {cI cC cS : ClassId} {n x mm : Nat} {w v : va_W} (h : INV cI cC cS n x mm w v) : INV cI cC cS (n + 1) x mm w v := by
  obtain ⟨D1, S1, R1, N1, G1, L1, fr, k, hcn, hf, sl, Hs, sv, sn, fl, ss, ln, tx, hg, hH, hSI, hln, hX, hM⟩ := h
  exact ⟨_, _, _, _, _, _, _, _, _, _, _, _, _, _, _, _, _, _, gd_mono hg (Nat.le_succ n), HI_mono hH (Nat.le_succ n), SI_mono hSI (Nat.le_succ n), hln, hX, hM⟩
theorem ch_nar (x : Int32) : vp_nar .char (x.toUInt32 % 65536).toInt32 = (x.toUInt32 % 65536).toInt32 := by
  show ((x.toUInt32 % 65536).toInt32.toUInt32.toUInt16.toUInt32).toInt32 = _
  refine congrArg UInt32.toInt32 (UInt32.toNat_inj.mp ?_)
  show ((x.toUInt32 % 65536).toUInt16.toUInt32).toNat = _
  rw [UInt16.toNat_toUInt32, UInt32.toNat_toUInt16, UInt32.toNat_mod]
  show x.toUInt32.toNat % 65536 % 65536 = x.toUInt32.toNat % 65536
  exact Nat.mod_mod _ _
/-- an argument out of the script -/
theorem lw_arg {p : Program} {l : Launch} {e : Env} {s : State} {m : MethodId} {below : List Frame} {meth : Method} {c : Code} {H : Heap} {locs : List Loc} {cells slots : Nat} {Q : State → Prop} {ls : Array Slot} {b L : Nat} {xs : Nat → Int32} {Dg : va_G} {A : Nat → Prop} {cI cC cS : ClassId} {tt : Nat → Nat} {i pc : Nat} {rest : List Value} {z : Int} (C0 : LCtx p s m c b L xs Dg A cI cC cS tt) (hS : va_S A s.heap H locs) (h0 : ls[0]? = some (.val (.ref b))) (h3 : ls[3]? = some (.val (.int (nI i)))) (k : Nat) (hik : i + k < L) (hz : Int32.ofInt z = nI k)
    (d0 : decode code pc = .ok (.aload_n 0, 1)) (d1 : decode code (pc + 1) = .ok (.iload_n 3, 1)) (d2 : decode code (pc + 2) = .ok (.iconst z, 1)) (d3 : decode code (pc + 3) = .ok (.iadd, 1)) (d4 : decode code (pc + 4) = .ok (.iaload, 1))
    (kk : W p l e room_1 s m #[Value.ref b] below meth c H locs cells slots Q (F0 m (pc + 5) ls (.int (xs (i + k)) :: rest))) : W p l e room_1 s m #[Value.ref b] below meth c H locs cells slots Q (F0 m pc ls rest) := by
  obtain ⟨hx, hb, -, -, -, -, -, -, hX, hbl, hbA, hL⟩ := C0
  refine lv_aload_n hx hb d0 rfl h0 ?_
  refine lv_iload_n hx hb d1 rfl h3 ?_
  refine lv_iconst (v := nI k) hx hb d2 hz ?_
  refine lv_iadd hx hb d3 ?_
  refine x_eqi (nI_add i k) ?_
  refine va_sld hx hb hX hbl hbA hS (vp_in_nI hik (by omega)) d4 ?_
  rw [nI_clamp (by omega)]
  exact kk
set_option maxHeartbeats 4000000 in
set_option maxRecDepth 100000 in
theorem cs_set {p : Program} {l : Launch} {e : Env} {s : State} {m : MethodId} {below : List Frame} {meth : Method} {c : Code} {H : Heap} {locs : List Loc} {cells slots : Nat} {Q : State → Prop} {ls : Array Slot} {b L : Nat} {xs : Nat → Int32} {Dg : va_G} {A : Nat → Prop} {cI cC cS : ClassId} {tt : Nat → Nat} {w v : va_W} {x mm n i : Nat} (C0 : LCtx p s m c b L xs Dg A cI cC cS tt) (hI : INV cI cC cS n x mm w v) (hn : n < 512) (hl : lv_has ls 4 [(0, .ref b), (1, .ref x), (2, .ref mm), (3, .int (nI i))]) (hi : i + 6 ≤ L) (hP : va_P Dg vwCl (w ++ v) H) (hD : va_D A (w ++ v)) (hS : va_S A s.heap H locs) (hc9 : cells + 9 ≤ 600000) (hs9 : slots + 585 ≤ 7302250) (kk : ∀ (w1 v1 : va_W) (H1 : Heap) (locs1 : List Loc), INV cI cC cS (n + 1) x mm w1 v1 → va_P Dg vwCl (w1 ++ v1) H1 → va_D A (w1 ++ v1) → va_S A s.heap H1 locs1 → W p l e room_1 s m #[Value.ref b] below meth c H1 locs1 (cells + 9) (slots + 585) Q (F0 m 796 ls [])) : W p l e room_1 s m #[Value.ref b] below meth c H locs cells slots Q (F0 m 136 ls []) := by
  have hx := C0.1
  have hb := C0.2.1
  obtain ⟨D1, S1, R1, N1, G1, L1, fr, k, hcn, hf, sl, Hs, sv, sn, fl, ss, ln, tx, hg, hH, hSI, hln, hX, hM⟩ := hI
  have hk := hH.1
  have hcn4 := hH.2.1
  have hsk := hH.2.2.1 k hH.1
  have hlD := hg.2.1.1
  have hlS := hg.2.1.2.1
  have hlR := hg.2.1.2.2
  have hN4 := hg.2.2.2.2.2.1
  have hLR := hg.2.2.2.2.2.2
  have hfr : fr < 100000 := by have := hg.1; omega
  obtain ⟨Ls, hLs, hLs2⟩ := gd_Ls hg
  have hsp := (gd_sp hg).2
  refine lv_aload_n hx hb dL_law_136 rfl (lv_at hl 1 rfl) ?_
  refine lw_arg C0 hS (lv_at hl 0 rfl) (lv_at hl 3 rfl) 1 (by omega) (show Int32.ofInt 1 = nI 1 by decide) dL_law_137 dL_law_138 dL_law_139 dL_law_140 dL_law_141 ?_
  refine lw_arg C0 hS (lv_at hl 0 rfl) (lv_at hl 3 rfl) 2 (by omega) (show Int32.ofInt 2 = nI 2 by decide) dL_law_142 dL_law_143 dL_law_144 dL_law_145 dL_law_146 ?_
  refine lw_arg C0 hS (lv_at hl 0 rfl) (lv_at hl 3 rfl) 3 (by omega) (show Int32.ofInt 3 = nI 3 by decide) dL_law_147 dL_law_148 dL_law_149 dL_law_150 dL_law_151 ?_
  refine lx_set C0 hl.1 hX (xs (i + 1)) (xs (i + 2)) (xs (i + 3)) hk hcn4 hsk hk hP hD hS hc9 hs9 (fun w H locs f0 hX hP hD hS => ?_) (fun hf2 nv w H locs f0 f1 hX hP hD hS => ?_)
  · skip
    refine lv_aload_n hx hb dL_law_155 rfl (lv_at hl 2 rfl) ?_
    refine lw_arg C0 hS (lv_at hl 0 rfl) (lv_at hl 3 rfl) 1 (by omega) (show Int32.ofInt 1 = nI 1 by decide) dL_law_156 dL_law_157 dL_law_158 dL_law_159 dL_law_160 ?_
    refine lw_arg C0 hS (lv_at hl 0 rfl) (lv_at hl 3 rfl) 2 (by omega) (show Int32.ofInt 2 = nI 2 by decide) dL_law_161 dL_law_162 dL_law_163 dL_law_164 dL_law_165 ?_
    refine lw_arg C0 hS (lv_at hl 0 rfl) (lv_at hl 3 rfl) 3 (by omega) (show Int32.ofInt 3 = nI 3 by decide) dL_law_166 dL_law_167 dL_law_168 dL_law_169 dL_law_170 ?_
    refine lm_set C0 hl.1 hM (xs (i + 1)) (xs (i + 2)) (xs (i + 3)) hcn4 (x_comm.1 hP) (x_commD.1 hD) hS (by omega) (by omega) (fun v H locs g0 hM hP hD hS => ?_) (fun v H locs g0 hM hP hD hS => ?_)
    · skip
      refine lv_icmp_eq (tgt := 796) hx hb dL_law_174 (by decide) (fun _ => ?_) (fun z => absurd rfl z)
      refine W.widen (k := cells + 9) (n := slots + 585) (by omega) (by omega) ?_
      exact kk _ _ _ _ ⟨_, _, _, _, _, _, _, _, _, _, _, _, _, _, _, _, _, _, gd_mono hg (Nat.le_succ n), HI_mono hH (Nat.le_succ n), SI_mono hSI (Nat.le_succ n), hln, hX, hM⟩ (x_comm.1 hP) (x_commD.1 hD) hS
    · skip
      exact absurd g0 f0
  · skip
    refine lv_aload_n hx hb dL_law_155 rfl (lv_at hl 2 rfl) ?_
    refine lw_arg C0 hS (lv_at hl 0 rfl) (lv_at hl 3 rfl) 1 (by omega) (show Int32.ofInt 1 = nI 1 by decide) dL_law_156 dL_law_157 dL_law_158 dL_law_159 dL_law_160 ?_
    refine lw_arg C0 hS (lv_at hl 0 rfl) (lv_at hl 3 rfl) 2 (by omega) (show Int32.ofInt 2 = nI 2 by decide) dL_law_161 dL_law_162 dL_law_163 dL_law_164 dL_law_165 ?_
    refine lw_arg C0 hS (lv_at hl 0 rfl) (lv_at hl 3 rfl) 3 (by omega) (show Int32.ofInt 3 = nI 3 by decide) dL_law_166 dL_law_167 dL_law_168 dL_law_169 dL_law_170 ?_
    refine lm_set C0 hl.1 hM (xs (i + 1)) (xs (i + 2)) (xs (i + 3)) hcn4 (x_comm.1 hP) (x_commD.1 hD) hS (by omega) (by omega) (fun v H locs g0 hM hP hD hS => ?_) (fun v H locs g0 hM hP hD hS => ?_)
    · skip
      exact absurd f1 g0
    · skip
      refine lv_icmp_eq (tgt := 796) hx hb dL_law_174 (by decide) (fun _ => ?_) (fun z => absurd rfl z)
      refine W.widen (k := cells + 9) (n := slots + 585) (by omega) (by omega) ?_
      exact kk _ _ _ _ ⟨_, _, _, _, _, _, _, _, _, _, _, _, _, _, _, _, _, _, gd_mono (gd_D hg (lvB_pt hlD f1.2.1 _ _)) (Nat.le_succ n), HI_mono (HI_rec hH hg f0) (Nat.le_succ n), SI_mono hSI (Nat.le_succ n), hln, hX, hM⟩ (x_comm.1 hP) (x_commD.1 hD) hS
set_option maxHeartbeats 4000000 in
set_option maxRecDepth 100000 in
theorem cs_fill {p : Program} {l : Launch} {e : Env} {s : State} {m : MethodId} {below : List Frame} {meth : Method} {c : Code} {H : Heap} {locs : List Loc} {cells slots : Nat} {Q : State → Prop} {ls : Array Slot} {b L : Nat} {xs : Nat → Int32} {Dg : va_G} {A : Nat → Prop} {cI cC cS : ClassId} {tt : Nat → Nat} {w v : va_W} {x mm n i : Nat} (C0 : LCtx p s m c b L xs Dg A cI cC cS tt) (hI : INV cI cC cS n x mm w v) (hn : n < 512) (hl : lv_has ls 4 [(0, .ref b), (1, .ref x), (2, .ref mm), (3, .int (nI i))]) (hi : i + 6 ≤ L) (hP : va_P Dg vwCl (w ++ v) H) (hD : va_D A (w ++ v)) (hS : va_S A s.heap H locs) (hc9 : cells + 9 ≤ 600000) (hs9 : slots + 585 ≤ 7302250) (kk : ∀ (w1 v1 : va_W) (H1 : Heap) (locs1 : List Loc), INV cI cC cS (n + 1) x mm w1 v1 → va_P Dg vwCl (w1 ++ v1) H1 → va_D A (w1 ++ v1) → va_S A s.heap H1 locs1 → W p l e room_1 s m #[Value.ref b] below meth c H1 locs1 (cells + 9) (slots + 585) Q (F0 m 796 ls [])) : W p l e room_1 s m #[Value.ref b] below meth c H locs cells slots Q (F0 m 179 ls []) := by
  have hx := C0.1
  have hb := C0.2.1
  obtain ⟨D1, S1, R1, N1, G1, L1, fr, k, hcn, hf, sl, Hs, sv, sn, fl, ss, ln, tx, hg, hH, hSI, hln, hX, hM⟩ := hI
  have hk := hH.1
  have hcn4 := hH.2.1
  have hsk := hH.2.2.1 k hH.1
  have hlD := hg.2.1.1
  have hlS := hg.2.1.2.1
  have hlR := hg.2.1.2.2
  have hN4 := hg.2.2.2.2.2.1
  have hLR := hg.2.2.2.2.2.2
  have hfr : fr < 100000 := by have := hg.1; omega
  obtain ⟨Ls, hLs, hLs2⟩ := gd_Ls hg
  have hsp := (gd_sp hg).2
  refine lv_aload_n hx hb dL_law_179 rfl (lv_at hl 1 rfl) ?_
  refine lw_arg C0 hS (lv_at hl 0 rfl) (lv_at hl 3 rfl) 1 (by omega) (show Int32.ofInt 1 = nI 1 by decide) dL_law_180 dL_law_181 dL_law_182 dL_law_183 dL_law_184 ?_
  refine lw_arg C0 hS (lv_at hl 0 rfl) (lv_at hl 3 rfl) 2 (by omega) (show Int32.ofInt 2 = nI 2 by decide) dL_law_185 dL_law_186 dL_law_187 dL_law_188 dL_law_189 ?_
  refine lw_arg C0 hS (lv_at hl 0 rfl) (lv_at hl 3 rfl) 3 (by omega) (show Int32.ofInt 3 = nI 3 by decide) dL_law_190 dL_law_191 dL_law_192 dL_law_193 dL_law_194 ?_
  refine lw_arg C0 hS (lv_at hl 0 rfl) (lv_at hl 3 rfl) 4 (by omega) (show Int32.ofInt 4 = nI 4 by decide) dL_law_195 dL_law_196 dL_law_197 dL_law_198 dL_law_199 ?_
  refine lw_arg C0 hS (lv_at hl 0 rfl) (lv_at hl 3 rfl) 5 (by omega) (show Int32.ofInt 5 = nI 5 by decide) dL_law_200 dL_law_201 dL_law_202 dL_law_203 dL_law_204 ?_
  refine lx_fill C0 hl.1 hX (xs (i + 1)) (xs (i + 2)) (xs (i + 3)) (xs (i + 4)) (xs (i + 5)) hk hcn4 hsk hk hP hD hS hc9 hs9 (fun w H locs f0 hX hP hD hS => ?_) (fun hf2 nv w H locs f0 f1 hX hP hD hS => ?_)
  · skip
    refine lv_aload_n hx hb dL_law_208 rfl (lv_at hl 2 rfl) ?_
    refine lw_arg C0 hS (lv_at hl 0 rfl) (lv_at hl 3 rfl) 1 (by omega) (show Int32.ofInt 1 = nI 1 by decide) dL_law_209 dL_law_210 dL_law_211 dL_law_212 dL_law_213 ?_
    refine lw_arg C0 hS (lv_at hl 0 rfl) (lv_at hl 3 rfl) 2 (by omega) (show Int32.ofInt 2 = nI 2 by decide) dL_law_214 dL_law_215 dL_law_216 dL_law_217 dL_law_218 ?_
    refine lw_arg C0 hS (lv_at hl 0 rfl) (lv_at hl 3 rfl) 3 (by omega) (show Int32.ofInt 3 = nI 3 by decide) dL_law_219 dL_law_220 dL_law_221 dL_law_222 dL_law_223 ?_
    refine lw_arg C0 hS (lv_at hl 0 rfl) (lv_at hl 3 rfl) 4 (by omega) (show Int32.ofInt 4 = nI 4 by decide) dL_law_224 dL_law_225 dL_law_226 dL_law_227 dL_law_228 ?_
    refine lw_arg C0 hS (lv_at hl 0 rfl) (lv_at hl 3 rfl) 5 (by omega) (show Int32.ofInt 5 = nI 5 by decide) dL_law_229 dL_law_230 dL_law_231 dL_law_232 dL_law_233 ?_
    refine lm_fill C0 hl.1 hM (xs (i + 1)) (xs (i + 2)) (xs (i + 3)) (xs (i + 4)) (xs (i + 5)) hcn4 (x_comm.1 hP) (x_commD.1 hD) hS (by omega) (by omega) (fun v H locs g0 hM hP hD hS => ?_) (fun v H locs g0 hM hP hD hS => ?_)
    · skip
      refine lv_icmp_eq (tgt := 796) hx hb dL_law_237 (by decide) (fun _ => ?_) (fun z => absurd rfl z)
      refine W.widen (k := cells + 9) (n := slots + 585) (by omega) (by omega) ?_
      exact kk _ _ _ _ ⟨_, _, _, _, _, _, _, _, _, _, _, _, _, _, _, _, _, _, gd_mono hg (Nat.le_succ n), HI_mono hH (Nat.le_succ n), SI_mono hSI (Nat.le_succ n), hln, hX, hM⟩ (x_comm.1 hP) (x_commD.1 hD) hS
    · skip
      exact absurd g0 f0
  · skip
    refine lv_aload_n hx hb dL_law_208 rfl (lv_at hl 2 rfl) ?_
    refine lw_arg C0 hS (lv_at hl 0 rfl) (lv_at hl 3 rfl) 1 (by omega) (show Int32.ofInt 1 = nI 1 by decide) dL_law_209 dL_law_210 dL_law_211 dL_law_212 dL_law_213 ?_
    refine lw_arg C0 hS (lv_at hl 0 rfl) (lv_at hl 3 rfl) 2 (by omega) (show Int32.ofInt 2 = nI 2 by decide) dL_law_214 dL_law_215 dL_law_216 dL_law_217 dL_law_218 ?_
    refine lw_arg C0 hS (lv_at hl 0 rfl) (lv_at hl 3 rfl) 3 (by omega) (show Int32.ofInt 3 = nI 3 by decide) dL_law_219 dL_law_220 dL_law_221 dL_law_222 dL_law_223 ?_
    refine lw_arg C0 hS (lv_at hl 0 rfl) (lv_at hl 3 rfl) 4 (by omega) (show Int32.ofInt 4 = nI 4 by decide) dL_law_224 dL_law_225 dL_law_226 dL_law_227 dL_law_228 ?_
    refine lw_arg C0 hS (lv_at hl 0 rfl) (lv_at hl 3 rfl) 5 (by omega) (show Int32.ofInt 5 = nI 5 by decide) dL_law_229 dL_law_230 dL_law_231 dL_law_232 dL_law_233 ?_
    refine lm_fill C0 hl.1 hM (xs (i + 1)) (xs (i + 2)) (xs (i + 3)) (xs (i + 4)) (xs (i + 5)) hcn4 (x_comm.1 hP) (x_commD.1 hD) hS (by omega) (by omega) (fun v H locs g0 hM hP hD hS => ?_) (fun v H locs g0 hM hP hD hS => ?_)
    · skip
      exact absurd f1 g0
    · skip
      refine lv_icmp_eq (tgt := 796) hx hb dL_law_237 (by decide) (fun _ => ?_) (fun z => absurd rfl z)
      refine W.widen (k := cells + 9) (n := slots + 585) (by omega) (by omega) ?_
      exact kk _ _ _ _ ⟨_, _, _, _, _, _, _, _, _, _, _, _, _, _, _, _, _, _, gd_mono (gd_D hg (lvB_fill hlD (have z := bxE_0 f1; ⟨z.2.2.2.2.2.1, z.2.2.2.2.2.2⟩) _ _ _ _)) (Nat.le_succ n), HI_mono (HI_rec hH hg f0) (Nat.le_succ n), SI_mono hSI (Nat.le_succ n), hln, hX, hM⟩ (x_comm.1 hP) (x_commD.1 hD) hS
set_option maxHeartbeats 4000000 in
set_option maxRecDepth 100000 in
theorem cs_shift {p : Program} {l : Launch} {e : Env} {s : State} {m : MethodId} {below : List Frame} {meth : Method} {c : Code} {H : Heap} {locs : List Loc} {cells slots : Nat} {Q : State → Prop} {ls : Array Slot} {b L : Nat} {xs : Nat → Int32} {Dg : va_G} {A : Nat → Prop} {cI cC cS : ClassId} {tt : Nat → Nat} {w v : va_W} {x mm n i : Nat} (C0 : LCtx p s m c b L xs Dg A cI cC cS tt) (hI : INV cI cC cS n x mm w v) (hn : n < 512) (hl : lv_has ls 4 [(0, .ref b), (1, .ref x), (2, .ref mm), (3, .int (nI i))]) (hi : i + 6 ≤ L) (hP : va_P Dg vwCl (w ++ v) H) (hD : va_D A (w ++ v)) (hS : va_S A s.heap H locs) (hc9 : cells + 9 ≤ 600000) (hs9 : slots + 585 ≤ 7302250) (kk : ∀ (w1 v1 : va_W) (H1 : Heap) (locs1 : List Loc), INV cI cC cS (n + 1) x mm w1 v1 → va_P Dg vwCl (w1 ++ v1) H1 → va_D A (w1 ++ v1) → va_S A s.heap H1 locs1 → W p l e room_1 s m #[Value.ref b] below meth c H1 locs1 (cells + 9) (slots + 585) Q (F0 m 796 ls [])) : W p l e room_1 s m #[Value.ref b] below meth c H locs cells slots Q (F0 m 242 ls []) := by
  have hx := C0.1
  have hb := C0.2.1
  obtain ⟨D1, S1, R1, N1, G1, L1, fr, k, hcn, hf, sl, Hs, sv, sn, fl, ss, ln, tx, hg, hH, hSI, hln, hX, hM⟩ := hI
  have hk := hH.1
  have hcn4 := hH.2.1
  have hsk := hH.2.2.1 k hH.1
  have hlD := hg.2.1.1
  have hlS := hg.2.1.2.1
  have hlR := hg.2.1.2.2
  have hN4 := hg.2.2.2.2.2.1
  have hLR := hg.2.2.2.2.2.2
  have hfr : fr < 100000 := by have := hg.1; omega
  obtain ⟨Ls, hLs, hLs2⟩ := gd_Ls hg
  have hsp := (gd_sp hg).2
  refine lv_aload_n hx hb dL_law_242 rfl (lv_at hl 1 rfl) ?_
  refine lw_arg C0 hS (lv_at hl 0 rfl) (lv_at hl 3 rfl) 1 (by omega) (show Int32.ofInt 1 = nI 1 by decide) dL_law_243 dL_law_244 dL_law_245 dL_law_246 dL_law_247 ?_
  refine lw_arg C0 hS (lv_at hl 0 rfl) (lv_at hl 3 rfl) 2 (by omega) (show Int32.ofInt 2 = nI 2 by decide) dL_law_248 dL_law_249 dL_law_250 dL_law_251 dL_law_252 ?_
  refine lx_shift C0 hl.1 hX (xs (i + 1)) (xs (i + 2)) hk hcn4 hsk hk hP hD hS hc9 hs9 (fun w H locs f0 hX hP hD hS => ?_) (fun hf2 nv w H locs f0 f1 hX hP hD hS => ?_)
  · skip
    refine lv_aload_n hx hb dL_law_256 rfl (lv_at hl 2 rfl) ?_
    refine lw_arg C0 hS (lv_at hl 0 rfl) (lv_at hl 3 rfl) 1 (by omega) (show Int32.ofInt 1 = nI 1 by decide) dL_law_257 dL_law_258 dL_law_259 dL_law_260 dL_law_261 ?_
    refine lw_arg C0 hS (lv_at hl 0 rfl) (lv_at hl 3 rfl) 2 (by omega) (show Int32.ofInt 2 = nI 2 by decide) dL_law_262 dL_law_263 dL_law_264 dL_law_265 dL_law_266 ?_
    refine lm_shift C0 hl.1 hM (xs (i + 1)) (xs (i + 2)) hcn4 (x_comm.1 hP) (x_commD.1 hD) hS (by omega) (by omega) (fun v H locs g0 hM hP hD hS => ?_) (fun v H locs g0 hM hP hD hS => ?_)
    · skip
      refine lv_icmp_eq (tgt := 796) hx hb dL_law_270 (by decide) (fun _ => ?_) (fun z => absurd rfl z)
      refine W.widen (k := cells + 9) (n := slots + 585) (by omega) (by omega) ?_
      exact kk _ _ _ _ ⟨_, _, _, _, _, _, _, _, _, _, _, _, _, _, _, _, _, _, gd_mono hg (Nat.le_succ n), HI_mono hH (Nat.le_succ n), SI_mono hSI (Nat.le_succ n), hln, hX, hM⟩ (x_comm.1 hP) (x_commD.1 hD) hS
    · skip
      exact absurd g0 f0
  · skip
    refine lv_aload_n hx hb dL_law_256 rfl (lv_at hl 2 rfl) ?_
    refine lw_arg C0 hS (lv_at hl 0 rfl) (lv_at hl 3 rfl) 1 (by omega) (show Int32.ofInt 1 = nI 1 by decide) dL_law_257 dL_law_258 dL_law_259 dL_law_260 dL_law_261 ?_
    refine lw_arg C0 hS (lv_at hl 0 rfl) (lv_at hl 3 rfl) 2 (by omega) (show Int32.ofInt 2 = nI 2 by decide) dL_law_262 dL_law_263 dL_law_264 dL_law_265 dL_law_266 ?_
    refine lm_shift C0 hl.1 hM (xs (i + 1)) (xs (i + 2)) hcn4 (x_comm.1 hP) (x_commD.1 hD) hS (by omega) (by omega) (fun v H locs g0 hM hP hD hS => ?_) (fun v H locs g0 hM hP hD hS => ?_)
    · skip
      exact absurd f1 g0
    · skip
      refine lv_icmp_eq (tgt := 796) hx hb dL_law_270 (by decide) (fun _ => ?_) (fun z => absurd rfl z)
      refine W.widen (k := cells + 9) (n := slots + 585) (by omega) (by omega) ?_
      exact kk _ _ _ _ ⟨_, _, _, _, _, _, _, _, _, _, _, _, _, _, _, _, _, _, gd_mono (gd_D hg (lvB_mv hlD _ _)) (Nat.le_succ n), HI_mono (HI_rec hH hg f0) (Nat.le_succ n), SI_mono hSI (Nat.le_succ n), hln, hX, hM⟩ (x_comm.1 hP) (x_commD.1 hD) hS
set_option maxHeartbeats 4000000 in
set_option maxRecDepth 100000 in
theorem cs_paint {p : Program} {l : Launch} {e : Env} {s : State} {m : MethodId} {below : List Frame} {meth : Method} {c : Code} {H : Heap} {locs : List Loc} {cells slots : Nat} {Q : State → Prop} {ls : Array Slot} {b L : Nat} {xs : Nat → Int32} {Dg : va_G} {A : Nat → Prop} {cI cC cS : ClassId} {tt : Nat → Nat} {w v : va_W} {x mm n i : Nat} (C0 : LCtx p s m c b L xs Dg A cI cC cS tt) (hI : INV cI cC cS n x mm w v) (hn : n < 512) (hl : lv_has ls 4 [(0, .ref b), (1, .ref x), (2, .ref mm), (3, .int (nI i))]) (hi : i + 6 ≤ L) (hP : va_P Dg vwCl (w ++ v) H) (hD : va_D A (w ++ v)) (hS : va_S A s.heap H locs) (hc9 : cells + 9 ≤ 600000) (hs9 : slots + 585 ≤ 7302250) (kk : ∀ (w1 v1 : va_W) (H1 : Heap) (locs1 : List Loc), INV cI cC cS (n + 1) x mm w1 v1 → va_P Dg vwCl (w1 ++ v1) H1 → va_D A (w1 ++ v1) → va_S A s.heap H1 locs1 → W p l e room_1 s m #[Value.ref b] below meth c H1 locs1 (cells + 9) (slots + 585) Q (F0 m 796 ls [])) : W p l e room_1 s m #[Value.ref b] below meth c H locs cells slots Q (F0 m 275 ls []) := by
  have hx := C0.1
  have hb := C0.2.1
  obtain ⟨D1, S1, R1, N1, G1, L1, fr, k, hcn, hf, sl, Hs, sv, sn, fl, ss, ln, tx, hg, hH, hSI, hln, hX, hM⟩ := hI
  have hk := hH.1
  have hcn4 := hH.2.1
  have hsk := hH.2.2.1 k hH.1
  have hlD := hg.2.1.1
  have hlS := hg.2.1.2.1
  have hlR := hg.2.1.2.2
  have hN4 := hg.2.2.2.2.2.1
  have hLR := hg.2.2.2.2.2.2
  have hfr : fr < 100000 := by have := hg.1; omega
  obtain ⟨Ls, hLs, hLs2⟩ := gd_Ls hg
  have hsp := (gd_sp hg).2
  refine lv_aload_n hx hb dL_law_275 rfl (lv_at hl 1 rfl) ?_
  refine lx_paint C0 hl.1 hX hk hcn4 hsk hln hk hP hD hS hc9 hs9 (fun w H locs f0 hX hP hD hS => ?_) (fun w H locs f0 hX hP hD hS => ?_) (fun hf2 nv w H locs f0 f1 hX hP hD hS => ?_)
  · skip
    refine lv_aload_n hx hb dL_law_279 rfl (lv_at hl 2 rfl) ?_
    refine lm_paint C0 hl.1 hM hcn4 hln (x_comm.1 hP) (x_commD.1 hD) hS (by omega) (by omega) (fun v H locs g0 hM hP hD hS => ?_) (fun v H locs g0 hM hP hD hS => ?_) (fun v H locs g0 hM hP hD hS => ?_)
    · skip
      refine lv_icmp_eq (tgt := 796) hx hb dL_law_283 (by decide) (fun _ => ?_) (fun z => absurd rfl z)
      refine W.widen (k := cells + 9) (n := slots + 585) (by omega) (by omega) ?_
      exact kk _ _ _ _ ⟨_, _, _, _, _, _, _, _, _, _, _, _, _, _, _, _, _, _, gd_mono hg (Nat.le_succ n), HI_mono hH (Nat.le_succ n), SI_mono hSI (Nat.le_succ n), hln, hX, hM⟩ (x_comm.1 hP) (x_commD.1 hD) hS
    · skip
      exact absurd (f0.symm.trans g0.1) Bool.false_ne_true
    · skip
      exact absurd (f0.symm.trans g0.1) Bool.false_ne_true
  · skip
    refine lv_aload_n hx hb dL_law_279 rfl (lv_at hl 2 rfl) ?_
    refine lm_paint C0 hl.1 hM hcn4 hln (x_comm.1 hP) (x_commD.1 hD) hS (by omega) (by omega) (fun v H locs g0 hM hP hD hS => ?_) (fun v H locs g0 hM hP hD hS => ?_) (fun v H locs g0 hM hP hD hS => ?_)
    · skip
      exact absurd (g0.symm.trans f0.1) Bool.false_ne_true
    · skip
      refine lv_icmp_eq (tgt := 796) hx hb dL_law_283 (by decide) (fun _ => ?_) (fun z => absurd rfl z)
      refine W.widen (k := cells + 9) (n := slots + 585) (by omega) (by omega) ?_
      exact kk _ _ _ _ ⟨_, _, _, _, _, _, _, _, _, _, _, _, _, _, _, _, _, _, gd_mono hg (Nat.le_succ n), HI_mono hH (Nat.le_succ n), SI_mono hSI (Nat.le_succ n), hln, hX, hM⟩ (x_comm.1 hP) (x_commD.1 hD) hS
    · skip
      exact absurd g0.2 f0.2
  · skip
    refine lv_aload_n hx hb dL_law_279 rfl (lv_at hl 2 rfl) ?_
    refine lm_paint C0 hl.1 hM hcn4 hln (x_comm.1 hP) (x_commD.1 hD) hS (by omega) (by omega) (fun v H locs g0 hM hP hD hS => ?_) (fun v H locs g0 hM hP hD hS => ?_) (fun v H locs g0 hM hP hD hS => ?_)
    · skip
      exact absurd (g0.symm.trans f1.1) Bool.false_ne_true
    · skip
      exact absurd f1.2 g0.2
    · skip
      refine lv_icmp_eq (tgt := 796) hx hb dL_law_283 (by decide) (fun _ => ?_) (fun z => absurd rfl z)
      refine W.widen (k := cells + 9) (n := slots + 585) (by omega) (by omega) ?_
      exact kk _ _ _ _ ⟨_, _, _, _, _, _, _, _, _, _, _, _, _, _, _, _, _, _, gd_mono (gd_D hg (lvB_ds hlD _ (fun o ho => feQ_n _ 0 f1.2 o (Nat.zero_le _) (by omega)))) (Nat.le_succ n), HI_mono (HI_rec hH hg f0) (Nat.le_succ n), SI_mono hSI (Nat.le_succ n), hln, hX, hM⟩ (x_comm.1 hP) (x_commD.1 hD) hS
set_option maxHeartbeats 4000000 in
set_option maxRecDepth 100000 in
theorem cs_setNumber {p : Program} {l : Launch} {e : Env} {s : State} {m : MethodId} {below : List Frame} {meth : Method} {c : Code} {H : Heap} {locs : List Loc} {cells slots : Nat} {Q : State → Prop} {ls : Array Slot} {b L : Nat} {xs : Nat → Int32} {Dg : va_G} {A : Nat → Prop} {cI cC cS : ClassId} {tt : Nat → Nat} {w v : va_W} {x mm n i : Nat} (C0 : LCtx p s m c b L xs Dg A cI cC cS tt) (hI : INV cI cC cS n x mm w v) (hn : n < 512) (hl : lv_has ls 4 [(0, .ref b), (1, .ref x), (2, .ref mm), (3, .int (nI i))]) (hi : i + 6 ≤ L) (hP : va_P Dg vwCl (w ++ v) H) (hD : va_D A (w ++ v)) (hS : va_S A s.heap H locs) (hc9 : cells + 9 ≤ 600000) (hs9 : slots + 585 ≤ 7302250) (kk : ∀ (w1 v1 : va_W) (H1 : Heap) (locs1 : List Loc), INV cI cC cS (n + 1) x mm w1 v1 → va_P Dg vwCl (w1 ++ v1) H1 → va_D A (w1 ++ v1) → va_S A s.heap H1 locs1 → W p l e room_1 s m #[Value.ref b] below meth c H1 locs1 (cells + 9) (slots + 585) Q (F0 m 796 ls [])) : W p l e room_1 s m #[Value.ref b] below meth c H locs cells slots Q (F0 m 288 ls []) := by
  have hx := C0.1
  have hb := C0.2.1
  obtain ⟨D1, S1, R1, N1, G1, L1, fr, k, hcn, hf, sl, Hs, sv, sn, fl, ss, ln, tx, hg, hH, hSI, hln, hX, hM⟩ := hI
  have hk := hH.1
  have hcn4 := hH.2.1
  have hsk := hH.2.2.1 k hH.1
  have hlD := hg.2.1.1
  have hlS := hg.2.1.2.1
  have hlR := hg.2.1.2.2
  have hN4 := hg.2.2.2.2.2.1
  have hLR := hg.2.2.2.2.2.2
  have hfr : fr < 100000 := by have := hg.1; omega
  obtain ⟨Ls, hLs, hLs2⟩ := gd_Ls hg
  have hsp := (gd_sp hg).2
  refine lv_aload_n hx hb dL_law_288 rfl (lv_at hl 1 rfl) ?_
  refine lw_arg C0 hS (lv_at hl 0 rfl) (lv_at hl 3 rfl) 1 (by omega) (show Int32.ofInt 1 = nI 1 by decide) dL_law_289 dL_law_290 dL_law_291 dL_law_292 dL_law_293 ?_
  refine lw_arg C0 hS (lv_at hl 0 rfl) (lv_at hl 3 rfl) 2 (by omega) (show Int32.ofInt 2 = nI 2 by decide) dL_law_294 dL_law_295 dL_law_296 dL_law_297 dL_law_298 ?_
  refine lx_setNumber C0 hl.1 hX (xs (i + 1)) (xs (i + 2)) hk hcn4 hsk hk hP hD hS hc9 hs9 (fun w H locs f0 hX hP hD hS => ?_) (fun hf2 nv w H locs f0 f1 hX hP hD hS => ?_)
  · skip
    refine lv_aload_n hx hb dL_law_302 rfl (lv_at hl 2 rfl) ?_
    refine lw_arg C0 hS (lv_at hl 0 rfl) (lv_at hl 3 rfl) 1 (by omega) (show Int32.ofInt 1 = nI 1 by decide) dL_law_303 dL_law_304 dL_law_305 dL_law_306 dL_law_307 ?_
    refine lw_arg C0 hS (lv_at hl 0 rfl) (lv_at hl 3 rfl) 2 (by omega) (show Int32.ofInt 2 = nI 2 by decide) dL_law_308 dL_law_309 dL_law_310 dL_law_311 dL_law_312 ?_
    refine lm_setNumber C0 hl.1 hM (xs (i + 1)) (xs (i + 2)) hcn4 (x_comm.1 hP) (x_commD.1 hD) hS (by omega) (by omega) (fun v H locs g0 hM hP hD hS => ?_) (fun v H locs g0 hM hP hD hS => ?_)
    · skip
      refine lv_icmp_eq (tgt := 796) hx hb dL_law_316 (by decide) (fun _ => ?_) (fun z => absurd rfl z)
      refine W.widen (k := cells + 9) (n := slots + 585) (by omega) (by omega) ?_
      exact kk _ _ _ _ ⟨_, _, _, _, _, _, _, _, _, _, _, _, _, _, _, _, _, _, gd_mono hg (Nat.le_succ n), HI_mono hH (Nat.le_succ n), SI_mono hSI (Nat.le_succ n), hln, hX, hM⟩ (x_comm.1 hP) (x_commD.1 hD) hS
    · skip
      exact absurd g0 f0
  · skip
    refine lv_aload_n hx hb dL_law_302 rfl (lv_at hl 2 rfl) ?_
    refine lw_arg C0 hS (lv_at hl 0 rfl) (lv_at hl 3 rfl) 1 (by omega) (show Int32.ofInt 1 = nI 1 by decide) dL_law_303 dL_law_304 dL_law_305 dL_law_306 dL_law_307 ?_
    refine lw_arg C0 hS (lv_at hl 0 rfl) (lv_at hl 3 rfl) 2 (by omega) (show Int32.ofInt 2 = nI 2 by decide) dL_law_308 dL_law_309 dL_law_310 dL_law_311 dL_law_312 ?_
    refine lm_setNumber C0 hl.1 hM (xs (i + 1)) (xs (i + 2)) hcn4 (x_comm.1 hP) (x_commD.1 hD) hS (by omega) (by omega) (fun v H locs g0 hM hP hD hS => ?_) (fun v H locs g0 hM hP hD hS => ?_)
    · skip
      exact absurd f1 g0
    · skip
      refine lv_icmp_eq (tgt := 796) hx hb dL_law_316 (by decide) (fun _ => ?_) (fun z => absurd rfl z)
      refine W.widen (k := cells + 9) (n := slots + 585) (by omega) (by omega) ?_
      exact kk _ _ _ _ ⟨_, _, _, _, _, _, _, _, _, _, _, _, _, _, _, _, _, _, gd_mono (gd_N hg f1.1) (Nat.le_succ n), HI_mono (HI_rec hH hg f0) (Nat.le_succ n), SI_mono hSI (Nat.le_succ n), hln, hX, hM⟩ (x_comm.1 hP) (x_commD.1 hD) hS
set_option maxHeartbeats 4000000 in
set_option maxRecDepth 100000 in
theorem cs_send {p : Program} {l : Launch} {e : Env} {s : State} {m : MethodId} {below : List Frame} {meth : Method} {c : Code} {H : Heap} {locs : List Loc} {cells slots : Nat} {Q : State → Prop} {ls : Array Slot} {b L : Nat} {xs : Nat → Int32} {Dg : va_G} {A : Nat → Prop} {cI cC cS : ClassId} {tt : Nat → Nat} {w v : va_W} {x mm n i : Nat} (C0 : LCtx p s m c b L xs Dg A cI cC cS tt) (hI : INV cI cC cS n x mm w v) (hn : n < 512) (hl : lv_has ls 4 [(0, .ref b), (1, .ref x), (2, .ref mm), (3, .int (nI i))]) (hi : i + 6 ≤ L) (hP : va_P Dg vwCl (w ++ v) H) (hD : va_D A (w ++ v)) (hS : va_S A s.heap H locs) (hc9 : cells + 9 ≤ 600000) (hs9 : slots + 585 ≤ 7302250) (kk : ∀ (w1 v1 : va_W) (H1 : Heap) (locs1 : List Loc), INV cI cC cS (n + 1) x mm w1 v1 → va_P Dg vwCl (w1 ++ v1) H1 → va_D A (w1 ++ v1) → va_S A s.heap H1 locs1 → W p l e room_1 s m #[Value.ref b] below meth c H1 locs1 (cells + 9) (slots + 585) Q (F0 m 796 ls [])) : W p l e room_1 s m #[Value.ref b] below meth c H locs cells slots Q (F0 m 321 ls []) := by
  have hx := C0.1
  have hb := C0.2.1
  obtain ⟨D1, S1, R1, N1, G1, L1, fr, k, hcn, hf, sl, Hs, sv, sn, fl, ss, ln, tx, hg, hH, hSI, hln, hX, hM⟩ := hI
  have hk := hH.1
  have hcn4 := hH.2.1
  have hsk := hH.2.2.1 k hH.1
  have hlD := hg.2.1.1
  have hlS := hg.2.1.2.1
  have hlR := hg.2.1.2.2
  have hN4 := hg.2.2.2.2.2.1
  have hLR := hg.2.2.2.2.2.2
  have hfr : fr < 100000 := by have := hg.1; omega
  obtain ⟨Ls, hLs, hLs2⟩ := gd_Ls hg
  have hsp := (gd_sp hg).2
  by_cases hb9 : xs (i + 1) = 0
  · skip
    refine lv_aload_n hx hb dL_law_321 rfl (lv_at hl 1 rfl) ?_
    refine lw_arg C0 hS (lv_at hl 0 rfl) (lv_at hl 3 rfl) 1 (by omega) (show Int32.ofInt 1 = nI 1 by decide) dL_law_322 dL_law_323 dL_law_324 dL_law_325 dL_law_326 ?_
    refine lv_if_eq (tgt := 334) hx hb dL_law_327 (by decide) (fun _ => ?_) (fun z => absurd hb9 z)
    refine lv_iconst (v := 0) hx hb dL_law_334 (by decide) ?_
    refine lx_send_0 C0 hl.1 fr Ls hX hk hcn4 hsk hN4 hfr hLs hLs2 hk hP hD hS hc9 hs9 (fun hf2 nv w H locs f0 f1 hX hP hD hS => ?_) (fun hf2 nv w H locs f0 f1 hX hP hD hS => ?_)
    · skip
      refine lv_aload_n hx hb dL_law_338 rfl (lv_at hl 2 rfl) ?_
      refine lw_arg C0 hS (lv_at hl 0 rfl) (lv_at hl 3 rfl) 1 (by omega) (show Int32.ofInt 1 = nI 1 by decide) dL_law_339 dL_law_340 dL_law_341 dL_law_342 dL_law_343 ?_
      refine lv_if_eq (tgt := 351) hx hb dL_law_344 (by decide) (fun _ => ?_) (fun z => absurd hb9 z)
      refine lv_iconst (v := 0) hx hb dL_law_351 (by decide) ?_
      refine lm_send_0 C0 hl.1 (min fr 8) Ls hM hcn4 hLs hLs2 hsp hlD hlS (by omega) (x_comm.1 hP) (x_commD.1 hD) hS (by omega) (by omega) (fun v H locs g0 hM hP hD hS => ?_) (fun v H locs g0 hM hP hD hS => ?_)
      · skip
        refine lv_icmp_eq (tgt := 796) hx hb dL_law_355 (by decide) (fun _ => ?_) (fun z => absurd rfl z)
        have e8 : min (min fr 8 + 1) 8 = min (fr + 1) 8 := by omega
        rw [e8] at hM
        refine W.widen (k := cells + 9) (n := slots + 585) (by omega) (by omega) ?_
        exact kk _ _ _ _ ⟨_, _, _, _, _, _, _, _, _, _, _, _, _, _, _, _, _, _, gd_frame hg hLs2 (Or.inl rfl) (lvB_ap hlD hlR _), HI_mono (HI_rec hH hg f0) (Nat.le_succ n), SI_mono hSI (Nat.le_succ n), hln, hX, hM⟩ (x_comm.1 hP) (x_commD.1 hD) hS
      · skip
        exact absurd g0 f1
    · skip
      refine lv_aload_n hx hb dL_law_338 rfl (lv_at hl 2 rfl) ?_
      refine lw_arg C0 hS (lv_at hl 0 rfl) (lv_at hl 3 rfl) 1 (by omega) (show Int32.ofInt 1 = nI 1 by decide) dL_law_339 dL_law_340 dL_law_341 dL_law_342 dL_law_343 ?_
      refine lv_if_eq (tgt := 351) hx hb dL_law_344 (by decide) (fun _ => ?_) (fun z => absurd hb9 z)
      refine lv_iconst (v := 0) hx hb dL_law_351 (by decide) ?_
      refine lm_send_0 C0 hl.1 (min fr 8) Ls hM hcn4 hLs hLs2 hsp hlD hlS (by omega) (x_comm.1 hP) (x_commD.1 hD) hS (by omega) (by omega) (fun v H locs g0 hM hP hD hS => ?_) (fun v H locs g0 hM hP hD hS => ?_)
      · skip
        exact absurd f1 g0
      · skip
        refine lv_icmp_eq (tgt := 796) hx hb dL_law_355 (by decide) (fun _ => ?_) (fun z => absurd rfl z)
        have e8 : min (min fr 8 + 1) 8 = min (fr + 1) 8 := by omega
        rw [e8] at hM
        refine W.widen (k := cells + 9) (n := slots + 585) (by omega) (by omega) ?_
        exact kk _ _ _ _ ⟨_, _, _, _, _, _, _, _, _, _, _, _, _, _, _, _, _, _, gd_frame hg hLs2 (Or.inr ⟨rfl, f1.2⟩) (lvB_ap hlD hlR _), HI_mono (HI_rec hH hg f0) (Nat.le_succ n), SI_mono hSI (Nat.le_succ n), hln, hX, hM⟩ (x_comm.1 hP) (x_commD.1 hD) hS
  · skip
    refine lv_aload_n hx hb dL_law_321 rfl (lv_at hl 1 rfl) ?_
    refine lw_arg C0 hS (lv_at hl 0 rfl) (lv_at hl 3 rfl) 1 (by omega) (show Int32.ofInt 1 = nI 1 by decide) dL_law_322 dL_law_323 dL_law_324 dL_law_325 dL_law_326 ?_
    refine lv_if_eq (tgt := 334) hx hb dL_law_327 (by decide) (fun z => absurd z hb9) (fun _ => ?_)
    refine lv_iconst (v := 1) hx hb dL_law_330 (by decide) ?_
    refine lv_goto (tgt := 335) hx hb dL_law_331 (by decide) ?_
    refine lx_send_1 C0 hl.1 fr Ls hX hk hcn4 hsk hN4 hfr hLs hLs2 hk hP hD hS hc9 hs9 (fun hf2 nv w H locs f0 f1 hX hP hD hS => ?_) (fun hf2 nv w H locs f0 f1 hX hP hD hS => ?_)
    · skip
      refine lv_aload_n hx hb dL_law_338 rfl (lv_at hl 2 rfl) ?_
      refine lw_arg C0 hS (lv_at hl 0 rfl) (lv_at hl 3 rfl) 1 (by omega) (show Int32.ofInt 1 = nI 1 by decide) dL_law_339 dL_law_340 dL_law_341 dL_law_342 dL_law_343 ?_
      refine lv_if_eq (tgt := 351) hx hb dL_law_344 (by decide) (fun z => absurd z hb9) (fun _ => ?_)
      refine lv_iconst (v := 1) hx hb dL_law_347 (by decide) ?_
      refine lv_goto (tgt := 352) hx hb dL_law_348 (by decide) ?_
      refine lm_send_1 C0 hl.1 (min fr 8) Ls hM hcn4 hLs hLs2 hsp hlD hlS (by omega) (x_comm.1 hP) (x_commD.1 hD) hS (by omega) (by omega) (fun v H locs g0 hM hP hD hS => ?_) (fun v H locs g0 hM hP hD hS => ?_)
      · skip
        refine lv_icmp_eq (tgt := 796) hx hb dL_law_355 (by decide) (fun _ => ?_) (fun z => absurd rfl z)
        have e8 : min (min fr 8 + 1) 8 = min (fr + 1) 8 := by omega
        rw [e8] at hM
        refine W.widen (k := cells + 9) (n := slots + 585) (by omega) (by omega) ?_
        exact kk _ _ _ _ ⟨_, _, _, _, _, _, _, _, _, _, _, _, _, _, _, _, _, _, gd_frame hg hLs2 (Or.inl rfl) (hlR), HI_mono (HI_rec hH hg f0) (Nat.le_succ n), SI_mono hSI (Nat.le_succ n), hln, hX, hM⟩ (x_comm.1 hP) (x_commD.1 hD) hS
      · skip
        exact absurd g0 f1
    · skip
      refine lv_aload_n hx hb dL_law_338 rfl (lv_at hl 2 rfl) ?_
      refine lw_arg C0 hS (lv_at hl 0 rfl) (lv_at hl 3 rfl) 1 (by omega) (show Int32.ofInt 1 = nI 1 by decide) dL_law_339 dL_law_340 dL_law_341 dL_law_342 dL_law_343 ?_
      refine lv_if_eq (tgt := 351) hx hb dL_law_344 (by decide) (fun z => absurd z hb9) (fun _ => ?_)
      refine lv_iconst (v := 1) hx hb dL_law_347 (by decide) ?_
      refine lv_goto (tgt := 352) hx hb dL_law_348 (by decide) ?_
      refine lm_send_1 C0 hl.1 (min fr 8) Ls hM hcn4 hLs hLs2 hsp hlD hlS (by omega) (x_comm.1 hP) (x_commD.1 hD) hS (by omega) (by omega) (fun v H locs g0 hM hP hD hS => ?_) (fun v H locs g0 hM hP hD hS => ?_)
      · skip
        exact absurd f1 g0
      · skip
        refine lv_icmp_eq (tgt := 796) hx hb dL_law_355 (by decide) (fun _ => ?_) (fun z => absurd rfl z)
        have e8 : min (min fr 8 + 1) 8 = min (fr + 1) 8 := by omega
        rw [e8] at hM
        refine W.widen (k := cells + 9) (n := slots + 585) (by omega) (by omega) ?_
        exact kk _ _ _ _ ⟨_, _, _, _, _, _, _, _, _, _, _, _, _, _, _, _, _, _, gd_frame hg hLs2 (Or.inr ⟨rfl, f1.2⟩) (hlR), HI_mono (HI_rec hH hg f0) (Nat.le_succ n), SI_mono hSI (Nat.le_succ n), hln, hX, hM⟩ (x_comm.1 hP) (x_commD.1 hD) hS
set_option maxHeartbeats 4000000 in
set_option maxRecDepth 100000 in
theorem cs_sendKeyed {p : Program} {l : Launch} {e : Env} {s : State} {m : MethodId} {below : List Frame} {meth : Method} {c : Code} {H : Heap} {locs : List Loc} {cells slots : Nat} {Q : State → Prop} {ls : Array Slot} {b L : Nat} {xs : Nat → Int32} {Dg : va_G} {A : Nat → Prop} {cI cC cS : ClassId} {tt : Nat → Nat} {w v : va_W} {x mm n i : Nat} (C0 : LCtx p s m c b L xs Dg A cI cC cS tt) (hI : INV cI cC cS n x mm w v) (hn : n < 512) (hl : lv_has ls 4 [(0, .ref b), (1, .ref x), (2, .ref mm), (3, .int (nI i))]) (hi : i + 6 ≤ L) (hP : va_P Dg vwCl (w ++ v) H) (hD : va_D A (w ++ v)) (hS : va_S A s.heap H locs) (hc9 : cells + 9 ≤ 600000) (hs9 : slots + 585 ≤ 7302250) (kk : ∀ (w1 v1 : va_W) (H1 : Heap) (locs1 : List Loc), INV cI cC cS (n + 1) x mm w1 v1 → va_P Dg vwCl (w1 ++ v1) H1 → va_D A (w1 ++ v1) → va_S A s.heap H1 locs1 → W p l e room_1 s m #[Value.ref b] below meth c H1 locs1 (cells + 9) (slots + 585) Q (F0 m 796 ls [])) : W p l e room_1 s m #[Value.ref b] below meth c H locs cells slots Q (F0 m 360 ls []) := by
  have hx := C0.1
  have hb := C0.2.1
  obtain ⟨D1, S1, R1, N1, G1, L1, fr, k, hcn, hf, sl, Hs, sv, sn, fl, ss, ln, tx, hg, hH, hSI, hln, hX, hM⟩ := hI
  have hk := hH.1
  have hcn4 := hH.2.1
  have hsk := hH.2.2.1 k hH.1
  have hlD := hg.2.1.1
  have hlS := hg.2.1.2.1
  have hlR := hg.2.1.2.2
  have hN4 := hg.2.2.2.2.2.1
  have hLR := hg.2.2.2.2.2.2
  have hfr : fr < 100000 := by have := hg.1; omega
  obtain ⟨Ls, hLs, hLs2⟩ := gd_Ls hg
  have hsp := (gd_sp hg).2
  by_cases hb9 : xs (i + 1) = 0
  · skip
    refine lv_aload_n hx hb dL_law_360 rfl (lv_at hl 1 rfl) ?_
    refine lw_arg C0 hS (lv_at hl 0 rfl) (lv_at hl 3 rfl) 1 (by omega) (show Int32.ofInt 1 = nI 1 by decide) dL_law_361 dL_law_362 dL_law_363 dL_law_364 dL_law_365 ?_
    refine lv_if_eq (tgt := 373) hx hb dL_law_366 (by decide) (fun _ => ?_) (fun z => absurd hb9 z)
    refine lv_iconst (v := 0) hx hb dL_law_373 (by decide) ?_
    refine lx_sendKeyed_0 C0 hl.1 fr Ls hX hk hcn4 hsk hN4 hfr hLs hLs2 hk hP hD hS hc9 hs9 (fun w H locs f0 hX hP hD hS => ?_) (fun hf2 nv w H locs f0 f1 hX hP hD hS => ?_)
    · skip
      refine lv_aload_n hx hb dL_law_377 rfl (lv_at hl 2 rfl) ?_
      refine lw_arg C0 hS (lv_at hl 0 rfl) (lv_at hl 3 rfl) 1 (by omega) (show Int32.ofInt 1 = nI 1 by decide) dL_law_378 dL_law_379 dL_law_380 dL_law_381 dL_law_382 ?_
      refine lv_if_eq (tgt := 390) hx hb dL_law_383 (by decide) (fun _ => ?_) (fun z => absurd hb9 z)
      refine lv_iconst (v := 0) hx hb dL_law_390 (by decide) ?_
      refine lm_sendKeyed_0 C0 hl.1 (min fr 8) Ls hM hcn4 hLs hLs2 hsp hlD hlS (by omega) (x_comm.1 hP) (x_commD.1 hD) hS (by omega) (by omega) (fun v H locs g0 hM hP hD hS => ?_) (fun v H locs g0 hM hP hD hS => ?_)
      · skip
        refine lv_icmp_eq (tgt := 796) hx hb dL_law_394 (by decide) (fun _ => ?_) (fun z => absurd rfl z)
        refine W.widen (k := cells + 9) (n := slots + 585) (by omega) (by omega) ?_
        exact kk _ _ _ _ ⟨_, _, _, _, _, _, _, _, _, _, _, _, _, _, _, _, _, _, gd_mono hg (Nat.le_succ n), HI_mono hH (Nat.le_succ n), SI_mono hSI (Nat.le_succ n), hln, hX, hM⟩ (x_comm.1 hP) (x_commD.1 hD) hS
      · skip
        exact absurd g0 f0
    · skip
      refine lv_aload_n hx hb dL_law_377 rfl (lv_at hl 2 rfl) ?_
      refine lw_arg C0 hS (lv_at hl 0 rfl) (lv_at hl 3 rfl) 1 (by omega) (show Int32.ofInt 1 = nI 1 by decide) dL_law_378 dL_law_379 dL_law_380 dL_law_381 dL_law_382 ?_
      refine lv_if_eq (tgt := 390) hx hb dL_law_383 (by decide) (fun _ => ?_) (fun z => absurd hb9 z)
      refine lv_iconst (v := 0) hx hb dL_law_390 (by decide) ?_
      refine lm_sendKeyed_0 C0 hl.1 (min fr 8) Ls hM hcn4 hLs hLs2 hsp hlD hlS (by omega) (x_comm.1 hP) (x_commD.1 hD) hS (by omega) (by omega) (fun v H locs g0 hM hP hD hS => ?_) (fun v H locs g0 hM hP hD hS => ?_)
      · skip
        exact absurd f1 g0
      · skip
        refine lv_icmp_eq (tgt := 796) hx hb dL_law_394 (by decide) (fun _ => ?_) (fun z => absurd rfl z)
        have e8 : min (min fr 8 + 1) 8 = min (fr + 1) 8 := by omega
        rw [e8] at hM
        refine W.widen (k := cells + 9) (n := slots + 585) (by omega) (by omega) ?_
        exact kk _ _ _ _ ⟨_, _, _, _, _, _, _, _, _, _, _, _, _, _, _, _, _, _, gd_frame hg hLs2 (Or.inr ⟨rfl, f1⟩) (lvB_ap hlD hlR _), HI_mono (HI_rec hH hg f0) (Nat.le_succ n), SI_mono hSI (Nat.le_succ n), hln, hX, hM⟩ (x_comm.1 hP) (x_commD.1 hD) hS
  · skip
    refine lv_aload_n hx hb dL_law_360 rfl (lv_at hl 1 rfl) ?_
    refine lw_arg C0 hS (lv_at hl 0 rfl) (lv_at hl 3 rfl) 1 (by omega) (show Int32.ofInt 1 = nI 1 by decide) dL_law_361 dL_law_362 dL_law_363 dL_law_364 dL_law_365 ?_
    refine lv_if_eq (tgt := 373) hx hb dL_law_366 (by decide) (fun z => absurd z hb9) (fun _ => ?_)
    refine lv_iconst (v := 1) hx hb dL_law_369 (by decide) ?_
    refine lv_goto (tgt := 374) hx hb dL_law_370 (by decide) ?_
    refine lx_sendKeyed_1 C0 hl.1 fr Ls hX hk hcn4 hsk hN4 hfr hLs hLs2 hk hP hD hS hc9 hs9 (fun w H locs f0 hX hP hD hS => ?_) (fun hf2 nv w H locs f0 f1 hX hP hD hS => ?_)
    · skip
      refine lv_aload_n hx hb dL_law_377 rfl (lv_at hl 2 rfl) ?_
      refine lw_arg C0 hS (lv_at hl 0 rfl) (lv_at hl 3 rfl) 1 (by omega) (show Int32.ofInt 1 = nI 1 by decide) dL_law_378 dL_law_379 dL_law_380 dL_law_381 dL_law_382 ?_
      refine lv_if_eq (tgt := 390) hx hb dL_law_383 (by decide) (fun z => absurd z hb9) (fun _ => ?_)
      refine lv_iconst (v := 1) hx hb dL_law_386 (by decide) ?_
      refine lv_goto (tgt := 391) hx hb dL_law_387 (by decide) ?_
      refine lm_sendKeyed_1 C0 hl.1 (min fr 8) Ls hM hcn4 hLs hLs2 hsp hlD hlS (by omega) (x_comm.1 hP) (x_commD.1 hD) hS (by omega) (by omega) (fun v H locs g0 hM hP hD hS => ?_) (fun v H locs g0 hM hP hD hS => ?_)
      · skip
        refine lv_icmp_eq (tgt := 796) hx hb dL_law_394 (by decide) (fun _ => ?_) (fun z => absurd rfl z)
        refine W.widen (k := cells + 9) (n := slots + 585) (by omega) (by omega) ?_
        exact kk _ _ _ _ ⟨_, _, _, _, _, _, _, _, _, _, _, _, _, _, _, _, _, _, gd_mono hg (Nat.le_succ n), HI_mono hH (Nat.le_succ n), SI_mono hSI (Nat.le_succ n), hln, hX, hM⟩ (x_comm.1 hP) (x_commD.1 hD) hS
      · skip
        exact absurd g0 f0
    · skip
      refine lv_aload_n hx hb dL_law_377 rfl (lv_at hl 2 rfl) ?_
      refine lw_arg C0 hS (lv_at hl 0 rfl) (lv_at hl 3 rfl) 1 (by omega) (show Int32.ofInt 1 = nI 1 by decide) dL_law_378 dL_law_379 dL_law_380 dL_law_381 dL_law_382 ?_
      refine lv_if_eq (tgt := 390) hx hb dL_law_383 (by decide) (fun z => absurd z hb9) (fun _ => ?_)
      refine lv_iconst (v := 1) hx hb dL_law_386 (by decide) ?_
      refine lv_goto (tgt := 391) hx hb dL_law_387 (by decide) ?_
      refine lm_sendKeyed_1 C0 hl.1 (min fr 8) Ls hM hcn4 hLs hLs2 hsp hlD hlS (by omega) (x_comm.1 hP) (x_commD.1 hD) hS (by omega) (by omega) (fun v H locs g0 hM hP hD hS => ?_) (fun v H locs g0 hM hP hD hS => ?_)
      · skip
        exact absurd f1 g0
      · skip
        refine lv_icmp_eq (tgt := 796) hx hb dL_law_394 (by decide) (fun _ => ?_) (fun z => absurd rfl z)
        have e8 : min (min fr 8 + 1) 8 = min (fr + 1) 8 := by omega
        rw [e8] at hM
        refine W.widen (k := cells + 9) (n := slots + 585) (by omega) (by omega) ?_
        exact kk _ _ _ _ ⟨_, _, _, _, _, _, _, _, _, _, _, _, _, _, _, _, _, _, gd_frame hg hLs2 (Or.inr ⟨rfl, f1⟩) (hlR), HI_mono (HI_rec hH hg f0) (Nat.le_succ n), SI_mono hSI (Nat.le_succ n), hln, hX, hM⟩ (x_comm.1 hP) (x_commD.1 hD) hS
set_option maxHeartbeats 4000000 in
set_option maxRecDepth 100000 in
theorem cs_type {p : Program} {l : Launch} {e : Env} {s : State} {m : MethodId} {below : List Frame} {meth : Method} {c : Code} {H : Heap} {locs : List Loc} {cells slots : Nat} {Q : State → Prop} {ls : Array Slot} {b L : Nat} {xs : Nat → Int32} {Dg : va_G} {A : Nat → Prop} {cI cC cS : ClassId} {tt : Nat → Nat} {w v : va_W} {x mm n i : Nat} (C0 : LCtx p s m c b L xs Dg A cI cC cS tt) (hI : INV cI cC cS n x mm w v) (hn : n < 512) (hl : lv_has ls 4 [(0, .ref b), (1, .ref x), (2, .ref mm), (3, .int (nI i))]) (hi : i + 6 ≤ L) (hP : va_P Dg vwCl (w ++ v) H) (hD : va_D A (w ++ v)) (hS : va_S A s.heap H locs) (hc9 : cells + 9 ≤ 600000) (hs9 : slots + 585 ≤ 7302250) (kk : ∀ (w1 v1 : va_W) (H1 : Heap) (locs1 : List Loc), INV cI cC cS (n + 1) x mm w1 v1 → va_P Dg vwCl (w1 ++ v1) H1 → va_D A (w1 ++ v1) → va_S A s.heap H1 locs1 → W p l e room_1 s m #[Value.ref b] below meth c H1 locs1 (cells + 9) (slots + 585) Q (F0 m 796 ls [])) : W p l e room_1 s m #[Value.ref b] below meth c H locs cells slots Q (F0 m 399 ls []) := by
  have hx := C0.1
  have hb := C0.2.1
  obtain ⟨D1, S1, R1, N1, G1, L1, fr, k, hcn, hf, sl, Hs, sv, sn, fl, ss, ln, tx, hg, hH, hSI, hln, hX, hM⟩ := hI
  have hk := hH.1
  have hcn4 := hH.2.1
  have hsk := hH.2.2.1 k hH.1
  have hlD := hg.2.1.1
  have hlS := hg.2.1.2.1
  have hlR := hg.2.1.2.2
  have hN4 := hg.2.2.2.2.2.1
  have hLR := hg.2.2.2.2.2.2
  have hfr : fr < 100000 := by have := hg.1; omega
  obtain ⟨Ls, hLs, hLs2⟩ := gd_Ls hg
  have hsp := (gd_sp hg).2
  refine lv_aload_n hx hb dL_law_399 rfl (lv_at hl 1 rfl) ?_
  refine lw_arg C0 hS (lv_at hl 0 rfl) (lv_at hl 3 rfl) 1 (by omega) (show Int32.ofInt 1 = nI 1 by decide) dL_law_400 dL_law_401 dL_law_402 dL_law_403 dL_law_404 ?_
  refine lv_i2c hx hb dL_law_405 rfl ?_
  refine lx_type C0 hl.1 (((xs (i + 1)).toUInt32 % 65536).toInt32) hX hln (ch_nar _) hP hD hS hc9 hs9 (fun w H locs f0 hX hP hD hS => ?_) (fun w H locs f0 hX hP hD hS => ?_)
  · skip
    refine lv_aload_n hx hb dL_law_409 rfl (lv_at hl 2 rfl) ?_
    refine lw_arg C0 hS (lv_at hl 0 rfl) (lv_at hl 3 rfl) 1 (by omega) (show Int32.ofInt 1 = nI 1 by decide) dL_law_410 dL_law_411 dL_law_412 dL_law_413 dL_law_414 ?_
    refine lv_i2c hx hb dL_law_415 rfl ?_
    refine lm_type C0 hl.1 (((xs (i + 1)).toUInt32 % 65536).toInt32) hM hln (ch_nar _) (x_comm.1 hP) (x_commD.1 hD) hS (by omega) (by omega) (fun v H locs g0 hM hP hD hS => ?_) (fun v H locs g0 hM hP hD hS => ?_)
    · skip
      refine lv_icmp_eq (tgt := 796) hx hb dL_law_419 (by decide) (fun _ => ?_) (fun z => absurd rfl z)
      refine W.widen (k := cells + 9) (n := slots + 585) (by omega) (by omega) ?_
      exact kk _ _ _ _ ⟨_, _, _, _, _, _, _, _, _, _, _, _, _, _, _, _, _, _, gd_mono hg (Nat.le_succ n), HI_mono hH (Nat.le_succ n), SI_mono hSI (Nat.le_succ n), (by omega), hX, hM⟩ (x_comm.1 hP) (x_commD.1 hD) hS
    · skip
      exact absurd f0 (by omega)
  · skip
    refine lv_aload_n hx hb dL_law_409 rfl (lv_at hl 2 rfl) ?_
    refine lw_arg C0 hS (lv_at hl 0 rfl) (lv_at hl 3 rfl) 1 (by omega) (show Int32.ofInt 1 = nI 1 by decide) dL_law_410 dL_law_411 dL_law_412 dL_law_413 dL_law_414 ?_
    refine lv_i2c hx hb dL_law_415 rfl ?_
    refine lm_type C0 hl.1 (((xs (i + 1)).toUInt32 % 65536).toInt32) hM hln (ch_nar _) (x_comm.1 hP) (x_commD.1 hD) hS (by omega) (by omega) (fun v H locs g0 hM hP hD hS => ?_) (fun v H locs g0 hM hP hD hS => ?_)
    · skip
      exact absurd f0 (by omega)
    · skip
      refine lv_icmp_eq (tgt := 796) hx hb dL_law_419 (by decide) (fun _ => ?_) (fun z => absurd rfl z)
      refine W.widen (k := cells + 9) (n := slots + 585) (by omega) (by omega) ?_
      exact kk _ _ _ _ ⟨_, _, _, _, _, _, _, _, _, _, _, _, _, _, _, _, _, _, gd_mono hg (Nat.le_succ n), HI_mono hH (Nat.le_succ n), SI_mono hSI (Nat.le_succ n), hln, hX, hM⟩ (x_comm.1 hP) (x_commD.1 hD) hS
set_option maxHeartbeats 4000000 in
set_option maxRecDepth 100000 in
theorem cs_clearText {p : Program} {l : Launch} {e : Env} {s : State} {m : MethodId} {below : List Frame} {meth : Method} {c : Code} {H : Heap} {locs : List Loc} {cells slots : Nat} {Q : State → Prop} {ls : Array Slot} {b L : Nat} {xs : Nat → Int32} {Dg : va_G} {A : Nat → Prop} {cI cC cS : ClassId} {tt : Nat → Nat} {w v : va_W} {x mm n i : Nat} (C0 : LCtx p s m c b L xs Dg A cI cC cS tt) (hI : INV cI cC cS n x mm w v) (hn : n < 512) (hl : lv_has ls 4 [(0, .ref b), (1, .ref x), (2, .ref mm), (3, .int (nI i))]) (hi : i + 6 ≤ L) (hP : va_P Dg vwCl (w ++ v) H) (hD : va_D A (w ++ v)) (hS : va_S A s.heap H locs) (hc9 : cells + 9 ≤ 600000) (hs9 : slots + 585 ≤ 7302250) (kk : ∀ (w1 v1 : va_W) (H1 : Heap) (locs1 : List Loc), INV cI cC cS (n + 1) x mm w1 v1 → va_P Dg vwCl (w1 ++ v1) H1 → va_D A (w1 ++ v1) → va_S A s.heap H1 locs1 → W p l e room_1 s m #[Value.ref b] below meth c H1 locs1 (cells + 9) (slots + 585) Q (F0 m 796 ls [])) : W p l e room_1 s m #[Value.ref b] below meth c H locs cells slots Q (F0 m 424 ls []) := by
  have hx := C0.1
  have hb := C0.2.1
  obtain ⟨D1, S1, R1, N1, G1, L1, fr, k, hcn, hf, sl, Hs, sv, sn, fl, ss, ln, tx, hg, hH, hSI, hln, hX, hM⟩ := hI
  have hk := hH.1
  have hcn4 := hH.2.1
  have hsk := hH.2.2.1 k hH.1
  have hlD := hg.2.1.1
  have hlS := hg.2.1.2.1
  have hlR := hg.2.1.2.2
  have hN4 := hg.2.2.2.2.2.1
  have hLR := hg.2.2.2.2.2.2
  have hfr : fr < 100000 := by have := hg.1; omega
  obtain ⟨Ls, hLs, hLs2⟩ := gd_Ls hg
  have hsp := (gd_sp hg).2
  refine lv_aload_n hx hb dL_law_424 rfl (lv_at hl 1 rfl) ?_
  refine lx_clearText C0 hl.1 hX hln hP hD hS hc9 hs9 (fun w H locs hX hP hD hS => ?_)
  · skip
    refine lv_aload_n hx hb dL_law_428 rfl (lv_at hl 2 rfl) ?_
    refine lm_clearText C0 hl.1 hM (x_comm.1 hP) (x_commD.1 hD) hS (by omega) (by omega) (fun v H locs hM hP hD hS => ?_)
    · skip
      refine lv_icmp_eq (tgt := 796) hx hb dL_law_432 (by decide) (fun _ => ?_) (fun z => absurd rfl z)
      refine W.widen (k := cells + 9) (n := slots + 585) (by omega) (by omega) ?_
      exact kk _ _ _ _ ⟨_, _, _, _, _, _, _, _, _, _, _, _, _, _, _, _, _, _, gd_mono hg (Nat.le_succ n), HI_mono hH (Nat.le_succ n), SI_mono hSI (Nat.le_succ n), (Nat.zero_le _), hX, hM⟩ (x_comm.1 hP) (x_commD.1 hD) hS
set_option maxHeartbeats 4000000 in
set_option maxRecDepth 100000 in
theorem cs_undo {p : Program} {l : Launch} {e : Env} {s : State} {m : MethodId} {below : List Frame} {meth : Method} {c : Code} {H : Heap} {locs : List Loc} {cells slots : Nat} {Q : State → Prop} {ls : Array Slot} {b L : Nat} {xs : Nat → Int32} {Dg : va_G} {A : Nat → Prop} {cI cC cS : ClassId} {tt : Nat → Nat} {w v : va_W} {x mm n i : Nat} (C0 : LCtx p s m c b L xs Dg A cI cC cS tt) (hI : INV cI cC cS n x mm w v) (hn : n < 512) (hl : lv_has ls 4 [(0, .ref b), (1, .ref x), (2, .ref mm), (3, .int (nI i))]) (hi : i + 6 ≤ L) (hP : va_P Dg vwCl (w ++ v) H) (hD : va_D A (w ++ v)) (hS : va_S A s.heap H locs) (hc9 : cells + 9 ≤ 600000) (hs9 : slots + 585 ≤ 7302250) (kk : ∀ (w1 v1 : va_W) (H1 : Heap) (locs1 : List Loc), INV cI cC cS (n + 1) x mm w1 v1 → va_P Dg vwCl (w1 ++ v1) H1 → va_D A (w1 ++ v1) → va_S A s.heap H1 locs1 → W p l e room_1 s m #[Value.ref b] below meth c H1 locs1 (cells + 9) (slots + 585) Q (F0 m 796 ls [])) : W p l e room_1 s m #[Value.ref b] below meth c H locs cells slots Q (F0 m 437 ls []) := by
  have hx := C0.1
  have hb := C0.2.1
  obtain ⟨D1, S1, R1, N1, G1, L1, fr, k, hcn, hf, sl, Hs, sv, sn, fl, ss, ln, tx, hg, hH, hSI, hln, hX, hM⟩ := hI
  have hk := hH.1
  have hcn4 := hH.2.1
  have hsk := hH.2.2.1 k hH.1
  have hlD := hg.2.1.1
  have hlS := hg.2.1.2.1
  have hlR := hg.2.1.2.2
  have hN4 := hg.2.2.2.2.2.1
  have hLR := hg.2.2.2.2.2.2
  have hfr : fr < 100000 := by have := hg.1; omega
  obtain ⟨Ls, hLs, hLs2⟩ := gd_Ls hg
  have hsp := (gd_sp hg).2
  by_cases h0 : hcn = 0
  · skip
    refine lv_aload_n hx hb dL_law_437 rfl (lv_at hl 1 rfl) ?_
    refine lx_undo_0 C0 hl.1 hX h0 hP hD hS hc9 hs9 ?_
    refine lv_aload_n hx hb dL_law_441 rfl (lv_at hl 2 rfl) ?_
    refine lm_undo_0 C0 hl.1 hM h0 (x_comm.1 hP) (x_commD.1 hD) hS (by omega) (by omega) ?_
    have hP := x_comm.1 hP
    have hD := x_commD.1 hD
    refine lv_icmp_eq (tgt := 796) hx hb dL_law_445 (by decide) (fun _ => ?_) (fun z => absurd rfl z)
    refine W.widen (k := cells + 9) (n := slots + 585) (by omega) (by omega) ?_
    exact kk _ _ _ _ ⟨_, _, _, _, _, _, _, _, _, _, _, _, _, _, _, _, _, _, gd_mono hg (Nat.le_succ n), HI_mono hH (Nat.le_succ n), SI_mono hSI (Nat.le_succ n), hln, hX, hM⟩ (x_comm.1 hP) (x_commD.1 hD) hS
  · obtain ⟨hH2, a9, D2, S2, R2, N2, G2, L2, fr2, hg2, hfk, hslk, hHs⟩ := HI_undo hH (by omega)
    refine lv_aload_n hx hb dL_law_437 rfl (lv_at hl 1 rfl) ?_
    refine lx_undo_s C0 hl.1 a9 D2 S2 R2 N2 G2 hX hk ⟨by omega, hcn4⟩ hfk hk hslk hP hD hS hc9 hs9 (fun w H locs hX hP hD hS => ?_)
    · skip
      refine lv_aload_n hx hb dL_law_441 rfl (lv_at hl 2 rfl) ?_
      refine lm_undo_s C0 hl.1 D2 S2 R2 N2 (nI (min fr2 8)) L2 hM ⟨by omega, hcn4⟩ hHs (x_comm.1 hP) (x_commD.1 hD) hS (by omega) (by omega) (fun v H locs hM hP hD hS => ?_)
      · skip
        refine lv_icmp_eq (tgt := 796) hx hb dL_law_445 (by decide) (fun _ => ?_) (fun z => absurd rfl z)
        refine W.widen (k := cells + 9) (n := slots + 585) (by omega) (by omega) ?_
        exact kk _ _ _ _ ⟨_, _, _, _, _, _, _, _, _, _, _, _, _, _, _, _, _, _, gd_mono hg2 (Nat.le_succ n), HI_mono hH2 (Nat.le_succ n), SI_mono hSI (Nat.le_succ n), hln, hX, hM⟩ (x_comm.1 hP) (x_commD.1 hD) hS
set_option maxHeartbeats 4000000 in
set_option maxRecDepth 100000 in
theorem cs_keep {p : Program} {l : Launch} {e : Env} {s : State} {m : MethodId} {below : List Frame} {meth : Method} {c : Code} {H : Heap} {locs : List Loc} {cells slots : Nat} {Q : State → Prop} {ls : Array Slot} {b L : Nat} {xs : Nat → Int32} {Dg : va_G} {A : Nat → Prop} {cI cC cS : ClassId} {tt : Nat → Nat} {w v : va_W} {x mm n i : Nat} (C0 : LCtx p s m c b L xs Dg A cI cC cS tt) (hI : INV cI cC cS n x mm w v) (hn : n < 512) (hl : lv_has ls 4 [(0, .ref b), (1, .ref x), (2, .ref mm), (3, .int (nI i))]) (hi : i + 6 ≤ L) (hP : va_P Dg vwCl (w ++ v) H) (hD : va_D A (w ++ v)) (hS : va_S A s.heap H locs) (hc9 : cells + 9 ≤ 600000) (hs9 : slots + 585 ≤ 7302250) (kk : ∀ (w1 v1 : va_W) (H1 : Heap) (locs1 : List Loc), INV cI cC cS (n + 1) x mm w1 v1 → va_P Dg vwCl (w1 ++ v1) H1 → va_D A (w1 ++ v1) → va_S A s.heap H1 locs1 → W p l e room_1 s m #[Value.ref b] below meth c H1 locs1 (cells + 9) (slots + 585) Q (F0 m 796 ls [])) : W p l e room_1 s m #[Value.ref b] below meth c H locs cells slots Q (F0 m 450 ls []) := by
  have hx := C0.1
  have hb := C0.2.1
  obtain ⟨D1, S1, R1, N1, G1, L1, fr, k, hcn, hf, sl, Hs, sv, sn, fl, ss, ln, tx, hg, hH, hSI, hln, hX, hM⟩ := hI
  have hk := hH.1
  have hcn4 := hH.2.1
  have hsk := hH.2.2.1 k hH.1
  have hlD := hg.2.1.1
  have hlS := hg.2.1.2.1
  have hlR := hg.2.1.2.2
  have hN4 := hg.2.2.2.2.2.1
  have hLR := hg.2.2.2.2.2.2
  have hfr : fr < 100000 := by have := hg.1; omega
  obtain ⟨Ls, hLs, hLs2⟩ := gd_Ls hg
  have hsp := (gd_sp hg).2
  rcases hSI with ⟨rfl, rfl, rfl⟩ | ⟨s9, D3, S3, R3, N3, G3, L3, fr3, hg3, rfl, rfl, rfl, hss⟩
  · skip
    refine lv_aload_n hx hb dL_law_450 rfl (lv_at hl 1 rfl) ?_
    refine lx_keep_n C0 hl.1 hX hP hD hS hc9 hs9 (fun a9 w H locs hX hP hD hS => ?_)
    · skip
      refine lv_aload_n hx hb dL_law_454 rfl (lv_at hl 2 rfl) ?_
      refine lm_keep C0 hl.1 hM (x_comm.1 hP) (x_commD.1 hD) hS (by omega) (by omega) (fun v H locs hM hP hD hS => ?_)
      · skip
        refine lv_icmp_eq (tgt := 796) hx hb dL_law_458 (by decide) (fun _ => ?_) (fun z => absurd rfl z)
        refine W.widen (k := cells + 9) (n := slots + 585) (by omega) (by omega) ?_
        exact kk _ _ _ _ ⟨_, _, _, _, _, _, _, _, _, _, _, _, _, _, _, _, _, _, gd_mono hg (Nat.le_succ n), HI_mono hH (Nat.le_succ n), SI_keep (gd_mono hg (Nat.le_succ n)), hln, hX, hM⟩ (x_comm.1 hP) (x_commD.1 hD) hS
  · skip
    refine lv_aload_n hx hb dL_law_450 rfl (lv_at hl 1 rfl) ?_
    refine lx_keep_o C0 hl.1 s9 D3 S3 R3 N3 G3 hX hP hD hS hc9 hs9 (fun w H locs hX hP hD hS => ?_)
    · skip
      refine lv_aload_n hx hb dL_law_454 rfl (lv_at hl 2 rfl) ?_
      refine lm_keep C0 hl.1 hM (x_comm.1 hP) (x_commD.1 hD) hS (by omega) (by omega) (fun v H locs hM hP hD hS => ?_)
      · skip
        refine lv_icmp_eq (tgt := 796) hx hb dL_law_458 (by decide) (fun _ => ?_) (fun z => absurd rfl z)
        refine W.widen (k := cells + 9) (n := slots + 585) (by omega) (by omega) ?_
        exact kk _ _ _ _ ⟨_, _, _, _, _, _, _, _, _, _, _, _, _, _, _, _, _, _, gd_mono hg (Nat.le_succ n), HI_mono hH (Nat.le_succ n), SI_keep (gd_mono hg (Nat.le_succ n)), hln, hX, hM⟩ (x_comm.1 hP) (x_commD.1 hD) hS
set_option maxHeartbeats 4000000 in
set_option maxRecDepth 100000 in
theorem cs_restore {p : Program} {l : Launch} {e : Env} {s : State} {m : MethodId} {below : List Frame} {meth : Method} {c : Code} {H : Heap} {locs : List Loc} {cells slots : Nat} {Q : State → Prop} {ls : Array Slot} {b L : Nat} {xs : Nat → Int32} {Dg : va_G} {A : Nat → Prop} {cI cC cS : ClassId} {tt : Nat → Nat} {w v : va_W} {x mm n i : Nat} (C0 : LCtx p s m c b L xs Dg A cI cC cS tt) (hI : INV cI cC cS n x mm w v) (hn : n < 512) (hl : lv_has ls 4 [(0, .ref b), (1, .ref x), (2, .ref mm), (3, .int (nI i))]) (hi : i + 6 ≤ L) (hP : va_P Dg vwCl (w ++ v) H) (hD : va_D A (w ++ v)) (hS : va_S A s.heap H locs) (hc9 : cells + 9 ≤ 600000) (hs9 : slots + 585 ≤ 7302250) (kk : ∀ (w1 v1 : va_W) (H1 : Heap) (locs1 : List Loc), INV cI cC cS (n + 1) x mm w1 v1 → va_P Dg vwCl (w1 ++ v1) H1 → va_D A (w1 ++ v1) → va_S A s.heap H1 locs1 → W p l e room_1 s m #[Value.ref b] below meth c H1 locs1 (cells + 9) (slots + 585) Q (F0 m 796 ls [])) : W p l e room_1 s m #[Value.ref b] below meth c H locs cells slots Q (F0 m 463 ls []) := by
  have hx := C0.1
  have hb := C0.2.1
  obtain ⟨D1, S1, R1, N1, G1, L1, fr, k, hcn, hf, sl, Hs, sv, sn, fl, ss, ln, tx, hg, hH, hSI, hln, hX, hM⟩ := hI
  have hk := hH.1
  have hcn4 := hH.2.1
  have hsk := hH.2.2.1 k hH.1
  have hlD := hg.2.1.1
  have hlS := hg.2.1.2.1
  have hlR := hg.2.1.2.2
  have hN4 := hg.2.2.2.2.2.1
  have hLR := hg.2.2.2.2.2.2
  have hfr : fr < 100000 := by have := hg.1; omega
  obtain ⟨Ls, hLs, hLs2⟩ := gd_Ls hg
  have hsp := (gd_sp hg).2
  rcases hSI with ⟨rfl, rfl, rfl⟩ | ⟨s9, D3, S3, R3, N3, G3, L3, fr3, hg3, rfl, rfl, rfl, hss⟩
  · skip
    refine lv_aload_n hx hb dL_law_463 rfl (lv_at hl 1 rfl) ?_
    refine lx_restore_n C0 hl.1 hX hP hD hS hc9 hs9 ?_
    refine lv_aload_n hx hb dL_law_467 rfl (lv_at hl 2 rfl) ?_
    refine lm_restore_n C0 hl.1 hM (x_comm.1 hP) (x_commD.1 hD) hS (by omega) (by omega) ?_
    have hP := x_comm.1 hP
    have hD := x_commD.1 hD
    refine lv_icmp_eq (tgt := 796) hx hb dL_law_471 (by decide) (fun _ => ?_) (fun z => absurd rfl z)
    refine W.widen (k := cells + 9) (n := slots + 585) (by omega) (by omega) ?_
    exact kk _ _ _ _ ⟨_, _, _, _, _, _, _, _, _, _, _, _, _, _, _, _, _, _, gd_mono hg (Nat.le_succ n), HI_mono hH (Nat.le_succ n), Or.inl ⟨rfl, rfl, rfl⟩, hln, hX, hM⟩ (x_comm.1 hP) (x_commD.1 hD) hS
  · skip
    refine lv_aload_n hx hb dL_law_463 rfl (lv_at hl 1 rfl) ?_
    refine lx_restore_s C0 hl.1 s9 D3 S3 R3 N3 G3 hX hk hcn4 hsk hk hP hD hS hc9 hs9 (fun hf2 nv w H locs f0 hX hP hD hS => ?_)
    · skip
      refine lv_aload_n hx hb dL_law_467 rfl (lv_at hl 2 rfl) ?_
      refine lm_restore_s C0 hl.1 D3 S3 R3 N3 (nI (min fr3 8)) L3 hM hcn4 hss (x_comm.1 hP) (x_commD.1 hD) hS (by omega) (by omega) (fun v H locs hM hP hD hS => ?_)
      · skip
        refine lv_icmp_eq (tgt := 796) hx hb dL_law_471 (by decide) (fun _ => ?_) (fun z => absurd rfl z)
        refine W.widen (k := cells + 9) (n := slots + 585) (by omega) (by omega) ?_
        exact kk _ _ _ _ ⟨_, _, _, _, _, _, _, _, _, _, _, _, _, _, _, _, _, _, gd_mono hg3 (Nat.le_succ n), HI_mono (HI_rec hH hg f0) (Nat.le_succ n), Or.inr ⟨s9, D3, S3, R3, N3, G3, L3, fr3, gd_mono hg3 (Nat.le_succ n), rfl, rfl, rfl, hss⟩, hln, hX, hM⟩ (x_comm.1 hP) (x_commD.1 hD) hS
set_option maxHeartbeats 4000000 in
set_option maxRecDepth 100000 in
theorem cs_point {p : Program} {l : Launch} {e : Env} {s : State} {m : MethodId} {below : List Frame} {meth : Method} {c : Code} {H : Heap} {locs : List Loc} {cells slots : Nat} {Q : State → Prop} {ls : Array Slot} {b L : Nat} {xs : Nat → Int32} {Dg : va_G} {A : Nat → Prop} {cI cC cS : ClassId} {tt : Nat → Nat} {w v : va_W} {x mm n i : Nat} (C0 : LCtx p s m c b L xs Dg A cI cC cS tt) (hI : INV cI cC cS n x mm w v) (hn : n < 512) (hl : lv_has ls 4 [(0, .ref b), (1, .ref x), (2, .ref mm), (3, .int (nI i))]) (hi : i + 6 ≤ L) (hP : va_P Dg vwCl (w ++ v) H) (hD : va_D A (w ++ v)) (hS : va_S A s.heap H locs) (hc9 : cells + 9 ≤ 600000) (hs9 : slots + 585 ≤ 7302250) (kk : ∀ (w1 v1 : va_W) (H1 : Heap) (locs1 : List Loc), INV cI cC cS (n + 1) x mm w1 v1 → va_P Dg vwCl (w1 ++ v1) H1 → va_D A (w1 ++ v1) → va_S A s.heap H1 locs1 → W p l e room_1 s m #[Value.ref b] below meth c H1 locs1 (cells + 9) (slots + 585) Q (F0 m 796 ls [])) : W p l e room_1 s m #[Value.ref b] below meth c H locs cells slots Q (F0 m 476 ls []) := by
  have hx := C0.1
  have hb := C0.2.1
  obtain ⟨D1, S1, R1, N1, G1, L1, fr, k, hcn, hf, sl, Hs, sv, sn, fl, ss, ln, tx, hg, hH, hSI, hln, hX, hM⟩ := hI
  have hk := hH.1
  have hcn4 := hH.2.1
  have hsk := hH.2.2.1 k hH.1
  have hlD := hg.2.1.1
  have hlS := hg.2.1.2.1
  have hlR := hg.2.1.2.2
  have hN4 := hg.2.2.2.2.2.1
  have hLR := hg.2.2.2.2.2.2
  have hfr : fr < 100000 := by have := hg.1; omega
  obtain ⟨Ls, hLs, hLs2⟩ := gd_Ls hg
  have hsp := (gd_sp hg).2
  refine lv_aload_n hx hb dL_law_476 rfl (lv_at hl 1 rfl) ?_
  refine lw_arg C0 hS (lv_at hl 0 rfl) (lv_at hl 3 rfl) 1 (by omega) (show Int32.ofInt 1 = nI 1 by decide) dL_law_477 dL_law_478 dL_law_479 dL_law_480 dL_law_481 ?_
  refine lw_arg C0 hS (lv_at hl 0 rfl) (lv_at hl 3 rfl) 2 (by omega) (show Int32.ofInt 2 = nI 2 by decide) dL_law_482 dL_law_483 dL_law_484 dL_law_485 dL_law_486 ?_
  refine lw_arg C0 hS (lv_at hl 0 rfl) (lv_at hl 3 rfl) 3 (by omega) (show Int32.ofInt 3 = nI 3 by decide) dL_law_487 dL_law_488 dL_law_489 dL_law_490 dL_law_491 ?_
  refine lx_point C0 hl.1 hX (xs (i + 1)) (xs (i + 2)) (xs (i + 3)) hP hD hS hc9 hs9 ?_
  refine lv_aload_n hx hb dL_law_495 rfl (lv_at hl 2 rfl) ?_
  refine lw_arg C0 hS (lv_at hl 0 rfl) (lv_at hl 3 rfl) 1 (by omega) (show Int32.ofInt 1 = nI 1 by decide) dL_law_496 dL_law_497 dL_law_498 dL_law_499 dL_law_500 ?_
  refine lw_arg C0 hS (lv_at hl 0 rfl) (lv_at hl 3 rfl) 2 (by omega) (show Int32.ofInt 2 = nI 2 by decide) dL_law_501 dL_law_502 dL_law_503 dL_law_504 dL_law_505 ?_
  refine lw_arg C0 hS (lv_at hl 0 rfl) (lv_at hl 3 rfl) 3 (by omega) (show Int32.ofInt 3 = nI 3 by decide) dL_law_506 dL_law_507 dL_law_508 dL_law_509 dL_law_510 ?_
  refine lm_point C0 hl.1 hM (xs (i + 1)) (xs (i + 2)) (xs (i + 3)) (x_comm.1 hP) (x_commD.1 hD) hS (by omega) (by omega) ?_
  have hP := x_comm.1 hP
  have hD := x_commD.1 hD
  refine lv_icmp_eq (tgt := 796) hx hb dL_law_514 (by decide) (fun _ => ?_) (fun z => absurd rfl z)
  refine W.widen (k := cells + 9) (n := slots + 585) (by omega) (by omega) ?_
  exact kk _ _ _ _ ⟨_, _, _, _, _, _, _, _, _, _, _, _, _, _, _, _, _, _, gd_mono hg (Nat.le_succ n), HI_mono hH (Nat.le_succ n), SI_mono hSI (Nat.le_succ n), hln, hX, hM⟩ (x_comm.1 hP) (x_commD.1 hD) hS
set_option maxHeartbeats 4000000 in
set_option maxRecDepth 100000 in
theorem cs_difference {p : Program} {l : Launch} {e : Env} {s : State} {m : MethodId} {below : List Frame} {meth : Method} {c : Code} {H : Heap} {locs : List Loc} {cells slots : Nat} {Q : State → Prop} {ls : Array Slot} {b L : Nat} {xs : Nat → Int32} {Dg : va_G} {A : Nat → Prop} {cI cC cS : ClassId} {tt : Nat → Nat} {w v : va_W} {x mm n i : Nat} (C0 : LCtx p s m c b L xs Dg A cI cC cS tt) (hI : INV cI cC cS n x mm w v) (hn : n < 512) (hl : lv_has ls 4 [(0, .ref b), (1, .ref x), (2, .ref mm), (3, .int (nI i))]) (hi : i + 6 ≤ L) (hP : va_P Dg vwCl (w ++ v) H) (hD : va_D A (w ++ v)) (hS : va_S A s.heap H locs) (hc9 : cells + 9 ≤ 600000) (hs9 : slots + 585 ≤ 7302250) (kk : ∀ (w1 v1 : va_W) (H1 : Heap) (locs1 : List Loc), INV cI cC cS (n + 1) x mm w1 v1 → va_P Dg vwCl (w1 ++ v1) H1 → va_D A (w1 ++ v1) → va_S A s.heap H1 locs1 → W p l e room_1 s m #[Value.ref b] below meth c H1 locs1 (cells + 9) (slots + 585) Q (F0 m 796 ls [])) : W p l e room_1 s m #[Value.ref b] below meth c H locs cells slots Q (F0 m 519 ls []) := by
  have hx := C0.1
  have hb := C0.2.1
  obtain ⟨D1, S1, R1, N1, G1, L1, fr, k, hcn, hf, sl, Hs, sv, sn, fl, ss, ln, tx, hg, hH, hSI, hln, hX, hM⟩ := hI
  have hk := hH.1
  have hcn4 := hH.2.1
  have hsk := hH.2.2.1 k hH.1
  have hlD := hg.2.1.1
  have hlS := hg.2.1.2.1
  have hlR := hg.2.1.2.2
  have hN4 := hg.2.2.2.2.2.1
  have hLR := hg.2.2.2.2.2.2
  have hfr : fr < 100000 := by have := hg.1; omega
  obtain ⟨Ls, hLs, hLs2⟩ := gd_Ls hg
  have hsp := (gd_sp hg).2
  refine lv_aload_n hx hb dL_law_519 rfl (lv_at hl 1 rfl) ?_
  refine lw_arg C0 hS (lv_at hl 0 rfl) (lv_at hl 3 rfl) 1 (by omega) (show Int32.ofInt 1 = nI 1 by decide) dL_law_520 dL_law_521 dL_law_522 dL_law_523 dL_law_524 ?_
  refine lw_arg C0 hS (lv_at hl 0 rfl) (lv_at hl 3 rfl) 2 (by omega) (show Int32.ofInt 2 = nI 2 by decide) dL_law_525 dL_law_526 dL_law_527 dL_law_528 dL_law_529 ?_
  refine lw_arg C0 hS (lv_at hl 0 rfl) (lv_at hl 3 rfl) 3 (by omega) (show Int32.ofInt 3 = nI 3 by decide) dL_law_530 dL_law_531 dL_law_532 dL_law_533 dL_law_534 ?_
  refine lx_difference C0 hl.1 hX (xs (i + 1)) (xs (i + 2)) (xs (i + 3)) hP hD hS hc9 hs9 ?_
  refine lv_aload_n hx hb dL_law_538 rfl (lv_at hl 2 rfl) ?_
  refine lw_arg C0 hS (lv_at hl 0 rfl) (lv_at hl 3 rfl) 1 (by omega) (show Int32.ofInt 1 = nI 1 by decide) dL_law_539 dL_law_540 dL_law_541 dL_law_542 dL_law_543 ?_
  refine lw_arg C0 hS (lv_at hl 0 rfl) (lv_at hl 3 rfl) 2 (by omega) (show Int32.ofInt 2 = nI 2 by decide) dL_law_544 dL_law_545 dL_law_546 dL_law_547 dL_law_548 ?_
  refine lw_arg C0 hS (lv_at hl 0 rfl) (lv_at hl 3 rfl) 3 (by omega) (show Int32.ofInt 3 = nI 3 by decide) dL_law_549 dL_law_550 dL_law_551 dL_law_552 dL_law_553 ?_
  refine lm_difference C0 hl.1 hM (xs (i + 1)) (xs (i + 2)) (xs (i + 3)) (x_comm.1 hP) (x_commD.1 hD) hS (by omega) (by omega) ?_
  have hP := x_comm.1 hP
  have hD := x_commD.1 hD
  refine lv_icmp_eq (tgt := 796) hx hb dL_law_557 (by decide) (fun _ => ?_) (fun z => absurd rfl z)
  refine W.widen (k := cells + 9) (n := slots + 585) (by omega) (by omega) ?_
  exact kk _ _ _ _ ⟨_, _, _, _, _, _, _, _, _, _, _, _, _, _, _, _, _, _, gd_mono hg (Nat.le_succ n), HI_mono hH (Nat.le_succ n), SI_mono hSI (Nat.le_succ n), hln, hX, hM⟩ (x_comm.1 hP) (x_commD.1 hD) hS
set_option maxHeartbeats 4000000 in
set_option maxRecDepth 100000 in
theorem cs_spiral {p : Program} {l : Launch} {e : Env} {s : State} {m : MethodId} {below : List Frame} {meth : Method} {c : Code} {H : Heap} {locs : List Loc} {cells slots : Nat} {Q : State → Prop} {ls : Array Slot} {b L : Nat} {xs : Nat → Int32} {Dg : va_G} {A : Nat → Prop} {cI cC cS : ClassId} {tt : Nat → Nat} {w v : va_W} {x mm n i : Nat} (C0 : LCtx p s m c b L xs Dg A cI cC cS tt) (hI : INV cI cC cS n x mm w v) (hn : n < 512) (hl : lv_has ls 4 [(0, .ref b), (1, .ref x), (2, .ref mm), (3, .int (nI i))]) (hi : i + 6 ≤ L) (hP : va_P Dg vwCl (w ++ v) H) (hD : va_D A (w ++ v)) (hS : va_S A s.heap H locs) (hc9 : cells + 9 ≤ 600000) (hs9 : slots + 585 ≤ 7302250) (kk : ∀ (w1 v1 : va_W) (H1 : Heap) (locs1 : List Loc), INV cI cC cS (n + 1) x mm w1 v1 → va_P Dg vwCl (w1 ++ v1) H1 → va_D A (w1 ++ v1) → va_S A s.heap H1 locs1 → W p l e room_1 s m #[Value.ref b] below meth c H1 locs1 (cells + 9) (slots + 585) Q (F0 m 796 ls [])) : W p l e room_1 s m #[Value.ref b] below meth c H locs cells slots Q (F0 m 562 ls []) := by
  have hx := C0.1
  have hb := C0.2.1
  obtain ⟨D1, S1, R1, N1, G1, L1, fr, k, hcn, hf, sl, Hs, sv, sn, fl, ss, ln, tx, hg, hH, hSI, hln, hX, hM⟩ := hI
  have hk := hH.1
  have hcn4 := hH.2.1
  have hsk := hH.2.2.1 k hH.1
  have hlD := hg.2.1.1
  have hlS := hg.2.1.2.1
  have hlR := hg.2.1.2.2
  have hN4 := hg.2.2.2.2.2.1
  have hLR := hg.2.2.2.2.2.2
  have hfr : fr < 100000 := by have := hg.1; omega
  obtain ⟨Ls, hLs, hLs2⟩ := gd_Ls hg
  have hsp := (gd_sp hg).2
  refine lv_aload_n hx hb dL_law_562 rfl (lv_at hl 1 rfl) ?_
  refine lw_arg C0 hS (lv_at hl 0 rfl) (lv_at hl 3 rfl) 1 (by omega) (show Int32.ofInt 1 = nI 1 by decide) dL_law_563 dL_law_564 dL_law_565 dL_law_566 dL_law_567 ?_
  refine lw_arg C0 hS (lv_at hl 0 rfl) (lv_at hl 3 rfl) 2 (by omega) (show Int32.ofInt 2 = nI 2 by decide) dL_law_568 dL_law_569 dL_law_570 dL_law_571 dL_law_572 ?_
  refine lx_spiral C0 hl.1 hX (xs (i + 1)) (xs (i + 2)) hP hD hS hc9 hs9 ?_
  refine lv_aload_n hx hb dL_law_576 rfl (lv_at hl 2 rfl) ?_
  refine lw_arg C0 hS (lv_at hl 0 rfl) (lv_at hl 3 rfl) 1 (by omega) (show Int32.ofInt 1 = nI 1 by decide) dL_law_577 dL_law_578 dL_law_579 dL_law_580 dL_law_581 ?_
  refine lw_arg C0 hS (lv_at hl 0 rfl) (lv_at hl 3 rfl) 2 (by omega) (show Int32.ofInt 2 = nI 2 by decide) dL_law_582 dL_law_583 dL_law_584 dL_law_585 dL_law_586 ?_
  refine lm_spiral C0 hl.1 hM (xs (i + 1)) (xs (i + 2)) (x_comm.1 hP) (x_commD.1 hD) hS (by omega) (by omega) ?_
  have hP := x_comm.1 hP
  have hD := x_commD.1 hD
  refine lv_icmp_eq (tgt := 796) hx hb dL_law_590 (by decide) (fun _ => ?_) (fun z => absurd rfl z)
  refine W.widen (k := cells + 9) (n := slots + 585) (by omega) (by omega) ?_
  exact kk _ _ _ _ ⟨_, _, _, _, _, _, _, _, _, _, _, _, _, _, _, _, _, _, gd_mono hg (Nat.le_succ n), HI_mono hH (Nat.le_succ n), SI_mono hSI (Nat.le_succ n), hln, hX, hM⟩ (x_comm.1 hP) (x_commD.1 hD) hS
set_option maxHeartbeats 4000000 in
set_option maxRecDepth 100000 in
theorem cs_wouldCode {p : Program} {l : Launch} {e : Env} {s : State} {m : MethodId} {below : List Frame} {meth : Method} {c : Code} {H : Heap} {locs : List Loc} {cells slots : Nat} {Q : State → Prop} {ls : Array Slot} {b L : Nat} {xs : Nat → Int32} {Dg : va_G} {A : Nat → Prop} {cI cC cS : ClassId} {tt : Nat → Nat} {w v : va_W} {x mm n i : Nat} (C0 : LCtx p s m c b L xs Dg A cI cC cS tt) (hI : INV cI cC cS n x mm w v) (hn : n < 512) (hl : lv_has ls 4 [(0, .ref b), (1, .ref x), (2, .ref mm), (3, .int (nI i))]) (hi : i + 6 ≤ L) (hP : va_P Dg vwCl (w ++ v) H) (hD : va_D A (w ++ v)) (hS : va_S A s.heap H locs) (hc9 : cells + 9 ≤ 600000) (hs9 : slots + 585 ≤ 7302250) (kk : ∀ (w1 v1 : va_W) (H1 : Heap) (locs1 : List Loc), INV cI cC cS (n + 1) x mm w1 v1 → va_P Dg vwCl (w1 ++ v1) H1 → va_D A (w1 ++ v1) → va_S A s.heap H1 locs1 → W p l e room_1 s m #[Value.ref b] below meth c H1 locs1 (cells + 9) (slots + 585) Q (F0 m 796 ls [])) : W p l e room_1 s m #[Value.ref b] below meth c H locs cells slots Q (F0 m 595 ls []) := by
  have hx := C0.1
  have hb := C0.2.1
  obtain ⟨D1, S1, R1, N1, G1, L1, fr, k, hcn, hf, sl, Hs, sv, sn, fl, ss, ln, tx, hg, hH, hSI, hln, hX, hM⟩ := hI
  have hk := hH.1
  have hcn4 := hH.2.1
  have hsk := hH.2.2.1 k hH.1
  have hlD := hg.2.1.1
  have hlS := hg.2.1.2.1
  have hlR := hg.2.1.2.2
  have hN4 := hg.2.2.2.2.2.1
  have hLR := hg.2.2.2.2.2.2
  have hfr : fr < 100000 := by have := hg.1; omega
  obtain ⟨Ls, hLs, hLs2⟩ := gd_Ls hg
  have hsp := (gd_sp hg).2
  refine lv_aload_n hx hb dL_law_595 rfl (lv_at hl 1 rfl) ?_
  refine lw_arg C0 hS (lv_at hl 0 rfl) (lv_at hl 3 rfl) 1 (by omega) (show Int32.ofInt 1 = nI 1 by decide) dL_law_596 dL_law_597 dL_law_598 dL_law_599 dL_law_600 ?_
  refine lw_arg C0 hS (lv_at hl 0 rfl) (lv_at hl 3 rfl) 2 (by omega) (show Int32.ofInt 2 = nI 2 by decide) dL_law_601 dL_law_602 dL_law_603 dL_law_604 dL_law_605 ?_
  refine lw_arg C0 hS (lv_at hl 0 rfl) (lv_at hl 3 rfl) 3 (by omega) (show Int32.ofInt 3 = nI 3 by decide) dL_law_606 dL_law_607 dL_law_608 dL_law_609 dL_law_610 ?_
  refine lx_wouldCode C0 hl.1 hX (xs (i + 1)) (xs (i + 2)) (xs (i + 3)) hP hD hS hc9 hs9 (fun w H locs hX hP hD hS => ?_)
  · skip
    refine lv_aload_n hx hb dL_law_614 rfl (lv_at hl 2 rfl) ?_
    refine lw_arg C0 hS (lv_at hl 0 rfl) (lv_at hl 3 rfl) 1 (by omega) (show Int32.ofInt 1 = nI 1 by decide) dL_law_615 dL_law_616 dL_law_617 dL_law_618 dL_law_619 ?_
    refine lw_arg C0 hS (lv_at hl 0 rfl) (lv_at hl 3 rfl) 2 (by omega) (show Int32.ofInt 2 = nI 2 by decide) dL_law_620 dL_law_621 dL_law_622 dL_law_623 dL_law_624 ?_
    refine lw_arg C0 hS (lv_at hl 0 rfl) (lv_at hl 3 rfl) 3 (by omega) (show Int32.ofInt 3 = nI 3 by decide) dL_law_625 dL_law_626 dL_law_627 dL_law_628 dL_law_629 ?_
    refine lm_wouldCode C0 hl.1 hM (xs (i + 1)) (xs (i + 2)) (xs (i + 3)) hlD hlS (x_comm.1 hP) (x_commD.1 hD) hS (by omega) (by omega) ?_
    have hP := x_comm.1 hP
    have hD := x_commD.1 hD
    refine lv_icmp_eq (tgt := 796) hx hb dL_law_633 (by decide) (fun _ => ?_) (fun z => absurd rfl z)
    refine W.widen (k := cells + 9) (n := slots + 585) (by omega) (by omega) ?_
    exact kk _ _ _ _ ⟨_, _, _, _, _, _, _, _, _, _, _, _, _, _, _, _, _, _, gd_mono hg (Nat.le_succ n), HI_mono hH (Nat.le_succ n), SI_mono hSI (Nat.le_succ n), hln, hX, hM⟩ (x_comm.1 hP) (x_commD.1 hD) hS
set_option maxHeartbeats 4000000 in
set_option maxRecDepth 100000 in
theorem cs_wouldSpend {p : Program} {l : Launch} {e : Env} {s : State} {m : MethodId} {below : List Frame} {meth : Method} {c : Code} {H : Heap} {locs : List Loc} {cells slots : Nat} {Q : State → Prop} {ls : Array Slot} {b L : Nat} {xs : Nat → Int32} {Dg : va_G} {A : Nat → Prop} {cI cC cS : ClassId} {tt : Nat → Nat} {w v : va_W} {x mm n i : Nat} (C0 : LCtx p s m c b L xs Dg A cI cC cS tt) (hI : INV cI cC cS n x mm w v) (hn : n < 512) (hl : lv_has ls 4 [(0, .ref b), (1, .ref x), (2, .ref mm), (3, .int (nI i))]) (hi : i + 6 ≤ L) (hP : va_P Dg vwCl (w ++ v) H) (hD : va_D A (w ++ v)) (hS : va_S A s.heap H locs) (hc9 : cells + 9 ≤ 600000) (hs9 : slots + 585 ≤ 7302250) (kk : ∀ (w1 v1 : va_W) (H1 : Heap) (locs1 : List Loc), INV cI cC cS (n + 1) x mm w1 v1 → va_P Dg vwCl (w1 ++ v1) H1 → va_D A (w1 ++ v1) → va_S A s.heap H1 locs1 → W p l e room_1 s m #[Value.ref b] below meth c H1 locs1 (cells + 9) (slots + 585) Q (F0 m 796 ls [])) : W p l e room_1 s m #[Value.ref b] below meth c H locs cells slots Q (F0 m 638 ls []) := by
  have hx := C0.1
  have hb := C0.2.1
  obtain ⟨D1, S1, R1, N1, G1, L1, fr, k, hcn, hf, sl, Hs, sv, sn, fl, ss, ln, tx, hg, hH, hSI, hln, hX, hM⟩ := hI
  have hk := hH.1
  have hcn4 := hH.2.1
  have hsk := hH.2.2.1 k hH.1
  have hlD := hg.2.1.1
  have hlS := hg.2.1.2.1
  have hlR := hg.2.1.2.2
  have hN4 := hg.2.2.2.2.2.1
  have hLR := hg.2.2.2.2.2.2
  have hfr : fr < 100000 := by have := hg.1; omega
  obtain ⟨Ls, hLs, hLs2⟩ := gd_Ls hg
  have hsp := (gd_sp hg).2
  refine lv_aload_n hx hb dL_law_638 rfl (lv_at hl 1 rfl) ?_
  refine lw_arg C0 hS (lv_at hl 0 rfl) (lv_at hl 3 rfl) 1 (by omega) (show Int32.ofInt 1 = nI 1 by decide) dL_law_639 dL_law_640 dL_law_641 dL_law_642 dL_law_643 ?_
  refine lx_wouldSpend C0 hl.1 hX (xs (i + 1)) hP hD hS hc9 hs9 (fun w H locs hX hP hD hS => ?_)
  · skip
    refine lv_aload_n hx hb dL_law_647 rfl (lv_at hl 2 rfl) ?_
    refine lw_arg C0 hS (lv_at hl 0 rfl) (lv_at hl 3 rfl) 1 (by omega) (show Int32.ofInt 1 = nI 1 by decide) dL_law_648 dL_law_649 dL_law_650 dL_law_651 dL_law_652 ?_
    refine lm_wouldSpend C0 hl.1 hM (xs (i + 1)) hlD hlS (x_comm.1 hP) (x_commD.1 hD) hS (by omega) (by omega) ?_
    have hP := x_comm.1 hP
    have hD := x_commD.1 hD
    refine lv_icmp_eq (tgt := 796) hx hb dL_law_656 (by decide) (fun _ => ?_) (fun z => absurd rfl z)
    refine W.widen (k := cells + 9) (n := slots + 585) (by omega) (by omega) ?_
    exact kk _ _ _ _ ⟨_, _, _, _, _, _, _, _, _, _, _, _, _, _, _, _, _, _, gd_mono hg (Nat.le_succ n), HI_mono hH (Nat.le_succ n), SI_mono hSI (Nat.le_succ n), hln, hX, hM⟩ (x_comm.1 hP) (x_commD.1 hD) hS
set_option maxHeartbeats 4000000 in
set_option maxRecDepth 100000 in
theorem cs_wouldNeed {p : Program} {l : Launch} {e : Env} {s : State} {m : MethodId} {below : List Frame} {meth : Method} {c : Code} {H : Heap} {locs : List Loc} {cells slots : Nat} {Q : State → Prop} {ls : Array Slot} {b L : Nat} {xs : Nat → Int32} {Dg : va_G} {A : Nat → Prop} {cI cC cS : ClassId} {tt : Nat → Nat} {w v : va_W} {x mm n i : Nat} (C0 : LCtx p s m c b L xs Dg A cI cC cS tt) (hI : INV cI cC cS n x mm w v) (hn : n < 512) (hl : lv_has ls 4 [(0, .ref b), (1, .ref x), (2, .ref mm), (3, .int (nI i))]) (hi : i + 6 ≤ L) (hP : va_P Dg vwCl (w ++ v) H) (hD : va_D A (w ++ v)) (hS : va_S A s.heap H locs) (hc9 : cells + 9 ≤ 600000) (hs9 : slots + 585 ≤ 7302250) (kk : ∀ (w1 v1 : va_W) (H1 : Heap) (locs1 : List Loc), INV cI cC cS (n + 1) x mm w1 v1 → va_P Dg vwCl (w1 ++ v1) H1 → va_D A (w1 ++ v1) → va_S A s.heap H1 locs1 → W p l e room_1 s m #[Value.ref b] below meth c H1 locs1 (cells + 9) (slots + 585) Q (F0 m 796 ls [])) : W p l e room_1 s m #[Value.ref b] below meth c H locs cells slots Q (F0 m 661 ls []) := by
  have hx := C0.1
  have hb := C0.2.1
  obtain ⟨D1, S1, R1, N1, G1, L1, fr, k, hcn, hf, sl, Hs, sv, sn, fl, ss, ln, tx, hg, hH, hSI, hln, hX, hM⟩ := hI
  have hk := hH.1
  have hcn4 := hH.2.1
  have hsk := hH.2.2.1 k hH.1
  have hlD := hg.2.1.1
  have hlS := hg.2.1.2.1
  have hlR := hg.2.1.2.2
  have hN4 := hg.2.2.2.2.2.1
  have hLR := hg.2.2.2.2.2.2
  have hfr : fr < 100000 := by have := hg.1; omega
  obtain ⟨Ls, hLs, hLs2⟩ := gd_Ls hg
  have hsp := (gd_sp hg).2
  refine lv_aload_n hx hb dL_law_661 rfl (lv_at hl 1 rfl) ?_
  refine lx_wouldNeed C0 hl.1 Ls hX hLs hLs2 hP hD hS hc9 hs9 (fun w H locs hX hP hD hS => ?_)
  · skip
    refine lv_aload_n hx hb dL_law_665 rfl (lv_at hl 2 rfl) ?_
    refine lm_wouldNeed C0 hl.1 Ls hM hLs hLs2 hsp hlD hlS (x_comm.1 hP) (x_commD.1 hD) hS (by omega) (by omega) ?_
    have hP := x_comm.1 hP
    have hD := x_commD.1 hD
    refine lv_icmp_eq (tgt := 796) hx hb dL_law_669 (by decide) (fun _ => ?_) (fun z => absurd rfl z)
    refine W.widen (k := cells + 9) (n := slots + 585) (by omega) (by omega) ?_
    exact kk _ _ _ _ ⟨_, _, _, _, _, _, _, _, _, _, _, _, _, _, _, _, _, _, gd_mono hg (Nat.le_succ n), HI_mono hH (Nat.le_succ n), SI_mono hSI (Nat.le_succ n), hln, hX, hM⟩ (x_comm.1 hP) (x_commD.1 hD) hS
set_option maxHeartbeats 4000000 in
set_option maxRecDepth 100000 in
theorem cs_best {p : Program} {l : Launch} {e : Env} {s : State} {m : MethodId} {below : List Frame} {meth : Method} {c : Code} {H : Heap} {locs : List Loc} {cells slots : Nat} {Q : State → Prop} {ls : Array Slot} {b L : Nat} {xs : Nat → Int32} {Dg : va_G} {A : Nat → Prop} {cI cC cS : ClassId} {tt : Nat → Nat} {w v : va_W} {x mm n i : Nat} (C0 : LCtx p s m c b L xs Dg A cI cC cS tt) (hI : INV cI cC cS n x mm w v) (hn : n < 512) (hl : lv_has ls 4 [(0, .ref b), (1, .ref x), (2, .ref mm), (3, .int (nI i))]) (hi : i + 6 ≤ L) (hP : va_P Dg vwCl (w ++ v) H) (hD : va_D A (w ++ v)) (hS : va_S A s.heap H locs) (hc9 : cells + 9 ≤ 600000) (hs9 : slots + 585 ≤ 7302250) (kk : ∀ (w1 v1 : va_W) (H1 : Heap) (locs1 : List Loc), INV cI cC cS (n + 1) x mm w1 v1 → va_P Dg vwCl (w1 ++ v1) H1 → va_D A (w1 ++ v1) → va_S A s.heap H1 locs1 → W p l e room_1 s m #[Value.ref b] below meth c H1 locs1 (cells + 9) (slots + 585) Q (F0 m 796 ls [])) : W p l e room_1 s m #[Value.ref b] below meth c H locs cells slots Q (F0 m 674 ls []) := by
  have hx := C0.1
  have hb := C0.2.1
  obtain ⟨D1, S1, R1, N1, G1, L1, fr, k, hcn, hf, sl, Hs, sv, sn, fl, ss, ln, tx, hg, hH, hSI, hln, hX, hM⟩ := hI
  have hk := hH.1
  have hcn4 := hH.2.1
  have hsk := hH.2.2.1 k hH.1
  have hlD := hg.2.1.1
  have hlS := hg.2.1.2.1
  have hlR := hg.2.1.2.2
  have hN4 := hg.2.2.2.2.2.1
  have hLR := hg.2.2.2.2.2.2
  have hfr : fr < 100000 := by have := hg.1; omega
  obtain ⟨Ls, hLs, hLs2⟩ := gd_Ls hg
  have hsp := (gd_sp hg).2
  refine lv_aload_n hx hb dL_law_674 rfl (lv_at hl 1 rfl) ?_
  refine lw_arg C0 hS (lv_at hl 0 rfl) (lv_at hl 3 rfl) 1 (by omega) (show Int32.ofInt 1 = nI 1 by decide) dL_law_675 dL_law_676 dL_law_677 dL_law_678 dL_law_679 ?_
  refine lw_arg C0 hS (lv_at hl 0 rfl) (lv_at hl 3 rfl) 2 (by omega) (show Int32.ofInt 2 = nI 2 by decide) dL_law_680 dL_law_681 dL_law_682 dL_law_683 dL_law_684 ?_
  refine lx_best C0 hl.1 hX (xs (i + 1)) (xs (i + 2)) hP hD hS hc9 hs9 (fun w H locs hX hP hD hS => ?_)
  · skip
    refine lv_aload_n hx hb dL_law_688 rfl (lv_at hl 2 rfl) ?_
    refine lw_arg C0 hS (lv_at hl 0 rfl) (lv_at hl 3 rfl) 1 (by omega) (show Int32.ofInt 1 = nI 1 by decide) dL_law_689 dL_law_690 dL_law_691 dL_law_692 dL_law_693 ?_
    refine lw_arg C0 hS (lv_at hl 0 rfl) (lv_at hl 3 rfl) 2 (by omega) (show Int32.ofInt 2 = nI 2 by decide) dL_law_694 dL_law_695 dL_law_696 dL_law_697 dL_law_698 ?_
    refine lm_best C0 hl.1 hM (xs (i + 1)) (xs (i + 2)) hlD hlS (x_comm.1 hP) (x_commD.1 hD) hS (by omega) (by omega) ?_
    have hP := x_comm.1 hP
    have hD := x_commD.1 hD
    refine lv_icmp_eq (tgt := 796) hx hb dL_law_702 (by decide) (fun _ => ?_) (fun z => absurd rfl z)
    refine W.widen (k := cells + 9) (n := slots + 585) (by omega) (by omega) ?_
    exact kk _ _ _ _ ⟨_, _, _, _, _, _, _, _, _, _, _, _, _, _, _, _, _, _, gd_mono hg (Nat.le_succ n), HI_mono hH (Nat.le_succ n), SI_mono hSI (Nat.le_succ n), hln, hX, hM⟩ (x_comm.1 hP) (x_commD.1 hD) hS
set_option maxHeartbeats 4000000 in
set_option maxRecDepth 100000 in
theorem cs_frame {p : Program} {l : Launch} {e : Env} {s : State} {m : MethodId} {below : List Frame} {meth : Method} {c : Code} {H : Heap} {locs : List Loc} {cells slots : Nat} {Q : State → Prop} {ls : Array Slot} {b L : Nat} {xs : Nat → Int32} {Dg : va_G} {A : Nat → Prop} {cI cC cS : ClassId} {tt : Nat → Nat} {w v : va_W} {x mm n i : Nat} (C0 : LCtx p s m c b L xs Dg A cI cC cS tt) (hI : INV cI cC cS n x mm w v) (hn : n < 512) (hl : lv_has ls 4 [(0, .ref b), (1, .ref x), (2, .ref mm), (3, .int (nI i))]) (hi : i + 6 ≤ L) (hP : va_P Dg vwCl (w ++ v) H) (hD : va_D A (w ++ v)) (hS : va_S A s.heap H locs) (hc9 : cells + 9 ≤ 600000) (hs9 : slots + 585 ≤ 7302250) (kk : ∀ (w1 v1 : va_W) (H1 : Heap) (locs1 : List Loc), INV cI cC cS (n + 1) x mm w1 v1 → va_P Dg vwCl (w1 ++ v1) H1 → va_D A (w1 ++ v1) → va_S A s.heap H1 locs1 → W p l e room_1 s m #[Value.ref b] below meth c H1 locs1 (cells + 9) (slots + 585) Q (F0 m 796 ls [])) : W p l e room_1 s m #[Value.ref b] below meth c H locs cells slots Q (F0 m 707 ls []) := by
  have hx := C0.1
  have hb := C0.2.1
  obtain ⟨D1, S1, R1, N1, G1, L1, fr, k, hcn, hf, sl, Hs, sv, sn, fl, ss, ln, tx, hg, hH, hSI, hln, hX, hM⟩ := hI
  have hk := hH.1
  have hcn4 := hH.2.1
  have hsk := hH.2.2.1 k hH.1
  have hlD := hg.2.1.1
  have hlS := hg.2.1.2.1
  have hlR := hg.2.1.2.2
  have hN4 := hg.2.2.2.2.2.1
  have hLR := hg.2.2.2.2.2.2
  have hfr : fr < 100000 := by have := hg.1; omega
  obtain ⟨Ls, hLs, hLs2⟩ := gd_Ls hg
  have hsp := (gd_sp hg).2
  refine lv_aload_n hx hb dL_law_707 rfl (lv_at hl 1 rfl) ?_
  refine lw_arg C0 hS (lv_at hl 0 rfl) (lv_at hl 3 rfl) 1 (by omega) (show Int32.ofInt 1 = nI 1 by decide) dL_law_708 dL_law_709 dL_law_710 dL_law_711 dL_law_712 ?_
  refine lw_arg C0 hS (lv_at hl 0 rfl) (lv_at hl 3 rfl) 2 (by omega) (show Int32.ofInt 2 = nI 2 by decide) dL_law_713 dL_law_714 dL_law_715 dL_law_716 dL_law_717 ?_
  refine lx_frame C0 hl.1 fr hX (xs (i + 1)) (xs (i + 2)) hN4 hfr hP hD hS hc9 hs9 ?_
  refine lv_aload_n hx hb dL_law_721 rfl (lv_at hl 2 rfl) ?_
  refine lw_arg C0 hS (lv_at hl 0 rfl) (lv_at hl 3 rfl) 1 (by omega) (show Int32.ofInt 1 = nI 1 by decide) dL_law_722 dL_law_723 dL_law_724 dL_law_725 dL_law_726 ?_
  refine lw_arg C0 hS (lv_at hl 0 rfl) (lv_at hl 3 rfl) 2 (by omega) (show Int32.ofInt 2 = nI 2 by decide) dL_law_727 dL_law_728 dL_law_729 dL_law_730 dL_law_731 ?_
  refine lm_frame C0 hl.1 (min fr 8) hM (xs (i + 1)) (xs (i + 2)) (by omega) (x_comm.1 hP) (x_commD.1 hD) hS (by omega) (by omega) ?_
  have hP := x_comm.1 hP
  have hD := x_commD.1 hD
  refine lv_icmp_eq (tgt := 796) hx hb dL_law_735 (by decide) (fun _ => ?_) (fun z => absurd (LR_fr hLR _ _) z)
  refine W.widen (k := cells + 9) (n := slots + 585) (by omega) (by omega) ?_
  exact kk _ _ _ _ ⟨_, _, _, _, _, _, _, _, _, _, _, _, _, _, _, _, _, _, gd_mono hg (Nat.le_succ n), HI_mono hH (Nat.le_succ n), SI_mono hSI (Nat.le_succ n), hln, hX, hM⟩ (x_comm.1 hP) (x_commD.1 hD) hS
set_option maxHeartbeats 4000000 in
set_option maxRecDepth 100000 in
theorem cs_sent {p : Program} {l : Launch} {e : Env} {s : State} {m : MethodId} {below : List Frame} {meth : Method} {c : Code} {H : Heap} {locs : List Loc} {cells slots : Nat} {Q : State → Prop} {ls : Array Slot} {b L : Nat} {xs : Nat → Int32} {Dg : va_G} {A : Nat → Prop} {cI cC cS : ClassId} {tt : Nat → Nat} {w v : va_W} {x mm n i : Nat} (C0 : LCtx p s m c b L xs Dg A cI cC cS tt) (hI : INV cI cC cS n x mm w v) (hn : n < 512) (hl : lv_has ls 4 [(0, .ref b), (1, .ref x), (2, .ref mm), (3, .int (nI i))]) (hi : i + 6 ≤ L) (hP : va_P Dg vwCl (w ++ v) H) (hD : va_D A (w ++ v)) (hS : va_S A s.heap H locs) (hc9 : cells + 9 ≤ 600000) (hs9 : slots + 585 ≤ 7302250) (kk : ∀ (w1 v1 : va_W) (H1 : Heap) (locs1 : List Loc), INV cI cC cS (n + 1) x mm w1 v1 → va_P Dg vwCl (w1 ++ v1) H1 → va_D A (w1 ++ v1) → va_S A s.heap H1 locs1 → W p l e room_1 s m #[Value.ref b] below meth c H1 locs1 (cells + 9) (slots + 585) Q (F0 m 796 ls [])) : W p l e room_1 s m #[Value.ref b] below meth c H locs cells slots Q (F0 m 740 ls []) := by
  have hx := C0.1
  have hb := C0.2.1
  obtain ⟨D1, S1, R1, N1, G1, L1, fr, k, hcn, hf, sl, Hs, sv, sn, fl, ss, ln, tx, hg, hH, hSI, hln, hX, hM⟩ := hI
  have hk := hH.1
  have hcn4 := hH.2.1
  have hsk := hH.2.2.1 k hH.1
  have hlD := hg.2.1.1
  have hlS := hg.2.1.2.1
  have hlR := hg.2.1.2.2
  have hN4 := hg.2.2.2.2.2.1
  have hLR := hg.2.2.2.2.2.2
  have hfr : fr < 100000 := by have := hg.1; omega
  obtain ⟨Ls, hLs, hLs2⟩ := gd_Ls hg
  have hsp := (gd_sp hg).2
  refine lv_aload_n hx hb dL_law_740 rfl (lv_at hl 1 rfl) ?_
  refine lw_arg C0 hS (lv_at hl 0 rfl) (lv_at hl 3 rfl) 1 (by omega) (show Int32.ofInt 1 = nI 1 by decide) dL_law_741 dL_law_742 dL_law_743 dL_law_744 dL_law_745 ?_
  refine lw_arg C0 hS (lv_at hl 0 rfl) (lv_at hl 3 rfl) 2 (by omega) (show Int32.ofInt 2 = nI 2 by decide) dL_law_746 dL_law_747 dL_law_748 dL_law_749 dL_law_750 ?_
  refine lx_sent C0 hl.1 fr hX (xs (i + 1)) (xs (i + 2)) hN4 hfr hP hD hS hc9 hs9 ?_
  refine lv_aload_n hx hb dL_law_754 rfl (lv_at hl 2 rfl) ?_
  refine lw_arg C0 hS (lv_at hl 0 rfl) (lv_at hl 3 rfl) 1 (by omega) (show Int32.ofInt 1 = nI 1 by decide) dL_law_755 dL_law_756 dL_law_757 dL_law_758 dL_law_759 ?_
  refine lw_arg C0 hS (lv_at hl 0 rfl) (lv_at hl 3 rfl) 2 (by omega) (show Int32.ofInt 2 = nI 2 by decide) dL_law_760 dL_law_761 dL_law_762 dL_law_763 dL_law_764 ?_
  refine lm_sent C0 hl.1 (min fr 8) hM (xs (i + 1)) (xs (i + 2)) (by omega) (x_comm.1 hP) (x_commD.1 hD) hS (by omega) (by omega) ?_
  have hP := x_comm.1 hP
  have hD := x_commD.1 hD
  refine lv_icmp_eq (tgt := 796) hx hb dL_law_768 (by decide) (fun _ => ?_) (fun z => absurd (LR_se hLR _ _) z)
  refine W.widen (k := cells + 9) (n := slots + 585) (by omega) (by omega) ?_
  exact kk _ _ _ _ ⟨_, _, _, _, _, _, _, _, _, _, _, _, _, _, _, _, _, _, gd_mono hg (Nat.le_succ n), HI_mono hH (Nat.le_succ n), SI_mono hSI (Nat.le_succ n), hln, hX, hM⟩ (x_comm.1 hP) (x_commD.1 hD) hS
set_option maxHeartbeats 4000000 in
set_option maxRecDepth 100000 in
theorem cs_count {p : Program} {l : Launch} {e : Env} {s : State} {m : MethodId} {below : List Frame} {meth : Method} {c : Code} {H : Heap} {locs : List Loc} {cells slots : Nat} {Q : State → Prop} {ls : Array Slot} {b L : Nat} {xs : Nat → Int32} {Dg : va_G} {A : Nat → Prop} {cI cC cS : ClassId} {tt : Nat → Nat} {w v : va_W} {x mm n i : Nat} (C0 : LCtx p s m c b L xs Dg A cI cC cS tt) (hI : INV cI cC cS n x mm w v) (hn : n < 512) (hl : lv_has ls 4 [(0, .ref b), (1, .ref x), (2, .ref mm), (3, .int (nI i))]) (hi : i + 6 ≤ L) (hP : va_P Dg vwCl (w ++ v) H) (hD : va_D A (w ++ v)) (hS : va_S A s.heap H locs) (hc9 : cells + 9 ≤ 600000) (hs9 : slots + 585 ≤ 7302250) (kk : ∀ (w1 v1 : va_W) (H1 : Heap) (locs1 : List Loc), INV cI cC cS (n + 1) x mm w1 v1 → va_P Dg vwCl (w1 ++ v1) H1 → va_D A (w1 ++ v1) → va_S A s.heap H1 locs1 → W p l e room_1 s m #[Value.ref b] below meth c H1 locs1 (cells + 9) (slots + 585) Q (F0 m 796 ls [])) : W p l e room_1 s m #[Value.ref b] below meth c H locs cells slots Q (F0 m 773 ls []) := by
  have hx := C0.1
  have hb := C0.2.1
  obtain ⟨D1, S1, R1, N1, G1, L1, fr, k, hcn, hf, sl, Hs, sv, sn, fl, ss, ln, tx, hg, hH, hSI, hln, hX, hM⟩ := hI
  have hk := hH.1
  have hcn4 := hH.2.1
  have hsk := hH.2.2.1 k hH.1
  have hlD := hg.2.1.1
  have hlS := hg.2.1.2.1
  have hlR := hg.2.1.2.2
  have hN4 := hg.2.2.2.2.2.1
  have hLR := hg.2.2.2.2.2.2
  have hfr : fr < 100000 := by have := hg.1; omega
  obtain ⟨Ls, hLs, hLs2⟩ := gd_Ls hg
  have hsp := (gd_sp hg).2
  refine lv_aload_n hx hb dL_law_773 rfl (lv_at hl 1 rfl) ?_
  refine lw_arg C0 hS (lv_at hl 0 rfl) (lv_at hl 3 rfl) 1 (by omega) (show Int32.ofInt 1 = nI 1 by decide) dL_law_774 dL_law_775 dL_law_776 dL_law_777 dL_law_778 ?_
  refine lx_count C0 hl.1 hX (xs (i + 1)) hP hD hS hc9 hs9 ?_
  refine lv_aload_n hx hb dL_law_782 rfl (lv_at hl 2 rfl) ?_
  refine lw_arg C0 hS (lv_at hl 0 rfl) (lv_at hl 3 rfl) 1 (by omega) (show Int32.ofInt 1 = nI 1 by decide) dL_law_783 dL_law_784 dL_law_785 dL_law_786 dL_law_787 ?_
  refine lm_count C0 hl.1 hM (xs (i + 1)) hlS hlR (x_comm.1 hP) (x_commD.1 hD) hS (by omega) (by omega) ?_
  have hP := x_comm.1 hP
  have hD := x_commD.1 hD
  refine lv_icmp_eq (tgt := 796) hx hb dL_law_791 (by decide) (fun _ => ?_) (fun z => absurd rfl z)
  refine W.widen (k := cells + 9) (n := slots + 585) (by omega) (by omega) ?_
  exact kk _ _ _ _ ⟨_, _, _, _, _, _, _, _, _, _, _, _, _, _, _, _, _, _, gd_mono hg (Nat.le_succ n), HI_mono hH (Nat.le_succ n), SI_mono hSI (Nat.le_succ n), hln, hX, hM⟩ (x_comm.1 hP) (x_commD.1 hD) hS
