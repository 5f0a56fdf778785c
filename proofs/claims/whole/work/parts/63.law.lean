/-! ===== the law: its script, its calls ===== -/
def mSx (K : mK) (L : Nat) (xs : Nat → Int32) : Prop := va_X (K.2.2.1.2.2.1 mSC) L xs K.1.2.2.2.2.1 K.1.2.2.2.2.1.heap ∧ K.2.2.1.2.2.1 mSC < K.1.2.2.2.2.1.heap.size ∧ ¬ mAc K.2.2.1.2.2.2 (K.2.2.1.2.2.1 mSC)
theorem m_sld {K : mK} {M : MD} {cs sl n : Nat} {hp : mHp} {pc : Nat} {lv st : List Value} {L : Nat} {xs : Nat → Int32} (hX : mSx K L xs) {i : Int32} {k : Nat} (hd : decode (dC M) pc = .ok (.iaload, 1)) (hi : mIx i k L) (kk : mW K M cs sl n hp (pc + 1) lv (.int (xs k) :: st)) : mW K M cs sl n hp pc lv (.int i :: .ref mSC :: st) := fun hk H locs ls hR hlv => by
  refine va_sld hk.1 hk.2.1 hX.1 hX.2.1 hX.2.2 hR.2.2.1 hi.vp hd ?_
  rw [hi.cl]
  exact kk hk H locs ls hR hlv
theorem m_slen {K : mK} {M : MD} {cs sl n : Nat} {hp : mHp} {pc : Nat} {lv st : List Value} {L : Nat} {xs : Nat → Int32} (hX : mSx K L xs) (hd : decode (dC M) pc = .ok (.arraylength, 1)) (kk : mW K M cs sl n hp (pc + 1) lv (.int (nI L) :: st)) : mW K M cs sl n hp pc lv (.ref mSC :: st) := fun hk H locs ls hR hlv =>
  va_slen hk.1 hk.2.1 hX.1 hX.2.1 hX.2.2 hR.2.2.1 hd (kk hk H locs ls hR hlv)
/-- both sides tell the same -/
def INV (hp : mHp) : Prop := ∃ (kf : Int32) (S T : TS) (ia : Int32) (z : Nat) (LT : Nat → Int32) (X : SH), cAll hp kf S T z LT X ∧ mAll hp S T ia z LT X ∧ okT S ∧ okT T ∧ okS X ∧ tpOk z LT ∧ ((kf = 0 ∧ ia < 0) ∨ (kf = 1 ∧ 0 ≤ ia))
set_option maxHeartbeats 400000 in
set_option maxRecDepth 100000 in
theorem lw_c0 {K : mK} {L : Nat} {xs : Nat → Int32} {i : Nat} {hp : mHp} (hM : MATH) (hX9 : mSx K L xs) (hL : L ≤ 3072) (hi : i + 6 ≤ L) (h : INV hp) (hk9 : ∀ hp' : mHp, INV hp' → mW K D_L_law 85 2730 85 hp' 1048 [.ref mSC, .ref 0, .ref 67, .int (nI i)] []) : mW K D_L_law 85 2730 85 hp 156 [.ref mSC, .ref 0, .ref 67, .int (nI i)] [] := by
  obtain ⟨kf, S, T, ia, z, LT, X, hc, hm, hT, hT2, hO, hL9, hk⟩ := h
  refine m_aload_n dL_law_156 rfl ?_
  refine m_aload_n dL_law_157 rfl ?_
  refine m_iload_n dL_law_158 rfl ?_
  refine m_iconst (v := 1) dL_law_159 (by decide) ?_
  refine m_iadd dL_law_160 ?_
  refine m_ci (v := nI (i + 1)) (by exact nI_add i 1) ?_
  refine m_sld hX9 dL_law_161 (mIx_lit (show i + 1 < L by omega) (by omega)) ?_
  refine m_aload_n dL_law_162 rfl ?_
  refine m_iload_n dL_law_163 rfl ?_
  refine m_iconst (v := 2) dL_law_164 (by decide) ?_
  refine m_iadd dL_law_165 ?_
  refine m_ci (v := nI (i + 2)) (by exact nI_add i 2) ?_
  refine m_sld hX9 dL_law_166 (mIx_lit (show i + 2 < L by omega) (by omega)) ?_
  refine m_aload_n dL_law_167 rfl ?_
  refine m_iload_n dL_law_168 rfl ?_
  refine m_iconst (v := 3) dL_law_169 (by decide) ?_
  refine m_iadd dL_law_170 ?_
  refine m_ci (v := nI (i + 3)) (by exact nI_add i 3) ?_
  refine m_sld hX9 dL_law_171 (mIx_lit (show i + 3 < L by omega) (by omega)) ?_
  refine m_invV dL_law_172 lk_L_13 ar_X7_part (ci := 7) rfl rfl (by first | exact hc.1 | exact g67) (cw_part hc) rfl (Nat.le_of_ble_eq_true rfl) (by decide) (by decide) (by decide) (by decide) (fun v hp1 q => ?_)
  obtain ⟨rfl, hc1, gO1⟩ := q
  have hm1 : mAll hp1 S T ia z LT X := hm.of gO1
  obtain ⟨ri9, ev9, le9, ch9, ls9, rm9, sm9, ra9, fa9, C9, PA9, g67, -⟩ := id hm1.1
  show mW K _ _ _ 85 hp1 175 _ [.int _]
  refine m_aload_n dL_law_175 rfl ?_
  refine m_aload_n dL_law_176 rfl ?_
  refine m_iload_n dL_law_177 rfl ?_
  refine m_iconst (v := 1) dL_law_178 (by decide) ?_
  refine m_iadd dL_law_179 ?_
  refine m_ci (v := nI (i + 1)) (by exact nI_add i 1) ?_
  refine m_sld hX9 dL_law_180 (mIx_lit (show i + 1 < L by omega) (by omega)) ?_
  refine m_aload_n dL_law_181 rfl ?_
  refine m_iload_n dL_law_182 rfl ?_
  refine m_iconst (v := 2) dL_law_183 (by decide) ?_
  refine m_iadd dL_law_184 ?_
  refine m_ci (v := nI (i + 2)) (by exact nI_add i 2) ?_
  refine m_sld hX9 dL_law_185 (mIx_lit (show i + 2 < L by omega) (by omega)) ?_
  refine m_aload_n dL_law_186 rfl ?_
  refine m_iload_n dL_law_187 rfl ?_
  refine m_iconst (v := 3) dL_law_188 (by decide) ?_
  refine m_iadd dL_law_189 ?_
  refine m_ci (v := nI (i + 3)) (by exact nI_add i 3) ?_
  refine m_sld hX9 dL_law_190 (mIx_lit (show i + 3 < L by omega) (by omega)) ?_
  refine m_invV dL_law_191 lk_L_17 ar_X8_part (ci := 8) rfl rfl (by first | exact hc.1 | exact g67) (mw_part hm1) rfl (Nat.le_of_ble_eq_true rfl) (by decide) (by decide) (by decide) (by decide) (fun v hp2 q => ?_)
  obtain ⟨rfl, hm2, gO2⟩ := q
  have hc2 := hc1.of (hp' := hp2) gO2
  show mW K _ _ _ 85 hp2 194 _ [.int _, .int _]
  refine m_icmp_eq (t := 1048) dL_law_194 (by decide) (fun c194 => ?_) (fun c194 => ?_)
  · exact hk9 _ ⟨kf, _, T, ia, z, LT, X, hc2, hm2, ok_part hT, hT2, hO, hL9, hk⟩
  exact absurd rfl c194

set_option maxHeartbeats 400000 in
set_option maxRecDepth 100000 in
theorem lw_c1 {K : mK} {L : Nat} {xs : Nat → Int32} {i : Nat} {hp : mHp} (hM : MATH) (hX9 : mSx K L xs) (hL : L ≤ 3072) (hi : i + 6 ≤ L) (h : INV hp) (hk9 : ∀ hp' : mHp, INV hp' → mW K D_L_law 85 2730 85 hp' 1048 [.ref mSC, .ref 0, .ref 67, .int (nI i)] []) : mW K D_L_law 85 2730 85 hp 199 [.ref mSC, .ref 0, .ref 67, .int (nI i)] [] := by
  obtain ⟨kf, S, T, ia, z, LT, X, hc, hm, hT, hT2, hO, hL9, hk⟩ := h
  refine m_aload_n dL_law_199 rfl ?_
  refine m_aload_n dL_law_200 rfl ?_
  refine m_iload_n dL_law_201 rfl ?_
  refine m_iconst (v := 1) dL_law_202 (by decide) ?_
  refine m_iadd dL_law_203 ?_
  refine m_ci (v := nI (i + 1)) (by exact nI_add i 1) ?_
  refine m_sld hX9 dL_law_204 (mIx_lit (show i + 1 < L by omega) (by omega)) ?_
  refine m_invV dL_law_205 lk_L_18 ar_X7_gain (ci := 7) rfl rfl (by first | exact hc.1 | exact g67) (cw_gain hc) rfl (Nat.le_of_ble_eq_true rfl) (by decide) (by decide) (by decide) (by decide) (fun v hp1 q => ?_)
  obtain ⟨rfl, hc1, gO1⟩ := q
  have hm1 : mAll hp1 S T ia z LT X := hm.of gO1
  obtain ⟨ri9, ev9, le9, ch9, ls9, rm9, sm9, ra9, fa9, C9, PA9, g67, -⟩ := id hm1.1
  show mW K _ _ _ 85 hp1 208 _ [.int _]
  refine m_aload_n dL_law_208 rfl ?_
  refine m_aload_n dL_law_209 rfl ?_
  refine m_iload_n dL_law_210 rfl ?_
  refine m_iconst (v := 1) dL_law_211 (by decide) ?_
  refine m_iadd dL_law_212 ?_
  refine m_ci (v := nI (i + 1)) (by exact nI_add i 1) ?_
  refine m_sld hX9 dL_law_213 (mIx_lit (show i + 1 < L by omega) (by omega)) ?_
  refine m_invV dL_law_214 lk_L_22 ar_X8_gain (ci := 8) rfl rfl (by first | exact hc.1 | exact g67) (mw_gain hm1) rfl (Nat.le_of_ble_eq_true rfl) (by decide) (by decide) (by decide) (by decide) (fun v hp2 q => ?_)
  obtain ⟨rfl, hm2, gO2⟩ := q
  have hc2 := hc1.of (hp' := hp2) gO2
  show mW K _ _ _ 85 hp2 217 _ [.int _, .int _]
  refine m_icmp_eq (t := 1048) dL_law_217 (by decide) (fun c217 => ?_) (fun c217 => ?_)
  · exact hk9 _ ⟨kf, _, T, ia, z, LT, X, hc2, hm2, ok_gain hT, hT2, hO, hL9, hk⟩
  exact absurd rfl c217

set_option maxHeartbeats 400000 in
set_option maxRecDepth 100000 in
theorem lw_c2 {K : mK} {L : Nat} {xs : Nat → Int32} {i : Nat} {hp : mHp} (hM : MATH) (hX9 : mSx K L xs) (hL : L ≤ 3072) (hi : i + 6 ≤ L) (h : INV hp) (hk9 : ∀ hp' : mHp, INV hp' → mW K D_L_law 85 2730 85 hp' 1048 [.ref mSC, .ref 0, .ref 67, .int (nI i)] []) : mW K D_L_law 85 2730 85 hp 222 [.ref mSC, .ref 0, .ref 67, .int (nI i)] [] := by
  obtain ⟨kf, S, T, ia, z, LT, X, hc, hm, hT, hT2, hO, hL9, hk⟩ := h
  refine m_aload_n dL_law_222 rfl ?_
  refine m_aload_n dL_law_223 rfl ?_
  refine m_iload_n dL_law_224 rfl ?_
  refine m_iconst (v := 1) dL_law_225 (by decide) ?_
  refine m_iadd dL_law_226 ?_
  refine m_ci (v := nI (i + 1)) (by exact nI_add i 1) ?_
  refine m_sld hX9 dL_law_227 (mIx_lit (show i + 1 < L by omega) (by omega)) ?_
  refine m_aload_n dL_law_228 rfl ?_
  refine m_iload_n dL_law_229 rfl ?_
  refine m_iconst (v := 2) dL_law_230 (by decide) ?_
  refine m_iadd dL_law_231 ?_
  refine m_ci (v := nI (i + 2)) (by exact nI_add i 2) ?_
  refine m_sld hX9 dL_law_232 (mIx_lit (show i + 2 < L by omega) (by omega)) ?_
  refine m_invV dL_law_233 lk_L_23 ar_X7_told (ci := 7) rfl rfl (by first | exact hc.1 | exact g67) (cw_told hc) rfl (Nat.le_of_ble_eq_true rfl) (by decide) (by decide) (by decide) (by decide) (fun v hp1 q => ?_)
  obtain ⟨rfl, hc1, gO1⟩ := q
  have hm1 : mAll hp1 S T ia z LT X := hm.of gO1
  obtain ⟨ri9, ev9, le9, ch9, ls9, rm9, sm9, ra9, fa9, C9, PA9, g67, -⟩ := id hm1.1
  show mW K _ _ _ 85 hp1 236 _ [.int _]
  refine m_aload_n dL_law_236 rfl ?_
  refine m_aload_n dL_law_237 rfl ?_
  refine m_iload_n dL_law_238 rfl ?_
  refine m_iconst (v := 1) dL_law_239 (by decide) ?_
  refine m_iadd dL_law_240 ?_
  refine m_ci (v := nI (i + 1)) (by exact nI_add i 1) ?_
  refine m_sld hX9 dL_law_241 (mIx_lit (show i + 1 < L by omega) (by omega)) ?_
  refine m_aload_n dL_law_242 rfl ?_
  refine m_iload_n dL_law_243 rfl ?_
  refine m_iconst (v := 2) dL_law_244 (by decide) ?_
  refine m_iadd dL_law_245 ?_
  refine m_ci (v := nI (i + 2)) (by exact nI_add i 2) ?_
  refine m_sld hX9 dL_law_246 (mIx_lit (show i + 2 < L by omega) (by omega)) ?_
  refine m_invV dL_law_247 lk_L_27 ar_X8_told (ci := 8) rfl rfl (by first | exact hc.1 | exact g67) (mw_told hm1) rfl (Nat.le_of_ble_eq_true rfl) (by decide) (by decide) (by decide) (by decide) (fun v hp2 q => ?_)
  obtain ⟨rfl, hm2, gO2⟩ := q
  have hc2 := hc1.of (hp' := hp2) gO2
  show mW K _ _ _ 85 hp2 250 _ [.int _, .int _]
  refine m_icmp_eq (t := 1048) dL_law_250 (by decide) (fun c250 => ?_) (fun c250 => ?_)
  · exact hk9 _ ⟨kf, S, T, ia, z, LT, X, hc2, hm2, hT, hT2, hO, hL9, hk⟩
  exact absurd rfl c250

set_option maxHeartbeats 400000 in
set_option maxRecDepth 100000 in
theorem lw_c3 {K : mK} {L : Nat} {xs : Nat → Int32} {i : Nat} {hp : mHp} (hM : MATH) (hX9 : mSx K L xs) (hL : L ≤ 3072) (hi : i + 6 ≤ L) (h : INV hp) (hk9 : ∀ hp' : mHp, INV hp' → mW K D_L_law 85 2730 85 hp' 1048 [.ref mSC, .ref 0, .ref 67, .int (nI i)] []) : mW K D_L_law 85 2730 85 hp 255 [.ref mSC, .ref 0, .ref 67, .int (nI i)] [] := by
  obtain ⟨kf, S, T, ia, z, LT, X, hc, hm, hT, hT2, hO, hL9, hk⟩ := h
  refine m_aload_n dL_law_255 rfl ?_
  refine m_aload_n dL_law_256 rfl ?_
  refine m_iload_n dL_law_257 rfl ?_
  refine m_iconst (v := 1) dL_law_258 (by decide) ?_
  refine m_iadd dL_law_259 ?_
  refine m_ci (v := nI (i + 1)) (by exact nI_add i 1) ?_
  refine m_sld hX9 dL_law_260 (mIx_lit (show i + 1 < L by omega) (by omega)) ?_
  refine m_invV dL_law_261 lk_L_28 ar_X7_count (ci := 7) rfl rfl (by first | exact hc.1 | exact g67) (cw_count hc) rfl (Nat.le_of_ble_eq_true rfl) (by decide) (by decide) (by decide) (by decide) (fun v hp1 q => ?_)
  obtain ⟨rfl, hc1, gO1⟩ := q
  have hm1 : mAll hp1 S T ia z LT X := hm.of gO1
  obtain ⟨ri9, ev9, le9, ch9, ls9, rm9, sm9, ra9, fa9, C9, PA9, g67, -⟩ := id hm1.1
  show mW K _ _ _ 85 hp1 264 _ [.int _]
  refine m_aload_n dL_law_264 rfl ?_
  refine m_aload_n dL_law_265 rfl ?_
  refine m_iload_n dL_law_266 rfl ?_
  refine m_iconst (v := 1) dL_law_267 (by decide) ?_
  refine m_iadd dL_law_268 ?_
  refine m_ci (v := nI (i + 1)) (by exact nI_add i 1) ?_
  refine m_sld hX9 dL_law_269 (mIx_lit (show i + 1 < L by omega) (by omega)) ?_
  refine m_invV dL_law_270 lk_L_31 ar_X8_count (ci := 8) rfl rfl (by first | exact hc.1 | exact g67) (mw_count hm1 hT.1.1) rfl (Nat.le_of_ble_eq_true rfl) (by decide) (by decide) (by decide) (by decide) (fun v hp2 q => ?_)
  obtain ⟨rfl, hm2, gO2⟩ := q
  have hc2 := hc1.of (hp' := hp2) gO2
  show mW K _ _ _ 85 hp2 273 _ [.int _, .int _]
  refine m_icmp_eq (t := 1048) dL_law_273 (by decide) (fun c273 => ?_) (fun c273 => ?_)
  · exact hk9 _ ⟨kf, S, T, ia, z, LT, X, hc2, hm2, hT, hT2, hO, hL9, hk⟩
  exact absurd rfl c273

set_option maxHeartbeats 400000 in
set_option maxRecDepth 100000 in
theorem lw_c4 {K : mK} {L : Nat} {xs : Nat → Int32} {i : Nat} {hp : mHp} (hM : MATH) (hX9 : mSx K L xs) (hL : L ≤ 3072) (hi : i + 6 ≤ L) (h : INV hp) (hk9 : ∀ hp' : mHp, INV hp' → mW K D_L_law 85 2730 85 hp' 1048 [.ref mSC, .ref 0, .ref 67, .int (nI i)] []) : mW K D_L_law 85 2730 85 hp 278 [.ref mSC, .ref 0, .ref 67, .int (nI i)] [] := by
  obtain ⟨kf, S, T, ia, z, LT, X, hc, hm, hT, hT2, hO, hL9, hk⟩ := h
  refine m_aload_n dL_law_278 rfl ?_
  refine m_aload_n dL_law_279 rfl ?_
  refine m_iload_n dL_law_280 rfl ?_
  refine m_iconst (v := 1) dL_law_281 (by decide) ?_
  refine m_iadd dL_law_282 ?_
  refine m_ci (v := nI (i + 1)) (by exact nI_add i 1) ?_
  refine m_sld hX9 dL_law_283 (mIx_lit (show i + 1 < L by omega) (by omega)) ?_
  refine m_aload_n dL_law_284 rfl ?_
  refine m_iload_n dL_law_285 rfl ?_
  refine m_iconst (v := 2) dL_law_286 (by decide) ?_
  refine m_iadd dL_law_287 ?_
  refine m_ci (v := nI (i + 2)) (by exact nI_add i 2) ?_
  refine m_sld hX9 dL_law_288 (mIx_lit (show i + 2 < L by omega) (by omega)) ?_
  refine m_invV dL_law_289 lk_L_32 ar_X7_roots (ci := 7) rfl rfl (by first | exact hc.1 | exact g67) (cw_roots hc hT.1.1 hM) rfl (Nat.le_of_ble_eq_true rfl) (by decide) (by decide) (by decide) (by decide) (fun v hp1 q => ?_)
  obtain ⟨rfl, hc1, gO1⟩ := q
  have hm1 : mAll hp1 S T ia z LT X := hm.of gO1
  obtain ⟨ri9, ev9, le9, ch9, ls9, rm9, sm9, ra9, fa9, C9, PA9, g67, -⟩ := id hm1.1
  show mW K _ _ _ 85 hp1 292 _ [.int _]
  refine m_aload_n dL_law_292 rfl ?_
  refine m_aload_n dL_law_293 rfl ?_
  refine m_iload_n dL_law_294 rfl ?_
  refine m_iconst (v := 1) dL_law_295 (by decide) ?_
  refine m_iadd dL_law_296 ?_
  refine m_ci (v := nI (i + 1)) (by exact nI_add i 1) ?_
  refine m_sld hX9 dL_law_297 (mIx_lit (show i + 1 < L by omega) (by omega)) ?_
  refine m_aload_n dL_law_298 rfl ?_
  refine m_iload_n dL_law_299 rfl ?_
  refine m_iconst (v := 2) dL_law_300 (by decide) ?_
  refine m_iadd dL_law_301 ?_
  refine m_ci (v := nI (i + 2)) (by exact nI_add i 2) ?_
  refine m_sld hX9 dL_law_302 (mIx_lit (show i + 2 < L by omega) (by omega)) ?_
  refine m_invV dL_law_303 lk_L_35 ar_X8_roots (ci := 8) rfl rfl (by first | exact hc.1 | exact g67) (mw_roots hm1 hT.1.1 hM) rfl (Nat.le_of_ble_eq_true rfl) (by decide) (by decide) (by decide) (by decide) (fun v hp2 q => ?_)
  obtain ⟨rfl, hm2, gO2⟩ := q
  have hc2 := hc1.of (hp' := hp2) gO2
  show mW K _ _ _ 85 hp2 306 _ [.int _, .int _]
  refine m_icmp_eq (t := 1048) dL_law_306 (by decide) (fun c306 => ?_) (fun c306 => ?_)
  · exact hk9 _ ⟨kf, S, T, ia, z, LT, X, hc2, hm2, hT, hT2, hO, hL9, hk⟩
  exact absurd rfl c306

set_option maxHeartbeats 400000 in
set_option maxRecDepth 100000 in
theorem lw_c5 {K : mK} {L : Nat} {xs : Nat → Int32} {i : Nat} {hp : mHp} (hM : MATH) (hX9 : mSx K L xs) (hL : L ≤ 3072) (hi : i + 6 ≤ L) (h : INV hp) (hk9 : ∀ hp' : mHp, INV hp' → mW K D_L_law 85 2730 85 hp' 1048 [.ref mSC, .ref 0, .ref 67, .int (nI i)] []) : mW K D_L_law 85 2730 85 hp 311 [.ref mSC, .ref 0, .ref 67, .int (nI i)] [] := by
  obtain ⟨kf, S, T, ia, z, LT, X, hc, hm, hT, hT2, hO, hL9, hk⟩ := h
  refine m_aload_n dL_law_311 rfl ?_
  refine m_aload_n dL_law_312 rfl ?_
  refine m_iload_n dL_law_313 rfl ?_
  refine m_iconst (v := 1) dL_law_314 (by decide) ?_
  refine m_iadd dL_law_315 ?_
  refine m_ci (v := nI (i + 1)) (by exact nI_add i 1) ?_
  refine m_sld hX9 dL_law_316 (mIx_lit (show i + 1 < L by omega) (by omega)) ?_
  refine m_aload_n dL_law_317 rfl ?_
  refine m_iload_n dL_law_318 rfl ?_
  refine m_iconst (v := 2) dL_law_319 (by decide) ?_
  refine m_iadd dL_law_320 ?_
  refine m_ci (v := nI (i + 2)) (by exact nI_add i 2) ?_
  refine m_sld hX9 dL_law_321 (mIx_lit (show i + 2 < L by omega) (by omega)) ?_
  refine m_aload_n dL_law_322 rfl ?_
  refine m_iload_n dL_law_323 rfl ?_
  refine m_iconst (v := 3) dL_law_324 (by decide) ?_
  refine m_iadd dL_law_325 ?_
  refine m_ci (v := nI (i + 3)) (by exact nI_add i 3) ?_
  refine m_sld hX9 dL_law_326 (mIx_lit (show i + 3 < L by omega) (by omega)) ?_
  refine m_invV dL_law_327 lk_L_36 ar_X7_at (ci := 7) rfl rfl (by first | exact hc.1 | exact g67) (cw_at hc hT.1.1 hM) rfl (Nat.le_of_ble_eq_true rfl) (by decide) (by decide) (by decide) (by decide) (fun v hp1 q => ?_)
  obtain ⟨rfl, hc1, gO1⟩ := q
  have hm1 : mAll hp1 S T ia z LT X := hm.of gO1
  obtain ⟨ri9, ev9, le9, ch9, ls9, rm9, sm9, ra9, fa9, C9, PA9, g67, -⟩ := id hm1.1
  show mW K _ _ _ 85 hp1 330 _ [.int _]
  refine m_aload_n dL_law_330 rfl ?_
  refine m_aload_n dL_law_331 rfl ?_
  refine m_iload_n dL_law_332 rfl ?_
  refine m_iconst (v := 1) dL_law_333 (by decide) ?_
  refine m_iadd dL_law_334 ?_
  refine m_ci (v := nI (i + 1)) (by exact nI_add i 1) ?_
  refine m_sld hX9 dL_law_335 (mIx_lit (show i + 1 < L by omega) (by omega)) ?_
  refine m_aload_n dL_law_336 rfl ?_
  refine m_iload_n dL_law_337 rfl ?_
  refine m_iconst (v := 2) dL_law_338 (by decide) ?_
  refine m_iadd dL_law_339 ?_
  refine m_ci (v := nI (i + 2)) (by exact nI_add i 2) ?_
  refine m_sld hX9 dL_law_340 (mIx_lit (show i + 2 < L by omega) (by omega)) ?_
  refine m_aload_n dL_law_341 rfl ?_
  refine m_iload_n dL_law_342 rfl ?_
  refine m_iconst (v := 3) dL_law_343 (by decide) ?_
  refine m_iadd dL_law_344 ?_
  refine m_ci (v := nI (i + 3)) (by exact nI_add i 3) ?_
  refine m_sld hX9 dL_law_345 (mIx_lit (show i + 3 < L by omega) (by omega)) ?_
  refine m_invV dL_law_346 lk_L_39 ar_X8_at (ci := 8) rfl rfl (by first | exact hc.1 | exact g67) (mw_at hm1 hT.1.1 hM) rfl (Nat.le_of_ble_eq_true rfl) (by decide) (by decide) (by decide) (by decide) (fun v hp2 q => ?_)
  obtain ⟨rfl, hm2, gO2⟩ := q
  have hc2 := hc1.of (hp' := hp2) gO2
  show mW K _ _ _ 85 hp2 349 _ [.int _, .int _]
  refine m_icmp_eq (t := 1048) dL_law_349 (by decide) (fun c349 => ?_) (fun c349 => ?_)
  · exact hk9 _ ⟨kf, S, T, ia, z, LT, X, hc2, hm2, hT, hT2, hO, hL9, hk⟩
  exact absurd rfl c349

set_option maxHeartbeats 400000 in
set_option maxRecDepth 100000 in
theorem lw_c6 {K : mK} {L : Nat} {xs : Nat → Int32} {i : Nat} {hp : mHp} (hM : MATH) (hX9 : mSx K L xs) (hL : L ≤ 3072) (hi : i + 6 ≤ L) (h : INV hp) (hk9 : ∀ hp' : mHp, INV hp' → mW K D_L_law 85 2730 85 hp' 1048 [.ref mSC, .ref 0, .ref 67, .int (nI i)] []) : mW K D_L_law 85 2730 85 hp 354 [.ref mSC, .ref 0, .ref 67, .int (nI i)] [] := by
  obtain ⟨kf, S, T, ia, z, LT, X, hc, hm, hT, hT2, hO, hL9, hk⟩ := h
  refine m_aload_n dL_law_354 rfl ?_
  refine m_aload_n dL_law_355 rfl ?_
  refine m_iload_n dL_law_356 rfl ?_
  refine m_iconst (v := 1) dL_law_357 (by decide) ?_
  refine m_iadd dL_law_358 ?_
  refine m_ci (v := nI (i + 1)) (by exact nI_add i 1) ?_
  refine m_sld hX9 dL_law_359 (mIx_lit (show i + 1 < L by omega) (by omega)) ?_
  refine m_aload_n dL_law_360 rfl ?_
  refine m_iload_n dL_law_361 rfl ?_
  refine m_iconst (v := 2) dL_law_362 (by decide) ?_
  refine m_iadd dL_law_363 ?_
  refine m_ci (v := nI (i + 2)) (by exact nI_add i 2) ?_
  refine m_sld hX9 dL_law_364 (mIx_lit (show i + 2 < L by omega) (by omega)) ?_
  refine m_aload_n dL_law_365 rfl ?_
  refine m_iload_n dL_law_366 rfl ?_
  refine m_iconst (v := 3) dL_law_367 (by decide) ?_
  refine m_iadd dL_law_368 ?_
  refine m_ci (v := nI (i + 3)) (by exact nI_add i 3) ?_
  refine m_sld hX9 dL_law_369 (mIx_lit (show i + 3 < L by omega) (by omega)) ?_
  refine m_invV dL_law_370 lk_L_40 ar_X7_row (ci := 7) rfl rfl (by first | exact hc.1 | exact g67) (cw_row hc hT.1.1 hM) rfl (Nat.le_of_ble_eq_true rfl) (by decide) (by decide) (by decide) (by decide) (fun v hp1 q => ?_)
  obtain ⟨rfl, hc1, gO1⟩ := q
  have hm1 : mAll hp1 S T ia z LT X := hm.of gO1
  obtain ⟨ri9, ev9, le9, ch9, ls9, rm9, sm9, ra9, fa9, C9, PA9, g67, -⟩ := id hm1.1
  show mW K _ _ _ 85 hp1 373 _ [.long _]
  refine m_aload_n dL_law_373 rfl ?_
  refine m_aload_n dL_law_374 rfl ?_
  refine m_iload_n dL_law_375 rfl ?_
  refine m_iconst (v := 1) dL_law_376 (by decide) ?_
  refine m_iadd dL_law_377 ?_
  refine m_ci (v := nI (i + 1)) (by exact nI_add i 1) ?_
  refine m_sld hX9 dL_law_378 (mIx_lit (show i + 1 < L by omega) (by omega)) ?_
  refine m_aload_n dL_law_379 rfl ?_
  refine m_iload_n dL_law_380 rfl ?_
  refine m_iconst (v := 2) dL_law_381 (by decide) ?_
  refine m_iadd dL_law_382 ?_
  refine m_ci (v := nI (i + 2)) (by exact nI_add i 2) ?_
  refine m_sld hX9 dL_law_383 (mIx_lit (show i + 2 < L by omega) (by omega)) ?_
  refine m_aload_n dL_law_384 rfl ?_
  refine m_iload_n dL_law_385 rfl ?_
  refine m_iconst (v := 3) dL_law_386 (by decide) ?_
  refine m_iadd dL_law_387 ?_
  refine m_ci (v := nI (i + 3)) (by exact nI_add i 3) ?_
  refine m_sld hX9 dL_law_388 (mIx_lit (show i + 3 < L by omega) (by omega)) ?_
  refine m_invV dL_law_389 lk_L_44 ar_X8_row (ci := 8) rfl rfl (by first | exact hc.1 | exact g67) (mw_row hm1 hT.1.1 hM) rfl (Nat.le_of_ble_eq_true rfl) (by decide) (by decide) (by decide) (by decide) (fun v hp2 q => ?_)
  obtain ⟨rfl, hm2, gO2⟩ := q
  have hc2 := hc1.of (hp' := hp2) gO2
  show mW K _ _ _ 85 hp2 392 _ [.long _, .long _]
  refine m_lc_eq (t := 1048) dL_law_392 dL_law_393 (by decide) (fun c392 => ?_) (fun c392 => ?_)
  · exact hk9 _ ⟨kf, S, T, ia, z, LT, X, hc2, hm2, hT, hT2, hO, hL9, hk⟩
  exact absurd rfl c392

set_option maxHeartbeats 400000 in
set_option maxRecDepth 100000 in
theorem lw_c7 {K : mK} {L : Nat} {xs : Nat → Int32} {i : Nat} {hp : mHp} (hM : MATH) (hX9 : mSx K L xs) (hL : L ≤ 3072) (hi : i + 6 ≤ L) (h : INV hp) (hk9 : ∀ hp' : mHp, INV hp' → mW K D_L_law 85 2730 85 hp' 1048 [.ref mSC, .ref 0, .ref 67, .int (nI i)] []) : mW K D_L_law 85 2730 85 hp 398 [.ref mSC, .ref 0, .ref 67, .int (nI i)] [] := by
  obtain ⟨kf, S, T, ia, z, LT, X, hc, hm, hT, hT2, hO, hL9, hk⟩ := h
  refine m_aload_n dL_law_398 rfl ?_
  refine m_invV dL_law_399 lk_L_45 ar_X7_rows (ci := 7) rfl rfl (by first | exact hc.1 | exact g67) (cw_rows hc hT.1.1 hM) rfl (Nat.le_of_ble_eq_true rfl) (by decide) (by decide) (by decide) (by decide) (fun v hp1 q => ?_)
  obtain ⟨rfl, hc1, gO1⟩ := q
  have hm1 : mAll hp1 S T ia z LT X := hm.of gO1
  obtain ⟨ri9, ev9, le9, ch9, ls9, rm9, sm9, ra9, fa9, C9, PA9, g67, -⟩ := id hm1.1
  show mW K _ _ _ 85 hp1 402 _ [.int _]
  refine m_aload_n dL_law_402 rfl ?_
  refine m_invV dL_law_403 lk_L_49 ar_X8_rows (ci := 8) rfl rfl (by first | exact hc.1 | exact g67) (mw_rows hm1 hT.1.1 hM) rfl (Nat.le_of_ble_eq_true rfl) (by decide) (by decide) (by decide) (by decide) (fun v hp2 q => ?_)
  obtain ⟨rfl, hm2, gO2⟩ := q
  have hc2 := hc1.of (hp' := hp2) gO2
  show mW K _ _ _ 85 hp2 406 _ [.int _, .int _]
  refine m_icmp_eq (t := 1048) dL_law_406 (by decide) (fun c406 => ?_) (fun c406 => ?_)
  · exact hk9 _ ⟨kf, S, T, ia, z, LT, X, hc2, hm2, hT, hT2, hO, hL9, hk⟩
  exact absurd rfl c406

set_option maxHeartbeats 400000 in
set_option maxRecDepth 100000 in
theorem lw_c8 {K : mK} {L : Nat} {xs : Nat → Int32} {i : Nat} {hp : mHp} (hM : MATH) (hX9 : mSx K L xs) (hL : L ≤ 3072) (hi : i + 6 ≤ L) (h : INV hp) (hk9 : ∀ hp' : mHp, INV hp' → mW K D_L_law 85 2730 85 hp' 1048 [.ref mSC, .ref 0, .ref 67, .int (nI i)] []) : mW K D_L_law 85 2730 85 hp 411 [.ref mSC, .ref 0, .ref 67, .int (nI i)] [] := by
  obtain ⟨kf, S, T, ia, z, LT, X, hc, hm, hT, hT2, hO, hL9, hk⟩ := h
  refine m_aload_n dL_law_411 rfl ?_
  refine m_aload_n dL_law_412 rfl ?_
  refine m_iload_n dL_law_413 rfl ?_
  refine m_iconst (v := 1) dL_law_414 (by decide) ?_
  refine m_iadd dL_law_415 ?_
  refine m_ci (v := nI (i + 1)) (by exact nI_add i 1) ?_
  refine m_sld hX9 dL_law_416 (mIx_lit (show i + 1 < L by omega) (by omega)) ?_
  refine m_aload_n dL_law_417 rfl ?_
  refine m_iload_n dL_law_418 rfl ?_
  refine m_iconst (v := 2) dL_law_419 (by decide) ?_
  refine m_iadd dL_law_420 ?_
  refine m_ci (v := nI (i + 2)) (by exact nI_add i 2) ?_
  refine m_sld hX9 dL_law_421 (mIx_lit (show i + 2 < L by omega) (by omega)) ?_
  refine m_aload_n dL_law_422 rfl ?_
  refine m_iload_n dL_law_423 rfl ?_
  refine m_iconst (v := 3) dL_law_424 (by decide) ?_
  refine m_iadd dL_law_425 ?_
  refine m_ci (v := nI (i + 3)) (by exact nI_add i 3) ?_
  refine m_sld hX9 dL_law_426 (mIx_lit (show i + 3 < L by omega) (by omega)) ?_
  refine m_invV dL_law_427 lk_L_50 ar_X7_span (ci := 7) rfl rfl (by first | exact hc.1 | exact g67) (cw_span hc) rfl (Nat.le_of_ble_eq_true rfl) (by decide) (by decide) (by decide) (by decide) (fun v hp1 q => ?_)
  obtain ⟨rfl, hc1, gO1⟩ := q
  have hm1 : mAll hp1 S T ia z LT X := hm.of gO1
  obtain ⟨ri9, ev9, le9, ch9, ls9, rm9, sm9, ra9, fa9, C9, PA9, g67, -⟩ := id hm1.1
  show mW K _ _ _ 85 hp1 430 _ [.int _]
  refine m_aload_n dL_law_430 rfl ?_
  refine m_aload_n dL_law_431 rfl ?_
  refine m_iload_n dL_law_432 rfl ?_
  refine m_iconst (v := 1) dL_law_433 (by decide) ?_
  refine m_iadd dL_law_434 ?_
  refine m_ci (v := nI (i + 1)) (by exact nI_add i 1) ?_
  refine m_sld hX9 dL_law_435 (mIx_lit (show i + 1 < L by omega) (by omega)) ?_
  refine m_aload_n dL_law_436 rfl ?_
  refine m_iload_n dL_law_437 rfl ?_
  refine m_iconst (v := 2) dL_law_438 (by decide) ?_
  refine m_iadd dL_law_439 ?_
  refine m_ci (v := nI (i + 2)) (by exact nI_add i 2) ?_
  refine m_sld hX9 dL_law_440 (mIx_lit (show i + 2 < L by omega) (by omega)) ?_
  refine m_aload_n dL_law_441 rfl ?_
  refine m_iload_n dL_law_442 rfl ?_
  refine m_iconst (v := 3) dL_law_443 (by decide) ?_
  refine m_iadd dL_law_444 ?_
  refine m_ci (v := nI (i + 3)) (by exact nI_add i 3) ?_
  refine m_sld hX9 dL_law_445 (mIx_lit (show i + 3 < L by omega) (by omega)) ?_
  refine m_invV dL_law_446 lk_L_53 ar_X8_span (ci := 8) rfl rfl (by first | exact hc.1 | exact g67) (mw_span hm1 hT.1.1 hM) rfl (Nat.le_of_ble_eq_true rfl) (by decide) (by decide) (by decide) (by decide) (fun v hp2 q => ?_)
  obtain ⟨rfl, hm2, gO2⟩ := q
  have hc2 := hc1.of (hp' := hp2) gO2
  show mW K _ _ _ 85 hp2 449 _ [.int _, .int _]
  refine m_icmp_eq (t := 1048) dL_law_449 (by decide) (fun c449 => ?_) (fun c449 => ?_)
  · exact hk9 _ ⟨kf, S, T, ia, z, LT, X, hc2, hm2, hT, hT2, hO, hL9, hk⟩
  exact absurd rfl c449

set_option maxHeartbeats 400000 in
set_option maxRecDepth 100000 in
theorem lw_c9 {K : mK} {L : Nat} {xs : Nat → Int32} {i : Nat} {hp : mHp} (hM : MATH) (hX9 : mSx K L xs) (hL : L ≤ 3072) (hi : i + 6 ≤ L) (h : INV hp) (hk9 : ∀ hp' : mHp, INV hp' → mW K D_L_law 85 2730 85 hp' 1048 [.ref mSC, .ref 0, .ref 67, .int (nI i)] []) : mW K D_L_law 85 2730 85 hp 454 [.ref mSC, .ref 0, .ref 67, .int (nI i)] [] := by
  obtain ⟨kf, S, T, ia, z, LT, X, hc, hm, hT, hT2, hO, hL9, hk⟩ := h
  refine m_aload_n dL_law_454 rfl ?_
  refine m_aload_n dL_law_455 rfl ?_
  refine m_iload_n dL_law_456 rfl ?_
  refine m_iconst (v := 1) dL_law_457 (by decide) ?_
  refine m_iadd dL_law_458 ?_
  refine m_ci (v := nI (i + 1)) (by exact nI_add i 1) ?_
  refine m_sld hX9 dL_law_459 (mIx_lit (show i + 1 < L by omega) (by omega)) ?_
  refine m_aload_n dL_law_460 rfl ?_
  refine m_iload_n dL_law_461 rfl ?_
  refine m_iconst (v := 2) dL_law_462 (by decide) ?_
  refine m_iadd dL_law_463 ?_
  refine m_ci (v := nI (i + 2)) (by exact nI_add i 2) ?_
  refine m_sld hX9 dL_law_464 (mIx_lit (show i + 2 < L by omega) (by omega)) ?_
  refine m_aload_n dL_law_465 rfl ?_
  refine m_iload_n dL_law_466 rfl ?_
  refine m_iconst (v := 3) dL_law_467 (by decide) ?_
  refine m_iadd dL_law_468 ?_
  refine m_ci (v := nI (i + 3)) (by exact nI_add i 3) ?_
  refine m_sld hX9 dL_law_469 (mIx_lit (show i + 3 < L by omega) (by omega)) ?_
  refine m_invV dL_law_470 lk_L_54 ar_X7_widest (ci := 7) rfl rfl (by first | exact hc.1 | exact g67) (cw_widest hc) rfl (Nat.le_of_ble_eq_true rfl) (by decide) (by decide) (by decide) (by decide) (fun v hp1 q => ?_)
  obtain ⟨rfl, hc1, gO1⟩ := q
  have hm1 : mAll hp1 S T ia z LT X := hm.of gO1
  obtain ⟨ri9, ev9, le9, ch9, ls9, rm9, sm9, ra9, fa9, C9, PA9, g67, -⟩ := id hm1.1
  show mW K _ _ _ 85 hp1 473 _ [.int _]
  refine m_aload_n dL_law_473 rfl ?_
  refine m_aload_n dL_law_474 rfl ?_
  refine m_iload_n dL_law_475 rfl ?_
  refine m_iconst (v := 1) dL_law_476 (by decide) ?_
  refine m_iadd dL_law_477 ?_
  refine m_ci (v := nI (i + 1)) (by exact nI_add i 1) ?_
  refine m_sld hX9 dL_law_478 (mIx_lit (show i + 1 < L by omega) (by omega)) ?_
  refine m_aload_n dL_law_479 rfl ?_
  refine m_iload_n dL_law_480 rfl ?_
  refine m_iconst (v := 2) dL_law_481 (by decide) ?_
  refine m_iadd dL_law_482 ?_
  refine m_ci (v := nI (i + 2)) (by exact nI_add i 2) ?_
  refine m_sld hX9 dL_law_483 (mIx_lit (show i + 2 < L by omega) (by omega)) ?_
  refine m_aload_n dL_law_484 rfl ?_
  refine m_iload_n dL_law_485 rfl ?_
  refine m_iconst (v := 3) dL_law_486 (by decide) ?_
  refine m_iadd dL_law_487 ?_
  refine m_ci (v := nI (i + 3)) (by exact nI_add i 3) ?_
  refine m_sld hX9 dL_law_488 (mIx_lit (show i + 3 < L by omega) (by omega)) ?_
  refine m_invV dL_law_489 lk_L_57 ar_X8_widest (ci := 8) rfl rfl (by first | exact hc.1 | exact g67) (mw_widest hm1 hT.1.1 hM) rfl (Nat.le_of_ble_eq_true rfl) (by decide) (by decide) (by decide) (by decide) (fun v hp2 q => ?_)
  obtain ⟨rfl, hm2, gO2⟩ := q
  have hc2 := hc1.of (hp' := hp2) gO2
  show mW K _ _ _ 85 hp2 492 _ [.int _, .int _]
  refine m_icmp_eq (t := 1048) dL_law_492 (by decide) (fun c492 => ?_) (fun c492 => ?_)
  · exact hk9 _ ⟨kf, S, T, ia, z, LT, X, hc2, hm2, hT, hT2, hO, hL9, hk⟩
  exact absurd rfl c492

set_option maxHeartbeats 400000 in
set_option maxRecDepth 100000 in
theorem lw_c10 {K : mK} {L : Nat} {xs : Nat → Int32} {i : Nat} {hp : mHp} (hM : MATH) (hX9 : mSx K L xs) (hL : L ≤ 3072) (hi : i + 6 ≤ L) (h : INV hp) (hk9 : ∀ hp' : mHp, INV hp' → mW K D_L_law 85 2730 85 hp' 1048 [.ref mSC, .ref 0, .ref 67, .int (nI i)] []) : mW K D_L_law 85 2730 85 hp 497 [.ref mSC, .ref 0, .ref 67, .int (nI i)] [] := by
  obtain ⟨kf, S, T, ia, z, LT, X, hc, hm, hT, hT2, hO, hL9, hk⟩ := h
  refine m_aload_n dL_law_497 rfl ?_
  refine m_aload_n dL_law_498 rfl ?_
  refine m_iload_n dL_law_499 rfl ?_
  refine m_iconst (v := 1) dL_law_500 (by decide) ?_
  refine m_iadd dL_law_501 ?_
  refine m_ci (v := nI (i + 1)) (by exact nI_add i 1) ?_
  refine m_sld hX9 dL_law_502 (mIx_lit (show i + 1 < L by omega) (by omega)) ?_
  refine m_aload_n dL_law_503 rfl ?_
  refine m_iload_n dL_law_504 rfl ?_
  refine m_iconst (v := 2) dL_law_505 (by decide) ?_
  refine m_iadd dL_law_506 ?_
  refine m_ci (v := nI (i + 2)) (by exact nI_add i 2) ?_
  refine m_sld hX9 dL_law_507 (mIx_lit (show i + 2 < L by omega) (by omega)) ?_
  refine m_invV dL_law_508 lk_L_58 ar_X7_spans (ci := 7) rfl rfl (by first | exact hc.1 | exact g67) (cw_spans hc) rfl (Nat.le_of_ble_eq_true rfl) (by decide) (by decide) (by decide) (by decide) (fun v hp1 q => ?_)
  obtain ⟨rfl, hc1, gO1⟩ := q
  have hm1 : mAll hp1 S T ia z LT X := hm.of gO1
  obtain ⟨ri9, ev9, le9, ch9, ls9, rm9, sm9, ra9, fa9, C9, PA9, g67, -⟩ := id hm1.1
  show mW K _ _ _ 85 hp1 511 _ [.int _]
  refine m_aload_n dL_law_511 rfl ?_
  refine m_aload_n dL_law_512 rfl ?_
  refine m_iload_n dL_law_513 rfl ?_
  refine m_iconst (v := 1) dL_law_514 (by decide) ?_
  refine m_iadd dL_law_515 ?_
  refine m_ci (v := nI (i + 1)) (by exact nI_add i 1) ?_
  refine m_sld hX9 dL_law_516 (mIx_lit (show i + 1 < L by omega) (by omega)) ?_
  refine m_aload_n dL_law_517 rfl ?_
  refine m_iload_n dL_law_518 rfl ?_
  refine m_iconst (v := 2) dL_law_519 (by decide) ?_
  refine m_iadd dL_law_520 ?_
  refine m_ci (v := nI (i + 2)) (by exact nI_add i 2) ?_
  refine m_sld hX9 dL_law_521 (mIx_lit (show i + 2 < L by omega) (by omega)) ?_
  refine m_invV dL_law_522 lk_L_61 ar_X8_spans (ci := 8) rfl rfl (by first | exact hc.1 | exact g67) (mw_spans hm1 hT.1.1 hM) rfl (Nat.le_of_ble_eq_true rfl) (by decide) (by decide) (by decide) (by decide) (fun v hp2 q => ?_)
  obtain ⟨rfl, hm2, gO2⟩ := q
  have hc2 := hc1.of (hp' := hp2) gO2
  show mW K _ _ _ 85 hp2 525 _ [.int _, .int _]
  refine m_icmp_eq (t := 1048) dL_law_525 (by decide) (fun c525 => ?_) (fun c525 => ?_)
  · exact hk9 _ ⟨kf, S, T, ia, z, LT, X, hc2, hm2, hT, hT2, hO, hL9, hk⟩
  exact absurd rfl c525

set_option maxHeartbeats 400000 in
set_option maxRecDepth 100000 in
theorem lw_c11 {K : mK} {L : Nat} {xs : Nat → Int32} {i : Nat} {hp : mHp} (hM : MATH) (hX9 : mSx K L xs) (hL : L ≤ 3072) (hi : i + 6 ≤ L) (h : INV hp) (hk9 : ∀ hp' : mHp, INV hp' → mW K D_L_law 85 2730 85 hp' 1048 [.ref mSC, .ref 0, .ref 67, .int (nI i)] []) : mW K D_L_law 85 2730 85 hp 530 [.ref mSC, .ref 0, .ref 67, .int (nI i)] [] := by
  obtain ⟨kf, S, T, ia, z, LT, X, hc, hm, hT, hT2, hO, hL9, hk⟩ := h
  refine m_aload_n dL_law_530 rfl ?_
  refine m_aload_n dL_law_531 rfl ?_
  refine m_iload_n dL_law_532 rfl ?_
  refine m_iconst (v := 1) dL_law_533 (by decide) ?_
  refine m_iadd dL_law_534 ?_
  refine m_ci (v := nI (i + 1)) (by exact nI_add i 1) ?_
  refine m_sld hX9 dL_law_535 (mIx_lit (show i + 1 < L by omega) (by omega)) ?_
  refine m_invV dL_law_536 lk_L_62 ar_X7_corners (ci := 7) rfl rfl (by first | exact hc.1 | exact g67) (cw_corners hc) rfl (Nat.le_of_ble_eq_true rfl) (by decide) (by decide) (by decide) (by decide) (fun v hp1 q => ?_)
  obtain ⟨rfl, hc1, gO1⟩ := q
  have hm1 : mAll hp1 S T ia z LT X := hm.of gO1
  obtain ⟨ri9, ev9, le9, ch9, ls9, rm9, sm9, ra9, fa9, C9, PA9, g67, -⟩ := id hm1.1
  show mW K _ _ _ 85 hp1 539 _ [.int _]
  refine m_aload_n dL_law_539 rfl ?_
  refine m_aload_n dL_law_540 rfl ?_
  refine m_iload_n dL_law_541 rfl ?_
  refine m_iconst (v := 1) dL_law_542 (by decide) ?_
  refine m_iadd dL_law_543 ?_
  refine m_ci (v := nI (i + 1)) (by exact nI_add i 1) ?_
  refine m_sld hX9 dL_law_544 (mIx_lit (show i + 1 < L by omega) (by omega)) ?_
  refine m_invV dL_law_545 lk_L_65 ar_X8_corners (ci := 8) rfl rfl (by first | exact hc.1 | exact g67) (mw_corners hm1 hT.1.1 hM) rfl (Nat.le_of_ble_eq_true rfl) (by decide) (by decide) (by decide) (by decide) (fun v hp2 q => ?_)
  obtain ⟨rfl, hm2, gO2⟩ := q
  have hc2 := hc1.of (hp' := hp2) gO2
  show mW K _ _ _ 85 hp2 548 _ [.int _, .int _]
  refine m_icmp_eq (t := 1048) dL_law_548 (by decide) (fun c548 => ?_) (fun c548 => ?_)
  · exact hk9 _ ⟨kf, S, T, ia, z, LT, X, hc2, hm2, hT, hT2, hO, hL9, hk⟩
  exact absurd rfl c548

set_option maxHeartbeats 400000 in
set_option maxRecDepth 100000 in
theorem lw_c12 {K : mK} {L : Nat} {xs : Nat → Int32} {i : Nat} {hp : mHp} (hM : MATH) (hX9 : mSx K L xs) (hL : L ≤ 3072) (hi : i + 6 ≤ L) (h : INV hp) (hk9 : ∀ hp' : mHp, INV hp' → mW K D_L_law 85 2730 85 hp' 1048 [.ref mSC, .ref 0, .ref 67, .int (nI i)] []) : mW K D_L_law 85 2730 85 hp 553 [.ref mSC, .ref 0, .ref 67, .int (nI i)] [] := by
  obtain ⟨kf, S, T, ia, z, LT, X, hc, hm, hT, hT2, hO, hL9, hk⟩ := h
  refine m_aload_n dL_law_553 rfl ?_
  refine m_aload_n dL_law_554 rfl ?_
  refine m_iload_n dL_law_555 rfl ?_
  refine m_iconst (v := 1) dL_law_556 (by decide) ?_
  refine m_iadd dL_law_557 ?_
  refine m_ci (v := nI (i + 1)) (by exact nI_add i 1) ?_
  refine m_sld hX9 dL_law_558 (mIx_lit (show i + 1 < L by omega) (by omega)) ?_
  refine m_invV dL_law_559 lk_L_66 ar_X7_neighbours (ci := 7) rfl rfl (by first | exact hc.1 | exact g67) (cw_neighbours hc) rfl (Nat.le_of_ble_eq_true rfl) (by decide) (by decide) (by decide) (by decide) (fun v hp1 q => ?_)
  obtain ⟨rfl, hc1, gO1⟩ := q
  have hm1 : mAll hp1 S T ia z LT X := hm.of gO1
  obtain ⟨ri9, ev9, le9, ch9, ls9, rm9, sm9, ra9, fa9, C9, PA9, g67, -⟩ := id hm1.1
  show mW K _ _ _ 85 hp1 562 _ [.int _]
  refine m_aload_n dL_law_562 rfl ?_
  refine m_aload_n dL_law_563 rfl ?_
  refine m_iload_n dL_law_564 rfl ?_
  refine m_iconst (v := 1) dL_law_565 (by decide) ?_
  refine m_iadd dL_law_566 ?_
  refine m_ci (v := nI (i + 1)) (by exact nI_add i 1) ?_
  refine m_sld hX9 dL_law_567 (mIx_lit (show i + 1 < L by omega) (by omega)) ?_
  refine m_invV dL_law_568 lk_L_69 ar_X8_neighbours (ci := 8) rfl rfl (by first | exact hc.1 | exact g67) (mw_neighbours hm1 hT.1.1 hM) rfl (Nat.le_of_ble_eq_true rfl) (by decide) (by decide) (by decide) (by decide) (fun v hp2 q => ?_)
  obtain ⟨rfl, hm2, gO2⟩ := q
  have hc2 := hc1.of (hp' := hp2) gO2
  show mW K _ _ _ 85 hp2 571 _ [.int _, .int _]
  refine m_icmp_eq (t := 1048) dL_law_571 (by decide) (fun c571 => ?_) (fun c571 => ?_)
  · exact hk9 _ ⟨kf, S, T, ia, z, LT, X, hc2, hm2, hT, hT2, hO, hL9, hk⟩
  exact absurd rfl c571

set_option maxHeartbeats 400000 in
set_option maxRecDepth 100000 in
theorem lw_c13 {K : mK} {L : Nat} {xs : Nat → Int32} {i : Nat} {hp : mHp} (hM : MATH) (hX9 : mSx K L xs) (hL : L ≤ 3072) (hi : i + 6 ≤ L) (h : INV hp) (hk9 : ∀ hp' : mHp, INV hp' → mW K D_L_law 85 2730 85 hp' 1048 [.ref mSC, .ref 0, .ref 67, .int (nI i)] []) : mW K D_L_law 85 2730 85 hp 576 [.ref mSC, .ref 0, .ref 67, .int (nI i)] [] := by
  obtain ⟨kf, S, T, ia, z, LT, X, hc, hm, hT, hT2, hO, hL9, hk⟩ := h
  refine m_aload_n dL_law_576 rfl ?_
  refine m_aload_n dL_law_577 rfl ?_
  refine m_iload_n dL_law_578 rfl ?_
  refine m_iconst (v := 1) dL_law_579 (by decide) ?_
  refine m_iadd dL_law_580 ?_
  refine m_ci (v := nI (i + 1)) (by exact nI_add i 1) ?_
  refine m_sld hX9 dL_law_581 (mIx_lit (show i + 1 < L by omega) (by omega)) ?_
  refine m_aload_n dL_law_582 rfl ?_
  refine m_iload_n dL_law_583 rfl ?_
  refine m_iconst (v := 2) dL_law_584 (by decide) ?_
  refine m_iadd dL_law_585 ?_
  refine m_ci (v := nI (i + 2)) (by exact nI_add i 2) ?_
  refine m_sld hX9 dL_law_586 (mIx_lit (show i + 2 < L by omega) (by omega)) ?_
  refine m_invV dL_law_587 lk_L_70 ar_X7_off (ci := 7) rfl rfl (by first | exact hc.1 | exact g67) (cw_off hc) rfl (Nat.le_of_ble_eq_true rfl) (by decide) (by decide) (by decide) (by decide) (fun v hp1 q => ?_)
  obtain ⟨rfl, hc1, gO1⟩ := q
  have hm1 : mAll hp1 S T ia z LT X := hm.of gO1
  obtain ⟨ri9, ev9, le9, ch9, ls9, rm9, sm9, ra9, fa9, C9, PA9, g67, -⟩ := id hm1.1
  show mW K _ _ _ 85 hp1 590 _ [.int _]
  refine m_aload_n dL_law_590 rfl ?_
  refine m_aload_n dL_law_591 rfl ?_
  refine m_iload_n dL_law_592 rfl ?_
  refine m_iconst (v := 1) dL_law_593 (by decide) ?_
  refine m_iadd dL_law_594 ?_
  refine m_ci (v := nI (i + 1)) (by exact nI_add i 1) ?_
  refine m_sld hX9 dL_law_595 (mIx_lit (show i + 1 < L by omega) (by omega)) ?_
  refine m_aload_n dL_law_596 rfl ?_
  refine m_iload_n dL_law_597 rfl ?_
  refine m_iconst (v := 2) dL_law_598 (by decide) ?_
  refine m_iadd dL_law_599 ?_
  refine m_ci (v := nI (i + 2)) (by exact nI_add i 2) ?_
  refine m_sld hX9 dL_law_600 (mIx_lit (show i + 2 < L by omega) (by omega)) ?_
  refine m_invV dL_law_601 lk_L_73 ar_X8_off (ci := 8) rfl rfl (by first | exact hc.1 | exact g67) (mw_off hm1 hT.1.1 hM) rfl (Nat.le_of_ble_eq_true rfl) (by decide) (by decide) (by decide) (by decide) (fun v hp2 q => ?_)
  obtain ⟨rfl, hm2, gO2⟩ := q
  have hc2 := hc1.of (hp' := hp2) gO2
  show mW K _ _ _ 85 hp2 604 _ [.int _, .int _]
  refine m_icmp_eq (t := 1048) dL_law_604 (by decide) (fun c604 => ?_) (fun c604 => ?_)
  · exact hk9 _ ⟨kf, S, T, ia, z, LT, X, hc2, hm2, hT, hT2, hO, hL9, hk⟩
  exact absurd rfl c604

set_option maxHeartbeats 400000 in
set_option maxRecDepth 100000 in
theorem lw_c14 {K : mK} {L : Nat} {xs : Nat → Int32} {i : Nat} {hp : mHp} (hM : MATH) (hX9 : mSx K L xs) (hL : L ≤ 3072) (hi : i + 6 ≤ L) (h : INV hp) (hk9 : ∀ hp' : mHp, INV hp' → mW K D_L_law 85 2730 85 hp' 1048 [.ref mSC, .ref 0, .ref 67, .int (nI i)] []) : mW K D_L_law 85 2730 85 hp 609 [.ref mSC, .ref 0, .ref 67, .int (nI i)] [] := by
  obtain ⟨kf, S, T, ia, z, LT, X, hc, hm, hT, hT2, hO, hL9, hk⟩ := h
  refine m_aload_n dL_law_609 rfl ?_
  refine m_aload_n dL_law_610 rfl ?_
  refine m_iload_n dL_law_611 rfl ?_
  refine m_iconst (v := 1) dL_law_612 (by decide) ?_
  refine m_iadd dL_law_613 ?_
  refine m_ci (v := nI (i + 1)) (by exact nI_add i 1) ?_
  refine m_sld hX9 dL_law_614 (mIx_lit (show i + 1 < L by omega) (by omega)) ?_
  refine m_invV dL_law_615 lk_L_74 ar_X7_type (ci := 7) rfl rfl (by first | exact hc.1 | exact g67) (cw_type hc) rfl (Nat.le_of_ble_eq_true rfl) (by decide) (by decide) (by decide) (by decide) (fun v hp1 q => ?_)
  obtain ⟨rfl, hc1, gO1⟩ := q
  have hm1 : mAll hp1 S T ia z LT X := hm.of gO1
  obtain ⟨ri9, ev9, le9, ch9, ls9, rm9, sm9, ra9, fa9, C9, PA9, g67, -⟩ := id hm1.1
  show mW K _ _ _ 85 hp1 618 _ [.int _]
  refine m_aload_n dL_law_618 rfl ?_
  refine m_aload_n dL_law_619 rfl ?_
  refine m_iload_n dL_law_620 rfl ?_
  refine m_iconst (v := 1) dL_law_621 (by decide) ?_
  refine m_iadd dL_law_622 ?_
  refine m_ci (v := nI (i + 1)) (by exact nI_add i 1) ?_
  refine m_sld hX9 dL_law_623 (mIx_lit (show i + 1 < L by omega) (by omega)) ?_
  refine m_invV dL_law_624 lk_L_77 ar_X8_type (ci := 8) rfl rfl (by first | exact hc.1 | exact g67) (mw_type hm1) rfl (Nat.le_of_ble_eq_true rfl) (by decide) (by decide) (by decide) (by decide) (fun v hp2 q => ?_)
  obtain ⟨rfl, hm2, gO2⟩ := q
  have hc2 := hc1.of (hp' := hp2) gO2
  show mW K _ _ _ 85 hp2 627 _ [.int _, .int _]
  refine m_icmp_eq (t := 1048) dL_law_627 (by decide) (fun c627 => ?_) (fun c627 => ?_)
  · exact hk9 _ ⟨kf, S, T, ia, _, _, X, hc2, hm2, hT, hT2, hO, ok_type hL9, hk⟩
  exact absurd rfl c627

set_option maxHeartbeats 400000 in
set_option maxRecDepth 100000 in
theorem lw_c15 {K : mK} {L : Nat} {xs : Nat → Int32} {i : Nat} {hp : mHp} (hM : MATH) (hX9 : mSx K L xs) (hL : L ≤ 3072) (hi : i + 6 ≤ L) (h : INV hp) (hk9 : ∀ hp' : mHp, INV hp' → mW K D_L_law 85 2730 85 hp' 1048 [.ref mSC, .ref 0, .ref 67, .int (nI i)] []) : mW K D_L_law 85 2730 85 hp 632 [.ref mSC, .ref 0, .ref 67, .int (nI i)] [] := by
  obtain ⟨kf, S, T, ia, z, LT, X, hc, hm, hT, hT2, hO, hL9, hk⟩ := h
  refine m_aload_n dL_law_632 rfl ?_
  refine m_invV dL_law_633 lk_L_78 ar_X7_read (ci := 7) rfl rfl (by first | exact hc.1 | exact g67) (cw_read hc) rfl (Nat.le_of_ble_eq_true rfl) (by decide) (by decide) (by decide) (by decide) (fun v hp1 q => ?_)
  obtain ⟨fg, pw, P, rfl, hc1, gO1⟩ := q
  have hm1 : mAll hp1 S T ia z LT X := hm.of gO1
  obtain ⟨ri9, ev9, le9, ch9, ls9, rm9, sm9, ra9, fa9, C9, PA9, g67, -⟩ := id hm1.1
  show mW K _ _ _ 85 hp1 636 _ [.int _]
  refine m_aload_n dL_law_636 rfl ?_
  refine m_invV dL_law_637 lk_L_81 ar_X8_read (ci := 8) rfl rfl (by first | exact hc.1 | exact g67) (mw_read hm1 hL9 fg pw P) rfl (Nat.le_of_ble_eq_true rfl) (by decide) (by decide) (by decide) (by decide) (fun v hp2 q => ?_)
  obtain ⟨rfl, hm2, gO2⟩ := q
  have hc2 := hc1.of (hp' := hp2) gO2
  show mW K _ _ _ 85 hp2 640 _ [.int _, .int _]
  refine m_icmp_eq (t := 1048) dL_law_640 (by decide) (fun c640 => ?_) (fun c640 => ?_)
  · exact hk9 _ ⟨kf, _, T, ia, 0, LT, X, hc2, hm2, ok_readC hT, hT2, hO, (fun t ht => absurd ht (Nat.not_lt_zero _)), hk⟩
  exact absurd rfl c640

set_option maxHeartbeats 400000 in
set_option maxRecDepth 100000 in
theorem lw_c16 {K : mK} {L : Nat} {xs : Nat → Int32} {i : Nat} {hp : mHp} (hM : MATH) (hX9 : mSx K L xs) (hL : L ≤ 3072) (hi : i + 6 ≤ L) (h : INV hp) (hk9 : ∀ hp' : mHp, INV hp' → mW K D_L_law 85 2730 85 hp' 1048 [.ref mSC, .ref 0, .ref 67, .int (nI i)] []) : mW K D_L_law 85 2730 85 hp 645 [.ref mSC, .ref 0, .ref 67, .int (nI i)] [] := by
  obtain ⟨kf, S, T, ia, z, LT, X, hc, hm, hT, hT2, hO, hL9, hk⟩ := h
  refine m_aload_n dL_law_645 rfl ?_
  refine m_aload_n dL_law_646 rfl ?_
  refine m_iload_n dL_law_647 rfl ?_
  refine m_iconst (v := 1) dL_law_648 (by decide) ?_
  refine m_iadd dL_law_649 ?_
  refine m_ci (v := nI (i + 1)) (by exact nI_add i 1) ?_
  refine m_sld hX9 dL_law_650 (mIx_lit (show i + 1 < L by omega) (by omega)) ?_
  refine m_invV dL_law_651 lk_L_82 ar_X7_drift (ci := 7) rfl rfl (by first | exact hc.1 | exact g67) (cw_drift hc hT.1.2) rfl (Nat.le_of_ble_eq_true rfl) (by decide) (by decide) (by decide) (by decide) (fun v hp1 q => ?_)
  obtain ⟨rfl, hc1, gO1⟩ := q
  have hm1 : mAll hp1 S T ia z LT X := hm.of gO1
  obtain ⟨ri9, ev9, le9, ch9, ls9, rm9, sm9, ra9, fa9, C9, PA9, g67, -⟩ := id hm1.1
  show mW K _ _ _ 85 hp1 654 _ [.int _]
  refine m_aload_n dL_law_654 rfl ?_
  refine m_aload_n dL_law_655 rfl ?_
  refine m_iload_n dL_law_656 rfl ?_
  refine m_iconst (v := 1) dL_law_657 (by decide) ?_
  refine m_iadd dL_law_658 ?_
  refine m_ci (v := nI (i + 1)) (by exact nI_add i 1) ?_
  refine m_sld hX9 dL_law_659 (mIx_lit (show i + 1 < L by omega) (by omega)) ?_
  refine m_invV dL_law_660 lk_L_85 ar_X8_drift (ci := 8) rfl rfl (by first | exact hc.1 | exact g67) (mw_drift hm1 hT.1.2) rfl (Nat.le_of_ble_eq_true rfl) (by decide) (by decide) (by decide) (by decide) (fun v hp2 q => ?_)
  obtain ⟨rfl, hm2, gO2⟩ := q
  have hc2 := hc1.of (hp' := hp2) gO2
  show mW K _ _ _ 85 hp2 663 _ [.int _, .int _]
  refine m_icmp_eq (t := 1048) dL_law_663 (by decide) (fun c663 => ?_) (fun c663 => ?_)
  · exact hk9 _ ⟨kf, _, T, ia, z, LT, X, hc2, hm2, ok_drift hT, hT2, hO, hL9, hk⟩
  exact absurd rfl c663

set_option maxHeartbeats 400000 in
set_option maxRecDepth 100000 in
theorem lw_c17 {K : mK} {L : Nat} {xs : Nat → Int32} {i : Nat} {hp : mHp} (hM : MATH) (hX9 : mSx K L xs) (hL : L ≤ 3072) (hi : i + 6 ≤ L) (h : INV hp) (hk9 : ∀ hp' : mHp, INV hp' → mW K D_L_law 85 2730 85 hp' 1048 [.ref mSC, .ref 0, .ref 67, .int (nI i)] []) : mW K D_L_law 85 2730 85 hp 668 [.ref mSC, .ref 0, .ref 67, .int (nI i)] [] := by
  obtain ⟨kf, S, T, ia, z, LT, X, hc, hm, hT, hT2, hO, hL9, hk⟩ := h
  refine m_aload_n dL_law_668 rfl ?_
  refine m_invV dL_law_669 lk_L_86 ar_X7_undo (ci := 7) rfl rfl (by first | exact hc.1 | exact g67) (cw_undo hc) rfl (Nat.le_of_ble_eq_true rfl) (by decide) (by decide) (by decide) (by decide) (fun v hp1 q => ?_)
  obtain ⟨rfl, hc1, gO1⟩ := q
  have hm1 : mAll hp1 S T ia z LT X := hm.of gO1
  obtain ⟨ri9, ev9, le9, ch9, ls9, rm9, sm9, ra9, fa9, C9, PA9, g67, -⟩ := id hm1.1
  show mW K _ _ _ 85 hp1 672 _ [.int _]
  refine m_aload_n dL_law_672 rfl ?_
  refine m_invV dL_law_673 lk_L_89 ar_X8_undo (ci := 8) rfl rfl (by first | exact hc.1 | exact g67) (mw_undo hm1) rfl (Nat.le_of_ble_eq_true rfl) (by decide) (by decide) (by decide) (by decide) (fun v hp2 q => ?_)
  obtain ⟨rfl, hm2, gO2⟩ := q
  have hc2 := hc1.of (hp' := hp2) gO2
  show mW K _ _ _ 85 hp2 676 _ [.int _, .int _]
  refine m_icmp_eq (t := 1048) dL_law_676 (by decide) (fun c676 => ?_) (fun c676 => ?_)
  · exact hk9 _ ⟨kf, _, T, ia, z, LT, X, hc2, hm2, ok_undo hT, hT2, hO, hL9, hk⟩
  exact absurd rfl c676

set_option maxHeartbeats 400000 in
set_option maxRecDepth 100000 in
theorem lw_c18 {K : mK} {L : Nat} {xs : Nat → Int32} {i : Nat} {hp : mHp} (hM : MATH) (hX9 : mSx K L xs) (hL : L ≤ 3072) (hi : i + 6 ≤ L) (h : INV hp) (hk9 : ∀ hp' : mHp, INV hp' → mW K D_L_law 85 2730 85 hp' 1048 [.ref mSC, .ref 0, .ref 67, .int (nI i)] []) : mW K D_L_law 85 2730 85 hp 681 [.ref mSC, .ref 0, .ref 67, .int (nI i)] [] := by
  obtain ⟨kf, S, T, ia, z, LT, X, hc, hm, hT, hT2, hO, hL9, hk⟩ := h
  refine m_aload_n dL_law_681 rfl ?_
  refine m_aload_n dL_law_682 rfl ?_
  refine m_iload_n dL_law_683 rfl ?_
  refine m_iconst (v := 1) dL_law_684 (by decide) ?_
  refine m_iadd dL_law_685 ?_
  refine m_ci (v := nI (i + 1)) (by exact nI_add i 1) ?_
  refine m_sld hX9 dL_law_686 (mIx_lit (show i + 1 < L by omega) (by omega)) ?_
  refine m_invV dL_law_687 lk_L_90 ar_X7_seed (ci := 7) rfl rfl (by first | exact hc.1 | exact g67) (cw_seed hc) rfl (Nat.le_of_ble_eq_true rfl) (by decide) (by decide) (by decide) (by decide) (fun v hp1 q => ?_)
  obtain ⟨rfl, hc1, gO1⟩ := q
  have hm1 : mAll hp1 S T ia z LT X := hm.of gO1
  obtain ⟨ri9, ev9, le9, ch9, ls9, rm9, sm9, ra9, fa9, C9, PA9, g67, -⟩ := id hm1.1
  show mW K _ _ _ 85 hp1 690 _ [.int _]
  refine m_aload_n dL_law_690 rfl ?_
  refine m_aload_n dL_law_691 rfl ?_
  refine m_iload_n dL_law_692 rfl ?_
  refine m_iconst (v := 1) dL_law_693 (by decide) ?_
  refine m_iadd dL_law_694 ?_
  refine m_ci (v := nI (i + 1)) (by exact nI_add i 1) ?_
  refine m_sld hX9 dL_law_695 (mIx_lit (show i + 1 < L by omega) (by omega)) ?_
  refine m_invV dL_law_696 lk_L_93 ar_X8_seed (ci := 8) rfl rfl (by first | exact hc.1 | exact g67) (mw_seed hm1) rfl (Nat.le_of_ble_eq_true rfl) (by decide) (by decide) (by decide) (by decide) (fun v hp2 q => ?_)
  obtain ⟨rfl, hm2, gO2⟩ := q
  have hc2 := hc1.of (hp' := hp2) gO2
  show mW K _ _ _ 85 hp2 699 _ [.int _, .int _]
  refine m_icmp_eq (t := 1048) dL_law_699 (by decide) (fun c699 => ?_) (fun c699 => ?_)
  · exact hk9 _ ⟨kf, _, T, ia, z, LT, X, hc2, hm2, ok_seed hT, hT2, hO, hL9, hk⟩
  exact absurd rfl c699

set_option maxHeartbeats 400000 in
set_option maxRecDepth 100000 in
theorem lw_c19 {K : mK} {L : Nat} {xs : Nat → Int32} {i : Nat} {hp : mHp} (hM : MATH) (hX9 : mSx K L xs) (hL : L ≤ 3072) (hi : i + 6 ≤ L) (h : INV hp) (hk9 : ∀ hp' : mHp, INV hp' → mW K D_L_law 85 2730 85 hp' 1048 [.ref mSC, .ref 0, .ref 67, .int (nI i)] []) : mW K D_L_law 85 2730 85 hp 704 [.ref mSC, .ref 0, .ref 67, .int (nI i)] [] := by
  obtain ⟨kf, S, T, ia, z, LT, X, hc, hm, hT, hT2, hO, hL9, hk⟩ := h
  refine m_aload_n dL_law_704 rfl ?_
  refine m_invV dL_law_705 lk_L_94 ar_X7_image (ci := 7) rfl rfl (by first | exact hc.1 | exact g67) (cw_image hc) rfl (Nat.le_of_ble_eq_true rfl) (by decide) (by decide) (by decide) (by decide) (fun v hp1 q => ?_)
  obtain ⟨rfl, hc1, gO1⟩ := q
  have hm1 : mAll hp1 S T ia z LT X := hm.of gO1
  obtain ⟨ri9, ev9, le9, ch9, ls9, rm9, sm9, ra9, fa9, C9, PA9, g67, -⟩ := id hm1.1
  show mW K _ _ _ 85 hp1 708 _ [.int _]
  refine m_aload_n dL_law_708 rfl ?_
  refine m_invV dL_law_709 lk_L_97 ar_X8_image (ci := 8) rfl rfl (by first | exact hc.1 | exact g67) (mw_image hm1) rfl (Nat.le_of_ble_eq_true rfl) (by decide) (by decide) (by decide) (by decide) (fun v hp2 q => ?_)
  obtain ⟨rfl, hm2, gO2⟩ := q
  have hc2 := hc1.of (hp' := hp2) gO2
  show mW K _ _ _ 85 hp2 712 _ [.int _, .int _]
  refine m_icmp_eq (t := 1048) dL_law_712 (by decide) (fun c712 => ?_) (fun c712 => ?_)
  rotate_left
  · exact absurd rfl c712
  have hia : 0 ≤ nI S.2.1 := (by have y := (id hm.1); obtain ⟨_, _, _, _, _, _, _, _, _, _, _, _, _, _, y6, -⟩ := y; rw [Int32.le_iff_toInt_le, nI_toInt (by omega), show (0 : Int32).toInt = 0 by decide]; omega)
  exact hk9 _ ⟨1, S, S, nI S.2.1, z, LT, X, hc2, hm2, hT, hT, hO, hL9, Or.inr ⟨rfl, hia⟩⟩

set_option maxHeartbeats 400000 in
set_option maxRecDepth 100000 in
theorem lw_c20 {K : mK} {L : Nat} {xs : Nat → Int32} {i : Nat} {hp : mHp} (hM : MATH) (hX9 : mSx K L xs) (hL : L ≤ 3072) (hi : i + 6 ≤ L) (h : INV hp) (hk9 : ∀ hp' : mHp, INV hp' → mW K D_L_law 85 2730 85 hp' 1048 [.ref mSC, .ref 0, .ref 67, .int (nI i)] []) : mW K D_L_law 85 2730 85 hp 717 [.ref mSC, .ref 0, .ref 67, .int (nI i)] [] := by
  obtain ⟨kf, S, T, ia, z, LT, X, hc, hm, hT, hT2, hO, hL9, hk⟩ := h
  refine m_aload_n dL_law_717 rfl ?_
  refine m_invV dL_law_718 lk_L_98 ar_X7_restore (ci := 7) rfl rfl (by first | exact hc.1 | exact g67) (cw_restore hc) rfl (Nat.le_of_ble_eq_true rfl) (by decide) (by decide) (by decide) (by decide) (fun v hp1 q => ?_)
  obtain ⟨rfl, hc1, gO1⟩ := q
  have hm1 : mAll hp1 S T ia z LT X := hm.of gO1
  obtain ⟨ri9, ev9, le9, ch9, ls9, rm9, sm9, ra9, fa9, C9, PA9, g67, -⟩ := id hm1.1
  show mW K _ _ _ 85 hp1 721 _ [.int _]
  refine m_aload_n dL_law_721 rfl ?_
  refine m_invV dL_law_722 lk_L_101 ar_X8_restore (ci := 8) rfl rfl (by first | exact hc.1 | exact g67) (mw_restore hm1) rfl (Nat.le_of_ble_eq_true rfl) (by decide) (by decide) (by decide) (by decide) (fun v hp2 q => ?_)
  obtain ⟨rfl, hm2, gO2⟩ := q
  have hc2 := hc1.of (hp' := hp2) gO2
  have e9 : (if 0 ≤ ia then (1 : Int32) else -4) = if kf = 0 then -4 else 1 := hk.elim (fun y => (by rw [y.1, if_neg (Int32.not_le.mpr y.2), if_pos rfl])) (fun y => (by rw [y.1, if_pos y.2, if_neg (by decide)]))
  have e8 : (if 0 ≤ ia then T else S) = if kf = 0 then S else T := hk.elim (fun y => (by rw [y.1, if_neg (Int32.not_le.mpr y.2), if_pos rfl])) (fun y => (by rw [y.1, if_pos y.2, if_neg (by decide)]))
  rw [e9]
  rw [e8] at hm2
  show mW K _ _ _ 85 hp2 725 _ [.int _, .int _]
  refine m_icmp_eq (t := 1048) dL_law_725 (by decide) (fun c725 => ?_) (fun c725 => ?_)
  · exact hk9 _ ⟨kf, _, T, ia, z, LT, X, hc2, hm2, (by by_cases y : kf = 0; (rw [if_pos y]; exact hT); (rw [if_neg y]; exact hT2)), hT2, hO, hL9, hk⟩
  exact absurd rfl c725

set_option maxHeartbeats 400000 in
set_option maxRecDepth 100000 in
theorem lw_c21 {K : mK} {L : Nat} {xs : Nat → Int32} {i : Nat} {hp : mHp} (hM : MATH) (hX9 : mSx K L xs) (hL : L ≤ 3072) (hi : i + 6 ≤ L) (h : INV hp) (hk9 : ∀ hp' : mHp, INV hp' → mW K D_L_law 85 2730 85 hp' 1048 [.ref mSC, .ref 0, .ref 67, .int (nI i)] []) : mW K D_L_law 85 2730 85 hp 730 [.ref mSC, .ref 0, .ref 67, .int (nI i)] [] := by
  obtain ⟨kf, S, T, ia, z, LT, X, hc, hm, hT, hT2, hO, hL9, hk⟩ := h
  refine m_aload_n dL_law_730 rfl ?_
  refine m_aload_n dL_law_731 rfl ?_
  refine m_iload_n dL_law_732 rfl ?_
  refine m_iconst (v := 1) dL_law_733 (by decide) ?_
  refine m_iadd dL_law_734 ?_
  refine m_ci (v := nI (i + 1)) (by exact nI_add i 1) ?_
  refine m_sld hX9 dL_law_735 (mIx_lit (show i + 1 < L by omega) (by omega)) ?_
  refine m_aload_n dL_law_736 rfl ?_
  refine m_iload_n dL_law_737 rfl ?_
  refine m_iconst (v := 2) dL_law_738 (by decide) ?_
  refine m_iadd dL_law_739 ?_
  refine m_ci (v := nI (i + 2)) (by exact nI_add i 2) ?_
  refine m_sld hX9 dL_law_740 (mIx_lit (show i + 2 < L by omega) (by omega)) ?_
  refine m_aload_n dL_law_741 rfl ?_
  refine m_iload_n dL_law_742 rfl ?_
  refine m_iconst (v := 3) dL_law_743 (by decide) ?_
  refine m_iadd dL_law_744 ?_
  refine m_ci (v := nI (i + 3)) (by exact nI_add i 3) ?_
  refine m_sld hX9 dL_law_745 (mIx_lit (show i + 3 < L by omega) (by omega)) ?_
  refine m_aload_n dL_law_746 rfl ?_
  refine m_iload_n dL_law_747 rfl ?_
  refine m_iconst (v := 4) dL_law_748 (by decide) ?_
  refine m_iadd dL_law_749 ?_
  refine m_ci (v := nI (i + 4)) (by exact nI_add i 4) ?_
  refine m_sld hX9 dL_law_750 (mIx_lit (show i + 4 < L by omega) (by omega)) ?_
  refine m_invV dL_law_751 lk_L_102 ar_X7_judged (ci := 7) rfl rfl (by first | exact hc.1 | exact g67) (cw_judged hc hO) rfl (Nat.le_of_ble_eq_true rfl) (by decide) (by decide) (by decide) (by decide) (fun v hp1 q => ?_)
  obtain ⟨rfl, hc1, gO1⟩ := q
  have hm1 : mAll hp1 S T ia z LT X := hm.of gO1
  obtain ⟨ri9, ev9, le9, ch9, ls9, rm9, sm9, ra9, fa9, C9, PA9, g67, -⟩ := id hm1.1
  show mW K _ _ _ 85 hp1 754 _ [.int _]
  refine m_aload_n dL_law_754 rfl ?_
  refine m_aload_n dL_law_755 rfl ?_
  refine m_iload_n dL_law_756 rfl ?_
  refine m_iconst (v := 1) dL_law_757 (by decide) ?_
  refine m_iadd dL_law_758 ?_
  refine m_ci (v := nI (i + 1)) (by exact nI_add i 1) ?_
  refine m_sld hX9 dL_law_759 (mIx_lit (show i + 1 < L by omega) (by omega)) ?_
  refine m_aload_n dL_law_760 rfl ?_
  refine m_iload_n dL_law_761 rfl ?_
  refine m_iconst (v := 2) dL_law_762 (by decide) ?_
  refine m_iadd dL_law_763 ?_
  refine m_ci (v := nI (i + 2)) (by exact nI_add i 2) ?_
  refine m_sld hX9 dL_law_764 (mIx_lit (show i + 2 < L by omega) (by omega)) ?_
  refine m_aload_n dL_law_765 rfl ?_
  refine m_iload_n dL_law_766 rfl ?_
  refine m_iconst (v := 3) dL_law_767 (by decide) ?_
  refine m_iadd dL_law_768 ?_
  refine m_ci (v := nI (i + 3)) (by exact nI_add i 3) ?_
  refine m_sld hX9 dL_law_769 (mIx_lit (show i + 3 < L by omega) (by omega)) ?_
  refine m_aload_n dL_law_770 rfl ?_
  refine m_iload_n dL_law_771 rfl ?_
  refine m_iconst (v := 4) dL_law_772 (by decide) ?_
  refine m_iadd dL_law_773 ?_
  refine m_ci (v := nI (i + 4)) (by exact nI_add i 4) ?_
  refine m_sld hX9 dL_law_774 (mIx_lit (show i + 4 < L by omega) (by omega)) ?_
  refine m_invV dL_law_775 lk_L_106 ar_X8_judged (ci := 8) rfl rfl (by first | exact hc.1 | exact g67) (mw_judged hm1 hO hM) rfl (Nat.le_of_ble_eq_true rfl) (by decide) (by decide) (by decide) (by decide) (fun v hp2 q => ?_)
  obtain ⟨rfl, hm2, gO2⟩ := q
  have hc2 := hc1.of (hp' := hp2) gO2
  show mW K _ _ _ 85 hp2 778 _ [.int _, .int _]
  refine m_icmp_eq (t := 1048) dL_law_778 (by decide) (fun c778 => ?_) (fun c778 => ?_)
  · exact hk9 _ ⟨kf, S, T, ia, z, LT, X, hc2, hm2, hT, hT2, hO, hL9, hk⟩
  exact absurd rfl c778

set_option maxHeartbeats 400000 in
set_option maxRecDepth 100000 in
theorem lw_c22 {K : mK} {L : Nat} {xs : Nat → Int32} {i : Nat} {hp : mHp} (hM : MATH) (hX9 : mSx K L xs) (hL : L ≤ 3072) (hi : i + 6 ≤ L) (h : INV hp) (hk9 : ∀ hp' : mHp, INV hp' → mW K D_L_law 85 2730 85 hp' 1048 [.ref mSC, .ref 0, .ref 67, .int (nI i)] []) : mW K D_L_law 85 2730 85 hp 783 [.ref mSC, .ref 0, .ref 67, .int (nI i)] [] := by
  obtain ⟨kf, S, T, ia, z, LT, X, hc, hm, hT, hT2, hO, hL9, hk⟩ := h
  refine m_aload_n dL_law_783 rfl ?_
  refine m_aload_n dL_law_784 rfl ?_
  refine m_iload_n dL_law_785 rfl ?_
  refine m_iconst (v := 1) dL_law_786 (by decide) ?_
  refine m_iadd dL_law_787 ?_
  refine m_ci (v := nI (i + 1)) (by exact nI_add i 1) ?_
  refine m_sld hX9 dL_law_788 (mIx_lit (show i + 1 < L by omega) (by omega)) ?_
  refine m_aload_n dL_law_789 rfl ?_
  refine m_iload_n dL_law_790 rfl ?_
  refine m_iconst (v := 2) dL_law_791 (by decide) ?_
  refine m_iadd dL_law_792 ?_
  refine m_ci (v := nI (i + 2)) (by exact nI_add i 2) ?_
  refine m_sld hX9 dL_law_793 (mIx_lit (show i + 2 < L by omega) (by omega)) ?_
  refine m_aload_n dL_law_794 rfl ?_
  refine m_iload_n dL_law_795 rfl ?_
  refine m_iconst (v := 3) dL_law_796 (by decide) ?_
  refine m_iadd dL_law_797 ?_
  refine m_ci (v := nI (i + 3)) (by exact nI_add i 3) ?_
  refine m_sld hX9 dL_law_798 (mIx_lit (show i + 3 < L by omega) (by omega)) ?_
  refine m_aload_n dL_law_799 rfl ?_
  refine m_iload_n dL_law_800 rfl ?_
  refine m_iconst (v := 4) dL_law_801 (by decide) ?_
  refine m_iadd dL_law_802 ?_
  refine m_ci (v := nI (i + 4)) (by exact nI_add i 4) ?_
  refine m_sld hX9 dL_law_803 (mIx_lit (show i + 4 < L by omega) (by omega)) ?_
  refine m_invV dL_law_804 lk_L_107 ar_X7_film (ci := 7) rfl rfl (by first | exact hc.1 | exact g67) (cw_film hc hO) rfl (Nat.le_of_ble_eq_true rfl) (by decide) (by decide) (by decide) (by decide) (fun v hp1 q => ?_)
  obtain ⟨rfl, hc1, gO1⟩ := q
  have hm1 : mAll hp1 S T ia z LT X := hm.of gO1
  obtain ⟨ri9, ev9, le9, ch9, ls9, rm9, sm9, ra9, fa9, C9, PA9, g67, -⟩ := id hm1.1
  show mW K _ _ _ 85 hp1 807 _ [.int _]
  refine m_aload_n dL_law_807 rfl ?_
  refine m_aload_n dL_law_808 rfl ?_
  refine m_iload_n dL_law_809 rfl ?_
  refine m_iconst (v := 1) dL_law_810 (by decide) ?_
  refine m_iadd dL_law_811 ?_
  refine m_ci (v := nI (i + 1)) (by exact nI_add i 1) ?_
  refine m_sld hX9 dL_law_812 (mIx_lit (show i + 1 < L by omega) (by omega)) ?_
  refine m_aload_n dL_law_813 rfl ?_
  refine m_iload_n dL_law_814 rfl ?_
  refine m_iconst (v := 2) dL_law_815 (by decide) ?_
  refine m_iadd dL_law_816 ?_
  refine m_ci (v := nI (i + 2)) (by exact nI_add i 2) ?_
  refine m_sld hX9 dL_law_817 (mIx_lit (show i + 2 < L by omega) (by omega)) ?_
  refine m_aload_n dL_law_818 rfl ?_
  refine m_iload_n dL_law_819 rfl ?_
  refine m_iconst (v := 3) dL_law_820 (by decide) ?_
  refine m_iadd dL_law_821 ?_
  refine m_ci (v := nI (i + 3)) (by exact nI_add i 3) ?_
  refine m_sld hX9 dL_law_822 (mIx_lit (show i + 3 < L by omega) (by omega)) ?_
  refine m_aload_n dL_law_823 rfl ?_
  refine m_iload_n dL_law_824 rfl ?_
  refine m_iconst (v := 4) dL_law_825 (by decide) ?_
  refine m_iadd dL_law_826 ?_
  refine m_ci (v := nI (i + 4)) (by exact nI_add i 4) ?_
  refine m_sld hX9 dL_law_827 (mIx_lit (show i + 4 < L by omega) (by omega)) ?_
  refine m_invV dL_law_828 lk_L_110 ar_X8_film (ci := 8) rfl rfl (by first | exact hc.1 | exact g67) (mw_film hm1 hO) rfl (Nat.le_of_ble_eq_true rfl) (by decide) (by decide) (by decide) (by decide) (fun v hp2 q => ?_)
  obtain ⟨rfl, hm2, gO2⟩ := q
  have hc2 := hc1.of (hp' := hp2) gO2
  show mW K _ _ _ 85 hp2 831 _ [.int _, .int _]
  refine m_icmp_eq (t := 1048) dL_law_831 (by decide) (fun c831 => ?_) (fun c831 => ?_)
  · exact hk9 _ ⟨kf, S, T, ia, z, LT, _, hc2, hm2, hT, hT2, ok_film hO, hL9, hk⟩
  exact absurd rfl c831

set_option maxHeartbeats 400000 in
set_option maxRecDepth 100000 in
theorem lw_c23 {K : mK} {L : Nat} {xs : Nat → Int32} {i : Nat} {hp : mHp} (hM : MATH) (hX9 : mSx K L xs) (hL : L ≤ 3072) (hi : i + 6 ≤ L) (h : INV hp) (hk9 : ∀ hp' : mHp, INV hp' → mW K D_L_law 85 2730 85 hp' 1048 [.ref mSC, .ref 0, .ref 67, .int (nI i)] []) : mW K D_L_law 85 2730 85 hp 836 [.ref mSC, .ref 0, .ref 67, .int (nI i)] [] := by
  obtain ⟨kf, S, T, ia, z, LT, X, hc, hm, hT, hT2, hO, hL9, hk⟩ := h
  refine m_aload_n dL_law_836 rfl ?_
  refine m_aload_n dL_law_837 rfl ?_
  refine m_iload_n dL_law_838 rfl ?_
  refine m_iconst (v := 1) dL_law_839 (by decide) ?_
  refine m_iadd dL_law_840 ?_
  refine m_ci (v := nI (i + 1)) (by exact nI_add i 1) ?_
  refine m_sld hX9 dL_law_841 (mIx_lit (show i + 1 < L by omega) (by omega)) ?_
  refine m_aload_n dL_law_842 rfl ?_
  refine m_iload_n dL_law_843 rfl ?_
  refine m_iconst (v := 2) dL_law_844 (by decide) ?_
  refine m_iadd dL_law_845 ?_
  refine m_ci (v := nI (i + 2)) (by exact nI_add i 2) ?_
  refine m_sld hX9 dL_law_846 (mIx_lit (show i + 2 < L by omega) (by omega)) ?_
  refine m_aload_n dL_law_847 rfl ?_
  refine m_iload_n dL_law_848 rfl ?_
  refine m_iconst (v := 3) dL_law_849 (by decide) ?_
  refine m_iadd dL_law_850 ?_
  refine m_ci (v := nI (i + 3)) (by exact nI_add i 3) ?_
  refine m_sld hX9 dL_law_851 (mIx_lit (show i + 3 < L by omega) (by omega)) ?_
  refine m_invV dL_law_852 lk_L_111 ar_X7_sheet (ci := 7) rfl rfl (by first | exact hc.1 | exact g67) (cw_sheet hc) rfl (Nat.le_of_ble_eq_true rfl) (by decide) (by decide) (by decide) (by decide) (fun v hp1 q => ?_)
  obtain ⟨rfl, hc1, gO1⟩ := q
  have hm1 : mAll hp1 S T ia z LT X := hm.of gO1
  obtain ⟨ri9, ev9, le9, ch9, ls9, rm9, sm9, ra9, fa9, C9, PA9, g67, -⟩ := id hm1.1
  show mW K _ _ _ 85 hp1 855 _ [.int _]
  refine m_aload_n dL_law_855 rfl ?_
  refine m_aload_n dL_law_856 rfl ?_
  refine m_iload_n dL_law_857 rfl ?_
  refine m_iconst (v := 1) dL_law_858 (by decide) ?_
  refine m_iadd dL_law_859 ?_
  refine m_ci (v := nI (i + 1)) (by exact nI_add i 1) ?_
  refine m_sld hX9 dL_law_860 (mIx_lit (show i + 1 < L by omega) (by omega)) ?_
  refine m_aload_n dL_law_861 rfl ?_
  refine m_iload_n dL_law_862 rfl ?_
  refine m_iconst (v := 2) dL_law_863 (by decide) ?_
  refine m_iadd dL_law_864 ?_
  refine m_ci (v := nI (i + 2)) (by exact nI_add i 2) ?_
  refine m_sld hX9 dL_law_865 (mIx_lit (show i + 2 < L by omega) (by omega)) ?_
  refine m_aload_n dL_law_866 rfl ?_
  refine m_iload_n dL_law_867 rfl ?_
  refine m_iconst (v := 3) dL_law_868 (by decide) ?_
  refine m_iadd dL_law_869 ?_
  refine m_ci (v := nI (i + 3)) (by exact nI_add i 3) ?_
  refine m_sld hX9 dL_law_870 (mIx_lit (show i + 3 < L by omega) (by omega)) ?_
  refine m_invV dL_law_871 lk_L_114 ar_X8_sheet (ci := 8) rfl rfl (by first | exact hc.1 | exact g67) (mw_sheet hm1 hO) rfl (Nat.le_of_ble_eq_true rfl) (by decide) (by decide) (by decide) (by decide) (fun v hp2 q => ?_)
  obtain ⟨rfl, hm2, gO2⟩ := q
  have hc2 := hc1.of (hp' := hp2) gO2
  show mW K _ _ _ 85 hp2 874 _ [.int _, .int _]
  refine m_icmp_eq (t := 1048) dL_law_874 (by decide) (fun c874 => ?_) (fun c874 => ?_)
  · exact hk9 _ ⟨kf, S, T, ia, z, LT, _, hc2, hm2, hT, hT2, ok_sheet hO, hL9, hk⟩
  exact absurd rfl c874

set_option maxHeartbeats 400000 in
set_option maxRecDepth 100000 in
theorem lw_c24 {K : mK} {L : Nat} {xs : Nat → Int32} {i : Nat} {hp : mHp} (hM : MATH) (hX9 : mSx K L xs) (hL : L ≤ 3072) (hi : i + 6 ≤ L) (h : INV hp) (hk9 : ∀ hp' : mHp, INV hp' → mW K D_L_law 85 2730 85 hp' 1048 [.ref mSC, .ref 0, .ref 67, .int (nI i)] []) : mW K D_L_law 85 2730 85 hp 879 [.ref mSC, .ref 0, .ref 67, .int (nI i)] [] := by
  obtain ⟨kf, S, T, ia, z, LT, X, hc, hm, hT, hT2, hO, hL9, hk⟩ := h
  refine m_aload_n dL_law_879 rfl ?_
  refine m_aload_n dL_law_880 rfl ?_
  refine m_iload_n dL_law_881 rfl ?_
  refine m_iconst (v := 1) dL_law_882 (by decide) ?_
  refine m_iadd dL_law_883 ?_
  refine m_ci (v := nI (i + 1)) (by exact nI_add i 1) ?_
  refine m_sld hX9 dL_law_884 (mIx_lit (show i + 1 < L by omega) (by omega)) ?_
  refine m_invV dL_law_885 lk_L_115 ar_X7_drop (ci := 7) rfl rfl (by first | exact hc.1 | exact g67) (cw_drop hc) rfl (Nat.le_of_ble_eq_true rfl) (by decide) (by decide) (by decide) (by decide) (fun v hp1 q => ?_)
  obtain ⟨rfl, hc1, gO1⟩ := q
  have hm1 : mAll hp1 S T ia z LT X := hm.of gO1
  obtain ⟨ri9, ev9, le9, ch9, ls9, rm9, sm9, ra9, fa9, C9, PA9, g67, -⟩ := id hm1.1
  show mW K _ _ _ 85 hp1 888 _ [.int _]
  refine m_aload_n dL_law_888 rfl ?_
  refine m_aload_n dL_law_889 rfl ?_
  refine m_iload_n dL_law_890 rfl ?_
  refine m_iconst (v := 1) dL_law_891 (by decide) ?_
  refine m_iadd dL_law_892 ?_
  refine m_ci (v := nI (i + 1)) (by exact nI_add i 1) ?_
  refine m_sld hX9 dL_law_893 (mIx_lit (show i + 1 < L by omega) (by omega)) ?_
  refine m_invV dL_law_894 lk_L_118 ar_X8_drop (ci := 8) rfl rfl (by first | exact hc.1 | exact g67) (mw_drop hm1) rfl (Nat.le_of_ble_eq_true rfl) (by decide) (by decide) (by decide) (by decide) (fun v hp2 q => ?_)
  obtain ⟨rfl, hm2, gO2⟩ := q
  have hc2 := hc1.of (hp' := hp2) gO2
  show mW K _ _ _ 85 hp2 897 _ [.int _, .int _]
  refine m_icmp_eq (t := 1048) dL_law_897 (by decide) (fun c897 => ?_) (fun c897 => ?_)
  · exact hk9 _ ⟨kf, S, T, ia, z, LT, _, hc2, hm2, hT, hT2, ok_drop hO, hL9, hk⟩
  exact absurd rfl c897

set_option maxHeartbeats 400000 in
set_option maxRecDepth 100000 in
theorem lw_c25 {K : mK} {L : Nat} {xs : Nat → Int32} {i : Nat} {hp : mHp} (hM : MATH) (hX9 : mSx K L xs) (hL : L ≤ 3072) (hi : i + 6 ≤ L) (h : INV hp) (hk9 : ∀ hp' : mHp, INV hp' → mW K D_L_law 85 2730 85 hp' 1048 [.ref mSC, .ref 0, .ref 67, .int (nI i)] []) : mW K D_L_law 85 2730 85 hp 902 [.ref mSC, .ref 0, .ref 67, .int (nI i)] [] := by
  obtain ⟨kf, S, T, ia, z, LT, X, hc, hm, hT, hT2, hO, hL9, hk⟩ := h
  refine m_aload_n dL_law_902 rfl ?_
  refine m_aload_n dL_law_903 rfl ?_
  refine m_iload_n dL_law_904 rfl ?_
  refine m_iconst (v := 1) dL_law_905 (by decide) ?_
  refine m_iadd dL_law_906 ?_
  refine m_ci (v := nI (i + 1)) (by exact nI_add i 1) ?_
  refine m_sld hX9 dL_law_907 (mIx_lit (show i + 1 < L by omega) (by omega)) ?_
  refine m_aload_n dL_law_908 rfl ?_
  refine m_iload_n dL_law_909 rfl ?_
  refine m_iconst (v := 2) dL_law_910 (by decide) ?_
  refine m_iadd dL_law_911 ?_
  refine m_ci (v := nI (i + 2)) (by exact nI_add i 2) ?_
  refine m_sld hX9 dL_law_912 (mIx_lit (show i + 2 < L by omega) (by omega)) ?_
  refine m_aload_n dL_law_913 rfl ?_
  refine m_iload_n dL_law_914 rfl ?_
  refine m_iconst (v := 3) dL_law_915 (by decide) ?_
  refine m_iadd dL_law_916 ?_
  refine m_ci (v := nI (i + 3)) (by exact nI_add i 3) ?_
  refine m_sld hX9 dL_law_917 (mIx_lit (show i + 3 < L by omega) (by omega)) ?_
  refine m_aload_n dL_law_918 rfl ?_
  refine m_iload_n dL_law_919 rfl ?_
  refine m_iconst (v := 4) dL_law_920 (by decide) ?_
  refine m_iadd dL_law_921 ?_
  refine m_ci (v := nI (i + 4)) (by exact nI_add i 4) ?_
  refine m_sld hX9 dL_law_922 (mIx_lit (show i + 4 < L by omega) (by omega)) ?_
  refine m_i2l dL_law_923 ?_
  refine m_bipush (v := 32) dL_law_924 (by decide) ?_
  refine m_lshl dL_law_926 ?_
  refine m_aload_n dL_law_927 rfl ?_
  refine m_iload_n dL_law_928 rfl ?_
  refine m_iconst (v := 5) dL_law_929 (by decide) ?_
  refine m_iadd dL_law_930 ?_
  refine m_ci (v := nI (i + 5)) (by exact nI_add i 5) ?_
  refine m_sld hX9 dL_law_931 (mIx_lit (show i + 5 < L by omega) (by omega)) ?_
  refine m_i2l dL_law_932 ?_
  refine m_ldc2 dL_law_933 cl_L_119 ?_
  refine m_land dL_law_936 ?_
  refine m_lor dL_law_937 ?_
  refine m_invV dL_law_938 lk_L_121 ar_X7_item (ci := 7) rfl rfl (by first | exact hc.1 | exact g67) (cw_item hc hO) rfl (Nat.le_of_ble_eq_true rfl) (by decide) (by decide) (by decide) (by decide) (fun v hp1 q => ?_)
  obtain ⟨rfl, hc1, gO1⟩ := q
  have hm1 : mAll hp1 S T ia z LT X := hm.of gO1
  obtain ⟨ri9, ev9, le9, ch9, ls9, rm9, sm9, ra9, fa9, C9, PA9, g67, -⟩ := id hm1.1
  show mW K _ _ _ 85 hp1 941 _ [.int _]
  refine m_aload_n dL_law_941 rfl ?_
  refine m_aload_n dL_law_942 rfl ?_
  refine m_iload_n dL_law_943 rfl ?_
  refine m_iconst (v := 1) dL_law_944 (by decide) ?_
  refine m_iadd dL_law_945 ?_
  refine m_ci (v := nI (i + 1)) (by exact nI_add i 1) ?_
  refine m_sld hX9 dL_law_946 (mIx_lit (show i + 1 < L by omega) (by omega)) ?_
  refine m_aload_n dL_law_947 rfl ?_
  refine m_iload_n dL_law_948 rfl ?_
  refine m_iconst (v := 2) dL_law_949 (by decide) ?_
  refine m_iadd dL_law_950 ?_
  refine m_ci (v := nI (i + 2)) (by exact nI_add i 2) ?_
  refine m_sld hX9 dL_law_951 (mIx_lit (show i + 2 < L by omega) (by omega)) ?_
  refine m_aload_n dL_law_952 rfl ?_
  refine m_iload_n dL_law_953 rfl ?_
  refine m_iconst (v := 3) dL_law_954 (by decide) ?_
  refine m_iadd dL_law_955 ?_
  refine m_ci (v := nI (i + 3)) (by exact nI_add i 3) ?_
  refine m_sld hX9 dL_law_956 (mIx_lit (show i + 3 < L by omega) (by omega)) ?_
  refine m_aload_n dL_law_957 rfl ?_
  refine m_iload_n dL_law_958 rfl ?_
  refine m_iconst (v := 4) dL_law_959 (by decide) ?_
  refine m_iadd dL_law_960 ?_
  refine m_ci (v := nI (i + 4)) (by exact nI_add i 4) ?_
  refine m_sld hX9 dL_law_961 (mIx_lit (show i + 4 < L by omega) (by omega)) ?_
  refine m_i2l dL_law_962 ?_
  refine m_bipush (v := 32) dL_law_963 (by decide) ?_
  refine m_lshl dL_law_965 ?_
  refine m_aload_n dL_law_966 rfl ?_
  refine m_iload_n dL_law_967 rfl ?_
  refine m_iconst (v := 5) dL_law_968 (by decide) ?_
  refine m_iadd dL_law_969 ?_
  refine m_ci (v := nI (i + 5)) (by exact nI_add i 5) ?_
  refine m_sld hX9 dL_law_970 (mIx_lit (show i + 5 < L by omega) (by omega)) ?_
  refine m_i2l dL_law_971 ?_
  refine m_ldc2 dL_law_972 cl_L_119 ?_
  refine m_land dL_law_975 ?_
  refine m_lor dL_law_976 ?_
  refine m_invV dL_law_977 lk_L_125 ar_X8_item (ci := 8) rfl rfl (by first | exact hc.1 | exact g67) (mw_item hm1 hO) rfl (Nat.le_of_ble_eq_true rfl) (by decide) (by decide) (by decide) (by decide) (fun v hp2 q => ?_)
  obtain ⟨rfl, hm2, gO2⟩ := q
  have hc2 := hc1.of (hp' := hp2) gO2
  show mW K _ _ _ 85 hp2 980 _ [.int _, .int _]
  refine m_icmp_eq (t := 1048) dL_law_980 (by decide) (fun c980 => ?_) (fun c980 => ?_)
  · exact hk9 _ ⟨kf, S, T, ia, z, LT, _, hc2, hm2, hT, hT2, ok_item hO, hL9, hk⟩
  exact absurd rfl c980

set_option maxHeartbeats 400000 in
set_option maxRecDepth 100000 in
theorem lw_c26 {K : mK} {L : Nat} {xs : Nat → Int32} {i : Nat} {hp : mHp} (hM : MATH) (hX9 : mSx K L xs) (hL : L ≤ 3072) (hi : i + 6 ≤ L) (h : INV hp) (hk9 : ∀ hp' : mHp, INV hp' → mW K D_L_law 85 2730 85 hp' 1048 [.ref mSC, .ref 0, .ref 67, .int (nI i)] []) : mW K D_L_law 85 2730 85 hp 985 [.ref mSC, .ref 0, .ref 67, .int (nI i)] [] := by
  obtain ⟨kf, S, T, ia, z, LT, X, hc, hm, hT, hT2, hO, hL9, hk⟩ := h
  refine m_aload_n dL_law_985 rfl ?_
  refine m_aload_n dL_law_986 rfl ?_
  refine m_iload_n dL_law_987 rfl ?_
  refine m_iconst (v := 1) dL_law_988 (by decide) ?_
  refine m_iadd dL_law_989 ?_
  refine m_ci (v := nI (i + 1)) (by exact nI_add i 1) ?_
  refine m_sld hX9 dL_law_990 (mIx_lit (show i + 1 < L by omega) (by omega)) ?_
  refine m_aload_n dL_law_991 rfl ?_
  refine m_iload_n dL_law_992 rfl ?_
  refine m_iconst (v := 2) dL_law_993 (by decide) ?_
  refine m_iadd dL_law_994 ?_
  refine m_ci (v := nI (i + 2)) (by exact nI_add i 2) ?_
  refine m_sld hX9 dL_law_995 (mIx_lit (show i + 2 < L by omega) (by omega)) ?_
  refine m_aload_n dL_law_996 rfl ?_
  refine m_iload_n dL_law_997 rfl ?_
  refine m_iconst (v := 3) dL_law_998 (by decide) ?_
  refine m_iadd dL_law_999 ?_
  refine m_ci (v := nI (i + 3)) (by exact nI_add i 3) ?_
  refine m_sld hX9 dL_law_1000 (mIx_lit (show i + 3 < L by omega) (by omega)) ?_
  refine m_aload_n dL_law_1001 rfl ?_
  refine m_iload_n dL_law_1002 rfl ?_
  refine m_iconst (v := 4) dL_law_1003 (by decide) ?_
  refine m_iadd dL_law_1004 ?_
  refine m_ci (v := nI (i + 4)) (by exact nI_add i 4) ?_
  refine m_sld hX9 dL_law_1005 (mIx_lit (show i + 4 < L by omega) (by omega)) ?_
  refine m_aload_n dL_law_1006 rfl ?_
  refine m_iload_n dL_law_1007 rfl ?_
  refine m_iconst (v := 5) dL_law_1008 (by decide) ?_
  refine m_iadd dL_law_1009 ?_
  refine m_ci (v := nI (i + 5)) (by exact nI_add i 5) ?_
  refine m_sld hX9 dL_law_1010 (mIx_lit (show i + 5 < L by omega) (by omega)) ?_
  refine m_invV dL_law_1011 lk_L_126 ar_X7_copy (ci := 7) rfl rfl (by first | exact hc.1 | exact g67) (cw_copy hc hO) rfl (Nat.le_of_ble_eq_true rfl) (by decide) (by decide) (by decide) (by decide) (fun v hp1 q => ?_)
  obtain ⟨rfl, hc1, gO1⟩ := q
  have hm1 : mAll hp1 S T ia z LT X := hm.of gO1
  obtain ⟨ri9, ev9, le9, ch9, ls9, rm9, sm9, ra9, fa9, C9, PA9, g67, -⟩ := id hm1.1
  show mW K _ _ _ 85 hp1 1014 _ [.int _]
  refine m_aload_n dL_law_1014 rfl ?_
  refine m_aload_n dL_law_1015 rfl ?_
  refine m_iload_n dL_law_1016 rfl ?_
  refine m_iconst (v := 1) dL_law_1017 (by decide) ?_
  refine m_iadd dL_law_1018 ?_
  refine m_ci (v := nI (i + 1)) (by exact nI_add i 1) ?_
  refine m_sld hX9 dL_law_1019 (mIx_lit (show i + 1 < L by omega) (by omega)) ?_
  refine m_aload_n dL_law_1020 rfl ?_
  refine m_iload_n dL_law_1021 rfl ?_
  refine m_iconst (v := 2) dL_law_1022 (by decide) ?_
  refine m_iadd dL_law_1023 ?_
  refine m_ci (v := nI (i + 2)) (by exact nI_add i 2) ?_
  refine m_sld hX9 dL_law_1024 (mIx_lit (show i + 2 < L by omega) (by omega)) ?_
  refine m_aload_n dL_law_1025 rfl ?_
  refine m_iload_n dL_law_1026 rfl ?_
  refine m_iconst (v := 3) dL_law_1027 (by decide) ?_
  refine m_iadd dL_law_1028 ?_
  refine m_ci (v := nI (i + 3)) (by exact nI_add i 3) ?_
  refine m_sld hX9 dL_law_1029 (mIx_lit (show i + 3 < L by omega) (by omega)) ?_
  refine m_aload_n dL_law_1030 rfl ?_
  refine m_iload_n dL_law_1031 rfl ?_
  refine m_iconst (v := 4) dL_law_1032 (by decide) ?_
  refine m_iadd dL_law_1033 ?_
  refine m_ci (v := nI (i + 4)) (by exact nI_add i 4) ?_
  refine m_sld hX9 dL_law_1034 (mIx_lit (show i + 4 < L by omega) (by omega)) ?_
  refine m_aload_n dL_law_1035 rfl ?_
  refine m_iload_n dL_law_1036 rfl ?_
  refine m_iconst (v := 5) dL_law_1037 (by decide) ?_
  refine m_iadd dL_law_1038 ?_
  refine m_ci (v := nI (i + 5)) (by exact nI_add i 5) ?_
  refine m_sld hX9 dL_law_1039 (mIx_lit (show i + 5 < L by omega) (by omega)) ?_
  refine m_invV dL_law_1040 lk_L_130 ar_X8_copy (ci := 8) rfl rfl (by first | exact hc.1 | exact g67) (mw_copy hm1 hO) rfl (Nat.le_of_ble_eq_true rfl) (by decide) (by decide) (by decide) (by decide) (fun v hp2 q => ?_)
  obtain ⟨rfl, hm2, gO2⟩ := q
  have hc2 := hc1.of (hp' := hp2) gO2
  show mW K _ _ _ 85 hp2 1043 _ [.int _, .int _]
  refine m_icmp_eq (t := 1048) dL_law_1043 (by decide) (fun c1043 => ?_) (fun c1043 => ?_)
  · exact hk9 _ ⟨kf, S, T, ia, z, LT, _, hc2, hm2, hT, hT2, ok_copy hO, hL9, hk⟩
  exact absurd rfl c1043

