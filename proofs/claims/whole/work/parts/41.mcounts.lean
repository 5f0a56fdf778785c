/-! ===== the reference: counts ===== -/
def dgN (A : Nat → Int64) : Nat := if A 4 = 0 then if A 3 = 0 then if A 2 = 0 then if A 1 = 0 then 0 else 1 else 2 else 3 else 4
theorem dgN_le (A : Nat → Int64) : dgN A ≤ 4 := by
  unfold dgN
  repeat' split
  all_goals decide
theorem dgN_eq {A : Nat → Int64} (h : ¬ A 0 = 0) : orN (deg5 (fun t => A (0 + t))) = nI (dgN A) := by
  unfold deg5 dgN
  simp only [Nat.zero_add]
  by_cases c4 : A 4 = 0
  · by_cases c3 : A 3 = 0
    · by_cases c2 : A 2 = 0
      · by_cases c1 : A 1 = 0
        · simp only [if_pos c4, if_pos c3, if_pos c2, if_pos c1, if_neg h]
          rfl
        · simp only [if_pos c4, if_pos c3, if_pos c2, if_neg c1]
          rfl
      · simp only [if_pos c4, if_pos c3, if_neg c2]
        rfl
    · simp only [if_pos c4, if_neg c3]
      rfl
  · simp only [if_neg c4]
    rfl
def coM (B : Nat → Int64) : Int64 := B 4 * B 1 * B 1 - B 2 * B 1 * B 3 + B 0 * B 3 * B 3
def cnX (B : Nat → Int64) (t : T3) : T3 := if B 3 = 0 then apM B (dgN B) t else if coM B = 0 then twM (B 4 * B 1) (B 3 * B 1) (B 0 * B 3) (sqM (-snM (B 1) * snM (B 3)) t) else apM B (dgN B) t
def cnT (B : Nat → Int64) (t : T3) : T3 := if nI (dgN B) = 0 then t else if B 1 = 0 then (if B 3 = 0 then sqsM (B 4) (B 2) (B 0) t else cnX B t) else cnX B t
def shA (Z : Nat → Int64) (m k : Nat) : Int64 := if k + m < 5 then Z (k + m) else 0
set_option maxHeartbeats 400000 in
set_option maxRecDepth 100000 in
theorem l_X8_counts {n : Nat} {hp : mHp} {ac ia tm ri ev le ch ls rm sm ra fa : Int32} (h1 : hp 67 = eO 8 (oMod ac ia tm ri ev le ch ls rm sm ra fa)) {B : Nat → Int64} (h2 : hp 77 = eL 5 B) (h3 : ¬ B 0 = 0) {v1 v2 : Int32} {v3 v4 : Value} {Q : mQ} {K : mK} (hF : mFin K D_X8_counts n Q) (hq : ∀ (ch' ls' : Int32) (A' : Nat → Int64), Q none (va_up (va_up hp 77 (eL 5 A')) 67 (eO 8 (oMod ac ia tm (cnT B (ri, ev, le)).1 (cnT B (ri, ev, le)).2.1 (cnT B (ri, ev, le)).2.2 ch' ls' rm sm ra fa)))) : mW K D_X8_counts 0 0 n hp 72 [.ref 67, .int v1, .int v2, v3, v4] [] := by
  refine m_aload_n dX8_counts_72 rfl ?_
  refine m_getfield dX8_counts_73 fl_X8_42 (by first | assumption | rfl | exact va_up_self _ _ _ | exact (va_up_ne _ _ (by decide)).trans h2) (by first | assumption | rfl | exact va_up_self _ _ _ | exact (va_up_ne _ _ (by decide)).trans h2) ?_
  show mW _ _ _ _ _ _ _ _ (.ref _ :: _)
  refine m_iconst (v := 0) dX8_counts_76 (by decide) ?_
  refine m_invS_I dX8_counts_77 lk_X8_118 ar_X8_degree (t_X8_degree (at_ := 0) h2 (by decide) (by decide)) rfl (Nat.le_of_ble_eq_true rfl) (by decide) (by decide) (by decide) (by decide) rfl rfl ?_
  try rw [va_uu]
  refine m_ci (v := nI (dgN B)) (dgN_eq h3) ?_
  refine m_istore_n dX8_counts_80 (by decide) ?_
  show mW _ _ _ _ _ _ 81 [_, _, _, _, _] _
  refine m_iload_n dX8_counts_81 rfl ?_
  refine m_if_ne (t := 86) dX8_counts_82 (by decide) (fun c82 => ?_) (fun c82 => ?_)
  rotate_left
  · exact m_return hF dX8_counts_85 rfl rfl rfl (by have q9 := hq ch ls B; unfold cnT at q9; rw [if_pos c82, va_uid hp h2, va_uid hp h1] at q9; exact q9)
  refine m_aload_n dX8_counts_86 rfl ?_
  refine m_getfield dX8_counts_87 fl_X8_42 (by first | assumption | rfl | exact va_up_self _ _ _ | exact (va_up_ne _ _ (by decide)).trans h2) (by first | assumption | rfl | exact va_up_self _ _ _ | exact (va_up_ne _ _ (by decide)).trans h2) ?_
  show mW _ _ _ _ _ _ _ _ (.ref _ :: _)
  refine m_iconst (v := 1) dX8_counts_90 (by decide) ?_
  refine m_laload (k := 1) dX8_counts_91 (by first | assumption | rfl | exact va_up_self _ _ _ | exact (va_up_ne _ _ (by decide)).trans h2) ⟨by decide, by decide⟩ ?_
  refine m_lconst (v := 0) dX8_counts_92 (by decide) ?_
  refine m_lc_ne (t := 131) dX8_counts_93 dX8_counts_94 (by decide) (fun c93 => ?_) (fun c93 => ?_)
  · refine m_aload_n dX8_counts_131 rfl ?_
    refine m_getfield dX8_counts_132 fl_X8_42 (by first | assumption | rfl | exact va_up_self _ _ _ | exact (va_up_ne _ _ (by decide)).trans h2) (by first | assumption | rfl | exact va_up_self _ _ _ | exact (va_up_ne _ _ (by decide)).trans h2) ?_
    show mW _ _ _ _ _ _ _ _ (.ref _ :: _)
    refine m_iconst (v := 4) dX8_counts_135 (by decide) ?_
    refine m_laload (k := 4) dX8_counts_136 (by first | assumption | rfl | exact va_up_self _ _ _ | exact (va_up_ne _ _ (by decide)).trans h2) ⟨by decide, by decide⟩ ?_
    refine m_aload_n dX8_counts_137 rfl ?_
    refine m_getfield dX8_counts_138 fl_X8_42 (by first | assumption | rfl | exact va_up_self _ _ _ | exact (va_up_ne _ _ (by decide)).trans h2) (by first | assumption | rfl | exact va_up_self _ _ _ | exact (va_up_ne _ _ (by decide)).trans h2) ?_
    show mW _ _ _ _ _ _ _ _ (.ref _ :: _)
    refine m_iconst (v := 1) dX8_counts_141 (by decide) ?_
    refine m_laload (k := 1) dX8_counts_142 (by first | assumption | rfl | exact va_up_self _ _ _ | exact (va_up_ne _ _ (by decide)).trans h2) ⟨by decide, by decide⟩ ?_
    refine m_lmul dX8_counts_143 ?_
    refine m_aload_n dX8_counts_144 rfl ?_
    refine m_getfield dX8_counts_145 fl_X8_42 (by first | assumption | rfl | exact va_up_self _ _ _ | exact (va_up_ne _ _ (by decide)).trans h2) (by first | assumption | rfl | exact va_up_self _ _ _ | exact (va_up_ne _ _ (by decide)).trans h2) ?_
    show mW _ _ _ _ _ _ _ _ (.ref _ :: _)
    refine m_iconst (v := 1) dX8_counts_148 (by decide) ?_
    refine m_laload (k := 1) dX8_counts_149 (by first | assumption | rfl | exact va_up_self _ _ _ | exact (va_up_ne _ _ (by decide)).trans h2) ⟨by decide, by decide⟩ ?_
    refine m_lmul dX8_counts_150 ?_
    refine m_aload_n dX8_counts_151 rfl ?_
    refine m_getfield dX8_counts_152 fl_X8_42 (by first | assumption | rfl | exact va_up_self _ _ _ | exact (va_up_ne _ _ (by decide)).trans h2) (by first | assumption | rfl | exact va_up_self _ _ _ | exact (va_up_ne _ _ (by decide)).trans h2) ?_
    show mW _ _ _ _ _ _ _ _ (.ref _ :: _)
    refine m_iconst (v := 2) dX8_counts_155 (by decide) ?_
    refine m_laload (k := 2) dX8_counts_156 (by first | assumption | rfl | exact va_up_self _ _ _ | exact (va_up_ne _ _ (by decide)).trans h2) ⟨by decide, by decide⟩ ?_
    refine m_aload_n dX8_counts_157 rfl ?_
    refine m_getfield dX8_counts_158 fl_X8_42 (by first | assumption | rfl | exact va_up_self _ _ _ | exact (va_up_ne _ _ (by decide)).trans h2) (by first | assumption | rfl | exact va_up_self _ _ _ | exact (va_up_ne _ _ (by decide)).trans h2) ?_
    show mW _ _ _ _ _ _ _ _ (.ref _ :: _)
    refine m_iconst (v := 1) dX8_counts_161 (by decide) ?_
    refine m_laload (k := 1) dX8_counts_162 (by first | assumption | rfl | exact va_up_self _ _ _ | exact (va_up_ne _ _ (by decide)).trans h2) ⟨by decide, by decide⟩ ?_
    refine m_lmul dX8_counts_163 ?_
    refine m_aload_n dX8_counts_164 rfl ?_
    refine m_getfield dX8_counts_165 fl_X8_42 (by first | assumption | rfl | exact va_up_self _ _ _ | exact (va_up_ne _ _ (by decide)).trans h2) (by first | assumption | rfl | exact va_up_self _ _ _ | exact (va_up_ne _ _ (by decide)).trans h2) ?_
    show mW _ _ _ _ _ _ _ _ (.ref _ :: _)
    refine m_iconst (v := 3) dX8_counts_168 (by decide) ?_
    refine m_laload (k := 3) dX8_counts_169 (by first | assumption | rfl | exact va_up_self _ _ _ | exact (va_up_ne _ _ (by decide)).trans h2) ⟨by decide, by decide⟩ ?_
    refine m_lmul dX8_counts_170 ?_
    refine m_lsub dX8_counts_171 ?_
    refine m_aload_n dX8_counts_172 rfl ?_
    refine m_getfield dX8_counts_173 fl_X8_42 (by first | assumption | rfl | exact va_up_self _ _ _ | exact (va_up_ne _ _ (by decide)).trans h2) (by first | assumption | rfl | exact va_up_self _ _ _ | exact (va_up_ne _ _ (by decide)).trans h2) ?_
    show mW _ _ _ _ _ _ _ _ (.ref _ :: _)
    refine m_iconst (v := 0) dX8_counts_176 (by decide) ?_
    refine m_laload (k := 0) dX8_counts_177 (by first | assumption | rfl | exact va_up_self _ _ _ | exact (va_up_ne _ _ (by decide)).trans h2) ⟨by decide, by decide⟩ ?_
    refine m_aload_n dX8_counts_178 rfl ?_
    refine m_getfield dX8_counts_179 fl_X8_42 (by first | assumption | rfl | exact va_up_self _ _ _ | exact (va_up_ne _ _ (by decide)).trans h2) (by first | assumption | rfl | exact va_up_self _ _ _ | exact (va_up_ne _ _ (by decide)).trans h2) ?_
    show mW _ _ _ _ _ _ _ _ (.ref _ :: _)
    refine m_iconst (v := 3) dX8_counts_182 (by decide) ?_
    refine m_laload (k := 3) dX8_counts_183 (by first | assumption | rfl | exact va_up_self _ _ _ | exact (va_up_ne _ _ (by decide)).trans h2) ⟨by decide, by decide⟩ ?_
    refine m_lmul dX8_counts_184 ?_
    refine m_aload_n dX8_counts_185 rfl ?_
    refine m_getfield dX8_counts_186 fl_X8_42 (by first | assumption | rfl | exact va_up_self _ _ _ | exact (va_up_ne _ _ (by decide)).trans h2) (by first | assumption | rfl | exact va_up_self _ _ _ | exact (va_up_ne _ _ (by decide)).trans h2) ?_
    show mW _ _ _ _ _ _ _ _ (.ref _ :: _)
    refine m_iconst (v := 3) dX8_counts_189 (by decide) ?_
    refine m_laload (k := 3) dX8_counts_190 (by first | assumption | rfl | exact va_up_self _ _ _ | exact (va_up_ne _ _ (by decide)).trans h2) ⟨by decide, by decide⟩ ?_
    refine m_lmul dX8_counts_191 ?_
    refine m_ladd dX8_counts_192 ?_
    refine m_cl (v := coM B) rfl ?_
    refine m_lstore_n dX8_counts_193 (by decide) ?_
    show mW _ _ _ _ _ _ 194 [_, _, _, _, _] _
    refine m_aload_n dX8_counts_194 rfl ?_
    refine m_getfield dX8_counts_195 fl_X8_42 (by first | assumption | rfl | exact va_up_self _ _ _ | exact (va_up_ne _ _ (by decide)).trans h2) (by first | assumption | rfl | exact va_up_self _ _ _ | exact (va_up_ne _ _ (by decide)).trans h2) ?_
    show mW _ _ _ _ _ _ _ _ (.ref _ :: _)
    refine m_iconst (v := 3) dX8_counts_198 (by decide) ?_
    refine m_laload (k := 3) dX8_counts_199 (by first | assumption | rfl | exact va_up_self _ _ _ | exact (va_up_ne _ _ (by decide)).trans h2) ⟨by decide, by decide⟩ ?_
    refine m_lconst (v := 0) dX8_counts_200 (by decide) ?_
    refine m_lc_eq (t := 281) dX8_counts_201 dX8_counts_202 (by decide) (fun c201 => ?_) (fun c201 => ?_)
    · refine m_aload_n dX8_counts_281 rfl ?_
      refine m_iload_n dX8_counts_282 rfl ?_
      refine m_invV dX8_counts_283 lk_X8_125 ar_X8_apart (ci := 8) rfl rfl (by first | assumption | rfl | exact va_up_self _ _ _ | exact (va_up_ne _ _ (by decide)).trans h2) (t_X8_apart h1 h2 (dgN_le B)) rfl (Nat.le_of_ble_eq_true rfl) (by decide) (by decide) (by decide) (by decide) (fun v hp' q => ?_)
      obtain ⟨rfl, ch', ls', A', rfl⟩ := q
      show mW K _ 0 0 n _ 286 [_, _, _, _, _] []
      exact m_return hF dX8_counts_286 rfl rfl rfl (by have q9 := hq ch' ls' A'; unfold cnT cnX at q9; rw [if_neg c82, if_neg c93, if_pos c201] at q9; exact q9)
    refine m_lload_n dX8_counts_205 rfl ?_
    refine m_lconst (v := 0) dX8_counts_206 (by decide) ?_
    refine m_lc_ne (t := 281) dX8_counts_207 dX8_counts_208 (by decide) (fun c207 => ?_) (fun c207 => ?_)
    · refine m_aload_n dX8_counts_281 rfl ?_
      refine m_iload_n dX8_counts_282 rfl ?_
      refine m_invV dX8_counts_283 lk_X8_125 ar_X8_apart (ci := 8) rfl rfl (by first | assumption | rfl | exact va_up_self _ _ _ | exact (va_up_ne _ _ (by decide)).trans h2) (t_X8_apart h1 h2 (dgN_le B)) rfl (Nat.le_of_ble_eq_true rfl) (by decide) (by decide) (by decide) (by decide) (fun v hp' q => ?_)
      obtain ⟨rfl, ch', ls', A', rfl⟩ := q
      show mW K _ 0 0 n _ 286 [_, _, _, _, _] []
      exact m_return hF dX8_counts_286 rfl rfl rfl (by have q9 := hq ch' ls' A'; unfold cnT cnX at q9; rw [if_neg c82, if_neg c93, if_neg c201, if_neg c207] at q9; exact q9)
    refine m_aload_n dX8_counts_211 rfl ?_
    refine m_aload_n dX8_counts_212 rfl ?_
    refine m_getfield dX8_counts_213 fl_X8_42 (by first | assumption | rfl | exact va_up_self _ _ _ | exact (va_up_ne _ _ (by decide)).trans h2) (by first | assumption | rfl | exact va_up_self _ _ _ | exact (va_up_ne _ _ (by decide)).trans h2) ?_
    show mW _ _ _ _ _ _ _ _ (.ref _ :: _)
    refine m_iconst (v := 1) dX8_counts_216 (by decide) ?_
    refine m_laload (k := 1) dX8_counts_217 (by first | assumption | rfl | exact va_up_self _ _ _ | exact (va_up_ne _ _ (by decide)).trans h2) ⟨by decide, by decide⟩ ?_
    refine m_invS_I dX8_counts_218 lk_X8_88 ar_X8_sign (t_X8_sign) rfl (Nat.le_of_ble_eq_true rfl) (by decide) (by decide) (by decide) (by decide) rfl rfl ?_
    try rw [va_uu]
    refine m_ineg dX8_counts_221 ?_
    refine m_aload_n dX8_counts_222 rfl ?_
    refine m_getfield dX8_counts_223 fl_X8_42 (by first | assumption | rfl | exact va_up_self _ _ _ | exact (va_up_ne _ _ (by decide)).trans h2) (by first | assumption | rfl | exact va_up_self _ _ _ | exact (va_up_ne _ _ (by decide)).trans h2) ?_
    show mW _ _ _ _ _ _ _ _ (.ref _ :: _)
    refine m_iconst (v := 3) dX8_counts_226 (by decide) ?_
    refine m_laload (k := 3) dX8_counts_227 (by first | assumption | rfl | exact va_up_self _ _ _ | exact (va_up_ne _ _ (by decide)).trans h2) ⟨by decide, by decide⟩ ?_
    refine m_invS_I dX8_counts_228 lk_X8_88 ar_X8_sign (t_X8_sign) rfl (Nat.le_of_ble_eq_true rfl) (by decide) (by decide) (by decide) (by decide) rfl rfl ?_
    try rw [va_uu]
    refine m_imul dX8_counts_231 ?_
    refine m_invV_V dX8_counts_232 lk_X8_92 ar_X8_square (ci := 8) rfl rfl (by first | assumption | rfl | exact va_up_self _ _ _ | exact (va_up_ne _ _ (by decide)).trans h2) (t_X8_square (by first | assumption | exact va_up_self _ _ _ | exact (va_up_ne _ _ (by decide)).trans h1)) rfl (Nat.le_of_ble_eq_true rfl) (by decide) (by decide) (by decide) (by decide) rfl rfl ?_
    try rw [va_uu]
    refine m_aload_n dX8_counts_235 rfl ?_
    refine m_aload_n dX8_counts_236 rfl ?_
    refine m_getfield dX8_counts_237 fl_X8_42 (by first | assumption | rfl | exact va_up_self _ _ _ | exact (va_up_ne _ _ (by decide)).trans h2) (by first | assumption | rfl | exact va_up_self _ _ _ | exact (va_up_ne _ _ (by decide)).trans h2) ?_
    show mW _ _ _ _ _ _ _ _ (.ref _ :: _)
    refine m_iconst (v := 4) dX8_counts_240 (by decide) ?_
    refine m_laload (k := 4) dX8_counts_241 (by first | assumption | rfl | exact va_up_self _ _ _ | exact (va_up_ne _ _ (by decide)).trans h2) ⟨by decide, by decide⟩ ?_
    refine m_aload_n dX8_counts_242 rfl ?_
    refine m_getfield dX8_counts_243 fl_X8_42 (by first | assumption | rfl | exact va_up_self _ _ _ | exact (va_up_ne _ _ (by decide)).trans h2) (by first | assumption | rfl | exact va_up_self _ _ _ | exact (va_up_ne _ _ (by decide)).trans h2) ?_
    show mW _ _ _ _ _ _ _ _ (.ref _ :: _)
    refine m_iconst (v := 1) dX8_counts_246 (by decide) ?_
    refine m_laload (k := 1) dX8_counts_247 (by first | assumption | rfl | exact va_up_self _ _ _ | exact (va_up_ne _ _ (by decide)).trans h2) ⟨by decide, by decide⟩ ?_
    refine m_lmul dX8_counts_248 ?_
    refine m_aload_n dX8_counts_249 rfl ?_
    refine m_getfield dX8_counts_250 fl_X8_42 (by first | assumption | rfl | exact va_up_self _ _ _ | exact (va_up_ne _ _ (by decide)).trans h2) (by first | assumption | rfl | exact va_up_self _ _ _ | exact (va_up_ne _ _ (by decide)).trans h2) ?_
    show mW _ _ _ _ _ _ _ _ (.ref _ :: _)
    refine m_iconst (v := 3) dX8_counts_253 (by decide) ?_
    refine m_laload (k := 3) dX8_counts_254 (by first | assumption | rfl | exact va_up_self _ _ _ | exact (va_up_ne _ _ (by decide)).trans h2) ⟨by decide, by decide⟩ ?_
    refine m_aload_n dX8_counts_255 rfl ?_
    refine m_getfield dX8_counts_256 fl_X8_42 (by first | assumption | rfl | exact va_up_self _ _ _ | exact (va_up_ne _ _ (by decide)).trans h2) (by first | assumption | rfl | exact va_up_self _ _ _ | exact (va_up_ne _ _ (by decide)).trans h2) ?_
    show mW _ _ _ _ _ _ _ _ (.ref _ :: _)
    refine m_iconst (v := 1) dX8_counts_259 (by decide) ?_
    refine m_laload (k := 1) dX8_counts_260 (by first | assumption | rfl | exact va_up_self _ _ _ | exact (va_up_ne _ _ (by decide)).trans h2) ⟨by decide, by decide⟩ ?_
    refine m_lmul dX8_counts_261 ?_
    refine m_aload_n dX8_counts_262 rfl ?_
    refine m_getfield dX8_counts_263 fl_X8_42 (by first | assumption | rfl | exact va_up_self _ _ _ | exact (va_up_ne _ _ (by decide)).trans h2) (by first | assumption | rfl | exact va_up_self _ _ _ | exact (va_up_ne _ _ (by decide)).trans h2) ?_
    show mW _ _ _ _ _ _ _ _ (.ref _ :: _)
    refine m_iconst (v := 0) dX8_counts_266 (by decide) ?_
    refine m_laload (k := 0) dX8_counts_267 (by first | assumption | rfl | exact va_up_self _ _ _ | exact (va_up_ne _ _ (by decide)).trans h2) ⟨by decide, by decide⟩ ?_
    refine m_aload_n dX8_counts_268 rfl ?_
    refine m_getfield dX8_counts_269 fl_X8_42 (by first | assumption | rfl | exact va_up_self _ _ _ | exact (va_up_ne _ _ (by decide)).trans h2) (by first | assumption | rfl | exact va_up_self _ _ _ | exact (va_up_ne _ _ (by decide)).trans h2) ?_
    show mW _ _ _ _ _ _ _ _ (.ref _ :: _)
    refine m_iconst (v := 3) dX8_counts_272 (by decide) ?_
    refine m_laload (k := 3) dX8_counts_273 (by first | assumption | rfl | exact va_up_self _ _ _ | exact (va_up_ne _ _ (by decide)).trans h2) ⟨by decide, by decide⟩ ?_
    refine m_lmul dX8_counts_274 ?_
    refine m_invV_V dX8_counts_275 lk_X8_107 ar_X8_two (ci := 8) rfl rfl (by first | assumption | rfl | exact va_up_self _ _ _ | exact (va_up_ne _ _ (by decide)).trans h2) (t_X8_two (by first | assumption | exact va_up_self _ _ _ | exact (va_up_ne _ _ (by decide)).trans h1)) rfl (Nat.le_of_ble_eq_true rfl) (by decide) (by decide) (by decide) (by decide) rfl rfl ?_
    try rw [va_uu]
    refine m_goto (t := 286) dX8_counts_278 (by decide) ?_
    exact m_return hF dX8_counts_286 rfl rfl rfl (by have q9 := hq ch ls B; unfold cnT cnX at q9; rw [if_neg c82, if_neg c93, if_neg c201, if_pos c207, va_uid hp h2] at q9; exact q9)
  refine m_aload_n dX8_counts_97 rfl ?_
  refine m_getfield dX8_counts_98 fl_X8_42 (by first | assumption | rfl | exact va_up_self _ _ _ | exact (va_up_ne _ _ (by decide)).trans h2) (by first | assumption | rfl | exact va_up_self _ _ _ | exact (va_up_ne _ _ (by decide)).trans h2) ?_
  show mW _ _ _ _ _ _ _ _ (.ref _ :: _)
  refine m_iconst (v := 3) dX8_counts_101 (by decide) ?_
  refine m_laload (k := 3) dX8_counts_102 (by first | assumption | rfl | exact va_up_self _ _ _ | exact (va_up_ne _ _ (by decide)).trans h2) ⟨by decide, by decide⟩ ?_
  refine m_lconst (v := 0) dX8_counts_103 (by decide) ?_
  refine m_lc_ne (t := 131) dX8_counts_104 dX8_counts_105 (by decide) (fun c104 => ?_) (fun c104 => ?_)
  rotate_left
  · refine m_aload_n dX8_counts_108 rfl ?_
    refine m_aload_n dX8_counts_109 rfl ?_
    refine m_getfield dX8_counts_110 fl_X8_42 (by first | assumption | rfl | exact va_up_self _ _ _ | exact (va_up_ne _ _ (by decide)).trans h2) (by first | assumption | rfl | exact va_up_self _ _ _ | exact (va_up_ne _ _ (by decide)).trans h2) ?_
    show mW _ _ _ _ _ _ _ _ (.ref _ :: _)
    refine m_iconst (v := 4) dX8_counts_113 (by decide) ?_
    refine m_laload (k := 4) dX8_counts_114 (by first | assumption | rfl | exact va_up_self _ _ _ | exact (va_up_ne _ _ (by decide)).trans h2) ⟨by decide, by decide⟩ ?_
    refine m_aload_n dX8_counts_115 rfl ?_
    refine m_getfield dX8_counts_116 fl_X8_42 (by first | assumption | rfl | exact va_up_self _ _ _ | exact (va_up_ne _ _ (by decide)).trans h2) (by first | assumption | rfl | exact va_up_self _ _ _ | exact (va_up_ne _ _ (by decide)).trans h2) ?_
    show mW _ _ _ _ _ _ _ _ (.ref _ :: _)
    refine m_iconst (v := 2) dX8_counts_119 (by decide) ?_
    refine m_laload (k := 2) dX8_counts_120 (by first | assumption | rfl | exact va_up_self _ _ _ | exact (va_up_ne _ _ (by decide)).trans h2) ⟨by decide, by decide⟩ ?_
    refine m_aload_n dX8_counts_121 rfl ?_
    refine m_getfield dX8_counts_122 fl_X8_42 (by first | assumption | rfl | exact va_up_self _ _ _ | exact (va_up_ne _ _ (by decide)).trans h2) (by first | assumption | rfl | exact va_up_self _ _ _ | exact (va_up_ne _ _ (by decide)).trans h2) ?_
    show mW _ _ _ _ _ _ _ _ (.ref _ :: _)
    refine m_iconst (v := 0) dX8_counts_125 (by decide) ?_
    refine m_laload (k := 0) dX8_counts_126 (by first | assumption | rfl | exact va_up_self _ _ _ | exact (va_up_ne _ _ (by decide)).trans h2) ⟨by decide, by decide⟩ ?_
    refine m_invV_V dX8_counts_127 lk_X8_122 ar_X8_squares (ci := 8) rfl rfl (by first | assumption | rfl | exact va_up_self _ _ _ | exact (va_up_ne _ _ (by decide)).trans h2) (t_X8_squares (by first | assumption | exact va_up_self _ _ _ | exact (va_up_ne _ _ (by decide)).trans h1)) rfl (Nat.le_of_ble_eq_true rfl) (by decide) (by decide) (by decide) (by decide) rfl rfl ?_
    try rw [va_uu]
    exact m_return hF dX8_counts_130 rfl rfl rfl (by have q9 := hq ch ls B; unfold cnT at q9; rw [if_neg c82, if_pos c93, if_pos c104, va_uid hp h2] at q9; exact q9)
  refine m_aload_n dX8_counts_131 rfl ?_
  refine m_getfield dX8_counts_132 fl_X8_42 (by first | assumption | rfl | exact va_up_self _ _ _ | exact (va_up_ne _ _ (by decide)).trans h2) (by first | assumption | rfl | exact va_up_self _ _ _ | exact (va_up_ne _ _ (by decide)).trans h2) ?_
  show mW _ _ _ _ _ _ _ _ (.ref _ :: _)
  refine m_iconst (v := 4) dX8_counts_135 (by decide) ?_
  refine m_laload (k := 4) dX8_counts_136 (by first | assumption | rfl | exact va_up_self _ _ _ | exact (va_up_ne _ _ (by decide)).trans h2) ⟨by decide, by decide⟩ ?_
  refine m_aload_n dX8_counts_137 rfl ?_
  refine m_getfield dX8_counts_138 fl_X8_42 (by first | assumption | rfl | exact va_up_self _ _ _ | exact (va_up_ne _ _ (by decide)).trans h2) (by first | assumption | rfl | exact va_up_self _ _ _ | exact (va_up_ne _ _ (by decide)).trans h2) ?_
  show mW _ _ _ _ _ _ _ _ (.ref _ :: _)
  refine m_iconst (v := 1) dX8_counts_141 (by decide) ?_
  refine m_laload (k := 1) dX8_counts_142 (by first | assumption | rfl | exact va_up_self _ _ _ | exact (va_up_ne _ _ (by decide)).trans h2) ⟨by decide, by decide⟩ ?_
  refine m_lmul dX8_counts_143 ?_
  refine m_aload_n dX8_counts_144 rfl ?_
  refine m_getfield dX8_counts_145 fl_X8_42 (by first | assumption | rfl | exact va_up_self _ _ _ | exact (va_up_ne _ _ (by decide)).trans h2) (by first | assumption | rfl | exact va_up_self _ _ _ | exact (va_up_ne _ _ (by decide)).trans h2) ?_
  show mW _ _ _ _ _ _ _ _ (.ref _ :: _)
  refine m_iconst (v := 1) dX8_counts_148 (by decide) ?_
  refine m_laload (k := 1) dX8_counts_149 (by first | assumption | rfl | exact va_up_self _ _ _ | exact (va_up_ne _ _ (by decide)).trans h2) ⟨by decide, by decide⟩ ?_
  refine m_lmul dX8_counts_150 ?_
  refine m_aload_n dX8_counts_151 rfl ?_
  refine m_getfield dX8_counts_152 fl_X8_42 (by first | assumption | rfl | exact va_up_self _ _ _ | exact (va_up_ne _ _ (by decide)).trans h2) (by first | assumption | rfl | exact va_up_self _ _ _ | exact (va_up_ne _ _ (by decide)).trans h2) ?_
  show mW _ _ _ _ _ _ _ _ (.ref _ :: _)
  refine m_iconst (v := 2) dX8_counts_155 (by decide) ?_
  refine m_laload (k := 2) dX8_counts_156 (by first | assumption | rfl | exact va_up_self _ _ _ | exact (va_up_ne _ _ (by decide)).trans h2) ⟨by decide, by decide⟩ ?_
  refine m_aload_n dX8_counts_157 rfl ?_
  refine m_getfield dX8_counts_158 fl_X8_42 (by first | assumption | rfl | exact va_up_self _ _ _ | exact (va_up_ne _ _ (by decide)).trans h2) (by first | assumption | rfl | exact va_up_self _ _ _ | exact (va_up_ne _ _ (by decide)).trans h2) ?_
  show mW _ _ _ _ _ _ _ _ (.ref _ :: _)
  refine m_iconst (v := 1) dX8_counts_161 (by decide) ?_
  refine m_laload (k := 1) dX8_counts_162 (by first | assumption | rfl | exact va_up_self _ _ _ | exact (va_up_ne _ _ (by decide)).trans h2) ⟨by decide, by decide⟩ ?_
  refine m_lmul dX8_counts_163 ?_
  refine m_aload_n dX8_counts_164 rfl ?_
  refine m_getfield dX8_counts_165 fl_X8_42 (by first | assumption | rfl | exact va_up_self _ _ _ | exact (va_up_ne _ _ (by decide)).trans h2) (by first | assumption | rfl | exact va_up_self _ _ _ | exact (va_up_ne _ _ (by decide)).trans h2) ?_
  show mW _ _ _ _ _ _ _ _ (.ref _ :: _)
  refine m_iconst (v := 3) dX8_counts_168 (by decide) ?_
  refine m_laload (k := 3) dX8_counts_169 (by first | assumption | rfl | exact va_up_self _ _ _ | exact (va_up_ne _ _ (by decide)).trans h2) ⟨by decide, by decide⟩ ?_
  refine m_lmul dX8_counts_170 ?_
  refine m_lsub dX8_counts_171 ?_
  refine m_aload_n dX8_counts_172 rfl ?_
  refine m_getfield dX8_counts_173 fl_X8_42 (by first | assumption | rfl | exact va_up_self _ _ _ | exact (va_up_ne _ _ (by decide)).trans h2) (by first | assumption | rfl | exact va_up_self _ _ _ | exact (va_up_ne _ _ (by decide)).trans h2) ?_
  show mW _ _ _ _ _ _ _ _ (.ref _ :: _)
  refine m_iconst (v := 0) dX8_counts_176 (by decide) ?_
  refine m_laload (k := 0) dX8_counts_177 (by first | assumption | rfl | exact va_up_self _ _ _ | exact (va_up_ne _ _ (by decide)).trans h2) ⟨by decide, by decide⟩ ?_
  refine m_aload_n dX8_counts_178 rfl ?_
  refine m_getfield dX8_counts_179 fl_X8_42 (by first | assumption | rfl | exact va_up_self _ _ _ | exact (va_up_ne _ _ (by decide)).trans h2) (by first | assumption | rfl | exact va_up_self _ _ _ | exact (va_up_ne _ _ (by decide)).trans h2) ?_
  show mW _ _ _ _ _ _ _ _ (.ref _ :: _)
  refine m_iconst (v := 3) dX8_counts_182 (by decide) ?_
  refine m_laload (k := 3) dX8_counts_183 (by first | assumption | rfl | exact va_up_self _ _ _ | exact (va_up_ne _ _ (by decide)).trans h2) ⟨by decide, by decide⟩ ?_
  refine m_lmul dX8_counts_184 ?_
  refine m_aload_n dX8_counts_185 rfl ?_
  refine m_getfield dX8_counts_186 fl_X8_42 (by first | assumption | rfl | exact va_up_self _ _ _ | exact (va_up_ne _ _ (by decide)).trans h2) (by first | assumption | rfl | exact va_up_self _ _ _ | exact (va_up_ne _ _ (by decide)).trans h2) ?_
  show mW _ _ _ _ _ _ _ _ (.ref _ :: _)
  refine m_iconst (v := 3) dX8_counts_189 (by decide) ?_
  refine m_laload (k := 3) dX8_counts_190 (by first | assumption | rfl | exact va_up_self _ _ _ | exact (va_up_ne _ _ (by decide)).trans h2) ⟨by decide, by decide⟩ ?_
  refine m_lmul dX8_counts_191 ?_
  refine m_ladd dX8_counts_192 ?_
  refine m_cl (v := coM B) rfl ?_
  refine m_lstore_n dX8_counts_193 (by decide) ?_
  show mW _ _ _ _ _ _ 194 [_, _, _, _, _] _
  refine m_aload_n dX8_counts_194 rfl ?_
  refine m_getfield dX8_counts_195 fl_X8_42 (by first | assumption | rfl | exact va_up_self _ _ _ | exact (va_up_ne _ _ (by decide)).trans h2) (by first | assumption | rfl | exact va_up_self _ _ _ | exact (va_up_ne _ _ (by decide)).trans h2) ?_
  show mW _ _ _ _ _ _ _ _ (.ref _ :: _)
  refine m_iconst (v := 3) dX8_counts_198 (by decide) ?_
  refine m_laload (k := 3) dX8_counts_199 (by first | assumption | rfl | exact va_up_self _ _ _ | exact (va_up_ne _ _ (by decide)).trans h2) ⟨by decide, by decide⟩ ?_
  refine m_lconst (v := 0) dX8_counts_200 (by decide) ?_
  refine m_lc_eq (t := 281) dX8_counts_201 dX8_counts_202 (by decide) (fun c201 => ?_) (fun c201 => ?_)
  · refine m_aload_n dX8_counts_281 rfl ?_
    refine m_iload_n dX8_counts_282 rfl ?_
    refine m_invV dX8_counts_283 lk_X8_125 ar_X8_apart (ci := 8) rfl rfl (by first | assumption | rfl | exact va_up_self _ _ _ | exact (va_up_ne _ _ (by decide)).trans h2) (t_X8_apart h1 h2 (dgN_le B)) rfl (Nat.le_of_ble_eq_true rfl) (by decide) (by decide) (by decide) (by decide) (fun v hp' q => ?_)
    obtain ⟨rfl, ch', ls', A', rfl⟩ := q
    show mW K _ 0 0 n _ 286 [_, _, _, _, _] []
    exact m_return hF dX8_counts_286 rfl rfl rfl (by have q9 := hq ch' ls' A'; unfold cnT cnX at q9; rw [if_neg c82, if_pos c93, if_neg c104, if_pos c201] at q9; exact q9)
  refine m_lload_n dX8_counts_205 rfl ?_
  refine m_lconst (v := 0) dX8_counts_206 (by decide) ?_
  refine m_lc_ne (t := 281) dX8_counts_207 dX8_counts_208 (by decide) (fun c207 => ?_) (fun c207 => ?_)
  · refine m_aload_n dX8_counts_281 rfl ?_
    refine m_iload_n dX8_counts_282 rfl ?_
    refine m_invV dX8_counts_283 lk_X8_125 ar_X8_apart (ci := 8) rfl rfl (by first | assumption | rfl | exact va_up_self _ _ _ | exact (va_up_ne _ _ (by decide)).trans h2) (t_X8_apart h1 h2 (dgN_le B)) rfl (Nat.le_of_ble_eq_true rfl) (by decide) (by decide) (by decide) (by decide) (fun v hp' q => ?_)
    obtain ⟨rfl, ch', ls', A', rfl⟩ := q
    show mW K _ 0 0 n _ 286 [_, _, _, _, _] []
    exact m_return hF dX8_counts_286 rfl rfl rfl (by have q9 := hq ch' ls' A'; unfold cnT cnX at q9; rw [if_neg c82, if_pos c93, if_neg c104, if_neg c201, if_neg c207] at q9; exact q9)
  refine m_aload_n dX8_counts_211 rfl ?_
  refine m_aload_n dX8_counts_212 rfl ?_
  refine m_getfield dX8_counts_213 fl_X8_42 (by first | assumption | rfl | exact va_up_self _ _ _ | exact (va_up_ne _ _ (by decide)).trans h2) (by first | assumption | rfl | exact va_up_self _ _ _ | exact (va_up_ne _ _ (by decide)).trans h2) ?_
  show mW _ _ _ _ _ _ _ _ (.ref _ :: _)
  refine m_iconst (v := 1) dX8_counts_216 (by decide) ?_
  refine m_laload (k := 1) dX8_counts_217 (by first | assumption | rfl | exact va_up_self _ _ _ | exact (va_up_ne _ _ (by decide)).trans h2) ⟨by decide, by decide⟩ ?_
  refine m_invS_I dX8_counts_218 lk_X8_88 ar_X8_sign (t_X8_sign) rfl (Nat.le_of_ble_eq_true rfl) (by decide) (by decide) (by decide) (by decide) rfl rfl ?_
  try rw [va_uu]
  refine m_ineg dX8_counts_221 ?_
  refine m_aload_n dX8_counts_222 rfl ?_
  refine m_getfield dX8_counts_223 fl_X8_42 (by first | assumption | rfl | exact va_up_self _ _ _ | exact (va_up_ne _ _ (by decide)).trans h2) (by first | assumption | rfl | exact va_up_self _ _ _ | exact (va_up_ne _ _ (by decide)).trans h2) ?_
  show mW _ _ _ _ _ _ _ _ (.ref _ :: _)
  refine m_iconst (v := 3) dX8_counts_226 (by decide) ?_
  refine m_laload (k := 3) dX8_counts_227 (by first | assumption | rfl | exact va_up_self _ _ _ | exact (va_up_ne _ _ (by decide)).trans h2) ⟨by decide, by decide⟩ ?_
  refine m_invS_I dX8_counts_228 lk_X8_88 ar_X8_sign (t_X8_sign) rfl (Nat.le_of_ble_eq_true rfl) (by decide) (by decide) (by decide) (by decide) rfl rfl ?_
  try rw [va_uu]
  refine m_imul dX8_counts_231 ?_
  refine m_invV_V dX8_counts_232 lk_X8_92 ar_X8_square (ci := 8) rfl rfl (by first | assumption | rfl | exact va_up_self _ _ _ | exact (va_up_ne _ _ (by decide)).trans h2) (t_X8_square (by first | assumption | exact va_up_self _ _ _ | exact (va_up_ne _ _ (by decide)).trans h1)) rfl (Nat.le_of_ble_eq_true rfl) (by decide) (by decide) (by decide) (by decide) rfl rfl ?_
  try rw [va_uu]
  refine m_aload_n dX8_counts_235 rfl ?_
  refine m_aload_n dX8_counts_236 rfl ?_
  refine m_getfield dX8_counts_237 fl_X8_42 (by first | assumption | rfl | exact va_up_self _ _ _ | exact (va_up_ne _ _ (by decide)).trans h2) (by first | assumption | rfl | exact va_up_self _ _ _ | exact (va_up_ne _ _ (by decide)).trans h2) ?_
  show mW _ _ _ _ _ _ _ _ (.ref _ :: _)
  refine m_iconst (v := 4) dX8_counts_240 (by decide) ?_
  refine m_laload (k := 4) dX8_counts_241 (by first | assumption | rfl | exact va_up_self _ _ _ | exact (va_up_ne _ _ (by decide)).trans h2) ⟨by decide, by decide⟩ ?_
  refine m_aload_n dX8_counts_242 rfl ?_
  refine m_getfield dX8_counts_243 fl_X8_42 (by first | assumption | rfl | exact va_up_self _ _ _ | exact (va_up_ne _ _ (by decide)).trans h2) (by first | assumption | rfl | exact va_up_self _ _ _ | exact (va_up_ne _ _ (by decide)).trans h2) ?_
  show mW _ _ _ _ _ _ _ _ (.ref _ :: _)
  refine m_iconst (v := 1) dX8_counts_246 (by decide) ?_
  refine m_laload (k := 1) dX8_counts_247 (by first | assumption | rfl | exact va_up_self _ _ _ | exact (va_up_ne _ _ (by decide)).trans h2) ⟨by decide, by decide⟩ ?_
  refine m_lmul dX8_counts_248 ?_
  refine m_aload_n dX8_counts_249 rfl ?_
  refine m_getfield dX8_counts_250 fl_X8_42 (by first | assumption | rfl | exact va_up_self _ _ _ | exact (va_up_ne _ _ (by decide)).trans h2) (by first | assumption | rfl | exact va_up_self _ _ _ | exact (va_up_ne _ _ (by decide)).trans h2) ?_
  show mW _ _ _ _ _ _ _ _ (.ref _ :: _)
  refine m_iconst (v := 3) dX8_counts_253 (by decide) ?_
  refine m_laload (k := 3) dX8_counts_254 (by first | assumption | rfl | exact va_up_self _ _ _ | exact (va_up_ne _ _ (by decide)).trans h2) ⟨by decide, by decide⟩ ?_
  refine m_aload_n dX8_counts_255 rfl ?_
  refine m_getfield dX8_counts_256 fl_X8_42 (by first | assumption | rfl | exact va_up_self _ _ _ | exact (va_up_ne _ _ (by decide)).trans h2) (by first | assumption | rfl | exact va_up_self _ _ _ | exact (va_up_ne _ _ (by decide)).trans h2) ?_
  show mW _ _ _ _ _ _ _ _ (.ref _ :: _)
  refine m_iconst (v := 1) dX8_counts_259 (by decide) ?_
  refine m_laload (k := 1) dX8_counts_260 (by first | assumption | rfl | exact va_up_self _ _ _ | exact (va_up_ne _ _ (by decide)).trans h2) ⟨by decide, by decide⟩ ?_
  refine m_lmul dX8_counts_261 ?_
  refine m_aload_n dX8_counts_262 rfl ?_
  refine m_getfield dX8_counts_263 fl_X8_42 (by first | assumption | rfl | exact va_up_self _ _ _ | exact (va_up_ne _ _ (by decide)).trans h2) (by first | assumption | rfl | exact va_up_self _ _ _ | exact (va_up_ne _ _ (by decide)).trans h2) ?_
  show mW _ _ _ _ _ _ _ _ (.ref _ :: _)
  refine m_iconst (v := 0) dX8_counts_266 (by decide) ?_
  refine m_laload (k := 0) dX8_counts_267 (by first | assumption | rfl | exact va_up_self _ _ _ | exact (va_up_ne _ _ (by decide)).trans h2) ⟨by decide, by decide⟩ ?_
  refine m_aload_n dX8_counts_268 rfl ?_
  refine m_getfield dX8_counts_269 fl_X8_42 (by first | assumption | rfl | exact va_up_self _ _ _ | exact (va_up_ne _ _ (by decide)).trans h2) (by first | assumption | rfl | exact va_up_self _ _ _ | exact (va_up_ne _ _ (by decide)).trans h2) ?_
  show mW _ _ _ _ _ _ _ _ (.ref _ :: _)
  refine m_iconst (v := 3) dX8_counts_272 (by decide) ?_
  refine m_laload (k := 3) dX8_counts_273 (by first | assumption | rfl | exact va_up_self _ _ _ | exact (va_up_ne _ _ (by decide)).trans h2) ⟨by decide, by decide⟩ ?_
  refine m_lmul dX8_counts_274 ?_
  refine m_invV_V dX8_counts_275 lk_X8_107 ar_X8_two (ci := 8) rfl rfl (by first | assumption | rfl | exact va_up_self _ _ _ | exact (va_up_ne _ _ (by decide)).trans h2) (t_X8_two (by first | assumption | exact va_up_self _ _ _ | exact (va_up_ne _ _ (by decide)).trans h1)) rfl (Nat.le_of_ble_eq_true rfl) (by decide) (by decide) (by decide) (by decide) rfl rfl ?_
  try rw [va_uu]
  refine m_goto (t := 286) dX8_counts_278 (by decide) ?_
  exact m_return hF dX8_counts_286 rfl rfl rfl (by have q9 := hq ch ls B; unfold cnT cnX at q9; rw [if_neg c82, if_pos c93, if_neg c104, if_neg c201, if_pos c207, va_uid hp h2] at q9; exact q9)

def loM (Z : Nat → Int64) : Nat := if Z 0 = 0 then if Z 1 = 0 then if Z 2 = 0 then if Z 3 = 0 then 4 else 3 else 2 else 1 else 0
def cntM (Z A : Nat → Int64) : T3 := cnT (fill5 (shA Z (loM Z)) A) (0, nI (loM Z), 0)
theorem up_4 {hp : mHp} {x y a w : mE} : va_up (va_up (va_up (va_up hp 67 x) 77 y) 77 a) 67 w = va_up (va_up hp 77 a) 67 w := by
  rw [va_uu, va_uc hp x a (by decide), va_uu]
set_option maxHeartbeats 400000 in
set_option maxRecDepth 100000 in
theorem t_X8_counts {n : Nat} {hp : mHp} {ac ia tm ri ev le ch ls rm sm ra fa : Int32} (h1 : hp 67 = eO 8 (oMod ac ia tm ri ev le ch ls rm sm ra fa)) {Z A : Nat → Int64} (h2 : hp 76 = eL 5 Z) (h3 : hp 77 = eL 5 A) (hne : deg5 Z ≠ -1) : mC D_X8_counts [.ref 67] n hp (fun v hp' => v = none ∧ ∃ (ch' ls' : Int32) (A' : Nat → Int64), hp' = va_up (va_up hp 77 (eL 5 A')) 67 (eO 8 (oMod ac ia tm (cntM Z A).1 (cntM Z A).2.1 (cntM Z A).2.2 ch' ls' rm sm ra fa))) := by
  refine m_enter rfl rfl (Nat.le_of_ble_eq_true rfl) (fun K hF => ?_)
  show mW K _ 0 0 _ _ 0 [.ref 67, .retAddr 0, .retAddr 0, .retAddr 0, .retAddr 0] []
  refine m_iconst (v := 0) dX8_counts_0 (by decide) ?_
  refine m_istore_n dX8_counts_1 (by decide) ?_
  show mW _ _ _ _ _ _ 2 [_, _, _, _, _] _
  skip
  refine m_aload_n dX8_counts_2 rfl ?_
  refine m_getfield dX8_counts_3 fl_X8_39 (by first | assumption | rfl | exact va_up_self _ _ _ | exact (va_up_ne _ _ (by decide)).trans h3 | exact (va_up_ne _ _ (by decide)).trans (va_up_self _ _ _) | exact (va_up_ne _ _ (by decide)).trans ((va_up_ne _ _ (by decide)).trans h2) | exact (va_up_ne _ _ (by decide)).trans h2) (by first | assumption | rfl | exact va_up_self _ _ _ | exact (va_up_ne _ _ (by decide)).trans h3 | exact (va_up_ne _ _ (by decide)).trans (va_up_self _ _ _) | exact (va_up_ne _ _ (by decide)).trans ((va_up_ne _ _ (by decide)).trans h2) | exact (va_up_ne _ _ (by decide)).trans h2) ?_
  show mW _ _ _ _ _ _ _ _ (.ref _ :: _)
  refine m_iload_n dX8_counts_6 rfl ?_
  refine m_laload (k := 0) dX8_counts_7 (by first | assumption | rfl | exact va_up_self _ _ _ | exact (va_up_ne _ _ (by decide)).trans h3 | exact (va_up_ne _ _ (by decide)).trans (va_up_self _ _ _) | exact (va_up_ne _ _ (by decide)).trans ((va_up_ne _ _ (by decide)).trans h2) | exact (va_up_ne _ _ (by decide)).trans h2) ⟨by decide, by decide⟩ ?_
  refine m_lconst (v := 0) dX8_counts_8 (by decide) ?_
  refine m_lc_ne (t := 19) dX8_counts_9 dX8_counts_10 (by decide) (fun c9 => ?_) (fun c9 => ?_)
  · refine m_aload_n dX8_counts_19 rfl ?_
    refine m_iconst (v := 0) dX8_counts_20 (by decide) ?_
    refine m_putfield dX8_counts_21 fl_X8_75 (by first | assumption | rfl | exact va_up_self _ _ _ | exact (va_up_ne _ _ (by decide)).trans h3 | exact (va_up_ne _ _ (by decide)).trans (va_up_self _ _ _) | exact (va_up_ne _ _ (by decide)).trans ((va_up_ne _ _ (by decide)).trans h2) | exact (va_up_ne _ _ (by decide)).trans h2) (fun _ => rfl) (fun _ => rfl) ?_
    try rw [va_uu]
    rw [oMod_12]
    refine m_aload_n dX8_counts_24 rfl ?_
    refine m_iload_n dX8_counts_25 rfl ?_
    refine m_putfield dX8_counts_26 fl_X8_78 (by first | assumption | rfl | exact va_up_self _ _ _ | exact (va_up_ne _ _ (by decide)).trans h3 | exact (va_up_ne _ _ (by decide)).trans (va_up_self _ _ _) | exact (va_up_ne _ _ (by decide)).trans ((va_up_ne _ _ (by decide)).trans h2) | exact (va_up_ne _ _ (by decide)).trans h2) (fun _ => rfl) (fun _ => rfl) ?_
    try rw [va_uu]
    rw [oMod_13]
    refine m_aload_n dX8_counts_29 rfl ?_
    refine m_iconst (v := 0) dX8_counts_30 (by decide) ?_
    refine m_putfield dX8_counts_31 fl_X8_81 (by first | assumption | rfl | exact va_up_self _ _ _ | exact (va_up_ne _ _ (by decide)).trans h3 | exact (va_up_ne _ _ (by decide)).trans (va_up_self _ _ _) | exact (va_up_ne _ _ (by decide)).trans ((va_up_ne _ _ (by decide)).trans h2) | exact (va_up_ne _ _ (by decide)).trans h2) (fun _ => rfl) (fun _ => rfl) ?_
    try rw [va_uu]
    rw [oMod_14]
    refine m_iconst (v := 0) dX8_counts_34 (by decide) ?_
    refine m_istore_n dX8_counts_35 (by decide) ?_
    show mW _ _ _ _ _ _ 36 [_, _, _, _, _] _
    refine m_iload_n dX8_counts_36 rfl ?_
    refine m_iconst (v := 5) dX8_counts_37 (by decide) ?_
    refine m_icmp_ge (t := 72) dX8_counts_38 (by decide) (fun q => absurd q (by decide)) (fun _ => ?_)
    refine m_aload_n dX8_counts_41 rfl ?_
    refine m_getfield dX8_counts_42 fl_X8_42 (by first | assumption | rfl | exact va_up_self _ _ _ | exact (va_up_ne _ _ (by decide)).trans h3 | exact (va_up_ne _ _ (by decide)).trans (va_up_self _ _ _) | exact (va_up_ne _ _ (by decide)).trans ((va_up_ne _ _ (by decide)).trans h2) | exact (va_up_ne _ _ (by decide)).trans h2) (by first | assumption | rfl | exact va_up_self _ _ _ | exact (va_up_ne _ _ (by decide)).trans h3 | exact (va_up_ne _ _ (by decide)).trans (va_up_self _ _ _) | exact (va_up_ne _ _ (by decide)).trans ((va_up_ne _ _ (by decide)).trans h2) | exact (va_up_ne _ _ (by decide)).trans h2) ?_
    show mW _ _ _ _ _ _ _ _ (.ref _ :: _)
    refine m_iload_n dX8_counts_45 rfl ?_
    refine m_iload_n dX8_counts_46 rfl ?_
    refine m_iload_n dX8_counts_47 rfl ?_
    refine m_iadd dX8_counts_48 ?_
    refine m_ci (v := 0) (by decide) ?_
    refine m_iconst (v := 5) dX8_counts_49 (by decide) ?_
    refine m_icmp_ge (t := 64) dX8_counts_50 (by decide) (fun q => absurd q (by decide)) (fun _ => ?_)
    refine m_aload_n dX8_counts_53 rfl ?_
    refine m_getfield dX8_counts_54 fl_X8_39 (by first | assumption | rfl | exact va_up_self _ _ _ | exact (va_up_ne _ _ (by decide)).trans h3 | exact (va_up_ne _ _ (by decide)).trans (va_up_self _ _ _) | exact (va_up_ne _ _ (by decide)).trans ((va_up_ne _ _ (by decide)).trans h2) | exact (va_up_ne _ _ (by decide)).trans h2) (by first | assumption | rfl | exact va_up_self _ _ _ | exact (va_up_ne _ _ (by decide)).trans h3 | exact (va_up_ne _ _ (by decide)).trans (va_up_self _ _ _) | exact (va_up_ne _ _ (by decide)).trans ((va_up_ne _ _ (by decide)).trans h2) | exact (va_up_ne _ _ (by decide)).trans h2) ?_
    show mW _ _ _ _ _ _ _ _ (.ref _ :: _)
    refine m_iload_n dX8_counts_57 rfl ?_
    refine m_iload_n dX8_counts_58 rfl ?_
    refine m_iadd dX8_counts_59 ?_
    refine m_ci (v := 0) (by decide) ?_
    refine m_laload (k := 0) dX8_counts_60 (by first | assumption | rfl | exact va_up_self _ _ _ | exact (va_up_ne _ _ (by decide)).trans h3 | exact (va_up_ne _ _ (by decide)).trans (va_up_self _ _ _) | exact (va_up_ne _ _ (by decide)).trans ((va_up_ne _ _ (by decide)).trans h2) | exact (va_up_ne _ _ (by decide)).trans h2) ⟨by decide, by decide⟩ ?_
    refine m_goto (t := 65) dX8_counts_61 (by decide) ?_
    refine m_lastore (k := 0) dX8_counts_65 (by first | assumption | rfl | exact va_up_self _ _ _ | exact (va_up_ne _ _ (by decide)).trans h3 | exact (va_up_ne _ _ (by decide)).trans (va_up_self _ _ _) | exact (va_up_ne _ _ (by decide)).trans ((va_up_ne _ _ (by decide)).trans h2) | exact (va_up_ne _ _ (by decide)).trans h2) ⟨by decide, by decide⟩ ?_
    try rw [va_uu]
    refine m_iinc (v := 1) dX8_counts_66 rfl (by decide) (by decide) ?_
    show mW _ _ _ _ _ _ 69 [_, _, _, _, _] _
    refine m_goto (t := 36) dX8_counts_69 (by decide) ?_
    refine m_iload_n dX8_counts_36 rfl ?_
    refine m_iconst (v := 5) dX8_counts_37 (by decide) ?_
    refine m_icmp_ge (t := 72) dX8_counts_38 (by decide) (fun q => absurd q (by decide)) (fun _ => ?_)
    refine m_aload_n dX8_counts_41 rfl ?_
    refine m_getfield dX8_counts_42 fl_X8_42 (by first | assumption | rfl | exact va_up_self _ _ _ | exact (va_up_ne _ _ (by decide)).trans h3 | exact (va_up_ne _ _ (by decide)).trans (va_up_self _ _ _) | exact (va_up_ne _ _ (by decide)).trans ((va_up_ne _ _ (by decide)).trans h2) | exact (va_up_ne _ _ (by decide)).trans h2) (by first | assumption | rfl | exact va_up_self _ _ _ | exact (va_up_ne _ _ (by decide)).trans h3 | exact (va_up_ne _ _ (by decide)).trans (va_up_self _ _ _) | exact (va_up_ne _ _ (by decide)).trans ((va_up_ne _ _ (by decide)).trans h2) | exact (va_up_ne _ _ (by decide)).trans h2) ?_
    show mW _ _ _ _ _ _ _ _ (.ref _ :: _)
    refine m_iload_n dX8_counts_45 rfl ?_
    refine m_iload_n dX8_counts_46 rfl ?_
    refine m_iload_n dX8_counts_47 rfl ?_
    refine m_iadd dX8_counts_48 ?_
    refine m_ci (v := 1) (by decide) ?_
    refine m_iconst (v := 5) dX8_counts_49 (by decide) ?_
    refine m_icmp_ge (t := 64) dX8_counts_50 (by decide) (fun q => absurd q (by decide)) (fun _ => ?_)
    refine m_aload_n dX8_counts_53 rfl ?_
    refine m_getfield dX8_counts_54 fl_X8_39 (by first | assumption | rfl | exact va_up_self _ _ _ | exact (va_up_ne _ _ (by decide)).trans h3 | exact (va_up_ne _ _ (by decide)).trans (va_up_self _ _ _) | exact (va_up_ne _ _ (by decide)).trans ((va_up_ne _ _ (by decide)).trans h2) | exact (va_up_ne _ _ (by decide)).trans h2) (by first | assumption | rfl | exact va_up_self _ _ _ | exact (va_up_ne _ _ (by decide)).trans h3 | exact (va_up_ne _ _ (by decide)).trans (va_up_self _ _ _) | exact (va_up_ne _ _ (by decide)).trans ((va_up_ne _ _ (by decide)).trans h2) | exact (va_up_ne _ _ (by decide)).trans h2) ?_
    show mW _ _ _ _ _ _ _ _ (.ref _ :: _)
    refine m_iload_n dX8_counts_57 rfl ?_
    refine m_iload_n dX8_counts_58 rfl ?_
    refine m_iadd dX8_counts_59 ?_
    refine m_ci (v := 1) (by decide) ?_
    refine m_laload (k := 1) dX8_counts_60 (by first | assumption | rfl | exact va_up_self _ _ _ | exact (va_up_ne _ _ (by decide)).trans h3 | exact (va_up_ne _ _ (by decide)).trans (va_up_self _ _ _) | exact (va_up_ne _ _ (by decide)).trans ((va_up_ne _ _ (by decide)).trans h2) | exact (va_up_ne _ _ (by decide)).trans h2) ⟨by decide, by decide⟩ ?_
    refine m_goto (t := 65) dX8_counts_61 (by decide) ?_
    refine m_lastore (k := 1) dX8_counts_65 (by first | assumption | rfl | exact va_up_self _ _ _ | exact (va_up_ne _ _ (by decide)).trans h3 | exact (va_up_ne _ _ (by decide)).trans (va_up_self _ _ _) | exact (va_up_ne _ _ (by decide)).trans ((va_up_ne _ _ (by decide)).trans h2) | exact (va_up_ne _ _ (by decide)).trans h2) ⟨by decide, by decide⟩ ?_
    try rw [va_uu]
    refine m_iinc (v := 2) dX8_counts_66 rfl (by decide) (by decide) ?_
    show mW _ _ _ _ _ _ 69 [_, _, _, _, _] _
    refine m_goto (t := 36) dX8_counts_69 (by decide) ?_
    refine m_iload_n dX8_counts_36 rfl ?_
    refine m_iconst (v := 5) dX8_counts_37 (by decide) ?_
    refine m_icmp_ge (t := 72) dX8_counts_38 (by decide) (fun q => absurd q (by decide)) (fun _ => ?_)
    refine m_aload_n dX8_counts_41 rfl ?_
    refine m_getfield dX8_counts_42 fl_X8_42 (by first | assumption | rfl | exact va_up_self _ _ _ | exact (va_up_ne _ _ (by decide)).trans h3 | exact (va_up_ne _ _ (by decide)).trans (va_up_self _ _ _) | exact (va_up_ne _ _ (by decide)).trans ((va_up_ne _ _ (by decide)).trans h2) | exact (va_up_ne _ _ (by decide)).trans h2) (by first | assumption | rfl | exact va_up_self _ _ _ | exact (va_up_ne _ _ (by decide)).trans h3 | exact (va_up_ne _ _ (by decide)).trans (va_up_self _ _ _) | exact (va_up_ne _ _ (by decide)).trans ((va_up_ne _ _ (by decide)).trans h2) | exact (va_up_ne _ _ (by decide)).trans h2) ?_
    show mW _ _ _ _ _ _ _ _ (.ref _ :: _)
    refine m_iload_n dX8_counts_45 rfl ?_
    refine m_iload_n dX8_counts_46 rfl ?_
    refine m_iload_n dX8_counts_47 rfl ?_
    refine m_iadd dX8_counts_48 ?_
    refine m_ci (v := 2) (by decide) ?_
    refine m_iconst (v := 5) dX8_counts_49 (by decide) ?_
    refine m_icmp_ge (t := 64) dX8_counts_50 (by decide) (fun q => absurd q (by decide)) (fun _ => ?_)
    refine m_aload_n dX8_counts_53 rfl ?_
    refine m_getfield dX8_counts_54 fl_X8_39 (by first | assumption | rfl | exact va_up_self _ _ _ | exact (va_up_ne _ _ (by decide)).trans h3 | exact (va_up_ne _ _ (by decide)).trans (va_up_self _ _ _) | exact (va_up_ne _ _ (by decide)).trans ((va_up_ne _ _ (by decide)).trans h2) | exact (va_up_ne _ _ (by decide)).trans h2) (by first | assumption | rfl | exact va_up_self _ _ _ | exact (va_up_ne _ _ (by decide)).trans h3 | exact (va_up_ne _ _ (by decide)).trans (va_up_self _ _ _) | exact (va_up_ne _ _ (by decide)).trans ((va_up_ne _ _ (by decide)).trans h2) | exact (va_up_ne _ _ (by decide)).trans h2) ?_
    show mW _ _ _ _ _ _ _ _ (.ref _ :: _)
    refine m_iload_n dX8_counts_57 rfl ?_
    refine m_iload_n dX8_counts_58 rfl ?_
    refine m_iadd dX8_counts_59 ?_
    refine m_ci (v := 2) (by decide) ?_
    refine m_laload (k := 2) dX8_counts_60 (by first | assumption | rfl | exact va_up_self _ _ _ | exact (va_up_ne _ _ (by decide)).trans h3 | exact (va_up_ne _ _ (by decide)).trans (va_up_self _ _ _) | exact (va_up_ne _ _ (by decide)).trans ((va_up_ne _ _ (by decide)).trans h2) | exact (va_up_ne _ _ (by decide)).trans h2) ⟨by decide, by decide⟩ ?_
    refine m_goto (t := 65) dX8_counts_61 (by decide) ?_
    refine m_lastore (k := 2) dX8_counts_65 (by first | assumption | rfl | exact va_up_self _ _ _ | exact (va_up_ne _ _ (by decide)).trans h3 | exact (va_up_ne _ _ (by decide)).trans (va_up_self _ _ _) | exact (va_up_ne _ _ (by decide)).trans ((va_up_ne _ _ (by decide)).trans h2) | exact (va_up_ne _ _ (by decide)).trans h2) ⟨by decide, by decide⟩ ?_
    try rw [va_uu]
    refine m_iinc (v := 3) dX8_counts_66 rfl (by decide) (by decide) ?_
    show mW _ _ _ _ _ _ 69 [_, _, _, _, _] _
    refine m_goto (t := 36) dX8_counts_69 (by decide) ?_
    refine m_iload_n dX8_counts_36 rfl ?_
    refine m_iconst (v := 5) dX8_counts_37 (by decide) ?_
    refine m_icmp_ge (t := 72) dX8_counts_38 (by decide) (fun q => absurd q (by decide)) (fun _ => ?_)
    refine m_aload_n dX8_counts_41 rfl ?_
    refine m_getfield dX8_counts_42 fl_X8_42 (by first | assumption | rfl | exact va_up_self _ _ _ | exact (va_up_ne _ _ (by decide)).trans h3 | exact (va_up_ne _ _ (by decide)).trans (va_up_self _ _ _) | exact (va_up_ne _ _ (by decide)).trans ((va_up_ne _ _ (by decide)).trans h2) | exact (va_up_ne _ _ (by decide)).trans h2) (by first | assumption | rfl | exact va_up_self _ _ _ | exact (va_up_ne _ _ (by decide)).trans h3 | exact (va_up_ne _ _ (by decide)).trans (va_up_self _ _ _) | exact (va_up_ne _ _ (by decide)).trans ((va_up_ne _ _ (by decide)).trans h2) | exact (va_up_ne _ _ (by decide)).trans h2) ?_
    show mW _ _ _ _ _ _ _ _ (.ref _ :: _)
    refine m_iload_n dX8_counts_45 rfl ?_
    refine m_iload_n dX8_counts_46 rfl ?_
    refine m_iload_n dX8_counts_47 rfl ?_
    refine m_iadd dX8_counts_48 ?_
    refine m_ci (v := 3) (by decide) ?_
    refine m_iconst (v := 5) dX8_counts_49 (by decide) ?_
    refine m_icmp_ge (t := 64) dX8_counts_50 (by decide) (fun q => absurd q (by decide)) (fun _ => ?_)
    refine m_aload_n dX8_counts_53 rfl ?_
    refine m_getfield dX8_counts_54 fl_X8_39 (by first | assumption | rfl | exact va_up_self _ _ _ | exact (va_up_ne _ _ (by decide)).trans h3 | exact (va_up_ne _ _ (by decide)).trans (va_up_self _ _ _) | exact (va_up_ne _ _ (by decide)).trans ((va_up_ne _ _ (by decide)).trans h2) | exact (va_up_ne _ _ (by decide)).trans h2) (by first | assumption | rfl | exact va_up_self _ _ _ | exact (va_up_ne _ _ (by decide)).trans h3 | exact (va_up_ne _ _ (by decide)).trans (va_up_self _ _ _) | exact (va_up_ne _ _ (by decide)).trans ((va_up_ne _ _ (by decide)).trans h2) | exact (va_up_ne _ _ (by decide)).trans h2) ?_
    show mW _ _ _ _ _ _ _ _ (.ref _ :: _)
    refine m_iload_n dX8_counts_57 rfl ?_
    refine m_iload_n dX8_counts_58 rfl ?_
    refine m_iadd dX8_counts_59 ?_
    refine m_ci (v := 3) (by decide) ?_
    refine m_laload (k := 3) dX8_counts_60 (by first | assumption | rfl | exact va_up_self _ _ _ | exact (va_up_ne _ _ (by decide)).trans h3 | exact (va_up_ne _ _ (by decide)).trans (va_up_self _ _ _) | exact (va_up_ne _ _ (by decide)).trans ((va_up_ne _ _ (by decide)).trans h2) | exact (va_up_ne _ _ (by decide)).trans h2) ⟨by decide, by decide⟩ ?_
    refine m_goto (t := 65) dX8_counts_61 (by decide) ?_
    refine m_lastore (k := 3) dX8_counts_65 (by first | assumption | rfl | exact va_up_self _ _ _ | exact (va_up_ne _ _ (by decide)).trans h3 | exact (va_up_ne _ _ (by decide)).trans (va_up_self _ _ _) | exact (va_up_ne _ _ (by decide)).trans ((va_up_ne _ _ (by decide)).trans h2) | exact (va_up_ne _ _ (by decide)).trans h2) ⟨by decide, by decide⟩ ?_
    try rw [va_uu]
    refine m_iinc (v := 4) dX8_counts_66 rfl (by decide) (by decide) ?_
    show mW _ _ _ _ _ _ 69 [_, _, _, _, _] _
    refine m_goto (t := 36) dX8_counts_69 (by decide) ?_
    refine m_iload_n dX8_counts_36 rfl ?_
    refine m_iconst (v := 5) dX8_counts_37 (by decide) ?_
    refine m_icmp_ge (t := 72) dX8_counts_38 (by decide) (fun q => absurd q (by decide)) (fun _ => ?_)
    refine m_aload_n dX8_counts_41 rfl ?_
    refine m_getfield dX8_counts_42 fl_X8_42 (by first | assumption | rfl | exact va_up_self _ _ _ | exact (va_up_ne _ _ (by decide)).trans h3 | exact (va_up_ne _ _ (by decide)).trans (va_up_self _ _ _) | exact (va_up_ne _ _ (by decide)).trans ((va_up_ne _ _ (by decide)).trans h2) | exact (va_up_ne _ _ (by decide)).trans h2) (by first | assumption | rfl | exact va_up_self _ _ _ | exact (va_up_ne _ _ (by decide)).trans h3 | exact (va_up_ne _ _ (by decide)).trans (va_up_self _ _ _) | exact (va_up_ne _ _ (by decide)).trans ((va_up_ne _ _ (by decide)).trans h2) | exact (va_up_ne _ _ (by decide)).trans h2) ?_
    show mW _ _ _ _ _ _ _ _ (.ref _ :: _)
    refine m_iload_n dX8_counts_45 rfl ?_
    refine m_iload_n dX8_counts_46 rfl ?_
    refine m_iload_n dX8_counts_47 rfl ?_
    refine m_iadd dX8_counts_48 ?_
    refine m_ci (v := 4) (by decide) ?_
    refine m_iconst (v := 5) dX8_counts_49 (by decide) ?_
    refine m_icmp_ge (t := 64) dX8_counts_50 (by decide) (fun q => absurd q (by decide)) (fun _ => ?_)
    refine m_aload_n dX8_counts_53 rfl ?_
    refine m_getfield dX8_counts_54 fl_X8_39 (by first | assumption | rfl | exact va_up_self _ _ _ | exact (va_up_ne _ _ (by decide)).trans h3 | exact (va_up_ne _ _ (by decide)).trans (va_up_self _ _ _) | exact (va_up_ne _ _ (by decide)).trans ((va_up_ne _ _ (by decide)).trans h2) | exact (va_up_ne _ _ (by decide)).trans h2) (by first | assumption | rfl | exact va_up_self _ _ _ | exact (va_up_ne _ _ (by decide)).trans h3 | exact (va_up_ne _ _ (by decide)).trans (va_up_self _ _ _) | exact (va_up_ne _ _ (by decide)).trans ((va_up_ne _ _ (by decide)).trans h2) | exact (va_up_ne _ _ (by decide)).trans h2) ?_
    show mW _ _ _ _ _ _ _ _ (.ref _ :: _)
    refine m_iload_n dX8_counts_57 rfl ?_
    refine m_iload_n dX8_counts_58 rfl ?_
    refine m_iadd dX8_counts_59 ?_
    refine m_ci (v := 4) (by decide) ?_
    refine m_laload (k := 4) dX8_counts_60 (by first | assumption | rfl | exact va_up_self _ _ _ | exact (va_up_ne _ _ (by decide)).trans h3 | exact (va_up_ne _ _ (by decide)).trans (va_up_self _ _ _) | exact (va_up_ne _ _ (by decide)).trans ((va_up_ne _ _ (by decide)).trans h2) | exact (va_up_ne _ _ (by decide)).trans h2) ⟨by decide, by decide⟩ ?_
    refine m_goto (t := 65) dX8_counts_61 (by decide) ?_
    refine m_lastore (k := 4) dX8_counts_65 (by first | assumption | rfl | exact va_up_self _ _ _ | exact (va_up_ne _ _ (by decide)).trans h3 | exact (va_up_ne _ _ (by decide)).trans (va_up_self _ _ _) | exact (va_up_ne _ _ (by decide)).trans ((va_up_ne _ _ (by decide)).trans h2) | exact (va_up_ne _ _ (by decide)).trans h2) ⟨by decide, by decide⟩ ?_
    try rw [va_uu]
    refine m_iinc (v := 5) dX8_counts_66 rfl (by decide) (by decide) ?_
    show mW _ _ _ _ _ _ 69 [_, _, _, _, _] _
    refine m_goto (t := 36) dX8_counts_69 (by decide) ?_
    refine m_iload_n dX8_counts_36 rfl ?_
    refine m_iconst (v := 5) dX8_counts_37 (by decide) ?_
    refine m_icmp_ge (t := 72) dX8_counts_38 (by decide) (fun _ => ?_) (fun q => absurd (by decide) q)
    have hlo : loM Z = 0 := by
      unfold loM
      rw [if_neg c9]
    refine l_X8_counts (hp := va_up (va_up hp 67 (eO 8 (oMod ac ia tm 0 (nI 0) 0 ch ls rm sm ra fa))) 77 (eL 5 (fill5 (shA Z 0) A))) (B := fill5 (shA Z 0) A) ((va_up_ne _ _ (by decide)).trans (va_up_self _ _ _)) (va_up_self _ _ _) c9 hF (fun ch' ls' A' => ⟨rfl, ch', ls', A', ?_⟩)
    unfold cntM
    rw [hlo]
    exact up_4
  refine m_iinc (v := 1) dX8_counts_13 rfl (by decide) (by decide) ?_
  show mW _ _ _ _ _ _ 16 [_, _, _, _, _] _
  refine m_goto (t := 2) dX8_counts_16 (by decide) ?_
  skip
  refine m_aload_n dX8_counts_2 rfl ?_
  refine m_getfield dX8_counts_3 fl_X8_39 (by first | assumption | rfl | exact va_up_self _ _ _ | exact (va_up_ne _ _ (by decide)).trans h3 | exact (va_up_ne _ _ (by decide)).trans (va_up_self _ _ _) | exact (va_up_ne _ _ (by decide)).trans ((va_up_ne _ _ (by decide)).trans h2) | exact (va_up_ne _ _ (by decide)).trans h2) (by first | assumption | rfl | exact va_up_self _ _ _ | exact (va_up_ne _ _ (by decide)).trans h3 | exact (va_up_ne _ _ (by decide)).trans (va_up_self _ _ _) | exact (va_up_ne _ _ (by decide)).trans ((va_up_ne _ _ (by decide)).trans h2) | exact (va_up_ne _ _ (by decide)).trans h2) ?_
  show mW _ _ _ _ _ _ _ _ (.ref _ :: _)
  refine m_iload_n dX8_counts_6 rfl ?_
  refine m_laload (k := 1) dX8_counts_7 (by first | assumption | rfl | exact va_up_self _ _ _ | exact (va_up_ne _ _ (by decide)).trans h3 | exact (va_up_ne _ _ (by decide)).trans (va_up_self _ _ _) | exact (va_up_ne _ _ (by decide)).trans ((va_up_ne _ _ (by decide)).trans h2) | exact (va_up_ne _ _ (by decide)).trans h2) ⟨by decide, by decide⟩ ?_
  refine m_lconst (v := 0) dX8_counts_8 (by decide) ?_
  refine m_lc_ne (t := 19) dX8_counts_9 dX8_counts_10 (by decide) (fun c9_1 => ?_) (fun c9_1 => ?_)
  · refine m_aload_n dX8_counts_19 rfl ?_
    refine m_iconst (v := 0) dX8_counts_20 (by decide) ?_
    refine m_putfield dX8_counts_21 fl_X8_75 (by first | assumption | rfl | exact va_up_self _ _ _ | exact (va_up_ne _ _ (by decide)).trans h3 | exact (va_up_ne _ _ (by decide)).trans (va_up_self _ _ _) | exact (va_up_ne _ _ (by decide)).trans ((va_up_ne _ _ (by decide)).trans h2) | exact (va_up_ne _ _ (by decide)).trans h2) (fun _ => rfl) (fun _ => rfl) ?_
    try rw [va_uu]
    rw [oMod_12]
    refine m_aload_n dX8_counts_24 rfl ?_
    refine m_iload_n dX8_counts_25 rfl ?_
    refine m_putfield dX8_counts_26 fl_X8_78 (by first | assumption | rfl | exact va_up_self _ _ _ | exact (va_up_ne _ _ (by decide)).trans h3 | exact (va_up_ne _ _ (by decide)).trans (va_up_self _ _ _) | exact (va_up_ne _ _ (by decide)).trans ((va_up_ne _ _ (by decide)).trans h2) | exact (va_up_ne _ _ (by decide)).trans h2) (fun _ => rfl) (fun _ => rfl) ?_
    try rw [va_uu]
    rw [oMod_13]
    refine m_aload_n dX8_counts_29 rfl ?_
    refine m_iconst (v := 0) dX8_counts_30 (by decide) ?_
    refine m_putfield dX8_counts_31 fl_X8_81 (by first | assumption | rfl | exact va_up_self _ _ _ | exact (va_up_ne _ _ (by decide)).trans h3 | exact (va_up_ne _ _ (by decide)).trans (va_up_self _ _ _) | exact (va_up_ne _ _ (by decide)).trans ((va_up_ne _ _ (by decide)).trans h2) | exact (va_up_ne _ _ (by decide)).trans h2) (fun _ => rfl) (fun _ => rfl) ?_
    try rw [va_uu]
    rw [oMod_14]
    refine m_iconst (v := 0) dX8_counts_34 (by decide) ?_
    refine m_istore_n dX8_counts_35 (by decide) ?_
    show mW _ _ _ _ _ _ 36 [_, _, _, _, _] _
    refine m_iload_n dX8_counts_36 rfl ?_
    refine m_iconst (v := 5) dX8_counts_37 (by decide) ?_
    refine m_icmp_ge (t := 72) dX8_counts_38 (by decide) (fun q => absurd q (by decide)) (fun _ => ?_)
    refine m_aload_n dX8_counts_41 rfl ?_
    refine m_getfield dX8_counts_42 fl_X8_42 (by first | assumption | rfl | exact va_up_self _ _ _ | exact (va_up_ne _ _ (by decide)).trans h3 | exact (va_up_ne _ _ (by decide)).trans (va_up_self _ _ _) | exact (va_up_ne _ _ (by decide)).trans ((va_up_ne _ _ (by decide)).trans h2) | exact (va_up_ne _ _ (by decide)).trans h2) (by first | assumption | rfl | exact va_up_self _ _ _ | exact (va_up_ne _ _ (by decide)).trans h3 | exact (va_up_ne _ _ (by decide)).trans (va_up_self _ _ _) | exact (va_up_ne _ _ (by decide)).trans ((va_up_ne _ _ (by decide)).trans h2) | exact (va_up_ne _ _ (by decide)).trans h2) ?_
    show mW _ _ _ _ _ _ _ _ (.ref _ :: _)
    refine m_iload_n dX8_counts_45 rfl ?_
    refine m_iload_n dX8_counts_46 rfl ?_
    refine m_iload_n dX8_counts_47 rfl ?_
    refine m_iadd dX8_counts_48 ?_
    refine m_ci (v := 1) (by decide) ?_
    refine m_iconst (v := 5) dX8_counts_49 (by decide) ?_
    refine m_icmp_ge (t := 64) dX8_counts_50 (by decide) (fun q => absurd q (by decide)) (fun _ => ?_)
    refine m_aload_n dX8_counts_53 rfl ?_
    refine m_getfield dX8_counts_54 fl_X8_39 (by first | assumption | rfl | exact va_up_self _ _ _ | exact (va_up_ne _ _ (by decide)).trans h3 | exact (va_up_ne _ _ (by decide)).trans (va_up_self _ _ _) | exact (va_up_ne _ _ (by decide)).trans ((va_up_ne _ _ (by decide)).trans h2) | exact (va_up_ne _ _ (by decide)).trans h2) (by first | assumption | rfl | exact va_up_self _ _ _ | exact (va_up_ne _ _ (by decide)).trans h3 | exact (va_up_ne _ _ (by decide)).trans (va_up_self _ _ _) | exact (va_up_ne _ _ (by decide)).trans ((va_up_ne _ _ (by decide)).trans h2) | exact (va_up_ne _ _ (by decide)).trans h2) ?_
    show mW _ _ _ _ _ _ _ _ (.ref _ :: _)
    refine m_iload_n dX8_counts_57 rfl ?_
    refine m_iload_n dX8_counts_58 rfl ?_
    refine m_iadd dX8_counts_59 ?_
    refine m_ci (v := 1) (by decide) ?_
    refine m_laload (k := 1) dX8_counts_60 (by first | assumption | rfl | exact va_up_self _ _ _ | exact (va_up_ne _ _ (by decide)).trans h3 | exact (va_up_ne _ _ (by decide)).trans (va_up_self _ _ _) | exact (va_up_ne _ _ (by decide)).trans ((va_up_ne _ _ (by decide)).trans h2) | exact (va_up_ne _ _ (by decide)).trans h2) ⟨by decide, by decide⟩ ?_
    refine m_goto (t := 65) dX8_counts_61 (by decide) ?_
    refine m_lastore (k := 0) dX8_counts_65 (by first | assumption | rfl | exact va_up_self _ _ _ | exact (va_up_ne _ _ (by decide)).trans h3 | exact (va_up_ne _ _ (by decide)).trans (va_up_self _ _ _) | exact (va_up_ne _ _ (by decide)).trans ((va_up_ne _ _ (by decide)).trans h2) | exact (va_up_ne _ _ (by decide)).trans h2) ⟨by decide, by decide⟩ ?_
    try rw [va_uu]
    refine m_iinc (v := 1) dX8_counts_66 rfl (by decide) (by decide) ?_
    show mW _ _ _ _ _ _ 69 [_, _, _, _, _] _
    refine m_goto (t := 36) dX8_counts_69 (by decide) ?_
    refine m_iload_n dX8_counts_36 rfl ?_
    refine m_iconst (v := 5) dX8_counts_37 (by decide) ?_
    refine m_icmp_ge (t := 72) dX8_counts_38 (by decide) (fun q => absurd q (by decide)) (fun _ => ?_)
    refine m_aload_n dX8_counts_41 rfl ?_
    refine m_getfield dX8_counts_42 fl_X8_42 (by first | assumption | rfl | exact va_up_self _ _ _ | exact (va_up_ne _ _ (by decide)).trans h3 | exact (va_up_ne _ _ (by decide)).trans (va_up_self _ _ _) | exact (va_up_ne _ _ (by decide)).trans ((va_up_ne _ _ (by decide)).trans h2) | exact (va_up_ne _ _ (by decide)).trans h2) (by first | assumption | rfl | exact va_up_self _ _ _ | exact (va_up_ne _ _ (by decide)).trans h3 | exact (va_up_ne _ _ (by decide)).trans (va_up_self _ _ _) | exact (va_up_ne _ _ (by decide)).trans ((va_up_ne _ _ (by decide)).trans h2) | exact (va_up_ne _ _ (by decide)).trans h2) ?_
    show mW _ _ _ _ _ _ _ _ (.ref _ :: _)
    refine m_iload_n dX8_counts_45 rfl ?_
    refine m_iload_n dX8_counts_46 rfl ?_
    refine m_iload_n dX8_counts_47 rfl ?_
    refine m_iadd dX8_counts_48 ?_
    refine m_ci (v := 2) (by decide) ?_
    refine m_iconst (v := 5) dX8_counts_49 (by decide) ?_
    refine m_icmp_ge (t := 64) dX8_counts_50 (by decide) (fun q => absurd q (by decide)) (fun _ => ?_)
    refine m_aload_n dX8_counts_53 rfl ?_
    refine m_getfield dX8_counts_54 fl_X8_39 (by first | assumption | rfl | exact va_up_self _ _ _ | exact (va_up_ne _ _ (by decide)).trans h3 | exact (va_up_ne _ _ (by decide)).trans (va_up_self _ _ _) | exact (va_up_ne _ _ (by decide)).trans ((va_up_ne _ _ (by decide)).trans h2) | exact (va_up_ne _ _ (by decide)).trans h2) (by first | assumption | rfl | exact va_up_self _ _ _ | exact (va_up_ne _ _ (by decide)).trans h3 | exact (va_up_ne _ _ (by decide)).trans (va_up_self _ _ _) | exact (va_up_ne _ _ (by decide)).trans ((va_up_ne _ _ (by decide)).trans h2) | exact (va_up_ne _ _ (by decide)).trans h2) ?_
    show mW _ _ _ _ _ _ _ _ (.ref _ :: _)
    refine m_iload_n dX8_counts_57 rfl ?_
    refine m_iload_n dX8_counts_58 rfl ?_
    refine m_iadd dX8_counts_59 ?_
    refine m_ci (v := 2) (by decide) ?_
    refine m_laload (k := 2) dX8_counts_60 (by first | assumption | rfl | exact va_up_self _ _ _ | exact (va_up_ne _ _ (by decide)).trans h3 | exact (va_up_ne _ _ (by decide)).trans (va_up_self _ _ _) | exact (va_up_ne _ _ (by decide)).trans ((va_up_ne _ _ (by decide)).trans h2) | exact (va_up_ne _ _ (by decide)).trans h2) ⟨by decide, by decide⟩ ?_
    refine m_goto (t := 65) dX8_counts_61 (by decide) ?_
    refine m_lastore (k := 1) dX8_counts_65 (by first | assumption | rfl | exact va_up_self _ _ _ | exact (va_up_ne _ _ (by decide)).trans h3 | exact (va_up_ne _ _ (by decide)).trans (va_up_self _ _ _) | exact (va_up_ne _ _ (by decide)).trans ((va_up_ne _ _ (by decide)).trans h2) | exact (va_up_ne _ _ (by decide)).trans h2) ⟨by decide, by decide⟩ ?_
    try rw [va_uu]
    refine m_iinc (v := 2) dX8_counts_66 rfl (by decide) (by decide) ?_
    show mW _ _ _ _ _ _ 69 [_, _, _, _, _] _
    refine m_goto (t := 36) dX8_counts_69 (by decide) ?_
    refine m_iload_n dX8_counts_36 rfl ?_
    refine m_iconst (v := 5) dX8_counts_37 (by decide) ?_
    refine m_icmp_ge (t := 72) dX8_counts_38 (by decide) (fun q => absurd q (by decide)) (fun _ => ?_)
    refine m_aload_n dX8_counts_41 rfl ?_
    refine m_getfield dX8_counts_42 fl_X8_42 (by first | assumption | rfl | exact va_up_self _ _ _ | exact (va_up_ne _ _ (by decide)).trans h3 | exact (va_up_ne _ _ (by decide)).trans (va_up_self _ _ _) | exact (va_up_ne _ _ (by decide)).trans ((va_up_ne _ _ (by decide)).trans h2) | exact (va_up_ne _ _ (by decide)).trans h2) (by first | assumption | rfl | exact va_up_self _ _ _ | exact (va_up_ne _ _ (by decide)).trans h3 | exact (va_up_ne _ _ (by decide)).trans (va_up_self _ _ _) | exact (va_up_ne _ _ (by decide)).trans ((va_up_ne _ _ (by decide)).trans h2) | exact (va_up_ne _ _ (by decide)).trans h2) ?_
    show mW _ _ _ _ _ _ _ _ (.ref _ :: _)
    refine m_iload_n dX8_counts_45 rfl ?_
    refine m_iload_n dX8_counts_46 rfl ?_
    refine m_iload_n dX8_counts_47 rfl ?_
    refine m_iadd dX8_counts_48 ?_
    refine m_ci (v := 3) (by decide) ?_
    refine m_iconst (v := 5) dX8_counts_49 (by decide) ?_
    refine m_icmp_ge (t := 64) dX8_counts_50 (by decide) (fun q => absurd q (by decide)) (fun _ => ?_)
    refine m_aload_n dX8_counts_53 rfl ?_
    refine m_getfield dX8_counts_54 fl_X8_39 (by first | assumption | rfl | exact va_up_self _ _ _ | exact (va_up_ne _ _ (by decide)).trans h3 | exact (va_up_ne _ _ (by decide)).trans (va_up_self _ _ _) | exact (va_up_ne _ _ (by decide)).trans ((va_up_ne _ _ (by decide)).trans h2) | exact (va_up_ne _ _ (by decide)).trans h2) (by first | assumption | rfl | exact va_up_self _ _ _ | exact (va_up_ne _ _ (by decide)).trans h3 | exact (va_up_ne _ _ (by decide)).trans (va_up_self _ _ _) | exact (va_up_ne _ _ (by decide)).trans ((va_up_ne _ _ (by decide)).trans h2) | exact (va_up_ne _ _ (by decide)).trans h2) ?_
    show mW _ _ _ _ _ _ _ _ (.ref _ :: _)
    refine m_iload_n dX8_counts_57 rfl ?_
    refine m_iload_n dX8_counts_58 rfl ?_
    refine m_iadd dX8_counts_59 ?_
    refine m_ci (v := 3) (by decide) ?_
    refine m_laload (k := 3) dX8_counts_60 (by first | assumption | rfl | exact va_up_self _ _ _ | exact (va_up_ne _ _ (by decide)).trans h3 | exact (va_up_ne _ _ (by decide)).trans (va_up_self _ _ _) | exact (va_up_ne _ _ (by decide)).trans ((va_up_ne _ _ (by decide)).trans h2) | exact (va_up_ne _ _ (by decide)).trans h2) ⟨by decide, by decide⟩ ?_
    refine m_goto (t := 65) dX8_counts_61 (by decide) ?_
    refine m_lastore (k := 2) dX8_counts_65 (by first | assumption | rfl | exact va_up_self _ _ _ | exact (va_up_ne _ _ (by decide)).trans h3 | exact (va_up_ne _ _ (by decide)).trans (va_up_self _ _ _) | exact (va_up_ne _ _ (by decide)).trans ((va_up_ne _ _ (by decide)).trans h2) | exact (va_up_ne _ _ (by decide)).trans h2) ⟨by decide, by decide⟩ ?_
    try rw [va_uu]
    refine m_iinc (v := 3) dX8_counts_66 rfl (by decide) (by decide) ?_
    show mW _ _ _ _ _ _ 69 [_, _, _, _, _] _
    refine m_goto (t := 36) dX8_counts_69 (by decide) ?_
    refine m_iload_n dX8_counts_36 rfl ?_
    refine m_iconst (v := 5) dX8_counts_37 (by decide) ?_
    refine m_icmp_ge (t := 72) dX8_counts_38 (by decide) (fun q => absurd q (by decide)) (fun _ => ?_)
    refine m_aload_n dX8_counts_41 rfl ?_
    refine m_getfield dX8_counts_42 fl_X8_42 (by first | assumption | rfl | exact va_up_self _ _ _ | exact (va_up_ne _ _ (by decide)).trans h3 | exact (va_up_ne _ _ (by decide)).trans (va_up_self _ _ _) | exact (va_up_ne _ _ (by decide)).trans ((va_up_ne _ _ (by decide)).trans h2) | exact (va_up_ne _ _ (by decide)).trans h2) (by first | assumption | rfl | exact va_up_self _ _ _ | exact (va_up_ne _ _ (by decide)).trans h3 | exact (va_up_ne _ _ (by decide)).trans (va_up_self _ _ _) | exact (va_up_ne _ _ (by decide)).trans ((va_up_ne _ _ (by decide)).trans h2) | exact (va_up_ne _ _ (by decide)).trans h2) ?_
    show mW _ _ _ _ _ _ _ _ (.ref _ :: _)
    refine m_iload_n dX8_counts_45 rfl ?_
    refine m_iload_n dX8_counts_46 rfl ?_
    refine m_iload_n dX8_counts_47 rfl ?_
    refine m_iadd dX8_counts_48 ?_
    refine m_ci (v := 4) (by decide) ?_
    refine m_iconst (v := 5) dX8_counts_49 (by decide) ?_
    refine m_icmp_ge (t := 64) dX8_counts_50 (by decide) (fun q => absurd q (by decide)) (fun _ => ?_)
    refine m_aload_n dX8_counts_53 rfl ?_
    refine m_getfield dX8_counts_54 fl_X8_39 (by first | assumption | rfl | exact va_up_self _ _ _ | exact (va_up_ne _ _ (by decide)).trans h3 | exact (va_up_ne _ _ (by decide)).trans (va_up_self _ _ _) | exact (va_up_ne _ _ (by decide)).trans ((va_up_ne _ _ (by decide)).trans h2) | exact (va_up_ne _ _ (by decide)).trans h2) (by first | assumption | rfl | exact va_up_self _ _ _ | exact (va_up_ne _ _ (by decide)).trans h3 | exact (va_up_ne _ _ (by decide)).trans (va_up_self _ _ _) | exact (va_up_ne _ _ (by decide)).trans ((va_up_ne _ _ (by decide)).trans h2) | exact (va_up_ne _ _ (by decide)).trans h2) ?_
    show mW _ _ _ _ _ _ _ _ (.ref _ :: _)
    refine m_iload_n dX8_counts_57 rfl ?_
    refine m_iload_n dX8_counts_58 rfl ?_
    refine m_iadd dX8_counts_59 ?_
    refine m_ci (v := 4) (by decide) ?_
    refine m_laload (k := 4) dX8_counts_60 (by first | assumption | rfl | exact va_up_self _ _ _ | exact (va_up_ne _ _ (by decide)).trans h3 | exact (va_up_ne _ _ (by decide)).trans (va_up_self _ _ _) | exact (va_up_ne _ _ (by decide)).trans ((va_up_ne _ _ (by decide)).trans h2) | exact (va_up_ne _ _ (by decide)).trans h2) ⟨by decide, by decide⟩ ?_
    refine m_goto (t := 65) dX8_counts_61 (by decide) ?_
    refine m_lastore (k := 3) dX8_counts_65 (by first | assumption | rfl | exact va_up_self _ _ _ | exact (va_up_ne _ _ (by decide)).trans h3 | exact (va_up_ne _ _ (by decide)).trans (va_up_self _ _ _) | exact (va_up_ne _ _ (by decide)).trans ((va_up_ne _ _ (by decide)).trans h2) | exact (va_up_ne _ _ (by decide)).trans h2) ⟨by decide, by decide⟩ ?_
    try rw [va_uu]
    refine m_iinc (v := 4) dX8_counts_66 rfl (by decide) (by decide) ?_
    show mW _ _ _ _ _ _ 69 [_, _, _, _, _] _
    refine m_goto (t := 36) dX8_counts_69 (by decide) ?_
    refine m_iload_n dX8_counts_36 rfl ?_
    refine m_iconst (v := 5) dX8_counts_37 (by decide) ?_
    refine m_icmp_ge (t := 72) dX8_counts_38 (by decide) (fun q => absurd q (by decide)) (fun _ => ?_)
    refine m_aload_n dX8_counts_41 rfl ?_
    refine m_getfield dX8_counts_42 fl_X8_42 (by first | assumption | rfl | exact va_up_self _ _ _ | exact (va_up_ne _ _ (by decide)).trans h3 | exact (va_up_ne _ _ (by decide)).trans (va_up_self _ _ _) | exact (va_up_ne _ _ (by decide)).trans ((va_up_ne _ _ (by decide)).trans h2) | exact (va_up_ne _ _ (by decide)).trans h2) (by first | assumption | rfl | exact va_up_self _ _ _ | exact (va_up_ne _ _ (by decide)).trans h3 | exact (va_up_ne _ _ (by decide)).trans (va_up_self _ _ _) | exact (va_up_ne _ _ (by decide)).trans ((va_up_ne _ _ (by decide)).trans h2) | exact (va_up_ne _ _ (by decide)).trans h2) ?_
    show mW _ _ _ _ _ _ _ _ (.ref _ :: _)
    refine m_iload_n dX8_counts_45 rfl ?_
    refine m_iload_n dX8_counts_46 rfl ?_
    refine m_iload_n dX8_counts_47 rfl ?_
    refine m_iadd dX8_counts_48 ?_
    refine m_ci (v := 5) (by decide) ?_
    refine m_iconst (v := 5) dX8_counts_49 (by decide) ?_
    refine m_icmp_ge (t := 64) dX8_counts_50 (by decide) (fun _ => ?_) (fun q => absurd (by decide) q)
    refine m_lconst (v := 0) dX8_counts_64 (by decide) ?_
    refine m_lastore (k := 4) dX8_counts_65 (by first | assumption | rfl | exact va_up_self _ _ _ | exact (va_up_ne _ _ (by decide)).trans h3 | exact (va_up_ne _ _ (by decide)).trans (va_up_self _ _ _) | exact (va_up_ne _ _ (by decide)).trans ((va_up_ne _ _ (by decide)).trans h2) | exact (va_up_ne _ _ (by decide)).trans h2) ⟨by decide, by decide⟩ ?_
    try rw [va_uu]
    refine m_iinc (v := 5) dX8_counts_66 rfl (by decide) (by decide) ?_
    show mW _ _ _ _ _ _ 69 [_, _, _, _, _] _
    refine m_goto (t := 36) dX8_counts_69 (by decide) ?_
    refine m_iload_n dX8_counts_36 rfl ?_
    refine m_iconst (v := 5) dX8_counts_37 (by decide) ?_
    refine m_icmp_ge (t := 72) dX8_counts_38 (by decide) (fun _ => ?_) (fun q => absurd (by decide) q)
    have hlo : loM Z = 1 := by
      unfold loM
      rw [if_pos c9, if_neg c9_1]
    refine l_X8_counts (hp := va_up (va_up hp 67 (eO 8 (oMod ac ia tm 0 (nI 1) 0 ch ls rm sm ra fa))) 77 (eL 5 (fill5 (shA Z 1) A))) (B := fill5 (shA Z 1) A) ((va_up_ne _ _ (by decide)).trans (va_up_self _ _ _)) (va_up_self _ _ _) c9_1 hF (fun ch' ls' A' => ⟨rfl, ch', ls', A', ?_⟩)
    unfold cntM
    rw [hlo]
    exact up_4
  refine m_iinc (v := 2) dX8_counts_13 rfl (by decide) (by decide) ?_
  show mW _ _ _ _ _ _ 16 [_, _, _, _, _] _
  refine m_goto (t := 2) dX8_counts_16 (by decide) ?_
  skip
  refine m_aload_n dX8_counts_2 rfl ?_
  refine m_getfield dX8_counts_3 fl_X8_39 (by first | assumption | rfl | exact va_up_self _ _ _ | exact (va_up_ne _ _ (by decide)).trans h3 | exact (va_up_ne _ _ (by decide)).trans (va_up_self _ _ _) | exact (va_up_ne _ _ (by decide)).trans ((va_up_ne _ _ (by decide)).trans h2) | exact (va_up_ne _ _ (by decide)).trans h2) (by first | assumption | rfl | exact va_up_self _ _ _ | exact (va_up_ne _ _ (by decide)).trans h3 | exact (va_up_ne _ _ (by decide)).trans (va_up_self _ _ _) | exact (va_up_ne _ _ (by decide)).trans ((va_up_ne _ _ (by decide)).trans h2) | exact (va_up_ne _ _ (by decide)).trans h2) ?_
  show mW _ _ _ _ _ _ _ _ (.ref _ :: _)
  refine m_iload_n dX8_counts_6 rfl ?_
  refine m_laload (k := 2) dX8_counts_7 (by first | assumption | rfl | exact va_up_self _ _ _ | exact (va_up_ne _ _ (by decide)).trans h3 | exact (va_up_ne _ _ (by decide)).trans (va_up_self _ _ _) | exact (va_up_ne _ _ (by decide)).trans ((va_up_ne _ _ (by decide)).trans h2) | exact (va_up_ne _ _ (by decide)).trans h2) ⟨by decide, by decide⟩ ?_
  refine m_lconst (v := 0) dX8_counts_8 (by decide) ?_
  refine m_lc_ne (t := 19) dX8_counts_9 dX8_counts_10 (by decide) (fun c9_2 => ?_) (fun c9_2 => ?_)
  · refine m_aload_n dX8_counts_19 rfl ?_
    refine m_iconst (v := 0) dX8_counts_20 (by decide) ?_
    refine m_putfield dX8_counts_21 fl_X8_75 (by first | assumption | rfl | exact va_up_self _ _ _ | exact (va_up_ne _ _ (by decide)).trans h3 | exact (va_up_ne _ _ (by decide)).trans (va_up_self _ _ _) | exact (va_up_ne _ _ (by decide)).trans ((va_up_ne _ _ (by decide)).trans h2) | exact (va_up_ne _ _ (by decide)).trans h2) (fun _ => rfl) (fun _ => rfl) ?_
    try rw [va_uu]
    rw [oMod_12]
    refine m_aload_n dX8_counts_24 rfl ?_
    refine m_iload_n dX8_counts_25 rfl ?_
    refine m_putfield dX8_counts_26 fl_X8_78 (by first | assumption | rfl | exact va_up_self _ _ _ | exact (va_up_ne _ _ (by decide)).trans h3 | exact (va_up_ne _ _ (by decide)).trans (va_up_self _ _ _) | exact (va_up_ne _ _ (by decide)).trans ((va_up_ne _ _ (by decide)).trans h2) | exact (va_up_ne _ _ (by decide)).trans h2) (fun _ => rfl) (fun _ => rfl) ?_
    try rw [va_uu]
    rw [oMod_13]
    refine m_aload_n dX8_counts_29 rfl ?_
    refine m_iconst (v := 0) dX8_counts_30 (by decide) ?_
    refine m_putfield dX8_counts_31 fl_X8_81 (by first | assumption | rfl | exact va_up_self _ _ _ | exact (va_up_ne _ _ (by decide)).trans h3 | exact (va_up_ne _ _ (by decide)).trans (va_up_self _ _ _) | exact (va_up_ne _ _ (by decide)).trans ((va_up_ne _ _ (by decide)).trans h2) | exact (va_up_ne _ _ (by decide)).trans h2) (fun _ => rfl) (fun _ => rfl) ?_
    try rw [va_uu]
    rw [oMod_14]
    refine m_iconst (v := 0) dX8_counts_34 (by decide) ?_
    refine m_istore_n dX8_counts_35 (by decide) ?_
    show mW _ _ _ _ _ _ 36 [_, _, _, _, _] _
    refine m_iload_n dX8_counts_36 rfl ?_
    refine m_iconst (v := 5) dX8_counts_37 (by decide) ?_
    refine m_icmp_ge (t := 72) dX8_counts_38 (by decide) (fun q => absurd q (by decide)) (fun _ => ?_)
    refine m_aload_n dX8_counts_41 rfl ?_
    refine m_getfield dX8_counts_42 fl_X8_42 (by first | assumption | rfl | exact va_up_self _ _ _ | exact (va_up_ne _ _ (by decide)).trans h3 | exact (va_up_ne _ _ (by decide)).trans (va_up_self _ _ _) | exact (va_up_ne _ _ (by decide)).trans ((va_up_ne _ _ (by decide)).trans h2) | exact (va_up_ne _ _ (by decide)).trans h2) (by first | assumption | rfl | exact va_up_self _ _ _ | exact (va_up_ne _ _ (by decide)).trans h3 | exact (va_up_ne _ _ (by decide)).trans (va_up_self _ _ _) | exact (va_up_ne _ _ (by decide)).trans ((va_up_ne _ _ (by decide)).trans h2) | exact (va_up_ne _ _ (by decide)).trans h2) ?_
    show mW _ _ _ _ _ _ _ _ (.ref _ :: _)
    refine m_iload_n dX8_counts_45 rfl ?_
    refine m_iload_n dX8_counts_46 rfl ?_
    refine m_iload_n dX8_counts_47 rfl ?_
    refine m_iadd dX8_counts_48 ?_
    refine m_ci (v := 2) (by decide) ?_
    refine m_iconst (v := 5) dX8_counts_49 (by decide) ?_
    refine m_icmp_ge (t := 64) dX8_counts_50 (by decide) (fun q => absurd q (by decide)) (fun _ => ?_)
    refine m_aload_n dX8_counts_53 rfl ?_
    refine m_getfield dX8_counts_54 fl_X8_39 (by first | assumption | rfl | exact va_up_self _ _ _ | exact (va_up_ne _ _ (by decide)).trans h3 | exact (va_up_ne _ _ (by decide)).trans (va_up_self _ _ _) | exact (va_up_ne _ _ (by decide)).trans ((va_up_ne _ _ (by decide)).trans h2) | exact (va_up_ne _ _ (by decide)).trans h2) (by first | assumption | rfl | exact va_up_self _ _ _ | exact (va_up_ne _ _ (by decide)).trans h3 | exact (va_up_ne _ _ (by decide)).trans (va_up_self _ _ _) | exact (va_up_ne _ _ (by decide)).trans ((va_up_ne _ _ (by decide)).trans h2) | exact (va_up_ne _ _ (by decide)).trans h2) ?_
    show mW _ _ _ _ _ _ _ _ (.ref _ :: _)
    refine m_iload_n dX8_counts_57 rfl ?_
    refine m_iload_n dX8_counts_58 rfl ?_
    refine m_iadd dX8_counts_59 ?_
    refine m_ci (v := 2) (by decide) ?_
    refine m_laload (k := 2) dX8_counts_60 (by first | assumption | rfl | exact va_up_self _ _ _ | exact (va_up_ne _ _ (by decide)).trans h3 | exact (va_up_ne _ _ (by decide)).trans (va_up_self _ _ _) | exact (va_up_ne _ _ (by decide)).trans ((va_up_ne _ _ (by decide)).trans h2) | exact (va_up_ne _ _ (by decide)).trans h2) ⟨by decide, by decide⟩ ?_
    refine m_goto (t := 65) dX8_counts_61 (by decide) ?_
    refine m_lastore (k := 0) dX8_counts_65 (by first | assumption | rfl | exact va_up_self _ _ _ | exact (va_up_ne _ _ (by decide)).trans h3 | exact (va_up_ne _ _ (by decide)).trans (va_up_self _ _ _) | exact (va_up_ne _ _ (by decide)).trans ((va_up_ne _ _ (by decide)).trans h2) | exact (va_up_ne _ _ (by decide)).trans h2) ⟨by decide, by decide⟩ ?_
    try rw [va_uu]
    refine m_iinc (v := 1) dX8_counts_66 rfl (by decide) (by decide) ?_
    show mW _ _ _ _ _ _ 69 [_, _, _, _, _] _
    refine m_goto (t := 36) dX8_counts_69 (by decide) ?_
    refine m_iload_n dX8_counts_36 rfl ?_
    refine m_iconst (v := 5) dX8_counts_37 (by decide) ?_
    refine m_icmp_ge (t := 72) dX8_counts_38 (by decide) (fun q => absurd q (by decide)) (fun _ => ?_)
    refine m_aload_n dX8_counts_41 rfl ?_
    refine m_getfield dX8_counts_42 fl_X8_42 (by first | assumption | rfl | exact va_up_self _ _ _ | exact (va_up_ne _ _ (by decide)).trans h3 | exact (va_up_ne _ _ (by decide)).trans (va_up_self _ _ _) | exact (va_up_ne _ _ (by decide)).trans ((va_up_ne _ _ (by decide)).trans h2) | exact (va_up_ne _ _ (by decide)).trans h2) (by first | assumption | rfl | exact va_up_self _ _ _ | exact (va_up_ne _ _ (by decide)).trans h3 | exact (va_up_ne _ _ (by decide)).trans (va_up_self _ _ _) | exact (va_up_ne _ _ (by decide)).trans ((va_up_ne _ _ (by decide)).trans h2) | exact (va_up_ne _ _ (by decide)).trans h2) ?_
    show mW _ _ _ _ _ _ _ _ (.ref _ :: _)
    refine m_iload_n dX8_counts_45 rfl ?_
    refine m_iload_n dX8_counts_46 rfl ?_
    refine m_iload_n dX8_counts_47 rfl ?_
    refine m_iadd dX8_counts_48 ?_
    refine m_ci (v := 3) (by decide) ?_
    refine m_iconst (v := 5) dX8_counts_49 (by decide) ?_
    refine m_icmp_ge (t := 64) dX8_counts_50 (by decide) (fun q => absurd q (by decide)) (fun _ => ?_)
    refine m_aload_n dX8_counts_53 rfl ?_
    refine m_getfield dX8_counts_54 fl_X8_39 (by first | assumption | rfl | exact va_up_self _ _ _ | exact (va_up_ne _ _ (by decide)).trans h3 | exact (va_up_ne _ _ (by decide)).trans (va_up_self _ _ _) | exact (va_up_ne _ _ (by decide)).trans ((va_up_ne _ _ (by decide)).trans h2) | exact (va_up_ne _ _ (by decide)).trans h2) (by first | assumption | rfl | exact va_up_self _ _ _ | exact (va_up_ne _ _ (by decide)).trans h3 | exact (va_up_ne _ _ (by decide)).trans (va_up_self _ _ _) | exact (va_up_ne _ _ (by decide)).trans ((va_up_ne _ _ (by decide)).trans h2) | exact (va_up_ne _ _ (by decide)).trans h2) ?_
    show mW _ _ _ _ _ _ _ _ (.ref _ :: _)
    refine m_iload_n dX8_counts_57 rfl ?_
    refine m_iload_n dX8_counts_58 rfl ?_
    refine m_iadd dX8_counts_59 ?_
    refine m_ci (v := 3) (by decide) ?_
    refine m_laload (k := 3) dX8_counts_60 (by first | assumption | rfl | exact va_up_self _ _ _ | exact (va_up_ne _ _ (by decide)).trans h3 | exact (va_up_ne _ _ (by decide)).trans (va_up_self _ _ _) | exact (va_up_ne _ _ (by decide)).trans ((va_up_ne _ _ (by decide)).trans h2) | exact (va_up_ne _ _ (by decide)).trans h2) ⟨by decide, by decide⟩ ?_
    refine m_goto (t := 65) dX8_counts_61 (by decide) ?_
    refine m_lastore (k := 1) dX8_counts_65 (by first | assumption | rfl | exact va_up_self _ _ _ | exact (va_up_ne _ _ (by decide)).trans h3 | exact (va_up_ne _ _ (by decide)).trans (va_up_self _ _ _) | exact (va_up_ne _ _ (by decide)).trans ((va_up_ne _ _ (by decide)).trans h2) | exact (va_up_ne _ _ (by decide)).trans h2) ⟨by decide, by decide⟩ ?_
    try rw [va_uu]
    refine m_iinc (v := 2) dX8_counts_66 rfl (by decide) (by decide) ?_
    show mW _ _ _ _ _ _ 69 [_, _, _, _, _] _
    refine m_goto (t := 36) dX8_counts_69 (by decide) ?_
    refine m_iload_n dX8_counts_36 rfl ?_
    refine m_iconst (v := 5) dX8_counts_37 (by decide) ?_
    refine m_icmp_ge (t := 72) dX8_counts_38 (by decide) (fun q => absurd q (by decide)) (fun _ => ?_)
    refine m_aload_n dX8_counts_41 rfl ?_
    refine m_getfield dX8_counts_42 fl_X8_42 (by first | assumption | rfl | exact va_up_self _ _ _ | exact (va_up_ne _ _ (by decide)).trans h3 | exact (va_up_ne _ _ (by decide)).trans (va_up_self _ _ _) | exact (va_up_ne _ _ (by decide)).trans ((va_up_ne _ _ (by decide)).trans h2) | exact (va_up_ne _ _ (by decide)).trans h2) (by first | assumption | rfl | exact va_up_self _ _ _ | exact (va_up_ne _ _ (by decide)).trans h3 | exact (va_up_ne _ _ (by decide)).trans (va_up_self _ _ _) | exact (va_up_ne _ _ (by decide)).trans ((va_up_ne _ _ (by decide)).trans h2) | exact (va_up_ne _ _ (by decide)).trans h2) ?_
    show mW _ _ _ _ _ _ _ _ (.ref _ :: _)
    refine m_iload_n dX8_counts_45 rfl ?_
    refine m_iload_n dX8_counts_46 rfl ?_
    refine m_iload_n dX8_counts_47 rfl ?_
    refine m_iadd dX8_counts_48 ?_
    refine m_ci (v := 4) (by decide) ?_
    refine m_iconst (v := 5) dX8_counts_49 (by decide) ?_
    refine m_icmp_ge (t := 64) dX8_counts_50 (by decide) (fun q => absurd q (by decide)) (fun _ => ?_)
    refine m_aload_n dX8_counts_53 rfl ?_
    refine m_getfield dX8_counts_54 fl_X8_39 (by first | assumption | rfl | exact va_up_self _ _ _ | exact (va_up_ne _ _ (by decide)).trans h3 | exact (va_up_ne _ _ (by decide)).trans (va_up_self _ _ _) | exact (va_up_ne _ _ (by decide)).trans ((va_up_ne _ _ (by decide)).trans h2) | exact (va_up_ne _ _ (by decide)).trans h2) (by first | assumption | rfl | exact va_up_self _ _ _ | exact (va_up_ne _ _ (by decide)).trans h3 | exact (va_up_ne _ _ (by decide)).trans (va_up_self _ _ _) | exact (va_up_ne _ _ (by decide)).trans ((va_up_ne _ _ (by decide)).trans h2) | exact (va_up_ne _ _ (by decide)).trans h2) ?_
    show mW _ _ _ _ _ _ _ _ (.ref _ :: _)
    refine m_iload_n dX8_counts_57 rfl ?_
    refine m_iload_n dX8_counts_58 rfl ?_
    refine m_iadd dX8_counts_59 ?_
    refine m_ci (v := 4) (by decide) ?_
    refine m_laload (k := 4) dX8_counts_60 (by first | assumption | rfl | exact va_up_self _ _ _ | exact (va_up_ne _ _ (by decide)).trans h3 | exact (va_up_ne _ _ (by decide)).trans (va_up_self _ _ _) | exact (va_up_ne _ _ (by decide)).trans ((va_up_ne _ _ (by decide)).trans h2) | exact (va_up_ne _ _ (by decide)).trans h2) ⟨by decide, by decide⟩ ?_
    refine m_goto (t := 65) dX8_counts_61 (by decide) ?_
    refine m_lastore (k := 2) dX8_counts_65 (by first | assumption | rfl | exact va_up_self _ _ _ | exact (va_up_ne _ _ (by decide)).trans h3 | exact (va_up_ne _ _ (by decide)).trans (va_up_self _ _ _) | exact (va_up_ne _ _ (by decide)).trans ((va_up_ne _ _ (by decide)).trans h2) | exact (va_up_ne _ _ (by decide)).trans h2) ⟨by decide, by decide⟩ ?_
    try rw [va_uu]
    refine m_iinc (v := 3) dX8_counts_66 rfl (by decide) (by decide) ?_
    show mW _ _ _ _ _ _ 69 [_, _, _, _, _] _
    refine m_goto (t := 36) dX8_counts_69 (by decide) ?_
    refine m_iload_n dX8_counts_36 rfl ?_
    refine m_iconst (v := 5) dX8_counts_37 (by decide) ?_
    refine m_icmp_ge (t := 72) dX8_counts_38 (by decide) (fun q => absurd q (by decide)) (fun _ => ?_)
    refine m_aload_n dX8_counts_41 rfl ?_
    refine m_getfield dX8_counts_42 fl_X8_42 (by first | assumption | rfl | exact va_up_self _ _ _ | exact (va_up_ne _ _ (by decide)).trans h3 | exact (va_up_ne _ _ (by decide)).trans (va_up_self _ _ _) | exact (va_up_ne _ _ (by decide)).trans ((va_up_ne _ _ (by decide)).trans h2) | exact (va_up_ne _ _ (by decide)).trans h2) (by first | assumption | rfl | exact va_up_self _ _ _ | exact (va_up_ne _ _ (by decide)).trans h3 | exact (va_up_ne _ _ (by decide)).trans (va_up_self _ _ _) | exact (va_up_ne _ _ (by decide)).trans ((va_up_ne _ _ (by decide)).trans h2) | exact (va_up_ne _ _ (by decide)).trans h2) ?_
    show mW _ _ _ _ _ _ _ _ (.ref _ :: _)
    refine m_iload_n dX8_counts_45 rfl ?_
    refine m_iload_n dX8_counts_46 rfl ?_
    refine m_iload_n dX8_counts_47 rfl ?_
    refine m_iadd dX8_counts_48 ?_
    refine m_ci (v := 5) (by decide) ?_
    refine m_iconst (v := 5) dX8_counts_49 (by decide) ?_
    refine m_icmp_ge (t := 64) dX8_counts_50 (by decide) (fun _ => ?_) (fun q => absurd (by decide) q)
    refine m_lconst (v := 0) dX8_counts_64 (by decide) ?_
    refine m_lastore (k := 3) dX8_counts_65 (by first | assumption | rfl | exact va_up_self _ _ _ | exact (va_up_ne _ _ (by decide)).trans h3 | exact (va_up_ne _ _ (by decide)).trans (va_up_self _ _ _) | exact (va_up_ne _ _ (by decide)).trans ((va_up_ne _ _ (by decide)).trans h2) | exact (va_up_ne _ _ (by decide)).trans h2) ⟨by decide, by decide⟩ ?_
    try rw [va_uu]
    refine m_iinc (v := 4) dX8_counts_66 rfl (by decide) (by decide) ?_
    show mW _ _ _ _ _ _ 69 [_, _, _, _, _] _
    refine m_goto (t := 36) dX8_counts_69 (by decide) ?_
    refine m_iload_n dX8_counts_36 rfl ?_
    refine m_iconst (v := 5) dX8_counts_37 (by decide) ?_
    refine m_icmp_ge (t := 72) dX8_counts_38 (by decide) (fun q => absurd q (by decide)) (fun _ => ?_)
    refine m_aload_n dX8_counts_41 rfl ?_
    refine m_getfield dX8_counts_42 fl_X8_42 (by first | assumption | rfl | exact va_up_self _ _ _ | exact (va_up_ne _ _ (by decide)).trans h3 | exact (va_up_ne _ _ (by decide)).trans (va_up_self _ _ _) | exact (va_up_ne _ _ (by decide)).trans ((va_up_ne _ _ (by decide)).trans h2) | exact (va_up_ne _ _ (by decide)).trans h2) (by first | assumption | rfl | exact va_up_self _ _ _ | exact (va_up_ne _ _ (by decide)).trans h3 | exact (va_up_ne _ _ (by decide)).trans (va_up_self _ _ _) | exact (va_up_ne _ _ (by decide)).trans ((va_up_ne _ _ (by decide)).trans h2) | exact (va_up_ne _ _ (by decide)).trans h2) ?_
    show mW _ _ _ _ _ _ _ _ (.ref _ :: _)
    refine m_iload_n dX8_counts_45 rfl ?_
    refine m_iload_n dX8_counts_46 rfl ?_
    refine m_iload_n dX8_counts_47 rfl ?_
    refine m_iadd dX8_counts_48 ?_
    refine m_ci (v := 6) (by decide) ?_
    refine m_iconst (v := 5) dX8_counts_49 (by decide) ?_
    refine m_icmp_ge (t := 64) dX8_counts_50 (by decide) (fun _ => ?_) (fun q => absurd (by decide) q)
    refine m_lconst (v := 0) dX8_counts_64 (by decide) ?_
    refine m_lastore (k := 4) dX8_counts_65 (by first | assumption | rfl | exact va_up_self _ _ _ | exact (va_up_ne _ _ (by decide)).trans h3 | exact (va_up_ne _ _ (by decide)).trans (va_up_self _ _ _) | exact (va_up_ne _ _ (by decide)).trans ((va_up_ne _ _ (by decide)).trans h2) | exact (va_up_ne _ _ (by decide)).trans h2) ⟨by decide, by decide⟩ ?_
    try rw [va_uu]
    refine m_iinc (v := 5) dX8_counts_66 rfl (by decide) (by decide) ?_
    show mW _ _ _ _ _ _ 69 [_, _, _, _, _] _
    refine m_goto (t := 36) dX8_counts_69 (by decide) ?_
    refine m_iload_n dX8_counts_36 rfl ?_
    refine m_iconst (v := 5) dX8_counts_37 (by decide) ?_
    refine m_icmp_ge (t := 72) dX8_counts_38 (by decide) (fun _ => ?_) (fun q => absurd (by decide) q)
    have hlo : loM Z = 2 := by
      unfold loM
      rw [if_pos c9, if_pos c9_1, if_neg c9_2]
    refine l_X8_counts (hp := va_up (va_up hp 67 (eO 8 (oMod ac ia tm 0 (nI 2) 0 ch ls rm sm ra fa))) 77 (eL 5 (fill5 (shA Z 2) A))) (B := fill5 (shA Z 2) A) ((va_up_ne _ _ (by decide)).trans (va_up_self _ _ _)) (va_up_self _ _ _) c9_2 hF (fun ch' ls' A' => ⟨rfl, ch', ls', A', ?_⟩)
    unfold cntM
    rw [hlo]
    exact up_4
  refine m_iinc (v := 3) dX8_counts_13 rfl (by decide) (by decide) ?_
  show mW _ _ _ _ _ _ 16 [_, _, _, _, _] _
  refine m_goto (t := 2) dX8_counts_16 (by decide) ?_
  skip
  refine m_aload_n dX8_counts_2 rfl ?_
  refine m_getfield dX8_counts_3 fl_X8_39 (by first | assumption | rfl | exact va_up_self _ _ _ | exact (va_up_ne _ _ (by decide)).trans h3 | exact (va_up_ne _ _ (by decide)).trans (va_up_self _ _ _) | exact (va_up_ne _ _ (by decide)).trans ((va_up_ne _ _ (by decide)).trans h2) | exact (va_up_ne _ _ (by decide)).trans h2) (by first | assumption | rfl | exact va_up_self _ _ _ | exact (va_up_ne _ _ (by decide)).trans h3 | exact (va_up_ne _ _ (by decide)).trans (va_up_self _ _ _) | exact (va_up_ne _ _ (by decide)).trans ((va_up_ne _ _ (by decide)).trans h2) | exact (va_up_ne _ _ (by decide)).trans h2) ?_
  show mW _ _ _ _ _ _ _ _ (.ref _ :: _)
  refine m_iload_n dX8_counts_6 rfl ?_
  refine m_laload (k := 3) dX8_counts_7 (by first | assumption | rfl | exact va_up_self _ _ _ | exact (va_up_ne _ _ (by decide)).trans h3 | exact (va_up_ne _ _ (by decide)).trans (va_up_self _ _ _) | exact (va_up_ne _ _ (by decide)).trans ((va_up_ne _ _ (by decide)).trans h2) | exact (va_up_ne _ _ (by decide)).trans h2) ⟨by decide, by decide⟩ ?_
  refine m_lconst (v := 0) dX8_counts_8 (by decide) ?_
  refine m_lc_ne (t := 19) dX8_counts_9 dX8_counts_10 (by decide) (fun c9_3 => ?_) (fun c9_3 => ?_)
  · refine m_aload_n dX8_counts_19 rfl ?_
    refine m_iconst (v := 0) dX8_counts_20 (by decide) ?_
    refine m_putfield dX8_counts_21 fl_X8_75 (by first | assumption | rfl | exact va_up_self _ _ _ | exact (va_up_ne _ _ (by decide)).trans h3 | exact (va_up_ne _ _ (by decide)).trans (va_up_self _ _ _) | exact (va_up_ne _ _ (by decide)).trans ((va_up_ne _ _ (by decide)).trans h2) | exact (va_up_ne _ _ (by decide)).trans h2) (fun _ => rfl) (fun _ => rfl) ?_
    try rw [va_uu]
    rw [oMod_12]
    refine m_aload_n dX8_counts_24 rfl ?_
    refine m_iload_n dX8_counts_25 rfl ?_
    refine m_putfield dX8_counts_26 fl_X8_78 (by first | assumption | rfl | exact va_up_self _ _ _ | exact (va_up_ne _ _ (by decide)).trans h3 | exact (va_up_ne _ _ (by decide)).trans (va_up_self _ _ _) | exact (va_up_ne _ _ (by decide)).trans ((va_up_ne _ _ (by decide)).trans h2) | exact (va_up_ne _ _ (by decide)).trans h2) (fun _ => rfl) (fun _ => rfl) ?_
    try rw [va_uu]
    rw [oMod_13]
    refine m_aload_n dX8_counts_29 rfl ?_
    refine m_iconst (v := 0) dX8_counts_30 (by decide) ?_
    refine m_putfield dX8_counts_31 fl_X8_81 (by first | assumption | rfl | exact va_up_self _ _ _ | exact (va_up_ne _ _ (by decide)).trans h3 | exact (va_up_ne _ _ (by decide)).trans (va_up_self _ _ _) | exact (va_up_ne _ _ (by decide)).trans ((va_up_ne _ _ (by decide)).trans h2) | exact (va_up_ne _ _ (by decide)).trans h2) (fun _ => rfl) (fun _ => rfl) ?_
    try rw [va_uu]
    rw [oMod_14]
    refine m_iconst (v := 0) dX8_counts_34 (by decide) ?_
    refine m_istore_n dX8_counts_35 (by decide) ?_
    show mW _ _ _ _ _ _ 36 [_, _, _, _, _] _
    refine m_iload_n dX8_counts_36 rfl ?_
    refine m_iconst (v := 5) dX8_counts_37 (by decide) ?_
    refine m_icmp_ge (t := 72) dX8_counts_38 (by decide) (fun q => absurd q (by decide)) (fun _ => ?_)
    refine m_aload_n dX8_counts_41 rfl ?_
    refine m_getfield dX8_counts_42 fl_X8_42 (by first | assumption | rfl | exact va_up_self _ _ _ | exact (va_up_ne _ _ (by decide)).trans h3 | exact (va_up_ne _ _ (by decide)).trans (va_up_self _ _ _) | exact (va_up_ne _ _ (by decide)).trans ((va_up_ne _ _ (by decide)).trans h2) | exact (va_up_ne _ _ (by decide)).trans h2) (by first | assumption | rfl | exact va_up_self _ _ _ | exact (va_up_ne _ _ (by decide)).trans h3 | exact (va_up_ne _ _ (by decide)).trans (va_up_self _ _ _) | exact (va_up_ne _ _ (by decide)).trans ((va_up_ne _ _ (by decide)).trans h2) | exact (va_up_ne _ _ (by decide)).trans h2) ?_
    show mW _ _ _ _ _ _ _ _ (.ref _ :: _)
    refine m_iload_n dX8_counts_45 rfl ?_
    refine m_iload_n dX8_counts_46 rfl ?_
    refine m_iload_n dX8_counts_47 rfl ?_
    refine m_iadd dX8_counts_48 ?_
    refine m_ci (v := 3) (by decide) ?_
    refine m_iconst (v := 5) dX8_counts_49 (by decide) ?_
    refine m_icmp_ge (t := 64) dX8_counts_50 (by decide) (fun q => absurd q (by decide)) (fun _ => ?_)
    refine m_aload_n dX8_counts_53 rfl ?_
    refine m_getfield dX8_counts_54 fl_X8_39 (by first | assumption | rfl | exact va_up_self _ _ _ | exact (va_up_ne _ _ (by decide)).trans h3 | exact (va_up_ne _ _ (by decide)).trans (va_up_self _ _ _) | exact (va_up_ne _ _ (by decide)).trans ((va_up_ne _ _ (by decide)).trans h2) | exact (va_up_ne _ _ (by decide)).trans h2) (by first | assumption | rfl | exact va_up_self _ _ _ | exact (va_up_ne _ _ (by decide)).trans h3 | exact (va_up_ne _ _ (by decide)).trans (va_up_self _ _ _) | exact (va_up_ne _ _ (by decide)).trans ((va_up_ne _ _ (by decide)).trans h2) | exact (va_up_ne _ _ (by decide)).trans h2) ?_
    show mW _ _ _ _ _ _ _ _ (.ref _ :: _)
    refine m_iload_n dX8_counts_57 rfl ?_
    refine m_iload_n dX8_counts_58 rfl ?_
    refine m_iadd dX8_counts_59 ?_
    refine m_ci (v := 3) (by decide) ?_
    refine m_laload (k := 3) dX8_counts_60 (by first | assumption | rfl | exact va_up_self _ _ _ | exact (va_up_ne _ _ (by decide)).trans h3 | exact (va_up_ne _ _ (by decide)).trans (va_up_self _ _ _) | exact (va_up_ne _ _ (by decide)).trans ((va_up_ne _ _ (by decide)).trans h2) | exact (va_up_ne _ _ (by decide)).trans h2) ⟨by decide, by decide⟩ ?_
    refine m_goto (t := 65) dX8_counts_61 (by decide) ?_
    refine m_lastore (k := 0) dX8_counts_65 (by first | assumption | rfl | exact va_up_self _ _ _ | exact (va_up_ne _ _ (by decide)).trans h3 | exact (va_up_ne _ _ (by decide)).trans (va_up_self _ _ _) | exact (va_up_ne _ _ (by decide)).trans ((va_up_ne _ _ (by decide)).trans h2) | exact (va_up_ne _ _ (by decide)).trans h2) ⟨by decide, by decide⟩ ?_
    try rw [va_uu]
    refine m_iinc (v := 1) dX8_counts_66 rfl (by decide) (by decide) ?_
    show mW _ _ _ _ _ _ 69 [_, _, _, _, _] _
    refine m_goto (t := 36) dX8_counts_69 (by decide) ?_
    refine m_iload_n dX8_counts_36 rfl ?_
    refine m_iconst (v := 5) dX8_counts_37 (by decide) ?_
    refine m_icmp_ge (t := 72) dX8_counts_38 (by decide) (fun q => absurd q (by decide)) (fun _ => ?_)
    refine m_aload_n dX8_counts_41 rfl ?_
    refine m_getfield dX8_counts_42 fl_X8_42 (by first | assumption | rfl | exact va_up_self _ _ _ | exact (va_up_ne _ _ (by decide)).trans h3 | exact (va_up_ne _ _ (by decide)).trans (va_up_self _ _ _) | exact (va_up_ne _ _ (by decide)).trans ((va_up_ne _ _ (by decide)).trans h2) | exact (va_up_ne _ _ (by decide)).trans h2) (by first | assumption | rfl | exact va_up_self _ _ _ | exact (va_up_ne _ _ (by decide)).trans h3 | exact (va_up_ne _ _ (by decide)).trans (va_up_self _ _ _) | exact (va_up_ne _ _ (by decide)).trans ((va_up_ne _ _ (by decide)).trans h2) | exact (va_up_ne _ _ (by decide)).trans h2) ?_
    show mW _ _ _ _ _ _ _ _ (.ref _ :: _)
    refine m_iload_n dX8_counts_45 rfl ?_
    refine m_iload_n dX8_counts_46 rfl ?_
    refine m_iload_n dX8_counts_47 rfl ?_
    refine m_iadd dX8_counts_48 ?_
    refine m_ci (v := 4) (by decide) ?_
    refine m_iconst (v := 5) dX8_counts_49 (by decide) ?_
    refine m_icmp_ge (t := 64) dX8_counts_50 (by decide) (fun q => absurd q (by decide)) (fun _ => ?_)
    refine m_aload_n dX8_counts_53 rfl ?_
    refine m_getfield dX8_counts_54 fl_X8_39 (by first | assumption | rfl | exact va_up_self _ _ _ | exact (va_up_ne _ _ (by decide)).trans h3 | exact (va_up_ne _ _ (by decide)).trans (va_up_self _ _ _) | exact (va_up_ne _ _ (by decide)).trans ((va_up_ne _ _ (by decide)).trans h2) | exact (va_up_ne _ _ (by decide)).trans h2) (by first | assumption | rfl | exact va_up_self _ _ _ | exact (va_up_ne _ _ (by decide)).trans h3 | exact (va_up_ne _ _ (by decide)).trans (va_up_self _ _ _) | exact (va_up_ne _ _ (by decide)).trans ((va_up_ne _ _ (by decide)).trans h2) | exact (va_up_ne _ _ (by decide)).trans h2) ?_
    show mW _ _ _ _ _ _ _ _ (.ref _ :: _)
    refine m_iload_n dX8_counts_57 rfl ?_
    refine m_iload_n dX8_counts_58 rfl ?_
    refine m_iadd dX8_counts_59 ?_
    refine m_ci (v := 4) (by decide) ?_
    refine m_laload (k := 4) dX8_counts_60 (by first | assumption | rfl | exact va_up_self _ _ _ | exact (va_up_ne _ _ (by decide)).trans h3 | exact (va_up_ne _ _ (by decide)).trans (va_up_self _ _ _) | exact (va_up_ne _ _ (by decide)).trans ((va_up_ne _ _ (by decide)).trans h2) | exact (va_up_ne _ _ (by decide)).trans h2) ⟨by decide, by decide⟩ ?_
    refine m_goto (t := 65) dX8_counts_61 (by decide) ?_
    refine m_lastore (k := 1) dX8_counts_65 (by first | assumption | rfl | exact va_up_self _ _ _ | exact (va_up_ne _ _ (by decide)).trans h3 | exact (va_up_ne _ _ (by decide)).trans (va_up_self _ _ _) | exact (va_up_ne _ _ (by decide)).trans ((va_up_ne _ _ (by decide)).trans h2) | exact (va_up_ne _ _ (by decide)).trans h2) ⟨by decide, by decide⟩ ?_
    try rw [va_uu]
    refine m_iinc (v := 2) dX8_counts_66 rfl (by decide) (by decide) ?_
    show mW _ _ _ _ _ _ 69 [_, _, _, _, _] _
    refine m_goto (t := 36) dX8_counts_69 (by decide) ?_
    refine m_iload_n dX8_counts_36 rfl ?_
    refine m_iconst (v := 5) dX8_counts_37 (by decide) ?_
    refine m_icmp_ge (t := 72) dX8_counts_38 (by decide) (fun q => absurd q (by decide)) (fun _ => ?_)
    refine m_aload_n dX8_counts_41 rfl ?_
    refine m_getfield dX8_counts_42 fl_X8_42 (by first | assumption | rfl | exact va_up_self _ _ _ | exact (va_up_ne _ _ (by decide)).trans h3 | exact (va_up_ne _ _ (by decide)).trans (va_up_self _ _ _) | exact (va_up_ne _ _ (by decide)).trans ((va_up_ne _ _ (by decide)).trans h2) | exact (va_up_ne _ _ (by decide)).trans h2) (by first | assumption | rfl | exact va_up_self _ _ _ | exact (va_up_ne _ _ (by decide)).trans h3 | exact (va_up_ne _ _ (by decide)).trans (va_up_self _ _ _) | exact (va_up_ne _ _ (by decide)).trans ((va_up_ne _ _ (by decide)).trans h2) | exact (va_up_ne _ _ (by decide)).trans h2) ?_
    show mW _ _ _ _ _ _ _ _ (.ref _ :: _)
    refine m_iload_n dX8_counts_45 rfl ?_
    refine m_iload_n dX8_counts_46 rfl ?_
    refine m_iload_n dX8_counts_47 rfl ?_
    refine m_iadd dX8_counts_48 ?_
    refine m_ci (v := 5) (by decide) ?_
    refine m_iconst (v := 5) dX8_counts_49 (by decide) ?_
    refine m_icmp_ge (t := 64) dX8_counts_50 (by decide) (fun _ => ?_) (fun q => absurd (by decide) q)
    refine m_lconst (v := 0) dX8_counts_64 (by decide) ?_
    refine m_lastore (k := 2) dX8_counts_65 (by first | assumption | rfl | exact va_up_self _ _ _ | exact (va_up_ne _ _ (by decide)).trans h3 | exact (va_up_ne _ _ (by decide)).trans (va_up_self _ _ _) | exact (va_up_ne _ _ (by decide)).trans ((va_up_ne _ _ (by decide)).trans h2) | exact (va_up_ne _ _ (by decide)).trans h2) ⟨by decide, by decide⟩ ?_
    try rw [va_uu]
    refine m_iinc (v := 3) dX8_counts_66 rfl (by decide) (by decide) ?_
    show mW _ _ _ _ _ _ 69 [_, _, _, _, _] _
    refine m_goto (t := 36) dX8_counts_69 (by decide) ?_
    refine m_iload_n dX8_counts_36 rfl ?_
    refine m_iconst (v := 5) dX8_counts_37 (by decide) ?_
    refine m_icmp_ge (t := 72) dX8_counts_38 (by decide) (fun q => absurd q (by decide)) (fun _ => ?_)
    refine m_aload_n dX8_counts_41 rfl ?_
    refine m_getfield dX8_counts_42 fl_X8_42 (by first | assumption | rfl | exact va_up_self _ _ _ | exact (va_up_ne _ _ (by decide)).trans h3 | exact (va_up_ne _ _ (by decide)).trans (va_up_self _ _ _) | exact (va_up_ne _ _ (by decide)).trans ((va_up_ne _ _ (by decide)).trans h2) | exact (va_up_ne _ _ (by decide)).trans h2) (by first | assumption | rfl | exact va_up_self _ _ _ | exact (va_up_ne _ _ (by decide)).trans h3 | exact (va_up_ne _ _ (by decide)).trans (va_up_self _ _ _) | exact (va_up_ne _ _ (by decide)).trans ((va_up_ne _ _ (by decide)).trans h2) | exact (va_up_ne _ _ (by decide)).trans h2) ?_
    show mW _ _ _ _ _ _ _ _ (.ref _ :: _)
    refine m_iload_n dX8_counts_45 rfl ?_
    refine m_iload_n dX8_counts_46 rfl ?_
    refine m_iload_n dX8_counts_47 rfl ?_
    refine m_iadd dX8_counts_48 ?_
    refine m_ci (v := 6) (by decide) ?_
    refine m_iconst (v := 5) dX8_counts_49 (by decide) ?_
    refine m_icmp_ge (t := 64) dX8_counts_50 (by decide) (fun _ => ?_) (fun q => absurd (by decide) q)
    refine m_lconst (v := 0) dX8_counts_64 (by decide) ?_
    refine m_lastore (k := 3) dX8_counts_65 (by first | assumption | rfl | exact va_up_self _ _ _ | exact (va_up_ne _ _ (by decide)).trans h3 | exact (va_up_ne _ _ (by decide)).trans (va_up_self _ _ _) | exact (va_up_ne _ _ (by decide)).trans ((va_up_ne _ _ (by decide)).trans h2) | exact (va_up_ne _ _ (by decide)).trans h2) ⟨by decide, by decide⟩ ?_
    try rw [va_uu]
    refine m_iinc (v := 4) dX8_counts_66 rfl (by decide) (by decide) ?_
    show mW _ _ _ _ _ _ 69 [_, _, _, _, _] _
    refine m_goto (t := 36) dX8_counts_69 (by decide) ?_
    refine m_iload_n dX8_counts_36 rfl ?_
    refine m_iconst (v := 5) dX8_counts_37 (by decide) ?_
    refine m_icmp_ge (t := 72) dX8_counts_38 (by decide) (fun q => absurd q (by decide)) (fun _ => ?_)
    refine m_aload_n dX8_counts_41 rfl ?_
    refine m_getfield dX8_counts_42 fl_X8_42 (by first | assumption | rfl | exact va_up_self _ _ _ | exact (va_up_ne _ _ (by decide)).trans h3 | exact (va_up_ne _ _ (by decide)).trans (va_up_self _ _ _) | exact (va_up_ne _ _ (by decide)).trans ((va_up_ne _ _ (by decide)).trans h2) | exact (va_up_ne _ _ (by decide)).trans h2) (by first | assumption | rfl | exact va_up_self _ _ _ | exact (va_up_ne _ _ (by decide)).trans h3 | exact (va_up_ne _ _ (by decide)).trans (va_up_self _ _ _) | exact (va_up_ne _ _ (by decide)).trans ((va_up_ne _ _ (by decide)).trans h2) | exact (va_up_ne _ _ (by decide)).trans h2) ?_
    show mW _ _ _ _ _ _ _ _ (.ref _ :: _)
    refine m_iload_n dX8_counts_45 rfl ?_
    refine m_iload_n dX8_counts_46 rfl ?_
    refine m_iload_n dX8_counts_47 rfl ?_
    refine m_iadd dX8_counts_48 ?_
    refine m_ci (v := 7) (by decide) ?_
    refine m_iconst (v := 5) dX8_counts_49 (by decide) ?_
    refine m_icmp_ge (t := 64) dX8_counts_50 (by decide) (fun _ => ?_) (fun q => absurd (by decide) q)
    refine m_lconst (v := 0) dX8_counts_64 (by decide) ?_
    refine m_lastore (k := 4) dX8_counts_65 (by first | assumption | rfl | exact va_up_self _ _ _ | exact (va_up_ne _ _ (by decide)).trans h3 | exact (va_up_ne _ _ (by decide)).trans (va_up_self _ _ _) | exact (va_up_ne _ _ (by decide)).trans ((va_up_ne _ _ (by decide)).trans h2) | exact (va_up_ne _ _ (by decide)).trans h2) ⟨by decide, by decide⟩ ?_
    try rw [va_uu]
    refine m_iinc (v := 5) dX8_counts_66 rfl (by decide) (by decide) ?_
    show mW _ _ _ _ _ _ 69 [_, _, _, _, _] _
    refine m_goto (t := 36) dX8_counts_69 (by decide) ?_
    refine m_iload_n dX8_counts_36 rfl ?_
    refine m_iconst (v := 5) dX8_counts_37 (by decide) ?_
    refine m_icmp_ge (t := 72) dX8_counts_38 (by decide) (fun _ => ?_) (fun q => absurd (by decide) q)
    have hlo : loM Z = 3 := by
      unfold loM
      rw [if_pos c9, if_pos c9_1, if_pos c9_2, if_neg c9_3]
    refine l_X8_counts (hp := va_up (va_up hp 67 (eO 8 (oMod ac ia tm 0 (nI 3) 0 ch ls rm sm ra fa))) 77 (eL 5 (fill5 (shA Z 3) A))) (B := fill5 (shA Z 3) A) ((va_up_ne _ _ (by decide)).trans (va_up_self _ _ _)) (va_up_self _ _ _) c9_3 hF (fun ch' ls' A' => ⟨rfl, ch', ls', A', ?_⟩)
    unfold cntM
    rw [hlo]
    exact up_4
  refine m_iinc (v := 4) dX8_counts_13 rfl (by decide) (by decide) ?_
  show mW _ _ _ _ _ _ 16 [_, _, _, _, _] _
  refine m_goto (t := 2) dX8_counts_16 (by decide) ?_
  skip
  refine m_aload_n dX8_counts_2 rfl ?_
  refine m_getfield dX8_counts_3 fl_X8_39 (by first | assumption | rfl | exact va_up_self _ _ _ | exact (va_up_ne _ _ (by decide)).trans h3 | exact (va_up_ne _ _ (by decide)).trans (va_up_self _ _ _) | exact (va_up_ne _ _ (by decide)).trans ((va_up_ne _ _ (by decide)).trans h2) | exact (va_up_ne _ _ (by decide)).trans h2) (by first | assumption | rfl | exact va_up_self _ _ _ | exact (va_up_ne _ _ (by decide)).trans h3 | exact (va_up_ne _ _ (by decide)).trans (va_up_self _ _ _) | exact (va_up_ne _ _ (by decide)).trans ((va_up_ne _ _ (by decide)).trans h2) | exact (va_up_ne _ _ (by decide)).trans h2) ?_
  show mW _ _ _ _ _ _ _ _ (.ref _ :: _)
  refine m_iload_n dX8_counts_6 rfl ?_
  refine m_laload (k := 4) dX8_counts_7 (by first | assumption | rfl | exact va_up_self _ _ _ | exact (va_up_ne _ _ (by decide)).trans h3 | exact (va_up_ne _ _ (by decide)).trans (va_up_self _ _ _) | exact (va_up_ne _ _ (by decide)).trans ((va_up_ne _ _ (by decide)).trans h2) | exact (va_up_ne _ _ (by decide)).trans h2) ⟨by decide, by decide⟩ ?_
  refine m_lconst (v := 0) dX8_counts_8 (by decide) ?_
  refine m_lc_ne (t := 19) dX8_counts_9 dX8_counts_10 (by decide) (fun c9_4 => ?_) (fun c9_4 => ?_)
  rotate_left
  · refine m_iinc (v := 5) dX8_counts_13 rfl (by decide) (by decide) ?_
    show mW _ _ _ _ _ _ 16 [_, _, _, _, _] _
    refine m_goto (t := 2) dX8_counts_16 (by decide) ?_
    exact absurd (by unfold deg5; simp only [if_pos c9, if_pos c9_1, if_pos c9_2, if_pos c9_3, if_pos c9_4]) hne
  refine m_aload_n dX8_counts_19 rfl ?_
  refine m_iconst (v := 0) dX8_counts_20 (by decide) ?_
  refine m_putfield dX8_counts_21 fl_X8_75 (by first | assumption | rfl | exact va_up_self _ _ _ | exact (va_up_ne _ _ (by decide)).trans h3 | exact (va_up_ne _ _ (by decide)).trans (va_up_self _ _ _) | exact (va_up_ne _ _ (by decide)).trans ((va_up_ne _ _ (by decide)).trans h2) | exact (va_up_ne _ _ (by decide)).trans h2) (fun _ => rfl) (fun _ => rfl) ?_
  try rw [va_uu]
  rw [oMod_12]
  refine m_aload_n dX8_counts_24 rfl ?_
  refine m_iload_n dX8_counts_25 rfl ?_
  refine m_putfield dX8_counts_26 fl_X8_78 (by first | assumption | rfl | exact va_up_self _ _ _ | exact (va_up_ne _ _ (by decide)).trans h3 | exact (va_up_ne _ _ (by decide)).trans (va_up_self _ _ _) | exact (va_up_ne _ _ (by decide)).trans ((va_up_ne _ _ (by decide)).trans h2) | exact (va_up_ne _ _ (by decide)).trans h2) (fun _ => rfl) (fun _ => rfl) ?_
  try rw [va_uu]
  rw [oMod_13]
  refine m_aload_n dX8_counts_29 rfl ?_
  refine m_iconst (v := 0) dX8_counts_30 (by decide) ?_
  refine m_putfield dX8_counts_31 fl_X8_81 (by first | assumption | rfl | exact va_up_self _ _ _ | exact (va_up_ne _ _ (by decide)).trans h3 | exact (va_up_ne _ _ (by decide)).trans (va_up_self _ _ _) | exact (va_up_ne _ _ (by decide)).trans ((va_up_ne _ _ (by decide)).trans h2) | exact (va_up_ne _ _ (by decide)).trans h2) (fun _ => rfl) (fun _ => rfl) ?_
  try rw [va_uu]
  rw [oMod_14]
  refine m_iconst (v := 0) dX8_counts_34 (by decide) ?_
  refine m_istore_n dX8_counts_35 (by decide) ?_
  show mW _ _ _ _ _ _ 36 [_, _, _, _, _] _
  refine m_iload_n dX8_counts_36 rfl ?_
  refine m_iconst (v := 5) dX8_counts_37 (by decide) ?_
  refine m_icmp_ge (t := 72) dX8_counts_38 (by decide) (fun q => absurd q (by decide)) (fun _ => ?_)
  refine m_aload_n dX8_counts_41 rfl ?_
  refine m_getfield dX8_counts_42 fl_X8_42 (by first | assumption | rfl | exact va_up_self _ _ _ | exact (va_up_ne _ _ (by decide)).trans h3 | exact (va_up_ne _ _ (by decide)).trans (va_up_self _ _ _) | exact (va_up_ne _ _ (by decide)).trans ((va_up_ne _ _ (by decide)).trans h2) | exact (va_up_ne _ _ (by decide)).trans h2) (by first | assumption | rfl | exact va_up_self _ _ _ | exact (va_up_ne _ _ (by decide)).trans h3 | exact (va_up_ne _ _ (by decide)).trans (va_up_self _ _ _) | exact (va_up_ne _ _ (by decide)).trans ((va_up_ne _ _ (by decide)).trans h2) | exact (va_up_ne _ _ (by decide)).trans h2) ?_
  show mW _ _ _ _ _ _ _ _ (.ref _ :: _)
  refine m_iload_n dX8_counts_45 rfl ?_
  refine m_iload_n dX8_counts_46 rfl ?_
  refine m_iload_n dX8_counts_47 rfl ?_
  refine m_iadd dX8_counts_48 ?_
  refine m_ci (v := 4) (by decide) ?_
  refine m_iconst (v := 5) dX8_counts_49 (by decide) ?_
  refine m_icmp_ge (t := 64) dX8_counts_50 (by decide) (fun q => absurd q (by decide)) (fun _ => ?_)
  refine m_aload_n dX8_counts_53 rfl ?_
  refine m_getfield dX8_counts_54 fl_X8_39 (by first | assumption | rfl | exact va_up_self _ _ _ | exact (va_up_ne _ _ (by decide)).trans h3 | exact (va_up_ne _ _ (by decide)).trans (va_up_self _ _ _) | exact (va_up_ne _ _ (by decide)).trans ((va_up_ne _ _ (by decide)).trans h2) | exact (va_up_ne _ _ (by decide)).trans h2) (by first | assumption | rfl | exact va_up_self _ _ _ | exact (va_up_ne _ _ (by decide)).trans h3 | exact (va_up_ne _ _ (by decide)).trans (va_up_self _ _ _) | exact (va_up_ne _ _ (by decide)).trans ((va_up_ne _ _ (by decide)).trans h2) | exact (va_up_ne _ _ (by decide)).trans h2) ?_
  show mW _ _ _ _ _ _ _ _ (.ref _ :: _)
  refine m_iload_n dX8_counts_57 rfl ?_
  refine m_iload_n dX8_counts_58 rfl ?_
  refine m_iadd dX8_counts_59 ?_
  refine m_ci (v := 4) (by decide) ?_
  refine m_laload (k := 4) dX8_counts_60 (by first | assumption | rfl | exact va_up_self _ _ _ | exact (va_up_ne _ _ (by decide)).trans h3 | exact (va_up_ne _ _ (by decide)).trans (va_up_self _ _ _) | exact (va_up_ne _ _ (by decide)).trans ((va_up_ne _ _ (by decide)).trans h2) | exact (va_up_ne _ _ (by decide)).trans h2) ⟨by decide, by decide⟩ ?_
  refine m_goto (t := 65) dX8_counts_61 (by decide) ?_
  refine m_lastore (k := 0) dX8_counts_65 (by first | assumption | rfl | exact va_up_self _ _ _ | exact (va_up_ne _ _ (by decide)).trans h3 | exact (va_up_ne _ _ (by decide)).trans (va_up_self _ _ _) | exact (va_up_ne _ _ (by decide)).trans ((va_up_ne _ _ (by decide)).trans h2) | exact (va_up_ne _ _ (by decide)).trans h2) ⟨by decide, by decide⟩ ?_
  try rw [va_uu]
  refine m_iinc (v := 1) dX8_counts_66 rfl (by decide) (by decide) ?_
  show mW _ _ _ _ _ _ 69 [_, _, _, _, _] _
  refine m_goto (t := 36) dX8_counts_69 (by decide) ?_
  refine m_iload_n dX8_counts_36 rfl ?_
  refine m_iconst (v := 5) dX8_counts_37 (by decide) ?_
  refine m_icmp_ge (t := 72) dX8_counts_38 (by decide) (fun q => absurd q (by decide)) (fun _ => ?_)
  refine m_aload_n dX8_counts_41 rfl ?_
  refine m_getfield dX8_counts_42 fl_X8_42 (by first | assumption | rfl | exact va_up_self _ _ _ | exact (va_up_ne _ _ (by decide)).trans h3 | exact (va_up_ne _ _ (by decide)).trans (va_up_self _ _ _) | exact (va_up_ne _ _ (by decide)).trans ((va_up_ne _ _ (by decide)).trans h2) | exact (va_up_ne _ _ (by decide)).trans h2) (by first | assumption | rfl | exact va_up_self _ _ _ | exact (va_up_ne _ _ (by decide)).trans h3 | exact (va_up_ne _ _ (by decide)).trans (va_up_self _ _ _) | exact (va_up_ne _ _ (by decide)).trans ((va_up_ne _ _ (by decide)).trans h2) | exact (va_up_ne _ _ (by decide)).trans h2) ?_
  show mW _ _ _ _ _ _ _ _ (.ref _ :: _)
  refine m_iload_n dX8_counts_45 rfl ?_
  refine m_iload_n dX8_counts_46 rfl ?_
  refine m_iload_n dX8_counts_47 rfl ?_
  refine m_iadd dX8_counts_48 ?_
  refine m_ci (v := 5) (by decide) ?_
  refine m_iconst (v := 5) dX8_counts_49 (by decide) ?_
  refine m_icmp_ge (t := 64) dX8_counts_50 (by decide) (fun _ => ?_) (fun q => absurd (by decide) q)
  refine m_lconst (v := 0) dX8_counts_64 (by decide) ?_
  refine m_lastore (k := 1) dX8_counts_65 (by first | assumption | rfl | exact va_up_self _ _ _ | exact (va_up_ne _ _ (by decide)).trans h3 | exact (va_up_ne _ _ (by decide)).trans (va_up_self _ _ _) | exact (va_up_ne _ _ (by decide)).trans ((va_up_ne _ _ (by decide)).trans h2) | exact (va_up_ne _ _ (by decide)).trans h2) ⟨by decide, by decide⟩ ?_
  try rw [va_uu]
  refine m_iinc (v := 2) dX8_counts_66 rfl (by decide) (by decide) ?_
  show mW _ _ _ _ _ _ 69 [_, _, _, _, _] _
  refine m_goto (t := 36) dX8_counts_69 (by decide) ?_
  refine m_iload_n dX8_counts_36 rfl ?_
  refine m_iconst (v := 5) dX8_counts_37 (by decide) ?_
  refine m_icmp_ge (t := 72) dX8_counts_38 (by decide) (fun q => absurd q (by decide)) (fun _ => ?_)
  refine m_aload_n dX8_counts_41 rfl ?_
  refine m_getfield dX8_counts_42 fl_X8_42 (by first | assumption | rfl | exact va_up_self _ _ _ | exact (va_up_ne _ _ (by decide)).trans h3 | exact (va_up_ne _ _ (by decide)).trans (va_up_self _ _ _) | exact (va_up_ne _ _ (by decide)).trans ((va_up_ne _ _ (by decide)).trans h2) | exact (va_up_ne _ _ (by decide)).trans h2) (by first | assumption | rfl | exact va_up_self _ _ _ | exact (va_up_ne _ _ (by decide)).trans h3 | exact (va_up_ne _ _ (by decide)).trans (va_up_self _ _ _) | exact (va_up_ne _ _ (by decide)).trans ((va_up_ne _ _ (by decide)).trans h2) | exact (va_up_ne _ _ (by decide)).trans h2) ?_
  show mW _ _ _ _ _ _ _ _ (.ref _ :: _)
  refine m_iload_n dX8_counts_45 rfl ?_
  refine m_iload_n dX8_counts_46 rfl ?_
  refine m_iload_n dX8_counts_47 rfl ?_
  refine m_iadd dX8_counts_48 ?_
  refine m_ci (v := 6) (by decide) ?_
  refine m_iconst (v := 5) dX8_counts_49 (by decide) ?_
  refine m_icmp_ge (t := 64) dX8_counts_50 (by decide) (fun _ => ?_) (fun q => absurd (by decide) q)
  refine m_lconst (v := 0) dX8_counts_64 (by decide) ?_
  refine m_lastore (k := 2) dX8_counts_65 (by first | assumption | rfl | exact va_up_self _ _ _ | exact (va_up_ne _ _ (by decide)).trans h3 | exact (va_up_ne _ _ (by decide)).trans (va_up_self _ _ _) | exact (va_up_ne _ _ (by decide)).trans ((va_up_ne _ _ (by decide)).trans h2) | exact (va_up_ne _ _ (by decide)).trans h2) ⟨by decide, by decide⟩ ?_
  try rw [va_uu]
  refine m_iinc (v := 3) dX8_counts_66 rfl (by decide) (by decide) ?_
  show mW _ _ _ _ _ _ 69 [_, _, _, _, _] _
  refine m_goto (t := 36) dX8_counts_69 (by decide) ?_
  refine m_iload_n dX8_counts_36 rfl ?_
  refine m_iconst (v := 5) dX8_counts_37 (by decide) ?_
  refine m_icmp_ge (t := 72) dX8_counts_38 (by decide) (fun q => absurd q (by decide)) (fun _ => ?_)
  refine m_aload_n dX8_counts_41 rfl ?_
  refine m_getfield dX8_counts_42 fl_X8_42 (by first | assumption | rfl | exact va_up_self _ _ _ | exact (va_up_ne _ _ (by decide)).trans h3 | exact (va_up_ne _ _ (by decide)).trans (va_up_self _ _ _) | exact (va_up_ne _ _ (by decide)).trans ((va_up_ne _ _ (by decide)).trans h2) | exact (va_up_ne _ _ (by decide)).trans h2) (by first | assumption | rfl | exact va_up_self _ _ _ | exact (va_up_ne _ _ (by decide)).trans h3 | exact (va_up_ne _ _ (by decide)).trans (va_up_self _ _ _) | exact (va_up_ne _ _ (by decide)).trans ((va_up_ne _ _ (by decide)).trans h2) | exact (va_up_ne _ _ (by decide)).trans h2) ?_
  show mW _ _ _ _ _ _ _ _ (.ref _ :: _)
  refine m_iload_n dX8_counts_45 rfl ?_
  refine m_iload_n dX8_counts_46 rfl ?_
  refine m_iload_n dX8_counts_47 rfl ?_
  refine m_iadd dX8_counts_48 ?_
  refine m_ci (v := 7) (by decide) ?_
  refine m_iconst (v := 5) dX8_counts_49 (by decide) ?_
  refine m_icmp_ge (t := 64) dX8_counts_50 (by decide) (fun _ => ?_) (fun q => absurd (by decide) q)
  refine m_lconst (v := 0) dX8_counts_64 (by decide) ?_
  refine m_lastore (k := 3) dX8_counts_65 (by first | assumption | rfl | exact va_up_self _ _ _ | exact (va_up_ne _ _ (by decide)).trans h3 | exact (va_up_ne _ _ (by decide)).trans (va_up_self _ _ _) | exact (va_up_ne _ _ (by decide)).trans ((va_up_ne _ _ (by decide)).trans h2) | exact (va_up_ne _ _ (by decide)).trans h2) ⟨by decide, by decide⟩ ?_
  try rw [va_uu]
  refine m_iinc (v := 4) dX8_counts_66 rfl (by decide) (by decide) ?_
  show mW _ _ _ _ _ _ 69 [_, _, _, _, _] _
  refine m_goto (t := 36) dX8_counts_69 (by decide) ?_
  refine m_iload_n dX8_counts_36 rfl ?_
  refine m_iconst (v := 5) dX8_counts_37 (by decide) ?_
  refine m_icmp_ge (t := 72) dX8_counts_38 (by decide) (fun q => absurd q (by decide)) (fun _ => ?_)
  refine m_aload_n dX8_counts_41 rfl ?_
  refine m_getfield dX8_counts_42 fl_X8_42 (by first | assumption | rfl | exact va_up_self _ _ _ | exact (va_up_ne _ _ (by decide)).trans h3 | exact (va_up_ne _ _ (by decide)).trans (va_up_self _ _ _) | exact (va_up_ne _ _ (by decide)).trans ((va_up_ne _ _ (by decide)).trans h2) | exact (va_up_ne _ _ (by decide)).trans h2) (by first | assumption | rfl | exact va_up_self _ _ _ | exact (va_up_ne _ _ (by decide)).trans h3 | exact (va_up_ne _ _ (by decide)).trans (va_up_self _ _ _) | exact (va_up_ne _ _ (by decide)).trans ((va_up_ne _ _ (by decide)).trans h2) | exact (va_up_ne _ _ (by decide)).trans h2) ?_
  show mW _ _ _ _ _ _ _ _ (.ref _ :: _)
  refine m_iload_n dX8_counts_45 rfl ?_
  refine m_iload_n dX8_counts_46 rfl ?_
  refine m_iload_n dX8_counts_47 rfl ?_
  refine m_iadd dX8_counts_48 ?_
  refine m_ci (v := 8) (by decide) ?_
  refine m_iconst (v := 5) dX8_counts_49 (by decide) ?_
  refine m_icmp_ge (t := 64) dX8_counts_50 (by decide) (fun _ => ?_) (fun q => absurd (by decide) q)
  refine m_lconst (v := 0) dX8_counts_64 (by decide) ?_
  refine m_lastore (k := 4) dX8_counts_65 (by first | assumption | rfl | exact va_up_self _ _ _ | exact (va_up_ne _ _ (by decide)).trans h3 | exact (va_up_ne _ _ (by decide)).trans (va_up_self _ _ _) | exact (va_up_ne _ _ (by decide)).trans ((va_up_ne _ _ (by decide)).trans h2) | exact (va_up_ne _ _ (by decide)).trans h2) ⟨by decide, by decide⟩ ?_
  try rw [va_uu]
  refine m_iinc (v := 5) dX8_counts_66 rfl (by decide) (by decide) ?_
  show mW _ _ _ _ _ _ 69 [_, _, _, _, _] _
  refine m_goto (t := 36) dX8_counts_69 (by decide) ?_
  refine m_iload_n dX8_counts_36 rfl ?_
  refine m_iconst (v := 5) dX8_counts_37 (by decide) ?_
  refine m_icmp_ge (t := 72) dX8_counts_38 (by decide) (fun _ => ?_) (fun q => absurd (by decide) q)
  have hlo : loM Z = 4 := by
    unfold loM
    rw [if_pos c9, if_pos c9_1, if_pos c9_2, if_pos c9_3]
  refine l_X8_counts (hp := va_up (va_up hp 67 (eO 8 (oMod ac ia tm 0 (nI 4) 0 ch ls rm sm ra fa))) 77 (eL 5 (fill5 (shA Z 4) A))) (B := fill5 (shA Z 4) A) ((va_up_ne _ _ (by decide)).trans (va_up_self _ _ _)) (va_up_self _ _ _) c9_4 hF (fun ch' ls' A' => ⟨rfl, ch', ls', A', ?_⟩)
  unfold cntM
  rw [hlo]
  exact up_4

