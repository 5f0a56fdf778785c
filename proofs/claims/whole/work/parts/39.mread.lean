/-! ===== the reference: its reader ===== -/
def ltrM (TP : Nat → Int32) (z p : Nat) : Int32 := if skipB TP z p < z then TP (skipB TP z p) else 0
set_option maxHeartbeats 400000 in
set_option maxRecDepth 100000 in
theorem l_X8_looks {n : Nat} {hp : mHp} {TP : Nat → Int32} {z p : Nat} {ac ia ri ev le ch ls rm sm fa : Int32} (h1 : hp 67 = eO 8 (oMod ac ia (nI z) ri ev le ch ls rm sm (nI p) fa)) (h2 : hp 72 = eI 60 TP) (hz : z ≤ 60) (hpz : p ≤ z) {K : mK} (hF : mFin K D_X8_looks n (rI (ltrM TP z p) (va_up hp 67 (eO 8 (oMod ac ia (nI z) ri ev le ch ls rm sm (nI (skipB TP z p)) fa))))) : ∀ m r : Nat, r ≤ z → z + 1 ≤ r + m → skipB TP z r = skipB TP z p → mW K D_X8_looks 0 0 n (va_up hp 67 (eO 8 (oMod ac ia (nI z) ri ev le ch ls rm sm (nI r) fa))) 0 [.ref 67] [] := by
  intro m
  induction m with
  | zero =>
    intro r h3 h4
    exact absurd h4 (by omega)
  | succ m ih =>
    intro r h3 h4 hv
    have c1 : va_up hp 67 (eO 8 (oMod ac ia (nI z) ri ev le ch ls rm sm (nI r) fa)) 67 = eO 8 (oMod ac ia (nI z) ri ev le ch ls rm sm (nI r) fa) := rfl
    have c2 : va_up hp 67 (eO 8 (oMod ac ia (nI z) ri ev le ch ls rm sm (nI r) fa)) 72 = eI 60 TP := h2
    refine m_aload_n dX8_looks_0 rfl ?_
    refine m_getfield dX8_looks_1 fl_X8_226 (by first | exact c1 | exact c2 | rfl) (by first | exact c1 | exact c2 | rfl) ?_
    show mW _ _ _ _ _ _ _ _ (.int _ :: _)
    refine m_aload_n dX8_looks_4 rfl ?_
    refine m_getfield dX8_looks_5 fl_X8_223 (by first | exact c1 | exact c2 | rfl) (by first | exact c1 | exact c2 | rfl) ?_
    show mW _ _ _ _ _ _ _ _ (.int _ :: _)
    refine m_icmp_ge (t := 38) dX8_looks_8 (by decide) (fun c8 => ?_) (fun c8 => ?_)
    · rw [skipB_end (fun q => absurd q.1 (by have := nI_cmp' (by omega) (by omega) c8; omega))] at hv
      have hs : ¬ r < z := by have := nI_cmp' (by omega) (by omega) c8; omega
      refine m_aload_n dX8_looks_38 rfl ?_
      refine m_getfield dX8_looks_39 fl_X8_226 (by first | exact c1 | exact c2 | rfl) (by first | exact c1 | exact c2 | rfl) ?_
      show mW _ _ _ _ _ _ _ _ (.int _ :: _)
      refine m_aload_n dX8_looks_42 rfl ?_
      refine m_getfield dX8_looks_43 fl_X8_223 (by first | exact c1 | exact c2 | rfl) (by first | exact c1 | exact c2 | rfl) ?_
      show mW _ _ _ _ _ _ _ _ (.int _ :: _)
      refine m_icmp_ge (t := 61) dX8_looks_46 (by decide) (fun c46 => ?_) (fun c46 => ?_)
      · have hs2 : ¬ r < z := by have := nI_cmp' (by omega) (by omega) c46; omega
        refine m_iconst (v := 0) dX8_looks_61 (by decide) ?_
        exact m_ireturn hF dX8_looks_62 rfl rfl rfl ⟨by unfold ltrM; rw [← hv]; first | rw [if_pos hs2] | rw [if_neg hs2], by rw [← hv]⟩
      have hs2 : r < z := nI_cmp (by omega) (by omega) c46
      refine m_aload_n dX8_looks_49 rfl ?_
      refine m_getfield dX8_looks_50 fl_X8_26 (by first | exact c1 | exact c2 | rfl) (by first | exact c1 | exact c2 | rfl) ?_
      show mW _ _ _ _ _ _ _ _ (.ref _ :: _)
      refine m_aload_n dX8_looks_53 rfl ?_
      refine m_getfield dX8_looks_54 fl_X8_226 (by first | exact c1 | exact c2 | rfl) (by first | exact c1 | exact c2 | rfl) ?_
      show mW _ _ _ _ _ _ _ _ (.int _ :: _)
      refine m_iaload dX8_looks_57 (by first | exact c1 | exact c2 | rfl) (mIx_lit (show r < 60 by omega) (by decide)) ?_
      refine m_goto (t := 62) dX8_looks_58 (by decide) ?_
      exact m_ireturn hF dX8_looks_62 rfl rfl rfl ⟨by unfold ltrM; rw [← hv]; first | rw [if_pos hs2] | rw [if_neg hs2], by rw [← hv]⟩
    have hlt : r < z := nI_cmp (by omega) (by omega) c8
    refine m_aload_n dX8_looks_11 rfl ?_
    refine m_getfield dX8_looks_12 fl_X8_26 (by first | exact c1 | exact c2 | rfl) (by first | exact c1 | exact c2 | rfl) ?_
    show mW _ _ _ _ _ _ _ _ (.ref _ :: _)
    refine m_aload_n dX8_looks_15 rfl ?_
    refine m_getfield dX8_looks_16 fl_X8_226 (by first | exact c1 | exact c2 | rfl) (by first | exact c1 | exact c2 | rfl) ?_
    show mW _ _ _ _ _ _ _ _ (.int _ :: _)
    refine m_iaload dX8_looks_19 (by first | exact c1 | exact c2 | rfl) (mIx_lit (show r < 60 by omega) (by decide)) ?_
    refine m_bipush (v := 32) dX8_looks_20 (by decide) ?_
    refine m_icmp_ne (t := 38) dX8_looks_22 (by decide) (fun c22 => ?_) (fun c22 => ?_)
    rotate_left
    · rw [skipB_go hlt c22] at hv
      refine m_aload_n dX8_looks_25 rfl ?_
      refine m_dup dX8_looks_26 rfl ?_
      refine m_getfield dX8_looks_27 fl_X8_226 (by first | exact c1 | exact c2 | rfl) (by first | exact c1 | exact c2 | rfl) ?_
      show mW _ _ _ _ _ _ _ _ (.int _ :: _)
      refine m_iconst (v := 1) dX8_looks_30 (by decide) ?_
      refine m_iadd dX8_looks_31 ?_
      refine m_ci (v := nI (r + 1)) (nI_add r 1) ?_
      refine m_putfield dX8_looks_32 fl_X8_226 (by first | exact c1 | exact c2 | rfl) (fun _ => rfl) (fun _ => rfl) ?_
      try rw [va_uu]
      rw [oMod_26]
      refine m_goto (t := 0) dX8_looks_35 (by decide) ?_
      exact ih (r + 1) (by omega) (by omega) hv
    rw [skipB_end (fun q => c22 q.2)] at hv
    have hs : r < z := hlt
    refine m_aload_n dX8_looks_38 rfl ?_
    refine m_getfield dX8_looks_39 fl_X8_226 (by first | exact c1 | exact c2 | rfl) (by first | exact c1 | exact c2 | rfl) ?_
    show mW _ _ _ _ _ _ _ _ (.int _ :: _)
    refine m_aload_n dX8_looks_42 rfl ?_
    refine m_getfield dX8_looks_43 fl_X8_223 (by first | exact c1 | exact c2 | rfl) (by first | exact c1 | exact c2 | rfl) ?_
    show mW _ _ _ _ _ _ _ _ (.int _ :: _)
    refine m_icmp_ge (t := 61) dX8_looks_46 (by decide) (fun c46 => ?_) (fun c46 => ?_)
    · have hs2 : ¬ r < z := by have := nI_cmp' (by omega) (by omega) c46; omega
      refine m_iconst (v := 0) dX8_looks_61 (by decide) ?_
      exact m_ireturn hF dX8_looks_62 rfl rfl rfl ⟨by unfold ltrM; rw [← hv]; first | rw [if_pos hs2] | rw [if_neg hs2], by rw [← hv]⟩
    have hs2 : r < z := nI_cmp (by omega) (by omega) c46
    refine m_aload_n dX8_looks_49 rfl ?_
    refine m_getfield dX8_looks_50 fl_X8_26 (by first | exact c1 | exact c2 | rfl) (by first | exact c1 | exact c2 | rfl) ?_
    show mW _ _ _ _ _ _ _ _ (.ref _ :: _)
    refine m_aload_n dX8_looks_53 rfl ?_
    refine m_getfield dX8_looks_54 fl_X8_226 (by first | exact c1 | exact c2 | rfl) (by first | exact c1 | exact c2 | rfl) ?_
    show mW _ _ _ _ _ _ _ _ (.int _ :: _)
    refine m_iaload dX8_looks_57 (by first | exact c1 | exact c2 | rfl) (mIx_lit (show r < 60 by omega) (by decide)) ?_
    refine m_goto (t := 62) dX8_looks_58 (by decide) ?_
    exact m_ireturn hF dX8_looks_62 rfl rfl rfl ⟨by unfold ltrM; rw [← hv]; first | rw [if_pos hs2] | rw [if_neg hs2], by rw [← hv]⟩

theorem t_X8_looks {n : Nat} {hp : mHp} {TP : Nat → Int32} {z p : Nat} {ac ia ri ev le ch ls rm sm fa : Int32} (h1 : hp 67 = eO 8 (oMod ac ia (nI z) ri ev le ch ls rm sm (nI p) fa)) (h2 : hp 72 = eI 60 TP) (hz : z ≤ 60) (hpz : p ≤ z) : mC D_X8_looks [.ref 67] n hp (rI (ltrM TP z p) (va_up hp 67 (eO 8 (oMod ac ia (nI z) ri ev le ch ls rm sm (nI (skipB TP z p)) fa)))) := by
  refine m_enter rfl rfl (Nat.le_of_ble_eq_true rfl) (fun K hF => ?_)
  have := l_X8_looks h1 h2 hz hpz hF (z + 1) p hpz (by omega) rfl
  rw [va_uid hp h1] at this
  exact this
set_option maxHeartbeats 400000 in
set_option maxRecDepth 100000 in
theorem t_X8_goesBy {n : Nat} {hp : mHp} {z p : Nat} {x : Int32} {ac ia ri ev le ch ls rm sm fa : Int32} (h1 : hp 67 = eO 8 (oMod ac ia (nI z) ri ev le ch ls rm sm (nI p) fa)) (hx : x = 0 ∨ x = 1) : mC D_X8_goesBy [.ref 67, .int x] n hp (rI x (va_up hp 67 (eO 8 (oMod ac ia (nI z) ri ev le ch ls rm sm (nI (if x = 0 then p else p + 1)) fa)))) := by
  refine m_enter rfl rfl (Nat.le_of_ble_eq_true rfl) (fun K hF => ?_)
  show mW K _ 0 0 _ _ 0 [.ref 67, .int x] []
  refine m_aload_n dX8_goesBy_0 rfl ?_
  refine m_dup dX8_goesBy_1 rfl ?_
  refine m_getfield dX8_goesBy_2 fl_X8_226 (by first | assumption | rfl) (by first | assumption | rfl) ?_
  show mW _ _ _ _ _ _ _ _ (.int _ :: _)
  refine m_iload_n dX8_goesBy_5 rfl ?_
  refine m_if_eq (t := 13) dX8_goesBy_6 (by decide) (fun c6 => ?_) (fun c6 => ?_)
  · refine m_iconst (v := 0) dX8_goesBy_13 (by decide) ?_
    refine m_iadd dX8_goesBy_14 ?_
    refine m_ci (v := nI (if x = 0 then p else p + 1)) (by rw [if_pos c6]; first | exact nI_add p 1 | exact nI_add p 0) ?_
    refine m_putfield dX8_goesBy_15 fl_X8_226 (by first | assumption | rfl) (fun _ => rfl) (fun _ => rfl) ?_
    try rw [va_uu]
    rw [oMod_26]
    refine m_iload_n dX8_goesBy_18 rfl ?_
    exact m_zreturn hF dX8_goesBy_19 rfl (narB hx) rfl rfl ⟨rfl, rfl⟩
  refine m_iconst (v := 1) dX8_goesBy_9 (by decide) ?_
  refine m_goto (t := 14) dX8_goesBy_10 (by decide) ?_
  refine m_iadd dX8_goesBy_14 ?_
  refine m_ci (v := nI (if x = 0 then p else p + 1)) (by rw [if_neg c6]; first | exact nI_add p 1 | exact nI_add p 0) ?_
  refine m_putfield dX8_goesBy_15 fl_X8_226 (by first | assumption | rfl) (fun _ => rfl) (fun _ => rfl) ?_
  try rw [va_uu]
  rw [oMod_26]
  refine m_iload_n dX8_goesBy_18 rfl ?_
  exact m_zreturn hF dX8_goesBy_19 rfl (narB hx) rfl rfl ⟨rfl, rfl⟩

theorem skipB_stop {TP : Nat → Int32} {z : Nat} : ∀ (m p : Nat), z - p ≤ m → ¬ (skipB TP z p < z ∧ TP (skipB TP z p) = 32) := by
  intro m
  induction m with
  | zero =>
    intro p h
    rw [skipB_end (by omega)]
    omega
  | succ m ih =>
    intro p h
    by_cases e : p < z ∧ TP p = 32
    · rw [skipB_go e.1 e.2]
      exact ih (p + 1) (by omega)
    · rw [skipB_end e]
      exact e
theorem skipB_idem {TP : Nat → Int32} {z p : Nat} : skipB TP z (skipB TP z p) = skipB TP z p := skipB_end (skipB_stop (z - p) p (Nat.le_refl _))
theorem ltrM_idem {TP : Nat → Int32} {z p : Nat} : ltrM TP z (skipB TP z p) = ltrM TP z p := by
  unfold ltrM
  rw [skipB_idem]
theorem in32_iff {x : Int32} {a b : Int64} {A B : Int32} (ha : a.toInt = A.toInt) (hb : b.toInt = B.toInt) : inI x.toInt64 a b = 0 ↔ (x < A ∨ B < x) := by
  rw [inI_iff ha hb, Int32.lt_iff_toInt_lt, Int32.lt_iff_toInt_lt]
  omega
theorem ltrMB {TP : Nat → Int32} {z p : Nat} : ltrB TP z p = ltrM TP z p ∨ (ltrB TP z p = -1 ∧ ltrM TP z p = 0) := by
  unfold ltrB ltrM
  by_cases h : skipB TP z p < z
  · rw [if_pos h, if_pos h]
    exact Or.inl rfl
  · rw [if_neg h, if_neg h]
    exact Or.inr ⟨rfl, rfl⟩
theorem ltrMB_ge {TP : Nat → Int32} {z p : Nat} {a : Int32} (h : ¬ ltrM TP z p < a) (ha : 0 < a) : ltrB TP z p = ltrM TP z p ∧ skipB TP z p < z := by
  have hs : skipB TP z p < z := by
    refine Classical.byContradiction (fun q => h ?_)
    unfold ltrM
    rw [if_neg q]
    exact ha
  refine ⟨?_, hs⟩
  unfold ltrB ltrM
  rw [if_pos hs, if_pos hs]
theorem cTerm_nd {TP : Nat → Int32} {z p : Nat} (h : inI (ltrM TP z p).toInt64 49 57 = 0) : cTerm TP z p = if ltrM TP z p = 115 then (1, 1, cPow TP z (skipB TP z p + 1)) else (0, 1, 0, skipB TP z p) := by
  have h2 := (in32_iff (A := 49) (B := 57) (by decide) (by decide)).mp h
  unfold cTerm
  rcases ltrMB (TP := TP) (z := z) (p := p) with e | ⟨e1, e2⟩
  · rw [e]
    by_cases c1 : ltrM TP z p < 49
    · rw [if_pos c1]
    · rw [if_neg c1, if_pos (h2.resolve_left c1)]
  · rw [e1, e2, if_pos (by decide), if_neg (by decide), if_neg (by decide)]
theorem cTerm_d {TP : Nat → Int32} {z p : Nat} (h : ¬ inI (ltrM TP z p).toInt64 49 57 = 0) : (cTerm TP z p = if ltrM TP z (skipB TP z p + 1) = 115 then (1, nI (digN (ltrM TP z p)), cPow TP z (skipB TP z (skipB TP z p + 1) + 1)) else (1, nI (digN (ltrM TP z p)), 0, skipB TP z (skipB TP z p + 1))) ∧ skipB TP z p < z ∧ ltrM TP z p - 48 = nI (digN (ltrM TP z p)) := by
  have h2 := fun q => h ((in32_iff (A := 49) (B := 57) (by decide) (by decide)).mpr q)
  have c1 : ¬ ltrM TP z p < 49 := fun q => h2 (Or.inl q)
  have c2 : ¬ 57 < ltrM TP z p := fun q => h2 (Or.inr q)
  obtain ⟨e, hs⟩ := ltrMB_ge c1 (by decide)
  refine ⟨?_, hs, (digN_of c1 c2 (by decide) (by decide)).1⟩
  unfold cTerm
  rw [e, if_neg c1, if_neg c2]
  rcases ltrMB (TP := TP) (z := z) (p := skipB TP z p + 1) with e | ⟨e1, e2⟩
  · rw [e]
  · rw [e1, e2, if_neg (by decide), if_neg (by decide)]
theorem cPow_M {TP : Nat → Int32} {z p : Nat} : cPow TP z p = if inI (ltrM TP z p).toInt64 50 52 = 0 then (1, skipB TP z p) else (digN (ltrM TP z p), skipB TP z p + 1) := by
  unfold cPow
  by_cases h : inI (ltrM TP z p).toInt64 50 52 = 0
  · rw [if_pos h]
    have h2 := (in32_iff (A := 50) (B := 52) (by decide) (by decide)).mp h
    rcases ltrMB (TP := TP) (z := z) (p := p) with e | ⟨e1, e2⟩
    · rw [e]
      by_cases c1 : ltrM TP z p < 50
      · rw [if_pos c1]
      · rw [if_neg c1, if_pos (h2.resolve_left c1)]
    · rw [e1, if_pos (by decide)]
  · rw [if_neg h]
    have h2 := fun q => h ((in32_iff (A := 50) (B := 52) (by decide) (by decide)).mpr q)
    have c1 : ¬ ltrM TP z p < 50 := fun q => h2 (Or.inl q)
    have c2 : ¬ 52 < ltrM TP z p := fun q => h2 (Or.inr q)
    obtain ⟨e, hs⟩ := ltrMB_ge c1 (by decide)
    rw [e, if_neg c1, if_neg c2]
def mTm (TP : Nat → Int32) (z p w : Nat) (sg la fa : Int32) (RD : Nat → Int32) : Int32 × Nat × Int32 × (Nat → Int32) := if (cTerm TP z p).1 = 0 then (0, (cTerm TP z p).2.2.2, 1, RD) else if nI (cTerm TP z p).2.2.1 < la then (nI (cTerm TP z p).2.2.1, (cTerm TP z p).2.2.2, fa, va_up RD (5 * w + (cTerm TP z p).2.2.1) (sg * (cTerm TP z p).2.1)) else (0, skipB TP z p, 1, RD)
theorem mTm_0 {TP RD : Nat → Int32} {z p w k q : Nat} {sg la fa v : Int32} (h : cTerm TP z p = (0, v, k, q)) : mTm TP z p w sg la fa RD = (0, q, 1, RD) := by
  unfold mTm
  rw [h]
  exact if_pos rfl
theorem mTm_bad {TP RD : Nat → Int32} {z p w k q : Nat} {sg la fa v : Int32} (h : cTerm TP z p = (1, v, k, q)) (hl : ¬ nI k < la) : mTm TP z p w sg la fa RD = (0, skipB TP z p, 1, RD) := by
  unfold mTm
  rw [h]
  exact (if_neg (show ¬ (1 : Int32) = 0 by decide)).trans (if_neg hl)
theorem mTm_ok {TP RD : Nat → Int32} {z p w k q : Nat} {sg la fa v : Int32} (h : cTerm TP z p = (1, v, k, q)) (hl : nI k < la) : mTm TP z p w sg la fa RD = (nI k, q, fa, va_up RD (5 * w + k) (sg * v)) := by
  unfold mTm
  rw [h]
  exact (if_neg (show ¬ (1 : Int32) = 0 by decide)).trans (if_pos hl)
set_option maxHeartbeats 400000 in
set_option maxRecDepth 100000 in
theorem t_X8_term {n : Nat} {hp : mHp} {TP RD : Nat → Int32} {z p w : Nat} {sg la : Int32} {ac ia ri ev le ch ls rm sm fa : Int32} (h1 : hp 67 = eO 8 (oMod ac ia (nI z) ri ev le ch ls rm sm (nI p) fa)) (h2 : hp 72 = eI 60 TP) (h3 : hp 84 = eI 10 RD) (hz : z ≤ 60) (hpz : p ≤ z) (hw : w < 2) : mC D_X8_term [.ref 67, .int (nI w), .int sg, .int la] n hp (rI (mTm TP z p w sg la fa RD).1 (va_up (va_up hp 84 (eI 10 (mTm TP z p w sg la fa RD).2.2.2)) 67 (eO 8 (oMod ac ia (nI z) ri ev le ch ls rm sm (nI (mTm TP z p w sg la fa RD).2.1) (mTm TP z p w sg la fa RD).2.2.1)))) := by
  refine m_enter rfl rfl (Nat.le_of_ble_eq_true rfl) (fun K hF => ?_)
  show mW K _ 0 0 _ _ 0 [.ref 67, .int (nI w), .int sg, .int la, .retAddr 0, .retAddr 0, .retAddr 0, .retAddr 0, .retAddr 0, .retAddr 0] []
  have z0 := skipB_z (LT := TP) hpz
  refine m_aload_n dX8_term_0 rfl ?_
  refine m_invV_I dX8_term_1 lk_X8_229 ar_X8_looks (ci := 8) rfl rfl (by first | assumption | rfl | exact va_up_self _ _ _ | exact (va_up_ne _ _ (by decide)).trans h3) (t_X8_looks (by first | assumption | exact va_up_self _ _ _) (by first | assumption | exact (va_up_ne _ _ (by decide)).trans h2) hz (by first | omega | (have := skipB_z (LT := TP) hpz; omega))) rfl (Nat.le_of_ble_eq_true rfl) (by decide) (by decide) (by decide) (by decide) rfl rfl ?_
  try rw [va_uu]
  refine m_istore dX8_term_4 (by decide) ?_
  show mW _ _ _ _ _ _ 6 [_, _, _, _, _, _, _, _, _, _] _
  refine m_aload_n dX8_term_6 rfl ?_
  refine m_getfield dX8_term_7 fl_X8_226 (by first | assumption | rfl | exact va_up_self _ _ _ | exact (va_up_ne _ _ (by decide)).trans h3) (by first | assumption | rfl | exact va_up_self _ _ _ | exact (va_up_ne _ _ (by decide)).trans h3) ?_
  show mW _ _ _ _ _ _ _ _ (.int _ :: _)
  refine m_istore dX8_term_10 (by decide) ?_
  show mW _ _ _ _ _ _ 12 [_, _, _, _, _, _, _, _, _, _] _
  refine m_iload dX8_term_12 rfl ?_
  refine m_i2l dX8_term_14 ?_
  refine m_ldc2 dX8_term_15 cl_X8_233 ?_
  refine m_ldc2 dX8_term_18 cl_X8_235 ?_
  refine m_invS_I dX8_term_21 lk_X8_141 ar_X8_in (t_X8_in) rfl (Nat.le_of_ble_eq_true rfl) (by decide) (by decide) (by decide) (by decide) rfl rfl ?_
  try rw [va_uu]
  refine m_if_eq (t := 35) dX8_term_24 (by decide) (fun c24 => ?_) (fun c24 => ?_)
  · refine m_iconst (v := 1) dX8_term_35 (by decide) ?_
    skip
    refine m_istore dX8_term_36 (by decide) ?_
    show mW _ _ _ _ _ _ 38 [_, _, _, _, _, _, _, _, _, _] _
    refine m_aload_n dX8_term_38 rfl ?_
    refine m_iload dX8_term_39 rfl ?_
    refine m_i2l dX8_term_41 ?_
    refine m_ldc2 dX8_term_42 cl_X8_233 ?_
    refine m_ldc2 dX8_term_45 cl_X8_235 ?_
    refine m_invS_I dX8_term_48 lk_X8_141 ar_X8_in (t_X8_in) rfl (Nat.le_of_ble_eq_true rfl) (by decide) (by decide) (by decide) (by decide) rfl rfl ?_
    try rw [va_uu]
    refine m_invV_I dX8_term_51 lk_X8_237 ar_X8_goesBy (ci := 8) rfl rfl (by first | assumption | rfl | exact va_up_self _ _ _ | exact (va_up_ne _ _ (by decide)).trans h3) (t_X8_goesBy (va_up_self _ _ _) inI_b) rfl (Nat.le_of_ble_eq_true rfl) (by decide) (by decide) (by decide) (by decide) rfl rfl ?_
    try rw [va_uu]
    rw [if_pos c24]
    refine m_ci (v := 0) c24 ?_
    refine m_istore dX8_term_54 (by decide) ?_
    show mW _ _ _ _ _ _ 56 [_, _, _, _, _, _, _, _, _, _] _
    refine m_aload_n dX8_term_56 rfl ?_
    refine m_aload_n dX8_term_57 rfl ?_
    refine m_invV_I dX8_term_58 lk_X8_229 ar_X8_looks (ci := 8) rfl rfl (by first | assumption | rfl | exact va_up_self _ _ _ | exact (va_up_ne _ _ (by decide)).trans h3) (t_X8_looks (by first | assumption | exact va_up_self _ _ _) (by first | assumption | exact (va_up_ne _ _ (by decide)).trans h2) hz (by first | omega | (have := skipB_z (LT := TP) hpz; omega))) rfl (Nat.le_of_ble_eq_true rfl) (by decide) (by decide) (by decide) (by decide) rfl rfl ?_
    try rw [va_uu]
    rw [ltrM_idem, skipB_idem]
    refine m_bipush (v := 115) dX8_term_61 (by decide) ?_
    refine m_icmp_ne (t := 70) dX8_term_63 (by decide) (fun c63 => ?_) (fun c63 => ?_)
    · refine m_iconst (v := 0) dX8_term_70 (by decide) ?_
      refine m_invV_I dX8_term_71 lk_X8_237 ar_X8_goesBy (ci := 8) rfl rfl (by first | assumption | rfl | exact va_up_self _ _ _ | exact (va_up_ne _ _ (by decide)).trans h3) (t_X8_goesBy (va_up_self _ _ _) (by decide)) rfl (Nat.le_of_ble_eq_true rfl) (by decide) (by decide) (by decide) (by decide) rfl rfl ?_
      try rw [va_uu]
      rw [if_pos rfl]
      refine m_istore dX8_term_74 (by decide) ?_
      show mW _ _ _ _ _ _ 76 [_, _, _, _, _, _, _, _, _, _] _
      refine m_iload dX8_term_76 rfl ?_
      refine m_if_ne (t := 93) dX8_term_78 (by decide) (fun q => absurd rfl q) (fun _ => ?_)
      refine m_iload dX8_term_81 rfl ?_
      refine m_if_ne (t := 93) dX8_term_83 (by decide) (fun q => absurd rfl q) (fun _ => ?_)
      refine m_aload_n dX8_term_86 rfl ?_
      refine m_iconst (v := 1) dX8_term_87 (by decide) ?_
      refine m_putfield dX8_term_88 fl_X8_241 (by first | assumption | rfl | exact va_up_self _ _ _ | exact (va_up_ne _ _ (by decide)).trans h3) (fun _ => rfl) (fun _ => rfl) ?_
      try rw [va_uu]
      rw [oMod_27]
      refine m_iconst (v := 0) dX8_term_91 (by decide) ?_
      exact m_ireturn hF dX8_term_92 rfl rfl rfl ⟨by have eT : cTerm TP z p = (0, 1, 0, skipB TP z p) := (by rw [cTerm_nd c24, if_neg c63]); have mT : mTm TP z p w sg la fa RD = _ := mTm_0 eT; rw [mT], by have eT : cTerm TP z p = (0, 1, 0, skipB TP z p) := (by rw [cTerm_nd c24, if_neg c63]); have mT : mTm TP z p w sg la fa RD = _ := mTm_0 eT; rw [mT]; rw [va_uid hp h3]⟩
    have s9 : skipB TP z p < z := (ltrMB_ge (a := 115) (by rw [c63]; decide) (by decide)).2
    refine m_iconst (v := 1) dX8_term_66 (by decide) ?_
    refine m_goto (t := 71) dX8_term_67 (by decide) ?_
    refine m_invV_I dX8_term_71 lk_X8_237 ar_X8_goesBy (ci := 8) rfl rfl (by first | assumption | rfl | exact va_up_self _ _ _ | exact (va_up_ne _ _ (by decide)).trans h3) (t_X8_goesBy (va_up_self _ _ _) (by decide)) rfl (Nat.le_of_ble_eq_true rfl) (by decide) (by decide) (by decide) (by decide) rfl rfl ?_
    try rw [va_uu]
    rw [if_neg (by decide)]
    refine m_istore dX8_term_74 (by decide) ?_
    show mW _ _ _ _ _ _ 76 [_, _, _, _, _, _, _, _, _, _] _
    refine m_iload dX8_term_76 rfl ?_
    refine m_if_ne (t := 93) dX8_term_78 (by decide) (fun q => absurd rfl q) (fun _ => ?_)
    refine m_iload dX8_term_81 rfl ?_
    refine m_if_ne (t := 93) dX8_term_83 (by decide) (fun _ => ?_) (fun q => absurd q (by decide))
    refine m_iload dX8_term_93 rfl ?_
    refine m_if_eq (t := 102) dX8_term_95 (by decide) (fun q => absurd q (by decide)) (fun _ => ?_)
    refine m_iconst (v := 1) dX8_term_98 (by decide) ?_
    refine m_goto (t := 103) dX8_term_99 (by decide) ?_
    refine m_istore dX8_term_103 (by decide) ?_
    show mW _ _ _ _ _ _ 105 [_, _, _, _, _, _, _, _, _, _] _
    refine m_iload dX8_term_105 rfl ?_
    refine m_if_eq (t := 146) dX8_term_107 (by decide) (fun q => absurd q (by decide)) (fun _ => ?_)
    have z2 := skipB_z (LT := TP) (z := z) (p := (skipB TP z p + 1)) (by omega)
    refine m_aload_n dX8_term_110 rfl ?_
    refine m_invV_I dX8_term_111 lk_X8_229 ar_X8_looks (ci := 8) rfl rfl (by first | assumption | rfl | exact va_up_self _ _ _ | exact (va_up_ne _ _ (by decide)).trans h3) (t_X8_looks (by first | assumption | exact va_up_self _ _ _) (by first | assumption | exact (va_up_ne _ _ (by decide)).trans h2) hz (by first | omega | (have := skipB_z (LT := TP) hpz; omega))) rfl (Nat.le_of_ble_eq_true rfl) (by decide) (by decide) (by decide) (by decide) rfl rfl ?_
    try rw [va_uu]
    refine m_i2l dX8_term_114 ?_
    refine m_ldc2 dX8_term_115 cl_X8_245 ?_
    refine m_ldc2 dX8_term_118 cl_X8_247 ?_
    refine m_invS_I dX8_term_121 lk_X8_141 ar_X8_in (t_X8_in) rfl (Nat.le_of_ble_eq_true rfl) (by decide) (by decide) (by decide) (by decide) rfl rfl ?_
    try rw [va_uu]
    refine m_if_eq (t := 146) dX8_term_124 (by decide) (fun c124 => ?_) (fun c124 => ?_)
    · refine m_iload dX8_term_146 rfl ?_
      refine m_iload_n dX8_term_148 rfl ?_
      refine m_icmp_lt (t := 165) dX8_term_149 (by decide) (fun c149 => ?_) (fun c149 => ?_)
      rotate_left
      · refine m_aload_n dX8_term_152 rfl ?_
        refine m_iload dX8_term_153 rfl ?_
        refine m_putfield dX8_term_155 fl_X8_226 (by first | assumption | rfl | exact va_up_self _ _ _ | exact (va_up_ne _ _ (by decide)).trans h3) (fun _ => rfl) (fun _ => rfl) ?_
        try rw [va_uu]
        rw [oMod_26]
        refine m_aload_n dX8_term_158 rfl ?_
        refine m_iconst (v := 1) dX8_term_159 (by decide) ?_
        refine m_putfield dX8_term_160 fl_X8_241 (by first | assumption | rfl | exact va_up_self _ _ _ | exact (va_up_ne _ _ (by decide)).trans h3) (fun _ => rfl) (fun _ => rfl) ?_
        try rw [va_uu]
        rw [oMod_27]
        refine m_iconst (v := 0) dX8_term_163 (by decide) ?_
        exact m_ireturn hF dX8_term_164 rfl rfl rfl ⟨by have eT : cTerm TP z p = (1, 1, 1, skipB TP z (skipB TP z p + 1)) := (by rw [cTerm_nd c24, if_pos c63, cPow_M, if_pos c124]); have mT : mTm TP z p w sg la fa RD = _ := mTm_bad eT (show ¬ nI 1 < la from c149); rw [mT], by have eT : cTerm TP z p = (1, 1, 1, skipB TP z (skipB TP z p + 1)) := (by rw [cTerm_nd c24, if_pos c63, cPow_M, if_pos c124]); have mT : mTm TP z p w sg la fa RD = _ := mTm_bad eT (show ¬ nI 1 < la from c149); rw [mT]; rw [va_uid hp h3]⟩
      refine m_aload_n dX8_term_165 rfl ?_
      refine m_getfield dX8_term_166 fl_X8_63 (by first | assumption | rfl | exact va_up_self _ _ _ | exact (va_up_ne _ _ (by decide)).trans h3) (by first | assumption | rfl | exact va_up_self _ _ _ | exact (va_up_ne _ _ (by decide)).trans h3) ?_
      show mW _ _ _ _ _ _ _ _ (.ref _ :: _)
      refine m_iconst (v := 5) dX8_term_169 (by decide) ?_
      refine m_iload_n dX8_term_170 rfl ?_
      refine m_imul dX8_term_171 ?_
      refine m_ci (v := nI (5 * w)) (nI_mulN 5 w) ?_
      refine m_iload dX8_term_172 rfl ?_
      refine m_iadd dX8_term_174 ?_
      refine m_ci (v := nI (5 * w + 1)) (by exact nI_add (5 * w) 1) ?_
      refine m_iload_n dX8_term_175 rfl ?_
      refine m_iload dX8_term_176 rfl ?_
      refine m_imul dX8_term_178 ?_
      refine m_iastore dX8_term_179 (by first | assumption | rfl | exact va_up_self _ _ _ | exact (va_up_ne _ _ (by decide)).trans h3) (mIx_lit (show 5 * w + 1 < 10 by first | omega | (have := (digN_of (l := ltrM TP z (skipB TP z p + 1)) (a := 50) (b := 52) (fun q => c124 ((in32_iff (A := 50) (B := 52) (by decide) (by decide)).mpr (Or.inl q))) (fun q => c124 ((in32_iff (A := 50) (B := 52) (by decide) (by decide)).mpr (Or.inr q))) (by decide) (by decide)).2; have h52 : ¬ 52 < ltrM TP z (skipB TP z p + 1) := fun q => c124 ((in32_iff (A := 50) (B := 52) (by decide) (by decide)).mpr (Or.inr q)); rw [Int32.lt_iff_toInt_lt, show (52 : Int32).toInt = 52 by decide] at h52; omega)) (by decide)) ?_
      try rw [va_uu]
      refine m_iload dX8_term_180 rfl ?_
      exact m_ireturn hF dX8_term_182 rfl rfl rfl ⟨by have eT : cTerm TP z p = (1, 1, 1, skipB TP z (skipB TP z p + 1)) := (by rw [cTerm_nd c24, if_pos c63, cPow_M, if_pos c124]); have mT : mTm TP z p w sg la fa RD = _ := mTm_ok eT (show nI 1 < la from c149); rw [mT] <;> rfl, by have eT : cTerm TP z p = (1, 1, 1, skipB TP z (skipB TP z p + 1)) := (by rw [cTerm_nd c24, if_pos c63, cPow_M, if_pos c124]); have mT : mTm TP z p w sg la fa RD = _ := mTm_ok eT (show nI 1 < la from c149); rw [mT]; exact va_uc _ _ _ (by decide)⟩
    refine m_aload_n dX8_term_127 rfl ?_
    refine m_invV_I dX8_term_128 lk_X8_229 ar_X8_looks (ci := 8) rfl rfl (by first | assumption | rfl | exact va_up_self _ _ _ | exact (va_up_ne _ _ (by decide)).trans h3) (t_X8_looks (by first | assumption | exact va_up_self _ _ _) (by first | assumption | exact (va_up_ne _ _ (by decide)).trans h2) hz (by first | omega | (have := skipB_z (LT := TP) hpz; omega))) rfl (Nat.le_of_ble_eq_true rfl) (by decide) (by decide) (by decide) (by decide) rfl rfl ?_
    try rw [va_uu]
    rw [ltrM_idem, skipB_idem]
    refine m_bipush (v := 48) dX8_term_131 (by decide) ?_
    refine m_isub dX8_term_133 ?_
    refine m_ci (v := nI (digN (ltrM TP z (skipB TP z p + 1)))) (digN_of (a := 50) (b := 52) (fun q => c124 ((in32_iff (A := 50) (B := 52) (by decide) (by decide)).mpr (Or.inl q))) (fun q => c124 ((in32_iff (A := 50) (B := 52) (by decide) (by decide)).mpr (Or.inr q))) (by decide) (by decide)).1 ?_
    refine m_istore dX8_term_134 (by decide) ?_
    show mW _ _ _ _ _ _ 136 [_, _, _, _, _, _, _, _, _, _] _
    refine m_aload_n dX8_term_136 rfl ?_
    refine m_dup dX8_term_137 rfl ?_
    refine m_getfield dX8_term_138 fl_X8_226 (by first | assumption | rfl | exact va_up_self _ _ _ | exact (va_up_ne _ _ (by decide)).trans h3) (by first | assumption | rfl | exact va_up_self _ _ _ | exact (va_up_ne _ _ (by decide)).trans h3) ?_
    show mW _ _ _ _ _ _ _ _ (.int _ :: _)
    refine m_iconst (v := 1) dX8_term_141 (by decide) ?_
    refine m_iadd dX8_term_142 ?_
    refine m_ci (v := nI (skipB TP z (skipB TP z p + 1) + 1)) (nI_add _ 1) ?_
    refine m_putfield dX8_term_143 fl_X8_226 (by first | assumption | rfl | exact va_up_self _ _ _ | exact (va_up_ne _ _ (by decide)).trans h3) (fun _ => rfl) (fun _ => rfl) ?_
    try rw [va_uu]
    rw [oMod_26]
    refine m_iload dX8_term_146 rfl ?_
    refine m_iload_n dX8_term_148 rfl ?_
    refine m_icmp_lt (t := 165) dX8_term_149 (by decide) (fun c149 => ?_) (fun c149 => ?_)
    rotate_left
    · refine m_aload_n dX8_term_152 rfl ?_
      refine m_iload dX8_term_153 rfl ?_
      refine m_putfield dX8_term_155 fl_X8_226 (by first | assumption | rfl | exact va_up_self _ _ _ | exact (va_up_ne _ _ (by decide)).trans h3) (fun _ => rfl) (fun _ => rfl) ?_
      try rw [va_uu]
      rw [oMod_26]
      refine m_aload_n dX8_term_158 rfl ?_
      refine m_iconst (v := 1) dX8_term_159 (by decide) ?_
      refine m_putfield dX8_term_160 fl_X8_241 (by first | assumption | rfl | exact va_up_self _ _ _ | exact (va_up_ne _ _ (by decide)).trans h3) (fun _ => rfl) (fun _ => rfl) ?_
      try rw [va_uu]
      rw [oMod_27]
      refine m_iconst (v := 0) dX8_term_163 (by decide) ?_
      exact m_ireturn hF dX8_term_164 rfl rfl rfl ⟨by have eT : cTerm TP z p = (1, 1, digN (ltrM TP z (skipB TP z p + 1)), skipB TP z (skipB TP z p + 1) + 1) := (by rw [cTerm_nd c24, if_pos c63, cPow_M, if_neg c124]); have mT : mTm TP z p w sg la fa RD = _ := mTm_bad eT (show ¬ nI (digN (ltrM TP z (skipB TP z p + 1))) < la from c149); rw [mT], by have eT : cTerm TP z p = (1, 1, digN (ltrM TP z (skipB TP z p + 1)), skipB TP z (skipB TP z p + 1) + 1) := (by rw [cTerm_nd c24, if_pos c63, cPow_M, if_neg c124]); have mT : mTm TP z p w sg la fa RD = _ := mTm_bad eT (show ¬ nI (digN (ltrM TP z (skipB TP z p + 1))) < la from c149); rw [mT]; rw [va_uid hp h3]⟩
    refine m_aload_n dX8_term_165 rfl ?_
    refine m_getfield dX8_term_166 fl_X8_63 (by first | assumption | rfl | exact va_up_self _ _ _ | exact (va_up_ne _ _ (by decide)).trans h3) (by first | assumption | rfl | exact va_up_self _ _ _ | exact (va_up_ne _ _ (by decide)).trans h3) ?_
    show mW _ _ _ _ _ _ _ _ (.ref _ :: _)
    refine m_iconst (v := 5) dX8_term_169 (by decide) ?_
    refine m_iload_n dX8_term_170 rfl ?_
    refine m_imul dX8_term_171 ?_
    refine m_ci (v := nI (5 * w)) (nI_mulN 5 w) ?_
    refine m_iload dX8_term_172 rfl ?_
    refine m_iadd dX8_term_174 ?_
    refine m_ci (v := nI (5 * w + (digN (ltrM TP z (skipB TP z p + 1))))) (by exact nI_add (5 * w) (digN (ltrM TP z (skipB TP z p + 1)))) ?_
    refine m_iload_n dX8_term_175 rfl ?_
    refine m_iload dX8_term_176 rfl ?_
    refine m_imul dX8_term_178 ?_
    refine m_iastore dX8_term_179 (by first | assumption | rfl | exact va_up_self _ _ _ | exact (va_up_ne _ _ (by decide)).trans h3) (mIx_lit (show 5 * w + (digN (ltrM TP z (skipB TP z p + 1))) < 10 by first | omega | (have := (digN_of (l := ltrM TP z (skipB TP z p + 1)) (a := 50) (b := 52) (fun q => c124 ((in32_iff (A := 50) (B := 52) (by decide) (by decide)).mpr (Or.inl q))) (fun q => c124 ((in32_iff (A := 50) (B := 52) (by decide) (by decide)).mpr (Or.inr q))) (by decide) (by decide)).2; have h52 : ¬ 52 < ltrM TP z (skipB TP z p + 1) := fun q => c124 ((in32_iff (A := 50) (B := 52) (by decide) (by decide)).mpr (Or.inr q)); rw [Int32.lt_iff_toInt_lt, show (52 : Int32).toInt = 52 by decide] at h52; omega)) (by decide)) ?_
    try rw [va_uu]
    refine m_iload dX8_term_180 rfl ?_
    exact m_ireturn hF dX8_term_182 rfl rfl rfl ⟨by have eT : cTerm TP z p = (1, 1, digN (ltrM TP z (skipB TP z p + 1)), skipB TP z (skipB TP z p + 1) + 1) := (by rw [cTerm_nd c24, if_pos c63, cPow_M, if_neg c124]); have mT : mTm TP z p w sg la fa RD = _ := mTm_ok eT (show nI (digN (ltrM TP z (skipB TP z p + 1))) < la from c149); rw [mT] <;> rfl, by have eT : cTerm TP z p = (1, 1, digN (ltrM TP z (skipB TP z p + 1)), skipB TP z (skipB TP z p + 1) + 1) := (by rw [cTerm_nd c24, if_pos c63, cPow_M, if_neg c124]); have mT : mTm TP z p w sg la fa RD = _ := mTm_ok eT (show nI (digN (ltrM TP z (skipB TP z p + 1))) < la from c149); rw [mT]; exact va_uc _ _ _ (by decide)⟩
  have hd := cTerm_d c24
  have z1 := skipB_z (LT := TP) (z := z) (p := skipB TP z p + 1) (by omega)
  refine m_iload dX8_term_27 rfl ?_
  refine m_bipush (v := 48) dX8_term_29 (by decide) ?_
  refine m_isub dX8_term_31 ?_
  refine m_goto (t := 36) dX8_term_32 (by decide) ?_
  refine m_ci (v := nI (digN (ltrM TP z p))) hd.2.2 ?_
  refine m_istore dX8_term_36 (by decide) ?_
  show mW _ _ _ _ _ _ 38 [_, _, _, _, _, _, _, _, _, _] _
  refine m_aload_n dX8_term_38 rfl ?_
  refine m_iload dX8_term_39 rfl ?_
  refine m_i2l dX8_term_41 ?_
  refine m_ldc2 dX8_term_42 cl_X8_233 ?_
  refine m_ldc2 dX8_term_45 cl_X8_235 ?_
  refine m_invS_I dX8_term_48 lk_X8_141 ar_X8_in (t_X8_in) rfl (Nat.le_of_ble_eq_true rfl) (by decide) (by decide) (by decide) (by decide) rfl rfl ?_
  try rw [va_uu]
  refine m_invV_I dX8_term_51 lk_X8_237 ar_X8_goesBy (ci := 8) rfl rfl (by first | assumption | rfl | exact va_up_self _ _ _ | exact (va_up_ne _ _ (by decide)).trans h3) (t_X8_goesBy (va_up_self _ _ _) inI_b) rfl (Nat.le_of_ble_eq_true rfl) (by decide) (by decide) (by decide) (by decide) rfl rfl ?_
  try rw [va_uu]
  rw [if_neg c24]
  refine m_ci (v := 1) (inI_b.resolve_left c24) ?_
  refine m_istore dX8_term_54 (by decide) ?_
  show mW _ _ _ _ _ _ 56 [_, _, _, _, _, _, _, _, _, _] _
  refine m_aload_n dX8_term_56 rfl ?_
  refine m_aload_n dX8_term_57 rfl ?_
  refine m_invV_I dX8_term_58 lk_X8_229 ar_X8_looks (ci := 8) rfl rfl (by first | assumption | rfl | exact va_up_self _ _ _ | exact (va_up_ne _ _ (by decide)).trans h3) (t_X8_looks (by first | assumption | exact va_up_self _ _ _) (by first | assumption | exact (va_up_ne _ _ (by decide)).trans h2) hz (by first | omega | (have := skipB_z (LT := TP) hpz; omega))) rfl (Nat.le_of_ble_eq_true rfl) (by decide) (by decide) (by decide) (by decide) rfl rfl ?_
  try rw [va_uu]
  skip
  refine m_bipush (v := 115) dX8_term_61 (by decide) ?_
  refine m_icmp_ne (t := 70) dX8_term_63 (by decide) (fun c63 => ?_) (fun c63 => ?_)
  · refine m_iconst (v := 0) dX8_term_70 (by decide) ?_
    refine m_invV_I dX8_term_71 lk_X8_237 ar_X8_goesBy (ci := 8) rfl rfl (by first | assumption | rfl | exact va_up_self _ _ _ | exact (va_up_ne _ _ (by decide)).trans h3) (t_X8_goesBy (va_up_self _ _ _) (by decide)) rfl (Nat.le_of_ble_eq_true rfl) (by decide) (by decide) (by decide) (by decide) rfl rfl ?_
    try rw [va_uu]
    rw [if_pos rfl]
    refine m_istore dX8_term_74 (by decide) ?_
    show mW _ _ _ _ _ _ 76 [_, _, _, _, _, _, _, _, _, _] _
    refine m_iload dX8_term_76 rfl ?_
    refine m_if_ne (t := 93) dX8_term_78 (by decide) (fun _ => ?_) (fun q => absurd q (by decide))
    refine m_iload dX8_term_93 rfl ?_
    refine m_if_eq (t := 102) dX8_term_95 (by decide) (fun _ => ?_) (fun q => absurd (by decide) q)
    refine m_iconst (v := 0) dX8_term_102 (by decide) ?_
    refine m_istore dX8_term_103 (by decide) ?_
    show mW _ _ _ _ _ _ 105 [_, _, _, _, _, _, _, _, _, _] _
    refine m_iload dX8_term_105 rfl ?_
    refine m_if_eq (t := 146) dX8_term_107 (by decide) (fun _ => ?_) (fun q => absurd (by decide) q)
    refine m_iload dX8_term_146 rfl ?_
    refine m_iload_n dX8_term_148 rfl ?_
    refine m_icmp_lt (t := 165) dX8_term_149 (by decide) (fun c149 => ?_) (fun c149 => ?_)
    rotate_left
    · refine m_aload_n dX8_term_152 rfl ?_
      refine m_iload dX8_term_153 rfl ?_
      refine m_putfield dX8_term_155 fl_X8_226 (by first | assumption | rfl | exact va_up_self _ _ _ | exact (va_up_ne _ _ (by decide)).trans h3) (fun _ => rfl) (fun _ => rfl) ?_
      try rw [va_uu]
      rw [oMod_26]
      refine m_aload_n dX8_term_158 rfl ?_
      refine m_iconst (v := 1) dX8_term_159 (by decide) ?_
      refine m_putfield dX8_term_160 fl_X8_241 (by first | assumption | rfl | exact va_up_self _ _ _ | exact (va_up_ne _ _ (by decide)).trans h3) (fun _ => rfl) (fun _ => rfl) ?_
      try rw [va_uu]
      rw [oMod_27]
      refine m_iconst (v := 0) dX8_term_163 (by decide) ?_
      exact m_ireturn hF dX8_term_164 rfl rfl rfl ⟨by have eT : cTerm TP z p = (1, nI (digN (ltrM TP z p)), 0, skipB TP z (skipB TP z p + 1)) := (by rw [hd.1, if_neg c63]); have mT : mTm TP z p w sg la fa RD = _ := mTm_bad eT (show ¬ nI 0 < la from c149); rw [mT], by have eT : cTerm TP z p = (1, nI (digN (ltrM TP z p)), 0, skipB TP z (skipB TP z p + 1)) := (by rw [hd.1, if_neg c63]); have mT : mTm TP z p w sg la fa RD = _ := mTm_bad eT (show ¬ nI 0 < la from c149); rw [mT]; rw [va_uid hp h3]⟩
    refine m_aload_n dX8_term_165 rfl ?_
    refine m_getfield dX8_term_166 fl_X8_63 (by first | assumption | rfl | exact va_up_self _ _ _ | exact (va_up_ne _ _ (by decide)).trans h3) (by first | assumption | rfl | exact va_up_self _ _ _ | exact (va_up_ne _ _ (by decide)).trans h3) ?_
    show mW _ _ _ _ _ _ _ _ (.ref _ :: _)
    refine m_iconst (v := 5) dX8_term_169 (by decide) ?_
    refine m_iload_n dX8_term_170 rfl ?_
    refine m_imul dX8_term_171 ?_
    refine m_ci (v := nI (5 * w)) (nI_mulN 5 w) ?_
    refine m_iload dX8_term_172 rfl ?_
    refine m_iadd dX8_term_174 ?_
    refine m_ci (v := nI (5 * w + 0)) (by exact nI_add (5 * w) 0) ?_
    refine m_iload_n dX8_term_175 rfl ?_
    refine m_iload dX8_term_176 rfl ?_
    refine m_imul dX8_term_178 ?_
    refine m_iastore dX8_term_179 (by first | assumption | rfl | exact va_up_self _ _ _ | exact (va_up_ne _ _ (by decide)).trans h3) (mIx_lit (show 5 * w + 0 < 10 by first | omega | (have := (digN_of (l := ltrM TP z (skipB TP z (skipB TP z p + 1) + 1)) (a := 50) (b := 52) (fun q => c124 ((in32_iff (A := 50) (B := 52) (by decide) (by decide)).mpr (Or.inl q))) (fun q => c124 ((in32_iff (A := 50) (B := 52) (by decide) (by decide)).mpr (Or.inr q))) (by decide) (by decide)).2; have h52 : ¬ 52 < ltrM TP z (skipB TP z (skipB TP z p + 1) + 1) := fun q => c124 ((in32_iff (A := 50) (B := 52) (by decide) (by decide)).mpr (Or.inr q)); rw [Int32.lt_iff_toInt_lt, show (52 : Int32).toInt = 52 by decide] at h52; omega)) (by decide)) ?_
    try rw [va_uu]
    refine m_iload dX8_term_180 rfl ?_
    exact m_ireturn hF dX8_term_182 rfl rfl rfl ⟨by have eT : cTerm TP z p = (1, nI (digN (ltrM TP z p)), 0, skipB TP z (skipB TP z p + 1)) := (by rw [hd.1, if_neg c63]); have mT : mTm TP z p w sg la fa RD = _ := mTm_ok eT (show nI 0 < la from c149); rw [mT] <;> rfl, by have eT : cTerm TP z p = (1, nI (digN (ltrM TP z p)), 0, skipB TP z (skipB TP z p + 1)) := (by rw [hd.1, if_neg c63]); have mT : mTm TP z p w sg la fa RD = _ := mTm_ok eT (show nI 0 < la from c149); rw [mT]; exact va_uc _ _ _ (by decide)⟩
  have s9 : skipB TP z (skipB TP z p + 1) < z := (ltrMB_ge (a := 115) (by rw [c63]; decide) (by decide)).2
  refine m_iconst (v := 1) dX8_term_66 (by decide) ?_
  refine m_goto (t := 71) dX8_term_67 (by decide) ?_
  refine m_invV_I dX8_term_71 lk_X8_237 ar_X8_goesBy (ci := 8) rfl rfl (by first | assumption | rfl | exact va_up_self _ _ _ | exact (va_up_ne _ _ (by decide)).trans h3) (t_X8_goesBy (va_up_self _ _ _) (by decide)) rfl (Nat.le_of_ble_eq_true rfl) (by decide) (by decide) (by decide) (by decide) rfl rfl ?_
  try rw [va_uu]
  rw [if_neg (by decide)]
  refine m_istore dX8_term_74 (by decide) ?_
  show mW _ _ _ _ _ _ 76 [_, _, _, _, _, _, _, _, _, _] _
  refine m_iload dX8_term_76 rfl ?_
  refine m_if_ne (t := 93) dX8_term_78 (by decide) (fun _ => ?_) (fun q => absurd q (by decide))
  refine m_iload dX8_term_93 rfl ?_
  refine m_if_eq (t := 102) dX8_term_95 (by decide) (fun q => absurd q (by decide)) (fun _ => ?_)
  refine m_iconst (v := 1) dX8_term_98 (by decide) ?_
  refine m_goto (t := 103) dX8_term_99 (by decide) ?_
  refine m_istore dX8_term_103 (by decide) ?_
  show mW _ _ _ _ _ _ 105 [_, _, _, _, _, _, _, _, _, _] _
  refine m_iload dX8_term_105 rfl ?_
  refine m_if_eq (t := 146) dX8_term_107 (by decide) (fun q => absurd q (by decide)) (fun _ => ?_)
  have z2 := skipB_z (LT := TP) (z := z) (p := (skipB TP z (skipB TP z p + 1) + 1)) (by omega)
  refine m_aload_n dX8_term_110 rfl ?_
  refine m_invV_I dX8_term_111 lk_X8_229 ar_X8_looks (ci := 8) rfl rfl (by first | assumption | rfl | exact va_up_self _ _ _ | exact (va_up_ne _ _ (by decide)).trans h3) (t_X8_looks (by first | assumption | exact va_up_self _ _ _) (by first | assumption | exact (va_up_ne _ _ (by decide)).trans h2) hz (by first | omega | (have := skipB_z (LT := TP) hpz; omega))) rfl (Nat.le_of_ble_eq_true rfl) (by decide) (by decide) (by decide) (by decide) rfl rfl ?_
  try rw [va_uu]
  refine m_i2l dX8_term_114 ?_
  refine m_ldc2 dX8_term_115 cl_X8_245 ?_
  refine m_ldc2 dX8_term_118 cl_X8_247 ?_
  refine m_invS_I dX8_term_121 lk_X8_141 ar_X8_in (t_X8_in) rfl (Nat.le_of_ble_eq_true rfl) (by decide) (by decide) (by decide) (by decide) rfl rfl ?_
  try rw [va_uu]
  refine m_if_eq (t := 146) dX8_term_124 (by decide) (fun c124 => ?_) (fun c124 => ?_)
  · refine m_iload dX8_term_146 rfl ?_
    refine m_iload_n dX8_term_148 rfl ?_
    refine m_icmp_lt (t := 165) dX8_term_149 (by decide) (fun c149 => ?_) (fun c149 => ?_)
    rotate_left
    · refine m_aload_n dX8_term_152 rfl ?_
      refine m_iload dX8_term_153 rfl ?_
      refine m_putfield dX8_term_155 fl_X8_226 (by first | assumption | rfl | exact va_up_self _ _ _ | exact (va_up_ne _ _ (by decide)).trans h3) (fun _ => rfl) (fun _ => rfl) ?_
      try rw [va_uu]
      rw [oMod_26]
      refine m_aload_n dX8_term_158 rfl ?_
      refine m_iconst (v := 1) dX8_term_159 (by decide) ?_
      refine m_putfield dX8_term_160 fl_X8_241 (by first | assumption | rfl | exact va_up_self _ _ _ | exact (va_up_ne _ _ (by decide)).trans h3) (fun _ => rfl) (fun _ => rfl) ?_
      try rw [va_uu]
      rw [oMod_27]
      refine m_iconst (v := 0) dX8_term_163 (by decide) ?_
      exact m_ireturn hF dX8_term_164 rfl rfl rfl ⟨by have eT : cTerm TP z p = (1, nI (digN (ltrM TP z p)), 1, skipB TP z (skipB TP z (skipB TP z p + 1) + 1)) := (by rw [hd.1, if_pos c63, cPow_M, if_pos c124]); have mT : mTm TP z p w sg la fa RD = _ := mTm_bad eT (show ¬ nI 1 < la from c149); rw [mT], by have eT : cTerm TP z p = (1, nI (digN (ltrM TP z p)), 1, skipB TP z (skipB TP z (skipB TP z p + 1) + 1)) := (by rw [hd.1, if_pos c63, cPow_M, if_pos c124]); have mT : mTm TP z p w sg la fa RD = _ := mTm_bad eT (show ¬ nI 1 < la from c149); rw [mT]; rw [va_uid hp h3]⟩
    refine m_aload_n dX8_term_165 rfl ?_
    refine m_getfield dX8_term_166 fl_X8_63 (by first | assumption | rfl | exact va_up_self _ _ _ | exact (va_up_ne _ _ (by decide)).trans h3) (by first | assumption | rfl | exact va_up_self _ _ _ | exact (va_up_ne _ _ (by decide)).trans h3) ?_
    show mW _ _ _ _ _ _ _ _ (.ref _ :: _)
    refine m_iconst (v := 5) dX8_term_169 (by decide) ?_
    refine m_iload_n dX8_term_170 rfl ?_
    refine m_imul dX8_term_171 ?_
    refine m_ci (v := nI (5 * w)) (nI_mulN 5 w) ?_
    refine m_iload dX8_term_172 rfl ?_
    refine m_iadd dX8_term_174 ?_
    refine m_ci (v := nI (5 * w + 1)) (by exact nI_add (5 * w) 1) ?_
    refine m_iload_n dX8_term_175 rfl ?_
    refine m_iload dX8_term_176 rfl ?_
    refine m_imul dX8_term_178 ?_
    refine m_iastore dX8_term_179 (by first | assumption | rfl | exact va_up_self _ _ _ | exact (va_up_ne _ _ (by decide)).trans h3) (mIx_lit (show 5 * w + 1 < 10 by first | omega | (have := (digN_of (l := ltrM TP z (skipB TP z (skipB TP z p + 1) + 1)) (a := 50) (b := 52) (fun q => c124 ((in32_iff (A := 50) (B := 52) (by decide) (by decide)).mpr (Or.inl q))) (fun q => c124 ((in32_iff (A := 50) (B := 52) (by decide) (by decide)).mpr (Or.inr q))) (by decide) (by decide)).2; have h52 : ¬ 52 < ltrM TP z (skipB TP z (skipB TP z p + 1) + 1) := fun q => c124 ((in32_iff (A := 50) (B := 52) (by decide) (by decide)).mpr (Or.inr q)); rw [Int32.lt_iff_toInt_lt, show (52 : Int32).toInt = 52 by decide] at h52; omega)) (by decide)) ?_
    try rw [va_uu]
    refine m_iload dX8_term_180 rfl ?_
    exact m_ireturn hF dX8_term_182 rfl rfl rfl ⟨by have eT : cTerm TP z p = (1, nI (digN (ltrM TP z p)), 1, skipB TP z (skipB TP z (skipB TP z p + 1) + 1)) := (by rw [hd.1, if_pos c63, cPow_M, if_pos c124]); have mT : mTm TP z p w sg la fa RD = _ := mTm_ok eT (show nI 1 < la from c149); rw [mT] <;> rfl, by have eT : cTerm TP z p = (1, nI (digN (ltrM TP z p)), 1, skipB TP z (skipB TP z (skipB TP z p + 1) + 1)) := (by rw [hd.1, if_pos c63, cPow_M, if_pos c124]); have mT : mTm TP z p w sg la fa RD = _ := mTm_ok eT (show nI 1 < la from c149); rw [mT]; exact va_uc _ _ _ (by decide)⟩
  refine m_aload_n dX8_term_127 rfl ?_
  refine m_invV_I dX8_term_128 lk_X8_229 ar_X8_looks (ci := 8) rfl rfl (by first | assumption | rfl | exact va_up_self _ _ _ | exact (va_up_ne _ _ (by decide)).trans h3) (t_X8_looks (by first | assumption | exact va_up_self _ _ _) (by first | assumption | exact (va_up_ne _ _ (by decide)).trans h2) hz (by first | omega | (have := skipB_z (LT := TP) hpz; omega))) rfl (Nat.le_of_ble_eq_true rfl) (by decide) (by decide) (by decide) (by decide) rfl rfl ?_
  try rw [va_uu]
  rw [ltrM_idem, skipB_idem]
  refine m_bipush (v := 48) dX8_term_131 (by decide) ?_
  refine m_isub dX8_term_133 ?_
  refine m_ci (v := nI (digN (ltrM TP z (skipB TP z (skipB TP z p + 1) + 1)))) (digN_of (a := 50) (b := 52) (fun q => c124 ((in32_iff (A := 50) (B := 52) (by decide) (by decide)).mpr (Or.inl q))) (fun q => c124 ((in32_iff (A := 50) (B := 52) (by decide) (by decide)).mpr (Or.inr q))) (by decide) (by decide)).1 ?_
  refine m_istore dX8_term_134 (by decide) ?_
  show mW _ _ _ _ _ _ 136 [_, _, _, _, _, _, _, _, _, _] _
  refine m_aload_n dX8_term_136 rfl ?_
  refine m_dup dX8_term_137 rfl ?_
  refine m_getfield dX8_term_138 fl_X8_226 (by first | assumption | rfl | exact va_up_self _ _ _ | exact (va_up_ne _ _ (by decide)).trans h3) (by first | assumption | rfl | exact va_up_self _ _ _ | exact (va_up_ne _ _ (by decide)).trans h3) ?_
  show mW _ _ _ _ _ _ _ _ (.int _ :: _)
  refine m_iconst (v := 1) dX8_term_141 (by decide) ?_
  refine m_iadd dX8_term_142 ?_
  refine m_ci (v := nI (skipB TP z (skipB TP z (skipB TP z p + 1) + 1) + 1)) (nI_add _ 1) ?_
  refine m_putfield dX8_term_143 fl_X8_226 (by first | assumption | rfl | exact va_up_self _ _ _ | exact (va_up_ne _ _ (by decide)).trans h3) (fun _ => rfl) (fun _ => rfl) ?_
  try rw [va_uu]
  rw [oMod_26]
  refine m_iload dX8_term_146 rfl ?_
  refine m_iload_n dX8_term_148 rfl ?_
  refine m_icmp_lt (t := 165) dX8_term_149 (by decide) (fun c149 => ?_) (fun c149 => ?_)
  rotate_left
  · refine m_aload_n dX8_term_152 rfl ?_
    refine m_iload dX8_term_153 rfl ?_
    refine m_putfield dX8_term_155 fl_X8_226 (by first | assumption | rfl | exact va_up_self _ _ _ | exact (va_up_ne _ _ (by decide)).trans h3) (fun _ => rfl) (fun _ => rfl) ?_
    try rw [va_uu]
    rw [oMod_26]
    refine m_aload_n dX8_term_158 rfl ?_
    refine m_iconst (v := 1) dX8_term_159 (by decide) ?_
    refine m_putfield dX8_term_160 fl_X8_241 (by first | assumption | rfl | exact va_up_self _ _ _ | exact (va_up_ne _ _ (by decide)).trans h3) (fun _ => rfl) (fun _ => rfl) ?_
    try rw [va_uu]
    rw [oMod_27]
    refine m_iconst (v := 0) dX8_term_163 (by decide) ?_
    exact m_ireturn hF dX8_term_164 rfl rfl rfl ⟨by have eT : cTerm TP z p = (1, nI (digN (ltrM TP z p)), digN (ltrM TP z (skipB TP z (skipB TP z p + 1) + 1)), skipB TP z (skipB TP z (skipB TP z p + 1) + 1) + 1) := (by rw [hd.1, if_pos c63, cPow_M, if_neg c124]); have mT : mTm TP z p w sg la fa RD = _ := mTm_bad eT (show ¬ nI (digN (ltrM TP z (skipB TP z (skipB TP z p + 1) + 1))) < la from c149); rw [mT], by have eT : cTerm TP z p = (1, nI (digN (ltrM TP z p)), digN (ltrM TP z (skipB TP z (skipB TP z p + 1) + 1)), skipB TP z (skipB TP z (skipB TP z p + 1) + 1) + 1) := (by rw [hd.1, if_pos c63, cPow_M, if_neg c124]); have mT : mTm TP z p w sg la fa RD = _ := mTm_bad eT (show ¬ nI (digN (ltrM TP z (skipB TP z (skipB TP z p + 1) + 1))) < la from c149); rw [mT]; rw [va_uid hp h3]⟩
  refine m_aload_n dX8_term_165 rfl ?_
  refine m_getfield dX8_term_166 fl_X8_63 (by first | assumption | rfl | exact va_up_self _ _ _ | exact (va_up_ne _ _ (by decide)).trans h3) (by first | assumption | rfl | exact va_up_self _ _ _ | exact (va_up_ne _ _ (by decide)).trans h3) ?_
  show mW _ _ _ _ _ _ _ _ (.ref _ :: _)
  refine m_iconst (v := 5) dX8_term_169 (by decide) ?_
  refine m_iload_n dX8_term_170 rfl ?_
  refine m_imul dX8_term_171 ?_
  refine m_ci (v := nI (5 * w)) (nI_mulN 5 w) ?_
  refine m_iload dX8_term_172 rfl ?_
  refine m_iadd dX8_term_174 ?_
  refine m_ci (v := nI (5 * w + (digN (ltrM TP z (skipB TP z (skipB TP z p + 1) + 1))))) (by exact nI_add (5 * w) (digN (ltrM TP z (skipB TP z (skipB TP z p + 1) + 1)))) ?_
  refine m_iload_n dX8_term_175 rfl ?_
  refine m_iload dX8_term_176 rfl ?_
  refine m_imul dX8_term_178 ?_
  refine m_iastore dX8_term_179 (by first | assumption | rfl | exact va_up_self _ _ _ | exact (va_up_ne _ _ (by decide)).trans h3) (mIx_lit (show 5 * w + (digN (ltrM TP z (skipB TP z (skipB TP z p + 1) + 1))) < 10 by first | omega | (have := (digN_of (l := ltrM TP z (skipB TP z (skipB TP z p + 1) + 1)) (a := 50) (b := 52) (fun q => c124 ((in32_iff (A := 50) (B := 52) (by decide) (by decide)).mpr (Or.inl q))) (fun q => c124 ((in32_iff (A := 50) (B := 52) (by decide) (by decide)).mpr (Or.inr q))) (by decide) (by decide)).2; have h52 : ¬ 52 < ltrM TP z (skipB TP z (skipB TP z p + 1) + 1) := fun q => c124 ((in32_iff (A := 50) (B := 52) (by decide) (by decide)).mpr (Or.inr q)); rw [Int32.lt_iff_toInt_lt, show (52 : Int32).toInt = 52 by decide] at h52; omega)) (by decide)) ?_
  try rw [va_uu]
  refine m_iload dX8_term_180 rfl ?_
  exact m_ireturn hF dX8_term_182 rfl rfl rfl ⟨by have eT : cTerm TP z p = (1, nI (digN (ltrM TP z p)), digN (ltrM TP z (skipB TP z (skipB TP z p + 1) + 1)), skipB TP z (skipB TP z (skipB TP z p + 1) + 1) + 1) := (by rw [hd.1, if_pos c63, cPow_M, if_neg c124]); have mT : mTm TP z p w sg la fa RD = _ := mTm_ok eT (show nI (digN (ltrM TP z (skipB TP z (skipB TP z p + 1) + 1))) < la from c149); rw [mT] <;> rfl, by have eT : cTerm TP z p = (1, nI (digN (ltrM TP z p)), digN (ltrM TP z (skipB TP z (skipB TP z p + 1) + 1)), skipB TP z (skipB TP z (skipB TP z p + 1) + 1) + 1) := (by rw [hd.1, if_pos c63, cPow_M, if_neg c124]); have mT : mTm TP z p w sg la fa RD = _ := mTm_ok eT (show nI (digN (ltrM TP z (skipB TP z (skipB TP z p + 1) + 1))) < la from c149); rw [mT]; exact va_uc _ _ _ (by decide)⟩

