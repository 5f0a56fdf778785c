/-! ===== the reference: its reader ===== -/
def ltrM (TP : Nat → Int32) (z p : Nat) : Int32 := if skipB TP z p < z then TP (skipB TP z p) else 0
set_option maxHeartbeats 400000 in
set_option maxRecDepth 100000 in
theorem l_X8_looks {n : Nat} {hp : mHp} {TP : Nat → Int32} {z p : Nat} {ac ia ri ev le ch ls rm sm fa : Int32} (h1 : hp 67 = eO 8 (oMod ac ia (nI z) ri ev le ch ls rm sm (nI p) fa)) (h2 : hp 72 = eI 60 TP) (hz : z ≤ 60) (hpz : p ≤ z) {K : mK} (hF : mFin K D_X8_looks n (rI (ltrM TP z p) (va_up hp 67 (eO 8 (oMod ac ia (nI z) ri ev le ch ls rm sm (nI (skipB TP z p)) fa))))) : ∀ m r : Nat, r ≤ z → z + 1 ≤ r + m → skipB TP z r = skipB TP z p → mW K D_X8_looks 0 0 n (va_up hp 67 (eO 8 (oMod ac ia (nI z) ri ev le ch ls rm sm (nI r) fa))) 0 [.ref 67] [] := by
  intro m
  induction m with
  | zero =>
    intro r h3 h4
    exact absurd h4 (by omega)
  | succ m ih =>
    intro r h3 h4 hv
    have c1 : va_up hp 67 (eO 8 (oMod ac ia (nI z) ri ev le ch ls rm sm (nI r) fa)) 67 = eO 8 (oMod ac ia (nI z) ri ev le ch ls rm sm (nI r) fa) := rfl
    have c2 : va_up hp 67 (eO 8 (oMod ac ia (nI z) ri ev le ch ls rm sm (nI r) fa)) 72 = eI 60 TP := h2
    refine m_aload_n dX8_looks_0 rfl ?_
    refine m_getfield dX8_looks_1 fl_X8_226 (by first | exact c1 | exact c2 | rfl) (by first | exact c1 | exact c2 | rfl) ?_
    show mW _ _ _ _ _ _ _ _ (.int _ :: _)
    refine m_aload_n dX8_looks_4 rfl ?_
    refine m_getfield dX8_looks_5 fl_X8_223 (by first | exact c1 | exact c2 | rfl) (by first | exact c1 | exact c2 | rfl) ?_
    show mW _ _ _ _ _ _ _ _ (.int _ :: _)
    refine m_icmp_ge (t := 38) dX8_looks_8 (by decide) (fun c8 => ?_) (fun c8 => ?_)
    · rw [skipB_end (fun q => absurd q.1 (by have := nI_cmp' (by omega) (by omega) c8; omega))] at hv
      have hs : ¬ r < z := by have := nI_cmp' (by omega) (by omega) c8; omega
      refine m_aload_n dX8_looks_38 rfl ?_
      refine m_getfield dX8_looks_39 fl_X8_226 (by first | exact c1 | exact c2 | rfl) (by first | exact c1 | exact c2 | rfl) ?_
      show mW _ _ _ _ _ _ _ _ (.int _ :: _)
      refine m_aload_n dX8_looks_42 rfl ?_
      refine m_getfield dX8_looks_43 fl_X8_223 (by first | exact c1 | exact c2 | rfl) (by first | exact c1 | exact c2 | rfl) ?_
      show mW _ _ _ _ _ _ _ _ (.int _ :: _)
      refine m_icmp_ge (t := 61) dX8_looks_46 (by decide) (fun c46 => ?_) (fun c46 => ?_)
      · have hs2 : ¬ r < z := by have := nI_cmp' (by omega) (by omega) c46; omega
        refine m_iconst (v := 0) dX8_looks_61 (by decide) ?_
        exact m_ireturn hF dX8_looks_62 rfl rfl rfl ⟨by unfold ltrM; rw [← hv]; first | rw [if_pos hs2] | rw [if_neg hs2], by rw [← hv]⟩
      have hs2 : r < z := nI_cmp (by omega) (by omega) c46
      refine m_aload_n dX8_looks_49 rfl ?_
      refine m_getfield dX8_looks_50 fl_X8_26 (by first | exact c1 | exact c2 | rfl) (by first | exact c1 | exact c2 | rfl) ?_
      show mW _ _ _ _ _ _ _ _ (.ref _ :: _)
      refine m_aload_n dX8_looks_53 rfl ?_
      refine m_getfield dX8_looks_54 fl_X8_226 (by first | exact c1 | exact c2 | rfl) (by first | exact c1 | exact c2 | rfl) ?_
      show mW _ _ _ _ _ _ _ _ (.int _ :: _)
      refine m_iaload dX8_looks_57 (by first | exact c1 | exact c2 | rfl) (mIx_lit (show r < 60 by omega) (by decide)) ?_
      refine m_goto (t := 62) dX8_looks_58 (by decide) ?_
      exact m_ireturn hF dX8_looks_62 rfl rfl rfl ⟨by unfold ltrM; rw [← hv]; first | rw [if_pos hs2] | rw [if_neg hs2], by rw [← hv]⟩
    have hlt : r < z := nI_cmp (by omega) (by omega) c8
    refine m_aload_n dX8_looks_11 rfl ?_
    refine m_getfield dX8_looks_12 fl_X8_26 (by first | exact c1 | exact c2 | rfl) (by first | exact c1 | exact c2 | rfl) ?_
    show mW _ _ _ _ _ _ _ _ (.ref _ :: _)
    refine m_aload_n dX8_looks_15 rfl ?_
    refine m_getfield dX8_looks_16 fl_X8_226 (by first | exact c1 | exact c2 | rfl) (by first | exact c1 | exact c2 | rfl) ?_
    show mW _ _ _ _ _ _ _ _ (.int _ :: _)
    refine m_iaload dX8_looks_19 (by first | exact c1 | exact c2 | rfl) (mIx_lit (show r < 60 by omega) (by decide)) ?_
    refine m_bipush (v := 32) dX8_looks_20 (by decide) ?_
    refine m_icmp_ne (t := 38) dX8_looks_22 (by decide) (fun c22 => ?_) (fun c22 => ?_)
    rotate_left
    · rw [skipB_go hlt c22] at hv
      refine m_aload_n dX8_looks_25 rfl ?_
      refine m_dup dX8_looks_26 rfl ?_
      refine m_getfield dX8_looks_27 fl_X8_226 (by first | exact c1 | exact c2 | rfl) (by first | exact c1 | exact c2 | rfl) ?_
      show mW _ _ _ _ _ _ _ _ (.int _ :: _)
      refine m_iconst (v := 1) dX8_looks_30 (by decide) ?_
      refine m_iadd dX8_looks_31 ?_
      refine m_ci (v := nI (r + 1)) (nI_add r 1) ?_
      refine m_putfield dX8_looks_32 fl_X8_226 (by first | exact c1 | exact c2 | rfl) (fun _ => rfl) (fun _ => rfl) ?_
      try rw [va_uu]
      rw [oMod_26]
      refine m_goto (t := 0) dX8_looks_35 (by decide) ?_
      exact ih (r + 1) (by omega) (by omega) hv
    rw [skipB_end (fun q => c22 q.2)] at hv
    have hs : r < z := hlt
    refine m_aload_n dX8_looks_38 rfl ?_
    refine m_getfield dX8_looks_39 fl_X8_226 (by first | exact c1 | exact c2 | rfl) (by first | exact c1 | exact c2 | rfl) ?_
    show mW _ _ _ _ _ _ _ _ (.int _ :: _)
    refine m_aload_n dX8_looks_42 rfl ?_
    refine m_getfield dX8_looks_43 fl_X8_223 (by first | exact c1 | exact c2 | rfl) (by first | exact c1 | exact c2 | rfl) ?_
    show mW _ _ _ _ _ _ _ _ (.int _ :: _)
    refine m_icmp_ge (t := 61) dX8_looks_46 (by decide) (fun c46 => ?_) (fun c46 => ?_)
    · have hs2 : ¬ r < z := by have := nI_cmp' (by omega) (by omega) c46; omega
      refine m_iconst (v := 0) dX8_looks_61 (by decide) ?_
      exact m_ireturn hF dX8_looks_62 rfl rfl rfl ⟨by unfold ltrM; rw [← hv]; first | rw [if_pos hs2] | rw [if_neg hs2], by rw [← hv]⟩
    have hs2 : r < z := nI_cmp (by omega) (by omega) c46
    refine m_aload_n dX8_looks_49 rfl ?_
    refine m_getfield dX8_looks_50 fl_X8_26 (by first | exact c1 | exact c2 | rfl) (by first | exact c1 | exact c2 | rfl) ?_
    show mW _ _ _ _ _ _ _ _ (.ref _ :: _)
    refine m_aload_n dX8_looks_53 rfl ?_
    refine m_getfield dX8_looks_54 fl_X8_226 (by first | exact c1 | exact c2 | rfl) (by first | exact c1 | exact c2 | rfl) ?_
    show mW _ _ _ _ _ _ _ _ (.int _ :: _)
    refine m_iaload dX8_looks_57 (by first | exact c1 | exact c2 | rfl) (mIx_lit (show r < 60 by omega) (by decide)) ?_
    refine m_goto (t := 62) dX8_looks_58 (by decide) ?_
    exact m_ireturn hF dX8_looks_62 rfl rfl rfl ⟨by unfold ltrM; rw [← hv]; first | rw [if_pos hs2] | rw [if_neg hs2], by rw [← hv]⟩

theorem t_X8_looks {n : Nat} {hp : mHp} {TP : Nat → Int32} {z p : Nat} {ac ia ri ev le ch ls rm sm fa : Int32} (h1 : hp 67 = eO 8 (oMod ac ia (nI z) ri ev le ch ls rm sm (nI p) fa)) (h2 : hp 72 = eI 60 TP) (hz : z ≤ 60) (hpz : p ≤ z) : mC D_X8_looks [.ref 67] n hp (rI (ltrM TP z p) (va_up hp 67 (eO 8 (oMod ac ia (nI z) ri ev le ch ls rm sm (nI (skipB TP z p)) fa)))) := by
  refine m_enter rfl rfl (Nat.le_of_ble_eq_true rfl) (fun K hF => ?_)
  have := l_X8_looks h1 h2 hz hpz hF (z + 1) p hpz (by omega) rfl
  rw [va_uid hp h1] at this
  exact this
set_option maxHeartbeats 400000 in
set_option maxRecDepth 100000 in
theorem t_X8_goesBy {n : Nat} {hp : mHp} {z p : Nat} {x : Int32} {ac ia ri ev le ch ls rm sm fa : Int32} (h1 : hp 67 = eO 8 (oMod ac ia (nI z) ri ev le ch ls rm sm (nI p) fa)) (hx : x = 0 ∨ x = 1) : mC D_X8_goesBy [.ref 67, .int x] n hp (rI x (va_up hp 67 (eO 8 (oMod ac ia (nI z) ri ev le ch ls rm sm (nI (if x = 0 then p else p + 1)) fa)))) := by
  refine m_enter rfl rfl (Nat.le_of_ble_eq_true rfl) (fun K hF => ?_)
  show mW K _ 0 0 _ _ 0 [.ref 67, .int x] []
  refine m_aload_n dX8_goesBy_0 rfl ?_
  refine m_dup dX8_goesBy_1 rfl ?_
  refine m_getfield dX8_goesBy_2 fl_X8_226 (by first | assumption | rfl) (by first | assumption | rfl) ?_
  show mW _ _ _ _ _ _ _ _ (.int _ :: _)
  refine m_iload_n dX8_goesBy_5 rfl ?_
  refine m_if_eq (t := 13) dX8_goesBy_6 (by decide) (fun c6 => ?_) (fun c6 => ?_)
  · refine m_iconst (v := 0) dX8_goesBy_13 (by decide) ?_
    refine m_iadd dX8_goesBy_14 ?_
    refine m_ci (v := nI (if x = 0 then p else p + 1)) (by rw [if_pos c6]; first | exact nI_add p 1 | exact nI_add p 0) ?_
    refine m_putfield dX8_goesBy_15 fl_X8_226 (by first | assumption | rfl) (fun _ => rfl) (fun _ => rfl) ?_
    try rw [va_uu]
    rw [oMod_26]
    refine m_iload_n dX8_goesBy_18 rfl ?_
    exact m_zreturn hF dX8_goesBy_19 rfl (narB hx) rfl rfl ⟨rfl, rfl⟩
  refine m_iconst (v := 1) dX8_goesBy_9 (by decide) ?_
  refine m_goto (t := 14) dX8_goesBy_10 (by decide) ?_
  refine m_iadd dX8_goesBy_14 ?_
  refine m_ci (v := nI (if x = 0 then p else p + 1)) (by rw [if_neg c6]; first | exact nI_add p 1 | exact nI_add p 0) ?_
  refine m_putfield dX8_goesBy_15 fl_X8_226 (by first | assumption | rfl) (fun _ => rfl) (fun _ => rfl) ?_
  try rw [va_uu]
  rw [oMod_26]
  refine m_iload_n dX8_goesBy_18 rfl ?_
  exact m_zreturn hF dX8_goesBy_19 rfl (narB hx) rfl rfl ⟨rfl, rfl⟩

