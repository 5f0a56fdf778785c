/-! ===== the reference: a row more ===== -/
def adR (R : Nat → Int64) (q : Nat) (W : Nat → Int64) : Nat → Int64 := va_up (va_up (va_up (va_up (va_up R (5 * q + 0) (W 0)) (5 * q + 1) (W 1)) (5 * q + 2) (W 2)) (5 * q + 3) (W 3)) (5 * q + 4) (W 4)
def askM (b k w : Int32) : Int32 := if inI b.toInt64 0 1 = 0 then 0 else if k < 0 then 0 else if inI w.toInt64 0 1 = 0 then 0 else 1
set_option maxHeartbeats 400000 in
set_option maxRecDepth 100000 in
theorem t_X8_isAsk {n : Nat} {hp : mHp} {b k w : Int32} : mC D_X8_isAsk [.int b, .int k, .int w] n hp (rI (askM b k w) hp) := by
  refine m_enter rfl rfl (Nat.le_of_ble_eq_true rfl) (fun K hF => ?_)
  show mW K _ 0 0 _ _ 0 [.int b, .int k, .int w] []
  refine m_iload_n dX8_isAsk_0 rfl ?_
  refine m_i2l dX8_isAsk_1 ?_
  refine m_lconst (v := 0) dX8_isAsk_2 (by decide) ?_
  refine m_lconst (v := 1) dX8_isAsk_3 (by decide) ?_
  refine m_invS_I dX8_isAsk_4 lk_X8_141 ar_X8_in (t_X8_in) rfl (Nat.le_of_ble_eq_true rfl) (by decide) (by decide) (by decide) (by decide) rfl rfl ?_
  try rw [va_uu]
  refine m_if_eq (t := 28) dX8_isAsk_7 (by decide) (fun c7 => ?_) (fun c7 => ?_)
  · refine m_iconst (v := 0) dX8_isAsk_28 (by decide) ?_
    exact m_zreturn hF dX8_isAsk_29 rfl rfl rfl rfl ⟨by unfold askM; simp only [if_pos c7], rfl⟩
  refine m_iload_n dX8_isAsk_10 rfl ?_
  refine m_if_lt (t := 28) dX8_isAsk_11 (by decide) (fun c11 => ?_) (fun c11 => ?_)
  · refine m_iconst (v := 0) dX8_isAsk_28 (by decide) ?_
    exact m_zreturn hF dX8_isAsk_29 rfl rfl rfl rfl ⟨by unfold askM; simp only [if_neg c7, if_pos c11], rfl⟩
  refine m_iload_n dX8_isAsk_14 rfl ?_
  refine m_i2l dX8_isAsk_15 ?_
  refine m_lconst (v := 0) dX8_isAsk_16 (by decide) ?_
  refine m_lconst (v := 1) dX8_isAsk_17 (by decide) ?_
  refine m_invS_I dX8_isAsk_18 lk_X8_141 ar_X8_in (t_X8_in) rfl (Nat.le_of_ble_eq_true rfl) (by decide) (by decide) (by decide) (by decide) rfl rfl ?_
  try rw [va_uu]
  refine m_if_eq (t := 28) dX8_isAsk_21 (by decide) (fun c21 => ?_) (fun c21 => ?_)
  · refine m_iconst (v := 0) dX8_isAsk_28 (by decide) ?_
    exact m_zreturn hF dX8_isAsk_29 rfl rfl rfl rfl ⟨by unfold askM; simp only [if_neg c7, if_neg c11, if_pos c21], rfl⟩
  refine m_iconst (v := 1) dX8_isAsk_24 (by decide) ?_
  refine m_goto (t := 29) dX8_isAsk_25 (by decide) ?_
  exact m_zreturn hF dX8_isAsk_29 rfl rfl rfl rfl ⟨by unfold askM; simp only [if_neg c7, if_neg c11, if_neg c21], rfl⟩

theorem askM_iff {b k w : Int32} : askM b k w = 0 ↔ ¬ (inC b 2 ∧ 0 ≤ k ∧ inC w 2) := by
  unfold askM
  by_cases h1 : inI b.toInt64 0 1 = 0
  · rw [if_pos h1]
    exact ⟨fun _ q => in2_iff.mp h1 q.1, fun _ => rfl⟩
  · rw [if_neg h1, if01, in2_iff]
    have hb : inC b 2 := Classical.not_not.mp (fun z => h1 (in2_iff.mpr z))
    constructor
    · rintro (y | y) ⟨-, q2, q3⟩
      · exact absurd y (Int32.not_lt.mpr q2)
      · exact y q3
    · intro h
      by_cases y : k < 0
      · exact Or.inl y
      · exact Or.inr (fun z => h ⟨hb, Int32.not_lt.mp y, z⟩)
set_option maxHeartbeats 400000 in
set_option maxRecDepth 100000 in
theorem t_X8_addsRow {n : Nat} {hp : mHp} {ac ia tm ri ev le ch ls sm ra fa : Int32} {q : Nat} {R W : Nat → Int64} (h1 : hp 67 = eO 8 (oMod ac ia tm ri ev le ch ls (nI q) sm ra fa)) (h2 : hp 80 = eL 40 R) (h3 : hp 81 = eL 5 W) (hq : q < 8) : mC D_X8_addsRow [.ref 67] n hp (rV (va_up (va_up hp 80 (eL 40 (adR R q W))) 67 (eO 8 (oMod ac ia tm ri ev le ch ls (nI (q + 1)) sm ra fa)))) := by
  refine m_enter rfl rfl (Nat.le_of_ble_eq_true rfl) (fun K hF => ?_)
  show mW K _ 0 0 _ _ 0 [.ref 67, .retAddr 0] []
  have y1 : ∀ f : mE, va_up hp 80 f 67 = _ := fun f => (va_up_ne _ _ (by decide)).trans h1
  have y3 : ∀ f : mE, va_up hp 80 f 81 = eL 5 W := fun f => (va_up_ne _ _ (by decide)).trans h3
  refine m_iconst (v := 0) dX8_addsRow_0 (by decide) ?_
  refine m_istore_n dX8_addsRow_1 (by decide) ?_
  show mW _ _ _ _ _ _ 2 [_, _] _
  refine m_iload_n dX8_addsRow_2 rfl ?_
  refine m_iconst (v := 5) dX8_addsRow_3 (by decide) ?_
  refine m_icmp_ge (t := 32) dX8_addsRow_4 (by decide) (fun q => absurd q (by decide)) (fun _ => ?_)
  refine m_aload_n dX8_addsRow_7 rfl ?_
  refine m_getfield dX8_addsRow_8 fl_X8_51 (by first | assumption | rfl | exact y1 _ | exact y3 _ | exact va_up_self _ _ _) (by first | assumption | rfl | exact y1 _ | exact y3 _ | exact va_up_self _ _ _) ?_
  show mW _ _ _ _ _ _ _ _ (.ref _ :: _)
  refine m_iconst (v := 5) dX8_addsRow_11 (by decide) ?_
  refine m_aload_n dX8_addsRow_12 rfl ?_
  refine m_getfield dX8_addsRow_13 fl_X8_183 (by first | assumption | rfl | exact y1 _ | exact y3 _ | exact va_up_self _ _ _) (by first | assumption | rfl | exact y1 _ | exact y3 _ | exact va_up_self _ _ _) ?_
  show mW _ _ _ _ _ _ _ _ (.int _ :: _)
  refine m_imul dX8_addsRow_16 ?_
  refine m_ci (v := nI (5 * q)) (nI_mulN 5 q) ?_
  refine m_iload_n dX8_addsRow_17 rfl ?_
  refine m_iadd dX8_addsRow_18 ?_
  refine m_ci (v := nI (5 * q + 0)) (by exact nI_add (5 * q) 0) ?_
  refine m_aload_n dX8_addsRow_19 rfl ?_
  refine m_getfield dX8_addsRow_20 fl_X8_54 (by first | assumption | rfl | exact y1 _ | exact y3 _ | exact va_up_self _ _ _) (by first | assumption | rfl | exact y1 _ | exact y3 _ | exact va_up_self _ _ _) ?_
  show mW _ _ _ _ _ _ _ _ (.ref _ :: _)
  refine m_iload_n dX8_addsRow_23 rfl ?_
  refine m_laload (k := 0) dX8_addsRow_24 (by first | assumption | rfl | exact y1 _ | exact y3 _ | exact va_up_self _ _ _) ⟨by decide, by decide⟩ ?_
  refine m_lastore dX8_addsRow_25 (by first | assumption | rfl | exact y1 _ | exact y3 _ | exact va_up_self _ _ _) (mIx_lit (show 5 * q + 0 < 40 by omega) (by decide)) ?_
  try rw [va_uu]
  refine m_iinc (v := 1) dX8_addsRow_26 rfl (by decide) (by decide) ?_
  show mW _ _ _ _ _ _ 29 [_, _] _
  refine m_goto (t := 2) dX8_addsRow_29 (by decide) ?_
  refine m_iload_n dX8_addsRow_2 rfl ?_
  refine m_iconst (v := 5) dX8_addsRow_3 (by decide) ?_
  refine m_icmp_ge (t := 32) dX8_addsRow_4 (by decide) (fun q => absurd q (by decide)) (fun _ => ?_)
  refine m_aload_n dX8_addsRow_7 rfl ?_
  refine m_getfield dX8_addsRow_8 fl_X8_51 (by first | assumption | rfl | exact y1 _ | exact y3 _ | exact va_up_self _ _ _) (by first | assumption | rfl | exact y1 _ | exact y3 _ | exact va_up_self _ _ _) ?_
  show mW _ _ _ _ _ _ _ _ (.ref _ :: _)
  refine m_iconst (v := 5) dX8_addsRow_11 (by decide) ?_
  refine m_aload_n dX8_addsRow_12 rfl ?_
  refine m_getfield dX8_addsRow_13 fl_X8_183 (by first | assumption | rfl | exact y1 _ | exact y3 _ | exact va_up_self _ _ _) (by first | assumption | rfl | exact y1 _ | exact y3 _ | exact va_up_self _ _ _) ?_
  show mW _ _ _ _ _ _ _ _ (.int _ :: _)
  refine m_imul dX8_addsRow_16 ?_
  refine m_ci (v := nI (5 * q)) (nI_mulN 5 q) ?_
  refine m_iload_n dX8_addsRow_17 rfl ?_
  refine m_iadd dX8_addsRow_18 ?_
  refine m_ci (v := nI (5 * q + 1)) (by exact nI_add (5 * q) 1) ?_
  refine m_aload_n dX8_addsRow_19 rfl ?_
  refine m_getfield dX8_addsRow_20 fl_X8_54 (by first | assumption | rfl | exact y1 _ | exact y3 _ | exact va_up_self _ _ _) (by first | assumption | rfl | exact y1 _ | exact y3 _ | exact va_up_self _ _ _) ?_
  show mW _ _ _ _ _ _ _ _ (.ref _ :: _)
  refine m_iload_n dX8_addsRow_23 rfl ?_
  refine m_laload (k := 1) dX8_addsRow_24 (by first | assumption | rfl | exact y1 _ | exact y3 _ | exact va_up_self _ _ _) ⟨by decide, by decide⟩ ?_
  refine m_lastore dX8_addsRow_25 (by first | assumption | rfl | exact y1 _ | exact y3 _ | exact va_up_self _ _ _) (mIx_lit (show 5 * q + 1 < 40 by omega) (by decide)) ?_
  try rw [va_uu]
  refine m_iinc (v := 2) dX8_addsRow_26 rfl (by decide) (by decide) ?_
  show mW _ _ _ _ _ _ 29 [_, _] _
  refine m_goto (t := 2) dX8_addsRow_29 (by decide) ?_
  refine m_iload_n dX8_addsRow_2 rfl ?_
  refine m_iconst (v := 5) dX8_addsRow_3 (by decide) ?_
  refine m_icmp_ge (t := 32) dX8_addsRow_4 (by decide) (fun q => absurd q (by decide)) (fun _ => ?_)
  refine m_aload_n dX8_addsRow_7 rfl ?_
  refine m_getfield dX8_addsRow_8 fl_X8_51 (by first | assumption | rfl | exact y1 _ | exact y3 _ | exact va_up_self _ _ _) (by first | assumption | rfl | exact y1 _ | exact y3 _ | exact va_up_self _ _ _) ?_
  show mW _ _ _ _ _ _ _ _ (.ref _ :: _)
  refine m_iconst (v := 5) dX8_addsRow_11 (by decide) ?_
  refine m_aload_n dX8_addsRow_12 rfl ?_
  refine m_getfield dX8_addsRow_13 fl_X8_183 (by first | assumption | rfl | exact y1 _ | exact y3 _ | exact va_up_self _ _ _) (by first | assumption | rfl | exact y1 _ | exact y3 _ | exact va_up_self _ _ _) ?_
  show mW _ _ _ _ _ _ _ _ (.int _ :: _)
  refine m_imul dX8_addsRow_16 ?_
  refine m_ci (v := nI (5 * q)) (nI_mulN 5 q) ?_
  refine m_iload_n dX8_addsRow_17 rfl ?_
  refine m_iadd dX8_addsRow_18 ?_
  refine m_ci (v := nI (5 * q + 2)) (by exact nI_add (5 * q) 2) ?_
  refine m_aload_n dX8_addsRow_19 rfl ?_
  refine m_getfield dX8_addsRow_20 fl_X8_54 (by first | assumption | rfl | exact y1 _ | exact y3 _ | exact va_up_self _ _ _) (by first | assumption | rfl | exact y1 _ | exact y3 _ | exact va_up_self _ _ _) ?_
  show mW _ _ _ _ _ _ _ _ (.ref _ :: _)
  refine m_iload_n dX8_addsRow_23 rfl ?_
  refine m_laload (k := 2) dX8_addsRow_24 (by first | assumption | rfl | exact y1 _ | exact y3 _ | exact va_up_self _ _ _) ⟨by decide, by decide⟩ ?_
  refine m_lastore dX8_addsRow_25 (by first | assumption | rfl | exact y1 _ | exact y3 _ | exact va_up_self _ _ _) (mIx_lit (show 5 * q + 2 < 40 by omega) (by decide)) ?_
  try rw [va_uu]
  refine m_iinc (v := 3) dX8_addsRow_26 rfl (by decide) (by decide) ?_
  show mW _ _ _ _ _ _ 29 [_, _] _
  refine m_goto (t := 2) dX8_addsRow_29 (by decide) ?_
  refine m_iload_n dX8_addsRow_2 rfl ?_
  refine m_iconst (v := 5) dX8_addsRow_3 (by decide) ?_
  refine m_icmp_ge (t := 32) dX8_addsRow_4 (by decide) (fun q => absurd q (by decide)) (fun _ => ?_)
  refine m_aload_n dX8_addsRow_7 rfl ?_
  refine m_getfield dX8_addsRow_8 fl_X8_51 (by first | assumption | rfl | exact y1 _ | exact y3 _ | exact va_up_self _ _ _) (by first | assumption | rfl | exact y1 _ | exact y3 _ | exact va_up_self _ _ _) ?_
  show mW _ _ _ _ _ _ _ _ (.ref _ :: _)
  refine m_iconst (v := 5) dX8_addsRow_11 (by decide) ?_
  refine m_aload_n dX8_addsRow_12 rfl ?_
  refine m_getfield dX8_addsRow_13 fl_X8_183 (by first | assumption | rfl | exact y1 _ | exact y3 _ | exact va_up_self _ _ _) (by first | assumption | rfl | exact y1 _ | exact y3 _ | exact va_up_self _ _ _) ?_
  show mW _ _ _ _ _ _ _ _ (.int _ :: _)
  refine m_imul dX8_addsRow_16 ?_
  refine m_ci (v := nI (5 * q)) (nI_mulN 5 q) ?_
  refine m_iload_n dX8_addsRow_17 rfl ?_
  refine m_iadd dX8_addsRow_18 ?_
  refine m_ci (v := nI (5 * q + 3)) (by exact nI_add (5 * q) 3) ?_
  refine m_aload_n dX8_addsRow_19 rfl ?_
  refine m_getfield dX8_addsRow_20 fl_X8_54 (by first | assumption | rfl | exact y1 _ | exact y3 _ | exact va_up_self _ _ _) (by first | assumption | rfl | exact y1 _ | exact y3 _ | exact va_up_self _ _ _) ?_
  show mW _ _ _ _ _ _ _ _ (.ref _ :: _)
  refine m_iload_n dX8_addsRow_23 rfl ?_
  refine m_laload (k := 3) dX8_addsRow_24 (by first | assumption | rfl | exact y1 _ | exact y3 _ | exact va_up_self _ _ _) ⟨by decide, by decide⟩ ?_
  refine m_lastore dX8_addsRow_25 (by first | assumption | rfl | exact y1 _ | exact y3 _ | exact va_up_self _ _ _) (mIx_lit (show 5 * q + 3 < 40 by omega) (by decide)) ?_
  try rw [va_uu]
  refine m_iinc (v := 4) dX8_addsRow_26 rfl (by decide) (by decide) ?_
  show mW _ _ _ _ _ _ 29 [_, _] _
  refine m_goto (t := 2) dX8_addsRow_29 (by decide) ?_
  refine m_iload_n dX8_addsRow_2 rfl ?_
  refine m_iconst (v := 5) dX8_addsRow_3 (by decide) ?_
  refine m_icmp_ge (t := 32) dX8_addsRow_4 (by decide) (fun q => absurd q (by decide)) (fun _ => ?_)
  refine m_aload_n dX8_addsRow_7 rfl ?_
  refine m_getfield dX8_addsRow_8 fl_X8_51 (by first | assumption | rfl | exact y1 _ | exact y3 _ | exact va_up_self _ _ _) (by first | assumption | rfl | exact y1 _ | exact y3 _ | exact va_up_self _ _ _) ?_
  show mW _ _ _ _ _ _ _ _ (.ref _ :: _)
  refine m_iconst (v := 5) dX8_addsRow_11 (by decide) ?_
  refine m_aload_n dX8_addsRow_12 rfl ?_
  refine m_getfield dX8_addsRow_13 fl_X8_183 (by first | assumption | rfl | exact y1 _ | exact y3 _ | exact va_up_self _ _ _) (by first | assumption | rfl | exact y1 _ | exact y3 _ | exact va_up_self _ _ _) ?_
  show mW _ _ _ _ _ _ _ _ (.int _ :: _)
  refine m_imul dX8_addsRow_16 ?_
  refine m_ci (v := nI (5 * q)) (nI_mulN 5 q) ?_
  refine m_iload_n dX8_addsRow_17 rfl ?_
  refine m_iadd dX8_addsRow_18 ?_
  refine m_ci (v := nI (5 * q + 4)) (by exact nI_add (5 * q) 4) ?_
  refine m_aload_n dX8_addsRow_19 rfl ?_
  refine m_getfield dX8_addsRow_20 fl_X8_54 (by first | assumption | rfl | exact y1 _ | exact y3 _ | exact va_up_self _ _ _) (by first | assumption | rfl | exact y1 _ | exact y3 _ | exact va_up_self _ _ _) ?_
  show mW _ _ _ _ _ _ _ _ (.ref _ :: _)
  refine m_iload_n dX8_addsRow_23 rfl ?_
  refine m_laload (k := 4) dX8_addsRow_24 (by first | assumption | rfl | exact y1 _ | exact y3 _ | exact va_up_self _ _ _) ⟨by decide, by decide⟩ ?_
  refine m_lastore dX8_addsRow_25 (by first | assumption | rfl | exact y1 _ | exact y3 _ | exact va_up_self _ _ _) (mIx_lit (show 5 * q + 4 < 40 by omega) (by decide)) ?_
  try rw [va_uu]
  refine m_iinc (v := 5) dX8_addsRow_26 rfl (by decide) (by decide) ?_
  show mW _ _ _ _ _ _ 29 [_, _] _
  refine m_goto (t := 2) dX8_addsRow_29 (by decide) ?_
  refine m_iload_n dX8_addsRow_2 rfl ?_
  refine m_iconst (v := 5) dX8_addsRow_3 (by decide) ?_
  refine m_icmp_ge (t := 32) dX8_addsRow_4 (by decide) (fun _ => ?_) (fun q => absurd (by decide) q)
  refine m_aload_n dX8_addsRow_32 rfl ?_
  refine m_dup dX8_addsRow_33 rfl ?_
  refine m_getfield dX8_addsRow_34 fl_X8_183 (by first | assumption | rfl | exact y1 _ | exact y3 _ | exact va_up_self _ _ _) (by first | assumption | rfl | exact y1 _ | exact y3 _ | exact va_up_self _ _ _) ?_
  show mW _ _ _ _ _ _ _ _ (.int _ :: _)
  refine m_iconst (v := 1) dX8_addsRow_37 (by decide) ?_
  refine m_iadd dX8_addsRow_38 ?_
  refine m_ci (v := nI (q + 1)) (nI_add q 1) ?_
  refine m_putfield dX8_addsRow_39 fl_X8_183 (by first | assumption | rfl | exact y1 _ | exact y3 _ | exact va_up_self _ _ _) (fun _ => rfl) (fun _ => rfl) ?_
  try rw [va_uu]
  rw [oMod_21]
  exact m_return hF dX8_addsRow_42 rfl rfl rfl ⟨rfl, rfl⟩

