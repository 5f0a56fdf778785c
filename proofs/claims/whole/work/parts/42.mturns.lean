/-! ===== the reference: turns ===== -/
/-- times (1 + b w), of what is of degree at most 3, in place from above -/
def prM (b : Int32) (P : Nat → Int64) : Nat → Int64 := va_up (va_up (va_up (va_up (va_up P 4 (P 4 + b.toInt64 * P 3)) 3 (P 3 + b.toInt64 * P 2)) 2 (P 2 + b.toInt64 * P 1)) 1 (P 1 + b.toInt64 * P 0)) 0 (P 0 + 0)
set_option maxHeartbeats 400000 in
set_option maxRecDepth 100000 in
theorem t_X8_multiplies {n : Nat} {hp : mHp} {b : Int32} {ac ia tm ri ev le ch ls rm sm ra fa : Int32} (h1 : hp 67 = eO 8 (oMod ac ia tm ri ev le ch ls rm sm ra fa)) {P : Nat → Int64} (h2 : hp 79 = eL 5 P) : mC D_X8_multiplies [.ref 67, .int b] n hp (rV (va_up hp 79 (eL 5 (prM b P)))) := by
  refine m_enter rfl rfl (Nat.le_of_ble_eq_true rfl) (fun K hF => ?_)
  show mW K _ 0 0 _ _ 0 [.ref 67, .int b, .retAddr 0] []
  have y1 : ∀ f : mE, va_up hp 79 f 67 = _ := fun f => (va_up_ne _ _ (by decide)).trans h1
  refine m_iconst (v := 4) dX8_multiplies_0 (by decide) ?_
  refine m_istore_n dX8_multiplies_1 (by decide) ?_
  show mW _ _ _ _ _ _ 2 [_, _, _] _
  refine m_iload_n dX8_multiplies_2 rfl ?_
  refine m_if_lt (t := 40) dX8_multiplies_3 (by decide) (fun q => absurd q (by decide)) (fun _ => ?_)
  refine m_aload_n dX8_multiplies_6 rfl ?_
  refine m_getfield dX8_multiplies_7 fl_X8_48 (by first | assumption | rfl | exact y1 _ | exact va_up_self _ _ _) (by first | assumption | rfl | exact y1 _ | exact va_up_self _ _ _) ?_
  show mW _ _ _ _ _ _ _ _ (.ref _ :: _)
  refine m_iload_n dX8_multiplies_10 rfl ?_
  refine m_dup2 dX8_multiplies_11 rfl rfl ?_
  refine m_laload (k := 4) dX8_multiplies_12 (by first | assumption | rfl | exact y1 _ | exact va_up_self _ _ _) ⟨by decide, by decide⟩ ?_
  refine m_cl (v := P 4) rfl ?_
  refine m_iload_n dX8_multiplies_13 rfl ?_
  refine m_if_le (t := 31) dX8_multiplies_14 (by decide) (fun q => absurd q (by decide)) (fun _ => ?_)
  refine m_iload_n dX8_multiplies_17 rfl ?_
  refine m_i2l dX8_multiplies_18 ?_
  refine m_aload_n dX8_multiplies_19 rfl ?_
  refine m_getfield dX8_multiplies_20 fl_X8_48 (by first | assumption | rfl | exact y1 _ | exact va_up_self _ _ _) (by first | assumption | rfl | exact y1 _ | exact va_up_self _ _ _) ?_
  show mW _ _ _ _ _ _ _ _ (.ref _ :: _)
  refine m_iload_n dX8_multiplies_23 rfl ?_
  refine m_iconst (v := 1) dX8_multiplies_24 (by decide) ?_
  refine m_isub dX8_multiplies_25 ?_
  refine m_ci (v := 3) (by decide) ?_
  refine m_laload (k := 3) dX8_multiplies_26 (by first | assumption | rfl | exact y1 _ | exact va_up_self _ _ _) ⟨by decide, by decide⟩ ?_
  refine m_cl (v := P 3) rfl ?_
  refine m_lmul dX8_multiplies_27 ?_
  refine m_goto (t := 32) dX8_multiplies_28 (by decide) ?_
  refine m_ladd dX8_multiplies_32 ?_
  refine m_lastore (k := 4) dX8_multiplies_33 (by first | assumption | rfl | exact y1 _ | exact va_up_self _ _ _) ⟨by decide, by decide⟩ ?_
  try rw [va_uu]
  refine m_iinc (v := 3) dX8_multiplies_34 rfl (by decide) (by decide) ?_
  show mW _ _ _ _ _ _ 37 [_, _, _] _
  refine m_goto (t := 2) dX8_multiplies_37 (by decide) ?_
  refine m_iload_n dX8_multiplies_2 rfl ?_
  refine m_if_lt (t := 40) dX8_multiplies_3 (by decide) (fun q => absurd q (by decide)) (fun _ => ?_)
  refine m_aload_n dX8_multiplies_6 rfl ?_
  refine m_getfield dX8_multiplies_7 fl_X8_48 (by first | assumption | rfl | exact y1 _ | exact va_up_self _ _ _) (by first | assumption | rfl | exact y1 _ | exact va_up_self _ _ _) ?_
  show mW _ _ _ _ _ _ _ _ (.ref _ :: _)
  refine m_iload_n dX8_multiplies_10 rfl ?_
  refine m_dup2 dX8_multiplies_11 rfl rfl ?_
  refine m_laload (k := 3) dX8_multiplies_12 (by first | assumption | rfl | exact y1 _ | exact va_up_self _ _ _) ⟨by decide, by decide⟩ ?_
  refine m_cl (v := P 3) rfl ?_
  refine m_iload_n dX8_multiplies_13 rfl ?_
  refine m_if_le (t := 31) dX8_multiplies_14 (by decide) (fun q => absurd q (by decide)) (fun _ => ?_)
  refine m_iload_n dX8_multiplies_17 rfl ?_
  refine m_i2l dX8_multiplies_18 ?_
  refine m_aload_n dX8_multiplies_19 rfl ?_
  refine m_getfield dX8_multiplies_20 fl_X8_48 (by first | assumption | rfl | exact y1 _ | exact va_up_self _ _ _) (by first | assumption | rfl | exact y1 _ | exact va_up_self _ _ _) ?_
  show mW _ _ _ _ _ _ _ _ (.ref _ :: _)
  refine m_iload_n dX8_multiplies_23 rfl ?_
  refine m_iconst (v := 1) dX8_multiplies_24 (by decide) ?_
  refine m_isub dX8_multiplies_25 ?_
  refine m_ci (v := 2) (by decide) ?_
  refine m_laload (k := 2) dX8_multiplies_26 (by first | assumption | rfl | exact y1 _ | exact va_up_self _ _ _) ⟨by decide, by decide⟩ ?_
  refine m_cl (v := P 2) rfl ?_
  refine m_lmul dX8_multiplies_27 ?_
  refine m_goto (t := 32) dX8_multiplies_28 (by decide) ?_
  refine m_ladd dX8_multiplies_32 ?_
  refine m_lastore (k := 3) dX8_multiplies_33 (by first | assumption | rfl | exact y1 _ | exact va_up_self _ _ _) ⟨by decide, by decide⟩ ?_
  try rw [va_uu]
  refine m_iinc (v := 2) dX8_multiplies_34 rfl (by decide) (by decide) ?_
  show mW _ _ _ _ _ _ 37 [_, _, _] _
  refine m_goto (t := 2) dX8_multiplies_37 (by decide) ?_
  refine m_iload_n dX8_multiplies_2 rfl ?_
  refine m_if_lt (t := 40) dX8_multiplies_3 (by decide) (fun q => absurd q (by decide)) (fun _ => ?_)
  refine m_aload_n dX8_multiplies_6 rfl ?_
  refine m_getfield dX8_multiplies_7 fl_X8_48 (by first | assumption | rfl | exact y1 _ | exact va_up_self _ _ _) (by first | assumption | rfl | exact y1 _ | exact va_up_self _ _ _) ?_
  show mW _ _ _ _ _ _ _ _ (.ref _ :: _)
  refine m_iload_n dX8_multiplies_10 rfl ?_
  refine m_dup2 dX8_multiplies_11 rfl rfl ?_
  refine m_laload (k := 2) dX8_multiplies_12 (by first | assumption | rfl | exact y1 _ | exact va_up_self _ _ _) ⟨by decide, by decide⟩ ?_
  refine m_cl (v := P 2) rfl ?_
  refine m_iload_n dX8_multiplies_13 rfl ?_
  refine m_if_le (t := 31) dX8_multiplies_14 (by decide) (fun q => absurd q (by decide)) (fun _ => ?_)
  refine m_iload_n dX8_multiplies_17 rfl ?_
  refine m_i2l dX8_multiplies_18 ?_
  refine m_aload_n dX8_multiplies_19 rfl ?_
  refine m_getfield dX8_multiplies_20 fl_X8_48 (by first | assumption | rfl | exact y1 _ | exact va_up_self _ _ _) (by first | assumption | rfl | exact y1 _ | exact va_up_self _ _ _) ?_
  show mW _ _ _ _ _ _ _ _ (.ref _ :: _)
  refine m_iload_n dX8_multiplies_23 rfl ?_
  refine m_iconst (v := 1) dX8_multiplies_24 (by decide) ?_
  refine m_isub dX8_multiplies_25 ?_
  refine m_ci (v := 1) (by decide) ?_
  refine m_laload (k := 1) dX8_multiplies_26 (by first | assumption | rfl | exact y1 _ | exact va_up_self _ _ _) ⟨by decide, by decide⟩ ?_
  refine m_cl (v := P 1) rfl ?_
  refine m_lmul dX8_multiplies_27 ?_
  refine m_goto (t := 32) dX8_multiplies_28 (by decide) ?_
  refine m_ladd dX8_multiplies_32 ?_
  refine m_lastore (k := 2) dX8_multiplies_33 (by first | assumption | rfl | exact y1 _ | exact va_up_self _ _ _) ⟨by decide, by decide⟩ ?_
  try rw [va_uu]
  refine m_iinc (v := 1) dX8_multiplies_34 rfl (by decide) (by decide) ?_
  show mW _ _ _ _ _ _ 37 [_, _, _] _
  refine m_goto (t := 2) dX8_multiplies_37 (by decide) ?_
  refine m_iload_n dX8_multiplies_2 rfl ?_
  refine m_if_lt (t := 40) dX8_multiplies_3 (by decide) (fun q => absurd q (by decide)) (fun _ => ?_)
  refine m_aload_n dX8_multiplies_6 rfl ?_
  refine m_getfield dX8_multiplies_7 fl_X8_48 (by first | assumption | rfl | exact y1 _ | exact va_up_self _ _ _) (by first | assumption | rfl | exact y1 _ | exact va_up_self _ _ _) ?_
  show mW _ _ _ _ _ _ _ _ (.ref _ :: _)
  refine m_iload_n dX8_multiplies_10 rfl ?_
  refine m_dup2 dX8_multiplies_11 rfl rfl ?_
  refine m_laload (k := 1) dX8_multiplies_12 (by first | assumption | rfl | exact y1 _ | exact va_up_self _ _ _) ⟨by decide, by decide⟩ ?_
  refine m_cl (v := P 1) rfl ?_
  refine m_iload_n dX8_multiplies_13 rfl ?_
  refine m_if_le (t := 31) dX8_multiplies_14 (by decide) (fun q => absurd q (by decide)) (fun _ => ?_)
  refine m_iload_n dX8_multiplies_17 rfl ?_
  refine m_i2l dX8_multiplies_18 ?_
  refine m_aload_n dX8_multiplies_19 rfl ?_
  refine m_getfield dX8_multiplies_20 fl_X8_48 (by first | assumption | rfl | exact y1 _ | exact va_up_self _ _ _) (by first | assumption | rfl | exact y1 _ | exact va_up_self _ _ _) ?_
  show mW _ _ _ _ _ _ _ _ (.ref _ :: _)
  refine m_iload_n dX8_multiplies_23 rfl ?_
  refine m_iconst (v := 1) dX8_multiplies_24 (by decide) ?_
  refine m_isub dX8_multiplies_25 ?_
  refine m_ci (v := 0) (by decide) ?_
  refine m_laload (k := 0) dX8_multiplies_26 (by first | assumption | rfl | exact y1 _ | exact va_up_self _ _ _) ⟨by decide, by decide⟩ ?_
  refine m_cl (v := P 0) rfl ?_
  refine m_lmul dX8_multiplies_27 ?_
  refine m_goto (t := 32) dX8_multiplies_28 (by decide) ?_
  refine m_ladd dX8_multiplies_32 ?_
  refine m_lastore (k := 1) dX8_multiplies_33 (by first | assumption | rfl | exact y1 _ | exact va_up_self _ _ _) ⟨by decide, by decide⟩ ?_
  try rw [va_uu]
  refine m_iinc (v := 0) dX8_multiplies_34 rfl (by decide) (by decide) ?_
  show mW _ _ _ _ _ _ 37 [_, _, _] _
  refine m_goto (t := 2) dX8_multiplies_37 (by decide) ?_
  refine m_iload_n dX8_multiplies_2 rfl ?_
  refine m_if_lt (t := 40) dX8_multiplies_3 (by decide) (fun q => absurd q (by decide)) (fun _ => ?_)
  refine m_aload_n dX8_multiplies_6 rfl ?_
  refine m_getfield dX8_multiplies_7 fl_X8_48 (by first | assumption | rfl | exact y1 _ | exact va_up_self _ _ _) (by first | assumption | rfl | exact y1 _ | exact va_up_self _ _ _) ?_
  show mW _ _ _ _ _ _ _ _ (.ref _ :: _)
  refine m_iload_n dX8_multiplies_10 rfl ?_
  refine m_dup2 dX8_multiplies_11 rfl rfl ?_
  refine m_laload (k := 0) dX8_multiplies_12 (by first | assumption | rfl | exact y1 _ | exact va_up_self _ _ _) ⟨by decide, by decide⟩ ?_
  refine m_cl (v := P 0) rfl ?_
  refine m_iload_n dX8_multiplies_13 rfl ?_
  refine m_if_le (t := 31) dX8_multiplies_14 (by decide) (fun _ => ?_) (fun q => absurd (by decide) q)
  refine m_lconst (v := 0) dX8_multiplies_31 (by decide) ?_
  refine m_ladd dX8_multiplies_32 ?_
  refine m_lastore (k := 0) dX8_multiplies_33 (by first | assumption | rfl | exact y1 _ | exact va_up_self _ _ _) ⟨by decide, by decide⟩ ?_
  try rw [va_uu]
  refine m_iinc (v := -1) dX8_multiplies_34 rfl (by decide) (by decide) ?_
  show mW _ _ _ _ _ _ 37 [_, _, _] _
  refine m_goto (t := 2) dX8_multiplies_37 (by decide) ?_
  refine m_iload_n dX8_multiplies_2 rfl ?_
  refine m_if_lt (t := 40) dX8_multiplies_3 (by decide) (fun _ => ?_) (fun q => absurd (by decide) q)
  exact m_return hF dX8_multiplies_40 rfl rfl rfl ⟨rfl, rfl⟩

def mltR (j : Nat) : Nat → Nat → (Nat → Int64) → Nat → Int64
  | 0, _, P => P
  | r + 1, i, P => mltR j r (i + 1) (prM (if nI j ≤ nI i then -1 else 1) P)
set_option maxHeartbeats 400000 in
set_option maxRecDepth 100000 in
theorem l_turnI {n : Nat} {hp : mHp} {ac ia tm ri ev le ch ls rm sm ra fa : Int32} (h1 : hp 67 = eO 8 (oMod ac ia tm ri ev le ch ls rm sm ra fa)) {d j : Nat} (hd : d ≤ 4) (hj : j ≤ 4) {K : mK} : ∀ (r i : Nat) (P : Nat → Int64), i + r = d → mW K D_X8_turns 0 0 n (va_up hp 79 (eL 5 (mltR j r i P))) 87 [.ref 67, .int (nI d), .int (nI j), .int (nI d)] [] → mW K D_X8_turns 0 0 n (va_up hp 79 (eL 5 P)) 62 [.ref 67, .int (nI d), .int (nI j), .int (nI i)] [] := by
  intro r
  induction r using Nat.strongRecOn with
  | ind r ih =>
    intro i P hir kk
    refine m_iload_n dX8_turns_62 rfl ?_
    refine m_iload_n dX8_turns_63 rfl ?_
    refine m_icmp_ge (t := 87) dX8_turns_64 (by decide) (fun cc => ?_) (fun cc => ?_)
    · have hm : r = 0 := by have := nI_cmp' (by omega) (by omega) cc; omega
      subst hm
      obtain rfl : i = d := by omega
      exact kk
    have hlt : i < d := nI_cmp (by omega) (by omega) cc
    obtain ⟨r, rfl⟩ : ∃ r', r = r' + 1 := ⟨r - 1, by omega⟩
    refine m_aload_n dX8_turns_67 rfl ?_
    refine m_iload_n dX8_turns_68 rfl ?_
    refine m_iload_n dX8_turns_69 rfl ?_
    refine m_tern_I (J := 78) (x := -1) (y := 1) (m_icmp_ge (t := 77) dX8_turns_70 (by decide)) (fun k9 => ?_) (fun k9 => ?_) ?_
    · refine m_iconst (v := -1) dX8_turns_77 (by decide) ?_
      exact k9
    · refine m_iconst (v := 1) dX8_turns_73 (by decide) ?_
      refine m_goto (t := 78) dX8_turns_74 (by decide) ?_
      exact k9
    refine m_invV_V dX8_turns_78 lk_X8_128 ar_X8_multiplies (ci := 8) rfl rfl (by first | exact (va_up_ne _ _ (by decide)).trans h1 | rfl | exact va_up_self _ _ _) (t_X8_multiplies (by first | assumption | exact (va_up_ne _ _ (by decide)).trans h1) (va_up_self _ _ _)) rfl (Nat.le_of_ble_eq_true rfl) (by decide) (by decide) (by decide) (by decide) rfl rfl ?_
    try rw [va_uu]
    refine m_iinc (v := nI (i + 1)) dX8_turns_81 rfl (nI_1 i) (by decide) ?_
    show mW _ _ _ _ _ _ 84 [_, _, _, _] _
    refine m_goto (t := 62) dX8_turns_84 (by decide) ?_
    exact ih r (by omega) (i + 1) _ (by omega) kk

