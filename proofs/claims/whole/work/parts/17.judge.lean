/-! ===== Judge ===== -/
abbrev sgB (x : Int64) : Int32 := if 0 ≤ x then 0 else 1
def chkS (Z : Nat → Int64) (mi : Int32) : Nat → Nat → Int32 → Int32
  | 0, _, c => c
  | r + 1, k, c => if Z k = 0 then 0 else if sgB (Z k) = mi then chkS Z mi r (k + 1) c else 0
/-- steady by the axis, as the class says it -/
def stA (Z : Nat → Int64) : Int32 := if deg5 Z = -1 then 0 else if deg5 Z = 0 then 1 else if deg5 Z = 1 then chkS Z (sgB (Z 1)) 1 0 1 else if deg5 Z = 2 then chkS Z (sgB (Z 2)) 2 0 1
  else if deg5 Z = 3 then chkS Z (sgB (Z 3)) 3 0 (if sgB (Z 3) = 0 then (if Z 3 * (Z 2 * Z 1 - Z 3 * Z 0) - Z 4 * Z 1 * Z 1 ≤ 0 then 0 else 1) else (if 0 ≤ Z 3 * (Z 2 * Z 1 - Z 3 * Z 0) - Z 4 * Z 1 * Z 1 then 0 else 1))
  else chkS Z (sgB (Z 4)) 4 0 (if sgB (Z 4) = 0 then (if Z 3 * (Z 2 * Z 1 - Z 3 * Z 0) - Z 4 * Z 1 * Z 1 ≤ 0 then 0 else 1) else (if 0 ≤ Z 3 * (Z 2 * Z 1 - Z 3 * Z 0) - Z 4 * Z 1 * Z 1 then 0 else 1))
theorem deg5_cases (Z : Nat → Int64) : deg5 Z = -1 ∨ deg5 Z = 0 ∨ deg5 Z = 1 ∨ deg5 Z = 2 ∨ deg5 Z = 3 ∨ deg5 Z = 4 := by
  unfold deg5
  repeat' split
  all_goals decide
set_option maxHeartbeats 4000000 in
set_option maxRecDepth 100000 in
theorem t_X1_isSteadyByAxis {n : Nat} {hp : mHp} {h : Nat} {Z : Nat → Int64} (h1 : hp h = eL 5 Z) : mC D_X1_isSteadyByAxis [.ref h] n hp (rI (stA Z) hp) := by
  refine m_enter rfl rfl (Nat.le_of_ble_eq_true rfl) (fun K hF => ?_)
  show mW K _ 0 0 _ _ 0 [.ref h, .retAddr 0, .retAddr 0, .retAddr 0, .retAddr 0] []
  refine m_aload_n dX1_isSteadyByAxis_0 rfl ?_
  refine m_invSN_I dX1_isSteadyByAxis_1 lk_X1_42 ar_X7_degreeOf (t_X7_degreeOf (by first | assumption | rfl)) rfl (Nat.le_of_ble_eq_true rfl) (by decide) (by decide) (by decide) (by decide) rfl rfl ?_
  try rw [va_uu]
  refine m_istore_n dX1_isSteadyByAxis_4 (by decide) ?_
  show mW _ _ _ _ _ _ 5 [_, _, _, _, _] _
  refine m_iload_n dX1_isSteadyByAxis_5 rfl ?_
  refine m_iconst (v := -1) dX1_isSteadyByAxis_6 (by decide) ?_
  refine m_icmp_ne (t := 12) dX1_isSteadyByAxis_7 (by decide) (fun c7 => ?_) (fun c7 => ?_)
  rotate_left
  · refine m_iconst (v := 0) dX1_isSteadyByAxis_10 (by decide) ?_
    exact m_zreturn hF dX1_isSteadyByAxis_11 rfl rfl rfl rfl ⟨by unfold stA; rw [if_pos c7], rfl⟩
  rcases deg5_cases Z with e | e | e | e | e | e
  · exact absurd e c7
  · rw [e]
    refine m_aload_n dX1_isSteadyByAxis_12 rfl ?_
    refine m_iload_n dX1_isSteadyByAxis_13 rfl ?_
    refine m_laload (k := 0) dX1_isSteadyByAxis_14 (by first | assumption | rfl) ⟨by decide, by decide⟩ ?_
    refine m_lconst (v := 0) dX1_isSteadyByAxis_15 (by decide) ?_
    refine m_tern_I (J := 25) (x := 0) (y := 1) (m_lc_ge (t := 24) dX1_isSteadyByAxis_16 dX1_isSteadyByAxis_17 (by decide)) (fun k9 => ?_) (fun k9 => ?_) ?_
    · refine m_iconst (v := 0) dX1_isSteadyByAxis_24 (by decide) ?_
      exact k9
    · refine m_iconst (v := 1) dX1_isSteadyByAxis_20 (by decide) ?_
      refine m_goto (t := 25) dX1_isSteadyByAxis_21 (by decide) ?_
      exact k9
    refine m_istore_n dX1_isSteadyByAxis_25 (by decide) ?_
    show mW _ _ _ _ _ _ 26 [_, _, _, _, _] _
    refine m_iconst (v := 0) dX1_isSteadyByAxis_26 (by decide) ?_
    refine m_istore_n dX1_isSteadyByAxis_27 (by decide) ?_
    show mW _ _ _ _ _ _ 28 [_, _, _, _, _] _
    refine m_iload_n dX1_isSteadyByAxis_28 rfl ?_
    refine m_iload_n dX1_isSteadyByAxis_29 rfl ?_
    refine m_icmp_ge (t := 66) dX1_isSteadyByAxis_30 (by decide) (fun _ => ?_) (fun q => absurd (by decide) q)
    refine m_iload_n dX1_isSteadyByAxis_66 rfl ?_
    refine m_iconst (v := 3) dX1_isSteadyByAxis_67 (by decide) ?_
    refine m_icmp_ge (t := 73) dX1_isSteadyByAxis_68 (by decide) (fun q => absurd q (by decide)) (fun _ => ?_)
    refine m_iconst (v := 1) dX1_isSteadyByAxis_71 (by decide) ?_
    exact m_zreturn hF dX1_isSteadyByAxis_72 rfl rfl rfl rfl ⟨by unfold stA; rw [e, if_neg (by decide), if_pos rfl], rfl⟩
  · rw [e]
    refine m_aload_n dX1_isSteadyByAxis_12 rfl ?_
    refine m_iload_n dX1_isSteadyByAxis_13 rfl ?_
    refine m_laload (k := 1) dX1_isSteadyByAxis_14 (by first | assumption | rfl) ⟨by decide, by decide⟩ ?_
    refine m_lconst (v := 0) dX1_isSteadyByAxis_15 (by decide) ?_
    refine m_tern_I (J := 25) (x := 0) (y := 1) (m_lc_ge (t := 24) dX1_isSteadyByAxis_16 dX1_isSteadyByAxis_17 (by decide)) (fun k9 => ?_) (fun k9 => ?_) ?_
    · refine m_iconst (v := 0) dX1_isSteadyByAxis_24 (by decide) ?_
      exact k9
    · refine m_iconst (v := 1) dX1_isSteadyByAxis_20 (by decide) ?_
      refine m_goto (t := 25) dX1_isSteadyByAxis_21 (by decide) ?_
      exact k9
    refine m_istore_n dX1_isSteadyByAxis_25 (by decide) ?_
    show mW _ _ _ _ _ _ 26 [_, _, _, _, _] _
    refine m_iconst (v := 0) dX1_isSteadyByAxis_26 (by decide) ?_
    refine m_istore_n dX1_isSteadyByAxis_27 (by decide) ?_
    show mW _ _ _ _ _ _ 28 [_, _, _, _, _] _
    refine m_iload_n dX1_isSteadyByAxis_28 rfl ?_
    refine m_iload_n dX1_isSteadyByAxis_29 rfl ?_
    refine m_icmp_ge (t := 66) dX1_isSteadyByAxis_30 (by decide) (fun q => absurd q (by decide)) (fun _ => ?_)
    refine m_aload_n dX1_isSteadyByAxis_33 rfl ?_
    refine m_iload_n dX1_isSteadyByAxis_34 rfl ?_
    refine m_laload (k := 0) dX1_isSteadyByAxis_35 (by first | assumption | rfl) ⟨by decide, by decide⟩ ?_
    refine m_lconst (v := 0) dX1_isSteadyByAxis_36 (by decide) ?_
    refine m_lc_eq (t := 58) dX1_isSteadyByAxis_37 dX1_isSteadyByAxis_38 (by decide) (fun c37 => ?_) (fun c37 => ?_)
    · refine m_iconst (v := 0) dX1_isSteadyByAxis_58 (by decide) ?_
      exact m_zreturn hF dX1_isSteadyByAxis_59 rfl rfl rfl rfl ⟨by unfold stA; rw [e, if_neg (by decide), if_neg (by decide), if_pos rfl]; simp only [chkS, if_pos c37], rfl⟩
    refine m_aload_n dX1_isSteadyByAxis_41 rfl ?_
    refine m_iload_n dX1_isSteadyByAxis_42 rfl ?_
    refine m_laload (k := 0) dX1_isSteadyByAxis_43 (by first | assumption | rfl) ⟨by decide, by decide⟩ ?_
    refine m_lconst (v := 0) dX1_isSteadyByAxis_44 (by decide) ?_
    refine m_tern_I (J := 54) (x := 0) (y := 1) (m_lc_ge (t := 53) dX1_isSteadyByAxis_45 dX1_isSteadyByAxis_46 (by decide)) (fun k9 => ?_) (fun k9 => ?_) ?_
    · refine m_iconst (v := 0) dX1_isSteadyByAxis_53 (by decide) ?_
      exact k9
    · refine m_iconst (v := 1) dX1_isSteadyByAxis_49 (by decide) ?_
      refine m_goto (t := 54) dX1_isSteadyByAxis_50 (by decide) ?_
      exact k9
    refine m_iload_n dX1_isSteadyByAxis_54 rfl ?_
    refine m_icmp_eq (t := 60) dX1_isSteadyByAxis_55 (by decide) (fun c55 => ?_) (fun c55 => ?_)
    rotate_left
    · refine m_iconst (v := 0) dX1_isSteadyByAxis_58 (by decide) ?_
      exact m_zreturn hF dX1_isSteadyByAxis_59 rfl rfl rfl rfl ⟨by unfold stA; rw [e, if_neg (by decide), if_neg (by decide), if_pos rfl]; simp only [chkS, if_neg c37, if_neg c55], rfl⟩
    refine m_iinc (v := 1) dX1_isSteadyByAxis_60 rfl (by decide) (by decide) ?_
    show mW _ _ _ _ _ _ 63 [_, _, _, _, _] _
    refine m_goto (t := 28) dX1_isSteadyByAxis_63 (by decide) ?_
    refine m_iload_n dX1_isSteadyByAxis_28 rfl ?_
    refine m_iload_n dX1_isSteadyByAxis_29 rfl ?_
    refine m_icmp_ge (t := 66) dX1_isSteadyByAxis_30 (by decide) (fun _ => ?_) (fun q => absurd (by decide) q)
    refine m_iload_n dX1_isSteadyByAxis_66 rfl ?_
    refine m_iconst (v := 3) dX1_isSteadyByAxis_67 (by decide) ?_
    refine m_icmp_ge (t := 73) dX1_isSteadyByAxis_68 (by decide) (fun q => absurd q (by decide)) (fun _ => ?_)
    refine m_iconst (v := 1) dX1_isSteadyByAxis_71 (by decide) ?_
    exact m_zreturn hF dX1_isSteadyByAxis_72 rfl rfl rfl rfl ⟨by unfold stA; rw [e, if_neg (by decide), if_neg (by decide), if_pos rfl]; simp only [chkS, if_neg c37, if_pos c55], rfl⟩
  · rw [e]
    refine m_aload_n dX1_isSteadyByAxis_12 rfl ?_
    refine m_iload_n dX1_isSteadyByAxis_13 rfl ?_
    refine m_laload (k := 2) dX1_isSteadyByAxis_14 (by first | assumption | rfl) ⟨by decide, by decide⟩ ?_
    refine m_lconst (v := 0) dX1_isSteadyByAxis_15 (by decide) ?_
    refine m_tern_I (J := 25) (x := 0) (y := 1) (m_lc_ge (t := 24) dX1_isSteadyByAxis_16 dX1_isSteadyByAxis_17 (by decide)) (fun k9 => ?_) (fun k9 => ?_) ?_
    · refine m_iconst (v := 0) dX1_isSteadyByAxis_24 (by decide) ?_
      exact k9
    · refine m_iconst (v := 1) dX1_isSteadyByAxis_20 (by decide) ?_
      refine m_goto (t := 25) dX1_isSteadyByAxis_21 (by decide) ?_
      exact k9
    refine m_istore_n dX1_isSteadyByAxis_25 (by decide) ?_
    show mW _ _ _ _ _ _ 26 [_, _, _, _, _] _
    refine m_iconst (v := 0) dX1_isSteadyByAxis_26 (by decide) ?_
    refine m_istore_n dX1_isSteadyByAxis_27 (by decide) ?_
    show mW _ _ _ _ _ _ 28 [_, _, _, _, _] _
    refine m_iload_n dX1_isSteadyByAxis_28 rfl ?_
    refine m_iload_n dX1_isSteadyByAxis_29 rfl ?_
    refine m_icmp_ge (t := 66) dX1_isSteadyByAxis_30 (by decide) (fun q => absurd q (by decide)) (fun _ => ?_)
    refine m_aload_n dX1_isSteadyByAxis_33 rfl ?_
    refine m_iload_n dX1_isSteadyByAxis_34 rfl ?_
    refine m_laload (k := 0) dX1_isSteadyByAxis_35 (by first | assumption | rfl) ⟨by decide, by decide⟩ ?_
    refine m_lconst (v := 0) dX1_isSteadyByAxis_36 (by decide) ?_
    refine m_lc_eq (t := 58) dX1_isSteadyByAxis_37 dX1_isSteadyByAxis_38 (by decide) (fun c37 => ?_) (fun c37 => ?_)
    · refine m_iconst (v := 0) dX1_isSteadyByAxis_58 (by decide) ?_
      exact m_zreturn hF dX1_isSteadyByAxis_59 rfl rfl rfl rfl ⟨by unfold stA; rw [e, if_neg (by decide), if_neg (by decide), if_neg (by decide), if_pos rfl]; simp only [chkS, if_pos c37], rfl⟩
    refine m_aload_n dX1_isSteadyByAxis_41 rfl ?_
    refine m_iload_n dX1_isSteadyByAxis_42 rfl ?_
    refine m_laload (k := 0) dX1_isSteadyByAxis_43 (by first | assumption | rfl) ⟨by decide, by decide⟩ ?_
    refine m_lconst (v := 0) dX1_isSteadyByAxis_44 (by decide) ?_
    refine m_tern_I (J := 54) (x := 0) (y := 1) (m_lc_ge (t := 53) dX1_isSteadyByAxis_45 dX1_isSteadyByAxis_46 (by decide)) (fun k9 => ?_) (fun k9 => ?_) ?_
    · refine m_iconst (v := 0) dX1_isSteadyByAxis_53 (by decide) ?_
      exact k9
    · refine m_iconst (v := 1) dX1_isSteadyByAxis_49 (by decide) ?_
      refine m_goto (t := 54) dX1_isSteadyByAxis_50 (by decide) ?_
      exact k9
    refine m_iload_n dX1_isSteadyByAxis_54 rfl ?_
    refine m_icmp_eq (t := 60) dX1_isSteadyByAxis_55 (by decide) (fun c55 => ?_) (fun c55 => ?_)
    rotate_left
    · refine m_iconst (v := 0) dX1_isSteadyByAxis_58 (by decide) ?_
      exact m_zreturn hF dX1_isSteadyByAxis_59 rfl rfl rfl rfl ⟨by unfold stA; rw [e, if_neg (by decide), if_neg (by decide), if_neg (by decide), if_pos rfl]; simp only [chkS, if_neg c37, if_neg c55], rfl⟩
    refine m_iinc (v := 1) dX1_isSteadyByAxis_60 rfl (by decide) (by decide) ?_
    show mW _ _ _ _ _ _ 63 [_, _, _, _, _] _
    refine m_goto (t := 28) dX1_isSteadyByAxis_63 (by decide) ?_
    refine m_iload_n dX1_isSteadyByAxis_28 rfl ?_
    refine m_iload_n dX1_isSteadyByAxis_29 rfl ?_
    refine m_icmp_ge (t := 66) dX1_isSteadyByAxis_30 (by decide) (fun q => absurd q (by decide)) (fun _ => ?_)
    refine m_aload_n dX1_isSteadyByAxis_33 rfl ?_
    refine m_iload_n dX1_isSteadyByAxis_34 rfl ?_
    refine m_laload (k := 1) dX1_isSteadyByAxis_35 (by first | assumption | rfl) ⟨by decide, by decide⟩ ?_
    refine m_lconst (v := 0) dX1_isSteadyByAxis_36 (by decide) ?_
    refine m_lc_eq (t := 58) dX1_isSteadyByAxis_37 dX1_isSteadyByAxis_38 (by decide) (fun c37_1 => ?_) (fun c37_1 => ?_)
    · refine m_iconst (v := 0) dX1_isSteadyByAxis_58 (by decide) ?_
      exact m_zreturn hF dX1_isSteadyByAxis_59 rfl rfl rfl rfl ⟨by unfold stA; rw [e, if_neg (by decide), if_neg (by decide), if_neg (by decide), if_pos rfl]; simp only [chkS, if_neg c37, if_pos c55, if_pos c37_1], rfl⟩
    refine m_aload_n dX1_isSteadyByAxis_41 rfl ?_
    refine m_iload_n dX1_isSteadyByAxis_42 rfl ?_
    refine m_laload (k := 1) dX1_isSteadyByAxis_43 (by first | assumption | rfl) ⟨by decide, by decide⟩ ?_
    refine m_lconst (v := 0) dX1_isSteadyByAxis_44 (by decide) ?_
    refine m_tern_I (J := 54) (x := 0) (y := 1) (m_lc_ge (t := 53) dX1_isSteadyByAxis_45 dX1_isSteadyByAxis_46 (by decide)) (fun k9 => ?_) (fun k9 => ?_) ?_
    · refine m_iconst (v := 0) dX1_isSteadyByAxis_53 (by decide) ?_
      exact k9
    · refine m_iconst (v := 1) dX1_isSteadyByAxis_49 (by decide) ?_
      refine m_goto (t := 54) dX1_isSteadyByAxis_50 (by decide) ?_
      exact k9
    refine m_iload_n dX1_isSteadyByAxis_54 rfl ?_
    refine m_icmp_eq (t := 60) dX1_isSteadyByAxis_55 (by decide) (fun c55_1 => ?_) (fun c55_1 => ?_)
    rotate_left
    · refine m_iconst (v := 0) dX1_isSteadyByAxis_58 (by decide) ?_
      exact m_zreturn hF dX1_isSteadyByAxis_59 rfl rfl rfl rfl ⟨by unfold stA; rw [e, if_neg (by decide), if_neg (by decide), if_neg (by decide), if_pos rfl]; simp only [chkS, if_neg c37, if_pos c55, if_neg c37_1, if_neg c55_1], rfl⟩
    refine m_iinc (v := 2) dX1_isSteadyByAxis_60 rfl (by decide) (by decide) ?_
    show mW _ _ _ _ _ _ 63 [_, _, _, _, _] _
    refine m_goto (t := 28) dX1_isSteadyByAxis_63 (by decide) ?_
    refine m_iload_n dX1_isSteadyByAxis_28 rfl ?_
    refine m_iload_n dX1_isSteadyByAxis_29 rfl ?_
    refine m_icmp_ge (t := 66) dX1_isSteadyByAxis_30 (by decide) (fun _ => ?_) (fun q => absurd (by decide) q)
    refine m_iload_n dX1_isSteadyByAxis_66 rfl ?_
    refine m_iconst (v := 3) dX1_isSteadyByAxis_67 (by decide) ?_
    refine m_icmp_ge (t := 73) dX1_isSteadyByAxis_68 (by decide) (fun q => absurd q (by decide)) (fun _ => ?_)
    refine m_iconst (v := 1) dX1_isSteadyByAxis_71 (by decide) ?_
    exact m_zreturn hF dX1_isSteadyByAxis_72 rfl rfl rfl rfl ⟨by unfold stA; rw [e, if_neg (by decide), if_neg (by decide), if_neg (by decide), if_pos rfl]; simp only [chkS, if_neg c37, if_pos c55, if_neg c37_1, if_pos c55_1], rfl⟩
  · rw [e]
    refine m_aload_n dX1_isSteadyByAxis_12 rfl ?_
    refine m_iload_n dX1_isSteadyByAxis_13 rfl ?_
    refine m_laload (k := 3) dX1_isSteadyByAxis_14 (by first | assumption | rfl) ⟨by decide, by decide⟩ ?_
    refine m_lconst (v := 0) dX1_isSteadyByAxis_15 (by decide) ?_
    refine m_tern_I (J := 25) (x := 0) (y := 1) (m_lc_ge (t := 24) dX1_isSteadyByAxis_16 dX1_isSteadyByAxis_17 (by decide)) (fun k9 => ?_) (fun k9 => ?_) ?_
    · refine m_iconst (v := 0) dX1_isSteadyByAxis_24 (by decide) ?_
      exact k9
    · refine m_iconst (v := 1) dX1_isSteadyByAxis_20 (by decide) ?_
      refine m_goto (t := 25) dX1_isSteadyByAxis_21 (by decide) ?_
      exact k9
    refine m_istore_n dX1_isSteadyByAxis_25 (by decide) ?_
    show mW _ _ _ _ _ _ 26 [_, _, _, _, _] _
    refine m_iconst (v := 0) dX1_isSteadyByAxis_26 (by decide) ?_
    refine m_istore_n dX1_isSteadyByAxis_27 (by decide) ?_
    show mW _ _ _ _ _ _ 28 [_, _, _, _, _] _
    refine m_iload_n dX1_isSteadyByAxis_28 rfl ?_
    refine m_iload_n dX1_isSteadyByAxis_29 rfl ?_
    refine m_icmp_ge (t := 66) dX1_isSteadyByAxis_30 (by decide) (fun q => absurd q (by decide)) (fun _ => ?_)
    refine m_aload_n dX1_isSteadyByAxis_33 rfl ?_
    refine m_iload_n dX1_isSteadyByAxis_34 rfl ?_
    refine m_laload (k := 0) dX1_isSteadyByAxis_35 (by first | assumption | rfl) ⟨by decide, by decide⟩ ?_
    refine m_lconst (v := 0) dX1_isSteadyByAxis_36 (by decide) ?_
    refine m_lc_eq (t := 58) dX1_isSteadyByAxis_37 dX1_isSteadyByAxis_38 (by decide) (fun c37 => ?_) (fun c37 => ?_)
    · refine m_iconst (v := 0) dX1_isSteadyByAxis_58 (by decide) ?_
      exact m_zreturn hF dX1_isSteadyByAxis_59 rfl rfl rfl rfl ⟨by unfold stA; rw [e, if_neg (by decide), if_neg (by decide), if_neg (by decide), if_neg (by decide), if_pos rfl]; simp only [chkS, if_pos c37], rfl⟩
    refine m_aload_n dX1_isSteadyByAxis_41 rfl ?_
    refine m_iload_n dX1_isSteadyByAxis_42 rfl ?_
    refine m_laload (k := 0) dX1_isSteadyByAxis_43 (by first | assumption | rfl) ⟨by decide, by decide⟩ ?_
    refine m_lconst (v := 0) dX1_isSteadyByAxis_44 (by decide) ?_
    refine m_tern_I (J := 54) (x := 0) (y := 1) (m_lc_ge (t := 53) dX1_isSteadyByAxis_45 dX1_isSteadyByAxis_46 (by decide)) (fun k9 => ?_) (fun k9 => ?_) ?_
    · refine m_iconst (v := 0) dX1_isSteadyByAxis_53 (by decide) ?_
      exact k9
    · refine m_iconst (v := 1) dX1_isSteadyByAxis_49 (by decide) ?_
      refine m_goto (t := 54) dX1_isSteadyByAxis_50 (by decide) ?_
      exact k9
    refine m_iload_n dX1_isSteadyByAxis_54 rfl ?_
    refine m_icmp_eq (t := 60) dX1_isSteadyByAxis_55 (by decide) (fun c55 => ?_) (fun c55 => ?_)
    rotate_left
    · refine m_iconst (v := 0) dX1_isSteadyByAxis_58 (by decide) ?_
      exact m_zreturn hF dX1_isSteadyByAxis_59 rfl rfl rfl rfl ⟨by unfold stA; rw [e, if_neg (by decide), if_neg (by decide), if_neg (by decide), if_neg (by decide), if_pos rfl]; simp only [chkS, if_neg c37, if_neg c55], rfl⟩
    refine m_iinc (v := 1) dX1_isSteadyByAxis_60 rfl (by decide) (by decide) ?_
    show mW _ _ _ _ _ _ 63 [_, _, _, _, _] _
    refine m_goto (t := 28) dX1_isSteadyByAxis_63 (by decide) ?_
    refine m_iload_n dX1_isSteadyByAxis_28 rfl ?_
    refine m_iload_n dX1_isSteadyByAxis_29 rfl ?_
    refine m_icmp_ge (t := 66) dX1_isSteadyByAxis_30 (by decide) (fun q => absurd q (by decide)) (fun _ => ?_)
    refine m_aload_n dX1_isSteadyByAxis_33 rfl ?_
    refine m_iload_n dX1_isSteadyByAxis_34 rfl ?_
    refine m_laload (k := 1) dX1_isSteadyByAxis_35 (by first | assumption | rfl) ⟨by decide, by decide⟩ ?_
    refine m_lconst (v := 0) dX1_isSteadyByAxis_36 (by decide) ?_
    refine m_lc_eq (t := 58) dX1_isSteadyByAxis_37 dX1_isSteadyByAxis_38 (by decide) (fun c37_1 => ?_) (fun c37_1 => ?_)
    · refine m_iconst (v := 0) dX1_isSteadyByAxis_58 (by decide) ?_
      exact m_zreturn hF dX1_isSteadyByAxis_59 rfl rfl rfl rfl ⟨by unfold stA; rw [e, if_neg (by decide), if_neg (by decide), if_neg (by decide), if_neg (by decide), if_pos rfl]; simp only [chkS, if_neg c37, if_pos c55, if_pos c37_1], rfl⟩
    refine m_aload_n dX1_isSteadyByAxis_41 rfl ?_
    refine m_iload_n dX1_isSteadyByAxis_42 rfl ?_
    refine m_laload (k := 1) dX1_isSteadyByAxis_43 (by first | assumption | rfl) ⟨by decide, by decide⟩ ?_
    refine m_lconst (v := 0) dX1_isSteadyByAxis_44 (by decide) ?_
    refine m_tern_I (J := 54) (x := 0) (y := 1) (m_lc_ge (t := 53) dX1_isSteadyByAxis_45 dX1_isSteadyByAxis_46 (by decide)) (fun k9 => ?_) (fun k9 => ?_) ?_
    · refine m_iconst (v := 0) dX1_isSteadyByAxis_53 (by decide) ?_
      exact k9
    · refine m_iconst (v := 1) dX1_isSteadyByAxis_49 (by decide) ?_
      refine m_goto (t := 54) dX1_isSteadyByAxis_50 (by decide) ?_
      exact k9
    refine m_iload_n dX1_isSteadyByAxis_54 rfl ?_
    refine m_icmp_eq (t := 60) dX1_isSteadyByAxis_55 (by decide) (fun c55_1 => ?_) (fun c55_1 => ?_)
    rotate_left
    · refine m_iconst (v := 0) dX1_isSteadyByAxis_58 (by decide) ?_
      exact m_zreturn hF dX1_isSteadyByAxis_59 rfl rfl rfl rfl ⟨by unfold stA; rw [e, if_neg (by decide), if_neg (by decide), if_neg (by decide), if_neg (by decide), if_pos rfl]; simp only [chkS, if_neg c37, if_pos c55, if_neg c37_1, if_neg c55_1], rfl⟩
    refine m_iinc (v := 2) dX1_isSteadyByAxis_60 rfl (by decide) (by decide) ?_
    show mW _ _ _ _ _ _ 63 [_, _, _, _, _] _
    refine m_goto (t := 28) dX1_isSteadyByAxis_63 (by decide) ?_
    refine m_iload_n dX1_isSteadyByAxis_28 rfl ?_
    refine m_iload_n dX1_isSteadyByAxis_29 rfl ?_
    refine m_icmp_ge (t := 66) dX1_isSteadyByAxis_30 (by decide) (fun q => absurd q (by decide)) (fun _ => ?_)
    refine m_aload_n dX1_isSteadyByAxis_33 rfl ?_
    refine m_iload_n dX1_isSteadyByAxis_34 rfl ?_
    refine m_laload (k := 2) dX1_isSteadyByAxis_35 (by first | assumption | rfl) ⟨by decide, by decide⟩ ?_
    refine m_lconst (v := 0) dX1_isSteadyByAxis_36 (by decide) ?_
    refine m_lc_eq (t := 58) dX1_isSteadyByAxis_37 dX1_isSteadyByAxis_38 (by decide) (fun c37_2 => ?_) (fun c37_2 => ?_)
    · refine m_iconst (v := 0) dX1_isSteadyByAxis_58 (by decide) ?_
      exact m_zreturn hF dX1_isSteadyByAxis_59 rfl rfl rfl rfl ⟨by unfold stA; rw [e, if_neg (by decide), if_neg (by decide), if_neg (by decide), if_neg (by decide), if_pos rfl]; simp only [chkS, if_neg c37, if_pos c55, if_neg c37_1, if_pos c55_1, if_pos c37_2], rfl⟩
    refine m_aload_n dX1_isSteadyByAxis_41 rfl ?_
    refine m_iload_n dX1_isSteadyByAxis_42 rfl ?_
    refine m_laload (k := 2) dX1_isSteadyByAxis_43 (by first | assumption | rfl) ⟨by decide, by decide⟩ ?_
    refine m_lconst (v := 0) dX1_isSteadyByAxis_44 (by decide) ?_
    refine m_tern_I (J := 54) (x := 0) (y := 1) (m_lc_ge (t := 53) dX1_isSteadyByAxis_45 dX1_isSteadyByAxis_46 (by decide)) (fun k9 => ?_) (fun k9 => ?_) ?_
    · refine m_iconst (v := 0) dX1_isSteadyByAxis_53 (by decide) ?_
      exact k9
    · refine m_iconst (v := 1) dX1_isSteadyByAxis_49 (by decide) ?_
      refine m_goto (t := 54) dX1_isSteadyByAxis_50 (by decide) ?_
      exact k9
    refine m_iload_n dX1_isSteadyByAxis_54 rfl ?_
    refine m_icmp_eq (t := 60) dX1_isSteadyByAxis_55 (by decide) (fun c55_2 => ?_) (fun c55_2 => ?_)
    rotate_left
    · refine m_iconst (v := 0) dX1_isSteadyByAxis_58 (by decide) ?_
      exact m_zreturn hF dX1_isSteadyByAxis_59 rfl rfl rfl rfl ⟨by unfold stA; rw [e, if_neg (by decide), if_neg (by decide), if_neg (by decide), if_neg (by decide), if_pos rfl]; simp only [chkS, if_neg c37, if_pos c55, if_neg c37_1, if_pos c55_1, if_neg c37_2, if_neg c55_2], rfl⟩
    refine m_iinc (v := 3) dX1_isSteadyByAxis_60 rfl (by decide) (by decide) ?_
    show mW _ _ _ _ _ _ 63 [_, _, _, _, _] _
    refine m_goto (t := 28) dX1_isSteadyByAxis_63 (by decide) ?_
    refine m_iload_n dX1_isSteadyByAxis_28 rfl ?_
    refine m_iload_n dX1_isSteadyByAxis_29 rfl ?_
    refine m_icmp_ge (t := 66) dX1_isSteadyByAxis_30 (by decide) (fun _ => ?_) (fun q => absurd (by decide) q)
    refine m_iload_n dX1_isSteadyByAxis_66 rfl ?_
    refine m_iconst (v := 3) dX1_isSteadyByAxis_67 (by decide) ?_
    refine m_icmp_ge (t := 73) dX1_isSteadyByAxis_68 (by decide) (fun _ => ?_) (fun q => absurd (by decide) q)
    refine m_aload_n dX1_isSteadyByAxis_73 rfl ?_
    refine m_iconst (v := 3) dX1_isSteadyByAxis_74 (by decide) ?_
    refine m_laload (k := 3) dX1_isSteadyByAxis_75 (by first | assumption | rfl) ⟨by decide, by decide⟩ ?_
    refine m_aload_n dX1_isSteadyByAxis_76 rfl ?_
    refine m_iconst (v := 2) dX1_isSteadyByAxis_77 (by decide) ?_
    refine m_laload (k := 2) dX1_isSteadyByAxis_78 (by first | assumption | rfl) ⟨by decide, by decide⟩ ?_
    refine m_aload_n dX1_isSteadyByAxis_79 rfl ?_
    refine m_iconst (v := 1) dX1_isSteadyByAxis_80 (by decide) ?_
    refine m_laload (k := 1) dX1_isSteadyByAxis_81 (by first | assumption | rfl) ⟨by decide, by decide⟩ ?_
    refine m_lmul dX1_isSteadyByAxis_82 ?_
    refine m_aload_n dX1_isSteadyByAxis_83 rfl ?_
    refine m_iconst (v := 3) dX1_isSteadyByAxis_84 (by decide) ?_
    refine m_laload (k := 3) dX1_isSteadyByAxis_85 (by first | assumption | rfl) ⟨by decide, by decide⟩ ?_
    refine m_aload_n dX1_isSteadyByAxis_86 rfl ?_
    refine m_iconst (v := 0) dX1_isSteadyByAxis_87 (by decide) ?_
    refine m_laload (k := 0) dX1_isSteadyByAxis_88 (by first | assumption | rfl) ⟨by decide, by decide⟩ ?_
    refine m_lmul dX1_isSteadyByAxis_89 ?_
    refine m_lsub dX1_isSteadyByAxis_90 ?_
    refine m_lmul dX1_isSteadyByAxis_91 ?_
    refine m_aload_n dX1_isSteadyByAxis_92 rfl ?_
    refine m_iconst (v := 4) dX1_isSteadyByAxis_93 (by decide) ?_
    refine m_laload (k := 4) dX1_isSteadyByAxis_94 (by first | assumption | rfl) ⟨by decide, by decide⟩ ?_
    refine m_aload_n dX1_isSteadyByAxis_95 rfl ?_
    refine m_iconst (v := 1) dX1_isSteadyByAxis_96 (by decide) ?_
    refine m_laload (k := 1) dX1_isSteadyByAxis_97 (by first | assumption | rfl) ⟨by decide, by decide⟩ ?_
    refine m_lmul dX1_isSteadyByAxis_98 ?_
    refine m_aload_n dX1_isSteadyByAxis_99 rfl ?_
    refine m_iconst (v := 1) dX1_isSteadyByAxis_100 (by decide) ?_
    refine m_laload (k := 1) dX1_isSteadyByAxis_101 (by first | assumption | rfl) ⟨by decide, by decide⟩ ?_
    refine m_lmul dX1_isSteadyByAxis_102 ?_
    refine m_lsub dX1_isSteadyByAxis_103 ?_
    refine m_lstore_n dX1_isSteadyByAxis_104 (by decide) ?_
    show mW _ _ _ _ _ _ 105 [_, _, _, _, _] _
    refine m_iload_n dX1_isSteadyByAxis_105 rfl ?_
    refine m_if_eq (t := 123) dX1_isSteadyByAxis_106 (by decide) (fun c106 => ?_) (fun c106 => ?_)
    · refine m_lload_n dX1_isSteadyByAxis_123 rfl ?_
      refine m_lconst (v := 0) dX1_isSteadyByAxis_124 (by decide) ?_
      refine m_lc_le (t := 133) dX1_isSteadyByAxis_125 dX1_isSteadyByAxis_126 (by decide) (fun c125 => ?_) (fun c125 => ?_)
      · refine m_iconst (v := 0) dX1_isSteadyByAxis_133 (by decide) ?_
        exact m_zreturn hF dX1_isSteadyByAxis_134 rfl rfl rfl rfl ⟨by unfold stA; rw [e, if_neg (by decide), if_neg (by decide), if_neg (by decide), if_neg (by decide), if_pos rfl]; simp only [chkS, if_neg c37, if_pos c55, if_neg c37_1, if_pos c55_1, if_neg c37_2, if_pos c55_2, if_pos c106, if_pos c125], rfl⟩
      refine m_iconst (v := 1) dX1_isSteadyByAxis_129 (by decide) ?_
      refine m_goto (t := 134) dX1_isSteadyByAxis_130 (by decide) ?_
      exact m_zreturn hF dX1_isSteadyByAxis_134 rfl rfl rfl rfl ⟨by unfold stA; rw [e, if_neg (by decide), if_neg (by decide), if_neg (by decide), if_neg (by decide), if_pos rfl]; simp only [chkS, if_neg c37, if_pos c55, if_neg c37_1, if_pos c55_1, if_neg c37_2, if_pos c55_2, if_pos c106, if_neg c125], rfl⟩
    refine m_lload_n dX1_isSteadyByAxis_109 rfl ?_
    refine m_lconst (v := 0) dX1_isSteadyByAxis_110 (by decide) ?_
    refine m_lc_ge (t := 119) dX1_isSteadyByAxis_111 dX1_isSteadyByAxis_112 (by decide) (fun c111 => ?_) (fun c111 => ?_)
    · refine m_iconst (v := 0) dX1_isSteadyByAxis_119 (by decide) ?_
      refine m_goto (t := 134) dX1_isSteadyByAxis_120 (by decide) ?_
      exact m_zreturn hF dX1_isSteadyByAxis_134 rfl rfl rfl rfl ⟨by unfold stA; rw [e, if_neg (by decide), if_neg (by decide), if_neg (by decide), if_neg (by decide), if_pos rfl]; simp only [chkS, if_neg c37, if_pos c55, if_neg c37_1, if_pos c55_1, if_neg c37_2, if_pos c55_2, if_neg c106, if_pos c111], rfl⟩
    refine m_iconst (v := 1) dX1_isSteadyByAxis_115 (by decide) ?_
    refine m_goto (t := 134) dX1_isSteadyByAxis_116 (by decide) ?_
    exact m_zreturn hF dX1_isSteadyByAxis_134 rfl rfl rfl rfl ⟨by unfold stA; rw [e, if_neg (by decide), if_neg (by decide), if_neg (by decide), if_neg (by decide), if_pos rfl]; simp only [chkS, if_neg c37, if_pos c55, if_neg c37_1, if_pos c55_1, if_neg c37_2, if_pos c55_2, if_neg c106, if_neg c111], rfl⟩
  · rw [e]
    refine m_aload_n dX1_isSteadyByAxis_12 rfl ?_
    refine m_iload_n dX1_isSteadyByAxis_13 rfl ?_
    refine m_laload (k := 4) dX1_isSteadyByAxis_14 (by first | assumption | rfl) ⟨by decide, by decide⟩ ?_
    refine m_lconst (v := 0) dX1_isSteadyByAxis_15 (by decide) ?_
    refine m_tern_I (J := 25) (x := 0) (y := 1) (m_lc_ge (t := 24) dX1_isSteadyByAxis_16 dX1_isSteadyByAxis_17 (by decide)) (fun k9 => ?_) (fun k9 => ?_) ?_
    · refine m_iconst (v := 0) dX1_isSteadyByAxis_24 (by decide) ?_
      exact k9
    · refine m_iconst (v := 1) dX1_isSteadyByAxis_20 (by decide) ?_
      refine m_goto (t := 25) dX1_isSteadyByAxis_21 (by decide) ?_
      exact k9
    refine m_istore_n dX1_isSteadyByAxis_25 (by decide) ?_
    show mW _ _ _ _ _ _ 26 [_, _, _, _, _] _
    refine m_iconst (v := 0) dX1_isSteadyByAxis_26 (by decide) ?_
    refine m_istore_n dX1_isSteadyByAxis_27 (by decide) ?_
    show mW _ _ _ _ _ _ 28 [_, _, _, _, _] _
    refine m_iload_n dX1_isSteadyByAxis_28 rfl ?_
    refine m_iload_n dX1_isSteadyByAxis_29 rfl ?_
    refine m_icmp_ge (t := 66) dX1_isSteadyByAxis_30 (by decide) (fun q => absurd q (by decide)) (fun _ => ?_)
    refine m_aload_n dX1_isSteadyByAxis_33 rfl ?_
    refine m_iload_n dX1_isSteadyByAxis_34 rfl ?_
    refine m_laload (k := 0) dX1_isSteadyByAxis_35 (by first | assumption | rfl) ⟨by decide, by decide⟩ ?_
    refine m_lconst (v := 0) dX1_isSteadyByAxis_36 (by decide) ?_
    refine m_lc_eq (t := 58) dX1_isSteadyByAxis_37 dX1_isSteadyByAxis_38 (by decide) (fun c37 => ?_) (fun c37 => ?_)
    · refine m_iconst (v := 0) dX1_isSteadyByAxis_58 (by decide) ?_
      exact m_zreturn hF dX1_isSteadyByAxis_59 rfl rfl rfl rfl ⟨by unfold stA; rw [e, if_neg (by decide), if_neg (by decide), if_neg (by decide), if_neg (by decide), if_neg (by decide)]; simp only [chkS, if_pos c37], rfl⟩
    refine m_aload_n dX1_isSteadyByAxis_41 rfl ?_
    refine m_iload_n dX1_isSteadyByAxis_42 rfl ?_
    refine m_laload (k := 0) dX1_isSteadyByAxis_43 (by first | assumption | rfl) ⟨by decide, by decide⟩ ?_
    refine m_lconst (v := 0) dX1_isSteadyByAxis_44 (by decide) ?_
    refine m_tern_I (J := 54) (x := 0) (y := 1) (m_lc_ge (t := 53) dX1_isSteadyByAxis_45 dX1_isSteadyByAxis_46 (by decide)) (fun k9 => ?_) (fun k9 => ?_) ?_
    · refine m_iconst (v := 0) dX1_isSteadyByAxis_53 (by decide) ?_
      exact k9
    · refine m_iconst (v := 1) dX1_isSteadyByAxis_49 (by decide) ?_
      refine m_goto (t := 54) dX1_isSteadyByAxis_50 (by decide) ?_
      exact k9
    refine m_iload_n dX1_isSteadyByAxis_54 rfl ?_
    refine m_icmp_eq (t := 60) dX1_isSteadyByAxis_55 (by decide) (fun c55 => ?_) (fun c55 => ?_)
    rotate_left
    · refine m_iconst (v := 0) dX1_isSteadyByAxis_58 (by decide) ?_
      exact m_zreturn hF dX1_isSteadyByAxis_59 rfl rfl rfl rfl ⟨by unfold stA; rw [e, if_neg (by decide), if_neg (by decide), if_neg (by decide), if_neg (by decide), if_neg (by decide)]; simp only [chkS, if_neg c37, if_neg c55], rfl⟩
    refine m_iinc (v := 1) dX1_isSteadyByAxis_60 rfl (by decide) (by decide) ?_
    show mW _ _ _ _ _ _ 63 [_, _, _, _, _] _
    refine m_goto (t := 28) dX1_isSteadyByAxis_63 (by decide) ?_
    refine m_iload_n dX1_isSteadyByAxis_28 rfl ?_
    refine m_iload_n dX1_isSteadyByAxis_29 rfl ?_
    refine m_icmp_ge (t := 66) dX1_isSteadyByAxis_30 (by decide) (fun q => absurd q (by decide)) (fun _ => ?_)
    refine m_aload_n dX1_isSteadyByAxis_33 rfl ?_
    refine m_iload_n dX1_isSteadyByAxis_34 rfl ?_
    refine m_laload (k := 1) dX1_isSteadyByAxis_35 (by first | assumption | rfl) ⟨by decide, by decide⟩ ?_
    refine m_lconst (v := 0) dX1_isSteadyByAxis_36 (by decide) ?_
    refine m_lc_eq (t := 58) dX1_isSteadyByAxis_37 dX1_isSteadyByAxis_38 (by decide) (fun c37_1 => ?_) (fun c37_1 => ?_)
    · refine m_iconst (v := 0) dX1_isSteadyByAxis_58 (by decide) ?_
      exact m_zreturn hF dX1_isSteadyByAxis_59 rfl rfl rfl rfl ⟨by unfold stA; rw [e, if_neg (by decide), if_neg (by decide), if_neg (by decide), if_neg (by decide), if_neg (by decide)]; simp only [chkS, if_neg c37, if_pos c55, if_pos c37_1], rfl⟩
    refine m_aload_n dX1_isSteadyByAxis_41 rfl ?_
    refine m_iload_n dX1_isSteadyByAxis_42 rfl ?_
    refine m_laload (k := 1) dX1_isSteadyByAxis_43 (by first | assumption | rfl) ⟨by decide, by decide⟩ ?_
    refine m_lconst (v := 0) dX1_isSteadyByAxis_44 (by decide) ?_
    refine m_tern_I (J := 54) (x := 0) (y := 1) (m_lc_ge (t := 53) dX1_isSteadyByAxis_45 dX1_isSteadyByAxis_46 (by decide)) (fun k9 => ?_) (fun k9 => ?_) ?_
    · refine m_iconst (v := 0) dX1_isSteadyByAxis_53 (by decide) ?_
      exact k9
    · refine m_iconst (v := 1) dX1_isSteadyByAxis_49 (by decide) ?_
      refine m_goto (t := 54) dX1_isSteadyByAxis_50 (by decide) ?_
      exact k9
    refine m_iload_n dX1_isSteadyByAxis_54 rfl ?_
    refine m_icmp_eq (t := 60) dX1_isSteadyByAxis_55 (by decide) (fun c55_1 => ?_) (fun c55_1 => ?_)
    rotate_left
    · refine m_iconst (v := 0) dX1_isSteadyByAxis_58 (by decide) ?_
      exact m_zreturn hF dX1_isSteadyByAxis_59 rfl rfl rfl rfl ⟨by unfold stA; rw [e, if_neg (by decide), if_neg (by decide), if_neg (by decide), if_neg (by decide), if_neg (by decide)]; simp only [chkS, if_neg c37, if_pos c55, if_neg c37_1, if_neg c55_1], rfl⟩
    refine m_iinc (v := 2) dX1_isSteadyByAxis_60 rfl (by decide) (by decide) ?_
    show mW _ _ _ _ _ _ 63 [_, _, _, _, _] _
    refine m_goto (t := 28) dX1_isSteadyByAxis_63 (by decide) ?_
    refine m_iload_n dX1_isSteadyByAxis_28 rfl ?_
    refine m_iload_n dX1_isSteadyByAxis_29 rfl ?_
    refine m_icmp_ge (t := 66) dX1_isSteadyByAxis_30 (by decide) (fun q => absurd q (by decide)) (fun _ => ?_)
    refine m_aload_n dX1_isSteadyByAxis_33 rfl ?_
    refine m_iload_n dX1_isSteadyByAxis_34 rfl ?_
    refine m_laload (k := 2) dX1_isSteadyByAxis_35 (by first | assumption | rfl) ⟨by decide, by decide⟩ ?_
    refine m_lconst (v := 0) dX1_isSteadyByAxis_36 (by decide) ?_
    refine m_lc_eq (t := 58) dX1_isSteadyByAxis_37 dX1_isSteadyByAxis_38 (by decide) (fun c37_2 => ?_) (fun c37_2 => ?_)
    · refine m_iconst (v := 0) dX1_isSteadyByAxis_58 (by decide) ?_
      exact m_zreturn hF dX1_isSteadyByAxis_59 rfl rfl rfl rfl ⟨by unfold stA; rw [e, if_neg (by decide), if_neg (by decide), if_neg (by decide), if_neg (by decide), if_neg (by decide)]; simp only [chkS, if_neg c37, if_pos c55, if_neg c37_1, if_pos c55_1, if_pos c37_2], rfl⟩
    refine m_aload_n dX1_isSteadyByAxis_41 rfl ?_
    refine m_iload_n dX1_isSteadyByAxis_42 rfl ?_
    refine m_laload (k := 2) dX1_isSteadyByAxis_43 (by first | assumption | rfl) ⟨by decide, by decide⟩ ?_
    refine m_lconst (v := 0) dX1_isSteadyByAxis_44 (by decide) ?_
    refine m_tern_I (J := 54) (x := 0) (y := 1) (m_lc_ge (t := 53) dX1_isSteadyByAxis_45 dX1_isSteadyByAxis_46 (by decide)) (fun k9 => ?_) (fun k9 => ?_) ?_
    · refine m_iconst (v := 0) dX1_isSteadyByAxis_53 (by decide) ?_
      exact k9
    · refine m_iconst (v := 1) dX1_isSteadyByAxis_49 (by decide) ?_
      refine m_goto (t := 54) dX1_isSteadyByAxis_50 (by decide) ?_
      exact k9
    refine m_iload_n dX1_isSteadyByAxis_54 rfl ?_
    refine m_icmp_eq (t := 60) dX1_isSteadyByAxis_55 (by decide) (fun c55_2 => ?_) (fun c55_2 => ?_)
    rotate_left
    · refine m_iconst (v := 0) dX1_isSteadyByAxis_58 (by decide) ?_
      exact m_zreturn hF dX1_isSteadyByAxis_59 rfl rfl rfl rfl ⟨by unfold stA; rw [e, if_neg (by decide), if_neg (by decide), if_neg (by decide), if_neg (by decide), if_neg (by decide)]; simp only [chkS, if_neg c37, if_pos c55, if_neg c37_1, if_pos c55_1, if_neg c37_2, if_neg c55_2], rfl⟩
    refine m_iinc (v := 3) dX1_isSteadyByAxis_60 rfl (by decide) (by decide) ?_
    show mW _ _ _ _ _ _ 63 [_, _, _, _, _] _
    refine m_goto (t := 28) dX1_isSteadyByAxis_63 (by decide) ?_
    refine m_iload_n dX1_isSteadyByAxis_28 rfl ?_
    refine m_iload_n dX1_isSteadyByAxis_29 rfl ?_
    refine m_icmp_ge (t := 66) dX1_isSteadyByAxis_30 (by decide) (fun q => absurd q (by decide)) (fun _ => ?_)
    refine m_aload_n dX1_isSteadyByAxis_33 rfl ?_
    refine m_iload_n dX1_isSteadyByAxis_34 rfl ?_
    refine m_laload (k := 3) dX1_isSteadyByAxis_35 (by first | assumption | rfl) ⟨by decide, by decide⟩ ?_
    refine m_lconst (v := 0) dX1_isSteadyByAxis_36 (by decide) ?_
    refine m_lc_eq (t := 58) dX1_isSteadyByAxis_37 dX1_isSteadyByAxis_38 (by decide) (fun c37_3 => ?_) (fun c37_3 => ?_)
    · refine m_iconst (v := 0) dX1_isSteadyByAxis_58 (by decide) ?_
      exact m_zreturn hF dX1_isSteadyByAxis_59 rfl rfl rfl rfl ⟨by unfold stA; rw [e, if_neg (by decide), if_neg (by decide), if_neg (by decide), if_neg (by decide), if_neg (by decide)]; simp only [chkS, if_neg c37, if_pos c55, if_neg c37_1, if_pos c55_1, if_neg c37_2, if_pos c55_2, if_pos c37_3], rfl⟩
    refine m_aload_n dX1_isSteadyByAxis_41 rfl ?_
    refine m_iload_n dX1_isSteadyByAxis_42 rfl ?_
    refine m_laload (k := 3) dX1_isSteadyByAxis_43 (by first | assumption | rfl) ⟨by decide, by decide⟩ ?_
    refine m_lconst (v := 0) dX1_isSteadyByAxis_44 (by decide) ?_
    refine m_tern_I (J := 54) (x := 0) (y := 1) (m_lc_ge (t := 53) dX1_isSteadyByAxis_45 dX1_isSteadyByAxis_46 (by decide)) (fun k9 => ?_) (fun k9 => ?_) ?_
    · refine m_iconst (v := 0) dX1_isSteadyByAxis_53 (by decide) ?_
      exact k9
    · refine m_iconst (v := 1) dX1_isSteadyByAxis_49 (by decide) ?_
      refine m_goto (t := 54) dX1_isSteadyByAxis_50 (by decide) ?_
      exact k9
    refine m_iload_n dX1_isSteadyByAxis_54 rfl ?_
    refine m_icmp_eq (t := 60) dX1_isSteadyByAxis_55 (by decide) (fun c55_3 => ?_) (fun c55_3 => ?_)
    rotate_left
    · refine m_iconst (v := 0) dX1_isSteadyByAxis_58 (by decide) ?_
      exact m_zreturn hF dX1_isSteadyByAxis_59 rfl rfl rfl rfl ⟨by unfold stA; rw [e, if_neg (by decide), if_neg (by decide), if_neg (by decide), if_neg (by decide), if_neg (by decide)]; simp only [chkS, if_neg c37, if_pos c55, if_neg c37_1, if_pos c55_1, if_neg c37_2, if_pos c55_2, if_neg c37_3, if_neg c55_3], rfl⟩
    refine m_iinc (v := 4) dX1_isSteadyByAxis_60 rfl (by decide) (by decide) ?_
    show mW _ _ _ _ _ _ 63 [_, _, _, _, _] _
    refine m_goto (t := 28) dX1_isSteadyByAxis_63 (by decide) ?_
    refine m_iload_n dX1_isSteadyByAxis_28 rfl ?_
    refine m_iload_n dX1_isSteadyByAxis_29 rfl ?_
    refine m_icmp_ge (t := 66) dX1_isSteadyByAxis_30 (by decide) (fun _ => ?_) (fun q => absurd (by decide) q)
    refine m_iload_n dX1_isSteadyByAxis_66 rfl ?_
    refine m_iconst (v := 3) dX1_isSteadyByAxis_67 (by decide) ?_
    refine m_icmp_ge (t := 73) dX1_isSteadyByAxis_68 (by decide) (fun _ => ?_) (fun q => absurd (by decide) q)
    refine m_aload_n dX1_isSteadyByAxis_73 rfl ?_
    refine m_iconst (v := 3) dX1_isSteadyByAxis_74 (by decide) ?_
    refine m_laload (k := 3) dX1_isSteadyByAxis_75 (by first | assumption | rfl) ⟨by decide, by decide⟩ ?_
    refine m_aload_n dX1_isSteadyByAxis_76 rfl ?_
    refine m_iconst (v := 2) dX1_isSteadyByAxis_77 (by decide) ?_
    refine m_laload (k := 2) dX1_isSteadyByAxis_78 (by first | assumption | rfl) ⟨by decide, by decide⟩ ?_
    refine m_aload_n dX1_isSteadyByAxis_79 rfl ?_
    refine m_iconst (v := 1) dX1_isSteadyByAxis_80 (by decide) ?_
    refine m_laload (k := 1) dX1_isSteadyByAxis_81 (by first | assumption | rfl) ⟨by decide, by decide⟩ ?_
    refine m_lmul dX1_isSteadyByAxis_82 ?_
    refine m_aload_n dX1_isSteadyByAxis_83 rfl ?_
    refine m_iconst (v := 3) dX1_isSteadyByAxis_84 (by decide) ?_
    refine m_laload (k := 3) dX1_isSteadyByAxis_85 (by first | assumption | rfl) ⟨by decide, by decide⟩ ?_
    refine m_aload_n dX1_isSteadyByAxis_86 rfl ?_
    refine m_iconst (v := 0) dX1_isSteadyByAxis_87 (by decide) ?_
    refine m_laload (k := 0) dX1_isSteadyByAxis_88 (by first | assumption | rfl) ⟨by decide, by decide⟩ ?_
    refine m_lmul dX1_isSteadyByAxis_89 ?_
    refine m_lsub dX1_isSteadyByAxis_90 ?_
    refine m_lmul dX1_isSteadyByAxis_91 ?_
    refine m_aload_n dX1_isSteadyByAxis_92 rfl ?_
    refine m_iconst (v := 4) dX1_isSteadyByAxis_93 (by decide) ?_
    refine m_laload (k := 4) dX1_isSteadyByAxis_94 (by first | assumption | rfl) ⟨by decide, by decide⟩ ?_
    refine m_aload_n dX1_isSteadyByAxis_95 rfl ?_
    refine m_iconst (v := 1) dX1_isSteadyByAxis_96 (by decide) ?_
    refine m_laload (k := 1) dX1_isSteadyByAxis_97 (by first | assumption | rfl) ⟨by decide, by decide⟩ ?_
    refine m_lmul dX1_isSteadyByAxis_98 ?_
    refine m_aload_n dX1_isSteadyByAxis_99 rfl ?_
    refine m_iconst (v := 1) dX1_isSteadyByAxis_100 (by decide) ?_
    refine m_laload (k := 1) dX1_isSteadyByAxis_101 (by first | assumption | rfl) ⟨by decide, by decide⟩ ?_
    refine m_lmul dX1_isSteadyByAxis_102 ?_
    refine m_lsub dX1_isSteadyByAxis_103 ?_
    refine m_lstore_n dX1_isSteadyByAxis_104 (by decide) ?_
    show mW _ _ _ _ _ _ 105 [_, _, _, _, _] _
    refine m_iload_n dX1_isSteadyByAxis_105 rfl ?_
    refine m_if_eq (t := 123) dX1_isSteadyByAxis_106 (by decide) (fun c106 => ?_) (fun c106 => ?_)
    · refine m_lload_n dX1_isSteadyByAxis_123 rfl ?_
      refine m_lconst (v := 0) dX1_isSteadyByAxis_124 (by decide) ?_
      refine m_lc_le (t := 133) dX1_isSteadyByAxis_125 dX1_isSteadyByAxis_126 (by decide) (fun c125 => ?_) (fun c125 => ?_)
      · refine m_iconst (v := 0) dX1_isSteadyByAxis_133 (by decide) ?_
        exact m_zreturn hF dX1_isSteadyByAxis_134 rfl rfl rfl rfl ⟨by unfold stA; rw [e, if_neg (by decide), if_neg (by decide), if_neg (by decide), if_neg (by decide), if_neg (by decide)]; simp only [chkS, if_neg c37, if_pos c55, if_neg c37_1, if_pos c55_1, if_neg c37_2, if_pos c55_2, if_neg c37_3, if_pos c55_3, if_pos c106, if_pos c125], rfl⟩
      refine m_iconst (v := 1) dX1_isSteadyByAxis_129 (by decide) ?_
      refine m_goto (t := 134) dX1_isSteadyByAxis_130 (by decide) ?_
      exact m_zreturn hF dX1_isSteadyByAxis_134 rfl rfl rfl rfl ⟨by unfold stA; rw [e, if_neg (by decide), if_neg (by decide), if_neg (by decide), if_neg (by decide), if_neg (by decide)]; simp only [chkS, if_neg c37, if_pos c55, if_neg c37_1, if_pos c55_1, if_neg c37_2, if_pos c55_2, if_neg c37_3, if_pos c55_3, if_pos c106, if_neg c125], rfl⟩
    refine m_lload_n dX1_isSteadyByAxis_109 rfl ?_
    refine m_lconst (v := 0) dX1_isSteadyByAxis_110 (by decide) ?_
    refine m_lc_ge (t := 119) dX1_isSteadyByAxis_111 dX1_isSteadyByAxis_112 (by decide) (fun c111 => ?_) (fun c111 => ?_)
    · refine m_iconst (v := 0) dX1_isSteadyByAxis_119 (by decide) ?_
      refine m_goto (t := 134) dX1_isSteadyByAxis_120 (by decide) ?_
      exact m_zreturn hF dX1_isSteadyByAxis_134 rfl rfl rfl rfl ⟨by unfold stA; rw [e, if_neg (by decide), if_neg (by decide), if_neg (by decide), if_neg (by decide), if_neg (by decide)]; simp only [chkS, if_neg c37, if_pos c55, if_neg c37_1, if_pos c55_1, if_neg c37_2, if_pos c55_2, if_neg c37_3, if_pos c55_3, if_neg c106, if_pos c111], rfl⟩
    refine m_iconst (v := 1) dX1_isSteadyByAxis_115 (by decide) ?_
    refine m_goto (t := 134) dX1_isSteadyByAxis_116 (by decide) ?_
    exact m_zreturn hF dX1_isSteadyByAxis_134 rfl rfl rfl rfl ⟨by unfold stA; rw [e, if_neg (by decide), if_neg (by decide), if_neg (by decide), if_neg (by decide), if_neg (by decide)]; simp only [chkS, if_neg c37, if_pos c55, if_neg c37_1, if_pos c55_1, if_neg c37_2, if_pos c55_2, if_neg c37_3, if_pos c55_3, if_neg c106, if_neg c111], rfl⟩

def ra4 (a b c : Int64) : Int32 := if sgB a = sgB c then if (if b * b < 4 * a * c then (0 : Int32) else 1) = 0 then 0 else if b = 0 then 0 else if sgB a = sgB b then 4 else 0 else 2
set_option maxHeartbeats 4000000 in
set_option maxRecDepth 100000 in
theorem t_X1_rootsOnAxisOfFour {n : Nat} {hp : mHp} {a b c : Int64} : mC D_X1_rootsOnAxisOfFour [.long a, .long b, .long c] n hp (rI (ra4 a b c) hp) := by
  refine m_enter rfl rfl (Nat.le_of_ble_eq_true rfl) (fun K hF => ?_)
  show mW K _ 0 0 _ _ 0 [.long a, .retAddr 0, .long b, .retAddr 0, .long c, .retAddr 0, .retAddr 0] []
  refine m_lload_n dX1_rootsOnAxisOfFour_0 rfl ?_
  refine m_lconst (v := 0) dX1_rootsOnAxisOfFour_1 (by decide) ?_
  refine m_tern_I (J := 11) (x := 0) (y := 1) (m_lc_ge (t := 10) dX1_rootsOnAxisOfFour_2 dX1_rootsOnAxisOfFour_3 (by decide)) (fun k9 => ?_) (fun k9 => ?_) ?_
  · refine m_iconst (v := 0) dX1_rootsOnAxisOfFour_10 (by decide) ?_
    exact k9
  · refine m_iconst (v := 1) dX1_rootsOnAxisOfFour_6 (by decide) ?_
    refine m_goto (t := 11) dX1_rootsOnAxisOfFour_7 (by decide) ?_
    exact k9
  refine m_lload dX1_rootsOnAxisOfFour_11 rfl ?_
  refine m_lconst (v := 0) dX1_rootsOnAxisOfFour_13 (by decide) ?_
  refine m_tern_I (J := 23) (x := 0) (y := 1) (m_lc_ge (t := 22) dX1_rootsOnAxisOfFour_14 dX1_rootsOnAxisOfFour_15 (by decide)) (fun k9 => ?_) (fun k9 => ?_) ?_
  · refine m_iconst (v := 0) dX1_rootsOnAxisOfFour_22 (by decide) ?_
    exact k9
  · refine m_iconst (v := 1) dX1_rootsOnAxisOfFour_18 (by decide) ?_
    refine m_goto (t := 23) dX1_rootsOnAxisOfFour_19 (by decide) ?_
    exact k9
  refine m_icmp_eq (t := 28) dX1_rootsOnAxisOfFour_23 (by decide) (fun c23 => ?_) (fun c23 => ?_)
  rotate_left
  · refine m_iconst (v := 2) dX1_rootsOnAxisOfFour_26 (by decide) ?_
    exact m_ireturn hF dX1_rootsOnAxisOfFour_27 rfl rfl rfl ⟨by unfold ra4; simp only [if_neg c23], rfl⟩
  refine m_lload_n dX1_rootsOnAxisOfFour_28 rfl ?_
  refine m_lload_n dX1_rootsOnAxisOfFour_29 rfl ?_
  refine m_lmul dX1_rootsOnAxisOfFour_30 ?_
  refine m_ldc2 dX1_rootsOnAxisOfFour_31 cl_X1_54 ?_
  refine m_lload_n dX1_rootsOnAxisOfFour_34 rfl ?_
  refine m_lmul dX1_rootsOnAxisOfFour_35 ?_
  refine m_lload dX1_rootsOnAxisOfFour_36 rfl ?_
  refine m_lmul dX1_rootsOnAxisOfFour_38 ?_
  refine m_tern_I (J := 48) (x := 0) (y := 1) (m_lc_lt (t := 47) dX1_rootsOnAxisOfFour_39 dX1_rootsOnAxisOfFour_40 (by decide)) (fun k9 => ?_) (fun k9 => ?_) ?_
  · refine m_iconst (v := 0) dX1_rootsOnAxisOfFour_47 (by decide) ?_
    exact k9
  · refine m_iconst (v := 1) dX1_rootsOnAxisOfFour_43 (by decide) ?_
    refine m_goto (t := 48) dX1_rootsOnAxisOfFour_44 (by decide) ?_
    exact k9
  refine m_istore dX1_rootsOnAxisOfFour_48 (by decide) ?_
  show mW _ _ _ _ _ _ 50 [_, _, _, _, _, _, _] _
  refine m_iload dX1_rootsOnAxisOfFour_50 rfl ?_
  refine m_if_eq (t := 90) dX1_rootsOnAxisOfFour_52 (by decide) (fun c52 => ?_) (fun c52 => ?_)
  · refine m_iconst (v := 0) dX1_rootsOnAxisOfFour_90 (by decide) ?_
    exact m_ireturn hF dX1_rootsOnAxisOfFour_91 rfl rfl rfl ⟨by unfold ra4; simp only [if_pos c23, if_pos c52], rfl⟩
  refine m_lload_n dX1_rootsOnAxisOfFour_55 rfl ?_
  refine m_lconst (v := 0) dX1_rootsOnAxisOfFour_56 (by decide) ?_
  refine m_lc_eq (t := 90) dX1_rootsOnAxisOfFour_57 dX1_rootsOnAxisOfFour_58 (by decide) (fun c57 => ?_) (fun c57 => ?_)
  · refine m_iconst (v := 0) dX1_rootsOnAxisOfFour_90 (by decide) ?_
    exact m_ireturn hF dX1_rootsOnAxisOfFour_91 rfl rfl rfl ⟨by unfold ra4; simp only [if_pos c23, if_neg c52, if_pos c57], rfl⟩
  refine m_lload_n dX1_rootsOnAxisOfFour_61 rfl ?_
  refine m_lconst (v := 0) dX1_rootsOnAxisOfFour_62 (by decide) ?_
  refine m_tern_I (J := 72) (x := 0) (y := 1) (m_lc_ge (t := 71) dX1_rootsOnAxisOfFour_63 dX1_rootsOnAxisOfFour_64 (by decide)) (fun k9 => ?_) (fun k9 => ?_) ?_
  · refine m_iconst (v := 0) dX1_rootsOnAxisOfFour_71 (by decide) ?_
    exact k9
  · refine m_iconst (v := 1) dX1_rootsOnAxisOfFour_67 (by decide) ?_
    refine m_goto (t := 72) dX1_rootsOnAxisOfFour_68 (by decide) ?_
    exact k9
  refine m_lload_n dX1_rootsOnAxisOfFour_72 rfl ?_
  refine m_lconst (v := 0) dX1_rootsOnAxisOfFour_73 (by decide) ?_
  refine m_tern_I (J := 83) (x := 0) (y := 1) (m_lc_ge (t := 82) dX1_rootsOnAxisOfFour_74 dX1_rootsOnAxisOfFour_75 (by decide)) (fun k9 => ?_) (fun k9 => ?_) ?_
  · refine m_iconst (v := 0) dX1_rootsOnAxisOfFour_82 (by decide) ?_
    exact k9
  · refine m_iconst (v := 1) dX1_rootsOnAxisOfFour_78 (by decide) ?_
    refine m_goto (t := 83) dX1_rootsOnAxisOfFour_79 (by decide) ?_
    exact k9
  refine m_icmp_ne (t := 90) dX1_rootsOnAxisOfFour_83 (by decide) (fun c83 => ?_) (fun c83 => ?_)
  · refine m_iconst (v := 0) dX1_rootsOnAxisOfFour_90 (by decide) ?_
    exact m_ireturn hF dX1_rootsOnAxisOfFour_91 rfl rfl rfl ⟨by unfold ra4; simp only [if_pos c23, if_neg c52, if_neg c57, if_neg c83], rfl⟩
  refine m_iconst (v := 4) dX1_rootsOnAxisOfFour_86 (by decide) ?_
  refine m_goto (t := 91) dX1_rootsOnAxisOfFour_87 (by decide) ?_
  exact m_ireturn hF dX1_rootsOnAxisOfFour_91 rfl rfl rfl ⟨by unfold ra4; simp only [if_pos c23, if_neg c52, if_neg c57, if_pos c83], rfl⟩

def raxF (Z : Nat → Int64) (d z : Nat) : Int32 := if d = z + 2 then (if sgB (Z d) = sgB (Z z) then nI d else nI z) else if d = z + 4 then ra4 (Z 4) (Z 2) (Z 0) else nI z
def raxL (Z : Nat → Int64) (d : Nat) : Nat → Nat → Int32
  | 0, z => raxF Z d z
  | f + 1, z => if Z z = 0 then raxL Z d f (z + 1) else raxF Z d z
theorem t_X1_rootsOnAxis0 {n : Nat} {hp : mHp} {h : Nat} {Z : Nat → Int64} (h1 : hp h = eL 5 Z) : mC D_X1_rootsOnAxis [.ref h, .int 0] n hp (rI (raxL Z 0 0 0) hp) := by
  refine m_enter rfl rfl (Nat.le_of_ble_eq_true rfl) (fun K hF => ?_)
  show mW K _ 0 0 _ _ 0 [.ref h, .int 0, .retAddr 0] []
  refine m_iconst (v := 0) dX1_rootsOnAxis_0 (by decide) ?_
  refine m_istore_n dX1_rootsOnAxis_1 (by decide) ?_
  show mW _ _ _ _ _ _ 2 [_, _, _] _
  refine m_iload_n dX1_rootsOnAxis_2 rfl ?_
  refine m_iload_n dX1_rootsOnAxis_3 rfl ?_
  refine m_icmp_ge (t := 21) dX1_rootsOnAxis_4 (by decide) (fun _ => ?_) (fun q => absurd (by decide) q)
  refine m_iload_n dX1_rootsOnAxis_21 rfl ?_
  refine m_iload_n dX1_rootsOnAxis_22 rfl ?_
  refine m_isub dX1_rootsOnAxis_23 ?_
  refine m_ci (v := 0) (by decide) ?_
  refine m_iconst (v := 2) dX1_rootsOnAxis_24 (by decide) ?_
  refine m_icmp_ne (t := 63) dX1_rootsOnAxis_25 (by decide) (fun _ => ?_) (fun q => absurd q (by decide))
  refine m_iload_n dX1_rootsOnAxis_63 rfl ?_
  refine m_iload_n dX1_rootsOnAxis_64 rfl ?_
  refine m_isub dX1_rootsOnAxis_65 ?_
  refine m_ci (v := 0) (by decide) ?_
  refine m_iconst (v := 4) dX1_rootsOnAxis_66 (by decide) ?_
  refine m_icmp_ne (t := 83) dX1_rootsOnAxis_67 (by decide) (fun _ => ?_) (fun q => absurd q (by decide))
  refine m_iload_n dX1_rootsOnAxis_83 rfl ?_
  exact m_ireturn hF dX1_rootsOnAxis_84 rfl rfl rfl ⟨by first | rfl | (simp only [raxL, raxF, ]; rfl) | (simp [raxL, raxF, ]; done), rfl⟩

theorem t_X1_rootsOnAxis1 {n : Nat} {hp : mHp} {h : Nat} {Z : Nat → Int64} (h1 : hp h = eL 5 Z) : mC D_X1_rootsOnAxis [.ref h, .int 1] n hp (rI (raxL Z 1 1 0) hp) := by
  refine m_enter rfl rfl (Nat.le_of_ble_eq_true rfl) (fun K hF => ?_)
  show mW K _ 0 0 _ _ 0 [.ref h, .int 1, .retAddr 0] []
  refine m_iconst (v := 0) dX1_rootsOnAxis_0 (by decide) ?_
  refine m_istore_n dX1_rootsOnAxis_1 (by decide) ?_
  show mW _ _ _ _ _ _ 2 [_, _, _] _
  refine m_iload_n dX1_rootsOnAxis_2 rfl ?_
  refine m_iload_n dX1_rootsOnAxis_3 rfl ?_
  refine m_icmp_ge (t := 21) dX1_rootsOnAxis_4 (by decide) (fun q => absurd q (by decide)) (fun _ => ?_)
  refine m_aload_n dX1_rootsOnAxis_7 rfl ?_
  refine m_iload_n dX1_rootsOnAxis_8 rfl ?_
  refine m_laload (k := 0) dX1_rootsOnAxis_9 (by first | assumption | rfl) ⟨by decide, by decide⟩ ?_
  refine m_lconst (v := 0) dX1_rootsOnAxis_10 (by decide) ?_
  refine m_lc_ne (t := 21) dX1_rootsOnAxis_11 dX1_rootsOnAxis_12 (by decide) (fun c11 => ?_) (fun c11 => ?_)
  · refine m_iload_n dX1_rootsOnAxis_21 rfl ?_
    refine m_iload_n dX1_rootsOnAxis_22 rfl ?_
    refine m_isub dX1_rootsOnAxis_23 ?_
    refine m_ci (v := 1) (by decide) ?_
    refine m_iconst (v := 2) dX1_rootsOnAxis_24 (by decide) ?_
    refine m_icmp_ne (t := 63) dX1_rootsOnAxis_25 (by decide) (fun _ => ?_) (fun q => absurd q (by decide))
    refine m_iload_n dX1_rootsOnAxis_63 rfl ?_
    refine m_iload_n dX1_rootsOnAxis_64 rfl ?_
    refine m_isub dX1_rootsOnAxis_65 ?_
    refine m_ci (v := 1) (by decide) ?_
    refine m_iconst (v := 4) dX1_rootsOnAxis_66 (by decide) ?_
    refine m_icmp_ne (t := 83) dX1_rootsOnAxis_67 (by decide) (fun _ => ?_) (fun q => absurd q (by decide))
    refine m_iload_n dX1_rootsOnAxis_83 rfl ?_
    exact m_ireturn hF dX1_rootsOnAxis_84 rfl rfl rfl ⟨by simp only [raxL, if_neg c11]; first | rfl | (simp only [raxL, raxF, if_neg c11]; rfl) | (simp [raxL, raxF, if_neg c11]; done), rfl⟩
  refine m_iinc (v := 1) dX1_rootsOnAxis_15 rfl (by decide) (by decide) ?_
  show mW _ _ _ _ _ _ 18 [_, _, _] _
  refine m_goto (t := 2) dX1_rootsOnAxis_18 (by decide) ?_
  refine m_iload_n dX1_rootsOnAxis_2 rfl ?_
  refine m_iload_n dX1_rootsOnAxis_3 rfl ?_
  refine m_icmp_ge (t := 21) dX1_rootsOnAxis_4 (by decide) (fun _ => ?_) (fun q => absurd (by decide) q)
  refine m_iload_n dX1_rootsOnAxis_21 rfl ?_
  refine m_iload_n dX1_rootsOnAxis_22 rfl ?_
  refine m_isub dX1_rootsOnAxis_23 ?_
  refine m_ci (v := 0) (by decide) ?_
  refine m_iconst (v := 2) dX1_rootsOnAxis_24 (by decide) ?_
  refine m_icmp_ne (t := 63) dX1_rootsOnAxis_25 (by decide) (fun _ => ?_) (fun q => absurd q (by decide))
  refine m_iload_n dX1_rootsOnAxis_63 rfl ?_
  refine m_iload_n dX1_rootsOnAxis_64 rfl ?_
  refine m_isub dX1_rootsOnAxis_65 ?_
  refine m_ci (v := 0) (by decide) ?_
  refine m_iconst (v := 4) dX1_rootsOnAxis_66 (by decide) ?_
  refine m_icmp_ne (t := 83) dX1_rootsOnAxis_67 (by decide) (fun _ => ?_) (fun q => absurd q (by decide))
  refine m_iload_n dX1_rootsOnAxis_83 rfl ?_
  exact m_ireturn hF dX1_rootsOnAxis_84 rfl rfl rfl ⟨by simp only [raxL, if_pos c11]; first | rfl | (simp only [raxL, raxF, if_pos c11]; rfl) | (simp [raxL, raxF, if_pos c11]; done), rfl⟩

set_option maxHeartbeats 4000000 in
set_option maxRecDepth 100000 in
theorem t_X1_rootsOnAxis2 {n : Nat} {hp : mHp} {h : Nat} {Z : Nat → Int64} (h1 : hp h = eL 5 Z) : mC D_X1_rootsOnAxis [.ref h, .int 2] n hp (rI (raxL Z 2 2 0) hp) := by
  refine m_enter rfl rfl (Nat.le_of_ble_eq_true rfl) (fun K hF => ?_)
  show mW K _ 0 0 _ _ 0 [.ref h, .int 2, .retAddr 0] []
  refine m_iconst (v := 0) dX1_rootsOnAxis_0 (by decide) ?_
  refine m_istore_n dX1_rootsOnAxis_1 (by decide) ?_
  show mW _ _ _ _ _ _ 2 [_, _, _] _
  refine m_iload_n dX1_rootsOnAxis_2 rfl ?_
  refine m_iload_n dX1_rootsOnAxis_3 rfl ?_
  refine m_icmp_ge (t := 21) dX1_rootsOnAxis_4 (by decide) (fun q => absurd q (by decide)) (fun _ => ?_)
  refine m_aload_n dX1_rootsOnAxis_7 rfl ?_
  refine m_iload_n dX1_rootsOnAxis_8 rfl ?_
  refine m_laload (k := 0) dX1_rootsOnAxis_9 (by first | assumption | rfl) ⟨by decide, by decide⟩ ?_
  refine m_lconst (v := 0) dX1_rootsOnAxis_10 (by decide) ?_
  refine m_lc_ne (t := 21) dX1_rootsOnAxis_11 dX1_rootsOnAxis_12 (by decide) (fun c11 => ?_) (fun c11 => ?_)
  · refine m_iload_n dX1_rootsOnAxis_21 rfl ?_
    refine m_iload_n dX1_rootsOnAxis_22 rfl ?_
    refine m_isub dX1_rootsOnAxis_23 ?_
    refine m_ci (v := 2) (by decide) ?_
    refine m_iconst (v := 2) dX1_rootsOnAxis_24 (by decide) ?_
    refine m_icmp_ne (t := 63) dX1_rootsOnAxis_25 (by decide) (fun q => absurd rfl q) (fun _ => ?_)
    refine m_aload_n dX1_rootsOnAxis_28 rfl ?_
    refine m_iload_n dX1_rootsOnAxis_29 rfl ?_
    refine m_laload (k := 2) dX1_rootsOnAxis_30 (by first | assumption | rfl) ⟨by decide, by decide⟩ ?_
    refine m_lconst (v := 0) dX1_rootsOnAxis_31 (by decide) ?_
    refine m_tern_I (J := 41) (x := 0) (y := 1) (m_lc_ge (t := 40) dX1_rootsOnAxis_32 dX1_rootsOnAxis_33 (by decide)) (fun k9 => ?_) (fun k9 => ?_) ?_
    · refine m_iconst (v := 0) dX1_rootsOnAxis_40 (by decide) ?_
      exact k9
    · refine m_iconst (v := 1) dX1_rootsOnAxis_36 (by decide) ?_
      refine m_goto (t := 41) dX1_rootsOnAxis_37 (by decide) ?_
      exact k9
    refine m_aload_n dX1_rootsOnAxis_41 rfl ?_
    refine m_iload_n dX1_rootsOnAxis_42 rfl ?_
    refine m_laload (k := 0) dX1_rootsOnAxis_43 (by first | assumption | rfl) ⟨by decide, by decide⟩ ?_
    refine m_lconst (v := 0) dX1_rootsOnAxis_44 (by decide) ?_
    refine m_tern_I (J := 54) (x := 0) (y := 1) (m_lc_ge (t := 53) dX1_rootsOnAxis_45 dX1_rootsOnAxis_46 (by decide)) (fun k9 => ?_) (fun k9 => ?_) ?_
    · refine m_iconst (v := 0) dX1_rootsOnAxis_53 (by decide) ?_
      exact k9
    · refine m_iconst (v := 1) dX1_rootsOnAxis_49 (by decide) ?_
      refine m_goto (t := 54) dX1_rootsOnAxis_50 (by decide) ?_
      exact k9
    refine m_icmp_ne (t := 61) dX1_rootsOnAxis_54 (by decide) (fun c54 => ?_) (fun c54 => ?_)
    · refine m_iload_n dX1_rootsOnAxis_61 rfl ?_
      exact m_ireturn hF dX1_rootsOnAxis_62 rfl rfl rfl ⟨by simp only [raxL, if_neg c11, if_neg c54]; first | rfl | (simp only [raxL, raxF, if_neg c11, if_neg c54]; rfl) | (simp [raxL, raxF, if_neg c11, if_neg c54]; done), rfl⟩
    refine m_iload_n dX1_rootsOnAxis_57 rfl ?_
    refine m_goto (t := 62) dX1_rootsOnAxis_58 (by decide) ?_
    exact m_ireturn hF dX1_rootsOnAxis_62 rfl rfl rfl ⟨by simp only [raxL, if_neg c11, if_pos c54]; first | rfl | (simp only [raxL, raxF, if_neg c11, if_pos c54]; rfl) | (simp [raxL, raxF, if_neg c11, if_pos c54]; done), rfl⟩
  refine m_iinc (v := 1) dX1_rootsOnAxis_15 rfl (by decide) (by decide) ?_
  show mW _ _ _ _ _ _ 18 [_, _, _] _
  refine m_goto (t := 2) dX1_rootsOnAxis_18 (by decide) ?_
  refine m_iload_n dX1_rootsOnAxis_2 rfl ?_
  refine m_iload_n dX1_rootsOnAxis_3 rfl ?_
  refine m_icmp_ge (t := 21) dX1_rootsOnAxis_4 (by decide) (fun q => absurd q (by decide)) (fun _ => ?_)
  refine m_aload_n dX1_rootsOnAxis_7 rfl ?_
  refine m_iload_n dX1_rootsOnAxis_8 rfl ?_
  refine m_laload (k := 1) dX1_rootsOnAxis_9 (by first | assumption | rfl) ⟨by decide, by decide⟩ ?_
  refine m_lconst (v := 0) dX1_rootsOnAxis_10 (by decide) ?_
  refine m_lc_ne (t := 21) dX1_rootsOnAxis_11 dX1_rootsOnAxis_12 (by decide) (fun c11_1 => ?_) (fun c11_1 => ?_)
  · refine m_iload_n dX1_rootsOnAxis_21 rfl ?_
    refine m_iload_n dX1_rootsOnAxis_22 rfl ?_
    refine m_isub dX1_rootsOnAxis_23 ?_
    refine m_ci (v := 1) (by decide) ?_
    refine m_iconst (v := 2) dX1_rootsOnAxis_24 (by decide) ?_
    refine m_icmp_ne (t := 63) dX1_rootsOnAxis_25 (by decide) (fun _ => ?_) (fun q => absurd q (by decide))
    refine m_iload_n dX1_rootsOnAxis_63 rfl ?_
    refine m_iload_n dX1_rootsOnAxis_64 rfl ?_
    refine m_isub dX1_rootsOnAxis_65 ?_
    refine m_ci (v := 1) (by decide) ?_
    refine m_iconst (v := 4) dX1_rootsOnAxis_66 (by decide) ?_
    refine m_icmp_ne (t := 83) dX1_rootsOnAxis_67 (by decide) (fun _ => ?_) (fun q => absurd q (by decide))
    refine m_iload_n dX1_rootsOnAxis_83 rfl ?_
    exact m_ireturn hF dX1_rootsOnAxis_84 rfl rfl rfl ⟨by simp only [raxL, if_pos c11, if_neg c11_1]; first | rfl | (simp only [raxL, raxF, if_pos c11, if_neg c11_1]; rfl) | (simp [raxL, raxF, if_pos c11, if_neg c11_1]; done), rfl⟩
  refine m_iinc (v := 2) dX1_rootsOnAxis_15 rfl (by decide) (by decide) ?_
  show mW _ _ _ _ _ _ 18 [_, _, _] _
  refine m_goto (t := 2) dX1_rootsOnAxis_18 (by decide) ?_
  refine m_iload_n dX1_rootsOnAxis_2 rfl ?_
  refine m_iload_n dX1_rootsOnAxis_3 rfl ?_
  refine m_icmp_ge (t := 21) dX1_rootsOnAxis_4 (by decide) (fun _ => ?_) (fun q => absurd (by decide) q)
  refine m_iload_n dX1_rootsOnAxis_21 rfl ?_
  refine m_iload_n dX1_rootsOnAxis_22 rfl ?_
  refine m_isub dX1_rootsOnAxis_23 ?_
  refine m_ci (v := 0) (by decide) ?_
  refine m_iconst (v := 2) dX1_rootsOnAxis_24 (by decide) ?_
  refine m_icmp_ne (t := 63) dX1_rootsOnAxis_25 (by decide) (fun _ => ?_) (fun q => absurd q (by decide))
  refine m_iload_n dX1_rootsOnAxis_63 rfl ?_
  refine m_iload_n dX1_rootsOnAxis_64 rfl ?_
  refine m_isub dX1_rootsOnAxis_65 ?_
  refine m_ci (v := 0) (by decide) ?_
  refine m_iconst (v := 4) dX1_rootsOnAxis_66 (by decide) ?_
  refine m_icmp_ne (t := 83) dX1_rootsOnAxis_67 (by decide) (fun _ => ?_) (fun q => absurd q (by decide))
  refine m_iload_n dX1_rootsOnAxis_83 rfl ?_
  exact m_ireturn hF dX1_rootsOnAxis_84 rfl rfl rfl ⟨by simp only [raxL, if_pos c11, if_pos c11_1]; first | rfl | (simp only [raxL, raxF, if_pos c11, if_pos c11_1]; rfl) | (simp [raxL, raxF, if_pos c11, if_pos c11_1]; done), rfl⟩

set_option maxHeartbeats 4000000 in
set_option maxRecDepth 100000 in
theorem t_X1_rootsOnAxis3 {n : Nat} {hp : mHp} {h : Nat} {Z : Nat → Int64} (h1 : hp h = eL 5 Z) : mC D_X1_rootsOnAxis [.ref h, .int 3] n hp (rI (raxL Z 3 3 0) hp) := by
  refine m_enter rfl rfl (Nat.le_of_ble_eq_true rfl) (fun K hF => ?_)
  show mW K _ 0 0 _ _ 0 [.ref h, .int 3, .retAddr 0] []
  refine m_iconst (v := 0) dX1_rootsOnAxis_0 (by decide) ?_
  refine m_istore_n dX1_rootsOnAxis_1 (by decide) ?_
  show mW _ _ _ _ _ _ 2 [_, _, _] _
  refine m_iload_n dX1_rootsOnAxis_2 rfl ?_
  refine m_iload_n dX1_rootsOnAxis_3 rfl ?_
  refine m_icmp_ge (t := 21) dX1_rootsOnAxis_4 (by decide) (fun q => absurd q (by decide)) (fun _ => ?_)
  refine m_aload_n dX1_rootsOnAxis_7 rfl ?_
  refine m_iload_n dX1_rootsOnAxis_8 rfl ?_
  refine m_laload (k := 0) dX1_rootsOnAxis_9 (by first | assumption | rfl) ⟨by decide, by decide⟩ ?_
  refine m_lconst (v := 0) dX1_rootsOnAxis_10 (by decide) ?_
  refine m_lc_ne (t := 21) dX1_rootsOnAxis_11 dX1_rootsOnAxis_12 (by decide) (fun c11 => ?_) (fun c11 => ?_)
  · refine m_iload_n dX1_rootsOnAxis_21 rfl ?_
    refine m_iload_n dX1_rootsOnAxis_22 rfl ?_
    refine m_isub dX1_rootsOnAxis_23 ?_
    refine m_ci (v := 3) (by decide) ?_
    refine m_iconst (v := 2) dX1_rootsOnAxis_24 (by decide) ?_
    refine m_icmp_ne (t := 63) dX1_rootsOnAxis_25 (by decide) (fun _ => ?_) (fun q => absurd q (by decide))
    refine m_iload_n dX1_rootsOnAxis_63 rfl ?_
    refine m_iload_n dX1_rootsOnAxis_64 rfl ?_
    refine m_isub dX1_rootsOnAxis_65 ?_
    refine m_ci (v := 3) (by decide) ?_
    refine m_iconst (v := 4) dX1_rootsOnAxis_66 (by decide) ?_
    refine m_icmp_ne (t := 83) dX1_rootsOnAxis_67 (by decide) (fun _ => ?_) (fun q => absurd q (by decide))
    refine m_iload_n dX1_rootsOnAxis_83 rfl ?_
    exact m_ireturn hF dX1_rootsOnAxis_84 rfl rfl rfl ⟨by simp only [raxL, if_neg c11]; first | rfl | (simp only [raxL, raxF, if_neg c11]; rfl) | (simp [raxL, raxF, if_neg c11]; done), rfl⟩
  refine m_iinc (v := 1) dX1_rootsOnAxis_15 rfl (by decide) (by decide) ?_
  show mW _ _ _ _ _ _ 18 [_, _, _] _
  refine m_goto (t := 2) dX1_rootsOnAxis_18 (by decide) ?_
  refine m_iload_n dX1_rootsOnAxis_2 rfl ?_
  refine m_iload_n dX1_rootsOnAxis_3 rfl ?_
  refine m_icmp_ge (t := 21) dX1_rootsOnAxis_4 (by decide) (fun q => absurd q (by decide)) (fun _ => ?_)
  refine m_aload_n dX1_rootsOnAxis_7 rfl ?_
  refine m_iload_n dX1_rootsOnAxis_8 rfl ?_
  refine m_laload (k := 1) dX1_rootsOnAxis_9 (by first | assumption | rfl) ⟨by decide, by decide⟩ ?_
  refine m_lconst (v := 0) dX1_rootsOnAxis_10 (by decide) ?_
  refine m_lc_ne (t := 21) dX1_rootsOnAxis_11 dX1_rootsOnAxis_12 (by decide) (fun c11_1 => ?_) (fun c11_1 => ?_)
  · refine m_iload_n dX1_rootsOnAxis_21 rfl ?_
    refine m_iload_n dX1_rootsOnAxis_22 rfl ?_
    refine m_isub dX1_rootsOnAxis_23 ?_
    refine m_ci (v := 2) (by decide) ?_
    refine m_iconst (v := 2) dX1_rootsOnAxis_24 (by decide) ?_
    refine m_icmp_ne (t := 63) dX1_rootsOnAxis_25 (by decide) (fun q => absurd rfl q) (fun _ => ?_)
    refine m_aload_n dX1_rootsOnAxis_28 rfl ?_
    refine m_iload_n dX1_rootsOnAxis_29 rfl ?_
    refine m_laload (k := 3) dX1_rootsOnAxis_30 (by first | assumption | rfl) ⟨by decide, by decide⟩ ?_
    refine m_lconst (v := 0) dX1_rootsOnAxis_31 (by decide) ?_
    refine m_tern_I (J := 41) (x := 0) (y := 1) (m_lc_ge (t := 40) dX1_rootsOnAxis_32 dX1_rootsOnAxis_33 (by decide)) (fun k9 => ?_) (fun k9 => ?_) ?_
    · refine m_iconst (v := 0) dX1_rootsOnAxis_40 (by decide) ?_
      exact k9
    · refine m_iconst (v := 1) dX1_rootsOnAxis_36 (by decide) ?_
      refine m_goto (t := 41) dX1_rootsOnAxis_37 (by decide) ?_
      exact k9
    refine m_aload_n dX1_rootsOnAxis_41 rfl ?_
    refine m_iload_n dX1_rootsOnAxis_42 rfl ?_
    refine m_laload (k := 1) dX1_rootsOnAxis_43 (by first | assumption | rfl) ⟨by decide, by decide⟩ ?_
    refine m_lconst (v := 0) dX1_rootsOnAxis_44 (by decide) ?_
    refine m_tern_I (J := 54) (x := 0) (y := 1) (m_lc_ge (t := 53) dX1_rootsOnAxis_45 dX1_rootsOnAxis_46 (by decide)) (fun k9 => ?_) (fun k9 => ?_) ?_
    · refine m_iconst (v := 0) dX1_rootsOnAxis_53 (by decide) ?_
      exact k9
    · refine m_iconst (v := 1) dX1_rootsOnAxis_49 (by decide) ?_
      refine m_goto (t := 54) dX1_rootsOnAxis_50 (by decide) ?_
      exact k9
    refine m_icmp_ne (t := 61) dX1_rootsOnAxis_54 (by decide) (fun c54 => ?_) (fun c54 => ?_)
    · refine m_iload_n dX1_rootsOnAxis_61 rfl ?_
      exact m_ireturn hF dX1_rootsOnAxis_62 rfl rfl rfl ⟨by simp only [raxL, if_pos c11, if_neg c11_1, if_neg c54]; first | rfl | (simp only [raxL, raxF, if_pos c11, if_neg c11_1, if_neg c54]; rfl) | (simp [raxL, raxF, if_pos c11, if_neg c11_1, if_neg c54]; done), rfl⟩
    refine m_iload_n dX1_rootsOnAxis_57 rfl ?_
    refine m_goto (t := 62) dX1_rootsOnAxis_58 (by decide) ?_
    exact m_ireturn hF dX1_rootsOnAxis_62 rfl rfl rfl ⟨by simp only [raxL, if_pos c11, if_neg c11_1, if_pos c54]; first | rfl | (simp only [raxL, raxF, if_pos c11, if_neg c11_1, if_pos c54]; rfl) | (simp [raxL, raxF, if_pos c11, if_neg c11_1, if_pos c54]; done), rfl⟩
  refine m_iinc (v := 2) dX1_rootsOnAxis_15 rfl (by decide) (by decide) ?_
  show mW _ _ _ _ _ _ 18 [_, _, _] _
  refine m_goto (t := 2) dX1_rootsOnAxis_18 (by decide) ?_
  refine m_iload_n dX1_rootsOnAxis_2 rfl ?_
  refine m_iload_n dX1_rootsOnAxis_3 rfl ?_
  refine m_icmp_ge (t := 21) dX1_rootsOnAxis_4 (by decide) (fun q => absurd q (by decide)) (fun _ => ?_)
  refine m_aload_n dX1_rootsOnAxis_7 rfl ?_
  refine m_iload_n dX1_rootsOnAxis_8 rfl ?_
  refine m_laload (k := 2) dX1_rootsOnAxis_9 (by first | assumption | rfl) ⟨by decide, by decide⟩ ?_
  refine m_lconst (v := 0) dX1_rootsOnAxis_10 (by decide) ?_
  refine m_lc_ne (t := 21) dX1_rootsOnAxis_11 dX1_rootsOnAxis_12 (by decide) (fun c11_2 => ?_) (fun c11_2 => ?_)
  · refine m_iload_n dX1_rootsOnAxis_21 rfl ?_
    refine m_iload_n dX1_rootsOnAxis_22 rfl ?_
    refine m_isub dX1_rootsOnAxis_23 ?_
    refine m_ci (v := 1) (by decide) ?_
    refine m_iconst (v := 2) dX1_rootsOnAxis_24 (by decide) ?_
    refine m_icmp_ne (t := 63) dX1_rootsOnAxis_25 (by decide) (fun _ => ?_) (fun q => absurd q (by decide))
    refine m_iload_n dX1_rootsOnAxis_63 rfl ?_
    refine m_iload_n dX1_rootsOnAxis_64 rfl ?_
    refine m_isub dX1_rootsOnAxis_65 ?_
    refine m_ci (v := 1) (by decide) ?_
    refine m_iconst (v := 4) dX1_rootsOnAxis_66 (by decide) ?_
    refine m_icmp_ne (t := 83) dX1_rootsOnAxis_67 (by decide) (fun _ => ?_) (fun q => absurd q (by decide))
    refine m_iload_n dX1_rootsOnAxis_83 rfl ?_
    exact m_ireturn hF dX1_rootsOnAxis_84 rfl rfl rfl ⟨by simp only [raxL, if_pos c11, if_pos c11_1, if_neg c11_2]; first | rfl | (simp only [raxL, raxF, if_pos c11, if_pos c11_1, if_neg c11_2]; rfl) | (simp [raxL, raxF, if_pos c11, if_pos c11_1, if_neg c11_2]; done), rfl⟩
  refine m_iinc (v := 3) dX1_rootsOnAxis_15 rfl (by decide) (by decide) ?_
  show mW _ _ _ _ _ _ 18 [_, _, _] _
  refine m_goto (t := 2) dX1_rootsOnAxis_18 (by decide) ?_
  refine m_iload_n dX1_rootsOnAxis_2 rfl ?_
  refine m_iload_n dX1_rootsOnAxis_3 rfl ?_
  refine m_icmp_ge (t := 21) dX1_rootsOnAxis_4 (by decide) (fun _ => ?_) (fun q => absurd (by decide) q)
  refine m_iload_n dX1_rootsOnAxis_21 rfl ?_
  refine m_iload_n dX1_rootsOnAxis_22 rfl ?_
  refine m_isub dX1_rootsOnAxis_23 ?_
  refine m_ci (v := 0) (by decide) ?_
  refine m_iconst (v := 2) dX1_rootsOnAxis_24 (by decide) ?_
  refine m_icmp_ne (t := 63) dX1_rootsOnAxis_25 (by decide) (fun _ => ?_) (fun q => absurd q (by decide))
  refine m_iload_n dX1_rootsOnAxis_63 rfl ?_
  refine m_iload_n dX1_rootsOnAxis_64 rfl ?_
  refine m_isub dX1_rootsOnAxis_65 ?_
  refine m_ci (v := 0) (by decide) ?_
  refine m_iconst (v := 4) dX1_rootsOnAxis_66 (by decide) ?_
  refine m_icmp_ne (t := 83) dX1_rootsOnAxis_67 (by decide) (fun _ => ?_) (fun q => absurd q (by decide))
  refine m_iload_n dX1_rootsOnAxis_83 rfl ?_
  exact m_ireturn hF dX1_rootsOnAxis_84 rfl rfl rfl ⟨by simp only [raxL, if_pos c11, if_pos c11_1, if_pos c11_2]; first | rfl | (simp only [raxL, raxF, if_pos c11, if_pos c11_1, if_pos c11_2]; rfl) | (simp [raxL, raxF, if_pos c11, if_pos c11_1, if_pos c11_2]; done), rfl⟩

set_option maxHeartbeats 4000000 in
set_option maxRecDepth 100000 in
theorem t_X1_rootsOnAxis4 {n : Nat} {hp : mHp} {h : Nat} {Z : Nat → Int64} (h1 : hp h = eL 5 Z) : mC D_X1_rootsOnAxis [.ref h, .int 4] n hp (rI (raxL Z 4 4 0) hp) := by
  refine m_enter rfl rfl (Nat.le_of_ble_eq_true rfl) (fun K hF => ?_)
  show mW K _ 0 0 _ _ 0 [.ref h, .int 4, .retAddr 0] []
  refine m_iconst (v := 0) dX1_rootsOnAxis_0 (by decide) ?_
  refine m_istore_n dX1_rootsOnAxis_1 (by decide) ?_
  show mW _ _ _ _ _ _ 2 [_, _, _] _
  refine m_iload_n dX1_rootsOnAxis_2 rfl ?_
  refine m_iload_n dX1_rootsOnAxis_3 rfl ?_
  refine m_icmp_ge (t := 21) dX1_rootsOnAxis_4 (by decide) (fun q => absurd q (by decide)) (fun _ => ?_)
  refine m_aload_n dX1_rootsOnAxis_7 rfl ?_
  refine m_iload_n dX1_rootsOnAxis_8 rfl ?_
  refine m_laload (k := 0) dX1_rootsOnAxis_9 (by first | assumption | rfl) ⟨by decide, by decide⟩ ?_
  refine m_lconst (v := 0) dX1_rootsOnAxis_10 (by decide) ?_
  refine m_lc_ne (t := 21) dX1_rootsOnAxis_11 dX1_rootsOnAxis_12 (by decide) (fun c11 => ?_) (fun c11 => ?_)
  · refine m_iload_n dX1_rootsOnAxis_21 rfl ?_
    refine m_iload_n dX1_rootsOnAxis_22 rfl ?_
    refine m_isub dX1_rootsOnAxis_23 ?_
    refine m_ci (v := 4) (by decide) ?_
    refine m_iconst (v := 2) dX1_rootsOnAxis_24 (by decide) ?_
    refine m_icmp_ne (t := 63) dX1_rootsOnAxis_25 (by decide) (fun _ => ?_) (fun q => absurd q (by decide))
    refine m_iload_n dX1_rootsOnAxis_63 rfl ?_
    refine m_iload_n dX1_rootsOnAxis_64 rfl ?_
    refine m_isub dX1_rootsOnAxis_65 ?_
    refine m_ci (v := 4) (by decide) ?_
    refine m_iconst (v := 4) dX1_rootsOnAxis_66 (by decide) ?_
    refine m_icmp_ne (t := 83) dX1_rootsOnAxis_67 (by decide) (fun q => absurd rfl q) (fun _ => ?_)
    refine m_aload_n dX1_rootsOnAxis_70 rfl ?_
    refine m_iconst (v := 4) dX1_rootsOnAxis_71 (by decide) ?_
    refine m_laload (k := 4) dX1_rootsOnAxis_72 (by first | assumption | rfl) ⟨by decide, by decide⟩ ?_
    refine m_aload_n dX1_rootsOnAxis_73 rfl ?_
    refine m_iconst (v := 2) dX1_rootsOnAxis_74 (by decide) ?_
    refine m_laload (k := 2) dX1_rootsOnAxis_75 (by first | assumption | rfl) ⟨by decide, by decide⟩ ?_
    refine m_aload_n dX1_rootsOnAxis_76 rfl ?_
    refine m_iconst (v := 0) dX1_rootsOnAxis_77 (by decide) ?_
    refine m_laload (k := 0) dX1_rootsOnAxis_78 (by first | assumption | rfl) ⟨by decide, by decide⟩ ?_
    refine m_invS_I dX1_rootsOnAxis_79 lk_X1_79 ar_X1_rootsOnAxisOfFour (t_X1_rootsOnAxisOfFour) rfl (Nat.le_of_ble_eq_true rfl) (by decide) (by decide) (by decide) (by decide) rfl rfl ?_
    try rw [va_uu]
    exact m_ireturn hF dX1_rootsOnAxis_82 rfl rfl rfl ⟨by simp only [raxL, if_neg c11]; first | rfl | (simp only [raxL, raxF, if_neg c11]; rfl) | (simp [raxL, raxF, if_neg c11]; done), rfl⟩
  refine m_iinc (v := 1) dX1_rootsOnAxis_15 rfl (by decide) (by decide) ?_
  show mW _ _ _ _ _ _ 18 [_, _, _] _
  refine m_goto (t := 2) dX1_rootsOnAxis_18 (by decide) ?_
  refine m_iload_n dX1_rootsOnAxis_2 rfl ?_
  refine m_iload_n dX1_rootsOnAxis_3 rfl ?_
  refine m_icmp_ge (t := 21) dX1_rootsOnAxis_4 (by decide) (fun q => absurd q (by decide)) (fun _ => ?_)
  refine m_aload_n dX1_rootsOnAxis_7 rfl ?_
  refine m_iload_n dX1_rootsOnAxis_8 rfl ?_
  refine m_laload (k := 1) dX1_rootsOnAxis_9 (by first | assumption | rfl) ⟨by decide, by decide⟩ ?_
  refine m_lconst (v := 0) dX1_rootsOnAxis_10 (by decide) ?_
  refine m_lc_ne (t := 21) dX1_rootsOnAxis_11 dX1_rootsOnAxis_12 (by decide) (fun c11_1 => ?_) (fun c11_1 => ?_)
  · refine m_iload_n dX1_rootsOnAxis_21 rfl ?_
    refine m_iload_n dX1_rootsOnAxis_22 rfl ?_
    refine m_isub dX1_rootsOnAxis_23 ?_
    refine m_ci (v := 3) (by decide) ?_
    refine m_iconst (v := 2) dX1_rootsOnAxis_24 (by decide) ?_
    refine m_icmp_ne (t := 63) dX1_rootsOnAxis_25 (by decide) (fun _ => ?_) (fun q => absurd q (by decide))
    refine m_iload_n dX1_rootsOnAxis_63 rfl ?_
    refine m_iload_n dX1_rootsOnAxis_64 rfl ?_
    refine m_isub dX1_rootsOnAxis_65 ?_
    refine m_ci (v := 3) (by decide) ?_
    refine m_iconst (v := 4) dX1_rootsOnAxis_66 (by decide) ?_
    refine m_icmp_ne (t := 83) dX1_rootsOnAxis_67 (by decide) (fun _ => ?_) (fun q => absurd q (by decide))
    refine m_iload_n dX1_rootsOnAxis_83 rfl ?_
    exact m_ireturn hF dX1_rootsOnAxis_84 rfl rfl rfl ⟨by simp only [raxL, if_pos c11, if_neg c11_1]; first | rfl | (simp only [raxL, raxF, if_pos c11, if_neg c11_1]; rfl) | (simp [raxL, raxF, if_pos c11, if_neg c11_1]; done), rfl⟩
  refine m_iinc (v := 2) dX1_rootsOnAxis_15 rfl (by decide) (by decide) ?_
  show mW _ _ _ _ _ _ 18 [_, _, _] _
  refine m_goto (t := 2) dX1_rootsOnAxis_18 (by decide) ?_
  refine m_iload_n dX1_rootsOnAxis_2 rfl ?_
  refine m_iload_n dX1_rootsOnAxis_3 rfl ?_
  refine m_icmp_ge (t := 21) dX1_rootsOnAxis_4 (by decide) (fun q => absurd q (by decide)) (fun _ => ?_)
  refine m_aload_n dX1_rootsOnAxis_7 rfl ?_
  refine m_iload_n dX1_rootsOnAxis_8 rfl ?_
  refine m_laload (k := 2) dX1_rootsOnAxis_9 (by first | assumption | rfl) ⟨by decide, by decide⟩ ?_
  refine m_lconst (v := 0) dX1_rootsOnAxis_10 (by decide) ?_
  refine m_lc_ne (t := 21) dX1_rootsOnAxis_11 dX1_rootsOnAxis_12 (by decide) (fun c11_2 => ?_) (fun c11_2 => ?_)
  · refine m_iload_n dX1_rootsOnAxis_21 rfl ?_
    refine m_iload_n dX1_rootsOnAxis_22 rfl ?_
    refine m_isub dX1_rootsOnAxis_23 ?_
    refine m_ci (v := 2) (by decide) ?_
    refine m_iconst (v := 2) dX1_rootsOnAxis_24 (by decide) ?_
    refine m_icmp_ne (t := 63) dX1_rootsOnAxis_25 (by decide) (fun q => absurd rfl q) (fun _ => ?_)
    refine m_aload_n dX1_rootsOnAxis_28 rfl ?_
    refine m_iload_n dX1_rootsOnAxis_29 rfl ?_
    refine m_laload (k := 4) dX1_rootsOnAxis_30 (by first | assumption | rfl) ⟨by decide, by decide⟩ ?_
    refine m_lconst (v := 0) dX1_rootsOnAxis_31 (by decide) ?_
    refine m_tern_I (J := 41) (x := 0) (y := 1) (m_lc_ge (t := 40) dX1_rootsOnAxis_32 dX1_rootsOnAxis_33 (by decide)) (fun k9 => ?_) (fun k9 => ?_) ?_
    · refine m_iconst (v := 0) dX1_rootsOnAxis_40 (by decide) ?_
      exact k9
    · refine m_iconst (v := 1) dX1_rootsOnAxis_36 (by decide) ?_
      refine m_goto (t := 41) dX1_rootsOnAxis_37 (by decide) ?_
      exact k9
    refine m_aload_n dX1_rootsOnAxis_41 rfl ?_
    refine m_iload_n dX1_rootsOnAxis_42 rfl ?_
    refine m_laload (k := 2) dX1_rootsOnAxis_43 (by first | assumption | rfl) ⟨by decide, by decide⟩ ?_
    refine m_lconst (v := 0) dX1_rootsOnAxis_44 (by decide) ?_
    refine m_tern_I (J := 54) (x := 0) (y := 1) (m_lc_ge (t := 53) dX1_rootsOnAxis_45 dX1_rootsOnAxis_46 (by decide)) (fun k9 => ?_) (fun k9 => ?_) ?_
    · refine m_iconst (v := 0) dX1_rootsOnAxis_53 (by decide) ?_
      exact k9
    · refine m_iconst (v := 1) dX1_rootsOnAxis_49 (by decide) ?_
      refine m_goto (t := 54) dX1_rootsOnAxis_50 (by decide) ?_
      exact k9
    refine m_icmp_ne (t := 61) dX1_rootsOnAxis_54 (by decide) (fun c54 => ?_) (fun c54 => ?_)
    · refine m_iload_n dX1_rootsOnAxis_61 rfl ?_
      exact m_ireturn hF dX1_rootsOnAxis_62 rfl rfl rfl ⟨by simp only [raxL, if_pos c11, if_pos c11_1, if_neg c11_2, if_neg c54]; first | rfl | (simp only [raxL, raxF, if_pos c11, if_pos c11_1, if_neg c11_2, if_neg c54]; rfl) | (simp [raxL, raxF, if_pos c11, if_pos c11_1, if_neg c11_2, if_neg c54]; done), rfl⟩
    refine m_iload_n dX1_rootsOnAxis_57 rfl ?_
    refine m_goto (t := 62) dX1_rootsOnAxis_58 (by decide) ?_
    exact m_ireturn hF dX1_rootsOnAxis_62 rfl rfl rfl ⟨by simp only [raxL, if_pos c11, if_pos c11_1, if_neg c11_2, if_pos c54]; first | rfl | (simp only [raxL, raxF, if_pos c11, if_pos c11_1, if_neg c11_2, if_pos c54]; rfl) | (simp [raxL, raxF, if_pos c11, if_pos c11_1, if_neg c11_2, if_pos c54]; done), rfl⟩
  refine m_iinc (v := 3) dX1_rootsOnAxis_15 rfl (by decide) (by decide) ?_
  show mW _ _ _ _ _ _ 18 [_, _, _] _
  refine m_goto (t := 2) dX1_rootsOnAxis_18 (by decide) ?_
  refine m_iload_n dX1_rootsOnAxis_2 rfl ?_
  refine m_iload_n dX1_rootsOnAxis_3 rfl ?_
  refine m_icmp_ge (t := 21) dX1_rootsOnAxis_4 (by decide) (fun q => absurd q (by decide)) (fun _ => ?_)
  refine m_aload_n dX1_rootsOnAxis_7 rfl ?_
  refine m_iload_n dX1_rootsOnAxis_8 rfl ?_
  refine m_laload (k := 3) dX1_rootsOnAxis_9 (by first | assumption | rfl) ⟨by decide, by decide⟩ ?_
  refine m_lconst (v := 0) dX1_rootsOnAxis_10 (by decide) ?_
  refine m_lc_ne (t := 21) dX1_rootsOnAxis_11 dX1_rootsOnAxis_12 (by decide) (fun c11_3 => ?_) (fun c11_3 => ?_)
  · refine m_iload_n dX1_rootsOnAxis_21 rfl ?_
    refine m_iload_n dX1_rootsOnAxis_22 rfl ?_
    refine m_isub dX1_rootsOnAxis_23 ?_
    refine m_ci (v := 1) (by decide) ?_
    refine m_iconst (v := 2) dX1_rootsOnAxis_24 (by decide) ?_
    refine m_icmp_ne (t := 63) dX1_rootsOnAxis_25 (by decide) (fun _ => ?_) (fun q => absurd q (by decide))
    refine m_iload_n dX1_rootsOnAxis_63 rfl ?_
    refine m_iload_n dX1_rootsOnAxis_64 rfl ?_
    refine m_isub dX1_rootsOnAxis_65 ?_
    refine m_ci (v := 1) (by decide) ?_
    refine m_iconst (v := 4) dX1_rootsOnAxis_66 (by decide) ?_
    refine m_icmp_ne (t := 83) dX1_rootsOnAxis_67 (by decide) (fun _ => ?_) (fun q => absurd q (by decide))
    refine m_iload_n dX1_rootsOnAxis_83 rfl ?_
    exact m_ireturn hF dX1_rootsOnAxis_84 rfl rfl rfl ⟨by simp only [raxL, if_pos c11, if_pos c11_1, if_pos c11_2, if_neg c11_3]; first | rfl | (simp only [raxL, raxF, if_pos c11, if_pos c11_1, if_pos c11_2, if_neg c11_3]; rfl) | (simp [raxL, raxF, if_pos c11, if_pos c11_1, if_pos c11_2, if_neg c11_3]; done), rfl⟩
  refine m_iinc (v := 4) dX1_rootsOnAxis_15 rfl (by decide) (by decide) ?_
  show mW _ _ _ _ _ _ 18 [_, _, _] _
  refine m_goto (t := 2) dX1_rootsOnAxis_18 (by decide) ?_
  refine m_iload_n dX1_rootsOnAxis_2 rfl ?_
  refine m_iload_n dX1_rootsOnAxis_3 rfl ?_
  refine m_icmp_ge (t := 21) dX1_rootsOnAxis_4 (by decide) (fun _ => ?_) (fun q => absurd (by decide) q)
  refine m_iload_n dX1_rootsOnAxis_21 rfl ?_
  refine m_iload_n dX1_rootsOnAxis_22 rfl ?_
  refine m_isub dX1_rootsOnAxis_23 ?_
  refine m_ci (v := 0) (by decide) ?_
  refine m_iconst (v := 2) dX1_rootsOnAxis_24 (by decide) ?_
  refine m_icmp_ne (t := 63) dX1_rootsOnAxis_25 (by decide) (fun _ => ?_) (fun q => absurd q (by decide))
  refine m_iload_n dX1_rootsOnAxis_63 rfl ?_
  refine m_iload_n dX1_rootsOnAxis_64 rfl ?_
  refine m_isub dX1_rootsOnAxis_65 ?_
  refine m_ci (v := 0) (by decide) ?_
  refine m_iconst (v := 4) dX1_rootsOnAxis_66 (by decide) ?_
  refine m_icmp_ne (t := 83) dX1_rootsOnAxis_67 (by decide) (fun _ => ?_) (fun q => absurd q (by decide))
  refine m_iload_n dX1_rootsOnAxis_83 rfl ?_
  exact m_ireturn hF dX1_rootsOnAxis_84 rfl rfl rfl ⟨by simp only [raxL, if_pos c11, if_pos c11_1, if_pos c11_2, if_pos c11_3]; first | rfl | (simp only [raxL, raxF, if_pos c11, if_pos c11_1, if_pos c11_2, if_pos c11_3]; rfl) | (simp [raxL, raxF, if_pos c11, if_pos c11_1, if_pos c11_2, if_pos c11_3]; done), rfl⟩

