/-! ===== Chain ===== -/
theorem lt5 {j : Nat} (h : j < 5) : j = 0 ∨ j = 1 ∨ j = 2 ∨ j = 3 ∨ j = 4 := by omega
/-- the leading place k of r is struck out by s, whose degree is low -/
def strikeT (r : Nat → Int) (k : Nat) (s : Nat → Int) (low : Nat) : Int := if s low < 0 then -r k else r k
def strikeZ (r : Nat → Int) (k : Nat) (s : Nat → Int) (low : Nat) (j : Nat) : Int := if r k = 0 then r j else r j * (s low).natAbs - (if k - low ≤ j ∧ j ≤ k then strikeT r k s low * s (j - (k - low)) else 0)
theorem strikeT_0 {r : Nat → Int} {k : Nat} {s : Nat → Int} {low : Nat} : strikeT r k s low = 0 ↔ r k = 0 := by
  unfold strikeT
  split <;> omega
theorem strike_if {r : Nat → Int} {k : Nat} {s : Nat → Int} {low : Nat} (h : bdZ (s low)) : (if 0 ≤ lZ (s low) then lZ (r k) else -lZ (r k)) = lZ (strikeT r k s low) := by
  unfold strikeT
  by_cases e : s low < 0
  · rw [if_neg (fun q => absurd ((lZ_ge0 h).mp q) (by omega)), if_pos e, lZ_neg]
  · rw [if_pos ((lZ_ge0 h).mpr (by omega)), if_neg e]
theorem strikeT_bd {r : Nat → Int} {k : Nat} {s : Nat → Int} {low : Nat} (h : bdZ (r k)) : bdZ (strikeT r k s low) := by
  unfold strikeT
  split
  · exact bd_neg h
  · exact h
set_option maxHeartbeats 4000000 in
set_option maxRecDepth 100000 in
theorem t_X0_strike_1_0 {n : Nat} {hp : mHp} {a b : Nat} {R S : Nat → Int64} {r s : Nat → Int} (h1 : hp a = eL 5 R) (h2 : hp b = eL 5 S) (hab : a ≠ b) (hR : ∀ j, j < 5 → R j = lZ (r j)) (hS : ∀ j, j < 5 → S j = lZ (s j)) (bl : bdZ (s 0)) (bk : bdZ (r 1)) : mC D_X0_strike [.ref a, .int 1, .ref b, .int 0] n hp (fun v hp' => v = none ∧ ∃ R' : Nat → Int64, hp' = va_up hp a (eL 5 R') ∧ ∀ j, j < 5 → R' j = lZ (strikeZ r 1 s 0 j)) := by
  refine m_enter rfl rfl (Nat.le_of_ble_eq_true rfl) (fun K hF => ?_)
  show mW K _ 0 0 _ _ 0 [.ref a, .int 1, .ref b, .int 0, .retAddr 0, .retAddr 0, .retAddr 0, .retAddr 0, .retAddr 0] []
  have hba := hab.symm
  refine m_aload_n dX0_strike_0 rfl ?_
  refine m_iload_n dX0_strike_1 rfl ?_
  refine m_laload (k := 0) dX0_strike_2 (by first | assumption | rfl | exact va_up_self _ _ _ | (refine (va_up_ne _ _ ?_).trans ?_ <;> assumption) | (refine (va_up_ne _ _ ?_).trans (va_up_self _ _ _) <;> assumption) | (refine (va_up_ne _ _ ?_).trans ((va_up_ne _ _ ?_).trans ?_) <;> assumption) | (refine (va_up_ne _ _ ?_).trans ((va_up_ne _ _ ?_).trans (va_up_self _ _ _)) <;> assumption)) ⟨by decide, by decide⟩ ?_
  refine m_cl (v := lZ (s 0)) (hS 0 (by decide)) ?_
  refine m_lstore dX0_strike_3 (by decide) ?_
  show mW _ _ _ _ _ _ 5 [_, _, _, _, _, _, _, _, _] _
  refine m_lload dX0_strike_5 rfl ?_
  refine m_lconst (v := 0) dX0_strike_7 (by decide) ?_
  refine m_tern_L (J := 22) (x := R 1) (y := -R 1) (m_lc_ge (t := 19) dX0_strike_8 dX0_strike_9 (by decide)) (fun k9 => ?_) (fun k9 => ?_) ?_
  · refine m_aload_n dX0_strike_19 rfl ?_
    refine m_iload_n dX0_strike_20 rfl ?_
    refine m_laload (k := 1) dX0_strike_21 (by first | assumption | rfl | exact va_up_self _ _ _ | (refine (va_up_ne _ _ ?_).trans ?_ <;> assumption) | (refine (va_up_ne _ _ ?_).trans (va_up_self _ _ _) <;> assumption) | (refine (va_up_ne _ _ ?_).trans ((va_up_ne _ _ ?_).trans ?_) <;> assumption) | (refine (va_up_ne _ _ ?_).trans ((va_up_ne _ _ ?_).trans (va_up_self _ _ _)) <;> assumption)) ⟨by decide, by decide⟩ ?_
    exact k9
  · refine m_aload_n dX0_strike_12 rfl ?_
    refine m_iload_n dX0_strike_13 rfl ?_
    refine m_laload (k := 1) dX0_strike_14 (by first | assumption | rfl | exact va_up_self _ _ _ | (refine (va_up_ne _ _ ?_).trans ?_ <;> assumption) | (refine (va_up_ne _ _ ?_).trans (va_up_self _ _ _) <;> assumption) | (refine (va_up_ne _ _ ?_).trans ((va_up_ne _ _ ?_).trans ?_) <;> assumption) | (refine (va_up_ne _ _ ?_).trans ((va_up_ne _ _ ?_).trans (va_up_self _ _ _)) <;> assumption)) ⟨by decide, by decide⟩ ?_
    refine m_lneg dX0_strike_15 ?_
    refine m_goto (t := 22) dX0_strike_16 (by decide) ?_
    exact k9
  refine m_cl (v := lZ (strikeT r 1 s 0)) (by rw [hR 1 (by decide)]; exact strike_if bl) ?_
  refine m_lstore dX0_strike_22 (by decide) ?_
  show mW _ _ _ _ _ _ 24 [_, _, _, _, _, _, _, _, _] _
  refine m_lload dX0_strike_24 rfl ?_
  refine m_lconst (v := 0) dX0_strike_26 (by decide) ?_
  refine m_lc_ne (t := 32) dX0_strike_27 dX0_strike_28 (by decide) (fun c27 => ?_) (fun c27 => ?_)
  rotate_left
  · exact m_return hF dX0_strike_31 rfl rfl rfl ⟨rfl, R, (va_uid hp h1).symm, by intro j hj; unfold strikeZ; rw [if_pos (strikeT_0.mp ((lZ_0 (strikeT_bd bk)).mp c27))]; exact hR j hj⟩
  have hnz : ¬ r 1 = 0 := fun q => c27 ((lZ_0 (strikeT_bd bk)).mpr (strikeT_0.mpr q))
  refine m_iconst (v := 0) dX0_strike_32 (by decide) ?_
  refine m_istore dX0_strike_33 (by decide) ?_
  show mW _ _ _ _ _ _ 35 [_, _, _, _, _, _, _, _, _] _
  refine m_iload dX0_strike_35 rfl ?_
  refine m_iconst (v := 5) dX0_strike_37 (by decide) ?_
  refine m_icmp_ge (t := 59) dX0_strike_38 (by decide) (fun q => absurd q (by decide)) (fun _ => ?_)
  refine m_aload_n dX0_strike_41 rfl ?_
  refine m_iload dX0_strike_42 rfl ?_
  refine m_dup2 dX0_strike_44 rfl rfl ?_
  refine m_laload (k := 0) dX0_strike_45 (by first | assumption | rfl | exact va_up_self _ _ _ | (refine (va_up_ne _ _ ?_).trans ?_ <;> assumption) | (refine (va_up_ne _ _ ?_).trans (va_up_self _ _ _) <;> assumption) | (refine (va_up_ne _ _ ?_).trans ((va_up_ne _ _ ?_).trans ?_) <;> assumption) | (refine (va_up_ne _ _ ?_).trans ((va_up_ne _ _ ?_).trans (va_up_self _ _ _)) <;> assumption)) ⟨by decide, by decide⟩ ?_
  refine m_lload dX0_strike_46 rfl ?_
  refine m_mabs dX0_strike_48 lk_X0_53 (Nat.le_of_ble_eq_true rfl) (by decide) (by decide) (by decide) ?_
  refine m_cl (v := lZ ((s 0).natAbs : Int)) (lZ_abs' bl) ?_
  refine m_lmul dX0_strike_51 ?_
  refine m_lastore (k := 0) dX0_strike_52 (by first | assumption | rfl | exact va_up_self _ _ _ | (refine (va_up_ne _ _ ?_).trans ?_ <;> assumption) | (refine (va_up_ne _ _ ?_).trans (va_up_self _ _ _) <;> assumption) | (refine (va_up_ne _ _ ?_).trans ((va_up_ne _ _ ?_).trans ?_) <;> assumption) | (refine (va_up_ne _ _ ?_).trans ((va_up_ne _ _ ?_).trans (va_up_self _ _ _)) <;> assumption)) ⟨by decide, by decide⟩ ?_
  try rw [va_uu]
  refine m_iinc (v := 1) dX0_strike_53 rfl (by decide) (by decide) ?_
  show mW _ _ _ _ _ _ 56 [_, _, _, _, _, _, _, _, _] _
  refine m_goto (t := 35) dX0_strike_56 (by decide) ?_
  refine m_iload dX0_strike_35 rfl ?_
  refine m_iconst (v := 5) dX0_strike_37 (by decide) ?_
  refine m_icmp_ge (t := 59) dX0_strike_38 (by decide) (fun q => absurd q (by decide)) (fun _ => ?_)
  refine m_aload_n dX0_strike_41 rfl ?_
  refine m_iload dX0_strike_42 rfl ?_
  refine m_dup2 dX0_strike_44 rfl rfl ?_
  refine m_laload (k := 1) dX0_strike_45 (by first | assumption | rfl | exact va_up_self _ _ _ | (refine (va_up_ne _ _ ?_).trans ?_ <;> assumption) | (refine (va_up_ne _ _ ?_).trans (va_up_self _ _ _) <;> assumption) | (refine (va_up_ne _ _ ?_).trans ((va_up_ne _ _ ?_).trans ?_) <;> assumption) | (refine (va_up_ne _ _ ?_).trans ((va_up_ne _ _ ?_).trans (va_up_self _ _ _)) <;> assumption)) ⟨by decide, by decide⟩ ?_
  refine m_lload dX0_strike_46 rfl ?_
  refine m_mabs dX0_strike_48 lk_X0_53 (Nat.le_of_ble_eq_true rfl) (by decide) (by decide) (by decide) ?_
  refine m_cl (v := lZ ((s 0).natAbs : Int)) (lZ_abs' bl) ?_
  refine m_lmul dX0_strike_51 ?_
  refine m_lastore (k := 1) dX0_strike_52 (by first | assumption | rfl | exact va_up_self _ _ _ | (refine (va_up_ne _ _ ?_).trans ?_ <;> assumption) | (refine (va_up_ne _ _ ?_).trans (va_up_self _ _ _) <;> assumption) | (refine (va_up_ne _ _ ?_).trans ((va_up_ne _ _ ?_).trans ?_) <;> assumption) | (refine (va_up_ne _ _ ?_).trans ((va_up_ne _ _ ?_).trans (va_up_self _ _ _)) <;> assumption)) ⟨by decide, by decide⟩ ?_
  try rw [va_uu]
  refine m_iinc (v := 2) dX0_strike_53 rfl (by decide) (by decide) ?_
  show mW _ _ _ _ _ _ 56 [_, _, _, _, _, _, _, _, _] _
  refine m_goto (t := 35) dX0_strike_56 (by decide) ?_
  refine m_iload dX0_strike_35 rfl ?_
  refine m_iconst (v := 5) dX0_strike_37 (by decide) ?_
  refine m_icmp_ge (t := 59) dX0_strike_38 (by decide) (fun q => absurd q (by decide)) (fun _ => ?_)
  refine m_aload_n dX0_strike_41 rfl ?_
  refine m_iload dX0_strike_42 rfl ?_
  refine m_dup2 dX0_strike_44 rfl rfl ?_
  refine m_laload (k := 2) dX0_strike_45 (by first | assumption | rfl | exact va_up_self _ _ _ | (refine (va_up_ne _ _ ?_).trans ?_ <;> assumption) | (refine (va_up_ne _ _ ?_).trans (va_up_self _ _ _) <;> assumption) | (refine (va_up_ne _ _ ?_).trans ((va_up_ne _ _ ?_).trans ?_) <;> assumption) | (refine (va_up_ne _ _ ?_).trans ((va_up_ne _ _ ?_).trans (va_up_self _ _ _)) <;> assumption)) ⟨by decide, by decide⟩ ?_
  refine m_lload dX0_strike_46 rfl ?_
  refine m_mabs dX0_strike_48 lk_X0_53 (Nat.le_of_ble_eq_true rfl) (by decide) (by decide) (by decide) ?_
  refine m_cl (v := lZ ((s 0).natAbs : Int)) (lZ_abs' bl) ?_
  refine m_lmul dX0_strike_51 ?_
  refine m_lastore (k := 2) dX0_strike_52 (by first | assumption | rfl | exact va_up_self _ _ _ | (refine (va_up_ne _ _ ?_).trans ?_ <;> assumption) | (refine (va_up_ne _ _ ?_).trans (va_up_self _ _ _) <;> assumption) | (refine (va_up_ne _ _ ?_).trans ((va_up_ne _ _ ?_).trans ?_) <;> assumption) | (refine (va_up_ne _ _ ?_).trans ((va_up_ne _ _ ?_).trans (va_up_self _ _ _)) <;> assumption)) ⟨by decide, by decide⟩ ?_
  try rw [va_uu]
  refine m_iinc (v := 3) dX0_strike_53 rfl (by decide) (by decide) ?_
  show mW _ _ _ _ _ _ 56 [_, _, _, _, _, _, _, _, _] _
  refine m_goto (t := 35) dX0_strike_56 (by decide) ?_
  refine m_iload dX0_strike_35 rfl ?_
  refine m_iconst (v := 5) dX0_strike_37 (by decide) ?_
  refine m_icmp_ge (t := 59) dX0_strike_38 (by decide) (fun q => absurd q (by decide)) (fun _ => ?_)
  refine m_aload_n dX0_strike_41 rfl ?_
  refine m_iload dX0_strike_42 rfl ?_
  refine m_dup2 dX0_strike_44 rfl rfl ?_
  refine m_laload (k := 3) dX0_strike_45 (by first | assumption | rfl | exact va_up_self _ _ _ | (refine (va_up_ne _ _ ?_).trans ?_ <;> assumption) | (refine (va_up_ne _ _ ?_).trans (va_up_self _ _ _) <;> assumption) | (refine (va_up_ne _ _ ?_).trans ((va_up_ne _ _ ?_).trans ?_) <;> assumption) | (refine (va_up_ne _ _ ?_).trans ((va_up_ne _ _ ?_).trans (va_up_self _ _ _)) <;> assumption)) ⟨by decide, by decide⟩ ?_
  refine m_lload dX0_strike_46 rfl ?_
  refine m_mabs dX0_strike_48 lk_X0_53 (Nat.le_of_ble_eq_true rfl) (by decide) (by decide) (by decide) ?_
  refine m_cl (v := lZ ((s 0).natAbs : Int)) (lZ_abs' bl) ?_
  refine m_lmul dX0_strike_51 ?_
  refine m_lastore (k := 3) dX0_strike_52 (by first | assumption | rfl | exact va_up_self _ _ _ | (refine (va_up_ne _ _ ?_).trans ?_ <;> assumption) | (refine (va_up_ne _ _ ?_).trans (va_up_self _ _ _) <;> assumption) | (refine (va_up_ne _ _ ?_).trans ((va_up_ne _ _ ?_).trans ?_) <;> assumption) | (refine (va_up_ne _ _ ?_).trans ((va_up_ne _ _ ?_).trans (va_up_self _ _ _)) <;> assumption)) ⟨by decide, by decide⟩ ?_
  try rw [va_uu]
  refine m_iinc (v := 4) dX0_strike_53 rfl (by decide) (by decide) ?_
  show mW _ _ _ _ _ _ 56 [_, _, _, _, _, _, _, _, _] _
  refine m_goto (t := 35) dX0_strike_56 (by decide) ?_
  refine m_iload dX0_strike_35 rfl ?_
  refine m_iconst (v := 5) dX0_strike_37 (by decide) ?_
  refine m_icmp_ge (t := 59) dX0_strike_38 (by decide) (fun q => absurd q (by decide)) (fun _ => ?_)
  refine m_aload_n dX0_strike_41 rfl ?_
  refine m_iload dX0_strike_42 rfl ?_
  refine m_dup2 dX0_strike_44 rfl rfl ?_
  refine m_laload (k := 4) dX0_strike_45 (by first | assumption | rfl | exact va_up_self _ _ _ | (refine (va_up_ne _ _ ?_).trans ?_ <;> assumption) | (refine (va_up_ne _ _ ?_).trans (va_up_self _ _ _) <;> assumption) | (refine (va_up_ne _ _ ?_).trans ((va_up_ne _ _ ?_).trans ?_) <;> assumption) | (refine (va_up_ne _ _ ?_).trans ((va_up_ne _ _ ?_).trans (va_up_self _ _ _)) <;> assumption)) ⟨by decide, by decide⟩ ?_
  refine m_lload dX0_strike_46 rfl ?_
  refine m_mabs dX0_strike_48 lk_X0_53 (Nat.le_of_ble_eq_true rfl) (by decide) (by decide) (by decide) ?_
  refine m_cl (v := lZ ((s 0).natAbs : Int)) (lZ_abs' bl) ?_
  refine m_lmul dX0_strike_51 ?_
  refine m_lastore (k := 4) dX0_strike_52 (by first | assumption | rfl | exact va_up_self _ _ _ | (refine (va_up_ne _ _ ?_).trans ?_ <;> assumption) | (refine (va_up_ne _ _ ?_).trans (va_up_self _ _ _) <;> assumption) | (refine (va_up_ne _ _ ?_).trans ((va_up_ne _ _ ?_).trans ?_) <;> assumption) | (refine (va_up_ne _ _ ?_).trans ((va_up_ne _ _ ?_).trans (va_up_self _ _ _)) <;> assumption)) ⟨by decide, by decide⟩ ?_
  try rw [va_uu]
  refine m_iinc (v := 5) dX0_strike_53 rfl (by decide) (by decide) ?_
  show mW _ _ _ _ _ _ 56 [_, _, _, _, _, _, _, _, _] _
  refine m_goto (t := 35) dX0_strike_56 (by decide) ?_
  refine m_iload dX0_strike_35 rfl ?_
  refine m_iconst (v := 5) dX0_strike_37 (by decide) ?_
  refine m_icmp_ge (t := 59) dX0_strike_38 (by decide) (fun _ => ?_) (fun q => absurd (by decide) q)
  refine m_iconst (v := 0) dX0_strike_59 (by decide) ?_
  refine m_istore dX0_strike_60 (by decide) ?_
  show mW _ _ _ _ _ _ 62 [_, _, _, _, _, _, _, _, _] _
  refine m_iload dX0_strike_62 rfl ?_
  refine m_iload_n dX0_strike_64 rfl ?_
  refine m_icmp_gt (t := 92) dX0_strike_65 (by decide) (fun q => absurd q (by decide)) (fun _ => ?_)
  refine m_aload_n dX0_strike_68 rfl ?_
  refine m_iload_n dX0_strike_69 rfl ?_
  refine m_iload_n dX0_strike_70 rfl ?_
  refine m_isub dX0_strike_71 ?_
  refine m_ci (v := 1) (by decide) ?_
  refine m_iload dX0_strike_72 rfl ?_
  refine m_iadd dX0_strike_74 ?_
  refine m_ci (v := 1) (by decide) ?_
  refine m_dup2 dX0_strike_75 rfl rfl ?_
  refine m_laload (k := 1) dX0_strike_76 (by first | assumption | rfl | exact va_up_self _ _ _ | (refine (va_up_ne _ _ ?_).trans ?_ <;> assumption) | (refine (va_up_ne _ _ ?_).trans (va_up_self _ _ _) <;> assumption) | (refine (va_up_ne _ _ ?_).trans ((va_up_ne _ _ ?_).trans ?_) <;> assumption) | (refine (va_up_ne _ _ ?_).trans ((va_up_ne _ _ ?_).trans (va_up_self _ _ _)) <;> assumption)) ⟨by decide, by decide⟩ ?_
  refine m_lload dX0_strike_77 rfl ?_
  refine m_aload_n dX0_strike_79 rfl ?_
  refine m_iload dX0_strike_80 rfl ?_
  refine m_laload (k := 0) dX0_strike_82 (by first | assumption | rfl | exact va_up_self _ _ _ | (refine (va_up_ne _ _ ?_).trans ?_ <;> assumption) | (refine (va_up_ne _ _ ?_).trans (va_up_self _ _ _) <;> assumption) | (refine (va_up_ne _ _ ?_).trans ((va_up_ne _ _ ?_).trans ?_) <;> assumption) | (refine (va_up_ne _ _ ?_).trans ((va_up_ne _ _ ?_).trans (va_up_self _ _ _)) <;> assumption)) ⟨by decide, by decide⟩ ?_
  refine m_lmul dX0_strike_83 ?_
  refine m_lsub dX0_strike_84 ?_
  refine m_lastore (k := 1) dX0_strike_85 (by first | assumption | rfl | exact va_up_self _ _ _ | (refine (va_up_ne _ _ ?_).trans ?_ <;> assumption) | (refine (va_up_ne _ _ ?_).trans (va_up_self _ _ _) <;> assumption) | (refine (va_up_ne _ _ ?_).trans ((va_up_ne _ _ ?_).trans ?_) <;> assumption) | (refine (va_up_ne _ _ ?_).trans ((va_up_ne _ _ ?_).trans (va_up_self _ _ _)) <;> assumption)) ⟨by decide, by decide⟩ ?_
  try rw [va_uu]
  refine m_iinc (v := 1) dX0_strike_86 rfl (by decide) (by decide) ?_
  show mW _ _ _ _ _ _ 89 [_, _, _, _, _, _, _, _, _] _
  refine m_goto (t := 62) dX0_strike_89 (by decide) ?_
  refine m_iload dX0_strike_62 rfl ?_
  refine m_iload_n dX0_strike_64 rfl ?_
  refine m_icmp_gt (t := 92) dX0_strike_65 (by decide) (fun _ => ?_) (fun q => absurd (by decide) q)
  exact m_return hF dX0_strike_92 rfl rfl rfl ⟨rfl, _, rfl, by intro j hj; rcases lt5 hj with rfl | rfl | rfl | rfl | rfl <;> simp [va_up, strikeZ, hnz, hR 0 (by decide), hR 1 (by decide), hR 2 (by decide), hR 3 (by decide), hR 4 (by decide), hS 0 (by decide), hS 1 (by decide), hS 2 (by decide), hS 3 (by decide), hS 4 (by decide), lZ_mul, lZ_sub]⟩

set_option maxHeartbeats 4000000 in
set_option maxRecDepth 100000 in
theorem t_X0_strike_2_1 {n : Nat} {hp : mHp} {a b : Nat} {R S : Nat → Int64} {r s : Nat → Int} (h1 : hp a = eL 5 R) (h2 : hp b = eL 5 S) (hab : a ≠ b) (hR : ∀ j, j < 5 → R j = lZ (r j)) (hS : ∀ j, j < 5 → S j = lZ (s j)) (bl : bdZ (s 1)) (bk : bdZ (r 2)) : mC D_X0_strike [.ref a, .int 2, .ref b, .int 1] n hp (fun v hp' => v = none ∧ ∃ R' : Nat → Int64, hp' = va_up hp a (eL 5 R') ∧ ∀ j, j < 5 → R' j = lZ (strikeZ r 2 s 1 j)) := by
  refine m_enter rfl rfl (Nat.le_of_ble_eq_true rfl) (fun K hF => ?_)
  show mW K _ 0 0 _ _ 0 [.ref a, .int 2, .ref b, .int 1, .retAddr 0, .retAddr 0, .retAddr 0, .retAddr 0, .retAddr 0] []
  have hba := hab.symm
  refine m_aload_n dX0_strike_0 rfl ?_
  refine m_iload_n dX0_strike_1 rfl ?_
  refine m_laload (k := 1) dX0_strike_2 (by first | assumption | rfl | exact va_up_self _ _ _ | (refine (va_up_ne _ _ ?_).trans ?_ <;> assumption) | (refine (va_up_ne _ _ ?_).trans (va_up_self _ _ _) <;> assumption) | (refine (va_up_ne _ _ ?_).trans ((va_up_ne _ _ ?_).trans ?_) <;> assumption) | (refine (va_up_ne _ _ ?_).trans ((va_up_ne _ _ ?_).trans (va_up_self _ _ _)) <;> assumption)) ⟨by decide, by decide⟩ ?_
  refine m_cl (v := lZ (s 1)) (hS 1 (by decide)) ?_
  refine m_lstore dX0_strike_3 (by decide) ?_
  show mW _ _ _ _ _ _ 5 [_, _, _, _, _, _, _, _, _] _
  refine m_lload dX0_strike_5 rfl ?_
  refine m_lconst (v := 0) dX0_strike_7 (by decide) ?_
  refine m_tern_L (J := 22) (x := R 2) (y := -R 2) (m_lc_ge (t := 19) dX0_strike_8 dX0_strike_9 (by decide)) (fun k9 => ?_) (fun k9 => ?_) ?_
  · refine m_aload_n dX0_strike_19 rfl ?_
    refine m_iload_n dX0_strike_20 rfl ?_
    refine m_laload (k := 2) dX0_strike_21 (by first | assumption | rfl | exact va_up_self _ _ _ | (refine (va_up_ne _ _ ?_).trans ?_ <;> assumption) | (refine (va_up_ne _ _ ?_).trans (va_up_self _ _ _) <;> assumption) | (refine (va_up_ne _ _ ?_).trans ((va_up_ne _ _ ?_).trans ?_) <;> assumption) | (refine (va_up_ne _ _ ?_).trans ((va_up_ne _ _ ?_).trans (va_up_self _ _ _)) <;> assumption)) ⟨by decide, by decide⟩ ?_
    exact k9
  · refine m_aload_n dX0_strike_12 rfl ?_
    refine m_iload_n dX0_strike_13 rfl ?_
    refine m_laload (k := 2) dX0_strike_14 (by first | assumption | rfl | exact va_up_self _ _ _ | (refine (va_up_ne _ _ ?_).trans ?_ <;> assumption) | (refine (va_up_ne _ _ ?_).trans (va_up_self _ _ _) <;> assumption) | (refine (va_up_ne _ _ ?_).trans ((va_up_ne _ _ ?_).trans ?_) <;> assumption) | (refine (va_up_ne _ _ ?_).trans ((va_up_ne _ _ ?_).trans (va_up_self _ _ _)) <;> assumption)) ⟨by decide, by decide⟩ ?_
    refine m_lneg dX0_strike_15 ?_
    refine m_goto (t := 22) dX0_strike_16 (by decide) ?_
    exact k9
  refine m_cl (v := lZ (strikeT r 2 s 1)) (by rw [hR 2 (by decide)]; exact strike_if bl) ?_
  refine m_lstore dX0_strike_22 (by decide) ?_
  show mW _ _ _ _ _ _ 24 [_, _, _, _, _, _, _, _, _] _
  refine m_lload dX0_strike_24 rfl ?_
  refine m_lconst (v := 0) dX0_strike_26 (by decide) ?_
  refine m_lc_ne (t := 32) dX0_strike_27 dX0_strike_28 (by decide) (fun c27 => ?_) (fun c27 => ?_)
  rotate_left
  · exact m_return hF dX0_strike_31 rfl rfl rfl ⟨rfl, R, (va_uid hp h1).symm, by intro j hj; unfold strikeZ; rw [if_pos (strikeT_0.mp ((lZ_0 (strikeT_bd bk)).mp c27))]; exact hR j hj⟩
  have hnz : ¬ r 2 = 0 := fun q => c27 ((lZ_0 (strikeT_bd bk)).mpr (strikeT_0.mpr q))
  refine m_iconst (v := 0) dX0_strike_32 (by decide) ?_
  refine m_istore dX0_strike_33 (by decide) ?_
  show mW _ _ _ _ _ _ 35 [_, _, _, _, _, _, _, _, _] _
  refine m_iload dX0_strike_35 rfl ?_
  refine m_iconst (v := 5) dX0_strike_37 (by decide) ?_
  refine m_icmp_ge (t := 59) dX0_strike_38 (by decide) (fun q => absurd q (by decide)) (fun _ => ?_)
  refine m_aload_n dX0_strike_41 rfl ?_
  refine m_iload dX0_strike_42 rfl ?_
  refine m_dup2 dX0_strike_44 rfl rfl ?_
  refine m_laload (k := 0) dX0_strike_45 (by first | assumption | rfl | exact va_up_self _ _ _ | (refine (va_up_ne _ _ ?_).trans ?_ <;> assumption) | (refine (va_up_ne _ _ ?_).trans (va_up_self _ _ _) <;> assumption) | (refine (va_up_ne _ _ ?_).trans ((va_up_ne _ _ ?_).trans ?_) <;> assumption) | (refine (va_up_ne _ _ ?_).trans ((va_up_ne _ _ ?_).trans (va_up_self _ _ _)) <;> assumption)) ⟨by decide, by decide⟩ ?_
  refine m_lload dX0_strike_46 rfl ?_
  refine m_mabs dX0_strike_48 lk_X0_53 (Nat.le_of_ble_eq_true rfl) (by decide) (by decide) (by decide) ?_
  refine m_cl (v := lZ ((s 1).natAbs : Int)) (lZ_abs' bl) ?_
  refine m_lmul dX0_strike_51 ?_
  refine m_lastore (k := 0) dX0_strike_52 (by first | assumption | rfl | exact va_up_self _ _ _ | (refine (va_up_ne _ _ ?_).trans ?_ <;> assumption) | (refine (va_up_ne _ _ ?_).trans (va_up_self _ _ _) <;> assumption) | (refine (va_up_ne _ _ ?_).trans ((va_up_ne _ _ ?_).trans ?_) <;> assumption) | (refine (va_up_ne _ _ ?_).trans ((va_up_ne _ _ ?_).trans (va_up_self _ _ _)) <;> assumption)) ⟨by decide, by decide⟩ ?_
  try rw [va_uu]
  refine m_iinc (v := 1) dX0_strike_53 rfl (by decide) (by decide) ?_
  show mW _ _ _ _ _ _ 56 [_, _, _, _, _, _, _, _, _] _
  refine m_goto (t := 35) dX0_strike_56 (by decide) ?_
  refine m_iload dX0_strike_35 rfl ?_
  refine m_iconst (v := 5) dX0_strike_37 (by decide) ?_
  refine m_icmp_ge (t := 59) dX0_strike_38 (by decide) (fun q => absurd q (by decide)) (fun _ => ?_)
  refine m_aload_n dX0_strike_41 rfl ?_
  refine m_iload dX0_strike_42 rfl ?_
  refine m_dup2 dX0_strike_44 rfl rfl ?_
  refine m_laload (k := 1) dX0_strike_45 (by first | assumption | rfl | exact va_up_self _ _ _ | (refine (va_up_ne _ _ ?_).trans ?_ <;> assumption) | (refine (va_up_ne _ _ ?_).trans (va_up_self _ _ _) <;> assumption) | (refine (va_up_ne _ _ ?_).trans ((va_up_ne _ _ ?_).trans ?_) <;> assumption) | (refine (va_up_ne _ _ ?_).trans ((va_up_ne _ _ ?_).trans (va_up_self _ _ _)) <;> assumption)) ⟨by decide, by decide⟩ ?_
  refine m_lload dX0_strike_46 rfl ?_
  refine m_mabs dX0_strike_48 lk_X0_53 (Nat.le_of_ble_eq_true rfl) (by decide) (by decide) (by decide) ?_
  refine m_cl (v := lZ ((s 1).natAbs : Int)) (lZ_abs' bl) ?_
  refine m_lmul dX0_strike_51 ?_
  refine m_lastore (k := 1) dX0_strike_52 (by first | assumption | rfl | exact va_up_self _ _ _ | (refine (va_up_ne _ _ ?_).trans ?_ <;> assumption) | (refine (va_up_ne _ _ ?_).trans (va_up_self _ _ _) <;> assumption) | (refine (va_up_ne _ _ ?_).trans ((va_up_ne _ _ ?_).trans ?_) <;> assumption) | (refine (va_up_ne _ _ ?_).trans ((va_up_ne _ _ ?_).trans (va_up_self _ _ _)) <;> assumption)) ⟨by decide, by decide⟩ ?_
  try rw [va_uu]
  refine m_iinc (v := 2) dX0_strike_53 rfl (by decide) (by decide) ?_
  show mW _ _ _ _ _ _ 56 [_, _, _, _, _, _, _, _, _] _
  refine m_goto (t := 35) dX0_strike_56 (by decide) ?_
  refine m_iload dX0_strike_35 rfl ?_
  refine m_iconst (v := 5) dX0_strike_37 (by decide) ?_
  refine m_icmp_ge (t := 59) dX0_strike_38 (by decide) (fun q => absurd q (by decide)) (fun _ => ?_)
  refine m_aload_n dX0_strike_41 rfl ?_
  refine m_iload dX0_strike_42 rfl ?_
  refine m_dup2 dX0_strike_44 rfl rfl ?_
  refine m_laload (k := 2) dX0_strike_45 (by first | assumption | rfl | exact va_up_self _ _ _ | (refine (va_up_ne _ _ ?_).trans ?_ <;> assumption) | (refine (va_up_ne _ _ ?_).trans (va_up_self _ _ _) <;> assumption) | (refine (va_up_ne _ _ ?_).trans ((va_up_ne _ _ ?_).trans ?_) <;> assumption) | (refine (va_up_ne _ _ ?_).trans ((va_up_ne _ _ ?_).trans (va_up_self _ _ _)) <;> assumption)) ⟨by decide, by decide⟩ ?_
  refine m_lload dX0_strike_46 rfl ?_
  refine m_mabs dX0_strike_48 lk_X0_53 (Nat.le_of_ble_eq_true rfl) (by decide) (by decide) (by decide) ?_
  refine m_cl (v := lZ ((s 1).natAbs : Int)) (lZ_abs' bl) ?_
  refine m_lmul dX0_strike_51 ?_
  refine m_lastore (k := 2) dX0_strike_52 (by first | assumption | rfl | exact va_up_self _ _ _ | (refine (va_up_ne _ _ ?_).trans ?_ <;> assumption) | (refine (va_up_ne _ _ ?_).trans (va_up_self _ _ _) <;> assumption) | (refine (va_up_ne _ _ ?_).trans ((va_up_ne _ _ ?_).trans ?_) <;> assumption) | (refine (va_up_ne _ _ ?_).trans ((va_up_ne _ _ ?_).trans (va_up_self _ _ _)) <;> assumption)) ⟨by decide, by decide⟩ ?_
  try rw [va_uu]
  refine m_iinc (v := 3) dX0_strike_53 rfl (by decide) (by decide) ?_
  show mW _ _ _ _ _ _ 56 [_, _, _, _, _, _, _, _, _] _
  refine m_goto (t := 35) dX0_strike_56 (by decide) ?_
  refine m_iload dX0_strike_35 rfl ?_
  refine m_iconst (v := 5) dX0_strike_37 (by decide) ?_
  refine m_icmp_ge (t := 59) dX0_strike_38 (by decide) (fun q => absurd q (by decide)) (fun _ => ?_)
  refine m_aload_n dX0_strike_41 rfl ?_
  refine m_iload dX0_strike_42 rfl ?_
  refine m_dup2 dX0_strike_44 rfl rfl ?_
  refine m_laload (k := 3) dX0_strike_45 (by first | assumption | rfl | exact va_up_self _ _ _ | (refine (va_up_ne _ _ ?_).trans ?_ <;> assumption) | (refine (va_up_ne _ _ ?_).trans (va_up_self _ _ _) <;> assumption) | (refine (va_up_ne _ _ ?_).trans ((va_up_ne _ _ ?_).trans ?_) <;> assumption) | (refine (va_up_ne _ _ ?_).trans ((va_up_ne _ _ ?_).trans (va_up_self _ _ _)) <;> assumption)) ⟨by decide, by decide⟩ ?_
  refine m_lload dX0_strike_46 rfl ?_
  refine m_mabs dX0_strike_48 lk_X0_53 (Nat.le_of_ble_eq_true rfl) (by decide) (by decide) (by decide) ?_
  refine m_cl (v := lZ ((s 1).natAbs : Int)) (lZ_abs' bl) ?_
  refine m_lmul dX0_strike_51 ?_
  refine m_lastore (k := 3) dX0_strike_52 (by first | assumption | rfl | exact va_up_self _ _ _ | (refine (va_up_ne _ _ ?_).trans ?_ <;> assumption) | (refine (va_up_ne _ _ ?_).trans (va_up_self _ _ _) <;> assumption) | (refine (va_up_ne _ _ ?_).trans ((va_up_ne _ _ ?_).trans ?_) <;> assumption) | (refine (va_up_ne _ _ ?_).trans ((va_up_ne _ _ ?_).trans (va_up_self _ _ _)) <;> assumption)) ⟨by decide, by decide⟩ ?_
  try rw [va_uu]
  refine m_iinc (v := 4) dX0_strike_53 rfl (by decide) (by decide) ?_
  show mW _ _ _ _ _ _ 56 [_, _, _, _, _, _, _, _, _] _
  refine m_goto (t := 35) dX0_strike_56 (by decide) ?_
  refine m_iload dX0_strike_35 rfl ?_
  refine m_iconst (v := 5) dX0_strike_37 (by decide) ?_
  refine m_icmp_ge (t := 59) dX0_strike_38 (by decide) (fun q => absurd q (by decide)) (fun _ => ?_)
  refine m_aload_n dX0_strike_41 rfl ?_
  refine m_iload dX0_strike_42 rfl ?_
  refine m_dup2 dX0_strike_44 rfl rfl ?_
  refine m_laload (k := 4) dX0_strike_45 (by first | assumption | rfl | exact va_up_self _ _ _ | (refine (va_up_ne _ _ ?_).trans ?_ <;> assumption) | (refine (va_up_ne _ _ ?_).trans (va_up_self _ _ _) <;> assumption) | (refine (va_up_ne _ _ ?_).trans ((va_up_ne _ _ ?_).trans ?_) <;> assumption) | (refine (va_up_ne _ _ ?_).trans ((va_up_ne _ _ ?_).trans (va_up_self _ _ _)) <;> assumption)) ⟨by decide, by decide⟩ ?_
  refine m_lload dX0_strike_46 rfl ?_
  refine m_mabs dX0_strike_48 lk_X0_53 (Nat.le_of_ble_eq_true rfl) (by decide) (by decide) (by decide) ?_
  refine m_cl (v := lZ ((s 1).natAbs : Int)) (lZ_abs' bl) ?_
  refine m_lmul dX0_strike_51 ?_
  refine m_lastore (k := 4) dX0_strike_52 (by first | assumption | rfl | exact va_up_self _ _ _ | (refine (va_up_ne _ _ ?_).trans ?_ <;> assumption) | (refine (va_up_ne _ _ ?_).trans (va_up_self _ _ _) <;> assumption) | (refine (va_up_ne _ _ ?_).trans ((va_up_ne _ _ ?_).trans ?_) <;> assumption) | (refine (va_up_ne _ _ ?_).trans ((va_up_ne _ _ ?_).trans (va_up_self _ _ _)) <;> assumption)) ⟨by decide, by decide⟩ ?_
  try rw [va_uu]
  refine m_iinc (v := 5) dX0_strike_53 rfl (by decide) (by decide) ?_
  show mW _ _ _ _ _ _ 56 [_, _, _, _, _, _, _, _, _] _
  refine m_goto (t := 35) dX0_strike_56 (by decide) ?_
  refine m_iload dX0_strike_35 rfl ?_
  refine m_iconst (v := 5) dX0_strike_37 (by decide) ?_
  refine m_icmp_ge (t := 59) dX0_strike_38 (by decide) (fun _ => ?_) (fun q => absurd (by decide) q)
  refine m_iconst (v := 0) dX0_strike_59 (by decide) ?_
  refine m_istore dX0_strike_60 (by decide) ?_
  show mW _ _ _ _ _ _ 62 [_, _, _, _, _, _, _, _, _] _
  refine m_iload dX0_strike_62 rfl ?_
  refine m_iload_n dX0_strike_64 rfl ?_
  refine m_icmp_gt (t := 92) dX0_strike_65 (by decide) (fun q => absurd q (by decide)) (fun _ => ?_)
  refine m_aload_n dX0_strike_68 rfl ?_
  refine m_iload_n dX0_strike_69 rfl ?_
  refine m_iload_n dX0_strike_70 rfl ?_
  refine m_isub dX0_strike_71 ?_
  refine m_ci (v := 1) (by decide) ?_
  refine m_iload dX0_strike_72 rfl ?_
  refine m_iadd dX0_strike_74 ?_
  refine m_ci (v := 1) (by decide) ?_
  refine m_dup2 dX0_strike_75 rfl rfl ?_
  refine m_laload (k := 1) dX0_strike_76 (by first | assumption | rfl | exact va_up_self _ _ _ | (refine (va_up_ne _ _ ?_).trans ?_ <;> assumption) | (refine (va_up_ne _ _ ?_).trans (va_up_self _ _ _) <;> assumption) | (refine (va_up_ne _ _ ?_).trans ((va_up_ne _ _ ?_).trans ?_) <;> assumption) | (refine (va_up_ne _ _ ?_).trans ((va_up_ne _ _ ?_).trans (va_up_self _ _ _)) <;> assumption)) ⟨by decide, by decide⟩ ?_
  refine m_lload dX0_strike_77 rfl ?_
  refine m_aload_n dX0_strike_79 rfl ?_
  refine m_iload dX0_strike_80 rfl ?_
  refine m_laload (k := 0) dX0_strike_82 (by first | assumption | rfl | exact va_up_self _ _ _ | (refine (va_up_ne _ _ ?_).trans ?_ <;> assumption) | (refine (va_up_ne _ _ ?_).trans (va_up_self _ _ _) <;> assumption) | (refine (va_up_ne _ _ ?_).trans ((va_up_ne _ _ ?_).trans ?_) <;> assumption) | (refine (va_up_ne _ _ ?_).trans ((va_up_ne _ _ ?_).trans (va_up_self _ _ _)) <;> assumption)) ⟨by decide, by decide⟩ ?_
  refine m_lmul dX0_strike_83 ?_
  refine m_lsub dX0_strike_84 ?_
  refine m_lastore (k := 1) dX0_strike_85 (by first | assumption | rfl | exact va_up_self _ _ _ | (refine (va_up_ne _ _ ?_).trans ?_ <;> assumption) | (refine (va_up_ne _ _ ?_).trans (va_up_self _ _ _) <;> assumption) | (refine (va_up_ne _ _ ?_).trans ((va_up_ne _ _ ?_).trans ?_) <;> assumption) | (refine (va_up_ne _ _ ?_).trans ((va_up_ne _ _ ?_).trans (va_up_self _ _ _)) <;> assumption)) ⟨by decide, by decide⟩ ?_
  try rw [va_uu]
  refine m_iinc (v := 1) dX0_strike_86 rfl (by decide) (by decide) ?_
  show mW _ _ _ _ _ _ 89 [_, _, _, _, _, _, _, _, _] _
  refine m_goto (t := 62) dX0_strike_89 (by decide) ?_
  refine m_iload dX0_strike_62 rfl ?_
  refine m_iload_n dX0_strike_64 rfl ?_
  refine m_icmp_gt (t := 92) dX0_strike_65 (by decide) (fun q => absurd q (by decide)) (fun _ => ?_)
  refine m_aload_n dX0_strike_68 rfl ?_
  refine m_iload_n dX0_strike_69 rfl ?_
  refine m_iload_n dX0_strike_70 rfl ?_
  refine m_isub dX0_strike_71 ?_
  refine m_ci (v := 1) (by decide) ?_
  refine m_iload dX0_strike_72 rfl ?_
  refine m_iadd dX0_strike_74 ?_
  refine m_ci (v := 2) (by decide) ?_
  refine m_dup2 dX0_strike_75 rfl rfl ?_
  refine m_laload (k := 2) dX0_strike_76 (by first | assumption | rfl | exact va_up_self _ _ _ | (refine (va_up_ne _ _ ?_).trans ?_ <;> assumption) | (refine (va_up_ne _ _ ?_).trans (va_up_self _ _ _) <;> assumption) | (refine (va_up_ne _ _ ?_).trans ((va_up_ne _ _ ?_).trans ?_) <;> assumption) | (refine (va_up_ne _ _ ?_).trans ((va_up_ne _ _ ?_).trans (va_up_self _ _ _)) <;> assumption)) ⟨by decide, by decide⟩ ?_
  refine m_lload dX0_strike_77 rfl ?_
  refine m_aload_n dX0_strike_79 rfl ?_
  refine m_iload dX0_strike_80 rfl ?_
  refine m_laload (k := 1) dX0_strike_82 (by first | assumption | rfl | exact va_up_self _ _ _ | (refine (va_up_ne _ _ ?_).trans ?_ <;> assumption) | (refine (va_up_ne _ _ ?_).trans (va_up_self _ _ _) <;> assumption) | (refine (va_up_ne _ _ ?_).trans ((va_up_ne _ _ ?_).trans ?_) <;> assumption) | (refine (va_up_ne _ _ ?_).trans ((va_up_ne _ _ ?_).trans (va_up_self _ _ _)) <;> assumption)) ⟨by decide, by decide⟩ ?_
  refine m_lmul dX0_strike_83 ?_
  refine m_lsub dX0_strike_84 ?_
  refine m_lastore (k := 2) dX0_strike_85 (by first | assumption | rfl | exact va_up_self _ _ _ | (refine (va_up_ne _ _ ?_).trans ?_ <;> assumption) | (refine (va_up_ne _ _ ?_).trans (va_up_self _ _ _) <;> assumption) | (refine (va_up_ne _ _ ?_).trans ((va_up_ne _ _ ?_).trans ?_) <;> assumption) | (refine (va_up_ne _ _ ?_).trans ((va_up_ne _ _ ?_).trans (va_up_self _ _ _)) <;> assumption)) ⟨by decide, by decide⟩ ?_
  try rw [va_uu]
  refine m_iinc (v := 2) dX0_strike_86 rfl (by decide) (by decide) ?_
  show mW _ _ _ _ _ _ 89 [_, _, _, _, _, _, _, _, _] _
  refine m_goto (t := 62) dX0_strike_89 (by decide) ?_
  refine m_iload dX0_strike_62 rfl ?_
  refine m_iload_n dX0_strike_64 rfl ?_
  refine m_icmp_gt (t := 92) dX0_strike_65 (by decide) (fun _ => ?_) (fun q => absurd (by decide) q)
  exact m_return hF dX0_strike_92 rfl rfl rfl ⟨rfl, _, rfl, by intro j hj; rcases lt5 hj with rfl | rfl | rfl | rfl | rfl <;> simp [va_up, strikeZ, hnz, hR 0 (by decide), hR 1 (by decide), hR 2 (by decide), hR 3 (by decide), hR 4 (by decide), hS 0 (by decide), hS 1 (by decide), hS 2 (by decide), hS 3 (by decide), hS 4 (by decide), lZ_mul, lZ_sub]⟩

set_option maxHeartbeats 4000000 in
set_option maxRecDepth 100000 in
theorem t_X0_strike_3_2 {n : Nat} {hp : mHp} {a b : Nat} {R S : Nat → Int64} {r s : Nat → Int} (h1 : hp a = eL 5 R) (h2 : hp b = eL 5 S) (hab : a ≠ b) (hR : ∀ j, j < 5 → R j = lZ (r j)) (hS : ∀ j, j < 5 → S j = lZ (s j)) (bl : bdZ (s 2)) (bk : bdZ (r 3)) : mC D_X0_strike [.ref a, .int 3, .ref b, .int 2] n hp (fun v hp' => v = none ∧ ∃ R' : Nat → Int64, hp' = va_up hp a (eL 5 R') ∧ ∀ j, j < 5 → R' j = lZ (strikeZ r 3 s 2 j)) := by
  refine m_enter rfl rfl (Nat.le_of_ble_eq_true rfl) (fun K hF => ?_)
  show mW K _ 0 0 _ _ 0 [.ref a, .int 3, .ref b, .int 2, .retAddr 0, .retAddr 0, .retAddr 0, .retAddr 0, .retAddr 0] []
  have hba := hab.symm
  refine m_aload_n dX0_strike_0 rfl ?_
  refine m_iload_n dX0_strike_1 rfl ?_
  refine m_laload (k := 2) dX0_strike_2 (by first | assumption | rfl | exact va_up_self _ _ _ | (refine (va_up_ne _ _ ?_).trans ?_ <;> assumption) | (refine (va_up_ne _ _ ?_).trans (va_up_self _ _ _) <;> assumption) | (refine (va_up_ne _ _ ?_).trans ((va_up_ne _ _ ?_).trans ?_) <;> assumption) | (refine (va_up_ne _ _ ?_).trans ((va_up_ne _ _ ?_).trans (va_up_self _ _ _)) <;> assumption)) ⟨by decide, by decide⟩ ?_
  refine m_cl (v := lZ (s 2)) (hS 2 (by decide)) ?_
  refine m_lstore dX0_strike_3 (by decide) ?_
  show mW _ _ _ _ _ _ 5 [_, _, _, _, _, _, _, _, _] _
  refine m_lload dX0_strike_5 rfl ?_
  refine m_lconst (v := 0) dX0_strike_7 (by decide) ?_
  refine m_tern_L (J := 22) (x := R 3) (y := -R 3) (m_lc_ge (t := 19) dX0_strike_8 dX0_strike_9 (by decide)) (fun k9 => ?_) (fun k9 => ?_) ?_
  · refine m_aload_n dX0_strike_19 rfl ?_
    refine m_iload_n dX0_strike_20 rfl ?_
    refine m_laload (k := 3) dX0_strike_21 (by first | assumption | rfl | exact va_up_self _ _ _ | (refine (va_up_ne _ _ ?_).trans ?_ <;> assumption) | (refine (va_up_ne _ _ ?_).trans (va_up_self _ _ _) <;> assumption) | (refine (va_up_ne _ _ ?_).trans ((va_up_ne _ _ ?_).trans ?_) <;> assumption) | (refine (va_up_ne _ _ ?_).trans ((va_up_ne _ _ ?_).trans (va_up_self _ _ _)) <;> assumption)) ⟨by decide, by decide⟩ ?_
    exact k9
  · refine m_aload_n dX0_strike_12 rfl ?_
    refine m_iload_n dX0_strike_13 rfl ?_
    refine m_laload (k := 3) dX0_strike_14 (by first | assumption | rfl | exact va_up_self _ _ _ | (refine (va_up_ne _ _ ?_).trans ?_ <;> assumption) | (refine (va_up_ne _ _ ?_).trans (va_up_self _ _ _) <;> assumption) | (refine (va_up_ne _ _ ?_).trans ((va_up_ne _ _ ?_).trans ?_) <;> assumption) | (refine (va_up_ne _ _ ?_).trans ((va_up_ne _ _ ?_).trans (va_up_self _ _ _)) <;> assumption)) ⟨by decide, by decide⟩ ?_
    refine m_lneg dX0_strike_15 ?_
    refine m_goto (t := 22) dX0_strike_16 (by decide) ?_
    exact k9
  refine m_cl (v := lZ (strikeT r 3 s 2)) (by rw [hR 3 (by decide)]; exact strike_if bl) ?_
  refine m_lstore dX0_strike_22 (by decide) ?_
  show mW _ _ _ _ _ _ 24 [_, _, _, _, _, _, _, _, _] _
  refine m_lload dX0_strike_24 rfl ?_
  refine m_lconst (v := 0) dX0_strike_26 (by decide) ?_
  refine m_lc_ne (t := 32) dX0_strike_27 dX0_strike_28 (by decide) (fun c27 => ?_) (fun c27 => ?_)
  rotate_left
  · exact m_return hF dX0_strike_31 rfl rfl rfl ⟨rfl, R, (va_uid hp h1).symm, by intro j hj; unfold strikeZ; rw [if_pos (strikeT_0.mp ((lZ_0 (strikeT_bd bk)).mp c27))]; exact hR j hj⟩
  have hnz : ¬ r 3 = 0 := fun q => c27 ((lZ_0 (strikeT_bd bk)).mpr (strikeT_0.mpr q))
  refine m_iconst (v := 0) dX0_strike_32 (by decide) ?_
  refine m_istore dX0_strike_33 (by decide) ?_
  show mW _ _ _ _ _ _ 35 [_, _, _, _, _, _, _, _, _] _
  refine m_iload dX0_strike_35 rfl ?_
  refine m_iconst (v := 5) dX0_strike_37 (by decide) ?_
  refine m_icmp_ge (t := 59) dX0_strike_38 (by decide) (fun q => absurd q (by decide)) (fun _ => ?_)
  refine m_aload_n dX0_strike_41 rfl ?_
  refine m_iload dX0_strike_42 rfl ?_
  refine m_dup2 dX0_strike_44 rfl rfl ?_
  refine m_laload (k := 0) dX0_strike_45 (by first | assumption | rfl | exact va_up_self _ _ _ | (refine (va_up_ne _ _ ?_).trans ?_ <;> assumption) | (refine (va_up_ne _ _ ?_).trans (va_up_self _ _ _) <;> assumption) | (refine (va_up_ne _ _ ?_).trans ((va_up_ne _ _ ?_).trans ?_) <;> assumption) | (refine (va_up_ne _ _ ?_).trans ((va_up_ne _ _ ?_).trans (va_up_self _ _ _)) <;> assumption)) ⟨by decide, by decide⟩ ?_
  refine m_lload dX0_strike_46 rfl ?_
  refine m_mabs dX0_strike_48 lk_X0_53 (Nat.le_of_ble_eq_true rfl) (by decide) (by decide) (by decide) ?_
  refine m_cl (v := lZ ((s 2).natAbs : Int)) (lZ_abs' bl) ?_
  refine m_lmul dX0_strike_51 ?_
  refine m_lastore (k := 0) dX0_strike_52 (by first | assumption | rfl | exact va_up_self _ _ _ | (refine (va_up_ne _ _ ?_).trans ?_ <;> assumption) | (refine (va_up_ne _ _ ?_).trans (va_up_self _ _ _) <;> assumption) | (refine (va_up_ne _ _ ?_).trans ((va_up_ne _ _ ?_).trans ?_) <;> assumption) | (refine (va_up_ne _ _ ?_).trans ((va_up_ne _ _ ?_).trans (va_up_self _ _ _)) <;> assumption)) ⟨by decide, by decide⟩ ?_
  try rw [va_uu]
  refine m_iinc (v := 1) dX0_strike_53 rfl (by decide) (by decide) ?_
  show mW _ _ _ _ _ _ 56 [_, _, _, _, _, _, _, _, _] _
  refine m_goto (t := 35) dX0_strike_56 (by decide) ?_
  refine m_iload dX0_strike_35 rfl ?_
  refine m_iconst (v := 5) dX0_strike_37 (by decide) ?_
  refine m_icmp_ge (t := 59) dX0_strike_38 (by decide) (fun q => absurd q (by decide)) (fun _ => ?_)
  refine m_aload_n dX0_strike_41 rfl ?_
  refine m_iload dX0_strike_42 rfl ?_
  refine m_dup2 dX0_strike_44 rfl rfl ?_
  refine m_laload (k := 1) dX0_strike_45 (by first | assumption | rfl | exact va_up_self _ _ _ | (refine (va_up_ne _ _ ?_).trans ?_ <;> assumption) | (refine (va_up_ne _ _ ?_).trans (va_up_self _ _ _) <;> assumption) | (refine (va_up_ne _ _ ?_).trans ((va_up_ne _ _ ?_).trans ?_) <;> assumption) | (refine (va_up_ne _ _ ?_).trans ((va_up_ne _ _ ?_).trans (va_up_self _ _ _)) <;> assumption)) ⟨by decide, by decide⟩ ?_
  refine m_lload dX0_strike_46 rfl ?_
  refine m_mabs dX0_strike_48 lk_X0_53 (Nat.le_of_ble_eq_true rfl) (by decide) (by decide) (by decide) ?_
  refine m_cl (v := lZ ((s 2).natAbs : Int)) (lZ_abs' bl) ?_
  refine m_lmul dX0_strike_51 ?_
  refine m_lastore (k := 1) dX0_strike_52 (by first | assumption | rfl | exact va_up_self _ _ _ | (refine (va_up_ne _ _ ?_).trans ?_ <;> assumption) | (refine (va_up_ne _ _ ?_).trans (va_up_self _ _ _) <;> assumption) | (refine (va_up_ne _ _ ?_).trans ((va_up_ne _ _ ?_).trans ?_) <;> assumption) | (refine (va_up_ne _ _ ?_).trans ((va_up_ne _ _ ?_).trans (va_up_self _ _ _)) <;> assumption)) ⟨by decide, by decide⟩ ?_
  try rw [va_uu]
  refine m_iinc (v := 2) dX0_strike_53 rfl (by decide) (by decide) ?_
  show mW _ _ _ _ _ _ 56 [_, _, _, _, _, _, _, _, _] _
  refine m_goto (t := 35) dX0_strike_56 (by decide) ?_
  refine m_iload dX0_strike_35 rfl ?_
  refine m_iconst (v := 5) dX0_strike_37 (by decide) ?_
  refine m_icmp_ge (t := 59) dX0_strike_38 (by decide) (fun q => absurd q (by decide)) (fun _ => ?_)
  refine m_aload_n dX0_strike_41 rfl ?_
  refine m_iload dX0_strike_42 rfl ?_
  refine m_dup2 dX0_strike_44 rfl rfl ?_
  refine m_laload (k := 2) dX0_strike_45 (by first | assumption | rfl | exact va_up_self _ _ _ | (refine (va_up_ne _ _ ?_).trans ?_ <;> assumption) | (refine (va_up_ne _ _ ?_).trans (va_up_self _ _ _) <;> assumption) | (refine (va_up_ne _ _ ?_).trans ((va_up_ne _ _ ?_).trans ?_) <;> assumption) | (refine (va_up_ne _ _ ?_).trans ((va_up_ne _ _ ?_).trans (va_up_self _ _ _)) <;> assumption)) ⟨by decide, by decide⟩ ?_
  refine m_lload dX0_strike_46 rfl ?_
  refine m_mabs dX0_strike_48 lk_X0_53 (Nat.le_of_ble_eq_true rfl) (by decide) (by decide) (by decide) ?_
  refine m_cl (v := lZ ((s 2).natAbs : Int)) (lZ_abs' bl) ?_
  refine m_lmul dX0_strike_51 ?_
  refine m_lastore (k := 2) dX0_strike_52 (by first | assumption | rfl | exact va_up_self _ _ _ | (refine (va_up_ne _ _ ?_).trans ?_ <;> assumption) | (refine (va_up_ne _ _ ?_).trans (va_up_self _ _ _) <;> assumption) | (refine (va_up_ne _ _ ?_).trans ((va_up_ne _ _ ?_).trans ?_) <;> assumption) | (refine (va_up_ne _ _ ?_).trans ((va_up_ne _ _ ?_).trans (va_up_self _ _ _)) <;> assumption)) ⟨by decide, by decide⟩ ?_
  try rw [va_uu]
  refine m_iinc (v := 3) dX0_strike_53 rfl (by decide) (by decide) ?_
  show mW _ _ _ _ _ _ 56 [_, _, _, _, _, _, _, _, _] _
  refine m_goto (t := 35) dX0_strike_56 (by decide) ?_
  refine m_iload dX0_strike_35 rfl ?_
  refine m_iconst (v := 5) dX0_strike_37 (by decide) ?_
  refine m_icmp_ge (t := 59) dX0_strike_38 (by decide) (fun q => absurd q (by decide)) (fun _ => ?_)
  refine m_aload_n dX0_strike_41 rfl ?_
  refine m_iload dX0_strike_42 rfl ?_
  refine m_dup2 dX0_strike_44 rfl rfl ?_
  refine m_laload (k := 3) dX0_strike_45 (by first | assumption | rfl | exact va_up_self _ _ _ | (refine (va_up_ne _ _ ?_).trans ?_ <;> assumption) | (refine (va_up_ne _ _ ?_).trans (va_up_self _ _ _) <;> assumption) | (refine (va_up_ne _ _ ?_).trans ((va_up_ne _ _ ?_).trans ?_) <;> assumption) | (refine (va_up_ne _ _ ?_).trans ((va_up_ne _ _ ?_).trans (va_up_self _ _ _)) <;> assumption)) ⟨by decide, by decide⟩ ?_
  refine m_lload dX0_strike_46 rfl ?_
  refine m_mabs dX0_strike_48 lk_X0_53 (Nat.le_of_ble_eq_true rfl) (by decide) (by decide) (by decide) ?_
  refine m_cl (v := lZ ((s 2).natAbs : Int)) (lZ_abs' bl) ?_
  refine m_lmul dX0_strike_51 ?_
  refine m_lastore (k := 3) dX0_strike_52 (by first | assumption | rfl | exact va_up_self _ _ _ | (refine (va_up_ne _ _ ?_).trans ?_ <;> assumption) | (refine (va_up_ne _ _ ?_).trans (va_up_self _ _ _) <;> assumption) | (refine (va_up_ne _ _ ?_).trans ((va_up_ne _ _ ?_).trans ?_) <;> assumption) | (refine (va_up_ne _ _ ?_).trans ((va_up_ne _ _ ?_).trans (va_up_self _ _ _)) <;> assumption)) ⟨by decide, by decide⟩ ?_
  try rw [va_uu]
  refine m_iinc (v := 4) dX0_strike_53 rfl (by decide) (by decide) ?_
  show mW _ _ _ _ _ _ 56 [_, _, _, _, _, _, _, _, _] _
  refine m_goto (t := 35) dX0_strike_56 (by decide) ?_
  refine m_iload dX0_strike_35 rfl ?_
  refine m_iconst (v := 5) dX0_strike_37 (by decide) ?_
  refine m_icmp_ge (t := 59) dX0_strike_38 (by decide) (fun q => absurd q (by decide)) (fun _ => ?_)
  refine m_aload_n dX0_strike_41 rfl ?_
  refine m_iload dX0_strike_42 rfl ?_
  refine m_dup2 dX0_strike_44 rfl rfl ?_
  refine m_laload (k := 4) dX0_strike_45 (by first | assumption | rfl | exact va_up_self _ _ _ | (refine (va_up_ne _ _ ?_).trans ?_ <;> assumption) | (refine (va_up_ne _ _ ?_).trans (va_up_self _ _ _) <;> assumption) | (refine (va_up_ne _ _ ?_).trans ((va_up_ne _ _ ?_).trans ?_) <;> assumption) | (refine (va_up_ne _ _ ?_).trans ((va_up_ne _ _ ?_).trans (va_up_self _ _ _)) <;> assumption)) ⟨by decide, by decide⟩ ?_
  refine m_lload dX0_strike_46 rfl ?_
  refine m_mabs dX0_strike_48 lk_X0_53 (Nat.le_of_ble_eq_true rfl) (by decide) (by decide) (by decide) ?_
  refine m_cl (v := lZ ((s 2).natAbs : Int)) (lZ_abs' bl) ?_
  refine m_lmul dX0_strike_51 ?_
  refine m_lastore (k := 4) dX0_strike_52 (by first | assumption | rfl | exact va_up_self _ _ _ | (refine (va_up_ne _ _ ?_).trans ?_ <;> assumption) | (refine (va_up_ne _ _ ?_).trans (va_up_self _ _ _) <;> assumption) | (refine (va_up_ne _ _ ?_).trans ((va_up_ne _ _ ?_).trans ?_) <;> assumption) | (refine (va_up_ne _ _ ?_).trans ((va_up_ne _ _ ?_).trans (va_up_self _ _ _)) <;> assumption)) ⟨by decide, by decide⟩ ?_
  try rw [va_uu]
  refine m_iinc (v := 5) dX0_strike_53 rfl (by decide) (by decide) ?_
  show mW _ _ _ _ _ _ 56 [_, _, _, _, _, _, _, _, _] _
  refine m_goto (t := 35) dX0_strike_56 (by decide) ?_
  refine m_iload dX0_strike_35 rfl ?_
  refine m_iconst (v := 5) dX0_strike_37 (by decide) ?_
  refine m_icmp_ge (t := 59) dX0_strike_38 (by decide) (fun _ => ?_) (fun q => absurd (by decide) q)
  refine m_iconst (v := 0) dX0_strike_59 (by decide) ?_
  refine m_istore dX0_strike_60 (by decide) ?_
  show mW _ _ _ _ _ _ 62 [_, _, _, _, _, _, _, _, _] _
  refine m_iload dX0_strike_62 rfl ?_
  refine m_iload_n dX0_strike_64 rfl ?_
  refine m_icmp_gt (t := 92) dX0_strike_65 (by decide) (fun q => absurd q (by decide)) (fun _ => ?_)
  refine m_aload_n dX0_strike_68 rfl ?_
  refine m_iload_n dX0_strike_69 rfl ?_
  refine m_iload_n dX0_strike_70 rfl ?_
  refine m_isub dX0_strike_71 ?_
  refine m_ci (v := 1) (by decide) ?_
  refine m_iload dX0_strike_72 rfl ?_
  refine m_iadd dX0_strike_74 ?_
  refine m_ci (v := 1) (by decide) ?_
  refine m_dup2 dX0_strike_75 rfl rfl ?_
  refine m_laload (k := 1) dX0_strike_76 (by first | assumption | rfl | exact va_up_self _ _ _ | (refine (va_up_ne _ _ ?_).trans ?_ <;> assumption) | (refine (va_up_ne _ _ ?_).trans (va_up_self _ _ _) <;> assumption) | (refine (va_up_ne _ _ ?_).trans ((va_up_ne _ _ ?_).trans ?_) <;> assumption) | (refine (va_up_ne _ _ ?_).trans ((va_up_ne _ _ ?_).trans (va_up_self _ _ _)) <;> assumption)) ⟨by decide, by decide⟩ ?_
  refine m_lload dX0_strike_77 rfl ?_
  refine m_aload_n dX0_strike_79 rfl ?_
  refine m_iload dX0_strike_80 rfl ?_
  refine m_laload (k := 0) dX0_strike_82 (by first | assumption | rfl | exact va_up_self _ _ _ | (refine (va_up_ne _ _ ?_).trans ?_ <;> assumption) | (refine (va_up_ne _ _ ?_).trans (va_up_self _ _ _) <;> assumption) | (refine (va_up_ne _ _ ?_).trans ((va_up_ne _ _ ?_).trans ?_) <;> assumption) | (refine (va_up_ne _ _ ?_).trans ((va_up_ne _ _ ?_).trans (va_up_self _ _ _)) <;> assumption)) ⟨by decide, by decide⟩ ?_
  refine m_lmul dX0_strike_83 ?_
  refine m_lsub dX0_strike_84 ?_
  refine m_lastore (k := 1) dX0_strike_85 (by first | assumption | rfl | exact va_up_self _ _ _ | (refine (va_up_ne _ _ ?_).trans ?_ <;> assumption) | (refine (va_up_ne _ _ ?_).trans (va_up_self _ _ _) <;> assumption) | (refine (va_up_ne _ _ ?_).trans ((va_up_ne _ _ ?_).trans ?_) <;> assumption) | (refine (va_up_ne _ _ ?_).trans ((va_up_ne _ _ ?_).trans (va_up_self _ _ _)) <;> assumption)) ⟨by decide, by decide⟩ ?_
  try rw [va_uu]
  refine m_iinc (v := 1) dX0_strike_86 rfl (by decide) (by decide) ?_
  show mW _ _ _ _ _ _ 89 [_, _, _, _, _, _, _, _, _] _
  refine m_goto (t := 62) dX0_strike_89 (by decide) ?_
  refine m_iload dX0_strike_62 rfl ?_
  refine m_iload_n dX0_strike_64 rfl ?_
  refine m_icmp_gt (t := 92) dX0_strike_65 (by decide) (fun q => absurd q (by decide)) (fun _ => ?_)
  refine m_aload_n dX0_strike_68 rfl ?_
  refine m_iload_n dX0_strike_69 rfl ?_
  refine m_iload_n dX0_strike_70 rfl ?_
  refine m_isub dX0_strike_71 ?_
  refine m_ci (v := 1) (by decide) ?_
  refine m_iload dX0_strike_72 rfl ?_
  refine m_iadd dX0_strike_74 ?_
  refine m_ci (v := 2) (by decide) ?_
  refine m_dup2 dX0_strike_75 rfl rfl ?_
  refine m_laload (k := 2) dX0_strike_76 (by first | assumption | rfl | exact va_up_self _ _ _ | (refine (va_up_ne _ _ ?_).trans ?_ <;> assumption) | (refine (va_up_ne _ _ ?_).trans (va_up_self _ _ _) <;> assumption) | (refine (va_up_ne _ _ ?_).trans ((va_up_ne _ _ ?_).trans ?_) <;> assumption) | (refine (va_up_ne _ _ ?_).trans ((va_up_ne _ _ ?_).trans (va_up_self _ _ _)) <;> assumption)) ⟨by decide, by decide⟩ ?_
  refine m_lload dX0_strike_77 rfl ?_
  refine m_aload_n dX0_strike_79 rfl ?_
  refine m_iload dX0_strike_80 rfl ?_
  refine m_laload (k := 1) dX0_strike_82 (by first | assumption | rfl | exact va_up_self _ _ _ | (refine (va_up_ne _ _ ?_).trans ?_ <;> assumption) | (refine (va_up_ne _ _ ?_).trans (va_up_self _ _ _) <;> assumption) | (refine (va_up_ne _ _ ?_).trans ((va_up_ne _ _ ?_).trans ?_) <;> assumption) | (refine (va_up_ne _ _ ?_).trans ((va_up_ne _ _ ?_).trans (va_up_self _ _ _)) <;> assumption)) ⟨by decide, by decide⟩ ?_
  refine m_lmul dX0_strike_83 ?_
  refine m_lsub dX0_strike_84 ?_
  refine m_lastore (k := 2) dX0_strike_85 (by first | assumption | rfl | exact va_up_self _ _ _ | (refine (va_up_ne _ _ ?_).trans ?_ <;> assumption) | (refine (va_up_ne _ _ ?_).trans (va_up_self _ _ _) <;> assumption) | (refine (va_up_ne _ _ ?_).trans ((va_up_ne _ _ ?_).trans ?_) <;> assumption) | (refine (va_up_ne _ _ ?_).trans ((va_up_ne _ _ ?_).trans (va_up_self _ _ _)) <;> assumption)) ⟨by decide, by decide⟩ ?_
  try rw [va_uu]
  refine m_iinc (v := 2) dX0_strike_86 rfl (by decide) (by decide) ?_
  show mW _ _ _ _ _ _ 89 [_, _, _, _, _, _, _, _, _] _
  refine m_goto (t := 62) dX0_strike_89 (by decide) ?_
  refine m_iload dX0_strike_62 rfl ?_
  refine m_iload_n dX0_strike_64 rfl ?_
  refine m_icmp_gt (t := 92) dX0_strike_65 (by decide) (fun q => absurd q (by decide)) (fun _ => ?_)
  refine m_aload_n dX0_strike_68 rfl ?_
  refine m_iload_n dX0_strike_69 rfl ?_
  refine m_iload_n dX0_strike_70 rfl ?_
  refine m_isub dX0_strike_71 ?_
  refine m_ci (v := 1) (by decide) ?_
  refine m_iload dX0_strike_72 rfl ?_
  refine m_iadd dX0_strike_74 ?_
  refine m_ci (v := 3) (by decide) ?_
  refine m_dup2 dX0_strike_75 rfl rfl ?_
  refine m_laload (k := 3) dX0_strike_76 (by first | assumption | rfl | exact va_up_self _ _ _ | (refine (va_up_ne _ _ ?_).trans ?_ <;> assumption) | (refine (va_up_ne _ _ ?_).trans (va_up_self _ _ _) <;> assumption) | (refine (va_up_ne _ _ ?_).trans ((va_up_ne _ _ ?_).trans ?_) <;> assumption) | (refine (va_up_ne _ _ ?_).trans ((va_up_ne _ _ ?_).trans (va_up_self _ _ _)) <;> assumption)) ⟨by decide, by decide⟩ ?_
  refine m_lload dX0_strike_77 rfl ?_
  refine m_aload_n dX0_strike_79 rfl ?_
  refine m_iload dX0_strike_80 rfl ?_
  refine m_laload (k := 2) dX0_strike_82 (by first | assumption | rfl | exact va_up_self _ _ _ | (refine (va_up_ne _ _ ?_).trans ?_ <;> assumption) | (refine (va_up_ne _ _ ?_).trans (va_up_self _ _ _) <;> assumption) | (refine (va_up_ne _ _ ?_).trans ((va_up_ne _ _ ?_).trans ?_) <;> assumption) | (refine (va_up_ne _ _ ?_).trans ((va_up_ne _ _ ?_).trans (va_up_self _ _ _)) <;> assumption)) ⟨by decide, by decide⟩ ?_
  refine m_lmul dX0_strike_83 ?_
  refine m_lsub dX0_strike_84 ?_
  refine m_lastore (k := 3) dX0_strike_85 (by first | assumption | rfl | exact va_up_self _ _ _ | (refine (va_up_ne _ _ ?_).trans ?_ <;> assumption) | (refine (va_up_ne _ _ ?_).trans (va_up_self _ _ _) <;> assumption) | (refine (va_up_ne _ _ ?_).trans ((va_up_ne _ _ ?_).trans ?_) <;> assumption) | (refine (va_up_ne _ _ ?_).trans ((va_up_ne _ _ ?_).trans (va_up_self _ _ _)) <;> assumption)) ⟨by decide, by decide⟩ ?_
  try rw [va_uu]
  refine m_iinc (v := 3) dX0_strike_86 rfl (by decide) (by decide) ?_
  show mW _ _ _ _ _ _ 89 [_, _, _, _, _, _, _, _, _] _
  refine m_goto (t := 62) dX0_strike_89 (by decide) ?_
  refine m_iload dX0_strike_62 rfl ?_
  refine m_iload_n dX0_strike_64 rfl ?_
  refine m_icmp_gt (t := 92) dX0_strike_65 (by decide) (fun _ => ?_) (fun q => absurd (by decide) q)
  exact m_return hF dX0_strike_92 rfl rfl rfl ⟨rfl, _, rfl, by intro j hj; rcases lt5 hj with rfl | rfl | rfl | rfl | rfl <;> simp [va_up, strikeZ, hnz, hR 0 (by decide), hR 1 (by decide), hR 2 (by decide), hR 3 (by decide), hR 4 (by decide), hS 0 (by decide), hS 1 (by decide), hS 2 (by decide), hS 3 (by decide), hS 4 (by decide), lZ_mul, lZ_sub]⟩

set_option maxHeartbeats 4000000 in
set_option maxRecDepth 100000 in
theorem t_X0_strike_4_3 {n : Nat} {hp : mHp} {a b : Nat} {R S : Nat → Int64} {r s : Nat → Int} (h1 : hp a = eL 5 R) (h2 : hp b = eL 5 S) (hab : a ≠ b) (hR : ∀ j, j < 5 → R j = lZ (r j)) (hS : ∀ j, j < 5 → S j = lZ (s j)) (bl : bdZ (s 3)) (bk : bdZ (r 4)) : mC D_X0_strike [.ref a, .int 4, .ref b, .int 3] n hp (fun v hp' => v = none ∧ ∃ R' : Nat → Int64, hp' = va_up hp a (eL 5 R') ∧ ∀ j, j < 5 → R' j = lZ (strikeZ r 4 s 3 j)) := by
  refine m_enter rfl rfl (Nat.le_of_ble_eq_true rfl) (fun K hF => ?_)
  show mW K _ 0 0 _ _ 0 [.ref a, .int 4, .ref b, .int 3, .retAddr 0, .retAddr 0, .retAddr 0, .retAddr 0, .retAddr 0] []
  have hba := hab.symm
  refine m_aload_n dX0_strike_0 rfl ?_
  refine m_iload_n dX0_strike_1 rfl ?_
  refine m_laload (k := 3) dX0_strike_2 (by first | assumption | rfl | exact va_up_self _ _ _ | (refine (va_up_ne _ _ ?_).trans ?_ <;> assumption) | (refine (va_up_ne _ _ ?_).trans (va_up_self _ _ _) <;> assumption) | (refine (va_up_ne _ _ ?_).trans ((va_up_ne _ _ ?_).trans ?_) <;> assumption) | (refine (va_up_ne _ _ ?_).trans ((va_up_ne _ _ ?_).trans (va_up_self _ _ _)) <;> assumption)) ⟨by decide, by decide⟩ ?_
  refine m_cl (v := lZ (s 3)) (hS 3 (by decide)) ?_
  refine m_lstore dX0_strike_3 (by decide) ?_
  show mW _ _ _ _ _ _ 5 [_, _, _, _, _, _, _, _, _] _
  refine m_lload dX0_strike_5 rfl ?_
  refine m_lconst (v := 0) dX0_strike_7 (by decide) ?_
  refine m_tern_L (J := 22) (x := R 4) (y := -R 4) (m_lc_ge (t := 19) dX0_strike_8 dX0_strike_9 (by decide)) (fun k9 => ?_) (fun k9 => ?_) ?_
  · refine m_aload_n dX0_strike_19 rfl ?_
    refine m_iload_n dX0_strike_20 rfl ?_
    refine m_laload (k := 4) dX0_strike_21 (by first | assumption | rfl | exact va_up_self _ _ _ | (refine (va_up_ne _ _ ?_).trans ?_ <;> assumption) | (refine (va_up_ne _ _ ?_).trans (va_up_self _ _ _) <;> assumption) | (refine (va_up_ne _ _ ?_).trans ((va_up_ne _ _ ?_).trans ?_) <;> assumption) | (refine (va_up_ne _ _ ?_).trans ((va_up_ne _ _ ?_).trans (va_up_self _ _ _)) <;> assumption)) ⟨by decide, by decide⟩ ?_
    exact k9
  · refine m_aload_n dX0_strike_12 rfl ?_
    refine m_iload_n dX0_strike_13 rfl ?_
    refine m_laload (k := 4) dX0_strike_14 (by first | assumption | rfl | exact va_up_self _ _ _ | (refine (va_up_ne _ _ ?_).trans ?_ <;> assumption) | (refine (va_up_ne _ _ ?_).trans (va_up_self _ _ _) <;> assumption) | (refine (va_up_ne _ _ ?_).trans ((va_up_ne _ _ ?_).trans ?_) <;> assumption) | (refine (va_up_ne _ _ ?_).trans ((va_up_ne _ _ ?_).trans (va_up_self _ _ _)) <;> assumption)) ⟨by decide, by decide⟩ ?_
    refine m_lneg dX0_strike_15 ?_
    refine m_goto (t := 22) dX0_strike_16 (by decide) ?_
    exact k9
  refine m_cl (v := lZ (strikeT r 4 s 3)) (by rw [hR 4 (by decide)]; exact strike_if bl) ?_
  refine m_lstore dX0_strike_22 (by decide) ?_
  show mW _ _ _ _ _ _ 24 [_, _, _, _, _, _, _, _, _] _
  refine m_lload dX0_strike_24 rfl ?_
  refine m_lconst (v := 0) dX0_strike_26 (by decide) ?_
  refine m_lc_ne (t := 32) dX0_strike_27 dX0_strike_28 (by decide) (fun c27 => ?_) (fun c27 => ?_)
  rotate_left
  · exact m_return hF dX0_strike_31 rfl rfl rfl ⟨rfl, R, (va_uid hp h1).symm, by intro j hj; unfold strikeZ; rw [if_pos (strikeT_0.mp ((lZ_0 (strikeT_bd bk)).mp c27))]; exact hR j hj⟩
  have hnz : ¬ r 4 = 0 := fun q => c27 ((lZ_0 (strikeT_bd bk)).mpr (strikeT_0.mpr q))
  refine m_iconst (v := 0) dX0_strike_32 (by decide) ?_
  refine m_istore dX0_strike_33 (by decide) ?_
  show mW _ _ _ _ _ _ 35 [_, _, _, _, _, _, _, _, _] _
  refine m_iload dX0_strike_35 rfl ?_
  refine m_iconst (v := 5) dX0_strike_37 (by decide) ?_
  refine m_icmp_ge (t := 59) dX0_strike_38 (by decide) (fun q => absurd q (by decide)) (fun _ => ?_)
  refine m_aload_n dX0_strike_41 rfl ?_
  refine m_iload dX0_strike_42 rfl ?_
  refine m_dup2 dX0_strike_44 rfl rfl ?_
  refine m_laload (k := 0) dX0_strike_45 (by first | assumption | rfl | exact va_up_self _ _ _ | (refine (va_up_ne _ _ ?_).trans ?_ <;> assumption) | (refine (va_up_ne _ _ ?_).trans (va_up_self _ _ _) <;> assumption) | (refine (va_up_ne _ _ ?_).trans ((va_up_ne _ _ ?_).trans ?_) <;> assumption) | (refine (va_up_ne _ _ ?_).trans ((va_up_ne _ _ ?_).trans (va_up_self _ _ _)) <;> assumption)) ⟨by decide, by decide⟩ ?_
  refine m_lload dX0_strike_46 rfl ?_
  refine m_mabs dX0_strike_48 lk_X0_53 (Nat.le_of_ble_eq_true rfl) (by decide) (by decide) (by decide) ?_
  refine m_cl (v := lZ ((s 3).natAbs : Int)) (lZ_abs' bl) ?_
  refine m_lmul dX0_strike_51 ?_
  refine m_lastore (k := 0) dX0_strike_52 (by first | assumption | rfl | exact va_up_self _ _ _ | (refine (va_up_ne _ _ ?_).trans ?_ <;> assumption) | (refine (va_up_ne _ _ ?_).trans (va_up_self _ _ _) <;> assumption) | (refine (va_up_ne _ _ ?_).trans ((va_up_ne _ _ ?_).trans ?_) <;> assumption) | (refine (va_up_ne _ _ ?_).trans ((va_up_ne _ _ ?_).trans (va_up_self _ _ _)) <;> assumption)) ⟨by decide, by decide⟩ ?_
  try rw [va_uu]
  refine m_iinc (v := 1) dX0_strike_53 rfl (by decide) (by decide) ?_
  show mW _ _ _ _ _ _ 56 [_, _, _, _, _, _, _, _, _] _
  refine m_goto (t := 35) dX0_strike_56 (by decide) ?_
  refine m_iload dX0_strike_35 rfl ?_
  refine m_iconst (v := 5) dX0_strike_37 (by decide) ?_
  refine m_icmp_ge (t := 59) dX0_strike_38 (by decide) (fun q => absurd q (by decide)) (fun _ => ?_)
  refine m_aload_n dX0_strike_41 rfl ?_
  refine m_iload dX0_strike_42 rfl ?_
  refine m_dup2 dX0_strike_44 rfl rfl ?_
  refine m_laload (k := 1) dX0_strike_45 (by first | assumption | rfl | exact va_up_self _ _ _ | (refine (va_up_ne _ _ ?_).trans ?_ <;> assumption) | (refine (va_up_ne _ _ ?_).trans (va_up_self _ _ _) <;> assumption) | (refine (va_up_ne _ _ ?_).trans ((va_up_ne _ _ ?_).trans ?_) <;> assumption) | (refine (va_up_ne _ _ ?_).trans ((va_up_ne _ _ ?_).trans (va_up_self _ _ _)) <;> assumption)) ⟨by decide, by decide⟩ ?_
  refine m_lload dX0_strike_46 rfl ?_
  refine m_mabs dX0_strike_48 lk_X0_53 (Nat.le_of_ble_eq_true rfl) (by decide) (by decide) (by decide) ?_
  refine m_cl (v := lZ ((s 3).natAbs : Int)) (lZ_abs' bl) ?_
  refine m_lmul dX0_strike_51 ?_
  refine m_lastore (k := 1) dX0_strike_52 (by first | assumption | rfl | exact va_up_self _ _ _ | (refine (va_up_ne _ _ ?_).trans ?_ <;> assumption) | (refine (va_up_ne _ _ ?_).trans (va_up_self _ _ _) <;> assumption) | (refine (va_up_ne _ _ ?_).trans ((va_up_ne _ _ ?_).trans ?_) <;> assumption) | (refine (va_up_ne _ _ ?_).trans ((va_up_ne _ _ ?_).trans (va_up_self _ _ _)) <;> assumption)) ⟨by decide, by decide⟩ ?_
  try rw [va_uu]
  refine m_iinc (v := 2) dX0_strike_53 rfl (by decide) (by decide) ?_
  show mW _ _ _ _ _ _ 56 [_, _, _, _, _, _, _, _, _] _
  refine m_goto (t := 35) dX0_strike_56 (by decide) ?_
  refine m_iload dX0_strike_35 rfl ?_
  refine m_iconst (v := 5) dX0_strike_37 (by decide) ?_
  refine m_icmp_ge (t := 59) dX0_strike_38 (by decide) (fun q => absurd q (by decide)) (fun _ => ?_)
  refine m_aload_n dX0_strike_41 rfl ?_
  refine m_iload dX0_strike_42 rfl ?_
  refine m_dup2 dX0_strike_44 rfl rfl ?_
  refine m_laload (k := 2) dX0_strike_45 (by first | assumption | rfl | exact va_up_self _ _ _ | (refine (va_up_ne _ _ ?_).trans ?_ <;> assumption) | (refine (va_up_ne _ _ ?_).trans (va_up_self _ _ _) <;> assumption) | (refine (va_up_ne _ _ ?_).trans ((va_up_ne _ _ ?_).trans ?_) <;> assumption) | (refine (va_up_ne _ _ ?_).trans ((va_up_ne _ _ ?_).trans (va_up_self _ _ _)) <;> assumption)) ⟨by decide, by decide⟩ ?_
  refine m_lload dX0_strike_46 rfl ?_
  refine m_mabs dX0_strike_48 lk_X0_53 (Nat.le_of_ble_eq_true rfl) (by decide) (by decide) (by decide) ?_
  refine m_cl (v := lZ ((s 3).natAbs : Int)) (lZ_abs' bl) ?_
  refine m_lmul dX0_strike_51 ?_
  refine m_lastore (k := 2) dX0_strike_52 (by first | assumption | rfl | exact va_up_self _ _ _ | (refine (va_up_ne _ _ ?_).trans ?_ <;> assumption) | (refine (va_up_ne _ _ ?_).trans (va_up_self _ _ _) <;> assumption) | (refine (va_up_ne _ _ ?_).trans ((va_up_ne _ _ ?_).trans ?_) <;> assumption) | (refine (va_up_ne _ _ ?_).trans ((va_up_ne _ _ ?_).trans (va_up_self _ _ _)) <;> assumption)) ⟨by decide, by decide⟩ ?_
  try rw [va_uu]
  refine m_iinc (v := 3) dX0_strike_53 rfl (by decide) (by decide) ?_
  show mW _ _ _ _ _ _ 56 [_, _, _, _, _, _, _, _, _] _
  refine m_goto (t := 35) dX0_strike_56 (by decide) ?_
  refine m_iload dX0_strike_35 rfl ?_
  refine m_iconst (v := 5) dX0_strike_37 (by decide) ?_
  refine m_icmp_ge (t := 59) dX0_strike_38 (by decide) (fun q => absurd q (by decide)) (fun _ => ?_)
  refine m_aload_n dX0_strike_41 rfl ?_
  refine m_iload dX0_strike_42 rfl ?_
  refine m_dup2 dX0_strike_44 rfl rfl ?_
  refine m_laload (k := 3) dX0_strike_45 (by first | assumption | rfl | exact va_up_self _ _ _ | (refine (va_up_ne _ _ ?_).trans ?_ <;> assumption) | (refine (va_up_ne _ _ ?_).trans (va_up_self _ _ _) <;> assumption) | (refine (va_up_ne _ _ ?_).trans ((va_up_ne _ _ ?_).trans ?_) <;> assumption) | (refine (va_up_ne _ _ ?_).trans ((va_up_ne _ _ ?_).trans (va_up_self _ _ _)) <;> assumption)) ⟨by decide, by decide⟩ ?_
  refine m_lload dX0_strike_46 rfl ?_
  refine m_mabs dX0_strike_48 lk_X0_53 (Nat.le_of_ble_eq_true rfl) (by decide) (by decide) (by decide) ?_
  refine m_cl (v := lZ ((s 3).natAbs : Int)) (lZ_abs' bl) ?_
  refine m_lmul dX0_strike_51 ?_
  refine m_lastore (k := 3) dX0_strike_52 (by first | assumption | rfl | exact va_up_self _ _ _ | (refine (va_up_ne _ _ ?_).trans ?_ <;> assumption) | (refine (va_up_ne _ _ ?_).trans (va_up_self _ _ _) <;> assumption) | (refine (va_up_ne _ _ ?_).trans ((va_up_ne _ _ ?_).trans ?_) <;> assumption) | (refine (va_up_ne _ _ ?_).trans ((va_up_ne _ _ ?_).trans (va_up_self _ _ _)) <;> assumption)) ⟨by decide, by decide⟩ ?_
  try rw [va_uu]
  refine m_iinc (v := 4) dX0_strike_53 rfl (by decide) (by decide) ?_
  show mW _ _ _ _ _ _ 56 [_, _, _, _, _, _, _, _, _] _
  refine m_goto (t := 35) dX0_strike_56 (by decide) ?_
  refine m_iload dX0_strike_35 rfl ?_
  refine m_iconst (v := 5) dX0_strike_37 (by decide) ?_
  refine m_icmp_ge (t := 59) dX0_strike_38 (by decide) (fun q => absurd q (by decide)) (fun _ => ?_)
  refine m_aload_n dX0_strike_41 rfl ?_
  refine m_iload dX0_strike_42 rfl ?_
  refine m_dup2 dX0_strike_44 rfl rfl ?_
  refine m_laload (k := 4) dX0_strike_45 (by first | assumption | rfl | exact va_up_self _ _ _ | (refine (va_up_ne _ _ ?_).trans ?_ <;> assumption) | (refine (va_up_ne _ _ ?_).trans (va_up_self _ _ _) <;> assumption) | (refine (va_up_ne _ _ ?_).trans ((va_up_ne _ _ ?_).trans ?_) <;> assumption) | (refine (va_up_ne _ _ ?_).trans ((va_up_ne _ _ ?_).trans (va_up_self _ _ _)) <;> assumption)) ⟨by decide, by decide⟩ ?_
  refine m_lload dX0_strike_46 rfl ?_
  refine m_mabs dX0_strike_48 lk_X0_53 (Nat.le_of_ble_eq_true rfl) (by decide) (by decide) (by decide) ?_
  refine m_cl (v := lZ ((s 3).natAbs : Int)) (lZ_abs' bl) ?_
  refine m_lmul dX0_strike_51 ?_
  refine m_lastore (k := 4) dX0_strike_52 (by first | assumption | rfl | exact va_up_self _ _ _ | (refine (va_up_ne _ _ ?_).trans ?_ <;> assumption) | (refine (va_up_ne _ _ ?_).trans (va_up_self _ _ _) <;> assumption) | (refine (va_up_ne _ _ ?_).trans ((va_up_ne _ _ ?_).trans ?_) <;> assumption) | (refine (va_up_ne _ _ ?_).trans ((va_up_ne _ _ ?_).trans (va_up_self _ _ _)) <;> assumption)) ⟨by decide, by decide⟩ ?_
  try rw [va_uu]
  refine m_iinc (v := 5) dX0_strike_53 rfl (by decide) (by decide) ?_
  show mW _ _ _ _ _ _ 56 [_, _, _, _, _, _, _, _, _] _
  refine m_goto (t := 35) dX0_strike_56 (by decide) ?_
  refine m_iload dX0_strike_35 rfl ?_
  refine m_iconst (v := 5) dX0_strike_37 (by decide) ?_
  refine m_icmp_ge (t := 59) dX0_strike_38 (by decide) (fun _ => ?_) (fun q => absurd (by decide) q)
  refine m_iconst (v := 0) dX0_strike_59 (by decide) ?_
  refine m_istore dX0_strike_60 (by decide) ?_
  show mW _ _ _ _ _ _ 62 [_, _, _, _, _, _, _, _, _] _
  refine m_iload dX0_strike_62 rfl ?_
  refine m_iload_n dX0_strike_64 rfl ?_
  refine m_icmp_gt (t := 92) dX0_strike_65 (by decide) (fun q => absurd q (by decide)) (fun _ => ?_)
  refine m_aload_n dX0_strike_68 rfl ?_
  refine m_iload_n dX0_strike_69 rfl ?_
  refine m_iload_n dX0_strike_70 rfl ?_
  refine m_isub dX0_strike_71 ?_
  refine m_ci (v := 1) (by decide) ?_
  refine m_iload dX0_strike_72 rfl ?_
  refine m_iadd dX0_strike_74 ?_
  refine m_ci (v := 1) (by decide) ?_
  refine m_dup2 dX0_strike_75 rfl rfl ?_
  refine m_laload (k := 1) dX0_strike_76 (by first | assumption | rfl | exact va_up_self _ _ _ | (refine (va_up_ne _ _ ?_).trans ?_ <;> assumption) | (refine (va_up_ne _ _ ?_).trans (va_up_self _ _ _) <;> assumption) | (refine (va_up_ne _ _ ?_).trans ((va_up_ne _ _ ?_).trans ?_) <;> assumption) | (refine (va_up_ne _ _ ?_).trans ((va_up_ne _ _ ?_).trans (va_up_self _ _ _)) <;> assumption)) ⟨by decide, by decide⟩ ?_
  refine m_lload dX0_strike_77 rfl ?_
  refine m_aload_n dX0_strike_79 rfl ?_
  refine m_iload dX0_strike_80 rfl ?_
  refine m_laload (k := 0) dX0_strike_82 (by first | assumption | rfl | exact va_up_self _ _ _ | (refine (va_up_ne _ _ ?_).trans ?_ <;> assumption) | (refine (va_up_ne _ _ ?_).trans (va_up_self _ _ _) <;> assumption) | (refine (va_up_ne _ _ ?_).trans ((va_up_ne _ _ ?_).trans ?_) <;> assumption) | (refine (va_up_ne _ _ ?_).trans ((va_up_ne _ _ ?_).trans (va_up_self _ _ _)) <;> assumption)) ⟨by decide, by decide⟩ ?_
  refine m_lmul dX0_strike_83 ?_
  refine m_lsub dX0_strike_84 ?_
  refine m_lastore (k := 1) dX0_strike_85 (by first | assumption | rfl | exact va_up_self _ _ _ | (refine (va_up_ne _ _ ?_).trans ?_ <;> assumption) | (refine (va_up_ne _ _ ?_).trans (va_up_self _ _ _) <;> assumption) | (refine (va_up_ne _ _ ?_).trans ((va_up_ne _ _ ?_).trans ?_) <;> assumption) | (refine (va_up_ne _ _ ?_).trans ((va_up_ne _ _ ?_).trans (va_up_self _ _ _)) <;> assumption)) ⟨by decide, by decide⟩ ?_
  try rw [va_uu]
  refine m_iinc (v := 1) dX0_strike_86 rfl (by decide) (by decide) ?_
  show mW _ _ _ _ _ _ 89 [_, _, _, _, _, _, _, _, _] _
  refine m_goto (t := 62) dX0_strike_89 (by decide) ?_
  refine m_iload dX0_strike_62 rfl ?_
  refine m_iload_n dX0_strike_64 rfl ?_
  refine m_icmp_gt (t := 92) dX0_strike_65 (by decide) (fun q => absurd q (by decide)) (fun _ => ?_)
  refine m_aload_n dX0_strike_68 rfl ?_
  refine m_iload_n dX0_strike_69 rfl ?_
  refine m_iload_n dX0_strike_70 rfl ?_
  refine m_isub dX0_strike_71 ?_
  refine m_ci (v := 1) (by decide) ?_
  refine m_iload dX0_strike_72 rfl ?_
  refine m_iadd dX0_strike_74 ?_
  refine m_ci (v := 2) (by decide) ?_
  refine m_dup2 dX0_strike_75 rfl rfl ?_
  refine m_laload (k := 2) dX0_strike_76 (by first | assumption | rfl | exact va_up_self _ _ _ | (refine (va_up_ne _ _ ?_).trans ?_ <;> assumption) | (refine (va_up_ne _ _ ?_).trans (va_up_self _ _ _) <;> assumption) | (refine (va_up_ne _ _ ?_).trans ((va_up_ne _ _ ?_).trans ?_) <;> assumption) | (refine (va_up_ne _ _ ?_).trans ((va_up_ne _ _ ?_).trans (va_up_self _ _ _)) <;> assumption)) ⟨by decide, by decide⟩ ?_
  refine m_lload dX0_strike_77 rfl ?_
  refine m_aload_n dX0_strike_79 rfl ?_
  refine m_iload dX0_strike_80 rfl ?_
  refine m_laload (k := 1) dX0_strike_82 (by first | assumption | rfl | exact va_up_self _ _ _ | (refine (va_up_ne _ _ ?_).trans ?_ <;> assumption) | (refine (va_up_ne _ _ ?_).trans (va_up_self _ _ _) <;> assumption) | (refine (va_up_ne _ _ ?_).trans ((va_up_ne _ _ ?_).trans ?_) <;> assumption) | (refine (va_up_ne _ _ ?_).trans ((va_up_ne _ _ ?_).trans (va_up_self _ _ _)) <;> assumption)) ⟨by decide, by decide⟩ ?_
  refine m_lmul dX0_strike_83 ?_
  refine m_lsub dX0_strike_84 ?_
  refine m_lastore (k := 2) dX0_strike_85 (by first | assumption | rfl | exact va_up_self _ _ _ | (refine (va_up_ne _ _ ?_).trans ?_ <;> assumption) | (refine (va_up_ne _ _ ?_).trans (va_up_self _ _ _) <;> assumption) | (refine (va_up_ne _ _ ?_).trans ((va_up_ne _ _ ?_).trans ?_) <;> assumption) | (refine (va_up_ne _ _ ?_).trans ((va_up_ne _ _ ?_).trans (va_up_self _ _ _)) <;> assumption)) ⟨by decide, by decide⟩ ?_
  try rw [va_uu]
  refine m_iinc (v := 2) dX0_strike_86 rfl (by decide) (by decide) ?_
  show mW _ _ _ _ _ _ 89 [_, _, _, _, _, _, _, _, _] _
  refine m_goto (t := 62) dX0_strike_89 (by decide) ?_
  refine m_iload dX0_strike_62 rfl ?_
  refine m_iload_n dX0_strike_64 rfl ?_
  refine m_icmp_gt (t := 92) dX0_strike_65 (by decide) (fun q => absurd q (by decide)) (fun _ => ?_)
  refine m_aload_n dX0_strike_68 rfl ?_
  refine m_iload_n dX0_strike_69 rfl ?_
  refine m_iload_n dX0_strike_70 rfl ?_
  refine m_isub dX0_strike_71 ?_
  refine m_ci (v := 1) (by decide) ?_
  refine m_iload dX0_strike_72 rfl ?_
  refine m_iadd dX0_strike_74 ?_
  refine m_ci (v := 3) (by decide) ?_
  refine m_dup2 dX0_strike_75 rfl rfl ?_
  refine m_laload (k := 3) dX0_strike_76 (by first | assumption | rfl | exact va_up_self _ _ _ | (refine (va_up_ne _ _ ?_).trans ?_ <;> assumption) | (refine (va_up_ne _ _ ?_).trans (va_up_self _ _ _) <;> assumption) | (refine (va_up_ne _ _ ?_).trans ((va_up_ne _ _ ?_).trans ?_) <;> assumption) | (refine (va_up_ne _ _ ?_).trans ((va_up_ne _ _ ?_).trans (va_up_self _ _ _)) <;> assumption)) ⟨by decide, by decide⟩ ?_
  refine m_lload dX0_strike_77 rfl ?_
  refine m_aload_n dX0_strike_79 rfl ?_
  refine m_iload dX0_strike_80 rfl ?_
  refine m_laload (k := 2) dX0_strike_82 (by first | assumption | rfl | exact va_up_self _ _ _ | (refine (va_up_ne _ _ ?_).trans ?_ <;> assumption) | (refine (va_up_ne _ _ ?_).trans (va_up_self _ _ _) <;> assumption) | (refine (va_up_ne _ _ ?_).trans ((va_up_ne _ _ ?_).trans ?_) <;> assumption) | (refine (va_up_ne _ _ ?_).trans ((va_up_ne _ _ ?_).trans (va_up_self _ _ _)) <;> assumption)) ⟨by decide, by decide⟩ ?_
  refine m_lmul dX0_strike_83 ?_
  refine m_lsub dX0_strike_84 ?_
  refine m_lastore (k := 3) dX0_strike_85 (by first | assumption | rfl | exact va_up_self _ _ _ | (refine (va_up_ne _ _ ?_).trans ?_ <;> assumption) | (refine (va_up_ne _ _ ?_).trans (va_up_self _ _ _) <;> assumption) | (refine (va_up_ne _ _ ?_).trans ((va_up_ne _ _ ?_).trans ?_) <;> assumption) | (refine (va_up_ne _ _ ?_).trans ((va_up_ne _ _ ?_).trans (va_up_self _ _ _)) <;> assumption)) ⟨by decide, by decide⟩ ?_
  try rw [va_uu]
  refine m_iinc (v := 3) dX0_strike_86 rfl (by decide) (by decide) ?_
  show mW _ _ _ _ _ _ 89 [_, _, _, _, _, _, _, _, _] _
  refine m_goto (t := 62) dX0_strike_89 (by decide) ?_
  refine m_iload dX0_strike_62 rfl ?_
  refine m_iload_n dX0_strike_64 rfl ?_
  refine m_icmp_gt (t := 92) dX0_strike_65 (by decide) (fun q => absurd q (by decide)) (fun _ => ?_)
  refine m_aload_n dX0_strike_68 rfl ?_
  refine m_iload_n dX0_strike_69 rfl ?_
  refine m_iload_n dX0_strike_70 rfl ?_
  refine m_isub dX0_strike_71 ?_
  refine m_ci (v := 1) (by decide) ?_
  refine m_iload dX0_strike_72 rfl ?_
  refine m_iadd dX0_strike_74 ?_
  refine m_ci (v := 4) (by decide) ?_
  refine m_dup2 dX0_strike_75 rfl rfl ?_
  refine m_laload (k := 4) dX0_strike_76 (by first | assumption | rfl | exact va_up_self _ _ _ | (refine (va_up_ne _ _ ?_).trans ?_ <;> assumption) | (refine (va_up_ne _ _ ?_).trans (va_up_self _ _ _) <;> assumption) | (refine (va_up_ne _ _ ?_).trans ((va_up_ne _ _ ?_).trans ?_) <;> assumption) | (refine (va_up_ne _ _ ?_).trans ((va_up_ne _ _ ?_).trans (va_up_self _ _ _)) <;> assumption)) ⟨by decide, by decide⟩ ?_
  refine m_lload dX0_strike_77 rfl ?_
  refine m_aload_n dX0_strike_79 rfl ?_
  refine m_iload dX0_strike_80 rfl ?_
  refine m_laload (k := 3) dX0_strike_82 (by first | assumption | rfl | exact va_up_self _ _ _ | (refine (va_up_ne _ _ ?_).trans ?_ <;> assumption) | (refine (va_up_ne _ _ ?_).trans (va_up_self _ _ _) <;> assumption) | (refine (va_up_ne _ _ ?_).trans ((va_up_ne _ _ ?_).trans ?_) <;> assumption) | (refine (va_up_ne _ _ ?_).trans ((va_up_ne _ _ ?_).trans (va_up_self _ _ _)) <;> assumption)) ⟨by decide, by decide⟩ ?_
  refine m_lmul dX0_strike_83 ?_
  refine m_lsub dX0_strike_84 ?_
  refine m_lastore (k := 4) dX0_strike_85 (by first | assumption | rfl | exact va_up_self _ _ _ | (refine (va_up_ne _ _ ?_).trans ?_ <;> assumption) | (refine (va_up_ne _ _ ?_).trans (va_up_self _ _ _) <;> assumption) | (refine (va_up_ne _ _ ?_).trans ((va_up_ne _ _ ?_).trans ?_) <;> assumption) | (refine (va_up_ne _ _ ?_).trans ((va_up_ne _ _ ?_).trans (va_up_self _ _ _)) <;> assumption)) ⟨by decide, by decide⟩ ?_
  try rw [va_uu]
  refine m_iinc (v := 4) dX0_strike_86 rfl (by decide) (by decide) ?_
  show mW _ _ _ _ _ _ 89 [_, _, _, _, _, _, _, _, _] _
  refine m_goto (t := 62) dX0_strike_89 (by decide) ?_
  refine m_iload dX0_strike_62 rfl ?_
  refine m_iload_n dX0_strike_64 rfl ?_
  refine m_icmp_gt (t := 92) dX0_strike_65 (by decide) (fun _ => ?_) (fun q => absurd (by decide) q)
  exact m_return hF dX0_strike_92 rfl rfl rfl ⟨rfl, _, rfl, by intro j hj; rcases lt5 hj with rfl | rfl | rfl | rfl | rfl <;> simp [va_up, strikeZ, hnz, hR 0 (by decide), hR 1 (by decide), hR 2 (by decide), hR 3 (by decide), hR 4 (by decide), hS 0 (by decide), hS 1 (by decide), hS 2 (by decide), hS 3 (by decide), hS 4 (by decide), lZ_mul, lZ_sub]⟩

set_option maxHeartbeats 4000000 in
set_option maxRecDepth 100000 in
theorem t_X0_strike_3_0 {n : Nat} {hp : mHp} {a b : Nat} {R S : Nat → Int64} {r s : Nat → Int} (h1 : hp a = eL 5 R) (h2 : hp b = eL 5 S) (hab : a ≠ b) (hR : ∀ j, j < 5 → R j = lZ (r j)) (hS : ∀ j, j < 5 → S j = lZ (s j)) (bl : bdZ (s 0)) (bk : bdZ (r 3)) : mC D_X0_strike [.ref a, .int 3, .ref b, .int 0] n hp (fun v hp' => v = none ∧ ∃ R' : Nat → Int64, hp' = va_up hp a (eL 5 R') ∧ ∀ j, j < 5 → R' j = lZ (strikeZ r 3 s 0 j)) := by
  refine m_enter rfl rfl (Nat.le_of_ble_eq_true rfl) (fun K hF => ?_)
  show mW K _ 0 0 _ _ 0 [.ref a, .int 3, .ref b, .int 0, .retAddr 0, .retAddr 0, .retAddr 0, .retAddr 0, .retAddr 0] []
  have hba := hab.symm
  refine m_aload_n dX0_strike_0 rfl ?_
  refine m_iload_n dX0_strike_1 rfl ?_
  refine m_laload (k := 0) dX0_strike_2 (by first | assumption | rfl | exact va_up_self _ _ _ | (refine (va_up_ne _ _ ?_).trans ?_ <;> assumption) | (refine (va_up_ne _ _ ?_).trans (va_up_self _ _ _) <;> assumption) | (refine (va_up_ne _ _ ?_).trans ((va_up_ne _ _ ?_).trans ?_) <;> assumption) | (refine (va_up_ne _ _ ?_).trans ((va_up_ne _ _ ?_).trans (va_up_self _ _ _)) <;> assumption)) ⟨by decide, by decide⟩ ?_
  refine m_cl (v := lZ (s 0)) (hS 0 (by decide)) ?_
  refine m_lstore dX0_strike_3 (by decide) ?_
  show mW _ _ _ _ _ _ 5 [_, _, _, _, _, _, _, _, _] _
  refine m_lload dX0_strike_5 rfl ?_
  refine m_lconst (v := 0) dX0_strike_7 (by decide) ?_
  refine m_tern_L (J := 22) (x := R 3) (y := -R 3) (m_lc_ge (t := 19) dX0_strike_8 dX0_strike_9 (by decide)) (fun k9 => ?_) (fun k9 => ?_) ?_
  · refine m_aload_n dX0_strike_19 rfl ?_
    refine m_iload_n dX0_strike_20 rfl ?_
    refine m_laload (k := 3) dX0_strike_21 (by first | assumption | rfl | exact va_up_self _ _ _ | (refine (va_up_ne _ _ ?_).trans ?_ <;> assumption) | (refine (va_up_ne _ _ ?_).trans (va_up_self _ _ _) <;> assumption) | (refine (va_up_ne _ _ ?_).trans ((va_up_ne _ _ ?_).trans ?_) <;> assumption) | (refine (va_up_ne _ _ ?_).trans ((va_up_ne _ _ ?_).trans (va_up_self _ _ _)) <;> assumption)) ⟨by decide, by decide⟩ ?_
    exact k9
  · refine m_aload_n dX0_strike_12 rfl ?_
    refine m_iload_n dX0_strike_13 rfl ?_
    refine m_laload (k := 3) dX0_strike_14 (by first | assumption | rfl | exact va_up_self _ _ _ | (refine (va_up_ne _ _ ?_).trans ?_ <;> assumption) | (refine (va_up_ne _ _ ?_).trans (va_up_self _ _ _) <;> assumption) | (refine (va_up_ne _ _ ?_).trans ((va_up_ne _ _ ?_).trans ?_) <;> assumption) | (refine (va_up_ne _ _ ?_).trans ((va_up_ne _ _ ?_).trans (va_up_self _ _ _)) <;> assumption)) ⟨by decide, by decide⟩ ?_
    refine m_lneg dX0_strike_15 ?_
    refine m_goto (t := 22) dX0_strike_16 (by decide) ?_
    exact k9
  refine m_cl (v := lZ (strikeT r 3 s 0)) (by rw [hR 3 (by decide)]; exact strike_if bl) ?_
  refine m_lstore dX0_strike_22 (by decide) ?_
  show mW _ _ _ _ _ _ 24 [_, _, _, _, _, _, _, _, _] _
  refine m_lload dX0_strike_24 rfl ?_
  refine m_lconst (v := 0) dX0_strike_26 (by decide) ?_
  refine m_lc_ne (t := 32) dX0_strike_27 dX0_strike_28 (by decide) (fun c27 => ?_) (fun c27 => ?_)
  rotate_left
  · exact m_return hF dX0_strike_31 rfl rfl rfl ⟨rfl, R, (va_uid hp h1).symm, by intro j hj; unfold strikeZ; rw [if_pos (strikeT_0.mp ((lZ_0 (strikeT_bd bk)).mp c27))]; exact hR j hj⟩
  have hnz : ¬ r 3 = 0 := fun q => c27 ((lZ_0 (strikeT_bd bk)).mpr (strikeT_0.mpr q))
  refine m_iconst (v := 0) dX0_strike_32 (by decide) ?_
  refine m_istore dX0_strike_33 (by decide) ?_
  show mW _ _ _ _ _ _ 35 [_, _, _, _, _, _, _, _, _] _
  refine m_iload dX0_strike_35 rfl ?_
  refine m_iconst (v := 5) dX0_strike_37 (by decide) ?_
  refine m_icmp_ge (t := 59) dX0_strike_38 (by decide) (fun q => absurd q (by decide)) (fun _ => ?_)
  refine m_aload_n dX0_strike_41 rfl ?_
  refine m_iload dX0_strike_42 rfl ?_
  refine m_dup2 dX0_strike_44 rfl rfl ?_
  refine m_laload (k := 0) dX0_strike_45 (by first | assumption | rfl | exact va_up_self _ _ _ | (refine (va_up_ne _ _ ?_).trans ?_ <;> assumption) | (refine (va_up_ne _ _ ?_).trans (va_up_self _ _ _) <;> assumption) | (refine (va_up_ne _ _ ?_).trans ((va_up_ne _ _ ?_).trans ?_) <;> assumption) | (refine (va_up_ne _ _ ?_).trans ((va_up_ne _ _ ?_).trans (va_up_self _ _ _)) <;> assumption)) ⟨by decide, by decide⟩ ?_
  refine m_lload dX0_strike_46 rfl ?_
  refine m_mabs dX0_strike_48 lk_X0_53 (Nat.le_of_ble_eq_true rfl) (by decide) (by decide) (by decide) ?_
  refine m_cl (v := lZ ((s 0).natAbs : Int)) (lZ_abs' bl) ?_
  refine m_lmul dX0_strike_51 ?_
  refine m_lastore (k := 0) dX0_strike_52 (by first | assumption | rfl | exact va_up_self _ _ _ | (refine (va_up_ne _ _ ?_).trans ?_ <;> assumption) | (refine (va_up_ne _ _ ?_).trans (va_up_self _ _ _) <;> assumption) | (refine (va_up_ne _ _ ?_).trans ((va_up_ne _ _ ?_).trans ?_) <;> assumption) | (refine (va_up_ne _ _ ?_).trans ((va_up_ne _ _ ?_).trans (va_up_self _ _ _)) <;> assumption)) ⟨by decide, by decide⟩ ?_
  try rw [va_uu]
  refine m_iinc (v := 1) dX0_strike_53 rfl (by decide) (by decide) ?_
  show mW _ _ _ _ _ _ 56 [_, _, _, _, _, _, _, _, _] _
  refine m_goto (t := 35) dX0_strike_56 (by decide) ?_
  refine m_iload dX0_strike_35 rfl ?_
  refine m_iconst (v := 5) dX0_strike_37 (by decide) ?_
  refine m_icmp_ge (t := 59) dX0_strike_38 (by decide) (fun q => absurd q (by decide)) (fun _ => ?_)
  refine m_aload_n dX0_strike_41 rfl ?_
  refine m_iload dX0_strike_42 rfl ?_
  refine m_dup2 dX0_strike_44 rfl rfl ?_
  refine m_laload (k := 1) dX0_strike_45 (by first | assumption | rfl | exact va_up_self _ _ _ | (refine (va_up_ne _ _ ?_).trans ?_ <;> assumption) | (refine (va_up_ne _ _ ?_).trans (va_up_self _ _ _) <;> assumption) | (refine (va_up_ne _ _ ?_).trans ((va_up_ne _ _ ?_).trans ?_) <;> assumption) | (refine (va_up_ne _ _ ?_).trans ((va_up_ne _ _ ?_).trans (va_up_self _ _ _)) <;> assumption)) ⟨by decide, by decide⟩ ?_
  refine m_lload dX0_strike_46 rfl ?_
  refine m_mabs dX0_strike_48 lk_X0_53 (Nat.le_of_ble_eq_true rfl) (by decide) (by decide) (by decide) ?_
  refine m_cl (v := lZ ((s 0).natAbs : Int)) (lZ_abs' bl) ?_
  refine m_lmul dX0_strike_51 ?_
  refine m_lastore (k := 1) dX0_strike_52 (by first | assumption | rfl | exact va_up_self _ _ _ | (refine (va_up_ne _ _ ?_).trans ?_ <;> assumption) | (refine (va_up_ne _ _ ?_).trans (va_up_self _ _ _) <;> assumption) | (refine (va_up_ne _ _ ?_).trans ((va_up_ne _ _ ?_).trans ?_) <;> assumption) | (refine (va_up_ne _ _ ?_).trans ((va_up_ne _ _ ?_).trans (va_up_self _ _ _)) <;> assumption)) ⟨by decide, by decide⟩ ?_
  try rw [va_uu]
  refine m_iinc (v := 2) dX0_strike_53 rfl (by decide) (by decide) ?_
  show mW _ _ _ _ _ _ 56 [_, _, _, _, _, _, _, _, _] _
  refine m_goto (t := 35) dX0_strike_56 (by decide) ?_
  refine m_iload dX0_strike_35 rfl ?_
  refine m_iconst (v := 5) dX0_strike_37 (by decide) ?_
  refine m_icmp_ge (t := 59) dX0_strike_38 (by decide) (fun q => absurd q (by decide)) (fun _ => ?_)
  refine m_aload_n dX0_strike_41 rfl ?_
  refine m_iload dX0_strike_42 rfl ?_
  refine m_dup2 dX0_strike_44 rfl rfl ?_
  refine m_laload (k := 2) dX0_strike_45 (by first | assumption | rfl | exact va_up_self _ _ _ | (refine (va_up_ne _ _ ?_).trans ?_ <;> assumption) | (refine (va_up_ne _ _ ?_).trans (va_up_self _ _ _) <;> assumption) | (refine (va_up_ne _ _ ?_).trans ((va_up_ne _ _ ?_).trans ?_) <;> assumption) | (refine (va_up_ne _ _ ?_).trans ((va_up_ne _ _ ?_).trans (va_up_self _ _ _)) <;> assumption)) ⟨by decide, by decide⟩ ?_
  refine m_lload dX0_strike_46 rfl ?_
  refine m_mabs dX0_strike_48 lk_X0_53 (Nat.le_of_ble_eq_true rfl) (by decide) (by decide) (by decide) ?_
  refine m_cl (v := lZ ((s 0).natAbs : Int)) (lZ_abs' bl) ?_
  refine m_lmul dX0_strike_51 ?_
  refine m_lastore (k := 2) dX0_strike_52 (by first | assumption | rfl | exact va_up_self _ _ _ | (refine (va_up_ne _ _ ?_).trans ?_ <;> assumption) | (refine (va_up_ne _ _ ?_).trans (va_up_self _ _ _) <;> assumption) | (refine (va_up_ne _ _ ?_).trans ((va_up_ne _ _ ?_).trans ?_) <;> assumption) | (refine (va_up_ne _ _ ?_).trans ((va_up_ne _ _ ?_).trans (va_up_self _ _ _)) <;> assumption)) ⟨by decide, by decide⟩ ?_
  try rw [va_uu]
  refine m_iinc (v := 3) dX0_strike_53 rfl (by decide) (by decide) ?_
  show mW _ _ _ _ _ _ 56 [_, _, _, _, _, _, _, _, _] _
  refine m_goto (t := 35) dX0_strike_56 (by decide) ?_
  refine m_iload dX0_strike_35 rfl ?_
  refine m_iconst (v := 5) dX0_strike_37 (by decide) ?_
  refine m_icmp_ge (t := 59) dX0_strike_38 (by decide) (fun q => absurd q (by decide)) (fun _ => ?_)
  refine m_aload_n dX0_strike_41 rfl ?_
  refine m_iload dX0_strike_42 rfl ?_
  refine m_dup2 dX0_strike_44 rfl rfl ?_
  refine m_laload (k := 3) dX0_strike_45 (by first | assumption | rfl | exact va_up_self _ _ _ | (refine (va_up_ne _ _ ?_).trans ?_ <;> assumption) | (refine (va_up_ne _ _ ?_).trans (va_up_self _ _ _) <;> assumption) | (refine (va_up_ne _ _ ?_).trans ((va_up_ne _ _ ?_).trans ?_) <;> assumption) | (refine (va_up_ne _ _ ?_).trans ((va_up_ne _ _ ?_).trans (va_up_self _ _ _)) <;> assumption)) ⟨by decide, by decide⟩ ?_
  refine m_lload dX0_strike_46 rfl ?_
  refine m_mabs dX0_strike_48 lk_X0_53 (Nat.le_of_ble_eq_true rfl) (by decide) (by decide) (by decide) ?_
  refine m_cl (v := lZ ((s 0).natAbs : Int)) (lZ_abs' bl) ?_
  refine m_lmul dX0_strike_51 ?_
  refine m_lastore (k := 3) dX0_strike_52 (by first | assumption | rfl | exact va_up_self _ _ _ | (refine (va_up_ne _ _ ?_).trans ?_ <;> assumption) | (refine (va_up_ne _ _ ?_).trans (va_up_self _ _ _) <;> assumption) | (refine (va_up_ne _ _ ?_).trans ((va_up_ne _ _ ?_).trans ?_) <;> assumption) | (refine (va_up_ne _ _ ?_).trans ((va_up_ne _ _ ?_).trans (va_up_self _ _ _)) <;> assumption)) ⟨by decide, by decide⟩ ?_
  try rw [va_uu]
  refine m_iinc (v := 4) dX0_strike_53 rfl (by decide) (by decide) ?_
  show mW _ _ _ _ _ _ 56 [_, _, _, _, _, _, _, _, _] _
  refine m_goto (t := 35) dX0_strike_56 (by decide) ?_
  refine m_iload dX0_strike_35 rfl ?_
  refine m_iconst (v := 5) dX0_strike_37 (by decide) ?_
  refine m_icmp_ge (t := 59) dX0_strike_38 (by decide) (fun q => absurd q (by decide)) (fun _ => ?_)
  refine m_aload_n dX0_strike_41 rfl ?_
  refine m_iload dX0_strike_42 rfl ?_
  refine m_dup2 dX0_strike_44 rfl rfl ?_
  refine m_laload (k := 4) dX0_strike_45 (by first | assumption | rfl | exact va_up_self _ _ _ | (refine (va_up_ne _ _ ?_).trans ?_ <;> assumption) | (refine (va_up_ne _ _ ?_).trans (va_up_self _ _ _) <;> assumption) | (refine (va_up_ne _ _ ?_).trans ((va_up_ne _ _ ?_).trans ?_) <;> assumption) | (refine (va_up_ne _ _ ?_).trans ((va_up_ne _ _ ?_).trans (va_up_self _ _ _)) <;> assumption)) ⟨by decide, by decide⟩ ?_
  refine m_lload dX0_strike_46 rfl ?_
  refine m_mabs dX0_strike_48 lk_X0_53 (Nat.le_of_ble_eq_true rfl) (by decide) (by decide) (by decide) ?_
  refine m_cl (v := lZ ((s 0).natAbs : Int)) (lZ_abs' bl) ?_
  refine m_lmul dX0_strike_51 ?_
  refine m_lastore (k := 4) dX0_strike_52 (by first | assumption | rfl | exact va_up_self _ _ _ | (refine (va_up_ne _ _ ?_).trans ?_ <;> assumption) | (refine (va_up_ne _ _ ?_).trans (va_up_self _ _ _) <;> assumption) | (refine (va_up_ne _ _ ?_).trans ((va_up_ne _ _ ?_).trans ?_) <;> assumption) | (refine (va_up_ne _ _ ?_).trans ((va_up_ne _ _ ?_).trans (va_up_self _ _ _)) <;> assumption)) ⟨by decide, by decide⟩ ?_
  try rw [va_uu]
  refine m_iinc (v := 5) dX0_strike_53 rfl (by decide) (by decide) ?_
  show mW _ _ _ _ _ _ 56 [_, _, _, _, _, _, _, _, _] _
  refine m_goto (t := 35) dX0_strike_56 (by decide) ?_
  refine m_iload dX0_strike_35 rfl ?_
  refine m_iconst (v := 5) dX0_strike_37 (by decide) ?_
  refine m_icmp_ge (t := 59) dX0_strike_38 (by decide) (fun _ => ?_) (fun q => absurd (by decide) q)
  refine m_iconst (v := 0) dX0_strike_59 (by decide) ?_
  refine m_istore dX0_strike_60 (by decide) ?_
  show mW _ _ _ _ _ _ 62 [_, _, _, _, _, _, _, _, _] _
  refine m_iload dX0_strike_62 rfl ?_
  refine m_iload_n dX0_strike_64 rfl ?_
  refine m_icmp_gt (t := 92) dX0_strike_65 (by decide) (fun q => absurd q (by decide)) (fun _ => ?_)
  refine m_aload_n dX0_strike_68 rfl ?_
  refine m_iload_n dX0_strike_69 rfl ?_
  refine m_iload_n dX0_strike_70 rfl ?_
  refine m_isub dX0_strike_71 ?_
  refine m_ci (v := 3) (by decide) ?_
  refine m_iload dX0_strike_72 rfl ?_
  refine m_iadd dX0_strike_74 ?_
  refine m_ci (v := 3) (by decide) ?_
  refine m_dup2 dX0_strike_75 rfl rfl ?_
  refine m_laload (k := 3) dX0_strike_76 (by first | assumption | rfl | exact va_up_self _ _ _ | (refine (va_up_ne _ _ ?_).trans ?_ <;> assumption) | (refine (va_up_ne _ _ ?_).trans (va_up_self _ _ _) <;> assumption) | (refine (va_up_ne _ _ ?_).trans ((va_up_ne _ _ ?_).trans ?_) <;> assumption) | (refine (va_up_ne _ _ ?_).trans ((va_up_ne _ _ ?_).trans (va_up_self _ _ _)) <;> assumption)) ⟨by decide, by decide⟩ ?_
  refine m_lload dX0_strike_77 rfl ?_
  refine m_aload_n dX0_strike_79 rfl ?_
  refine m_iload dX0_strike_80 rfl ?_
  refine m_laload (k := 0) dX0_strike_82 (by first | assumption | rfl | exact va_up_self _ _ _ | (refine (va_up_ne _ _ ?_).trans ?_ <;> assumption) | (refine (va_up_ne _ _ ?_).trans (va_up_self _ _ _) <;> assumption) | (refine (va_up_ne _ _ ?_).trans ((va_up_ne _ _ ?_).trans ?_) <;> assumption) | (refine (va_up_ne _ _ ?_).trans ((va_up_ne _ _ ?_).trans (va_up_self _ _ _)) <;> assumption)) ⟨by decide, by decide⟩ ?_
  refine m_lmul dX0_strike_83 ?_
  refine m_lsub dX0_strike_84 ?_
  refine m_lastore (k := 3) dX0_strike_85 (by first | assumption | rfl | exact va_up_self _ _ _ | (refine (va_up_ne _ _ ?_).trans ?_ <;> assumption) | (refine (va_up_ne _ _ ?_).trans (va_up_self _ _ _) <;> assumption) | (refine (va_up_ne _ _ ?_).trans ((va_up_ne _ _ ?_).trans ?_) <;> assumption) | (refine (va_up_ne _ _ ?_).trans ((va_up_ne _ _ ?_).trans (va_up_self _ _ _)) <;> assumption)) ⟨by decide, by decide⟩ ?_
  try rw [va_uu]
  refine m_iinc (v := 1) dX0_strike_86 rfl (by decide) (by decide) ?_
  show mW _ _ _ _ _ _ 89 [_, _, _, _, _, _, _, _, _] _
  refine m_goto (t := 62) dX0_strike_89 (by decide) ?_
  refine m_iload dX0_strike_62 rfl ?_
  refine m_iload_n dX0_strike_64 rfl ?_
  refine m_icmp_gt (t := 92) dX0_strike_65 (by decide) (fun _ => ?_) (fun q => absurd (by decide) q)
  exact m_return hF dX0_strike_92 rfl rfl rfl ⟨rfl, _, rfl, by intro j hj; rcases lt5 hj with rfl | rfl | rfl | rfl | rfl <;> simp [va_up, strikeZ, hnz, hR 0 (by decide), hR 1 (by decide), hR 2 (by decide), hR 3 (by decide), hR 4 (by decide), hS 0 (by decide), hS 1 (by decide), hS 2 (by decide), hS 3 (by decide), hS 4 (by decide), lZ_mul, lZ_sub]⟩

set_option maxHeartbeats 4000000 in
set_option maxRecDepth 100000 in
theorem t_X0_strike_4_1 {n : Nat} {hp : mHp} {a b : Nat} {R S : Nat → Int64} {r s : Nat → Int} (h1 : hp a = eL 5 R) (h2 : hp b = eL 5 S) (hab : a ≠ b) (hR : ∀ j, j < 5 → R j = lZ (r j)) (hS : ∀ j, j < 5 → S j = lZ (s j)) (bl : bdZ (s 1)) (bk : bdZ (r 4)) : mC D_X0_strike [.ref a, .int 4, .ref b, .int 1] n hp (fun v hp' => v = none ∧ ∃ R' : Nat → Int64, hp' = va_up hp a (eL 5 R') ∧ ∀ j, j < 5 → R' j = lZ (strikeZ r 4 s 1 j)) := by
  refine m_enter rfl rfl (Nat.le_of_ble_eq_true rfl) (fun K hF => ?_)
  show mW K _ 0 0 _ _ 0 [.ref a, .int 4, .ref b, .int 1, .retAddr 0, .retAddr 0, .retAddr 0, .retAddr 0, .retAddr 0] []
  have hba := hab.symm
  refine m_aload_n dX0_strike_0 rfl ?_
  refine m_iload_n dX0_strike_1 rfl ?_
  refine m_laload (k := 1) dX0_strike_2 (by first | assumption | rfl | exact va_up_self _ _ _ | (refine (va_up_ne _ _ ?_).trans ?_ <;> assumption) | (refine (va_up_ne _ _ ?_).trans (va_up_self _ _ _) <;> assumption) | (refine (va_up_ne _ _ ?_).trans ((va_up_ne _ _ ?_).trans ?_) <;> assumption) | (refine (va_up_ne _ _ ?_).trans ((va_up_ne _ _ ?_).trans (va_up_self _ _ _)) <;> assumption)) ⟨by decide, by decide⟩ ?_
  refine m_cl (v := lZ (s 1)) (hS 1 (by decide)) ?_
  refine m_lstore dX0_strike_3 (by decide) ?_
  show mW _ _ _ _ _ _ 5 [_, _, _, _, _, _, _, _, _] _
  refine m_lload dX0_strike_5 rfl ?_
  refine m_lconst (v := 0) dX0_strike_7 (by decide) ?_
  refine m_tern_L (J := 22) (x := R 4) (y := -R 4) (m_lc_ge (t := 19) dX0_strike_8 dX0_strike_9 (by decide)) (fun k9 => ?_) (fun k9 => ?_) ?_
  · refine m_aload_n dX0_strike_19 rfl ?_
    refine m_iload_n dX0_strike_20 rfl ?_
    refine m_laload (k := 4) dX0_strike_21 (by first | assumption | rfl | exact va_up_self _ _ _ | (refine (va_up_ne _ _ ?_).trans ?_ <;> assumption) | (refine (va_up_ne _ _ ?_).trans (va_up_self _ _ _) <;> assumption) | (refine (va_up_ne _ _ ?_).trans ((va_up_ne _ _ ?_).trans ?_) <;> assumption) | (refine (va_up_ne _ _ ?_).trans ((va_up_ne _ _ ?_).trans (va_up_self _ _ _)) <;> assumption)) ⟨by decide, by decide⟩ ?_
    exact k9
  · refine m_aload_n dX0_strike_12 rfl ?_
    refine m_iload_n dX0_strike_13 rfl ?_
    refine m_laload (k := 4) dX0_strike_14 (by first | assumption | rfl | exact va_up_self _ _ _ | (refine (va_up_ne _ _ ?_).trans ?_ <;> assumption) | (refine (va_up_ne _ _ ?_).trans (va_up_self _ _ _) <;> assumption) | (refine (va_up_ne _ _ ?_).trans ((va_up_ne _ _ ?_).trans ?_) <;> assumption) | (refine (va_up_ne _ _ ?_).trans ((va_up_ne _ _ ?_).trans (va_up_self _ _ _)) <;> assumption)) ⟨by decide, by decide⟩ ?_
    refine m_lneg dX0_strike_15 ?_
    refine m_goto (t := 22) dX0_strike_16 (by decide) ?_
    exact k9
  refine m_cl (v := lZ (strikeT r 4 s 1)) (by rw [hR 4 (by decide)]; exact strike_if bl) ?_
  refine m_lstore dX0_strike_22 (by decide) ?_
  show mW _ _ _ _ _ _ 24 [_, _, _, _, _, _, _, _, _] _
  refine m_lload dX0_strike_24 rfl ?_
  refine m_lconst (v := 0) dX0_strike_26 (by decide) ?_
  refine m_lc_ne (t := 32) dX0_strike_27 dX0_strike_28 (by decide) (fun c27 => ?_) (fun c27 => ?_)
  rotate_left
  · exact m_return hF dX0_strike_31 rfl rfl rfl ⟨rfl, R, (va_uid hp h1).symm, by intro j hj; unfold strikeZ; rw [if_pos (strikeT_0.mp ((lZ_0 (strikeT_bd bk)).mp c27))]; exact hR j hj⟩
  have hnz : ¬ r 4 = 0 := fun q => c27 ((lZ_0 (strikeT_bd bk)).mpr (strikeT_0.mpr q))
  refine m_iconst (v := 0) dX0_strike_32 (by decide) ?_
  refine m_istore dX0_strike_33 (by decide) ?_
  show mW _ _ _ _ _ _ 35 [_, _, _, _, _, _, _, _, _] _
  refine m_iload dX0_strike_35 rfl ?_
  refine m_iconst (v := 5) dX0_strike_37 (by decide) ?_
  refine m_icmp_ge (t := 59) dX0_strike_38 (by decide) (fun q => absurd q (by decide)) (fun _ => ?_)
  refine m_aload_n dX0_strike_41 rfl ?_
  refine m_iload dX0_strike_42 rfl ?_
  refine m_dup2 dX0_strike_44 rfl rfl ?_
  refine m_laload (k := 0) dX0_strike_45 (by first | assumption | rfl | exact va_up_self _ _ _ | (refine (va_up_ne _ _ ?_).trans ?_ <;> assumption) | (refine (va_up_ne _ _ ?_).trans (va_up_self _ _ _) <;> assumption) | (refine (va_up_ne _ _ ?_).trans ((va_up_ne _ _ ?_).trans ?_) <;> assumption) | (refine (va_up_ne _ _ ?_).trans ((va_up_ne _ _ ?_).trans (va_up_self _ _ _)) <;> assumption)) ⟨by decide, by decide⟩ ?_
  refine m_lload dX0_strike_46 rfl ?_
  refine m_mabs dX0_strike_48 lk_X0_53 (Nat.le_of_ble_eq_true rfl) (by decide) (by decide) (by decide) ?_
  refine m_cl (v := lZ ((s 1).natAbs : Int)) (lZ_abs' bl) ?_
  refine m_lmul dX0_strike_51 ?_
  refine m_lastore (k := 0) dX0_strike_52 (by first | assumption | rfl | exact va_up_self _ _ _ | (refine (va_up_ne _ _ ?_).trans ?_ <;> assumption) | (refine (va_up_ne _ _ ?_).trans (va_up_self _ _ _) <;> assumption) | (refine (va_up_ne _ _ ?_).trans ((va_up_ne _ _ ?_).trans ?_) <;> assumption) | (refine (va_up_ne _ _ ?_).trans ((va_up_ne _ _ ?_).trans (va_up_self _ _ _)) <;> assumption)) ⟨by decide, by decide⟩ ?_
  try rw [va_uu]
  refine m_iinc (v := 1) dX0_strike_53 rfl (by decide) (by decide) ?_
  show mW _ _ _ _ _ _ 56 [_, _, _, _, _, _, _, _, _] _
  refine m_goto (t := 35) dX0_strike_56 (by decide) ?_
  refine m_iload dX0_strike_35 rfl ?_
  refine m_iconst (v := 5) dX0_strike_37 (by decide) ?_
  refine m_icmp_ge (t := 59) dX0_strike_38 (by decide) (fun q => absurd q (by decide)) (fun _ => ?_)
  refine m_aload_n dX0_strike_41 rfl ?_
  refine m_iload dX0_strike_42 rfl ?_
  refine m_dup2 dX0_strike_44 rfl rfl ?_
  refine m_laload (k := 1) dX0_strike_45 (by first | assumption | rfl | exact va_up_self _ _ _ | (refine (va_up_ne _ _ ?_).trans ?_ <;> assumption) | (refine (va_up_ne _ _ ?_).trans (va_up_self _ _ _) <;> assumption) | (refine (va_up_ne _ _ ?_).trans ((va_up_ne _ _ ?_).trans ?_) <;> assumption) | (refine (va_up_ne _ _ ?_).trans ((va_up_ne _ _ ?_).trans (va_up_self _ _ _)) <;> assumption)) ⟨by decide, by decide⟩ ?_
  refine m_lload dX0_strike_46 rfl ?_
  refine m_mabs dX0_strike_48 lk_X0_53 (Nat.le_of_ble_eq_true rfl) (by decide) (by decide) (by decide) ?_
  refine m_cl (v := lZ ((s 1).natAbs : Int)) (lZ_abs' bl) ?_
  refine m_lmul dX0_strike_51 ?_
  refine m_lastore (k := 1) dX0_strike_52 (by first | assumption | rfl | exact va_up_self _ _ _ | (refine (va_up_ne _ _ ?_).trans ?_ <;> assumption) | (refine (va_up_ne _ _ ?_).trans (va_up_self _ _ _) <;> assumption) | (refine (va_up_ne _ _ ?_).trans ((va_up_ne _ _ ?_).trans ?_) <;> assumption) | (refine (va_up_ne _ _ ?_).trans ((va_up_ne _ _ ?_).trans (va_up_self _ _ _)) <;> assumption)) ⟨by decide, by decide⟩ ?_
  try rw [va_uu]
  refine m_iinc (v := 2) dX0_strike_53 rfl (by decide) (by decide) ?_
  show mW _ _ _ _ _ _ 56 [_, _, _, _, _, _, _, _, _] _
  refine m_goto (t := 35) dX0_strike_56 (by decide) ?_
  refine m_iload dX0_strike_35 rfl ?_
  refine m_iconst (v := 5) dX0_strike_37 (by decide) ?_
  refine m_icmp_ge (t := 59) dX0_strike_38 (by decide) (fun q => absurd q (by decide)) (fun _ => ?_)
  refine m_aload_n dX0_strike_41 rfl ?_
  refine m_iload dX0_strike_42 rfl ?_
  refine m_dup2 dX0_strike_44 rfl rfl ?_
  refine m_laload (k := 2) dX0_strike_45 (by first | assumption | rfl | exact va_up_self _ _ _ | (refine (va_up_ne _ _ ?_).trans ?_ <;> assumption) | (refine (va_up_ne _ _ ?_).trans (va_up_self _ _ _) <;> assumption) | (refine (va_up_ne _ _ ?_).trans ((va_up_ne _ _ ?_).trans ?_) <;> assumption) | (refine (va_up_ne _ _ ?_).trans ((va_up_ne _ _ ?_).trans (va_up_self _ _ _)) <;> assumption)) ⟨by decide, by decide⟩ ?_
  refine m_lload dX0_strike_46 rfl ?_
  refine m_mabs dX0_strike_48 lk_X0_53 (Nat.le_of_ble_eq_true rfl) (by decide) (by decide) (by decide) ?_
  refine m_cl (v := lZ ((s 1).natAbs : Int)) (lZ_abs' bl) ?_
  refine m_lmul dX0_strike_51 ?_
  refine m_lastore (k := 2) dX0_strike_52 (by first | assumption | rfl | exact va_up_self _ _ _ | (refine (va_up_ne _ _ ?_).trans ?_ <;> assumption) | (refine (va_up_ne _ _ ?_).trans (va_up_self _ _ _) <;> assumption) | (refine (va_up_ne _ _ ?_).trans ((va_up_ne _ _ ?_).trans ?_) <;> assumption) | (refine (va_up_ne _ _ ?_).trans ((va_up_ne _ _ ?_).trans (va_up_self _ _ _)) <;> assumption)) ⟨by decide, by decide⟩ ?_
  try rw [va_uu]
  refine m_iinc (v := 3) dX0_strike_53 rfl (by decide) (by decide) ?_
  show mW _ _ _ _ _ _ 56 [_, _, _, _, _, _, _, _, _] _
  refine m_goto (t := 35) dX0_strike_56 (by decide) ?_
  refine m_iload dX0_strike_35 rfl ?_
  refine m_iconst (v := 5) dX0_strike_37 (by decide) ?_
  refine m_icmp_ge (t := 59) dX0_strike_38 (by decide) (fun q => absurd q (by decide)) (fun _ => ?_)
  refine m_aload_n dX0_strike_41 rfl ?_
  refine m_iload dX0_strike_42 rfl ?_
  refine m_dup2 dX0_strike_44 rfl rfl ?_
  refine m_laload (k := 3) dX0_strike_45 (by first | assumption | rfl | exact va_up_self _ _ _ | (refine (va_up_ne _ _ ?_).trans ?_ <;> assumption) | (refine (va_up_ne _ _ ?_).trans (va_up_self _ _ _) <;> assumption) | (refine (va_up_ne _ _ ?_).trans ((va_up_ne _ _ ?_).trans ?_) <;> assumption) | (refine (va_up_ne _ _ ?_).trans ((va_up_ne _ _ ?_).trans (va_up_self _ _ _)) <;> assumption)) ⟨by decide, by decide⟩ ?_
  refine m_lload dX0_strike_46 rfl ?_
  refine m_mabs dX0_strike_48 lk_X0_53 (Nat.le_of_ble_eq_true rfl) (by decide) (by decide) (by decide) ?_
  refine m_cl (v := lZ ((s 1).natAbs : Int)) (lZ_abs' bl) ?_
  refine m_lmul dX0_strike_51 ?_
  refine m_lastore (k := 3) dX0_strike_52 (by first | assumption | rfl | exact va_up_self _ _ _ | (refine (va_up_ne _ _ ?_).trans ?_ <;> assumption) | (refine (va_up_ne _ _ ?_).trans (va_up_self _ _ _) <;> assumption) | (refine (va_up_ne _ _ ?_).trans ((va_up_ne _ _ ?_).trans ?_) <;> assumption) | (refine (va_up_ne _ _ ?_).trans ((va_up_ne _ _ ?_).trans (va_up_self _ _ _)) <;> assumption)) ⟨by decide, by decide⟩ ?_
  try rw [va_uu]
  refine m_iinc (v := 4) dX0_strike_53 rfl (by decide) (by decide) ?_
  show mW _ _ _ _ _ _ 56 [_, _, _, _, _, _, _, _, _] _
  refine m_goto (t := 35) dX0_strike_56 (by decide) ?_
  refine m_iload dX0_strike_35 rfl ?_
  refine m_iconst (v := 5) dX0_strike_37 (by decide) ?_
  refine m_icmp_ge (t := 59) dX0_strike_38 (by decide) (fun q => absurd q (by decide)) (fun _ => ?_)
  refine m_aload_n dX0_strike_41 rfl ?_
  refine m_iload dX0_strike_42 rfl ?_
  refine m_dup2 dX0_strike_44 rfl rfl ?_
  refine m_laload (k := 4) dX0_strike_45 (by first | assumption | rfl | exact va_up_self _ _ _ | (refine (va_up_ne _ _ ?_).trans ?_ <;> assumption) | (refine (va_up_ne _ _ ?_).trans (va_up_self _ _ _) <;> assumption) | (refine (va_up_ne _ _ ?_).trans ((va_up_ne _ _ ?_).trans ?_) <;> assumption) | (refine (va_up_ne _ _ ?_).trans ((va_up_ne _ _ ?_).trans (va_up_self _ _ _)) <;> assumption)) ⟨by decide, by decide⟩ ?_
  refine m_lload dX0_strike_46 rfl ?_
  refine m_mabs dX0_strike_48 lk_X0_53 (Nat.le_of_ble_eq_true rfl) (by decide) (by decide) (by decide) ?_
  refine m_cl (v := lZ ((s 1).natAbs : Int)) (lZ_abs' bl) ?_
  refine m_lmul dX0_strike_51 ?_
  refine m_lastore (k := 4) dX0_strike_52 (by first | assumption | rfl | exact va_up_self _ _ _ | (refine (va_up_ne _ _ ?_).trans ?_ <;> assumption) | (refine (va_up_ne _ _ ?_).trans (va_up_self _ _ _) <;> assumption) | (refine (va_up_ne _ _ ?_).trans ((va_up_ne _ _ ?_).trans ?_) <;> assumption) | (refine (va_up_ne _ _ ?_).trans ((va_up_ne _ _ ?_).trans (va_up_self _ _ _)) <;> assumption)) ⟨by decide, by decide⟩ ?_
  try rw [va_uu]
  refine m_iinc (v := 5) dX0_strike_53 rfl (by decide) (by decide) ?_
  show mW _ _ _ _ _ _ 56 [_, _, _, _, _, _, _, _, _] _
  refine m_goto (t := 35) dX0_strike_56 (by decide) ?_
  refine m_iload dX0_strike_35 rfl ?_
  refine m_iconst (v := 5) dX0_strike_37 (by decide) ?_
  refine m_icmp_ge (t := 59) dX0_strike_38 (by decide) (fun _ => ?_) (fun q => absurd (by decide) q)
  refine m_iconst (v := 0) dX0_strike_59 (by decide) ?_
  refine m_istore dX0_strike_60 (by decide) ?_
  show mW _ _ _ _ _ _ 62 [_, _, _, _, _, _, _, _, _] _
  refine m_iload dX0_strike_62 rfl ?_
  refine m_iload_n dX0_strike_64 rfl ?_
  refine m_icmp_gt (t := 92) dX0_strike_65 (by decide) (fun q => absurd q (by decide)) (fun _ => ?_)
  refine m_aload_n dX0_strike_68 rfl ?_
  refine m_iload_n dX0_strike_69 rfl ?_
  refine m_iload_n dX0_strike_70 rfl ?_
  refine m_isub dX0_strike_71 ?_
  refine m_ci (v := 3) (by decide) ?_
  refine m_iload dX0_strike_72 rfl ?_
  refine m_iadd dX0_strike_74 ?_
  refine m_ci (v := 3) (by decide) ?_
  refine m_dup2 dX0_strike_75 rfl rfl ?_
  refine m_laload (k := 3) dX0_strike_76 (by first | assumption | rfl | exact va_up_self _ _ _ | (refine (va_up_ne _ _ ?_).trans ?_ <;> assumption) | (refine (va_up_ne _ _ ?_).trans (va_up_self _ _ _) <;> assumption) | (refine (va_up_ne _ _ ?_).trans ((va_up_ne _ _ ?_).trans ?_) <;> assumption) | (refine (va_up_ne _ _ ?_).trans ((va_up_ne _ _ ?_).trans (va_up_self _ _ _)) <;> assumption)) ⟨by decide, by decide⟩ ?_
  refine m_lload dX0_strike_77 rfl ?_
  refine m_aload_n dX0_strike_79 rfl ?_
  refine m_iload dX0_strike_80 rfl ?_
  refine m_laload (k := 0) dX0_strike_82 (by first | assumption | rfl | exact va_up_self _ _ _ | (refine (va_up_ne _ _ ?_).trans ?_ <;> assumption) | (refine (va_up_ne _ _ ?_).trans (va_up_self _ _ _) <;> assumption) | (refine (va_up_ne _ _ ?_).trans ((va_up_ne _ _ ?_).trans ?_) <;> assumption) | (refine (va_up_ne _ _ ?_).trans ((va_up_ne _ _ ?_).trans (va_up_self _ _ _)) <;> assumption)) ⟨by decide, by decide⟩ ?_
  refine m_lmul dX0_strike_83 ?_
  refine m_lsub dX0_strike_84 ?_
  refine m_lastore (k := 3) dX0_strike_85 (by first | assumption | rfl | exact va_up_self _ _ _ | (refine (va_up_ne _ _ ?_).trans ?_ <;> assumption) | (refine (va_up_ne _ _ ?_).trans (va_up_self _ _ _) <;> assumption) | (refine (va_up_ne _ _ ?_).trans ((va_up_ne _ _ ?_).trans ?_) <;> assumption) | (refine (va_up_ne _ _ ?_).trans ((va_up_ne _ _ ?_).trans (va_up_self _ _ _)) <;> assumption)) ⟨by decide, by decide⟩ ?_
  try rw [va_uu]
  refine m_iinc (v := 1) dX0_strike_86 rfl (by decide) (by decide) ?_
  show mW _ _ _ _ _ _ 89 [_, _, _, _, _, _, _, _, _] _
  refine m_goto (t := 62) dX0_strike_89 (by decide) ?_
  refine m_iload dX0_strike_62 rfl ?_
  refine m_iload_n dX0_strike_64 rfl ?_
  refine m_icmp_gt (t := 92) dX0_strike_65 (by decide) (fun q => absurd q (by decide)) (fun _ => ?_)
  refine m_aload_n dX0_strike_68 rfl ?_
  refine m_iload_n dX0_strike_69 rfl ?_
  refine m_iload_n dX0_strike_70 rfl ?_
  refine m_isub dX0_strike_71 ?_
  refine m_ci (v := 3) (by decide) ?_
  refine m_iload dX0_strike_72 rfl ?_
  refine m_iadd dX0_strike_74 ?_
  refine m_ci (v := 4) (by decide) ?_
  refine m_dup2 dX0_strike_75 rfl rfl ?_
  refine m_laload (k := 4) dX0_strike_76 (by first | assumption | rfl | exact va_up_self _ _ _ | (refine (va_up_ne _ _ ?_).trans ?_ <;> assumption) | (refine (va_up_ne _ _ ?_).trans (va_up_self _ _ _) <;> assumption) | (refine (va_up_ne _ _ ?_).trans ((va_up_ne _ _ ?_).trans ?_) <;> assumption) | (refine (va_up_ne _ _ ?_).trans ((va_up_ne _ _ ?_).trans (va_up_self _ _ _)) <;> assumption)) ⟨by decide, by decide⟩ ?_
  refine m_lload dX0_strike_77 rfl ?_
  refine m_aload_n dX0_strike_79 rfl ?_
  refine m_iload dX0_strike_80 rfl ?_
  refine m_laload (k := 1) dX0_strike_82 (by first | assumption | rfl | exact va_up_self _ _ _ | (refine (va_up_ne _ _ ?_).trans ?_ <;> assumption) | (refine (va_up_ne _ _ ?_).trans (va_up_self _ _ _) <;> assumption) | (refine (va_up_ne _ _ ?_).trans ((va_up_ne _ _ ?_).trans ?_) <;> assumption) | (refine (va_up_ne _ _ ?_).trans ((va_up_ne _ _ ?_).trans (va_up_self _ _ _)) <;> assumption)) ⟨by decide, by decide⟩ ?_
  refine m_lmul dX0_strike_83 ?_
  refine m_lsub dX0_strike_84 ?_
  refine m_lastore (k := 4) dX0_strike_85 (by first | assumption | rfl | exact va_up_self _ _ _ | (refine (va_up_ne _ _ ?_).trans ?_ <;> assumption) | (refine (va_up_ne _ _ ?_).trans (va_up_self _ _ _) <;> assumption) | (refine (va_up_ne _ _ ?_).trans ((va_up_ne _ _ ?_).trans ?_) <;> assumption) | (refine (va_up_ne _ _ ?_).trans ((va_up_ne _ _ ?_).trans (va_up_self _ _ _)) <;> assumption)) ⟨by decide, by decide⟩ ?_
  try rw [va_uu]
  refine m_iinc (v := 2) dX0_strike_86 rfl (by decide) (by decide) ?_
  show mW _ _ _ _ _ _ 89 [_, _, _, _, _, _, _, _, _] _
  refine m_goto (t := 62) dX0_strike_89 (by decide) ?_
  refine m_iload dX0_strike_62 rfl ?_
  refine m_iload_n dX0_strike_64 rfl ?_
  refine m_icmp_gt (t := 92) dX0_strike_65 (by decide) (fun _ => ?_) (fun q => absurd (by decide) q)
  exact m_return hF dX0_strike_92 rfl rfl rfl ⟨rfl, _, rfl, by intro j hj; rcases lt5 hj with rfl | rfl | rfl | rfl | rfl <;> simp [va_up, strikeZ, hnz, hR 0 (by decide), hR 1 (by decide), hR 2 (by decide), hR 3 (by decide), hR 4 (by decide), hS 0 (by decide), hS 1 (by decide), hS 2 (by decide), hS 3 (by decide), hS 4 (by decide), lZ_mul, lZ_sub]⟩

/-- the five, by their greatest common divisor -/
def gcd5 (z : Nat → Int) : Nat := Nat.gcd (z 4).natAbs (Nat.gcd (z 3).natAbs (Nat.gcd (z 2).natAbs (Nat.gcd (z 1).natAbs (Nat.gcd (z 0).natAbs 0))))
def low5 (z : Nat → Int) (j : Nat) : Int := (z j).tdiv (gcd5 z)
theorem gcd_bd {a b : Int} (ha : bdZ a) (hb : bdZ b) : bdZ ((Nat.gcd a.natAbs b.natAbs : Nat) : Int) := by
  by_cases h : b.natAbs = 0
  · rw [h, Nat.gcd_zero_right]
    exact bd_nat ha
  · have h1 := Nat.gcd_le_right a.natAbs (Nat.pos_of_ne_zero h)
    have h2 := (bd_nat hb).2
    exact ⟨by omega, by omega⟩
theorem tdiv_bd {a b : Int} (h : bdZ a) : bdZ (a.tdiv b) := by
  have h1 := Int.natAbs_tdiv_le_natAbs a b
  have := h.1
  have := h.2
  constructor <;> omega
theorem gcd5_0 {z : Nat → Int} (h : gcd5 z = 0) : ∀ j, j < 5 → z j = 0 := by
  unfold gcd5 at h
  simp only [Nat.gcd_eq_zero_iff] at h
  intro j hj
  rcases lt5 hj with rfl | rfl | rfl | rfl | rfl <;> omega
theorem low5_1 {z : Nat → Int} (h : gcd5 z < 2) (j : Nat) (hj : j < 5) : low5 z j = z j := by
  unfold low5
  rcases Nat.eq_zero_or_pos (gcd5 z) with q | q
  · rw [q, gcd5_0 q j hj]
    rfl
  · rw [show gcd5 z = 1 by omega]
    exact Int.tdiv_one _
set_option maxHeartbeats 4000000 in
set_option maxRecDepth 100000 in
theorem t_X0_takeLowestTerms {n : Nat} {hp : mHp} {a : Nat} {R : Nat → Int64} {z : Nat → Int} (h1 : hp a = eL 5 R) (hR : ∀ j, j < 5 → R j = lZ (z j)) (hb : ∀ j, j < 5 → bdZ (z j)) : mC D_X0_takeLowestTerms [.ref a] n hp (fun v hp' => v = none ∧ ∃ R' : Nat → Int64, hp' = va_up hp a (eL 5 R') ∧ ∀ j, j < 5 → R' j = lZ (low5 z j)) := by
  refine m_enter rfl rfl (Nat.le_of_ble_eq_true rfl) (fun K hF => ?_)
  show mW K _ 0 0 _ _ 0 [.ref a, .retAddr 0, .retAddr 0, .retAddr 0] []
  have b0 : bdZ (((0 : Nat) : Nat) : Int) := bd0
  have b1 : bdZ ((Nat.gcd (z 0).natAbs (0) : Nat) : Int) := gcd_bd (b := ((0 : Nat) : Int)) (hb 0 (by decide)) b0
  have b2 : bdZ ((Nat.gcd (z 1).natAbs (Nat.gcd (z 0).natAbs (0)) : Nat) : Int) := gcd_bd (b := ((Nat.gcd (z 0).natAbs (0) : Nat) : Int)) (hb 1 (by decide)) b1
  have b3 : bdZ ((Nat.gcd (z 2).natAbs (Nat.gcd (z 1).natAbs (Nat.gcd (z 0).natAbs (0))) : Nat) : Int) := gcd_bd (b := ((Nat.gcd (z 1).natAbs (Nat.gcd (z 0).natAbs (0)) : Nat) : Int)) (hb 2 (by decide)) b2
  have b4 : bdZ ((Nat.gcd (z 3).natAbs (Nat.gcd (z 2).natAbs (Nat.gcd (z 1).natAbs (Nat.gcd (z 0).natAbs (0)))) : Nat) : Int) := gcd_bd (b := ((Nat.gcd (z 2).natAbs (Nat.gcd (z 1).natAbs (Nat.gcd (z 0).natAbs (0))) : Nat) : Int)) (hb 3 (by decide)) b3
  have b5 : bdZ ((Nat.gcd (z 4).natAbs (Nat.gcd (z 3).natAbs (Nat.gcd (z 2).natAbs (Nat.gcd (z 1).natAbs (Nat.gcd (z 0).natAbs (0))))) : Nat) : Int) := gcd_bd (b := ((Nat.gcd (z 3).natAbs (Nat.gcd (z 2).natAbs (Nat.gcd (z 1).natAbs (Nat.gcd (z 0).natAbs (0)))) : Nat) : Int)) (hb 4 (by decide)) b4
  refine m_lconst (v := lZ ((0 : Nat) : Int)) dX0_takeLowestTerms_0 (by decide) ?_
  refine m_lstore_n dX0_takeLowestTerms_1 (by decide) ?_
  show mW _ _ _ _ _ _ 2 [_, _, _, _] _
  refine m_iconst (v := 0) dX0_takeLowestTerms_2 (by decide) ?_
  refine m_istore_n dX0_takeLowestTerms_3 (by decide) ?_
  show mW _ _ _ _ _ _ 4 [_, _, _, _] _
  refine m_iload_n dX0_takeLowestTerms_4 rfl ?_
  refine m_iconst (v := 5) dX0_takeLowestTerms_5 (by decide) ?_
  refine m_icmp_ge (t := 23) dX0_takeLowestTerms_6 (by decide) (fun q => absurd q (by decide)) (fun _ => ?_)
  refine m_aload_n dX0_takeLowestTerms_9 rfl ?_
  refine m_iload_n dX0_takeLowestTerms_10 rfl ?_
  refine m_laload (k := 0) dX0_takeLowestTerms_11 h1 ⟨by decide, by decide⟩ ?_
  refine m_cl (v := lZ (z 0)) (hR 0 (by decide)) ?_
  refine m_lload_n dX0_takeLowestTerms_12 rfl ?_
  refine m_invSN_L dX0_takeLowestTerms_13 lk_X0_59 ar_X7_commonDivisor (t_X7_commonDivisor (x := z 0) (y := ((0 : Nat) : Int)) (hb 0 (by decide)) b0) rfl (Nat.le_of_ble_eq_true rfl) (by decide) (by decide) (by decide) (by decide) rfl rfl ?_
  refine m_lstore_n dX0_takeLowestTerms_16 (by decide) ?_
  show mW _ _ _ _ _ _ 17 [_, .long (lZ ((Nat.gcd (z 0).natAbs (0) : Nat) : Int)), _, _] _
  refine m_iinc (v := 1) dX0_takeLowestTerms_17 rfl (by decide) (by decide) ?_
  show mW _ _ _ _ _ _ 20 [_, _, _, _] _
  refine m_goto (t := 4) dX0_takeLowestTerms_20 (by decide) ?_
  refine m_iload_n dX0_takeLowestTerms_4 rfl ?_
  refine m_iconst (v := 5) dX0_takeLowestTerms_5 (by decide) ?_
  refine m_icmp_ge (t := 23) dX0_takeLowestTerms_6 (by decide) (fun q => absurd q (by decide)) (fun _ => ?_)
  refine m_aload_n dX0_takeLowestTerms_9 rfl ?_
  refine m_iload_n dX0_takeLowestTerms_10 rfl ?_
  refine m_laload (k := 1) dX0_takeLowestTerms_11 h1 ⟨by decide, by decide⟩ ?_
  refine m_cl (v := lZ (z 1)) (hR 1 (by decide)) ?_
  refine m_lload_n dX0_takeLowestTerms_12 rfl ?_
  refine m_invSN_L dX0_takeLowestTerms_13 lk_X0_59 ar_X7_commonDivisor (t_X7_commonDivisor (x := z 1) (y := ((Nat.gcd (z 0).natAbs (0) : Nat) : Int)) (hb 1 (by decide)) b1) rfl (Nat.le_of_ble_eq_true rfl) (by decide) (by decide) (by decide) (by decide) rfl rfl ?_
  refine m_lstore_n dX0_takeLowestTerms_16 (by decide) ?_
  show mW _ _ _ _ _ _ 17 [_, .long (lZ ((Nat.gcd (z 1).natAbs (Nat.gcd (z 0).natAbs (0)) : Nat) : Int)), _, _] _
  refine m_iinc (v := 2) dX0_takeLowestTerms_17 rfl (by decide) (by decide) ?_
  show mW _ _ _ _ _ _ 20 [_, _, _, _] _
  refine m_goto (t := 4) dX0_takeLowestTerms_20 (by decide) ?_
  refine m_iload_n dX0_takeLowestTerms_4 rfl ?_
  refine m_iconst (v := 5) dX0_takeLowestTerms_5 (by decide) ?_
  refine m_icmp_ge (t := 23) dX0_takeLowestTerms_6 (by decide) (fun q => absurd q (by decide)) (fun _ => ?_)
  refine m_aload_n dX0_takeLowestTerms_9 rfl ?_
  refine m_iload_n dX0_takeLowestTerms_10 rfl ?_
  refine m_laload (k := 2) dX0_takeLowestTerms_11 h1 ⟨by decide, by decide⟩ ?_
  refine m_cl (v := lZ (z 2)) (hR 2 (by decide)) ?_
  refine m_lload_n dX0_takeLowestTerms_12 rfl ?_
  refine m_invSN_L dX0_takeLowestTerms_13 lk_X0_59 ar_X7_commonDivisor (t_X7_commonDivisor (x := z 2) (y := ((Nat.gcd (z 1).natAbs (Nat.gcd (z 0).natAbs (0)) : Nat) : Int)) (hb 2 (by decide)) b2) rfl (Nat.le_of_ble_eq_true rfl) (by decide) (by decide) (by decide) (by decide) rfl rfl ?_
  refine m_lstore_n dX0_takeLowestTerms_16 (by decide) ?_
  show mW _ _ _ _ _ _ 17 [_, .long (lZ ((Nat.gcd (z 2).natAbs (Nat.gcd (z 1).natAbs (Nat.gcd (z 0).natAbs (0))) : Nat) : Int)), _, _] _
  refine m_iinc (v := 3) dX0_takeLowestTerms_17 rfl (by decide) (by decide) ?_
  show mW _ _ _ _ _ _ 20 [_, _, _, _] _
  refine m_goto (t := 4) dX0_takeLowestTerms_20 (by decide) ?_
  refine m_iload_n dX0_takeLowestTerms_4 rfl ?_
  refine m_iconst (v := 5) dX0_takeLowestTerms_5 (by decide) ?_
  refine m_icmp_ge (t := 23) dX0_takeLowestTerms_6 (by decide) (fun q => absurd q (by decide)) (fun _ => ?_)
  refine m_aload_n dX0_takeLowestTerms_9 rfl ?_
  refine m_iload_n dX0_takeLowestTerms_10 rfl ?_
  refine m_laload (k := 3) dX0_takeLowestTerms_11 h1 ⟨by decide, by decide⟩ ?_
  refine m_cl (v := lZ (z 3)) (hR 3 (by decide)) ?_
  refine m_lload_n dX0_takeLowestTerms_12 rfl ?_
  refine m_invSN_L dX0_takeLowestTerms_13 lk_X0_59 ar_X7_commonDivisor (t_X7_commonDivisor (x := z 3) (y := ((Nat.gcd (z 2).natAbs (Nat.gcd (z 1).natAbs (Nat.gcd (z 0).natAbs (0))) : Nat) : Int)) (hb 3 (by decide)) b3) rfl (Nat.le_of_ble_eq_true rfl) (by decide) (by decide) (by decide) (by decide) rfl rfl ?_
  refine m_lstore_n dX0_takeLowestTerms_16 (by decide) ?_
  show mW _ _ _ _ _ _ 17 [_, .long (lZ ((Nat.gcd (z 3).natAbs (Nat.gcd (z 2).natAbs (Nat.gcd (z 1).natAbs (Nat.gcd (z 0).natAbs (0)))) : Nat) : Int)), _, _] _
  refine m_iinc (v := 4) dX0_takeLowestTerms_17 rfl (by decide) (by decide) ?_
  show mW _ _ _ _ _ _ 20 [_, _, _, _] _
  refine m_goto (t := 4) dX0_takeLowestTerms_20 (by decide) ?_
  refine m_iload_n dX0_takeLowestTerms_4 rfl ?_
  refine m_iconst (v := 5) dX0_takeLowestTerms_5 (by decide) ?_
  refine m_icmp_ge (t := 23) dX0_takeLowestTerms_6 (by decide) (fun q => absurd q (by decide)) (fun _ => ?_)
  refine m_aload_n dX0_takeLowestTerms_9 rfl ?_
  refine m_iload_n dX0_takeLowestTerms_10 rfl ?_
  refine m_laload (k := 4) dX0_takeLowestTerms_11 h1 ⟨by decide, by decide⟩ ?_
  refine m_cl (v := lZ (z 4)) (hR 4 (by decide)) ?_
  refine m_lload_n dX0_takeLowestTerms_12 rfl ?_
  refine m_invSN_L dX0_takeLowestTerms_13 lk_X0_59 ar_X7_commonDivisor (t_X7_commonDivisor (x := z 4) (y := ((Nat.gcd (z 3).natAbs (Nat.gcd (z 2).natAbs (Nat.gcd (z 1).natAbs (Nat.gcd (z 0).natAbs (0)))) : Nat) : Int)) (hb 4 (by decide)) b4) rfl (Nat.le_of_ble_eq_true rfl) (by decide) (by decide) (by decide) (by decide) rfl rfl ?_
  refine m_lstore_n dX0_takeLowestTerms_16 (by decide) ?_
  show mW _ _ _ _ _ _ 17 [_, .long (lZ ((Nat.gcd (z 4).natAbs (Nat.gcd (z 3).natAbs (Nat.gcd (z 2).natAbs (Nat.gcd (z 1).natAbs (Nat.gcd (z 0).natAbs (0))))) : Nat) : Int)), _, _] _
  refine m_iinc (v := 5) dX0_takeLowestTerms_17 rfl (by decide) (by decide) ?_
  show mW _ _ _ _ _ _ 20 [_, _, _, _] _
  refine m_goto (t := 4) dX0_takeLowestTerms_20 (by decide) ?_
  refine m_iload_n dX0_takeLowestTerms_4 rfl ?_
  refine m_iconst (v := 5) dX0_takeLowestTerms_5 (by decide) ?_
  refine m_icmp_ge (t := 23) dX0_takeLowestTerms_6 (by decide) (fun _ => ?_) (fun q => absurd (by decide) q)
  refine m_lload_n dX0_takeLowestTerms_23 rfl ?_
  refine m_ldc2 dX0_takeLowestTerms_24 cl_X0_63 ?_
  refine m_lc_ge (t := 32) dX0_takeLowestTerms_27 dX0_takeLowestTerms_28 (by decide) (fun c27 => ?_) (fun c27 => ?_)
  rotate_left
  · exact m_return hF dX0_takeLowestTerms_31 rfl rfl rfl ⟨rfl, R, (va_uid hp h1).symm, fun j hj => by rw [low5_1 (Nat.lt_of_not_le (fun q => c27 ((lZ_le (b := ((Nat.gcd (z 4).natAbs (Nat.gcd (z 3).natAbs (Nat.gcd (z 2).natAbs (Nat.gcd (z 1).natAbs (Nat.gcd (z 0).natAbs (0))))) : Nat) : Int)) (a := 2) ⟨by decide, by decide⟩ b5).mpr (by unfold gcd5 at q; omega)))) j hj]; exact hR j hj⟩
  have h2 : ¬ gcd5 z < 2 := fun q => absurd ((lZ_le (b := ((Nat.gcd (z 4).natAbs (Nat.gcd (z 3).natAbs (Nat.gcd (z 2).natAbs (Nat.gcd (z 1).natAbs (Nat.gcd (z 0).natAbs (0))))) : Nat) : Int)) (a := 2) ⟨by decide, by decide⟩ b5).mp c27) (by unfold gcd5 at q; omega)
  have h3 : ¬ gcd5 z = 0 := by omega
  unfold gcd5 at h3
  refine m_iconst (v := 0) dX0_takeLowestTerms_32 (by decide) ?_
  refine m_istore_n dX0_takeLowestTerms_33 (by decide) ?_
  show mW _ _ _ _ _ _ 34 [_, _, _, _] _
  refine m_iload_n dX0_takeLowestTerms_34 rfl ?_
  refine m_iconst (v := 5) dX0_takeLowestTerms_35 (by decide) ?_
  refine m_icmp_ge (t := 52) dX0_takeLowestTerms_36 (by decide) (fun q => absurd q (by decide)) (fun _ => ?_)
  refine m_aload_n dX0_takeLowestTerms_39 rfl ?_
  refine m_iload_n dX0_takeLowestTerms_40 rfl ?_
  refine m_dup2 dX0_takeLowestTerms_41 rfl rfl ?_
  refine m_laload (k := 0) dX0_takeLowestTerms_42 (by first | assumption | rfl | exact va_up_self _ _ _ | (refine (va_up_ne _ _ ?_).trans ?_ <;> assumption) | (refine (va_up_ne _ _ ?_).trans (va_up_self _ _ _) <;> assumption)) ⟨by decide, by decide⟩ ?_
  refine m_lload_n dX0_takeLowestTerms_43 rfl ?_
  refine m_ldiv dX0_takeLowestTerms_44 (fun q => absurd ((lZ_0 b5).mp q) (by omega)) ?_
  refine m_lastore (k := 0) dX0_takeLowestTerms_45 (by first | assumption | rfl | exact va_up_self _ _ _ | (refine (va_up_ne _ _ ?_).trans ?_ <;> assumption) | (refine (va_up_ne _ _ ?_).trans (va_up_self _ _ _) <;> assumption)) ⟨by decide, by decide⟩ ?_
  try rw [va_uu]
  refine m_iinc (v := 1) dX0_takeLowestTerms_46 rfl (by decide) (by decide) ?_
  show mW _ _ _ _ _ _ 49 [_, _, _, _] _
  refine m_goto (t := 34) dX0_takeLowestTerms_49 (by decide) ?_
  refine m_iload_n dX0_takeLowestTerms_34 rfl ?_
  refine m_iconst (v := 5) dX0_takeLowestTerms_35 (by decide) ?_
  refine m_icmp_ge (t := 52) dX0_takeLowestTerms_36 (by decide) (fun q => absurd q (by decide)) (fun _ => ?_)
  refine m_aload_n dX0_takeLowestTerms_39 rfl ?_
  refine m_iload_n dX0_takeLowestTerms_40 rfl ?_
  refine m_dup2 dX0_takeLowestTerms_41 rfl rfl ?_
  refine m_laload (k := 1) dX0_takeLowestTerms_42 (by first | assumption | rfl | exact va_up_self _ _ _ | (refine (va_up_ne _ _ ?_).trans ?_ <;> assumption) | (refine (va_up_ne _ _ ?_).trans (va_up_self _ _ _) <;> assumption)) ⟨by decide, by decide⟩ ?_
  refine m_lload_n dX0_takeLowestTerms_43 rfl ?_
  refine m_ldiv dX0_takeLowestTerms_44 (fun q => absurd ((lZ_0 b5).mp q) (by omega)) ?_
  refine m_lastore (k := 1) dX0_takeLowestTerms_45 (by first | assumption | rfl | exact va_up_self _ _ _ | (refine (va_up_ne _ _ ?_).trans ?_ <;> assumption) | (refine (va_up_ne _ _ ?_).trans (va_up_self _ _ _) <;> assumption)) ⟨by decide, by decide⟩ ?_
  try rw [va_uu]
  refine m_iinc (v := 2) dX0_takeLowestTerms_46 rfl (by decide) (by decide) ?_
  show mW _ _ _ _ _ _ 49 [_, _, _, _] _
  refine m_goto (t := 34) dX0_takeLowestTerms_49 (by decide) ?_
  refine m_iload_n dX0_takeLowestTerms_34 rfl ?_
  refine m_iconst (v := 5) dX0_takeLowestTerms_35 (by decide) ?_
  refine m_icmp_ge (t := 52) dX0_takeLowestTerms_36 (by decide) (fun q => absurd q (by decide)) (fun _ => ?_)
  refine m_aload_n dX0_takeLowestTerms_39 rfl ?_
  refine m_iload_n dX0_takeLowestTerms_40 rfl ?_
  refine m_dup2 dX0_takeLowestTerms_41 rfl rfl ?_
  refine m_laload (k := 2) dX0_takeLowestTerms_42 (by first | assumption | rfl | exact va_up_self _ _ _ | (refine (va_up_ne _ _ ?_).trans ?_ <;> assumption) | (refine (va_up_ne _ _ ?_).trans (va_up_self _ _ _) <;> assumption)) ⟨by decide, by decide⟩ ?_
  refine m_lload_n dX0_takeLowestTerms_43 rfl ?_
  refine m_ldiv dX0_takeLowestTerms_44 (fun q => absurd ((lZ_0 b5).mp q) (by omega)) ?_
  refine m_lastore (k := 2) dX0_takeLowestTerms_45 (by first | assumption | rfl | exact va_up_self _ _ _ | (refine (va_up_ne _ _ ?_).trans ?_ <;> assumption) | (refine (va_up_ne _ _ ?_).trans (va_up_self _ _ _) <;> assumption)) ⟨by decide, by decide⟩ ?_
  try rw [va_uu]
  refine m_iinc (v := 3) dX0_takeLowestTerms_46 rfl (by decide) (by decide) ?_
  show mW _ _ _ _ _ _ 49 [_, _, _, _] _
  refine m_goto (t := 34) dX0_takeLowestTerms_49 (by decide) ?_
  refine m_iload_n dX0_takeLowestTerms_34 rfl ?_
  refine m_iconst (v := 5) dX0_takeLowestTerms_35 (by decide) ?_
  refine m_icmp_ge (t := 52) dX0_takeLowestTerms_36 (by decide) (fun q => absurd q (by decide)) (fun _ => ?_)
  refine m_aload_n dX0_takeLowestTerms_39 rfl ?_
  refine m_iload_n dX0_takeLowestTerms_40 rfl ?_
  refine m_dup2 dX0_takeLowestTerms_41 rfl rfl ?_
  refine m_laload (k := 3) dX0_takeLowestTerms_42 (by first | assumption | rfl | exact va_up_self _ _ _ | (refine (va_up_ne _ _ ?_).trans ?_ <;> assumption) | (refine (va_up_ne _ _ ?_).trans (va_up_self _ _ _) <;> assumption)) ⟨by decide, by decide⟩ ?_
  refine m_lload_n dX0_takeLowestTerms_43 rfl ?_
  refine m_ldiv dX0_takeLowestTerms_44 (fun q => absurd ((lZ_0 b5).mp q) (by omega)) ?_
  refine m_lastore (k := 3) dX0_takeLowestTerms_45 (by first | assumption | rfl | exact va_up_self _ _ _ | (refine (va_up_ne _ _ ?_).trans ?_ <;> assumption) | (refine (va_up_ne _ _ ?_).trans (va_up_self _ _ _) <;> assumption)) ⟨by decide, by decide⟩ ?_
  try rw [va_uu]
  refine m_iinc (v := 4) dX0_takeLowestTerms_46 rfl (by decide) (by decide) ?_
  show mW _ _ _ _ _ _ 49 [_, _, _, _] _
  refine m_goto (t := 34) dX0_takeLowestTerms_49 (by decide) ?_
  refine m_iload_n dX0_takeLowestTerms_34 rfl ?_
  refine m_iconst (v := 5) dX0_takeLowestTerms_35 (by decide) ?_
  refine m_icmp_ge (t := 52) dX0_takeLowestTerms_36 (by decide) (fun q => absurd q (by decide)) (fun _ => ?_)
  refine m_aload_n dX0_takeLowestTerms_39 rfl ?_
  refine m_iload_n dX0_takeLowestTerms_40 rfl ?_
  refine m_dup2 dX0_takeLowestTerms_41 rfl rfl ?_
  refine m_laload (k := 4) dX0_takeLowestTerms_42 (by first | assumption | rfl | exact va_up_self _ _ _ | (refine (va_up_ne _ _ ?_).trans ?_ <;> assumption) | (refine (va_up_ne _ _ ?_).trans (va_up_self _ _ _) <;> assumption)) ⟨by decide, by decide⟩ ?_
  refine m_lload_n dX0_takeLowestTerms_43 rfl ?_
  refine m_ldiv dX0_takeLowestTerms_44 (fun q => absurd ((lZ_0 b5).mp q) (by omega)) ?_
  refine m_lastore (k := 4) dX0_takeLowestTerms_45 (by first | assumption | rfl | exact va_up_self _ _ _ | (refine (va_up_ne _ _ ?_).trans ?_ <;> assumption) | (refine (va_up_ne _ _ ?_).trans (va_up_self _ _ _) <;> assumption)) ⟨by decide, by decide⟩ ?_
  try rw [va_uu]
  refine m_iinc (v := 5) dX0_takeLowestTerms_46 rfl (by decide) (by decide) ?_
  show mW _ _ _ _ _ _ 49 [_, _, _, _] _
  refine m_goto (t := 34) dX0_takeLowestTerms_49 (by decide) ?_
  refine m_iload_n dX0_takeLowestTerms_34 rfl ?_
  refine m_iconst (v := 5) dX0_takeLowestTerms_35 (by decide) ?_
  refine m_icmp_ge (t := 52) dX0_takeLowestTerms_36 (by decide) (fun _ => ?_) (fun q => absurd (by decide) q)
  exact m_return hF dX0_takeLowestTerms_52 rfl rfl rfl ⟨rfl, _, rfl, by unfold low5 gcd5; intro j hj; rcases lt5 hj with rfl | rfl | rfl | rfl | rfl <;> simp [va_up, -Nat.gcd_zero_right, hR 0 (by decide), hR 1 (by decide), hR 2 (by decide), hR 3 (by decide), hR 4 (by decide)] <;> exact lZ_div (hb _ (by decide)) b5 (tdiv_bd (hb _ (by decide)))⟩
