/-! ===== the reference: row, rows ===== -/
theorem in5_iff {v : Int32} : inI v.toInt64 0 4 = 0 ↔ ¬ inC v 5 := by
  rw [inI_iff (x := 0) (y := 4) (by decide) (by decide)]
  unfold inC
  omega
theorem rowV_a {x : Int64} (h : x < 0) : rowV x 0 = -x := by
  unfold rowV
  rw [if_pos rfl, if_neg (fun y => Int64.lt_irrefl (Int64.lt_trans h y))]
theorem rowV_b {x : Int64} (h : ¬ x < 0) : rowV x 0 = x := by
  unfold rowV
  rw [if_pos rfl]
  by_cases e : 0 < x
  · rw [if_pos e]
  · rw [if_neg e]
    have h1 : x = 0 := Int64.le_antisymm (Int64.not_lt.mp e) (Int64.not_lt.mp h)
    rw [h1]
    decide
theorem rowV_c {x : Int64} {w : Int32} (hw : ¬ w = 0) (h : ¬ x ≤ 0) : rowV x w = 1 := by
  unfold rowV
  rw [if_neg hw, if_neg (fun y => h (by rw [y]; exact Int64.le_refl _)), if_neg h]
theorem rowV_d {x : Int64} {w : Int32} (hw : ¬ w = 0) (h : ¬ 0 ≤ x) : rowV x w = 2 := by
  unfold rowV
  rw [if_neg hw, if_neg (fun y => h (by rw [y]; exact Int64.le_refl _)), if_pos (Int64.le_of_lt (Int64.not_le.mp h))]
theorem rowV_e {x : Int64} {w : Int32} (hw : ¬ w = 0) (h1 : x ≤ 0) (h2 : 0 ≤ x) : rowV x w = 0 := by
  unfold rowV
  rw [if_neg hw, if_pos (Int64.le_antisymm h1 h2)]
set_option maxHeartbeats 400000 in
set_option maxRecDepth 100000 in
theorem t_X8_rows {n : Nat} {hp : mHp} {S : TS} {ia tm : Int32} (h : mRep hp S ia tm) (hX : mScX hp) (hY : mRw hp) (hC : okC S.1) (hRW : RWK) : mC D_X8_rows [.ref 67] n hp (fun r hp' => r = some (.int (sRows S)) ∧ mRep hp' S ia tm ∧ mScX hp' ∧ mRw hp' ∧ offB hp hp') := by
  refine m_enter rfl rfl (Nat.le_of_ble_eq_true rfl) (fun K hF => ?_)
  show mW K _ 0 0 _ _ 0 [.ref 67] []
  obtain ⟨z, hv⟩ : ∃ z, ∀ _ : Unit, loopZ S.1 (S.1 10) = z := ⟨_, fun _ => rfl⟩
  obtain ⟨ri, ev, le, ch, ls, rm, sm, ra, fa, C, PA, h1, -⟩ := id h
  refine m_aload_n dX8_rows_0 rfl ?_
  refine m_invV dX8_rows_1 lk_X8_194 ar_X8_laysRows (ci := 8) rfl rfl (by first | assumption | rfl) (t_X8_laysRows h hX hY hC hRW (z := z) hv) rfl (Nat.le_of_ble_eq_true rfl) (by decide) (by decide) (by decide) (by decide) (fun v hp' q => ?_)
  obtain ⟨rfl, gQ⟩ := q
  obtain ⟨ri1, ev1, le1, ch1, ls1, sm1, ra1, fa1, C1, PA1, R, U, g1, g2, g3, g4, g5, g6, gX, g8, g9, gR9, gO⟩ := gQ
  have gR : mRep hp' S ia tm := ⟨ri1, ev1, le1, ch1, ls1, _, sm1, ra1, fa1, C1, PA1, g1, g2, g3, g4, g5, g6⟩
  show mW K _ 0 0 n hp' 4 [.ref 67] []
  refine m_aload_n dX8_rows_4 rfl ?_
  refine m_getfield dX8_rows_5 fl_X8_183 (by first | assumption | rfl) (by first | assumption | rfl) ?_
  show mW _ _ _ _ _ _ _ _ (.int _ :: _)
  exact m_ireturn hF dX8_rows_8 rfl rfl rfl ⟨by unfold sRows; rw [hv ()], gR, gX, ⟨R, U, g8, g9⟩, gO⟩

set_option maxHeartbeats 400000 in
set_option maxRecDepth 100000 in
theorem t_X8_row {n : Nat} {hp : mHp} {S : TS} {ia tm : Int32} (h : mRep hp S ia tm) (hX : mScX hp) (hY : mRw hp) (hC : okC S.1) (hRW : RWK) {i k w : Int32} : mC D_X8_row [.ref 67, .int i, .int k, .int w] n hp (fun r hp' => r = some (.long (sRow S i k w)) ∧ mRep hp' S ia tm ∧ mScX hp' ∧ mRw hp' ∧ offB hp hp') := by
  refine m_enter rfl rfl (Nat.le_of_ble_eq_true rfl) (fun K hF => ?_)
  show mW K _ 0 0 _ _ 0 [.ref 67, .int i, .int k, .int w, .retAddr 0, .retAddr 0] []
  obtain ⟨z, hv⟩ : ∃ z, ∀ _ : Unit, loopZ S.1 (S.1 10) = z := ⟨_, fun _ => rfl⟩
  obtain ⟨ri, ev, le, ch, ls, rm, sm, ra, fa, C, PA, h1, -⟩ := id h
  refine m_iload_n dX8_row_0 rfl ?_
  refine m_if_lt (t := 26) dX8_row_1 (by decide) (fun c1 => ?_) (fun c1 => ?_)
  · refine m_ldc2 dX8_row_26 cl_X8_192 ?_
    exact m_lreturn hF dX8_row_29 rfl rfl rfl ⟨by unfold sRow; rw [if_neg (by rintro ⟨y0, y1, y2⟩; first | exact absurd c1 (Int32.not_lt.mpr y0) | exact in5_iff.mp c13 y1 | exact in2_iff.mp c23 y2)], h, hX, hY, offB.rf⟩
  refine m_iload_n dX8_row_4 rfl ?_
  refine m_i2l dX8_row_5 ?_
  refine m_lconst (v := 0) dX8_row_6 (by decide) ?_
  refine m_ldc2 dX8_row_7 cl_X8_96 ?_
  refine m_invS_I dX8_row_10 lk_X8_141 ar_X8_in (t_X8_in) rfl (Nat.le_of_ble_eq_true rfl) (by decide) (by decide) (by decide) (by decide) rfl rfl ?_
  try rw [va_uu]
  refine m_if_eq (t := 26) dX8_row_13 (by decide) (fun c13 => ?_) (fun c13 => ?_)
  · refine m_ldc2 dX8_row_26 cl_X8_192 ?_
    exact m_lreturn hF dX8_row_29 rfl rfl rfl ⟨by unfold sRow; rw [if_neg (by rintro ⟨y0, y1, y2⟩; first | exact absurd c1 (Int32.not_lt.mpr y0) | exact in5_iff.mp c13 y1 | exact in2_iff.mp c23 y2)], h, hX, hY, offB.rf⟩
  refine m_iload_n dX8_row_16 rfl ?_
  refine m_i2l dX8_row_17 ?_
  refine m_lconst (v := 0) dX8_row_18 (by decide) ?_
  refine m_lconst (v := 1) dX8_row_19 (by decide) ?_
  refine m_invS_I dX8_row_20 lk_X8_141 ar_X8_in (t_X8_in) rfl (Nat.le_of_ble_eq_true rfl) (by decide) (by decide) (by decide) (by decide) rfl rfl ?_
  try rw [va_uu]
  refine m_if_ne (t := 30) dX8_row_23 (by decide) (fun c23 => ?_) (fun c23 => ?_)
  rotate_left
  · refine m_ldc2 dX8_row_26 cl_X8_192 ?_
    exact m_lreturn hF dX8_row_29 rfl rfl rfl ⟨by unfold sRow; rw [if_neg (by rintro ⟨y0, y1, y2⟩; first | exact absurd c1 (Int32.not_lt.mpr y0) | exact in5_iff.mp c13 y1 | exact in2_iff.mp c23 y2)], h, hX, hY, offB.rf⟩
  have hok : 0 ≤ i ∧ inC k 5 ∧ inC w 2 := ⟨Int32.not_lt.mp c1, Classical.not_not.mp (fun y => c13 (in5_iff.mpr y)), Classical.not_not.mp (fun y => c23 (in2_iff.mpr y))⟩
  refine m_aload_n dX8_row_30 rfl ?_
  refine m_invV dX8_row_31 lk_X8_194 ar_X8_laysRows (ci := 8) rfl rfl (by first | assumption | rfl) (t_X8_laysRows h hX hY hC hRW (z := z) hv) rfl (Nat.le_of_ble_eq_true rfl) (by decide) (by decide) (by decide) (by decide) (fun v hp' q => ?_)
  obtain ⟨rfl, gQ⟩ := q
  obtain ⟨ri1, ev1, le1, ch1, ls1, sm1, ra1, fa1, C1, PA1, R, U, g1, g2, g3, g4, g5, g6, gX, g8, g9, gR9, gO⟩ := gQ
  have gR : mRep hp' S ia tm := ⟨ri1, ev1, le1, ch1, ls1, _, sm1, ra1, fa1, C1, PA1, g1, g2, g3, g4, g5, g6⟩
  show mW K _ 0 0 n hp' 34 [.ref 67, .int i, .int k, .int w, _, _] []
  refine m_iload_n dX8_row_34 rfl ?_
  refine m_aload_n dX8_row_35 rfl ?_
  refine m_getfield dX8_row_36 fl_X8_183 (by first | assumption | rfl) (by first | assumption | rfl) ?_
  show mW _ _ _ _ _ _ _ _ (.int _ :: _)
  refine m_icmp_lt (t := 46) dX8_row_39 (by decide) (fun c39 => ?_) (fun c39 => ?_)
  rotate_left
  · refine m_ldc2 dX8_row_42 cl_X8_197 ?_
    exact m_lreturn hF dX8_row_45 rfl rfl rfl ⟨by unfold sRow; rw [if_pos hok, hv (), if_neg c39], gR, gX, ⟨R, U, g8, g9⟩, gO⟩
  obtain ⟨iI, iL⟩ := nI_of0 (x := i) (Int32.le_iff_toInt_le.mp hok.1)
  obtain ⟨kI, -⟩ := nI_of0 (x := k) hok.2.1.1
  have hz5 := szZ_le z
  have hA : tN i < szZ z := (by have y := c39; rw [iI] at y; exact nI_ltN iL (by omega) y)
  have hk5 : tN k < 5 := (by have y := hok.2.1; unfold tN; omega)
  refine m_aload_n dX8_row_46 rfl ?_
  refine m_getfield dX8_row_47 fl_X8_51 (by first | assumption | rfl) (by first | assumption | rfl) ?_
  show mW _ _ _ _ _ _ _ _ (.ref _ :: _)
  refine m_iconst (v := 5) dX8_row_50 (by decide) ?_
  refine m_iload_n dX8_row_51 rfl ?_
  refine m_imul dX8_row_52 ?_
  refine m_ci (v := nI (5 * tN i)) (by rw [iI]; exact (nI_mulN 5 _).trans (by rw [← iI])) ?_
  refine m_iload_n dX8_row_53 rfl ?_
  refine m_iadd dX8_row_54 ?_
  refine m_ci (v := nI (5 * tN i + tN k)) (by rw [kI]; exact (nI_add _ _).trans (by rw [← kI])) ?_
  refine m_laload dX8_row_55 (by first | assumption | rfl) (mIx_lit (show 5 * tN i + tN k < 40 by omega) (by decide)) ?_
  refine m_lstore dX8_row_56 (by decide) ?_
  show mW _ _ _ _ _ _ 58 [_, _, _, _, _, _] _
  refine m_iload_n dX8_row_58 rfl ?_
  refine m_if_ne (t := 80) dX8_row_59 (by decide) (fun c59 => ?_) (fun c59 => ?_)
  rotate_left
  · refine m_lload dX8_row_62 rfl ?_
    refine m_lconst (v := 0) dX8_row_64 (by decide) ?_
    refine m_lc_ge (t := 75) dX8_row_65 dX8_row_66 (by decide) (fun c65 => ?_) (fun c65 => ?_)
    · refine m_lload dX8_row_75 rfl ?_
      refine m_goto (t := 105) dX8_row_77 (by decide) ?_
      exact m_lreturn hF dX8_row_105 rfl rfl rfl ⟨by unfold sRow; rw [if_pos hok, hv (), if_pos c39, ← gR9 (tN i) hA (tN k) hk5]; rw [c59]; first | exact congrArg (fun y => some (Value.long y)) (rowV_b (by first | exact c65 | exact Int64.not_lt.mpr c65)).symm | exact congrArg (fun y => some (Value.long y)) (rowV_a (by first | exact c65 | exact Int64.not_le.mp c65)).symm, gR, gX, ⟨R, U, g8, g9⟩, gO⟩
    refine m_lload dX8_row_69 rfl ?_
    refine m_lneg dX8_row_71 ?_
    refine m_goto (t := 105) dX8_row_72 (by decide) ?_
    exact m_lreturn hF dX8_row_105 rfl rfl rfl ⟨by unfold sRow; rw [if_pos hok, hv (), if_pos c39, ← gR9 (tN i) hA (tN k) hk5]; rw [c59]; first | exact congrArg (fun y => some (Value.long y)) (rowV_b (by first | exact c65 | exact Int64.not_lt.mpr c65)).symm | exact congrArg (fun y => some (Value.long y)) (rowV_a (by first | exact c65 | exact Int64.not_le.mp c65)).symm, gR, gX, ⟨R, U, g8, g9⟩, gO⟩
  refine m_lload dX8_row_80 rfl ?_
  refine m_lconst (v := 0) dX8_row_82 (by decide) ?_
  refine m_lc_le (t := 91) dX8_row_83 dX8_row_84 (by decide) (fun c83 => ?_) (fun c83 => ?_)
  rotate_left
  · refine m_lconst (v := 1) dX8_row_87 (by decide) ?_
    refine m_goto (t := 105) dX8_row_88 (by decide) ?_
    exact m_lreturn hF dX8_row_105 rfl rfl rfl ⟨by unfold sRow; rw [if_pos hok, hv (), if_pos c39, ← gR9 (tN i) hA (tN k) hk5]; first | rw [rowV_c c59 (by first | exact c83 | exact Int64.not_le.mpr c83)] | rw [rowV_d c59 (by first | exact c94 | exact Int64.not_le.mpr c94)] | rw [rowV_e c59 (by first | exact c83 | exact Int64.not_lt.mp c83) (by first | exact c94 | exact Int64.not_lt.mp c94)], gR, gX, ⟨R, U, g8, g9⟩, gO⟩
  refine m_lload dX8_row_91 rfl ?_
  refine m_lconst (v := 0) dX8_row_93 (by decide) ?_
  refine m_lc_ge (t := 104) dX8_row_94 dX8_row_95 (by decide) (fun c94 => ?_) (fun c94 => ?_)
  · refine m_lconst (v := 0) dX8_row_104 (by decide) ?_
    exact m_lreturn hF dX8_row_105 rfl rfl rfl ⟨by unfold sRow; rw [if_pos hok, hv (), if_pos c39, ← gR9 (tN i) hA (tN k) hk5]; first | rw [rowV_c c59 (by first | exact c83 | exact Int64.not_le.mpr c83)] | rw [rowV_d c59 (by first | exact c94 | exact Int64.not_le.mpr c94)] | rw [rowV_e c59 (by first | exact c83 | exact Int64.not_lt.mp c83) (by first | exact c94 | exact Int64.not_lt.mp c94)], gR, gX, ⟨R, U, g8, g9⟩, gO⟩
  refine m_ldc2 dX8_row_98 cl_X8_199 ?_
  refine m_goto (t := 105) dX8_row_101 (by decide) ?_
  exact m_lreturn hF dX8_row_105 rfl rfl rfl ⟨by unfold sRow; rw [if_pos hok, hv (), if_pos c39, ← gR9 (tN i) hA (tN k) hk5]; first | rw [rowV_c c59 (by first | exact c83 | exact Int64.not_le.mpr c83)] | rw [rowV_d c59 (by first | exact c94 | exact Int64.not_le.mpr c94)] | rw [rowV_e c59 (by first | exact c83 | exact Int64.not_lt.mp c83) (by first | exact c94 | exact Int64.not_lt.mp c94)], gR, gX, ⟨R, U, g8, g9⟩, gO⟩

