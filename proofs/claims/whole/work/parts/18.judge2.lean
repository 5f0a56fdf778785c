def oJudge (ri ev le : Int32) : Nat → Value := fun k => match k with
  | 0 => .ref 45
  | 1 => .ref 53
  | 2 => .int ri
  | 3 => .int ev
  | 4 => .int le
  | _ => .null
theorem oJudge_2 (ri ev le : Int32) (x9 : Int32) : va_up (oJudge ri ev le) 2 (.int x9) = oJudge x9 ev le := by
  funext k
  match k with
  | 0 => rfl
  | 1 => rfl
  | 2 => rfl
  | 3 => rfl
  | 4 => rfl
  | k + 5 => simp [va_up, oJudge]
theorem oJudge_3 (ri ev le : Int32) (x9 : Int32) : va_up (oJudge ri ev le) 3 (.int x9) = oJudge ri x9 le := by
  funext k
  match k with
  | 0 => rfl
  | 1 => rfl
  | 2 => rfl
  | 3 => rfl
  | 4 => rfl
  | k + 5 => simp [va_up, oJudge]
theorem oJudge_4 (ri ev le : Int32) (x9 : Int32) : va_up (oJudge ri ev le) 4 (.int x9) = oJudge ri ev x9 := by
  funext k
  match k with
  | 0 => rfl
  | 1 => rfl
  | 2 => rfl
  | 3 => rfl
  | 4 => rfl
  | k + 5 => simp [va_up, oJudge]
def tB (Z : Nat → Int64) (l k : Nat) : Int64 := if k < l then 0 else Z (k - l)
/-- the change of variable, of what has been filled up to degree 4 -/
def turnV (Z : Nat → Int64) (l : Nat) : Nat → Int64 := fun j => match j with
  | 0 => tB Z l 0 + tB Z l 1 + tB Z l 2 + tB Z l 3 + tB Z l 4
  | 1 => 4 * (tB Z l 4 - tB Z l 0) + 2 * (tB Z l 3 - tB Z l 1)
  | 2 => 6 * (tB Z l 4 + tB Z l 0) - 2 * tB Z l 2
  | 3 => 4 * (tB Z l 4 - tB Z l 0) - 2 * (tB Z l 3 - tB Z l 1)
  | 4 => tB Z l 0 - tB Z l 1 + tB Z l 2 - tB Z l 3 + tB Z l 4
  | _ => 0
theorem fill5_at {f g : Nat → Int64} {j : Nat} (h : j < 5) : fill5 f g j = f j := by
  rcases lt5 h with rfl | rfl | rfl | rfl | rfl <;> rfl
theorem deg5_congr {f g : Nat → Int64} (h : ∀ j, j < 5 → f j = g j) : deg5 f = deg5 g := by
  unfold deg5
  rw [h 0 (by decide), h 1 (by decide), h 2 (by decide), h 3 (by decide), h 4 (by decide)]
theorem stA_congr {f g : Nat → Int64} (h : ∀ j, j < 5 → f j = g j) : stA f = stA g := by
  unfold stA
  simp only [chkS, deg5_congr h, h 0 (by decide), h 1 (by decide), h 2 (by decide), h 3 (by decide), h 4 (by decide), Nat.zero_add, Nat.reduceAdd]
theorem deg5_N {Z : Nat → Int64} (h : deg5 Z ≠ -1) : ∃ d, d ≤ 4 ∧ deg5 Z = nI d := by
  rcases deg5_cases Z with e | e | e | e | e | e
  · exact absurd e h
  · exact ⟨0, by decide, e⟩
  · exact ⟨1, by decide, e⟩
  · exact ⟨2, by decide, e⟩
  · exact ⟨3, by decide, e⟩
  · exact ⟨4, by decide, e⟩
/-- the degree's distance to 4 -/
def lackN (Z : Nat → Int64) : Nat := if Z 4 = 0 then if Z 3 = 0 then if Z 2 = 0 then if Z 1 = 0 then 4 else 3 else 2 else 1 else 0
theorem lackN_ok {Z : Nat → Int64} (h : deg5 Z ≠ -1) : 4 - deg5 Z = nI (lackN Z) ∧ lackN Z ≤ 4 := by
  unfold deg5 lackN at *
  repeat' split
  all_goals first | exact ⟨by decide, by decide⟩ | (exfalso; simp_all)
/-- steady by the circle, as the class says it -/
def stC (Z : Nat → Int64) : Int32 := if deg5 Z = -1 then 0 else if turnV Z (lackN Z) 4 = 0 then 0 else if stA (turnV Z (lackN Z)) = 0 then 0 else 1
theorem t_X1_partBelow {n : Nat} {hp : mHp} {h k l : Nat} {Z : Nat → Int64} (h1 : hp h = eL 5 Z) (hk : k ≤ 4) (hl : l ≤ 4) : mC D_X1_partBelow [.ref h, .int (nI k), .int (nI l)] n hp (rL (tB Z l k) hp) := by
  refine m_enter rfl rfl (Nat.le_of_ble_eq_true rfl) (fun K hF => ?_)
  show mW K _ 0 0 _ _ 0 [.ref h, .int (nI k), .int (nI l)] []
  refine m_iload_n dX1_partBelow_0 rfl ?_
  refine m_iload_n dX1_partBelow_1 rfl ?_
  refine m_icmp_lt (t := 10) dX1_partBelow_2 (by decide) (fun c2 => ?_) (fun c2 => ?_)
  · have hkl : k < l := (nI_ltI (by omega) (by omega)).mp c2
    refine m_lconst (v := 0) dX1_partBelow_10 (by decide) ?_
    refine m_goto (t := 19) dX1_partBelow_11 (by decide) ?_
    exact m_lreturn hF dX1_partBelow_19 rfl rfl rfl ⟨by unfold tB; first | rw [if_pos hkl] | rw [if_neg hkl], rfl⟩
  have hkl : ¬ k < l := fun q => c2 (nI_lt q (by omega))
  refine m_iload_n dX1_partBelow_5 rfl ?_
  refine m_iconst (v := 5) dX1_partBelow_6 (by decide) ?_
  refine m_icmp_lt (t := 14) dX1_partBelow_7 (by decide) (fun _ => ?_) (fun q => absurd (nI_lt (b := 5) (by omega) (by decide)) q)
  refine m_aload_n dX1_partBelow_14 rfl ?_
  refine m_iload_n dX1_partBelow_15 rfl ?_
  refine m_iload_n dX1_partBelow_16 rfl ?_
  refine m_isub dX1_partBelow_17 ?_
  refine m_ci (v := nI (k - l)) (nI_subN (by omega)) ?_
  refine m_laload dX1_partBelow_18 (by first | assumption | rfl) (mIx_lit (show k - l < 5 by omega) (by decide)) ?_
  exact m_lreturn hF dX1_partBelow_19 rfl rfl rfl ⟨by unfold tB; first | rw [if_pos hkl] | rw [if_neg hkl], rfl⟩
set_option maxHeartbeats 4000000 in
set_option maxRecDepth 100000 in
theorem t_X1_turn {n : Nat} {hp : mHp} {h : Nat} {Z T : Nat → Int64} {ri ev le : Int32} (h44 : hp 44 = eO 1 (oJudge ri ev le)) (h53 : hp 53 = eL 5 T) (hh : hp h = eL 5 Z) (hne : h ≠ 53) (hd : deg5 Z ≠ -1) : mC D_X1_turn [.ref 44, .ref h] n hp (rV (va_up hp 53 (eL 5 (fill5 (turnV Z (lackN Z)) T)))) := by
  refine m_enter rfl rfl (Nat.le_of_ble_eq_true rfl) (fun K hF => ?_)
  show mW K _ 0 0 _ _ 0 [.ref 44, .ref h, .retAddr 0, .retAddr 0, .retAddr 0, .retAddr 0, .retAddr 0, .retAddr 0, .retAddr 0, .retAddr 0, .retAddr 0, .retAddr 0, .retAddr 0] []
  have hlk := lackN_ok hd
  refine m_iconst (v := 4) dX1_turn_0 (by decide) ?_
  refine m_aload_n dX1_turn_1 rfl ?_
  refine m_invSN_I dX1_turn_2 lk_X1_42 ar_X7_degreeOf (t_X7_degreeOf (by first | assumption | rfl)) rfl (Nat.le_of_ble_eq_true rfl) (by decide) (by decide) (by decide) (by decide) rfl rfl ?_
  try rw [va_uu]
  refine m_isub dX1_turn_5 ?_
  refine m_ci (v := nI (lackN Z)) hlk.1 ?_
  refine m_istore_n dX1_turn_6 (by decide) ?_
  show mW _ _ _ _ _ _ 7 [_, _, _, _, _, _, _, _, _, _, _, _, _] _
  refine m_aload_n dX1_turn_7 rfl ?_
  refine m_iconst (v := 0) dX1_turn_8 (by decide) ?_
  refine m_iload_n dX1_turn_9 rfl ?_
  refine m_invS_L dX1_turn_10 lk_X1_50 ar_X1_partBelow (t_X1_partBelow (k := 0) (l := lackN Z) hh (by decide) hlk.2) rfl (Nat.le_of_ble_eq_true rfl) (by decide) (by decide) (by decide) (by decide) rfl rfl ?_
  try rw [va_uu]
  refine m_lstore_n dX1_turn_13 (by decide) ?_
  show mW _ _ _ _ _ _ 14 [_, _, _, _, _, _, _, _, _, _, _, _, _] _
  refine m_aload_n dX1_turn_14 rfl ?_
  refine m_iconst (v := 1) dX1_turn_15 (by decide) ?_
  refine m_iload_n dX1_turn_16 rfl ?_
  refine m_invS_L dX1_turn_17 lk_X1_50 ar_X1_partBelow (t_X1_partBelow (k := 1) (l := lackN Z) hh (by decide) hlk.2) rfl (Nat.le_of_ble_eq_true rfl) (by decide) (by decide) (by decide) (by decide) rfl rfl ?_
  try rw [va_uu]
  refine m_lstore dX1_turn_20 (by decide) ?_
  show mW _ _ _ _ _ _ 22 [_, _, _, _, _, _, _, _, _, _, _, _, _] _
  refine m_aload_n dX1_turn_22 rfl ?_
  refine m_iconst (v := 2) dX1_turn_23 (by decide) ?_
  refine m_iload_n dX1_turn_24 rfl ?_
  refine m_invS_L dX1_turn_25 lk_X1_50 ar_X1_partBelow (t_X1_partBelow (k := 2) (l := lackN Z) hh (by decide) hlk.2) rfl (Nat.le_of_ble_eq_true rfl) (by decide) (by decide) (by decide) (by decide) rfl rfl ?_
  try rw [va_uu]
  refine m_lstore dX1_turn_28 (by decide) ?_
  show mW _ _ _ _ _ _ 30 [_, _, _, _, _, _, _, _, _, _, _, _, _] _
  refine m_aload_n dX1_turn_30 rfl ?_
  refine m_iconst (v := 3) dX1_turn_31 (by decide) ?_
  refine m_iload_n dX1_turn_32 rfl ?_
  refine m_invS_L dX1_turn_33 lk_X1_50 ar_X1_partBelow (t_X1_partBelow (k := 3) (l := lackN Z) hh (by decide) hlk.2) rfl (Nat.le_of_ble_eq_true rfl) (by decide) (by decide) (by decide) (by decide) rfl rfl ?_
  try rw [va_uu]
  refine m_lstore dX1_turn_36 (by decide) ?_
  show mW _ _ _ _ _ _ 38 [_, _, _, _, _, _, _, _, _, _, _, _, _] _
  refine m_aload_n dX1_turn_38 rfl ?_
  refine m_iconst (v := 4) dX1_turn_39 (by decide) ?_
  refine m_iload_n dX1_turn_40 rfl ?_
  refine m_invS_L dX1_turn_41 lk_X1_50 ar_X1_partBelow (t_X1_partBelow (k := 4) (l := lackN Z) hh (by decide) hlk.2) rfl (Nat.le_of_ble_eq_true rfl) (by decide) (by decide) (by decide) (by decide) rfl rfl ?_
  try rw [va_uu]
  refine m_lstore dX1_turn_44 (by decide) ?_
  show mW _ _ _ _ _ _ 46 [_, _, _, _, _, _, _, _, _, _, _, _, _] _
  refine m_aload_n dX1_turn_46 rfl ?_
  refine m_getfield dX1_turn_47 fl_X1_18 (by first | assumption | rfl) (by first | assumption | rfl) ?_
  show mW _ _ _ _ _ _ _ _ (.ref _ :: _)
  refine m_iconst (v := 0) dX1_turn_50 (by decide) ?_
  refine m_lload_n dX1_turn_51 rfl ?_
  refine m_lload dX1_turn_52 rfl ?_
  refine m_ladd dX1_turn_54 ?_
  refine m_lload dX1_turn_55 rfl ?_
  refine m_ladd dX1_turn_57 ?_
  refine m_lload dX1_turn_58 rfl ?_
  refine m_ladd dX1_turn_60 ?_
  refine m_lload dX1_turn_61 rfl ?_
  refine m_ladd dX1_turn_63 ?_
  refine m_lastore (k := 0) dX1_turn_64 (by first | assumption | rfl) ⟨by decide, by decide⟩ ?_
  try rw [va_uu]
  refine m_aload_n dX1_turn_65 rfl ?_
  refine m_getfield dX1_turn_66 fl_X1_18 (by first | assumption | rfl) (by first | assumption | rfl) ?_
  show mW _ _ _ _ _ _ _ _ (.ref _ :: _)
  refine m_iconst (v := 1) dX1_turn_69 (by decide) ?_
  refine m_ldc2 dX1_turn_70 cl_X1_54 ?_
  refine m_lload dX1_turn_73 rfl ?_
  refine m_lload_n dX1_turn_75 rfl ?_
  refine m_lsub dX1_turn_76 ?_
  refine m_lmul dX1_turn_77 ?_
  refine m_ldc2 dX1_turn_78 cl_X1_56 ?_
  refine m_lload dX1_turn_81 rfl ?_
  refine m_lload dX1_turn_83 rfl ?_
  refine m_lsub dX1_turn_85 ?_
  refine m_lmul dX1_turn_86 ?_
  refine m_ladd dX1_turn_87 ?_
  refine m_lastore (k := 1) dX1_turn_88 (by first | assumption | rfl) ⟨by decide, by decide⟩ ?_
  try rw [va_uu]
  refine m_aload_n dX1_turn_89 rfl ?_
  refine m_getfield dX1_turn_90 fl_X1_18 (by first | assumption | rfl) (by first | assumption | rfl) ?_
  show mW _ _ _ _ _ _ _ _ (.ref _ :: _)
  refine m_iconst (v := 2) dX1_turn_93 (by decide) ?_
  refine m_ldc2 dX1_turn_94 cl_X1_58 ?_
  refine m_lload dX1_turn_97 rfl ?_
  refine m_lload_n dX1_turn_99 rfl ?_
  refine m_ladd dX1_turn_100 ?_
  refine m_lmul dX1_turn_101 ?_
  refine m_ldc2 dX1_turn_102 cl_X1_56 ?_
  refine m_lload dX1_turn_105 rfl ?_
  refine m_lmul dX1_turn_107 ?_
  refine m_lsub dX1_turn_108 ?_
  refine m_lastore (k := 2) dX1_turn_109 (by first | assumption | rfl) ⟨by decide, by decide⟩ ?_
  try rw [va_uu]
  refine m_aload_n dX1_turn_110 rfl ?_
  refine m_getfield dX1_turn_111 fl_X1_18 (by first | assumption | rfl) (by first | assumption | rfl) ?_
  show mW _ _ _ _ _ _ _ _ (.ref _ :: _)
  refine m_iconst (v := 3) dX1_turn_114 (by decide) ?_
  refine m_ldc2 dX1_turn_115 cl_X1_54 ?_
  refine m_lload dX1_turn_118 rfl ?_
  refine m_lload_n dX1_turn_120 rfl ?_
  refine m_lsub dX1_turn_121 ?_
  refine m_lmul dX1_turn_122 ?_
  refine m_ldc2 dX1_turn_123 cl_X1_56 ?_
  refine m_lload dX1_turn_126 rfl ?_
  refine m_lload dX1_turn_128 rfl ?_
  refine m_lsub dX1_turn_130 ?_
  refine m_lmul dX1_turn_131 ?_
  refine m_lsub dX1_turn_132 ?_
  refine m_lastore (k := 3) dX1_turn_133 (by first | assumption | rfl) ⟨by decide, by decide⟩ ?_
  try rw [va_uu]
  refine m_aload_n dX1_turn_134 rfl ?_
  refine m_getfield dX1_turn_135 fl_X1_18 (by first | assumption | rfl) (by first | assumption | rfl) ?_
  show mW _ _ _ _ _ _ _ _ (.ref _ :: _)
  refine m_iconst (v := 4) dX1_turn_138 (by decide) ?_
  refine m_lload_n dX1_turn_139 rfl ?_
  refine m_lload dX1_turn_140 rfl ?_
  refine m_lsub dX1_turn_142 ?_
  refine m_lload dX1_turn_143 rfl ?_
  refine m_ladd dX1_turn_145 ?_
  refine m_lload dX1_turn_146 rfl ?_
  refine m_lsub dX1_turn_148 ?_
  refine m_lload dX1_turn_149 rfl ?_
  refine m_ladd dX1_turn_151 ?_
  refine m_lastore (k := 4) dX1_turn_152 (by first | assumption | rfl) ⟨by decide, by decide⟩ ?_
  try rw [va_uu]
  exact m_return hF dX1_turn_153 rfl rfl rfl ⟨rfl, rfl⟩

theorem chkS_01 (Z : Nat → Int64) (mi : Int32) : ∀ (r k : Nat) (c : Int32), (c = 0 ∨ c = 1) → (chkS Z mi r k c = 0 ∨ chkS Z mi r k c = 1)
  | 0, _, _, h => h
  | r + 1, k, c, h => by
    unfold chkS
    split
    · exact Or.inl rfl
    · split
      · exact chkS_01 Z mi r (k + 1) c h
      · exact Or.inl rfl
theorem ite01 {c : Prop} [Decidable c] : (if c then (0 : Int32) else 1) = 0 ∨ (if c then (0 : Int32) else 1) = 1 := by
  split
  · exact Or.inl rfl
  · exact Or.inr rfl
theorem stA_01 (Z : Nat → Int64) : stA Z = 0 ∨ stA Z = 1 := by
  unfold stA
  split
  · exact Or.inl rfl
  · split
    · exact Or.inr rfl
    · split
      · exact chkS_01 _ _ _ _ _ (Or.inr rfl)
      · split
        · exact chkS_01 _ _ _ _ _ (Or.inr rfl)
        · split
          · refine chkS_01 _ _ _ _ _ ?_
            split
            · exact ite01
            · exact ite01
          · refine chkS_01 _ _ _ _ _ ?_
            split
            · exact ite01
            · exact ite01
theorem t_X1_isSteady0 {n : Nat} {hp : mHp} {h : Nat} {Z : Nat → Int64} (hh : hp h = eL 5 Z) : mC D_X1_isSteady [.ref 44, .int 0, .ref h] n hp (rI (stA Z) hp) := by
  refine m_enter rfl rfl (Nat.le_of_ble_eq_true rfl) (fun K hF => ?_)
  show mW K _ 0 0 _ _ 0 [.ref 44, .int 0, .ref h] []
  refine m_iload_n dX1_isSteady_0 rfl ?_
  refine m_if_ne (t := 9) dX1_isSteady_1 (by decide) (fun q => absurd rfl q) (fun _ => ?_)
  refine m_aload_n dX1_isSteady_4 rfl ?_
  refine m_invS_I dX1_isSteady_5 lk_X1_46 ar_X1_isSteadyByAxis (t_X1_isSteadyByAxis (by first | assumption | rfl)) rfl (Nat.le_of_ble_eq_true rfl) (by decide) (by decide) (by decide) (by decide) rfl rfl ?_
  try rw [va_uu]
  exact m_zreturn hF dX1_isSteady_8 rfl (by rcases stA_01 Z with q | q <;> rw [q] <;> rfl) rfl rfl ⟨rfl, rfl⟩

theorem t_X1_isSteady1 {n : Nat} {hp : mHp} {h : Nat} {Z T : Nat → Int64} {ri ev le : Int32} (h44 : hp 44 = eO 1 (oJudge ri ev le)) (h53 : hp 53 = eL 5 T) (hh : hp h = eL 5 Z) (hne : h ≠ 53) : mC D_X1_isSteady [.ref 44, .int 1, .ref h] n hp (fun v hp' => v = some (.int (stC Z)) ∧ ∃ T', hp' = va_up hp 53 (eL 5 T')) := by
  refine m_enter rfl rfl (Nat.le_of_ble_eq_true rfl) (fun K hF => ?_)
  show mW K _ 0 0 _ _ 0 [.ref 44, .int 1, .ref h] []
  refine m_iload_n dX1_isSteady_0 rfl ?_
  refine m_if_ne (t := 9) dX1_isSteady_1 (by decide) (fun _ => ?_) (fun q => absurd q (by decide))
  refine m_aload_n dX1_isSteady_9 rfl ?_
  refine m_invSN_I dX1_isSteady_10 lk_X1_42 ar_X7_degreeOf (t_X7_degreeOf (by first | assumption | rfl)) rfl (Nat.le_of_ble_eq_true rfl) (by decide) (by decide) (by decide) (by decide) rfl rfl ?_
  try rw [va_uu]
  refine m_iconst (v := -1) dX1_isSteady_13 (by decide) ?_
  refine m_icmp_ne (t := 19) dX1_isSteady_14 (by decide) (fun c14 => ?_) (fun c14 => ?_)
  rotate_left
  · refine m_iconst (v := 0) dX1_isSteady_17 (by decide) ?_
    exact m_zreturn hF dX1_isSteady_18 rfl rfl rfl rfl ⟨by unfold stC; simp only [if_pos c14], _, (va_uid hp h53).symm⟩
  have e4 : fill5 (turnV Z (lackN Z)) T 4 = turnV Z (lackN Z) 4 := rfl
  have eS : stA (fill5 (turnV Z (lackN Z)) T) = stA (turnV Z (lackN Z)) := stA_congr (fun j hj => fill5_at hj)
  refine m_aload_n dX1_isSteady_19 rfl ?_
  refine m_aload_n dX1_isSteady_20 rfl ?_
  refine m_invV_V dX1_isSteady_21 lk_X1_39 ar_X1_turn (ci := 1) rfl rfl (by first | assumption | rfl) (t_X1_turn h44 h53 hh hne c14) rfl (Nat.le_of_ble_eq_true rfl) (by decide) (by decide) (by decide) (by decide) rfl rfl ?_
  try rw [va_uu]
  refine m_aload_n dX1_isSteady_24 rfl ?_
  refine m_getfield dX1_isSteady_25 fl_X1_18 (by first | assumption | rfl) (by first | assumption | rfl) ?_
  show mW _ _ _ _ _ _ _ _ (.ref _ :: _)
  refine m_iconst (v := 4) dX1_isSteady_28 (by decide) ?_
  refine m_laload (k := 4) dX1_isSteady_29 (by first | assumption | rfl) ⟨by decide, by decide⟩ ?_
  refine m_cl e4 ?_
  refine m_lconst (v := 0) dX1_isSteady_30 (by decide) ?_
  refine m_lc_eq (t := 49) dX1_isSteady_31 dX1_isSteady_32 (by decide) (fun c31 => ?_) (fun c31 => ?_)
  · refine m_iconst (v := 0) dX1_isSteady_49 (by decide) ?_
    exact m_zreturn hF dX1_isSteady_50 rfl rfl rfl rfl ⟨by unfold stC; simp only [if_neg c14, if_pos c31], _, rfl⟩
  refine m_aload_n dX1_isSteady_35 rfl ?_
  refine m_getfield dX1_isSteady_36 fl_X1_18 (by first | assumption | rfl) (by first | assumption | rfl) ?_
  show mW _ _ _ _ _ _ _ _ (.ref _ :: _)
  refine m_invS_I dX1_isSteady_39 lk_X1_46 ar_X1_isSteadyByAxis (t_X1_isSteadyByAxis (by first | assumption | rfl)) rfl (Nat.le_of_ble_eq_true rfl) (by decide) (by decide) (by decide) (by decide) rfl rfl ?_
  try rw [va_uu]
  refine m_ci eS ?_
  refine m_if_eq (t := 49) dX1_isSteady_42 (by decide) (fun c42 => ?_) (fun c42 => ?_)
  · refine m_iconst (v := 0) dX1_isSteady_49 (by decide) ?_
    exact m_zreturn hF dX1_isSteady_50 rfl rfl rfl rfl ⟨by unfold stC; simp only [if_neg c14, if_neg c31, if_pos c42], _, rfl⟩
  refine m_iconst (v := 1) dX1_isSteady_45 (by decide) ?_
  refine m_goto (t := 50) dX1_isSteady_46 (by decide) ?_
  exact m_zreturn hF dX1_isSteady_50 rfl rfl rfl rfl ⟨by unfold stC; simp only [if_neg c14, if_neg c31, if_neg c42], _, rfl⟩

