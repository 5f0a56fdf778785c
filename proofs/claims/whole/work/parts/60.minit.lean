/-! ===== the constructor of the reference ===== -/
theorem iX8_fin : va_up (va_up (va_up (va_up (va_up (va_up (va_up (va_up (va_up (va_up (va_up (va_up (va_up (va_up (va_up (va_up (va_up (va_up (iX8) 0 (.ref 68)) 1 (.ref 69)) 3 (.ref 70)) 4 (.ref 71)) 5 (.int (-1))) 6 (.ref 72)) 8 (.ref 73)) 9 (.ref 74)) 10 (.ref 75)) 11 (.ref 76)) 15 (.ref 77)) 18 (.ref 78)) 19 (.ref 79)) 20 (.ref 80)) 22 (.ref 81)) 23 (.ref 82)) 24 (.ref 83)) 28 (.ref 84) = oMod 0 (-1) 0 0 0 0 0 0 0 0 0 0 := by
  funext k
  match k with
  | 0 => rfl
  | 1 => rfl
  | 2 => rfl
  | 3 => rfl
  | 4 => rfl
  | 5 => rfl
  | 6 => rfl
  | 7 => rfl
  | 8 => rfl
  | 9 => rfl
  | 10 => rfl
  | 11 => rfl
  | 12 => rfl
  | 13 => rfl
  | 14 => rfl
  | 15 => rfl
  | 16 => rfl
  | 17 => rfl
  | 18 => rfl
  | 19 => rfl
  | 20 => rfl
  | 21 => rfl
  | 22 => rfl
  | 23 => rfl
  | 24 => rfl
  | 25 => rfl
  | 26 => rfl
  | 27 => rfl
  | 28 => rfl
  | k + 29 => simp [va_up, oMod, iX8]
def mAll (hp : mHp) (S T : TS) (ia : Int32) (z : Nat) (LT : Nat → Int32) (X : SH) : Prop := mRep hp S ia (nI z) ∧ mImg hp ia T ∧ mTape hp z LT ∧ mShelf hp X ∧ mScX hp ∧ mRw hp ∧ mSp hp ∧ mRd hp
def cM0 : Nat → Int32 := va_up (va_up (va_up (va_up (fun _ => 0) 0 1) 1 1) 5 1) 11 1
theorem cM0_eq : eq12 cM0 TS0.1 := fun t ht => by
  match t, ht with
  | 0, _ => rfl
  | 1, _ => rfl
  | 2, _ => rfl
  | 3, _ => rfl
  | 4, _ => rfl
  | 5, _ => rfl
  | 6, _ => rfl
  | 7, _ => rfl
  | 8, _ => rfl
  | 9, _ => rfl
  | 10, _ => rfl
  | 11, _ => rfl
def lM0 : Nat → Int32 := va_up (va_up (va_up (va_up (fun _ => 0) 0 (-4)) 1 (-4)) 2 (-4)) 3 (-4)
theorem lM0_ok {SZ : Nat → Int32} {IT : Nat → Int64} : ∀ s, s < 4 → lnR SH0 lM0 SZ IT s := fun s hs => by
  match s, hs with
  | 0, _ => exact Or.inl ⟨by decide, rfl⟩
  | 1, _ => exact Or.inl ⟨by decide, rfl⟩
  | 2, _ => exact Or.inl ⟨by decide, rfl⟩
  | 3, _ => exact Or.inl ⟨by decide, rfl⟩
set_option maxHeartbeats 1000000 in
set_option maxRecDepth 100000 in
theorem t_X8_init {hp : mHp} (h1 : hp 67 = eO 8 iX8) {T : TS} : mC D_X8_init [.ref 67] 68 hp (fun v hp' => v = none ∧ mAll hp' TS0 T (-1) 0 (fun _ => 0) SH0 ∧ ∀ q, (q < 67 ∨ 84 < q) → hp' q = hp q) := by
  refine m_enter rfl rfl (Nat.le_of_ble_eq_true rfl) (fun K hF => ?_)
  have hin := hF.2.2.2.1
  show mW K _ 0 0 _ _ 0 [.ref 67, .retAddr 0] []
  refine m_aload_n dX8_init_0 rfl ?_
  refine m_objInit dX8_init_1 lk_X8_1 (Nat.le_of_ble_eq_true rfl) (by decide) ?_
  refine m_aload_n dX8_init_4 rfl ?_
  refine m_bipush (v := 12) dX8_init_5 (by decide) ?_
  refine m_newarray (ty := .int) (a0 := (12, .inl (fun _ => 0))) (N := 12) dX8_init_7 rfl w_1_42 (fun _ _ => rfl) ⟨0, fun _ => rfl⟩ (fun _ q => by cases q) ⟨by decide, by decide⟩ (by decide) (by decide) (by decide) (by decide) ?_
  show mW _ _ _ _ 69 _ _ _ (.ref 68 :: _)
  refine m_putfieldF dX8_init_9 fl_X8_7 ⟨RX8, TX8, 29, rfl, rfl⟩ (by first | exact va_up_self _ _ _ | rfl | exact h1) hin (fun _ => rfl) (fun _ => rfl) ?_
  try rw [va_uu]
  refine m_aload_n dX8_init_12 rfl ?_
  refine m_bipush (v := 72) dX8_init_13 (by decide) ?_
  refine m_newarray (ty := .int) (a0 := (72, .inl (fun _ => 0))) (N := 72) dX8_init_15 rfl w_1_42 (fun _ _ => rfl) ⟨0, fun _ => rfl⟩ (fun _ q => by cases q) ⟨by decide, by decide⟩ (by decide) (by decide) (by decide) (by decide) ?_
  show mW _ _ _ _ 70 _ _ _ (.ref 69 :: _)
  refine m_putfieldF dX8_init_17 fl_X8_13 ⟨RX8, TX8, 29, rfl, rfl⟩ (by first | exact va_up_self _ _ _ | rfl | exact h1) hin (fun _ => rfl) (fun _ => rfl) ?_
  try rw [va_uu]
  refine m_aload_n dX8_init_20 rfl ?_
  refine m_bipush (v := 12) dX8_init_21 (by decide) ?_
  refine m_newarray (ty := .int) (a0 := (12, .inl (fun _ => 0))) (N := 12) dX8_init_23 rfl w_1_42 (fun _ _ => rfl) ⟨0, fun _ => rfl⟩ (fun _ q => by cases q) ⟨by decide, by decide⟩ (by decide) (by decide) (by decide) (by decide) ?_
  show mW _ _ _ _ 71 _ _ _ (.ref 70 :: _)
  refine m_putfieldF dX8_init_25 fl_X8_16 ⟨RX8, TX8, 29, rfl, rfl⟩ (by first | exact va_up_self _ _ _ | rfl | exact h1) hin (fun _ => rfl) (fun _ => rfl) ?_
  try rw [va_uu]
  refine m_aload_n dX8_init_28 rfl ?_
  refine m_bipush (v := 72) dX8_init_29 (by decide) ?_
  refine m_newarray (ty := .int) (a0 := (72, .inl (fun _ => 0))) (N := 72) dX8_init_31 rfl w_1_42 (fun _ _ => rfl) ⟨0, fun _ => rfl⟩ (fun _ q => by cases q) ⟨by decide, by decide⟩ (by decide) (by decide) (by decide) (by decide) ?_
  show mW _ _ _ _ 72 _ _ _ (.ref 71 :: _)
  refine m_putfieldF dX8_init_33 fl_X8_19 ⟨RX8, TX8, 29, rfl, rfl⟩ (by first | exact va_up_self _ _ _ | rfl | exact h1) hin (fun _ => rfl) (fun _ => rfl) ?_
  try rw [va_uu]
  refine m_aload_n dX8_init_36 rfl ?_
  refine m_iconst (v := -1) dX8_init_37 (by decide) ?_
  refine m_putfield dX8_init_38 fl_X8_22 (by first | exact va_up_self _ _ _ | rfl | exact h1) (fun _ => rfl) (fun _ => rfl) ?_
  try rw [va_uu]
  refine m_aload_n dX8_init_41 rfl ?_
  refine m_bipush (v := 60) dX8_init_42 (by decide) ?_
  refine m_newarray (ty := .int) (a0 := (60, .inl (fun _ => 0))) (N := 60) dX8_init_44 rfl w_1_42 (fun _ _ => rfl) ⟨0, fun _ => rfl⟩ (fun _ q => by cases q) ⟨by decide, by decide⟩ (by decide) (by decide) (by decide) (by decide) ?_
  show mW _ _ _ _ 73 _ _ _ (.ref 72 :: _)
  refine m_putfieldF dX8_init_46 fl_X8_26 ⟨RX8, TX8, 29, rfl, rfl⟩ (by first | exact va_up_self _ _ _ | rfl | exact h1) hin (fun _ => rfl) (fun _ => rfl) ?_
  try rw [va_uu]
  refine m_aload_n dX8_init_49 rfl ?_
  refine m_iconst (v := 4) dX8_init_50 (by decide) ?_
  refine m_newarray (ty := .int) (a0 := (4, .inl (fun _ => 0))) (N := 4) dX8_init_51 rfl w_1_42 (fun _ _ => rfl) ⟨0, fun _ => rfl⟩ (fun _ q => by cases q) ⟨by decide, by decide⟩ (by decide) (by decide) (by decide) (by decide) ?_
  show mW _ _ _ _ 74 _ _ _ (.ref 73 :: _)
  refine m_putfieldF dX8_init_53 fl_X8_29 ⟨RX8, TX8, 29, rfl, rfl⟩ (by first | exact va_up_self _ _ _ | rfl | exact h1) hin (fun _ => rfl) (fun _ => rfl) ?_
  try rw [va_uu]
  refine m_aload_n dX8_init_56 rfl ?_
  refine m_iconst (v := 4) dX8_init_57 (by decide) ?_
  refine m_newarray (ty := .int) (a0 := (4, .inl (fun _ => 0))) (N := 4) dX8_init_58 rfl w_1_42 (fun _ _ => rfl) ⟨0, fun _ => rfl⟩ (fun _ q => by cases q) ⟨by decide, by decide⟩ (by decide) (by decide) (by decide) (by decide) ?_
  show mW _ _ _ _ 75 _ _ _ (.ref 74 :: _)
  refine m_putfieldF dX8_init_60 fl_X8_32 ⟨RX8, TX8, 29, rfl, rfl⟩ (by first | exact va_up_self _ _ _ | rfl | exact h1) hin (fun _ => rfl) (fun _ => rfl) ?_
  try rw [va_uu]
  refine m_aload_n dX8_init_63 rfl ?_
  refine m_bipush (v := 96) dX8_init_64 (by decide) ?_
  refine m_newarray (ty := .long) (a0 := (96, .inr (.inl (fun _ => 0)))) (N := 96) dX8_init_66 rfl w_1_120 (fun _ _ => rfl) ⟨1, fun _ => rfl⟩ (fun _ q => by cases q) ⟨by decide, by decide⟩ (by decide) (by decide) (by decide) (by decide) ?_
  show mW _ _ _ _ 76 _ _ _ (.ref 75 :: _)
  refine m_putfieldF dX8_init_68 fl_X8_35 ⟨RX8, TX8, 29, rfl, rfl⟩ (by first | exact va_up_self _ _ _ | rfl | exact h1) hin (fun _ => rfl) (fun _ => rfl) ?_
  try rw [va_uu]
  refine m_aload_n dX8_init_71 rfl ?_
  refine m_iconst (v := 5) dX8_init_72 (by decide) ?_
  refine m_newarray (ty := .long) (a0 := (5, .inr (.inl (fun _ => 0)))) (N := 5) dX8_init_73 rfl w_1_120 (fun _ _ => rfl) ⟨1, fun _ => rfl⟩ (fun _ q => by cases q) ⟨by decide, by decide⟩ (by decide) (by decide) (by decide) (by decide) ?_
  show mW _ _ _ _ 77 _ _ _ (.ref 76 :: _)
  refine m_putfieldF dX8_init_75 fl_X8_39 ⟨RX8, TX8, 29, rfl, rfl⟩ (by first | exact va_up_self _ _ _ | rfl | exact h1) hin (fun _ => rfl) (fun _ => rfl) ?_
  try rw [va_uu]
  refine m_aload_n dX8_init_78 rfl ?_
  refine m_iconst (v := 5) dX8_init_79 (by decide) ?_
  refine m_newarray (ty := .long) (a0 := (5, .inr (.inl (fun _ => 0)))) (N := 5) dX8_init_80 rfl w_1_120 (fun _ _ => rfl) ⟨1, fun _ => rfl⟩ (fun _ q => by cases q) ⟨by decide, by decide⟩ (by decide) (by decide) (by decide) (by decide) ?_
  show mW _ _ _ _ 78 _ _ _ (.ref 77 :: _)
  refine m_putfieldF dX8_init_82 fl_X8_42 ⟨RX8, TX8, 29, rfl, rfl⟩ (by first | exact va_up_self _ _ _ | rfl | exact h1) hin (fun _ => rfl) (fun _ => rfl) ?_
  try rw [va_uu]
  refine m_aload_n dX8_init_85 rfl ?_
  refine m_iconst (v := 5) dX8_init_86 (by decide) ?_
  refine m_newarray (ty := .long) (a0 := (5, .inr (.inl (fun _ => 0)))) (N := 5) dX8_init_87 rfl w_1_120 (fun _ _ => rfl) ⟨1, fun _ => rfl⟩ (fun _ q => by cases q) ⟨by decide, by decide⟩ (by decide) (by decide) (by decide) (by decide) ?_
  show mW _ _ _ _ 79 _ _ _ (.ref 78 :: _)
  refine m_putfieldF dX8_init_89 fl_X8_45 ⟨RX8, TX8, 29, rfl, rfl⟩ (by first | exact va_up_self _ _ _ | rfl | exact h1) hin (fun _ => rfl) (fun _ => rfl) ?_
  try rw [va_uu]
  refine m_aload_n dX8_init_92 rfl ?_
  refine m_iconst (v := 5) dX8_init_93 (by decide) ?_
  refine m_newarray (ty := .long) (a0 := (5, .inr (.inl (fun _ => 0)))) (N := 5) dX8_init_94 rfl w_1_120 (fun _ _ => rfl) ⟨1, fun _ => rfl⟩ (fun _ q => by cases q) ⟨by decide, by decide⟩ (by decide) (by decide) (by decide) (by decide) ?_
  show mW _ _ _ _ 80 _ _ _ (.ref 79 :: _)
  refine m_putfieldF dX8_init_96 fl_X8_48 ⟨RX8, TX8, 29, rfl, rfl⟩ (by first | exact va_up_self _ _ _ | rfl | exact h1) hin (fun _ => rfl) (fun _ => rfl) ?_
  try rw [va_uu]
  refine m_aload_n dX8_init_99 rfl ?_
  refine m_bipush (v := 40) dX8_init_100 (by decide) ?_
  refine m_newarray (ty := .long) (a0 := (40, .inr (.inl (fun _ => 0)))) (N := 40) dX8_init_102 rfl w_1_120 (fun _ _ => rfl) ⟨1, fun _ => rfl⟩ (fun _ q => by cases q) ⟨by decide, by decide⟩ (by decide) (by decide) (by decide) (by decide) ?_
  show mW _ _ _ _ 81 _ _ _ (.ref 80 :: _)
  refine m_putfieldF dX8_init_104 fl_X8_51 ⟨RX8, TX8, 29, rfl, rfl⟩ (by first | exact va_up_self _ _ _ | rfl | exact h1) hin (fun _ => rfl) (fun _ => rfl) ?_
  try rw [va_uu]
  refine m_aload_n dX8_init_107 rfl ?_
  refine m_iconst (v := 5) dX8_init_108 (by decide) ?_
  refine m_newarray (ty := .long) (a0 := (5, .inr (.inl (fun _ => 0)))) (N := 5) dX8_init_109 rfl w_1_120 (fun _ _ => rfl) ⟨1, fun _ => rfl⟩ (fun _ q => by cases q) ⟨by decide, by decide⟩ (by decide) (by decide) (by decide) (by decide) ?_
  show mW _ _ _ _ 82 _ _ _ (.ref 81 :: _)
  refine m_putfieldF dX8_init_111 fl_X8_54 ⟨RX8, TX8, 29, rfl, rfl⟩ (by first | exact va_up_self _ _ _ | rfl | exact h1) hin (fun _ => rfl) (fun _ => rfl) ?_
  try rw [va_uu]
  refine m_aload_n dX8_init_114 rfl ?_
  refine m_sipush (v := 801) dX8_init_115 (by decide) ?_
  refine m_newarray (ty := .int) (a0 := (801, .inl (fun _ => 0))) (N := 801) dX8_init_118 rfl w_1_42 (fun _ _ => rfl) ⟨0, fun _ => rfl⟩ (fun _ q => by cases q) ⟨by decide, by decide⟩ (by decide) (by decide) (by decide) (by decide) ?_
  show mW _ _ _ _ 83 _ _ _ (.ref 82 :: _)
  refine m_putfieldF dX8_init_120 fl_X8_57 ⟨RX8, TX8, 29, rfl, rfl⟩ (by first | exact va_up_self _ _ _ | rfl | exact h1) hin (fun _ => rfl) (fun _ => rfl) ?_
  try rw [va_uu]
  refine m_aload_n dX8_init_123 rfl ?_
  refine m_sipush (v := 801) dX8_init_124 (by decide) ?_
  refine m_newarray (ty := .int) (a0 := (801, .inl (fun _ => 0))) (N := 801) dX8_init_127 rfl w_1_42 (fun _ _ => rfl) ⟨0, fun _ => rfl⟩ (fun _ q => by cases q) ⟨by decide, by decide⟩ (by decide) (by decide) (by decide) (by decide) ?_
  show mW _ _ _ _ 84 _ _ _ (.ref 83 :: _)
  refine m_putfieldF dX8_init_129 fl_X8_60 ⟨RX8, TX8, 29, rfl, rfl⟩ (by first | exact va_up_self _ _ _ | rfl | exact h1) hin (fun _ => rfl) (fun _ => rfl) ?_
  try rw [va_uu]
  refine m_aload_n dX8_init_132 rfl ?_
  refine m_bipush (v := 10) dX8_init_133 (by decide) ?_
  refine m_newarray (ty := .int) (a0 := (10, .inl (fun _ => 0))) (N := 10) dX8_init_135 rfl w_1_42 (fun _ _ => rfl) ⟨0, fun _ => rfl⟩ (fun _ q => by cases q) ⟨by decide, by decide⟩ (by decide) (by decide) (by decide) (by decide) ?_
  show mW _ _ _ _ 85 _ _ _ (.ref 84 :: _)
  refine m_putfieldF dX8_init_137 fl_X8_63 ⟨RX8, TX8, 29, rfl, rfl⟩ (by first | exact va_up_self _ _ _ | rfl | exact h1) hin (fun _ => rfl) (fun _ => rfl) ?_
  try rw [va_uu]
  refine m_aload_n dX8_init_140 rfl ?_
  refine m_getfield dX8_init_141 fl_X8_7 (by first | exact va_up_self _ _ _ | rfl | exact h1) (by first | exact va_up_self _ _ _ | rfl | exact h1) ?_
  show mW _ _ _ _ _ _ _ _ (.ref _ :: _)
  refine m_iconst (v := 0) dX8_init_144 (by decide) ?_
  refine m_iconst (v := 1) dX8_init_145 (by decide) ?_
  refine m_iastore (k := 0) dX8_init_146 (by first | exact va_up_self _ _ _ | rfl | exact h1) ⟨by decide, by decide⟩ ?_
  try rw [va_uu]
  refine m_aload_n dX8_init_147 rfl ?_
  refine m_getfield dX8_init_148 fl_X8_7 (by first | exact va_up_self _ _ _ | rfl | exact h1) (by first | exact va_up_self _ _ _ | rfl | exact h1) ?_
  show mW _ _ _ _ _ _ _ _ (.ref _ :: _)
  refine m_iconst (v := 1) dX8_init_151 (by decide) ?_
  refine m_iconst (v := 1) dX8_init_152 (by decide) ?_
  refine m_iastore (k := 1) dX8_init_153 (by first | exact va_up_self _ _ _ | rfl | exact h1) ⟨by decide, by decide⟩ ?_
  try rw [va_uu]
  refine m_aload_n dX8_init_154 rfl ?_
  refine m_getfield dX8_init_155 fl_X8_7 (by first | exact va_up_self _ _ _ | rfl | exact h1) (by first | exact va_up_self _ _ _ | rfl | exact h1) ?_
  show mW _ _ _ _ _ _ _ _ (.ref _ :: _)
  refine m_iconst (v := 5) dX8_init_158 (by decide) ?_
  refine m_iconst (v := 1) dX8_init_159 (by decide) ?_
  refine m_iastore (k := 5) dX8_init_160 (by first | exact va_up_self _ _ _ | rfl | exact h1) ⟨by decide, by decide⟩ ?_
  try rw [va_uu]
  refine m_aload_n dX8_init_161 rfl ?_
  refine m_getfield dX8_init_162 fl_X8_7 (by first | exact va_up_self _ _ _ | rfl | exact h1) (by first | exact va_up_self _ _ _ | rfl | exact h1) ?_
  show mW _ _ _ _ _ _ _ _ (.ref _ :: _)
  refine m_bipush (v := 11) dX8_init_165 (by decide) ?_
  refine m_iconst (v := 1) dX8_init_167 (by decide) ?_
  refine m_iastore (k := 11) dX8_init_168 (by first | exact va_up_self _ _ _ | rfl | exact h1) ⟨by decide, by decide⟩ ?_
  try rw [va_uu]
  refine m_iconst (v := 0) dX8_init_169 (by decide) ?_
  refine m_istore_n dX8_init_170 (by decide) ?_
  show mW _ _ _ _ _ _ 171 [_, _] _
  refine m_iload_n dX8_init_171 rfl ?_
  refine m_iconst (v := 4) dX8_init_172 (by decide) ?_
  refine m_icmp_ge (t := 190) dX8_init_173 (by decide) (fun q => absurd q (by decide)) (fun _ => ?_)
  refine m_aload_n dX8_init_176 rfl ?_
  refine m_getfield dX8_init_177 fl_X8_29 (by first | exact va_up_self _ _ _ | rfl | exact h1) (by first | exact va_up_self _ _ _ | rfl | exact h1) ?_
  show mW _ _ _ _ _ _ _ _ (.ref _ :: _)
  refine m_iload_n dX8_init_180 rfl ?_
  refine m_bipush (v := -4) dX8_init_181 (by decide) ?_
  refine m_iastore (k := 0) dX8_init_183 (by first | exact va_up_self _ _ _ | rfl | exact h1) ⟨by decide, by decide⟩ ?_
  try rw [va_uu]
  refine m_iinc (v := 1) dX8_init_184 rfl (by decide) (by decide) ?_
  show mW _ _ _ _ _ _ 187 [_, _] _
  refine m_goto (t := 171) dX8_init_187 (by decide) ?_
  refine m_iload_n dX8_init_171 rfl ?_
  refine m_iconst (v := 4) dX8_init_172 (by decide) ?_
  refine m_icmp_ge (t := 190) dX8_init_173 (by decide) (fun q => absurd q (by decide)) (fun _ => ?_)
  refine m_aload_n dX8_init_176 rfl ?_
  refine m_getfield dX8_init_177 fl_X8_29 (by first | exact va_up_self _ _ _ | rfl | exact h1) (by first | exact va_up_self _ _ _ | rfl | exact h1) ?_
  show mW _ _ _ _ _ _ _ _ (.ref _ :: _)
  refine m_iload_n dX8_init_180 rfl ?_
  refine m_bipush (v := -4) dX8_init_181 (by decide) ?_
  refine m_iastore (k := 1) dX8_init_183 (by first | exact va_up_self _ _ _ | rfl | exact h1) ⟨by decide, by decide⟩ ?_
  try rw [va_uu]
  refine m_iinc (v := 2) dX8_init_184 rfl (by decide) (by decide) ?_
  show mW _ _ _ _ _ _ 187 [_, _] _
  refine m_goto (t := 171) dX8_init_187 (by decide) ?_
  refine m_iload_n dX8_init_171 rfl ?_
  refine m_iconst (v := 4) dX8_init_172 (by decide) ?_
  refine m_icmp_ge (t := 190) dX8_init_173 (by decide) (fun q => absurd q (by decide)) (fun _ => ?_)
  refine m_aload_n dX8_init_176 rfl ?_
  refine m_getfield dX8_init_177 fl_X8_29 (by first | exact va_up_self _ _ _ | rfl | exact h1) (by first | exact va_up_self _ _ _ | rfl | exact h1) ?_
  show mW _ _ _ _ _ _ _ _ (.ref _ :: _)
  refine m_iload_n dX8_init_180 rfl ?_
  refine m_bipush (v := -4) dX8_init_181 (by decide) ?_
  refine m_iastore (k := 2) dX8_init_183 (by first | exact va_up_self _ _ _ | rfl | exact h1) ⟨by decide, by decide⟩ ?_
  try rw [va_uu]
  refine m_iinc (v := 3) dX8_init_184 rfl (by decide) (by decide) ?_
  show mW _ _ _ _ _ _ 187 [_, _] _
  refine m_goto (t := 171) dX8_init_187 (by decide) ?_
  refine m_iload_n dX8_init_171 rfl ?_
  refine m_iconst (v := 4) dX8_init_172 (by decide) ?_
  refine m_icmp_ge (t := 190) dX8_init_173 (by decide) (fun q => absurd q (by decide)) (fun _ => ?_)
  refine m_aload_n dX8_init_176 rfl ?_
  refine m_getfield dX8_init_177 fl_X8_29 (by first | exact va_up_self _ _ _ | rfl | exact h1) (by first | exact va_up_self _ _ _ | rfl | exact h1) ?_
  show mW _ _ _ _ _ _ _ _ (.ref _ :: _)
  refine m_iload_n dX8_init_180 rfl ?_
  refine m_bipush (v := -4) dX8_init_181 (by decide) ?_
  refine m_iastore (k := 3) dX8_init_183 (by first | exact va_up_self _ _ _ | rfl | exact h1) ⟨by decide, by decide⟩ ?_
  try rw [va_uu]
  refine m_iinc (v := 4) dX8_init_184 rfl (by decide) (by decide) ?_
  show mW _ _ _ _ _ _ 187 [_, _] _
  refine m_goto (t := 171) dX8_init_187 (by decide) ?_
  refine m_iload_n dX8_init_171 rfl ?_
  refine m_iconst (v := 4) dX8_init_172 (by decide) ?_
  refine m_icmp_ge (t := 190) dX8_init_173 (by decide) (fun _ => ?_) (fun q => absurd (by decide) q)
  exact m_return hF dX8_init_190 rfl rfl rfl ⟨rfl, ⟨⟨0, 0, 0, 0, 0, 0, 0, 0, 0, cM0, (fun _ => 0), congrArg (eO 8) iX8_fin, rfl, rfl, by decide, cM0_eq, fun j hj => absurd hj (Nat.not_lt_zero _)⟩, ⟨(fun _ => 0), (fun _ => 0), rfl, rfl, Or.inl (by decide)⟩, ⟨by decide, (fun _ => 0), rfl, fun t ht => absurd ht (Nat.not_lt_zero _)⟩, ⟨lM0, (fun _ => 0), (fun _ => 0), rfl, rfl, rfl, lM0_ok⟩, ⟨(fun _ => 0), (fun _ => 0), (fun _ => 0), (fun _ => 0), rfl, rfl, rfl, rfl⟩, ⟨(fun _ => 0), (fun _ => 0), rfl, rfl⟩, ⟨(fun _ => 0), (fun _ => 0), rfl, rfl⟩, ⟨(fun _ => 0), rfl⟩⟩, fun q hq => by repeat rw [va_up_ne _ _ (by omega)]⟩

