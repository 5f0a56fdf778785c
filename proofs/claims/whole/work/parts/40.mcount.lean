/-! ===== the reference: how it counts ===== -/
def snM (v : Int64) : Int32 := if v ≤ 0 then (if 0 ≤ v then 0 else -1) else 1
abbrev T3 : Type := Int32 × Int32 × Int32
def sqM (s : Int32) (t : T3) : T3 := if 0 ≤ s then (t.1 + 1, t.2.1 + 0, t.2.2 + 1) else (t.1 + 0, t.2.1 + 2, t.2.2 + 0)
def twM (a b c : Int64) (t : T3) : T3 := if a = 0 then (t.1 + (if 0 ≤ snM b * snM c then 0 else 1), t.2.1 + 0, t.2.2 + (if snM b * snM c ≤ 0 then 0 else 1)) else if 0 ≤ snM a * snM c then (t.1 + (if 0 ≤ snM a * snM b then 0 else 2), t.2.1 + 0, t.2.2 + (if snM a * snM b ≤ 0 then 0 else 2)) else (t.1 + 1, t.2.1 + 0, t.2.2 + 1)
def sqsM (a b c : Int64) (t : T3) : T3 := if a = 0 then (if b = 0 then t else sqM (-snM b * snM c) t) else if 0 ≤ b * b - 4 * a * c then (if 0 ≤ snM a * snM c then sqM (-snM b * snM a) (sqM (-snM b * snM a) t) else sqM 1 (sqM (-1) t)) else (t.1 + 2, t.2.1 + 0, t.2.2 + 2)
def paM (s : Int32) (t : Int32 × Int32) : Int32 × Int32 := (t.1 + (if s = t.2 then 0 else 1), s)
def thM (a b c d : Int64) : Int32 × Int32 := paM (snM d) (paM (if b = 0 then -snM d else snM (b * c - a * d) * snM b) (paM (if b = 0 then 1 else snM b) (0, 1)))
set_option maxHeartbeats 400000 in
set_option maxRecDepth 100000 in
theorem t_X8_sign {n : Nat} {hp : mHp} {v : Int64} : mC D_X8_sign [.long v] n hp (rI (snM v) hp) := by
  refine m_enter rfl rfl (Nat.le_of_ble_eq_true rfl) (fun K hF => ?_)
  show mW K _ 0 0 _ _ 0 [.long v, .retAddr 0] []
  refine m_lload_n dX8_sign_0 rfl ?_
  refine m_lconst (v := 0) dX8_sign_1 (by decide) ?_
  refine m_lc_le (t := 10) dX8_sign_2 dX8_sign_3 (by decide) (fun c2 => ?_) (fun c2 => ?_)
  rotate_left
  · refine m_iconst (v := 1) dX8_sign_6 (by decide) ?_
    refine m_goto (t := 21) dX8_sign_7 (by decide) ?_
    exact m_ireturn hF dX8_sign_21 rfl rfl rfl ⟨by unfold snM; simp only [if_neg c2], rfl⟩
  refine m_lload_n dX8_sign_10 rfl ?_
  refine m_lconst (v := 0) dX8_sign_11 (by decide) ?_
  refine m_lc_ge (t := 20) dX8_sign_12 dX8_sign_13 (by decide) (fun c12 => ?_) (fun c12 => ?_)
  · refine m_iconst (v := 0) dX8_sign_20 (by decide) ?_
    exact m_ireturn hF dX8_sign_21 rfl rfl rfl ⟨by unfold snM; simp only [if_pos c2, if_pos c12], rfl⟩
  refine m_iconst (v := -1) dX8_sign_16 (by decide) ?_
  refine m_goto (t := 21) dX8_sign_17 (by decide) ?_
  exact m_ireturn hF dX8_sign_21 rfl rfl rfl ⟨by unfold snM; simp only [if_pos c2, if_neg c12], rfl⟩

set_option maxHeartbeats 400000 in
set_option maxRecDepth 100000 in
theorem t_X8_more {n : Nat} {hp : mHp} {r e l : Int32} {ac ia tm ri ev le ch ls rm sm ra fa : Int32} (h1 : hp 67 = eO 8 (oMod ac ia tm ri ev le ch ls rm sm ra fa)) : mC D_X8_more [.ref 67, .int r, .int e, .int l] n hp (rV (va_up hp 67 (eO 8 (oMod ac ia tm (ri + r) (ev + e) (le + l) ch ls rm sm ra fa)))) := by
  refine m_enter rfl rfl (Nat.le_of_ble_eq_true rfl) (fun K hF => ?_)
  show mW K _ 0 0 _ _ 0 [.ref 67, .int r, .int e, .int l] []
  refine m_aload_n dX8_more_0 rfl ?_
  refine m_dup dX8_more_1 rfl ?_
  refine m_getfield dX8_more_2 fl_X8_75 (by first | assumption | rfl | exact va_up_self _ _ _) (by first | assumption | rfl | exact va_up_self _ _ _) ?_
  show mW _ _ _ _ _ _ _ _ (.int _ :: _)
  refine m_iload_n dX8_more_5 rfl ?_
  refine m_iadd dX8_more_6 ?_
  refine m_putfield dX8_more_7 fl_X8_75 (by first | assumption | rfl | exact va_up_self _ _ _) (fun _ => rfl) (fun _ => rfl) ?_
  try rw [va_uu]
  rw [oMod_12]
  refine m_aload_n dX8_more_10 rfl ?_
  refine m_dup dX8_more_11 rfl ?_
  refine m_getfield dX8_more_12 fl_X8_78 (by first | assumption | rfl | exact va_up_self _ _ _) (by first | assumption | rfl | exact va_up_self _ _ _) ?_
  show mW _ _ _ _ _ _ _ _ (.int _ :: _)
  refine m_iload_n dX8_more_15 rfl ?_
  refine m_iadd dX8_more_16 ?_
  refine m_putfield dX8_more_17 fl_X8_78 (by first | assumption | rfl | exact va_up_self _ _ _) (fun _ => rfl) (fun _ => rfl) ?_
  try rw [va_uu]
  rw [oMod_13]
  refine m_aload_n dX8_more_20 rfl ?_
  refine m_dup dX8_more_21 rfl ?_
  refine m_getfield dX8_more_22 fl_X8_81 (by first | assumption | rfl | exact va_up_self _ _ _) (by first | assumption | rfl | exact va_up_self _ _ _) ?_
  show mW _ _ _ _ _ _ _ _ (.int _ :: _)
  refine m_iload_n dX8_more_25 rfl ?_
  refine m_iadd dX8_more_26 ?_
  refine m_putfield dX8_more_27 fl_X8_81 (by first | assumption | rfl | exact va_up_self _ _ _) (fun _ => rfl) (fun _ => rfl) ?_
  try rw [va_uu]
  rw [oMod_14]
  exact m_return hF dX8_more_30 rfl rfl rfl ⟨rfl, rfl⟩

set_option maxHeartbeats 400000 in
set_option maxRecDepth 100000 in
theorem t_X8_square {n : Nat} {hp : mHp} {s : Int32} {ac ia tm ri ev le ch ls rm sm ra fa : Int32} (h1 : hp 67 = eO 8 (oMod ac ia tm ri ev le ch ls rm sm ra fa)) : mC D_X8_square [.ref 67, .int s] n hp (rV (va_up hp 67 (eO 8 (oMod ac ia tm (sqM s (ri, ev, le)).1 (sqM s (ri, ev, le)).2.1 (sqM s (ri, ev, le)).2.2 ch ls rm sm ra fa)))) := by
  refine m_enter rfl rfl (Nat.le_of_ble_eq_true rfl) (fun K hF => ?_)
  show mW K _ 0 0 _ _ 0 [.ref 67, .int s] []
  refine m_iload_n dX8_square_0 rfl ?_
  refine m_if_ge (t := 14) dX8_square_1 (by decide) (fun c1 => ?_) (fun c1 => ?_)
  · refine m_aload_n dX8_square_14 rfl ?_
    refine m_iconst (v := 1) dX8_square_15 (by decide) ?_
    refine m_iconst (v := 0) dX8_square_16 (by decide) ?_
    refine m_iconst (v := 1) dX8_square_17 (by decide) ?_
    refine m_invV_V dX8_square_18 lk_X8_84 ar_X8_more (ci := 8) rfl rfl (by first | assumption | rfl | exact va_up_self _ _ _) (t_X8_more (by first | assumption | exact va_up_self _ _ _)) rfl (Nat.le_of_ble_eq_true rfl) (by decide) (by decide) (by decide) (by decide) rfl rfl ?_
    try rw [va_uu]
    exact m_return hF dX8_square_21 rfl rfl rfl ⟨rfl, by unfold sqM; rw [if_pos c1]⟩
  refine m_aload_n dX8_square_4 rfl ?_
  refine m_iconst (v := 0) dX8_square_5 (by decide) ?_
  refine m_iconst (v := 2) dX8_square_6 (by decide) ?_
  refine m_iconst (v := 0) dX8_square_7 (by decide) ?_
  refine m_invV_V dX8_square_8 lk_X8_84 ar_X8_more (ci := 8) rfl rfl (by first | assumption | rfl | exact va_up_self _ _ _) (t_X8_more (by first | assumption | exact va_up_self _ _ _)) rfl (Nat.le_of_ble_eq_true rfl) (by decide) (by decide) (by decide) (by decide) rfl rfl ?_
  try rw [va_uu]
  refine m_goto (t := 21) dX8_square_11 (by decide) ?_
  exact m_return hF dX8_square_21 rfl rfl rfl ⟨rfl, by unfold sqM; rw [if_neg c1]⟩

set_option maxHeartbeats 400000 in
set_option maxRecDepth 100000 in
theorem t_X8_two {n : Nat} {hp : mHp} {a b c : Int64} {ac ia tm ri ev le ch ls rm sm ra fa : Int32} (h1 : hp 67 = eO 8 (oMod ac ia tm ri ev le ch ls rm sm ra fa)) : mC D_X8_two [.ref 67, .long a, .long b, .long c] n hp (rV (va_up hp 67 (eO 8 (oMod ac ia tm (twM a b c (ri, ev, le)).1 (twM a b c (ri, ev, le)).2.1 (twM a b c (ri, ev, le)).2.2 ch ls rm sm ra fa)))) := by
  refine m_enter rfl rfl (Nat.le_of_ble_eq_true rfl) (fun K hF => ?_)
  show mW K _ 0 0 _ _ 0 [.ref 67, .long a, .retAddr 0, .long b, .retAddr 0, .long c, .retAddr 0, .retAddr 0] []
  refine m_lload_n dX8_two_0 rfl ?_
  refine m_lconst (v := 0) dX8_two_1 (by decide) ?_
  refine m_lc_ne (t := 46) dX8_two_2 dX8_two_3 (by decide) (fun c2 => ?_) (fun c2 => ?_)
  rotate_left
  · refine m_lload_n dX8_two_6 rfl ?_
    refine m_invS_I dX8_two_7 lk_X8_88 ar_X8_sign (t_X8_sign) rfl (Nat.le_of_ble_eq_true rfl) (by decide) (by decide) (by decide) (by decide) rfl rfl ?_
    try rw [va_uu]
    refine m_lload dX8_two_10 rfl ?_
    refine m_invS_I dX8_two_12 lk_X8_88 ar_X8_sign (t_X8_sign) rfl (Nat.le_of_ble_eq_true rfl) (by decide) (by decide) (by decide) (by decide) rfl rfl ?_
    try rw [va_uu]
    refine m_imul dX8_two_15 ?_
    refine m_istore dX8_two_16 (by decide) ?_
    show mW _ _ _ _ _ _ 18 [_, _, _, _, _, _, _, _] _
    refine m_aload_n dX8_two_18 rfl ?_
    refine m_iload dX8_two_19 rfl ?_
    refine m_tern_I (J := 29) (x := 0) (y := 1) (m_if_ge (t := 28) dX8_two_21 (by decide)) (fun k9 => ?_) (fun k9 => ?_) ?_
    · refine m_iconst (v := 0) dX8_two_28 (by decide) ?_
      exact k9
    · refine m_iconst (v := 1) dX8_two_24 (by decide) ?_
      refine m_goto (t := 29) dX8_two_25 (by decide) ?_
      exact k9
    refine m_iconst (v := 0) dX8_two_29 (by decide) ?_
    refine m_iload dX8_two_30 rfl ?_
    refine m_tern_I (J := 40) (x := 0) (y := 1) (m_if_le (t := 39) dX8_two_32 (by decide)) (fun k9 => ?_) (fun k9 => ?_) ?_
    · refine m_iconst (v := 0) dX8_two_39 (by decide) ?_
      exact k9
    · refine m_iconst (v := 1) dX8_two_35 (by decide) ?_
      refine m_goto (t := 40) dX8_two_36 (by decide) ?_
      exact k9
    refine m_invV_V dX8_two_40 lk_X8_84 ar_X8_more (ci := 8) rfl rfl (by first | assumption | rfl | exact va_up_self _ _ _) (t_X8_more (by first | assumption | exact va_up_self _ _ _)) rfl (Nat.le_of_ble_eq_true rfl) (by decide) (by decide) (by decide) (by decide) rfl rfl ?_
    try rw [va_uu]
    refine m_goto (t := 105) dX8_two_43 (by decide) ?_
    exact m_return hF dX8_two_105 rfl rfl rfl ⟨rfl, by unfold twM; rw [if_pos c2]⟩
  refine m_lload_n dX8_two_46 rfl ?_
  refine m_invS_I dX8_two_47 lk_X8_88 ar_X8_sign (t_X8_sign) rfl (Nat.le_of_ble_eq_true rfl) (by decide) (by decide) (by decide) (by decide) rfl rfl ?_
  try rw [va_uu]
  refine m_lload dX8_two_50 rfl ?_
  refine m_invS_I dX8_two_52 lk_X8_88 ar_X8_sign (t_X8_sign) rfl (Nat.le_of_ble_eq_true rfl) (by decide) (by decide) (by decide) (by decide) rfl rfl ?_
  try rw [va_uu]
  refine m_imul dX8_two_55 ?_
  refine m_if_ge (t := 69) dX8_two_56 (by decide) (fun c56 => ?_) (fun c56 => ?_)
  rotate_left
  · refine m_aload_n dX8_two_59 rfl ?_
    refine m_iconst (v := 1) dX8_two_60 (by decide) ?_
    refine m_iconst (v := 0) dX8_two_61 (by decide) ?_
    refine m_iconst (v := 1) dX8_two_62 (by decide) ?_
    refine m_invV_V dX8_two_63 lk_X8_84 ar_X8_more (ci := 8) rfl rfl (by first | assumption | rfl | exact va_up_self _ _ _) (t_X8_more (by first | assumption | exact va_up_self _ _ _)) rfl (Nat.le_of_ble_eq_true rfl) (by decide) (by decide) (by decide) (by decide) rfl rfl ?_
    try rw [va_uu]
    refine m_goto (t := 105) dX8_two_66 (by decide) ?_
    exact m_return hF dX8_two_105 rfl rfl rfl ⟨rfl, by unfold twM; rw [if_neg c2, if_neg c56]⟩
  refine m_lload_n dX8_two_69 rfl ?_
  refine m_invS_I dX8_two_70 lk_X8_88 ar_X8_sign (t_X8_sign) rfl (Nat.le_of_ble_eq_true rfl) (by decide) (by decide) (by decide) (by decide) rfl rfl ?_
  try rw [va_uu]
  refine m_lload_n dX8_two_73 rfl ?_
  refine m_invS_I dX8_two_74 lk_X8_88 ar_X8_sign (t_X8_sign) rfl (Nat.le_of_ble_eq_true rfl) (by decide) (by decide) (by decide) (by decide) rfl rfl ?_
  try rw [va_uu]
  refine m_imul dX8_two_77 ?_
  refine m_istore dX8_two_78 (by decide) ?_
  show mW _ _ _ _ _ _ 80 [_, _, _, _, _, _, _, _] _
  refine m_aload_n dX8_two_80 rfl ?_
  refine m_iload dX8_two_81 rfl ?_
  refine m_tern_I (J := 91) (x := 0) (y := 2) (m_if_ge (t := 90) dX8_two_83 (by decide)) (fun k9 => ?_) (fun k9 => ?_) ?_
  · refine m_iconst (v := 0) dX8_two_90 (by decide) ?_
    exact k9
  · refine m_iconst (v := 2) dX8_two_86 (by decide) ?_
    refine m_goto (t := 91) dX8_two_87 (by decide) ?_
    exact k9
  refine m_iconst (v := 0) dX8_two_91 (by decide) ?_
  refine m_iload dX8_two_92 rfl ?_
  refine m_tern_I (J := 102) (x := 0) (y := 2) (m_if_le (t := 101) dX8_two_94 (by decide)) (fun k9 => ?_) (fun k9 => ?_) ?_
  · refine m_iconst (v := 0) dX8_two_101 (by decide) ?_
    exact k9
  · refine m_iconst (v := 2) dX8_two_97 (by decide) ?_
    refine m_goto (t := 102) dX8_two_98 (by decide) ?_
    exact k9
  refine m_invV_V dX8_two_102 lk_X8_84 ar_X8_more (ci := 8) rfl rfl (by first | assumption | rfl | exact va_up_self _ _ _) (t_X8_more (by first | assumption | exact va_up_self _ _ _)) rfl (Nat.le_of_ble_eq_true rfl) (by decide) (by decide) (by decide) (by decide) rfl rfl ?_
  try rw [va_uu]
  exact m_return hF dX8_two_105 rfl rfl rfl ⟨rfl, by unfold twM; rw [if_neg c2, if_pos c56]⟩

set_option maxHeartbeats 400000 in
set_option maxRecDepth 100000 in
theorem t_X8_squares {n : Nat} {hp : mHp} {a b c : Int64} {ac ia tm ri ev le ch ls rm sm ra fa : Int32} (h1 : hp 67 = eO 8 (oMod ac ia tm ri ev le ch ls rm sm ra fa)) : mC D_X8_squares [.ref 67, .long a, .long b, .long c] n hp (rV (va_up hp 67 (eO 8 (oMod ac ia tm (sqsM a b c (ri, ev, le)).1 (sqsM a b c (ri, ev, le)).2.1 (sqsM a b c (ri, ev, le)).2.2 ch ls rm sm ra fa)))) := by
  refine m_enter rfl rfl (Nat.le_of_ble_eq_true rfl) (fun K hF => ?_)
  show mW K _ 0 0 _ _ 0 [.ref 67, .long a, .retAddr 0, .long b, .retAddr 0, .long c, .retAddr 0, .retAddr 0, .retAddr 0] []
  refine m_lload_n dX8_squares_0 rfl ?_
  refine m_lconst (v := 0) dX8_squares_1 (by decide) ?_
  refine m_lc_ne (t := 28) dX8_squares_2 dX8_squares_3 (by decide) (fun c2 => ?_) (fun c2 => ?_)
  rotate_left
  · refine m_lload_n dX8_squares_6 rfl ?_
    refine m_lconst (v := 0) dX8_squares_7 (by decide) ?_
    refine m_lc_eq (t := 27) dX8_squares_8 dX8_squares_9 (by decide) (fun c8 => ?_) (fun c8 => ?_)
    · exact m_return hF dX8_squares_27 rfl rfl rfl ⟨rfl, by unfold sqsM; rw [if_pos c2, if_pos c8]; exact (va_uid hp h1).symm⟩
    refine m_aload_n dX8_squares_12 rfl ?_
    refine m_lload_n dX8_squares_13 rfl ?_
    refine m_invS_I dX8_squares_14 lk_X8_88 ar_X8_sign (t_X8_sign) rfl (Nat.le_of_ble_eq_true rfl) (by decide) (by decide) (by decide) (by decide) rfl rfl ?_
    try rw [va_uu]
    refine m_ineg dX8_squares_17 ?_
    refine m_lload dX8_squares_18 rfl ?_
    refine m_invS_I dX8_squares_20 lk_X8_88 ar_X8_sign (t_X8_sign) rfl (Nat.le_of_ble_eq_true rfl) (by decide) (by decide) (by decide) (by decide) rfl rfl ?_
    try rw [va_uu]
    refine m_imul dX8_squares_23 ?_
    refine m_invV_V dX8_squares_24 lk_X8_92 ar_X8_square (ci := 8) rfl rfl (by first | assumption | rfl | exact va_up_self _ _ _) (t_X8_square (by first | assumption | exact va_up_self _ _ _)) rfl (Nat.le_of_ble_eq_true rfl) (by decide) (by decide) (by decide) (by decide) rfl rfl ?_
    try rw [va_uu]
    exact m_return hF dX8_squares_27 rfl rfl rfl ⟨rfl, by unfold sqsM; rw [if_pos c2, if_neg c8]⟩
  refine m_lload_n dX8_squares_28 rfl ?_
  refine m_lload_n dX8_squares_29 rfl ?_
  refine m_lmul dX8_squares_30 ?_
  refine m_ldc2 dX8_squares_31 cl_X8_96 ?_
  refine m_lload_n dX8_squares_34 rfl ?_
  refine m_lmul dX8_squares_35 ?_
  refine m_lload dX8_squares_36 rfl ?_
  refine m_lmul dX8_squares_38 ?_
  refine m_lsub dX8_squares_39 ?_
  refine m_lstore dX8_squares_40 (by decide) ?_
  show mW _ _ _ _ _ _ 42 [_, _, _, _, _, _, _, _, _] _
  refine m_lload dX8_squares_42 rfl ?_
  refine m_lconst (v := 0) dX8_squares_44 (by decide) ?_
  refine m_lc_ge (t := 59) dX8_squares_45 dX8_squares_46 (by decide) (fun c45 => ?_) (fun c45 => ?_)
  rotate_left
  · refine m_aload_n dX8_squares_49 rfl ?_
    refine m_iconst (v := 2) dX8_squares_50 (by decide) ?_
    refine m_iconst (v := 0) dX8_squares_51 (by decide) ?_
    refine m_iconst (v := 2) dX8_squares_52 (by decide) ?_
    refine m_invV_V dX8_squares_53 lk_X8_84 ar_X8_more (ci := 8) rfl rfl (by first | assumption | rfl | exact va_up_self _ _ _) (t_X8_more (by first | assumption | exact va_up_self _ _ _)) rfl (Nat.le_of_ble_eq_true rfl) (by decide) (by decide) (by decide) (by decide) rfl rfl ?_
    try rw [va_uu]
    refine m_goto (t := 113) dX8_squares_56 (by decide) ?_
    exact m_return hF dX8_squares_113 rfl rfl rfl ⟨rfl, by unfold sqsM; rw [if_neg c2, if_neg c45]⟩
  refine m_lload_n dX8_squares_59 rfl ?_
  refine m_invS_I dX8_squares_60 lk_X8_88 ar_X8_sign (t_X8_sign) rfl (Nat.le_of_ble_eq_true rfl) (by decide) (by decide) (by decide) (by decide) rfl rfl ?_
  try rw [va_uu]
  refine m_lload dX8_squares_63 rfl ?_
  refine m_invS_I dX8_squares_65 lk_X8_88 ar_X8_sign (t_X8_sign) rfl (Nat.le_of_ble_eq_true rfl) (by decide) (by decide) (by decide) (by decide) rfl rfl ?_
  try rw [va_uu]
  refine m_imul dX8_squares_68 ?_
  refine m_if_ge (t := 85) dX8_squares_69 (by decide) (fun c69 => ?_) (fun c69 => ?_)
  rotate_left
  · refine m_aload_n dX8_squares_72 rfl ?_
    refine m_iconst (v := -1) dX8_squares_73 (by decide) ?_
    refine m_invV_V dX8_squares_74 lk_X8_92 ar_X8_square (ci := 8) rfl rfl (by first | assumption | rfl | exact va_up_self _ _ _) (t_X8_square (by first | assumption | exact va_up_self _ _ _)) rfl (Nat.le_of_ble_eq_true rfl) (by decide) (by decide) (by decide) (by decide) rfl rfl ?_
    try rw [va_uu]
    refine m_aload_n dX8_squares_77 rfl ?_
    refine m_iconst (v := 1) dX8_squares_78 (by decide) ?_
    refine m_invV_V dX8_squares_79 lk_X8_92 ar_X8_square (ci := 8) rfl rfl (by first | assumption | rfl | exact va_up_self _ _ _) (t_X8_square (by first | assumption | exact va_up_self _ _ _)) rfl (Nat.le_of_ble_eq_true rfl) (by decide) (by decide) (by decide) (by decide) rfl rfl ?_
    try rw [va_uu]
    refine m_goto (t := 113) dX8_squares_82 (by decide) ?_
    exact m_return hF dX8_squares_113 rfl rfl rfl ⟨rfl, by unfold sqsM; rw [if_neg c2, if_pos c45, if_neg c69]⟩
  refine m_aload_n dX8_squares_85 rfl ?_
  refine m_lload_n dX8_squares_86 rfl ?_
  refine m_invS_I dX8_squares_87 lk_X8_88 ar_X8_sign (t_X8_sign) rfl (Nat.le_of_ble_eq_true rfl) (by decide) (by decide) (by decide) (by decide) rfl rfl ?_
  try rw [va_uu]
  refine m_ineg dX8_squares_90 ?_
  refine m_lload_n dX8_squares_91 rfl ?_
  refine m_invS_I dX8_squares_92 lk_X8_88 ar_X8_sign (t_X8_sign) rfl (Nat.le_of_ble_eq_true rfl) (by decide) (by decide) (by decide) (by decide) rfl rfl ?_
  try rw [va_uu]
  refine m_imul dX8_squares_95 ?_
  refine m_invV_V dX8_squares_96 lk_X8_92 ar_X8_square (ci := 8) rfl rfl (by first | assumption | rfl | exact va_up_self _ _ _) (t_X8_square (by first | assumption | exact va_up_self _ _ _)) rfl (Nat.le_of_ble_eq_true rfl) (by decide) (by decide) (by decide) (by decide) rfl rfl ?_
  try rw [va_uu]
  refine m_aload_n dX8_squares_99 rfl ?_
  refine m_lload_n dX8_squares_100 rfl ?_
  refine m_invS_I dX8_squares_101 lk_X8_88 ar_X8_sign (t_X8_sign) rfl (Nat.le_of_ble_eq_true rfl) (by decide) (by decide) (by decide) (by decide) rfl rfl ?_
  try rw [va_uu]
  refine m_ineg dX8_squares_104 ?_
  refine m_lload_n dX8_squares_105 rfl ?_
  refine m_invS_I dX8_squares_106 lk_X8_88 ar_X8_sign (t_X8_sign) rfl (Nat.le_of_ble_eq_true rfl) (by decide) (by decide) (by decide) (by decide) rfl rfl ?_
  try rw [va_uu]
  refine m_imul dX8_squares_109 ?_
  refine m_invV_V dX8_squares_110 lk_X8_92 ar_X8_square (ci := 8) rfl rfl (by first | assumption | rfl | exact va_up_self _ _ _) (t_X8_square (by first | assumption | exact va_up_self _ _ _)) rfl (Nat.le_of_ble_eq_true rfl) (by decide) (by decide) (by decide) (by decide) rfl rfl ?_
  try rw [va_uu]
  exact m_return hF dX8_squares_113 rfl rfl rfl ⟨rfl, by unfold sqsM; rw [if_neg c2, if_pos c45, if_pos c69]⟩

set_option maxHeartbeats 400000 in
set_option maxRecDepth 100000 in
theorem t_X8_passes {n : Nat} {hp : mHp} {s : Int32} {ac ia tm ri ev le ch ls rm sm ra fa : Int32} (h1 : hp 67 = eO 8 (oMod ac ia tm ri ev le ch ls rm sm ra fa)) : mC D_X8_passes [.ref 67, .int s] n hp (rV (va_up hp 67 (eO 8 (oMod ac ia tm ri ev le (paM s (ch, ls)).1 (paM s (ch, ls)).2 rm sm ra fa)))) := by
  refine m_enter rfl rfl (Nat.le_of_ble_eq_true rfl) (fun K hF => ?_)
  show mW K _ 0 0 _ _ 0 [.ref 67, .int s] []
  refine m_aload_n dX8_passes_0 rfl ?_
  refine m_dup dX8_passes_1 rfl ?_
  refine m_getfield dX8_passes_2 fl_X8_98 (by first | assumption | rfl | exact va_up_self _ _ _) (by first | assumption | rfl | exact va_up_self _ _ _) ?_
  show mW _ _ _ _ _ _ _ _ (.int _ :: _)
  refine m_iload_n dX8_passes_5 rfl ?_
  refine m_aload_n dX8_passes_6 rfl ?_
  refine m_getfield dX8_passes_7 fl_X8_101 (by first | assumption | rfl | exact va_up_self _ _ _) (by first | assumption | rfl | exact va_up_self _ _ _) ?_
  show mW _ _ _ _ _ _ _ _ (.int _ :: _)
  refine m_tern_I (J := 18) (x := 0) (y := 1) (m_icmp_eq (t := 17) dX8_passes_10 (by decide)) (fun k9 => ?_) (fun k9 => ?_) ?_
  · refine m_iconst (v := 0) dX8_passes_17 (by decide) ?_
    exact k9
  · refine m_iconst (v := 1) dX8_passes_13 (by decide) ?_
    refine m_goto (t := 18) dX8_passes_14 (by decide) ?_
    exact k9
  refine m_iadd dX8_passes_18 ?_
  refine m_putfield dX8_passes_19 fl_X8_98 (by first | assumption | rfl | exact va_up_self _ _ _) (fun _ => rfl) (fun _ => rfl) ?_
  try rw [va_uu]
  rw [oMod_16]
  refine m_aload_n dX8_passes_22 rfl ?_
  refine m_iload_n dX8_passes_23 rfl ?_
  refine m_putfield dX8_passes_24 fl_X8_101 (by first | assumption | rfl | exact va_up_self _ _ _) (fun _ => rfl) (fun _ => rfl) ?_
  try rw [va_uu]
  rw [oMod_17]
  exact m_return hF dX8_passes_27 rfl rfl rfl ⟨rfl, rfl⟩

set_option maxHeartbeats 400000 in
set_option maxRecDepth 100000 in
theorem t_X8_three {n : Nat} {hp : mHp} {a b c d : Int64} {ac ia tm ri ev le ch ls rm sm ra fa : Int32} (h1 : hp 67 = eO 8 (oMod ac ia tm ri ev le ch ls rm sm ra fa)) : mC D_X8_three [.ref 67, .long a, .long b, .long c, .long d] n hp (rV (va_up hp 67 (eO 8 (oMod ac ia tm ri ev le (thM a b c d).1 (thM a b c d).2 rm sm ra fa)))) := by
  refine m_enter rfl rfl (Nat.le_of_ble_eq_true rfl) (fun K hF => ?_)
  show mW K _ 0 0 _ _ 0 [.ref 67, .long a, .retAddr 0, .long b, .retAddr 0, .long c, .retAddr 0, .long d, .retAddr 0, .retAddr 0, .retAddr 0] []
  refine m_aload_n dX8_three_0 rfl ?_
  refine m_iconst (v := 1) dX8_three_1 (by decide) ?_
  refine m_putfield dX8_three_2 fl_X8_101 (by first | assumption | rfl | exact va_up_self _ _ _) (fun _ => rfl) (fun _ => rfl) ?_
  try rw [va_uu]
  rw [oMod_17]
  refine m_aload_n dX8_three_5 rfl ?_
  refine m_iconst (v := 0) dX8_three_6 (by decide) ?_
  refine m_putfield dX8_three_7 fl_X8_98 (by first | assumption | rfl | exact va_up_self _ _ _) (fun _ => rfl) (fun _ => rfl) ?_
  try rw [va_uu]
  rw [oMod_16]
  refine m_lload_n dX8_three_10 rfl ?_
  refine m_lload dX8_three_11 rfl ?_
  refine m_lmul dX8_three_13 ?_
  refine m_lload_n dX8_three_14 rfl ?_
  refine m_lload dX8_three_15 rfl ?_
  refine m_lmul dX8_three_17 ?_
  refine m_lsub dX8_three_18 ?_
  refine m_lstore dX8_three_19 (by decide) ?_
  show mW _ _ _ _ _ _ 21 [_, _, _, _, _, _, _, _, _, _, _] _
  refine m_aload_n dX8_three_21 rfl ?_
  refine m_lload_n dX8_three_22 rfl ?_
  refine m_lconst (v := 0) dX8_three_23 (by decide) ?_
  refine m_ternN_I (J := 36) (x := snM b) (y := 1) (m_lc_ne (t := 32) dX8_three_24 dX8_three_25 (by decide)) (fun k9 => ?_) (fun k9 => ?_) ?_
  · refine m_lload_n dX8_three_32 rfl ?_
    refine m_invS_I dX8_three_33 lk_X8_88 ar_X8_sign (t_X8_sign) rfl (Nat.le_of_ble_eq_true rfl) (by decide) (by decide) (by decide) (by decide) rfl rfl ?_
    try rw [va_uu]
    exact k9
  · refine m_iconst (v := 1) dX8_three_28 (by decide) ?_
    refine m_goto (t := 36) dX8_three_29 (by decide) ?_
    exact k9
  refine m_invV_V dX8_three_36 lk_X8_104 ar_X8_passes (ci := 8) rfl rfl (by first | assumption | rfl | exact va_up_self _ _ _) (t_X8_passes (by first | assumption | exact va_up_self _ _ _)) rfl (Nat.le_of_ble_eq_true rfl) (by decide) (by decide) (by decide) (by decide) rfl rfl ?_
  try rw [va_uu]
  refine m_aload_n dX8_three_39 rfl ?_
  refine m_lload_n dX8_three_40 rfl ?_
  refine m_lconst (v := 0) dX8_three_41 (by decide) ?_
  refine m_ternN_I (J := 65) (x := snM (b * c - a * d) * snM b) (y := -snM d) (m_lc_ne (t := 55) dX8_three_42 dX8_three_43 (by decide)) (fun k9 => ?_) (fun k9 => ?_) ?_
  · refine m_lload dX8_three_55 rfl ?_
    refine m_invS_I dX8_three_57 lk_X8_88 ar_X8_sign (t_X8_sign) rfl (Nat.le_of_ble_eq_true rfl) (by decide) (by decide) (by decide) (by decide) rfl rfl ?_
    try rw [va_uu]
    refine m_lload_n dX8_three_60 rfl ?_
    refine m_invS_I dX8_three_61 lk_X8_88 ar_X8_sign (t_X8_sign) rfl (Nat.le_of_ble_eq_true rfl) (by decide) (by decide) (by decide) (by decide) rfl rfl ?_
    try rw [va_uu]
    refine m_imul dX8_three_64 ?_
    exact k9
  · refine m_lload dX8_three_46 rfl ?_
    refine m_invS_I dX8_three_48 lk_X8_88 ar_X8_sign (t_X8_sign) rfl (Nat.le_of_ble_eq_true rfl) (by decide) (by decide) (by decide) (by decide) rfl rfl ?_
    try rw [va_uu]
    refine m_ineg dX8_three_51 ?_
    refine m_goto (t := 65) dX8_three_52 (by decide) ?_
    exact k9
  refine m_invV_V dX8_three_65 lk_X8_104 ar_X8_passes (ci := 8) rfl rfl (by first | assumption | rfl | exact va_up_self _ _ _) (t_X8_passes (by first | assumption | exact va_up_self _ _ _)) rfl (Nat.le_of_ble_eq_true rfl) (by decide) (by decide) (by decide) (by decide) rfl rfl ?_
  try rw [va_uu]
  refine m_aload_n dX8_three_68 rfl ?_
  refine m_lload dX8_three_69 rfl ?_
  refine m_invS_I dX8_three_71 lk_X8_88 ar_X8_sign (t_X8_sign) rfl (Nat.le_of_ble_eq_true rfl) (by decide) (by decide) (by decide) (by decide) rfl rfl ?_
  try rw [va_uu]
  refine m_invV_V dX8_three_74 lk_X8_104 ar_X8_passes (ci := 8) rfl rfl (by first | assumption | rfl | exact va_up_self _ _ _) (t_X8_passes (by first | assumption | exact va_up_self _ _ _)) rfl (Nat.le_of_ble_eq_true rfl) (by decide) (by decide) (by decide) (by decide) rfl rfl ?_
  try rw [va_uu]
  exact m_return hF dX8_three_77 rfl rfl rfl ⟨rfl, rfl⟩

def foB (A : Nat → Int64) : Int64 := A 3 * A 2 - A 4 * A 1
def foC (A : Nat → Int64) : Int64 := foB A * A 1 - A 3 * A 3 * A 0
def foM (A : Nat → Int64) : Int32 × Int32 := if A 3 = 0 then paM (snM (A 0)) (paM (snM (A 1)) (paM (-snM (A 1)) (paM 1 (0, 1)))) else paM (snM (A 0)) (paM (if foB A = 0 then -snM (A 3) * snM (A 0) else snM (foC A) * snM (foB A)) (paM (if foB A = 0 then 1 else snM (foB A) * snM (A 3)) (paM (snM (A 3)) (0, 1))))
def mulA (A : Nat → Int64) (s : Int32) (k : Nat) : Int64 := A k * s.toInt64
/-- what the count of changes is, for what is of degree d, d = 3 or d = 4 -/
def apC (A : Nat → Int64) (d : Nat) : Int32 × Int32 := if d = 3 then thM (mulA A (snM (A d)) 3) (mulA A (snM (A d)) 2) (mulA A (snM (A d)) 1) (mulA A (snM (A d)) 0) else foM (fill5 (mulA A (snM (A d))) A)
def apM (A : Nat → Int64) (d : Nat) (t : T3) : T3 := if d < 3 then twM (A 2) (A 1) (A 0) t else (t.1 + (apC A d).1, t.2.1 + 0, t.2.2 + (nI d - (apC A d).1))
set_option maxHeartbeats 400000 in
set_option maxRecDepth 100000 in
theorem t_X8_four {n : Nat} {hp : mHp} {ac ia tm ri ev le ch ls rm sm ra fa : Int32} (h1 : hp 67 = eO 8 (oMod ac ia tm ri ev le ch ls rm sm ra fa)) {A : Nat → Int64} (h2 : hp 77 = eL 5 A) : mC D_X8_four [.ref 67] n hp (rV (va_up hp 67 (eO 8 (oMod ac ia tm ri ev le (foM A).1 (foM A).2 rm sm ra fa)))) := by
  refine m_enter rfl rfl (Nat.le_of_ble_eq_true rfl) (fun K hF => ?_)
  show mW K _ 0 0 _ _ 0 [.ref 67, .retAddr 0, .retAddr 0, .retAddr 0, .retAddr 0] []
  refine m_aload_n dX8_four_0 rfl ?_
  refine m_iconst (v := 1) dX8_four_1 (by decide) ?_
  refine m_putfield dX8_four_2 fl_X8_101 (by first | assumption | rfl | exact va_up_self _ _ _ | exact (va_up_ne _ _ (by decide)).trans h2) (fun _ => rfl) (fun _ => rfl) ?_
  try rw [va_uu]
  rw [oMod_17]
  refine m_aload_n dX8_four_5 rfl ?_
  refine m_iconst (v := 0) dX8_four_6 (by decide) ?_
  refine m_putfield dX8_four_7 fl_X8_98 (by first | assumption | rfl | exact va_up_self _ _ _ | exact (va_up_ne _ _ (by decide)).trans h2) (fun _ => rfl) (fun _ => rfl) ?_
  try rw [va_uu]
  rw [oMod_16]
  refine m_aload_n dX8_four_10 rfl ?_
  refine m_getfield dX8_four_11 fl_X8_42 (by first | assumption | rfl | exact va_up_self _ _ _ | exact (va_up_ne _ _ (by decide)).trans h2) (by first | assumption | rfl | exact va_up_self _ _ _ | exact (va_up_ne _ _ (by decide)).trans h2) ?_
  show mW _ _ _ _ _ _ _ _ (.ref _ :: _)
  refine m_iconst (v := 3) dX8_four_14 (by decide) ?_
  refine m_laload (k := 3) dX8_four_15 (by first | assumption | rfl | exact va_up_self _ _ _ | exact (va_up_ne _ _ (by decide)).trans h2) ⟨by decide, by decide⟩ ?_
  refine m_lconst (v := 0) dX8_four_16 (by decide) ?_
  refine m_lc_ne (t := 56) dX8_four_17 dX8_four_18 (by decide) (fun c17 => ?_) (fun c17 => ?_)
  rotate_left
  · refine m_aload_n dX8_four_21 rfl ?_
    refine m_iconst (v := 1) dX8_four_22 (by decide) ?_
    refine m_invV_V dX8_four_23 lk_X8_104 ar_X8_passes (ci := 8) rfl rfl (by first | assumption | rfl | exact va_up_self _ _ _ | exact (va_up_ne _ _ (by decide)).trans h2) (t_X8_passes (by first | assumption | exact va_up_self _ _ _)) rfl (Nat.le_of_ble_eq_true rfl) (by decide) (by decide) (by decide) (by decide) rfl rfl ?_
    try rw [va_uu]
    refine m_aload_n dX8_four_26 rfl ?_
    refine m_aload_n dX8_four_27 rfl ?_
    refine m_getfield dX8_four_28 fl_X8_42 (by first | assumption | rfl | exact va_up_self _ _ _ | exact (va_up_ne _ _ (by decide)).trans h2) (by first | assumption | rfl | exact va_up_self _ _ _ | exact (va_up_ne _ _ (by decide)).trans h2) ?_
    show mW _ _ _ _ _ _ _ _ (.ref _ :: _)
    refine m_iconst (v := 1) dX8_four_31 (by decide) ?_
    refine m_laload (k := 1) dX8_four_32 (by first | assumption | rfl | exact va_up_self _ _ _ | exact (va_up_ne _ _ (by decide)).trans h2) ⟨by decide, by decide⟩ ?_
    refine m_invS_I dX8_four_33 lk_X8_88 ar_X8_sign (t_X8_sign) rfl (Nat.le_of_ble_eq_true rfl) (by decide) (by decide) (by decide) (by decide) rfl rfl ?_
    try rw [va_uu]
    refine m_ineg dX8_four_36 ?_
    refine m_invV_V dX8_four_37 lk_X8_104 ar_X8_passes (ci := 8) rfl rfl (by first | assumption | rfl | exact va_up_self _ _ _ | exact (va_up_ne _ _ (by decide)).trans h2) (t_X8_passes (by first | assumption | exact va_up_self _ _ _)) rfl (Nat.le_of_ble_eq_true rfl) (by decide) (by decide) (by decide) (by decide) rfl rfl ?_
    try rw [va_uu]
    refine m_aload_n dX8_four_40 rfl ?_
    refine m_aload_n dX8_four_41 rfl ?_
    refine m_getfield dX8_four_42 fl_X8_42 (by first | assumption | rfl | exact va_up_self _ _ _ | exact (va_up_ne _ _ (by decide)).trans h2) (by first | assumption | rfl | exact va_up_self _ _ _ | exact (va_up_ne _ _ (by decide)).trans h2) ?_
    show mW _ _ _ _ _ _ _ _ (.ref _ :: _)
    refine m_iconst (v := 1) dX8_four_45 (by decide) ?_
    refine m_laload (k := 1) dX8_four_46 (by first | assumption | rfl | exact va_up_self _ _ _ | exact (va_up_ne _ _ (by decide)).trans h2) ⟨by decide, by decide⟩ ?_
    refine m_invS_I dX8_four_47 lk_X8_88 ar_X8_sign (t_X8_sign) rfl (Nat.le_of_ble_eq_true rfl) (by decide) (by decide) (by decide) (by decide) rfl rfl ?_
    try rw [va_uu]
    refine m_invV_V dX8_four_50 lk_X8_104 ar_X8_passes (ci := 8) rfl rfl (by first | assumption | rfl | exact va_up_self _ _ _ | exact (va_up_ne _ _ (by decide)).trans h2) (t_X8_passes (by first | assumption | exact va_up_self _ _ _)) rfl (Nat.le_of_ble_eq_true rfl) (by decide) (by decide) (by decide) (by decide) rfl rfl ?_
    try rw [va_uu]
    refine m_goto (t := 197) dX8_four_53 (by decide) ?_
    refine m_aload_n dX8_four_197 rfl ?_
    refine m_aload_n dX8_four_198 rfl ?_
    refine m_getfield dX8_four_199 fl_X8_42 (by first | assumption | rfl | exact va_up_self _ _ _ | exact (va_up_ne _ _ (by decide)).trans h2) (by first | assumption | rfl | exact va_up_self _ _ _ | exact (va_up_ne _ _ (by decide)).trans h2) ?_
    show mW _ _ _ _ _ _ _ _ (.ref _ :: _)
    refine m_iconst (v := 0) dX8_four_202 (by decide) ?_
    refine m_laload (k := 0) dX8_four_203 (by first | assumption | rfl | exact va_up_self _ _ _ | exact (va_up_ne _ _ (by decide)).trans h2) ⟨by decide, by decide⟩ ?_
    refine m_invS_I dX8_four_204 lk_X8_88 ar_X8_sign (t_X8_sign) rfl (Nat.le_of_ble_eq_true rfl) (by decide) (by decide) (by decide) (by decide) rfl rfl ?_
    try rw [va_uu]
    refine m_invV_V dX8_four_207 lk_X8_104 ar_X8_passes (ci := 8) rfl rfl (by first | assumption | rfl | exact va_up_self _ _ _ | exact (va_up_ne _ _ (by decide)).trans h2) (t_X8_passes (by first | assumption | exact va_up_self _ _ _)) rfl (Nat.le_of_ble_eq_true rfl) (by decide) (by decide) (by decide) (by decide) rfl rfl ?_
    try rw [va_uu]
    exact m_return hF dX8_four_210 rfl rfl rfl ⟨rfl, by unfold foM; rw [if_pos c17]⟩
  refine m_aload_n dX8_four_56 rfl ?_
  refine m_getfield dX8_four_57 fl_X8_42 (by first | assumption | rfl | exact va_up_self _ _ _ | exact (va_up_ne _ _ (by decide)).trans h2) (by first | assumption | rfl | exact va_up_self _ _ _ | exact (va_up_ne _ _ (by decide)).trans h2) ?_
  show mW _ _ _ _ _ _ _ _ (.ref _ :: _)
  refine m_iconst (v := 3) dX8_four_60 (by decide) ?_
  refine m_laload (k := 3) dX8_four_61 (by first | assumption | rfl | exact va_up_self _ _ _ | exact (va_up_ne _ _ (by decide)).trans h2) ⟨by decide, by decide⟩ ?_
  refine m_aload_n dX8_four_62 rfl ?_
  refine m_getfield dX8_four_63 fl_X8_42 (by first | assumption | rfl | exact va_up_self _ _ _ | exact (va_up_ne _ _ (by decide)).trans h2) (by first | assumption | rfl | exact va_up_self _ _ _ | exact (va_up_ne _ _ (by decide)).trans h2) ?_
  show mW _ _ _ _ _ _ _ _ (.ref _ :: _)
  refine m_iconst (v := 2) dX8_four_66 (by decide) ?_
  refine m_laload (k := 2) dX8_four_67 (by first | assumption | rfl | exact va_up_self _ _ _ | exact (va_up_ne _ _ (by decide)).trans h2) ⟨by decide, by decide⟩ ?_
  refine m_lmul dX8_four_68 ?_
  refine m_aload_n dX8_four_69 rfl ?_
  refine m_getfield dX8_four_70 fl_X8_42 (by first | assumption | rfl | exact va_up_self _ _ _ | exact (va_up_ne _ _ (by decide)).trans h2) (by first | assumption | rfl | exact va_up_self _ _ _ | exact (va_up_ne _ _ (by decide)).trans h2) ?_
  show mW _ _ _ _ _ _ _ _ (.ref _ :: _)
  refine m_iconst (v := 4) dX8_four_73 (by decide) ?_
  refine m_laload (k := 4) dX8_four_74 (by first | assumption | rfl | exact va_up_self _ _ _ | exact (va_up_ne _ _ (by decide)).trans h2) ⟨by decide, by decide⟩ ?_
  refine m_aload_n dX8_four_75 rfl ?_
  refine m_getfield dX8_four_76 fl_X8_42 (by first | assumption | rfl | exact va_up_self _ _ _ | exact (va_up_ne _ _ (by decide)).trans h2) (by first | assumption | rfl | exact va_up_self _ _ _ | exact (va_up_ne _ _ (by decide)).trans h2) ?_
  show mW _ _ _ _ _ _ _ _ (.ref _ :: _)
  refine m_iconst (v := 1) dX8_four_79 (by decide) ?_
  refine m_laload (k := 1) dX8_four_80 (by first | assumption | rfl | exact va_up_self _ _ _ | exact (va_up_ne _ _ (by decide)).trans h2) ⟨by decide, by decide⟩ ?_
  refine m_lmul dX8_four_81 ?_
  refine m_lsub dX8_four_82 ?_
  refine m_cl (v := foB A) rfl ?_
  refine m_lstore_n dX8_four_83 (by decide) ?_
  show mW _ _ _ _ _ _ 84 [_, _, _, _, _] _
  refine m_lload_n dX8_four_84 rfl ?_
  refine m_aload_n dX8_four_85 rfl ?_
  refine m_getfield dX8_four_86 fl_X8_42 (by first | assumption | rfl | exact va_up_self _ _ _ | exact (va_up_ne _ _ (by decide)).trans h2) (by first | assumption | rfl | exact va_up_self _ _ _ | exact (va_up_ne _ _ (by decide)).trans h2) ?_
  show mW _ _ _ _ _ _ _ _ (.ref _ :: _)
  refine m_iconst (v := 1) dX8_four_89 (by decide) ?_
  refine m_laload (k := 1) dX8_four_90 (by first | assumption | rfl | exact va_up_self _ _ _ | exact (va_up_ne _ _ (by decide)).trans h2) ⟨by decide, by decide⟩ ?_
  refine m_lmul dX8_four_91 ?_
  refine m_aload_n dX8_four_92 rfl ?_
  refine m_getfield dX8_four_93 fl_X8_42 (by first | assumption | rfl | exact va_up_self _ _ _ | exact (va_up_ne _ _ (by decide)).trans h2) (by first | assumption | rfl | exact va_up_self _ _ _ | exact (va_up_ne _ _ (by decide)).trans h2) ?_
  show mW _ _ _ _ _ _ _ _ (.ref _ :: _)
  refine m_iconst (v := 3) dX8_four_96 (by decide) ?_
  refine m_laload (k := 3) dX8_four_97 (by first | assumption | rfl | exact va_up_self _ _ _ | exact (va_up_ne _ _ (by decide)).trans h2) ⟨by decide, by decide⟩ ?_
  refine m_aload_n dX8_four_98 rfl ?_
  refine m_getfield dX8_four_99 fl_X8_42 (by first | assumption | rfl | exact va_up_self _ _ _ | exact (va_up_ne _ _ (by decide)).trans h2) (by first | assumption | rfl | exact va_up_self _ _ _ | exact (va_up_ne _ _ (by decide)).trans h2) ?_
  show mW _ _ _ _ _ _ _ _ (.ref _ :: _)
  refine m_iconst (v := 3) dX8_four_102 (by decide) ?_
  refine m_laload (k := 3) dX8_four_103 (by first | assumption | rfl | exact va_up_self _ _ _ | exact (va_up_ne _ _ (by decide)).trans h2) ⟨by decide, by decide⟩ ?_
  refine m_lmul dX8_four_104 ?_
  refine m_aload_n dX8_four_105 rfl ?_
  refine m_getfield dX8_four_106 fl_X8_42 (by first | assumption | rfl | exact va_up_self _ _ _ | exact (va_up_ne _ _ (by decide)).trans h2) (by first | assumption | rfl | exact va_up_self _ _ _ | exact (va_up_ne _ _ (by decide)).trans h2) ?_
  show mW _ _ _ _ _ _ _ _ (.ref _ :: _)
  refine m_iconst (v := 0) dX8_four_109 (by decide) ?_
  refine m_laload (k := 0) dX8_four_110 (by first | assumption | rfl | exact va_up_self _ _ _ | exact (va_up_ne _ _ (by decide)).trans h2) ⟨by decide, by decide⟩ ?_
  refine m_lmul dX8_four_111 ?_
  refine m_lsub dX8_four_112 ?_
  refine m_cl (v := foC A) rfl ?_
  refine m_lstore_n dX8_four_113 (by decide) ?_
  show mW _ _ _ _ _ _ 114 [_, _, _, _, _] _
  refine m_aload_n dX8_four_114 rfl ?_
  refine m_aload_n dX8_four_115 rfl ?_
  refine m_getfield dX8_four_116 fl_X8_42 (by first | assumption | rfl | exact va_up_self _ _ _ | exact (va_up_ne _ _ (by decide)).trans h2) (by first | assumption | rfl | exact va_up_self _ _ _ | exact (va_up_ne _ _ (by decide)).trans h2) ?_
  show mW _ _ _ _ _ _ _ _ (.ref _ :: _)
  refine m_iconst (v := 3) dX8_four_119 (by decide) ?_
  refine m_laload (k := 3) dX8_four_120 (by first | assumption | rfl | exact va_up_self _ _ _ | exact (va_up_ne _ _ (by decide)).trans h2) ⟨by decide, by decide⟩ ?_
  refine m_invS_I dX8_four_121 lk_X8_88 ar_X8_sign (t_X8_sign) rfl (Nat.le_of_ble_eq_true rfl) (by decide) (by decide) (by decide) (by decide) rfl rfl ?_
  try rw [va_uu]
  refine m_invV_V dX8_four_124 lk_X8_104 ar_X8_passes (ci := 8) rfl rfl (by first | assumption | rfl | exact va_up_self _ _ _ | exact (va_up_ne _ _ (by decide)).trans h2) (t_X8_passes (by first | assumption | exact va_up_self _ _ _)) rfl (Nat.le_of_ble_eq_true rfl) (by decide) (by decide) (by decide) (by decide) rfl rfl ?_
  try rw [va_uu]
  refine m_aload_n dX8_four_127 rfl ?_
  refine m_lload_n dX8_four_128 rfl ?_
  refine m_lconst (v := 0) dX8_four_129 (by decide) ?_
  refine m_ternN_I (J := 152) (x := snM (foB A) * snM (A 3)) (y := 1) (m_lc_ne (t := 138) dX8_four_130 dX8_four_131 (by decide)) (fun k9 => ?_) (fun k9 => ?_) ?_
  · refine m_lload_n dX8_four_138 rfl ?_
    refine m_invS_I dX8_four_139 lk_X8_88 ar_X8_sign (t_X8_sign) rfl (Nat.le_of_ble_eq_true rfl) (by decide) (by decide) (by decide) (by decide) rfl rfl ?_
    try rw [va_uu]
    refine m_aload_n dX8_four_142 rfl ?_
    refine m_getfield dX8_four_143 fl_X8_42 (by first | assumption | rfl | exact va_up_self _ _ _ | exact (va_up_ne _ _ (by decide)).trans h2) (by first | assumption | rfl | exact va_up_self _ _ _ | exact (va_up_ne _ _ (by decide)).trans h2) ?_
    show mW _ _ _ _ _ _ _ _ (.ref _ :: _)
    refine m_iconst (v := 3) dX8_four_146 (by decide) ?_
    refine m_laload (k := 3) dX8_four_147 (by first | assumption | rfl | exact va_up_self _ _ _ | exact (va_up_ne _ _ (by decide)).trans h2) ⟨by decide, by decide⟩ ?_
    refine m_invS_I dX8_four_148 lk_X8_88 ar_X8_sign (t_X8_sign) rfl (Nat.le_of_ble_eq_true rfl) (by decide) (by decide) (by decide) (by decide) rfl rfl ?_
    try rw [va_uu]
    refine m_imul dX8_four_151 ?_
    exact k9
  · refine m_iconst (v := 1) dX8_four_134 (by decide) ?_
    refine m_goto (t := 152) dX8_four_135 (by decide) ?_
    exact k9
  refine m_invV_V dX8_four_152 lk_X8_104 ar_X8_passes (ci := 8) rfl rfl (by first | assumption | rfl | exact va_up_self _ _ _ | exact (va_up_ne _ _ (by decide)).trans h2) (t_X8_passes (by first | assumption | exact va_up_self _ _ _)) rfl (Nat.le_of_ble_eq_true rfl) (by decide) (by decide) (by decide) (by decide) rfl rfl ?_
  try rw [va_uu]
  refine m_aload_n dX8_four_155 rfl ?_
  refine m_lload_n dX8_four_156 rfl ?_
  refine m_lconst (v := 0) dX8_four_157 (by decide) ?_
  refine m_ternN_I (J := 194) (x := snM (foC A) * snM (foB A)) (y := -snM (A 3) * snM (A 0)) (m_lc_ne (t := 185) dX8_four_158 dX8_four_159 (by decide)) (fun k9 => ?_) (fun k9 => ?_) ?_
  · refine m_lload_n dX8_four_185 rfl ?_
    refine m_invS_I dX8_four_186 lk_X8_88 ar_X8_sign (t_X8_sign) rfl (Nat.le_of_ble_eq_true rfl) (by decide) (by decide) (by decide) (by decide) rfl rfl ?_
    try rw [va_uu]
    refine m_lload_n dX8_four_189 rfl ?_
    refine m_invS_I dX8_four_190 lk_X8_88 ar_X8_sign (t_X8_sign) rfl (Nat.le_of_ble_eq_true rfl) (by decide) (by decide) (by decide) (by decide) rfl rfl ?_
    try rw [va_uu]
    refine m_imul dX8_four_193 ?_
    exact k9
  · refine m_aload_n dX8_four_162 rfl ?_
    refine m_getfield dX8_four_163 fl_X8_42 (by first | assumption | rfl | exact va_up_self _ _ _ | exact (va_up_ne _ _ (by decide)).trans h2) (by first | assumption | rfl | exact va_up_self _ _ _ | exact (va_up_ne _ _ (by decide)).trans h2) ?_
    show mW _ _ _ _ _ _ _ _ (.ref _ :: _)
    refine m_iconst (v := 3) dX8_four_166 (by decide) ?_
    refine m_laload (k := 3) dX8_four_167 (by first | assumption | rfl | exact va_up_self _ _ _ | exact (va_up_ne _ _ (by decide)).trans h2) ⟨by decide, by decide⟩ ?_
    refine m_invS_I dX8_four_168 lk_X8_88 ar_X8_sign (t_X8_sign) rfl (Nat.le_of_ble_eq_true rfl) (by decide) (by decide) (by decide) (by decide) rfl rfl ?_
    try rw [va_uu]
    refine m_ineg dX8_four_171 ?_
    refine m_aload_n dX8_four_172 rfl ?_
    refine m_getfield dX8_four_173 fl_X8_42 (by first | assumption | rfl | exact va_up_self _ _ _ | exact (va_up_ne _ _ (by decide)).trans h2) (by first | assumption | rfl | exact va_up_self _ _ _ | exact (va_up_ne _ _ (by decide)).trans h2) ?_
    show mW _ _ _ _ _ _ _ _ (.ref _ :: _)
    refine m_iconst (v := 0) dX8_four_176 (by decide) ?_
    refine m_laload (k := 0) dX8_four_177 (by first | assumption | rfl | exact va_up_self _ _ _ | exact (va_up_ne _ _ (by decide)).trans h2) ⟨by decide, by decide⟩ ?_
    refine m_invS_I dX8_four_178 lk_X8_88 ar_X8_sign (t_X8_sign) rfl (Nat.le_of_ble_eq_true rfl) (by decide) (by decide) (by decide) (by decide) rfl rfl ?_
    try rw [va_uu]
    refine m_imul dX8_four_181 ?_
    refine m_goto (t := 194) dX8_four_182 (by decide) ?_
    exact k9
  refine m_invV_V dX8_four_194 lk_X8_104 ar_X8_passes (ci := 8) rfl rfl (by first | assumption | rfl | exact va_up_self _ _ _ | exact (va_up_ne _ _ (by decide)).trans h2) (t_X8_passes (by first | assumption | exact va_up_self _ _ _)) rfl (Nat.le_of_ble_eq_true rfl) (by decide) (by decide) (by decide) (by decide) rfl rfl ?_
  try rw [va_uu]
  refine m_aload_n dX8_four_197 rfl ?_
  refine m_aload_n dX8_four_198 rfl ?_
  refine m_getfield dX8_four_199 fl_X8_42 (by first | assumption | rfl | exact va_up_self _ _ _ | exact (va_up_ne _ _ (by decide)).trans h2) (by first | assumption | rfl | exact va_up_self _ _ _ | exact (va_up_ne _ _ (by decide)).trans h2) ?_
  show mW _ _ _ _ _ _ _ _ (.ref _ :: _)
  refine m_iconst (v := 0) dX8_four_202 (by decide) ?_
  refine m_laload (k := 0) dX8_four_203 (by first | assumption | rfl | exact va_up_self _ _ _ | exact (va_up_ne _ _ (by decide)).trans h2) ⟨by decide, by decide⟩ ?_
  refine m_invS_I dX8_four_204 lk_X8_88 ar_X8_sign (t_X8_sign) rfl (Nat.le_of_ble_eq_true rfl) (by decide) (by decide) (by decide) (by decide) rfl rfl ?_
  try rw [va_uu]
  refine m_invV_V dX8_four_207 lk_X8_104 ar_X8_passes (ci := 8) rfl rfl (by first | assumption | rfl | exact va_up_self _ _ _ | exact (va_up_ne _ _ (by decide)).trans h2) (t_X8_passes (by first | assumption | exact va_up_self _ _ _)) rfl (Nat.le_of_ble_eq_true rfl) (by decide) (by decide) (by decide) (by decide) rfl rfl ?_
  try rw [va_uu]
  exact m_return hF dX8_four_210 rfl rfl rfl ⟨rfl, by unfold foM; rw [if_neg c17]⟩

set_option maxHeartbeats 400000 in
set_option maxRecDepth 100000 in
theorem t_X8_apart {n : Nat} {hp : mHp} {ac ia tm ri ev le ch ls rm sm ra fa : Int32} (h1 : hp 67 = eO 8 (oMod ac ia tm ri ev le ch ls rm sm ra fa)) {A : Nat → Int64} (h2 : hp 77 = eL 5 A) {d : Nat} (hd : d ≤ 4) : mC D_X8_apart [.ref 67, .int (nI d)] n hp (fun v hp' => v = none ∧ ∃ (ch' ls' : Int32) (A' : Nat → Int64), hp' = va_up (va_up hp 77 (eL 5 A')) 67 (eO 8 (oMod ac ia tm (apM A d (ri, ev, le)).1 (apM A d (ri, ev, le)).2.1 (apM A d (ri, ev, le)).2.2 ch' ls' rm sm ra fa))) := by
  refine m_enter rfl rfl (Nat.le_of_ble_eq_true rfl) (fun K hF => ?_)
  show mW K _ 0 0 _ _ 0 [.ref 67, .int (nI d), .retAddr 0, .retAddr 0] []
  refine m_iload_n dX8_apart_0 rfl ?_
  refine m_iconst (v := 3) dX8_apart_1 (by decide) ?_
  refine m_icmp_ge (t := 28) dX8_apart_2 (by decide) (fun c2 => ?_) (fun c2 => ?_)
  rotate_left
  · have hd3 : d < 3 := nI_cmp (b := 3) (by decide) (by omega) c2
    refine m_aload_n dX8_apart_5 rfl ?_
    refine m_aload_n dX8_apart_6 rfl ?_
    refine m_getfield dX8_apart_7 fl_X8_42 (by first | assumption | rfl | exact va_up_self _ _ _ | exact (va_up_ne _ _ (by decide)).trans h1 | exact (va_up_ne _ _ (by decide)).trans h2 | exact (va_up_ne _ _ (by decide)).trans (va_up_self _ _ _)) (by first | assumption | rfl | exact va_up_self _ _ _ | exact (va_up_ne _ _ (by decide)).trans h1 | exact (va_up_ne _ _ (by decide)).trans h2 | exact (va_up_ne _ _ (by decide)).trans (va_up_self _ _ _)) ?_
    show mW _ _ _ _ _ _ _ _ (.ref _ :: _)
    refine m_iconst (v := 2) dX8_apart_10 (by decide) ?_
    refine m_laload (k := 2) dX8_apart_11 (by first | assumption | rfl | exact va_up_self _ _ _ | exact (va_up_ne _ _ (by decide)).trans h1 | exact (va_up_ne _ _ (by decide)).trans h2 | exact (va_up_ne _ _ (by decide)).trans (va_up_self _ _ _)) ⟨by decide, by decide⟩ ?_
    refine m_aload_n dX8_apart_12 rfl ?_
    refine m_getfield dX8_apart_13 fl_X8_42 (by first | assumption | rfl | exact va_up_self _ _ _ | exact (va_up_ne _ _ (by decide)).trans h1 | exact (va_up_ne _ _ (by decide)).trans h2 | exact (va_up_ne _ _ (by decide)).trans (va_up_self _ _ _)) (by first | assumption | rfl | exact va_up_self _ _ _ | exact (va_up_ne _ _ (by decide)).trans h1 | exact (va_up_ne _ _ (by decide)).trans h2 | exact (va_up_ne _ _ (by decide)).trans (va_up_self _ _ _)) ?_
    show mW _ _ _ _ _ _ _ _ (.ref _ :: _)
    refine m_iconst (v := 1) dX8_apart_16 (by decide) ?_
    refine m_laload (k := 1) dX8_apart_17 (by first | assumption | rfl | exact va_up_self _ _ _ | exact (va_up_ne _ _ (by decide)).trans h1 | exact (va_up_ne _ _ (by decide)).trans h2 | exact (va_up_ne _ _ (by decide)).trans (va_up_self _ _ _)) ⟨by decide, by decide⟩ ?_
    refine m_aload_n dX8_apart_18 rfl ?_
    refine m_getfield dX8_apart_19 fl_X8_42 (by first | assumption | rfl | exact va_up_self _ _ _ | exact (va_up_ne _ _ (by decide)).trans h1 | exact (va_up_ne _ _ (by decide)).trans h2 | exact (va_up_ne _ _ (by decide)).trans (va_up_self _ _ _)) (by first | assumption | rfl | exact va_up_self _ _ _ | exact (va_up_ne _ _ (by decide)).trans h1 | exact (va_up_ne _ _ (by decide)).trans h2 | exact (va_up_ne _ _ (by decide)).trans (va_up_self _ _ _)) ?_
    show mW _ _ _ _ _ _ _ _ (.ref _ :: _)
    refine m_iconst (v := 0) dX8_apart_22 (by decide) ?_
    refine m_laload (k := 0) dX8_apart_23 (by first | assumption | rfl | exact va_up_self _ _ _ | exact (va_up_ne _ _ (by decide)).trans h1 | exact (va_up_ne _ _ (by decide)).trans h2 | exact (va_up_ne _ _ (by decide)).trans (va_up_self _ _ _)) ⟨by decide, by decide⟩ ?_
    refine m_invV_V dX8_apart_24 lk_X8_107 ar_X8_two (ci := 8) rfl rfl (by first | assumption | rfl | exact va_up_self _ _ _ | exact (va_up_ne _ _ (by decide)).trans h1 | exact (va_up_ne _ _ (by decide)).trans h2 | exact (va_up_ne _ _ (by decide)).trans (va_up_self _ _ _)) (t_X8_two (by first | assumption | exact va_up_self _ _ _ | exact (va_up_ne _ _ (by decide)).trans h1)) rfl (Nat.le_of_ble_eq_true rfl) (by decide) (by decide) (by decide) (by decide) rfl rfl ?_
    try rw [va_uu]
    exact m_return hF dX8_apart_27 rfl rfl rfl ⟨rfl, ch, ls, A, by unfold apM; rw [if_pos hd3, va_uid hp h2]⟩
  have hd3 : ¬ d < 3 := by have := nI_cmp' (b := 3) (by decide) (by omega) c2; omega
  refine m_aload_n dX8_apart_28 rfl ?_
  refine m_getfield dX8_apart_29 fl_X8_42 (by first | assumption | rfl | exact va_up_self _ _ _ | exact (va_up_ne _ _ (by decide)).trans h1 | exact (va_up_ne _ _ (by decide)).trans h2 | exact (va_up_ne _ _ (by decide)).trans (va_up_self _ _ _)) (by first | assumption | rfl | exact va_up_self _ _ _ | exact (va_up_ne _ _ (by decide)).trans h1 | exact (va_up_ne _ _ (by decide)).trans h2 | exact (va_up_ne _ _ (by decide)).trans (va_up_self _ _ _)) ?_
  show mW _ _ _ _ _ _ _ _ (.ref _ :: _)
  refine m_iload_n dX8_apart_32 rfl ?_
  refine m_laload dX8_apart_33 (by first | assumption | rfl | exact va_up_self _ _ _ | exact (va_up_ne _ _ (by decide)).trans h1 | exact (va_up_ne _ _ (by decide)).trans h2 | exact (va_up_ne _ _ (by decide)).trans (va_up_self _ _ _)) (mIx_lit (show d < 5 by omega) (by decide)) ?_
  refine m_invS_I dX8_apart_34 lk_X8_88 ar_X8_sign (t_X8_sign) rfl (Nat.le_of_ble_eq_true rfl) (by decide) (by decide) (by decide) (by decide) rfl rfl ?_
  try rw [va_uu]
  refine m_istore_n dX8_apart_37 (by decide) ?_
  show mW _ _ _ _ _ _ 38 [_, _, _, _] _
  refine m_iconst (v := 0) dX8_apart_38 (by decide) ?_
  refine m_istore_n dX8_apart_39 (by decide) ?_
  show mW _ _ _ _ _ _ 40 [_, _, _, _] _
  refine m_iload_n dX8_apart_40 rfl ?_
  refine m_iconst (v := 5) dX8_apart_41 (by decide) ?_
  refine m_icmp_ge (t := 62) dX8_apart_42 (by decide) (fun q => absurd q (by decide)) (fun _ => ?_)
  refine m_aload_n dX8_apart_45 rfl ?_
  refine m_getfield dX8_apart_46 fl_X8_42 (by first | assumption | rfl | exact va_up_self _ _ _ | exact (va_up_ne _ _ (by decide)).trans h1 | exact (va_up_ne _ _ (by decide)).trans h2 | exact (va_up_ne _ _ (by decide)).trans (va_up_self _ _ _)) (by first | assumption | rfl | exact va_up_self _ _ _ | exact (va_up_ne _ _ (by decide)).trans h1 | exact (va_up_ne _ _ (by decide)).trans h2 | exact (va_up_ne _ _ (by decide)).trans (va_up_self _ _ _)) ?_
  show mW _ _ _ _ _ _ _ _ (.ref _ :: _)
  refine m_iload_n dX8_apart_49 rfl ?_
  refine m_dup2 dX8_apart_50 rfl rfl ?_
  refine m_laload (k := 0) dX8_apart_51 (by first | assumption | rfl | exact va_up_self _ _ _ | exact (va_up_ne _ _ (by decide)).trans h1 | exact (va_up_ne _ _ (by decide)).trans h2 | exact (va_up_ne _ _ (by decide)).trans (va_up_self _ _ _)) ⟨by decide, by decide⟩ ?_
  refine m_cl (v := A 0) rfl ?_
  refine m_iload_n dX8_apart_52 rfl ?_
  refine m_i2l dX8_apart_53 ?_
  refine m_lmul dX8_apart_54 ?_
  refine m_lastore (k := 0) dX8_apart_55 (by first | assumption | rfl | exact va_up_self _ _ _ | exact (va_up_ne _ _ (by decide)).trans h1 | exact (va_up_ne _ _ (by decide)).trans h2 | exact (va_up_ne _ _ (by decide)).trans (va_up_self _ _ _)) ⟨by decide, by decide⟩ ?_
  try rw [va_uu]
  refine m_iinc (v := 1) dX8_apart_56 rfl (by decide) (by decide) ?_
  show mW _ _ _ _ _ _ 59 [_, _, _, _] _
  refine m_goto (t := 40) dX8_apart_59 (by decide) ?_
  refine m_iload_n dX8_apart_40 rfl ?_
  refine m_iconst (v := 5) dX8_apart_41 (by decide) ?_
  refine m_icmp_ge (t := 62) dX8_apart_42 (by decide) (fun q => absurd q (by decide)) (fun _ => ?_)
  refine m_aload_n dX8_apart_45 rfl ?_
  refine m_getfield dX8_apart_46 fl_X8_42 (by first | assumption | rfl | exact va_up_self _ _ _ | exact (va_up_ne _ _ (by decide)).trans h1 | exact (va_up_ne _ _ (by decide)).trans h2 | exact (va_up_ne _ _ (by decide)).trans (va_up_self _ _ _)) (by first | assumption | rfl | exact va_up_self _ _ _ | exact (va_up_ne _ _ (by decide)).trans h1 | exact (va_up_ne _ _ (by decide)).trans h2 | exact (va_up_ne _ _ (by decide)).trans (va_up_self _ _ _)) ?_
  show mW _ _ _ _ _ _ _ _ (.ref _ :: _)
  refine m_iload_n dX8_apart_49 rfl ?_
  refine m_dup2 dX8_apart_50 rfl rfl ?_
  refine m_laload (k := 1) dX8_apart_51 (by first | assumption | rfl | exact va_up_self _ _ _ | exact (va_up_ne _ _ (by decide)).trans h1 | exact (va_up_ne _ _ (by decide)).trans h2 | exact (va_up_ne _ _ (by decide)).trans (va_up_self _ _ _)) ⟨by decide, by decide⟩ ?_
  refine m_cl (v := A 1) rfl ?_
  refine m_iload_n dX8_apart_52 rfl ?_
  refine m_i2l dX8_apart_53 ?_
  refine m_lmul dX8_apart_54 ?_
  refine m_lastore (k := 1) dX8_apart_55 (by first | assumption | rfl | exact va_up_self _ _ _ | exact (va_up_ne _ _ (by decide)).trans h1 | exact (va_up_ne _ _ (by decide)).trans h2 | exact (va_up_ne _ _ (by decide)).trans (va_up_self _ _ _)) ⟨by decide, by decide⟩ ?_
  try rw [va_uu]
  refine m_iinc (v := 2) dX8_apart_56 rfl (by decide) (by decide) ?_
  show mW _ _ _ _ _ _ 59 [_, _, _, _] _
  refine m_goto (t := 40) dX8_apart_59 (by decide) ?_
  refine m_iload_n dX8_apart_40 rfl ?_
  refine m_iconst (v := 5) dX8_apart_41 (by decide) ?_
  refine m_icmp_ge (t := 62) dX8_apart_42 (by decide) (fun q => absurd q (by decide)) (fun _ => ?_)
  refine m_aload_n dX8_apart_45 rfl ?_
  refine m_getfield dX8_apart_46 fl_X8_42 (by first | assumption | rfl | exact va_up_self _ _ _ | exact (va_up_ne _ _ (by decide)).trans h1 | exact (va_up_ne _ _ (by decide)).trans h2 | exact (va_up_ne _ _ (by decide)).trans (va_up_self _ _ _)) (by first | assumption | rfl | exact va_up_self _ _ _ | exact (va_up_ne _ _ (by decide)).trans h1 | exact (va_up_ne _ _ (by decide)).trans h2 | exact (va_up_ne _ _ (by decide)).trans (va_up_self _ _ _)) ?_
  show mW _ _ _ _ _ _ _ _ (.ref _ :: _)
  refine m_iload_n dX8_apart_49 rfl ?_
  refine m_dup2 dX8_apart_50 rfl rfl ?_
  refine m_laload (k := 2) dX8_apart_51 (by first | assumption | rfl | exact va_up_self _ _ _ | exact (va_up_ne _ _ (by decide)).trans h1 | exact (va_up_ne _ _ (by decide)).trans h2 | exact (va_up_ne _ _ (by decide)).trans (va_up_self _ _ _)) ⟨by decide, by decide⟩ ?_
  refine m_cl (v := A 2) rfl ?_
  refine m_iload_n dX8_apart_52 rfl ?_
  refine m_i2l dX8_apart_53 ?_
  refine m_lmul dX8_apart_54 ?_
  refine m_lastore (k := 2) dX8_apart_55 (by first | assumption | rfl | exact va_up_self _ _ _ | exact (va_up_ne _ _ (by decide)).trans h1 | exact (va_up_ne _ _ (by decide)).trans h2 | exact (va_up_ne _ _ (by decide)).trans (va_up_self _ _ _)) ⟨by decide, by decide⟩ ?_
  try rw [va_uu]
  refine m_iinc (v := 3) dX8_apart_56 rfl (by decide) (by decide) ?_
  show mW _ _ _ _ _ _ 59 [_, _, _, _] _
  refine m_goto (t := 40) dX8_apart_59 (by decide) ?_
  refine m_iload_n dX8_apart_40 rfl ?_
  refine m_iconst (v := 5) dX8_apart_41 (by decide) ?_
  refine m_icmp_ge (t := 62) dX8_apart_42 (by decide) (fun q => absurd q (by decide)) (fun _ => ?_)
  refine m_aload_n dX8_apart_45 rfl ?_
  refine m_getfield dX8_apart_46 fl_X8_42 (by first | assumption | rfl | exact va_up_self _ _ _ | exact (va_up_ne _ _ (by decide)).trans h1 | exact (va_up_ne _ _ (by decide)).trans h2 | exact (va_up_ne _ _ (by decide)).trans (va_up_self _ _ _)) (by first | assumption | rfl | exact va_up_self _ _ _ | exact (va_up_ne _ _ (by decide)).trans h1 | exact (va_up_ne _ _ (by decide)).trans h2 | exact (va_up_ne _ _ (by decide)).trans (va_up_self _ _ _)) ?_
  show mW _ _ _ _ _ _ _ _ (.ref _ :: _)
  refine m_iload_n dX8_apart_49 rfl ?_
  refine m_dup2 dX8_apart_50 rfl rfl ?_
  refine m_laload (k := 3) dX8_apart_51 (by first | assumption | rfl | exact va_up_self _ _ _ | exact (va_up_ne _ _ (by decide)).trans h1 | exact (va_up_ne _ _ (by decide)).trans h2 | exact (va_up_ne _ _ (by decide)).trans (va_up_self _ _ _)) ⟨by decide, by decide⟩ ?_
  refine m_cl (v := A 3) rfl ?_
  refine m_iload_n dX8_apart_52 rfl ?_
  refine m_i2l dX8_apart_53 ?_
  refine m_lmul dX8_apart_54 ?_
  refine m_lastore (k := 3) dX8_apart_55 (by first | assumption | rfl | exact va_up_self _ _ _ | exact (va_up_ne _ _ (by decide)).trans h1 | exact (va_up_ne _ _ (by decide)).trans h2 | exact (va_up_ne _ _ (by decide)).trans (va_up_self _ _ _)) ⟨by decide, by decide⟩ ?_
  try rw [va_uu]
  refine m_iinc (v := 4) dX8_apart_56 rfl (by decide) (by decide) ?_
  show mW _ _ _ _ _ _ 59 [_, _, _, _] _
  refine m_goto (t := 40) dX8_apart_59 (by decide) ?_
  refine m_iload_n dX8_apart_40 rfl ?_
  refine m_iconst (v := 5) dX8_apart_41 (by decide) ?_
  refine m_icmp_ge (t := 62) dX8_apart_42 (by decide) (fun q => absurd q (by decide)) (fun _ => ?_)
  refine m_aload_n dX8_apart_45 rfl ?_
  refine m_getfield dX8_apart_46 fl_X8_42 (by first | assumption | rfl | exact va_up_self _ _ _ | exact (va_up_ne _ _ (by decide)).trans h1 | exact (va_up_ne _ _ (by decide)).trans h2 | exact (va_up_ne _ _ (by decide)).trans (va_up_self _ _ _)) (by first | assumption | rfl | exact va_up_self _ _ _ | exact (va_up_ne _ _ (by decide)).trans h1 | exact (va_up_ne _ _ (by decide)).trans h2 | exact (va_up_ne _ _ (by decide)).trans (va_up_self _ _ _)) ?_
  show mW _ _ _ _ _ _ _ _ (.ref _ :: _)
  refine m_iload_n dX8_apart_49 rfl ?_
  refine m_dup2 dX8_apart_50 rfl rfl ?_
  refine m_laload (k := 4) dX8_apart_51 (by first | assumption | rfl | exact va_up_self _ _ _ | exact (va_up_ne _ _ (by decide)).trans h1 | exact (va_up_ne _ _ (by decide)).trans h2 | exact (va_up_ne _ _ (by decide)).trans (va_up_self _ _ _)) ⟨by decide, by decide⟩ ?_
  refine m_cl (v := A 4) rfl ?_
  refine m_iload_n dX8_apart_52 rfl ?_
  refine m_i2l dX8_apart_53 ?_
  refine m_lmul dX8_apart_54 ?_
  refine m_lastore (k := 4) dX8_apart_55 (by first | assumption | rfl | exact va_up_self _ _ _ | exact (va_up_ne _ _ (by decide)).trans h1 | exact (va_up_ne _ _ (by decide)).trans h2 | exact (va_up_ne _ _ (by decide)).trans (va_up_self _ _ _)) ⟨by decide, by decide⟩ ?_
  try rw [va_uu]
  refine m_iinc (v := 5) dX8_apart_56 rfl (by decide) (by decide) ?_
  show mW _ _ _ _ _ _ 59 [_, _, _, _] _
  refine m_goto (t := 40) dX8_apart_59 (by decide) ?_
  refine m_iload_n dX8_apart_40 rfl ?_
  refine m_iconst (v := 5) dX8_apart_41 (by decide) ?_
  refine m_icmp_ge (t := 62) dX8_apart_42 (by decide) (fun _ => ?_) (fun q => absurd (by decide) q)
  show mW K _ 0 0 n (va_up hp 77 (eL 5 (fill5 (mulA A (snM (A d))) A))) 62 _ _
  refine m_iload_n dX8_apart_62 rfl ?_
  refine m_iconst (v := 3) dX8_apart_63 (by decide) ?_
  refine m_icmp_ne (t := 98) dX8_apart_64 (by decide) (fun c64 => ?_) (fun c64 => ?_)
  · refine m_aload_n dX8_apart_98 rfl ?_
    refine m_invV_V dX8_apart_99 lk_X8_115 ar_X8_four (ci := 8) rfl rfl (by first | assumption | rfl | exact va_up_self _ _ _ | exact (va_up_ne _ _ (by decide)).trans h1 | exact (va_up_ne _ _ (by decide)).trans h2 | exact (va_up_ne _ _ (by decide)).trans (va_up_self _ _ _)) (t_X8_four (by first | assumption | exact va_up_self _ _ _ | exact (va_up_ne _ _ (by decide)).trans h1) (va_up_self _ _ _)) rfl (Nat.le_of_ble_eq_true rfl) (by decide) (by decide) (by decide) (by decide) rfl rfl ?_
    try rw [va_uu]
    refine m_aload_n dX8_apart_102 rfl ?_
    refine m_aload_n dX8_apart_103 rfl ?_
    refine m_getfield dX8_apart_104 fl_X8_98 (by first | assumption | rfl | exact va_up_self _ _ _ | exact (va_up_ne _ _ (by decide)).trans h1 | exact (va_up_ne _ _ (by decide)).trans h2 | exact (va_up_ne _ _ (by decide)).trans (va_up_self _ _ _)) (by first | assumption | rfl | exact va_up_self _ _ _ | exact (va_up_ne _ _ (by decide)).trans h1 | exact (va_up_ne _ _ (by decide)).trans h2 | exact (va_up_ne _ _ (by decide)).trans (va_up_self _ _ _)) ?_
    show mW _ _ _ _ _ _ _ _ (.int _ :: _)
    refine m_iconst (v := 0) dX8_apart_107 (by decide) ?_
    refine m_iload_n dX8_apart_108 rfl ?_
    refine m_aload_n dX8_apart_109 rfl ?_
    refine m_getfield dX8_apart_110 fl_X8_98 (by first | assumption | rfl | exact va_up_self _ _ _ | exact (va_up_ne _ _ (by decide)).trans h1 | exact (va_up_ne _ _ (by decide)).trans h2 | exact (va_up_ne _ _ (by decide)).trans (va_up_self _ _ _)) (by first | assumption | rfl | exact va_up_self _ _ _ | exact (va_up_ne _ _ (by decide)).trans h1 | exact (va_up_ne _ _ (by decide)).trans h2 | exact (va_up_ne _ _ (by decide)).trans (va_up_self _ _ _)) ?_
    show mW _ _ _ _ _ _ _ _ (.int _ :: _)
    refine m_isub dX8_apart_113 ?_
    refine m_invV_V dX8_apart_114 lk_X8_84 ar_X8_more (ci := 8) rfl rfl (by first | assumption | rfl | exact va_up_self _ _ _ | exact (va_up_ne _ _ (by decide)).trans h1 | exact (va_up_ne _ _ (by decide)).trans h2 | exact (va_up_ne _ _ (by decide)).trans (va_up_self _ _ _)) (t_X8_more (by first | assumption | exact va_up_self _ _ _ | exact (va_up_ne _ _ (by decide)).trans h1)) rfl (Nat.le_of_ble_eq_true rfl) (by decide) (by decide) (by decide) (by decide) rfl rfl ?_
    try rw [va_uu]
    exact m_return hF dX8_apart_117 rfl rfl rfl ⟨rfl, _, _, _, by unfold apM apC; rw [if_neg hd3, if_neg (fun y => c64 (by rw [y]; rfl))]⟩
  refine m_aload_n dX8_apart_67 rfl ?_
  refine m_aload_n dX8_apart_68 rfl ?_
  refine m_getfield dX8_apart_69 fl_X8_42 (by first | assumption | rfl | exact va_up_self _ _ _ | exact (va_up_ne _ _ (by decide)).trans h1 | exact (va_up_ne _ _ (by decide)).trans h2 | exact (va_up_ne _ _ (by decide)).trans (va_up_self _ _ _)) (by first | assumption | rfl | exact va_up_self _ _ _ | exact (va_up_ne _ _ (by decide)).trans h1 | exact (va_up_ne _ _ (by decide)).trans h2 | exact (va_up_ne _ _ (by decide)).trans (va_up_self _ _ _)) ?_
  show mW _ _ _ _ _ _ _ _ (.ref _ :: _)
  refine m_iconst (v := 3) dX8_apart_72 (by decide) ?_
  refine m_laload (k := 3) dX8_apart_73 (by first | assumption | rfl | exact va_up_self _ _ _ | exact (va_up_ne _ _ (by decide)).trans h1 | exact (va_up_ne _ _ (by decide)).trans h2 | exact (va_up_ne _ _ (by decide)).trans (va_up_self _ _ _)) ⟨by decide, by decide⟩ ?_
  refine m_cl (v := mulA A (snM (A d)) 3) rfl ?_
  refine m_aload_n dX8_apart_74 rfl ?_
  refine m_getfield dX8_apart_75 fl_X8_42 (by first | assumption | rfl | exact va_up_self _ _ _ | exact (va_up_ne _ _ (by decide)).trans h1 | exact (va_up_ne _ _ (by decide)).trans h2 | exact (va_up_ne _ _ (by decide)).trans (va_up_self _ _ _)) (by first | assumption | rfl | exact va_up_self _ _ _ | exact (va_up_ne _ _ (by decide)).trans h1 | exact (va_up_ne _ _ (by decide)).trans h2 | exact (va_up_ne _ _ (by decide)).trans (va_up_self _ _ _)) ?_
  show mW _ _ _ _ _ _ _ _ (.ref _ :: _)
  refine m_iconst (v := 2) dX8_apart_78 (by decide) ?_
  refine m_laload (k := 2) dX8_apart_79 (by first | assumption | rfl | exact va_up_self _ _ _ | exact (va_up_ne _ _ (by decide)).trans h1 | exact (va_up_ne _ _ (by decide)).trans h2 | exact (va_up_ne _ _ (by decide)).trans (va_up_self _ _ _)) ⟨by decide, by decide⟩ ?_
  refine m_cl (v := mulA A (snM (A d)) 2) rfl ?_
  refine m_aload_n dX8_apart_80 rfl ?_
  refine m_getfield dX8_apart_81 fl_X8_42 (by first | assumption | rfl | exact va_up_self _ _ _ | exact (va_up_ne _ _ (by decide)).trans h1 | exact (va_up_ne _ _ (by decide)).trans h2 | exact (va_up_ne _ _ (by decide)).trans (va_up_self _ _ _)) (by first | assumption | rfl | exact va_up_self _ _ _ | exact (va_up_ne _ _ (by decide)).trans h1 | exact (va_up_ne _ _ (by decide)).trans h2 | exact (va_up_ne _ _ (by decide)).trans (va_up_self _ _ _)) ?_
  show mW _ _ _ _ _ _ _ _ (.ref _ :: _)
  refine m_iconst (v := 1) dX8_apart_84 (by decide) ?_
  refine m_laload (k := 1) dX8_apart_85 (by first | assumption | rfl | exact va_up_self _ _ _ | exact (va_up_ne _ _ (by decide)).trans h1 | exact (va_up_ne _ _ (by decide)).trans h2 | exact (va_up_ne _ _ (by decide)).trans (va_up_self _ _ _)) ⟨by decide, by decide⟩ ?_
  refine m_cl (v := mulA A (snM (A d)) 1) rfl ?_
  refine m_aload_n dX8_apart_86 rfl ?_
  refine m_getfield dX8_apart_87 fl_X8_42 (by first | assumption | rfl | exact va_up_self _ _ _ | exact (va_up_ne _ _ (by decide)).trans h1 | exact (va_up_ne _ _ (by decide)).trans h2 | exact (va_up_ne _ _ (by decide)).trans (va_up_self _ _ _)) (by first | assumption | rfl | exact va_up_self _ _ _ | exact (va_up_ne _ _ (by decide)).trans h1 | exact (va_up_ne _ _ (by decide)).trans h2 | exact (va_up_ne _ _ (by decide)).trans (va_up_self _ _ _)) ?_
  show mW _ _ _ _ _ _ _ _ (.ref _ :: _)
  refine m_iconst (v := 0) dX8_apart_90 (by decide) ?_
  refine m_laload (k := 0) dX8_apart_91 (by first | assumption | rfl | exact va_up_self _ _ _ | exact (va_up_ne _ _ (by decide)).trans h1 | exact (va_up_ne _ _ (by decide)).trans h2 | exact (va_up_ne _ _ (by decide)).trans (va_up_self _ _ _)) ⟨by decide, by decide⟩ ?_
  refine m_cl (v := mulA A (snM (A d)) 0) rfl ?_
  refine m_invV_V dX8_apart_92 lk_X8_111 ar_X8_three (ci := 8) rfl rfl (by first | assumption | rfl | exact va_up_self _ _ _ | exact (va_up_ne _ _ (by decide)).trans h1 | exact (va_up_ne _ _ (by decide)).trans h2 | exact (va_up_ne _ _ (by decide)).trans (va_up_self _ _ _)) (t_X8_three (by first | assumption | exact va_up_self _ _ _ | exact (va_up_ne _ _ (by decide)).trans h1)) rfl (Nat.le_of_ble_eq_true rfl) (by decide) (by decide) (by decide) (by decide) rfl rfl ?_
  try rw [va_uu]
  refine m_goto (t := 102) dX8_apart_95 (by decide) ?_
  refine m_aload_n dX8_apart_102 rfl ?_
  refine m_aload_n dX8_apart_103 rfl ?_
  refine m_getfield dX8_apart_104 fl_X8_98 (by first | assumption | rfl | exact va_up_self _ _ _ | exact (va_up_ne _ _ (by decide)).trans h1 | exact (va_up_ne _ _ (by decide)).trans h2 | exact (va_up_ne _ _ (by decide)).trans (va_up_self _ _ _)) (by first | assumption | rfl | exact va_up_self _ _ _ | exact (va_up_ne _ _ (by decide)).trans h1 | exact (va_up_ne _ _ (by decide)).trans h2 | exact (va_up_ne _ _ (by decide)).trans (va_up_self _ _ _)) ?_
  show mW _ _ _ _ _ _ _ _ (.int _ :: _)
  refine m_iconst (v := 0) dX8_apart_107 (by decide) ?_
  refine m_iload_n dX8_apart_108 rfl ?_
  refine m_aload_n dX8_apart_109 rfl ?_
  refine m_getfield dX8_apart_110 fl_X8_98 (by first | assumption | rfl | exact va_up_self _ _ _ | exact (va_up_ne _ _ (by decide)).trans h1 | exact (va_up_ne _ _ (by decide)).trans h2 | exact (va_up_ne _ _ (by decide)).trans (va_up_self _ _ _)) (by first | assumption | rfl | exact va_up_self _ _ _ | exact (va_up_ne _ _ (by decide)).trans h1 | exact (va_up_ne _ _ (by decide)).trans h2 | exact (va_up_ne _ _ (by decide)).trans (va_up_self _ _ _)) ?_
  show mW _ _ _ _ _ _ _ _ (.int _ :: _)
  refine m_isub dX8_apart_113 ?_
  refine m_invV_V dX8_apart_114 lk_X8_84 ar_X8_more (ci := 8) rfl rfl (by first | assumption | rfl | exact va_up_self _ _ _ | exact (va_up_ne _ _ (by decide)).trans h1 | exact (va_up_ne _ _ (by decide)).trans h2 | exact (va_up_ne _ _ (by decide)).trans (va_up_self _ _ _)) (t_X8_more (by first | assumption | exact va_up_self _ _ _ | exact (va_up_ne _ _ (by decide)).trans h1)) rfl (Nat.le_of_ble_eq_true rfl) (by decide) (by decide) (by decide) (by decide) rfl rfl ?_
  try rw [va_uu]
  exact m_return hF dX8_apart_117 rfl rfl rfl ⟨rfl, _, _, _, by unfold apM apC; rw [if_neg hd3, if_pos ((nI_eq (b := 3) (by omega) (by decide)).mp c64)]⟩

