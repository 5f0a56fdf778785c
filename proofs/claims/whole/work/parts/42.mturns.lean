/-! ===== the reference: turns ===== -/
/-- times (1 + b w), of what is of degree at most 3, in place from above -/
def prM (b : Int32) (P : Nat → Int64) : Nat → Int64 := va_up (va_up (va_up (va_up (va_up P 4 (P 4 + b.toInt64 * P 3)) 3 (P 3 + b.toInt64 * P 2)) 2 (P 2 + b.toInt64 * P 1)) 1 (P 1 + b.toInt64 * P 0)) 0 (P 0 + 0)
set_option maxHeartbeats 400000 in
set_option maxRecDepth 100000 in
theorem t_X8_multiplies {n : Nat} {hp : mHp} {b : Int32} {ac ia tm ri ev le ch ls rm sm ra fa : Int32} (h1 : hp 67 = eO 8 (oMod ac ia tm ri ev le ch ls rm sm ra fa)) {P : Nat → Int64} (h2 : hp 79 = eL 5 P) : mC D_X8_multiplies [.ref 67, .int b] n hp (rV (va_up hp 79 (eL 5 (prM b P)))) := by
  refine m_enter rfl rfl (Nat.le_of_ble_eq_true rfl) (fun K hF => ?_)
  show mW K _ 0 0 _ _ 0 [.ref 67, .int b, .retAddr 0] []
  have y1 : ∀ f : mE, va_up hp 79 f 67 = _ := fun f => (va_up_ne _ _ (by decide)).trans h1
  refine m_iconst (v := 4) dX8_multiplies_0 (by decide) ?_
  refine m_istore_n dX8_multiplies_1 (by decide) ?_
  show mW _ _ _ _ _ _ 2 [_, _, _] _
  refine m_iload_n dX8_multiplies_2 rfl ?_
  refine m_if_lt (t := 40) dX8_multiplies_3 (by decide) (fun q => absurd q (by decide)) (fun _ => ?_)
  refine m_aload_n dX8_multiplies_6 rfl ?_
  refine m_getfield dX8_multiplies_7 fl_X8_48 (by first | assumption | rfl | exact y1 _ | exact va_up_self _ _ _) (by first | assumption | rfl | exact y1 _ | exact va_up_self _ _ _) ?_
  show mW _ _ _ _ _ _ _ _ (.ref _ :: _)
  refine m_iload_n dX8_multiplies_10 rfl ?_
  refine m_dup2 dX8_multiplies_11 rfl rfl ?_
  refine m_laload (k := 4) dX8_multiplies_12 (by first | assumption | rfl | exact y1 _ | exact va_up_self _ _ _) ⟨by decide, by decide⟩ ?_
  refine m_cl (v := P 4) rfl ?_
  refine m_iload_n dX8_multiplies_13 rfl ?_
  refine m_if_le (t := 31) dX8_multiplies_14 (by decide) (fun q => absurd q (by decide)) (fun _ => ?_)
  refine m_iload_n dX8_multiplies_17 rfl ?_
  refine m_i2l dX8_multiplies_18 ?_
  refine m_aload_n dX8_multiplies_19 rfl ?_
  refine m_getfield dX8_multiplies_20 fl_X8_48 (by first | assumption | rfl | exact y1 _ | exact va_up_self _ _ _) (by first | assumption | rfl | exact y1 _ | exact va_up_self _ _ _) ?_
  show mW _ _ _ _ _ _ _ _ (.ref _ :: _)
  refine m_iload_n dX8_multiplies_23 rfl ?_
  refine m_iconst (v := 1) dX8_multiplies_24 (by decide) ?_
  refine m_isub dX8_multiplies_25 ?_
  refine m_ci (v := 3) (by decide) ?_
  refine m_laload (k := 3) dX8_multiplies_26 (by first | assumption | rfl | exact y1 _ | exact va_up_self _ _ _) ⟨by decide, by decide⟩ ?_
  refine m_cl (v := P 3) rfl ?_
  refine m_lmul dX8_multiplies_27 ?_
  refine m_goto (t := 32) dX8_multiplies_28 (by decide) ?_
  refine m_ladd dX8_multiplies_32 ?_
  refine m_lastore (k := 4) dX8_multiplies_33 (by first | assumption | rfl | exact y1 _ | exact va_up_self _ _ _) ⟨by decide, by decide⟩ ?_
  try rw [va_uu]
  refine m_iinc (v := 3) dX8_multiplies_34 rfl (by decide) (by decide) ?_
  show mW _ _ _ _ _ _ 37 [_, _, _] _
  refine m_goto (t := 2) dX8_multiplies_37 (by decide) ?_
  refine m_iload_n dX8_multiplies_2 rfl ?_
  refine m_if_lt (t := 40) dX8_multiplies_3 (by decide) (fun q => absurd q (by decide)) (fun _ => ?_)
  refine m_aload_n dX8_multiplies_6 rfl ?_
  refine m_getfield dX8_multiplies_7 fl_X8_48 (by first | assumption | rfl | exact y1 _ | exact va_up_self _ _ _) (by first | assumption | rfl | exact y1 _ | exact va_up_self _ _ _) ?_
  show mW _ _ _ _ _ _ _ _ (.ref _ :: _)
  refine m_iload_n dX8_multiplies_10 rfl ?_
  refine m_dup2 dX8_multiplies_11 rfl rfl ?_
  refine m_laload (k := 3) dX8_multiplies_12 (by first | assumption | rfl | exact y1 _ | exact va_up_self _ _ _) ⟨by decide, by decide⟩ ?_
  refine m_cl (v := P 3) rfl ?_
  refine m_iload_n dX8_multiplies_13 rfl ?_
  refine m_if_le (t := 31) dX8_multiplies_14 (by decide) (fun q => absurd q (by decide)) (fun _ => ?_)
  refine m_iload_n dX8_multiplies_17 rfl ?_
  refine m_i2l dX8_multiplies_18 ?_
  refine m_aload_n dX8_multiplies_19 rfl ?_
  refine m_getfield dX8_multiplies_20 fl_X8_48 (by first | assumption | rfl | exact y1 _ | exact va_up_self _ _ _) (by first | assumption | rfl | exact y1 _ | exact va_up_self _ _ _) ?_
  show mW _ _ _ _ _ _ _ _ (.ref _ :: _)
  refine m_iload_n dX8_multiplies_23 rfl ?_
  refine m_iconst (v := 1) dX8_multiplies_24 (by decide) ?_
  refine m_isub dX8_multiplies_25 ?_
  refine m_ci (v := 2) (by decide) ?_
  refine m_laload (k := 2) dX8_multiplies_26 (by first | assumption | rfl | exact y1 _ | exact va_up_self _ _ _) ⟨by decide, by decide⟩ ?_
  refine m_cl (v := P 2) rfl ?_
  refine m_lmul dX8_multiplies_27 ?_
  refine m_goto (t := 32) dX8_multiplies_28 (by decide) ?_
  refine m_ladd dX8_multiplies_32 ?_
  refine m_lastore (k := 3) dX8_multiplies_33 (by first | assumption | rfl | exact y1 _ | exact va_up_self _ _ _) ⟨by decide, by decide⟩ ?_
  try rw [va_uu]
  refine m_iinc (v := 2) dX8_multiplies_34 rfl (by decide) (by decide) ?_
  show mW _ _ _ _ _ _ 37 [_, _, _] _
  refine m_goto (t := 2) dX8_multiplies_37 (by decide) ?_
  refine m_iload_n dX8_multiplies_2 rfl ?_
  refine m_if_lt (t := 40) dX8_multiplies_3 (by decide) (fun q => absurd q (by decide)) (fun _ => ?_)
  refine m_aload_n dX8_multiplies_6 rfl ?_
  refine m_getfield dX8_multiplies_7 fl_X8_48 (by first | assumption | rfl | exact y1 _ | exact va_up_self _ _ _) (by first | assumption | rfl | exact y1 _ | exact va_up_self _ _ _) ?_
  show mW _ _ _ _ _ _ _ _ (.ref _ :: _)
  refine m_iload_n dX8_multiplies_10 rfl ?_
  refine m_dup2 dX8_multiplies_11 rfl rfl ?_
  refine m_laload (k := 2) dX8_multiplies_12 (by first | assumption | rfl | exact y1 _ | exact va_up_self _ _ _) ⟨by decide, by decide⟩ ?_
  refine m_cl (v := P 2) rfl ?_
  refine m_iload_n dX8_multiplies_13 rfl ?_
  refine m_if_le (t := 31) dX8_multiplies_14 (by decide) (fun q => absurd q (by decide)) (fun _ => ?_)
  refine m_iload_n dX8_multiplies_17 rfl ?_
  refine m_i2l dX8_multiplies_18 ?_
  refine m_aload_n dX8_multiplies_19 rfl ?_
  refine m_getfield dX8_multiplies_20 fl_X8_48 (by first | assumption | rfl | exact y1 _ | exact va_up_self _ _ _) (by first | assumption | rfl | exact y1 _ | exact va_up_self _ _ _) ?_
  show mW _ _ _ _ _ _ _ _ (.ref _ :: _)
  refine m_iload_n dX8_multiplies_23 rfl ?_
  refine m_iconst (v := 1) dX8_multiplies_24 (by decide) ?_
  refine m_isub dX8_multiplies_25 ?_
  refine m_ci (v := 1) (by decide) ?_
  refine m_laload (k := 1) dX8_multiplies_26 (by first | assumption | rfl | exact y1 _ | exact va_up_self _ _ _) ⟨by decide, by decide⟩ ?_
  refine m_cl (v := P 1) rfl ?_
  refine m_lmul dX8_multiplies_27 ?_
  refine m_goto (t := 32) dX8_multiplies_28 (by decide) ?_
  refine m_ladd dX8_multiplies_32 ?_
  refine m_lastore (k := 2) dX8_multiplies_33 (by first | assumption | rfl | exact y1 _ | exact va_up_self _ _ _) ⟨by decide, by decide⟩ ?_
  try rw [va_uu]
  refine m_iinc (v := 1) dX8_multiplies_34 rfl (by decide) (by decide) ?_
  show mW _ _ _ _ _ _ 37 [_, _, _] _
  refine m_goto (t := 2) dX8_multiplies_37 (by decide) ?_
  refine m_iload_n dX8_multiplies_2 rfl ?_
  refine m_if_lt (t := 40) dX8_multiplies_3 (by decide) (fun q => absurd q (by decide)) (fun _ => ?_)
  refine m_aload_n dX8_multiplies_6 rfl ?_
  refine m_getfield dX8_multiplies_7 fl_X8_48 (by first | assumption | rfl | exact y1 _ | exact va_up_self _ _ _) (by first | assumption | rfl | exact y1 _ | exact va_up_self _ _ _) ?_
  show mW _ _ _ _ _ _ _ _ (.ref _ :: _)
  refine m_iload_n dX8_multiplies_10 rfl ?_
  refine m_dup2 dX8_multiplies_11 rfl rfl ?_
  refine m_laload (k := 1) dX8_multiplies_12 (by first | assumption | rfl | exact y1 _ | exact va_up_self _ _ _) ⟨by decide, by decide⟩ ?_
  refine m_cl (v := P 1) rfl ?_
  refine m_iload_n dX8_multiplies_13 rfl ?_
  refine m_if_le (t := 31) dX8_multiplies_14 (by decide) (fun q => absurd q (by decide)) (fun _ => ?_)
  refine m_iload_n dX8_multiplies_17 rfl ?_
  refine m_i2l dX8_multiplies_18 ?_
  refine m_aload_n dX8_multiplies_19 rfl ?_
  refine m_getfield dX8_multiplies_20 fl_X8_48 (by first | assumption | rfl | exact y1 _ | exact va_up_self _ _ _) (by first | assumption | rfl | exact y1 _ | exact va_up_self _ _ _) ?_
  show mW _ _ _ _ _ _ _ _ (.ref _ :: _)
  refine m_iload_n dX8_multiplies_23 rfl ?_
  refine m_iconst (v := 1) dX8_multiplies_24 (by decide) ?_
  refine m_isub dX8_multiplies_25 ?_
  refine m_ci (v := 0) (by decide) ?_
  refine m_laload (k := 0) dX8_multiplies_26 (by first | assumption | rfl | exact y1 _ | exact va_up_self _ _ _) ⟨by decide, by decide⟩ ?_
  refine m_cl (v := P 0) rfl ?_
  refine m_lmul dX8_multiplies_27 ?_
  refine m_goto (t := 32) dX8_multiplies_28 (by decide) ?_
  refine m_ladd dX8_multiplies_32 ?_
  refine m_lastore (k := 1) dX8_multiplies_33 (by first | assumption | rfl | exact y1 _ | exact va_up_self _ _ _) ⟨by decide, by decide⟩ ?_
  try rw [va_uu]
  refine m_iinc (v := 0) dX8_multiplies_34 rfl (by decide) (by decide) ?_
  show mW _ _ _ _ _ _ 37 [_, _, _] _
  refine m_goto (t := 2) dX8_multiplies_37 (by decide) ?_
  refine m_iload_n dX8_multiplies_2 rfl ?_
  refine m_if_lt (t := 40) dX8_multiplies_3 (by decide) (fun q => absurd q (by decide)) (fun _ => ?_)
  refine m_aload_n dX8_multiplies_6 rfl ?_
  refine m_getfield dX8_multiplies_7 fl_X8_48 (by first | assumption | rfl | exact y1 _ | exact va_up_self _ _ _) (by first | assumption | rfl | exact y1 _ | exact va_up_self _ _ _) ?_
  show mW _ _ _ _ _ _ _ _ (.ref _ :: _)
  refine m_iload_n dX8_multiplies_10 rfl ?_
  refine m_dup2 dX8_multiplies_11 rfl rfl ?_
  refine m_laload (k := 0) dX8_multiplies_12 (by first | assumption | rfl | exact y1 _ | exact va_up_self _ _ _) ⟨by decide, by decide⟩ ?_
  refine m_cl (v := P 0) rfl ?_
  refine m_iload_n dX8_multiplies_13 rfl ?_
  refine m_if_le (t := 31) dX8_multiplies_14 (by decide) (fun _ => ?_) (fun q => absurd (by decide) q)
  refine m_lconst (v := 0) dX8_multiplies_31 (by decide) ?_
  refine m_ladd dX8_multiplies_32 ?_
  refine m_lastore (k := 0) dX8_multiplies_33 (by first | assumption | rfl | exact y1 _ | exact va_up_self _ _ _) ⟨by decide, by decide⟩ ?_
  try rw [va_uu]
  refine m_iinc (v := -1) dX8_multiplies_34 rfl (by decide) (by decide) ?_
  show mW _ _ _ _ _ _ 37 [_, _, _] _
  refine m_goto (t := 2) dX8_multiplies_37 (by decide) ?_
  refine m_iload_n dX8_multiplies_2 rfl ?_
  refine m_if_lt (t := 40) dX8_multiplies_3 (by decide) (fun _ => ?_) (fun q => absurd (by decide) q)
  exact m_return hF dX8_multiplies_40 rfl rfl rfl ⟨rfl, rfl⟩

def mltR (j : Nat) : Nat → Nat → (Nat → Int64) → Nat → Int64
  | 0, _, P => P
  | r + 1, i, P => mltR j r (i + 1) (prM (if nI j ≤ nI i then -1 else 1) P)
set_option maxHeartbeats 400000 in
set_option maxRecDepth 100000 in
theorem l_turnI {n : Nat} {hp : mHp} {ac ia tm ri ev le ch ls rm sm ra fa : Int32} (h1 : hp 67 = eO 8 (oMod ac ia tm ri ev le ch ls rm sm ra fa)) {d j : Nat} (hd : d ≤ 4) (hj : j ≤ 4) {K : mK} : ∀ (r i : Nat) (P : Nat → Int64), i + r = d → mW K D_X8_turns 0 0 n (va_up hp 79 (eL 5 (mltR j r i P))) 87 [.ref 67, .int (nI d), .int (nI j), .int (nI d)] [] → mW K D_X8_turns 0 0 n (va_up hp 79 (eL 5 P)) 62 [.ref 67, .int (nI d), .int (nI j), .int (nI i)] [] := by
  intro r
  induction r using Nat.strongRecOn with
  | ind r ih =>
    intro i P hir kk
    refine m_iload_n dX8_turns_62 rfl ?_
    refine m_iload_n dX8_turns_63 rfl ?_
    refine m_icmp_ge (t := 87) dX8_turns_64 (by decide) (fun cc => ?_) (fun cc => ?_)
    · have hm : r = 0 := by have := nI_cmp' (by omega) (by omega) cc; omega
      subst hm
      obtain rfl : i = d := by omega
      exact kk
    have hlt : i < d := nI_cmp (by omega) (by omega) cc
    obtain ⟨r, rfl⟩ : ∃ r', r = r' + 1 := ⟨r - 1, by omega⟩
    refine m_aload_n dX8_turns_67 rfl ?_
    refine m_iload_n dX8_turns_68 rfl ?_
    refine m_iload_n dX8_turns_69 rfl ?_
    refine m_tern_I (J := 78) (x := -1) (y := 1) (m_icmp_ge (t := 77) dX8_turns_70 (by decide)) (fun k9 => ?_) (fun k9 => ?_) ?_
    · refine m_iconst (v := -1) dX8_turns_77 (by decide) ?_
      exact k9
    · refine m_iconst (v := 1) dX8_turns_73 (by decide) ?_
      refine m_goto (t := 78) dX8_turns_74 (by decide) ?_
      exact k9
    refine m_invV_V dX8_turns_78 lk_X8_128 ar_X8_multiplies (ci := 8) rfl rfl (by first | exact (va_up_ne _ _ (by decide)).trans h1 | rfl | exact va_up_self _ _ _) (t_X8_multiplies (by first | assumption | exact (va_up_ne _ _ (by decide)).trans h1) (va_up_self _ _ _)) rfl (Nat.le_of_ble_eq_true rfl) (by decide) (by decide) (by decide) (by decide) rfl rfl ?_
    try rw [va_uu]
    refine m_iinc (v := nI (i + 1)) dX8_turns_81 rfl (nI_1 i) (by decide) ?_
    show mW _ _ _ _ _ _ 84 [_, _, _, _] _
    refine m_goto (t := 62) dX8_turns_84 (by decide) ?_
    exact ih r (by omega) (i + 1) _ (by omega) kk

def stZ (Z : Nat → Int64) (j k : Nat) : Int64 := if k = 0 then Z j else 0
def trP (Z Pr : Nat → Int64) (d j : Nat) : Nat → Int64 := mltR j d 0 (fill5 (stZ Z j) Pr)
def adP (T P : Nat → Int64) : Nat → Int64 := fill5 (fun k => T k + P k) T
def trR (Z : Nat → Int64) (d : Nat) : Nat → Nat → (Nat → Int64) → (Nat → Int64) → (Nat → Int64) × (Nat → Int64)
  | 0, _, T, Pr => (T, Pr)
  | r + 1, j, T, Pr => trR Z d r (j + 1) (adP T (trP Z Pr d j)) (trP Z Pr d j)
theorem up_5 {hp : mHp} {a b c : mE} : va_up (va_up (va_up hp 78 a) 79 b) 78 c = va_up (va_up hp 78 c) 79 b := by
  rw [va_uc (va_up hp 78 a) b c (by decide), va_uu]
set_option maxHeartbeats 400000 in
set_option maxRecDepth 100000 in
theorem l_turnJ {n : Nat} {hp : mHp} {ac ia tm ri ev le ch ls rm sm ra fa : Int32} (h1 : hp 67 = eO 8 (oMod ac ia tm ri ev le ch ls rm sm ra fa)) {Z : Nat → Int64} (hZ : hp 76 = eL 5 Z) {d : Nat} (hd : d ≤ 4) {K : mK} : ∀ (r j : Nat) (T Pr : Nat → Int64) (v3 : Value), j + r = d + 1 → (∀ v3 : Value, mW K D_X8_turns 0 0 n (va_up (va_up hp 78 (eL 5 (trR Z d r j T Pr).1)) 79 (eL 5 (trR Z d r j T Pr).2)) 121 [.ref 67, .int (nI d), .int (nI (d + 1)), v3] []) → mW K D_X8_turns 0 0 n (va_up (va_up hp 78 (eL 5 T)) 79 (eL 5 Pr)) 22 [.ref 67, .int (nI d), .int (nI j), v3] [] := by
  intro r
  induction r using Nat.strongRecOn with
  | ind r ih =>
    intro j T Pr v3 hjr kk
    refine m_iload_n dX8_turns_22 rfl ?_
    refine m_iload_n dX8_turns_23 rfl ?_
    refine m_icmp_gt (t := 121) dX8_turns_24 (by decide) (fun cc => ?_) (fun cc => ?_)
    · have hm : r = 0 := by have q := Int32.lt_iff_toInt_lt.mp cc; rw [nI_toInt (by omega), nI_toInt (by omega)] at q; omega
      subst hm
      obtain rfl : j = d + 1 := by omega
      exact kk _
    have hlt : j ≤ d := by have : ¬ d < j := fun q => cc (by rw [Int32.lt_iff_toInt_lt, nI_toInt (by omega), nI_toInt (by omega)]; omega); omega
    obtain ⟨r, rfl⟩ : ∃ r', r = r' + 1 := ⟨r - 1, by omega⟩
    refine m_iconst (v := 0) dX8_turns_27 (by decide) ?_
    refine m_istore_n dX8_turns_28 (by decide) ?_
    show mW _ _ _ _ _ _ 29 [_, _, _, _] _
    refine m_iload_n dX8_turns_29 rfl ?_
    refine m_iconst (v := 5) dX8_turns_30 (by decide) ?_
    refine m_icmp_ge (t := 60) dX8_turns_31 (by decide) (fun q => absurd q (by decide)) (fun _ => ?_)
    refine m_aload_n dX8_turns_34 rfl ?_
    refine m_getfield dX8_turns_35 fl_X8_48 (by first | exact (va_up_ne _ _ (by decide)).trans ((va_up_ne _ _ (by decide)).trans h1) | rfl | exact va_up_self _ _ _ | exact (va_up_ne _ _ (by decide)).trans (va_up_self _ _ _) | exact (va_up_ne _ _ (by decide)).trans ((va_up_ne _ _ (by decide)).trans hZ) | exact (va_up_ne _ _ (by decide)).trans ((va_up_ne _ _ (by decide)).trans ((va_up_ne _ _ (by decide)).trans h1)) | exact (va_up_ne _ _ (by decide)).trans ((va_up_ne _ _ (by decide)).trans (va_up_self _ _ _))) (by first | exact (va_up_ne _ _ (by decide)).trans ((va_up_ne _ _ (by decide)).trans h1) | rfl | exact va_up_self _ _ _ | exact (va_up_ne _ _ (by decide)).trans (va_up_self _ _ _) | exact (va_up_ne _ _ (by decide)).trans ((va_up_ne _ _ (by decide)).trans hZ) | exact (va_up_ne _ _ (by decide)).trans ((va_up_ne _ _ (by decide)).trans ((va_up_ne _ _ (by decide)).trans h1)) | exact (va_up_ne _ _ (by decide)).trans ((va_up_ne _ _ (by decide)).trans (va_up_self _ _ _))) ?_
    show mW _ _ _ _ _ _ _ _ (.ref _ :: _)
    refine m_iload_n dX8_turns_38 rfl ?_
    refine m_iload_n dX8_turns_39 rfl ?_
    refine m_if_ne (t := 52) dX8_turns_40 (by decide) (fun q => absurd rfl q) (fun _ => ?_)
    refine m_aload_n dX8_turns_43 rfl ?_
    refine m_getfield dX8_turns_44 fl_X8_39 (by first | exact (va_up_ne _ _ (by decide)).trans ((va_up_ne _ _ (by decide)).trans h1) | rfl | exact va_up_self _ _ _ | exact (va_up_ne _ _ (by decide)).trans (va_up_self _ _ _) | exact (va_up_ne _ _ (by decide)).trans ((va_up_ne _ _ (by decide)).trans hZ) | exact (va_up_ne _ _ (by decide)).trans ((va_up_ne _ _ (by decide)).trans ((va_up_ne _ _ (by decide)).trans h1)) | exact (va_up_ne _ _ (by decide)).trans ((va_up_ne _ _ (by decide)).trans (va_up_self _ _ _))) (by first | exact (va_up_ne _ _ (by decide)).trans ((va_up_ne _ _ (by decide)).trans h1) | rfl | exact va_up_self _ _ _ | exact (va_up_ne _ _ (by decide)).trans (va_up_self _ _ _) | exact (va_up_ne _ _ (by decide)).trans ((va_up_ne _ _ (by decide)).trans hZ) | exact (va_up_ne _ _ (by decide)).trans ((va_up_ne _ _ (by decide)).trans ((va_up_ne _ _ (by decide)).trans h1)) | exact (va_up_ne _ _ (by decide)).trans ((va_up_ne _ _ (by decide)).trans (va_up_self _ _ _))) ?_
    show mW _ _ _ _ _ _ _ _ (.ref _ :: _)
    refine m_iload_n dX8_turns_47 rfl ?_
    refine m_laload dX8_turns_48 (by first | exact (va_up_ne _ _ (by decide)).trans ((va_up_ne _ _ (by decide)).trans h1) | rfl | exact va_up_self _ _ _ | exact (va_up_ne _ _ (by decide)).trans (va_up_self _ _ _) | exact (va_up_ne _ _ (by decide)).trans ((va_up_ne _ _ (by decide)).trans hZ) | exact (va_up_ne _ _ (by decide)).trans ((va_up_ne _ _ (by decide)).trans ((va_up_ne _ _ (by decide)).trans h1)) | exact (va_up_ne _ _ (by decide)).trans ((va_up_ne _ _ (by decide)).trans (va_up_self _ _ _))) (mIx_lit (show j < 5 by omega) (by decide)) ?_
    refine m_goto (t := 53) dX8_turns_49 (by decide) ?_
    refine m_lastore (k := 0) dX8_turns_53 (by first | exact (va_up_ne _ _ (by decide)).trans ((va_up_ne _ _ (by decide)).trans h1) | rfl | exact va_up_self _ _ _ | exact (va_up_ne _ _ (by decide)).trans (va_up_self _ _ _) | exact (va_up_ne _ _ (by decide)).trans ((va_up_ne _ _ (by decide)).trans hZ) | exact (va_up_ne _ _ (by decide)).trans ((va_up_ne _ _ (by decide)).trans ((va_up_ne _ _ (by decide)).trans h1)) | exact (va_up_ne _ _ (by decide)).trans ((va_up_ne _ _ (by decide)).trans (va_up_self _ _ _))) ⟨by decide, by decide⟩ ?_
    try rw [va_uu]
    refine m_iinc (v := 1) dX8_turns_54 rfl (by decide) (by decide) ?_
    show mW _ _ _ _ _ _ 57 [_, _, _, _] _
    refine m_goto (t := 29) dX8_turns_57 (by decide) ?_
    refine m_iload_n dX8_turns_29 rfl ?_
    refine m_iconst (v := 5) dX8_turns_30 (by decide) ?_
    refine m_icmp_ge (t := 60) dX8_turns_31 (by decide) (fun q => absurd q (by decide)) (fun _ => ?_)
    refine m_aload_n dX8_turns_34 rfl ?_
    refine m_getfield dX8_turns_35 fl_X8_48 (by first | exact (va_up_ne _ _ (by decide)).trans ((va_up_ne _ _ (by decide)).trans h1) | rfl | exact va_up_self _ _ _ | exact (va_up_ne _ _ (by decide)).trans (va_up_self _ _ _) | exact (va_up_ne _ _ (by decide)).trans ((va_up_ne _ _ (by decide)).trans hZ) | exact (va_up_ne _ _ (by decide)).trans ((va_up_ne _ _ (by decide)).trans ((va_up_ne _ _ (by decide)).trans h1)) | exact (va_up_ne _ _ (by decide)).trans ((va_up_ne _ _ (by decide)).trans (va_up_self _ _ _))) (by first | exact (va_up_ne _ _ (by decide)).trans ((va_up_ne _ _ (by decide)).trans h1) | rfl | exact va_up_self _ _ _ | exact (va_up_ne _ _ (by decide)).trans (va_up_self _ _ _) | exact (va_up_ne _ _ (by decide)).trans ((va_up_ne _ _ (by decide)).trans hZ) | exact (va_up_ne _ _ (by decide)).trans ((va_up_ne _ _ (by decide)).trans ((va_up_ne _ _ (by decide)).trans h1)) | exact (va_up_ne _ _ (by decide)).trans ((va_up_ne _ _ (by decide)).trans (va_up_self _ _ _))) ?_
    show mW _ _ _ _ _ _ _ _ (.ref _ :: _)
    refine m_iload_n dX8_turns_38 rfl ?_
    refine m_iload_n dX8_turns_39 rfl ?_
    refine m_if_ne (t := 52) dX8_turns_40 (by decide) (fun _ => ?_) (fun q => absurd q (by decide))
    refine m_lconst (v := 0) dX8_turns_52 (by decide) ?_
    refine m_lastore (k := 1) dX8_turns_53 (by first | exact (va_up_ne _ _ (by decide)).trans ((va_up_ne _ _ (by decide)).trans h1) | rfl | exact va_up_self _ _ _ | exact (va_up_ne _ _ (by decide)).trans (va_up_self _ _ _) | exact (va_up_ne _ _ (by decide)).trans ((va_up_ne _ _ (by decide)).trans hZ) | exact (va_up_ne _ _ (by decide)).trans ((va_up_ne _ _ (by decide)).trans ((va_up_ne _ _ (by decide)).trans h1)) | exact (va_up_ne _ _ (by decide)).trans ((va_up_ne _ _ (by decide)).trans (va_up_self _ _ _))) ⟨by decide, by decide⟩ ?_
    try rw [va_uu]
    refine m_iinc (v := 2) dX8_turns_54 rfl (by decide) (by decide) ?_
    show mW _ _ _ _ _ _ 57 [_, _, _, _] _
    refine m_goto (t := 29) dX8_turns_57 (by decide) ?_
    refine m_iload_n dX8_turns_29 rfl ?_
    refine m_iconst (v := 5) dX8_turns_30 (by decide) ?_
    refine m_icmp_ge (t := 60) dX8_turns_31 (by decide) (fun q => absurd q (by decide)) (fun _ => ?_)
    refine m_aload_n dX8_turns_34 rfl ?_
    refine m_getfield dX8_turns_35 fl_X8_48 (by first | exact (va_up_ne _ _ (by decide)).trans ((va_up_ne _ _ (by decide)).trans h1) | rfl | exact va_up_self _ _ _ | exact (va_up_ne _ _ (by decide)).trans (va_up_self _ _ _) | exact (va_up_ne _ _ (by decide)).trans ((va_up_ne _ _ (by decide)).trans hZ) | exact (va_up_ne _ _ (by decide)).trans ((va_up_ne _ _ (by decide)).trans ((va_up_ne _ _ (by decide)).trans h1)) | exact (va_up_ne _ _ (by decide)).trans ((va_up_ne _ _ (by decide)).trans (va_up_self _ _ _))) (by first | exact (va_up_ne _ _ (by decide)).trans ((va_up_ne _ _ (by decide)).trans h1) | rfl | exact va_up_self _ _ _ | exact (va_up_ne _ _ (by decide)).trans (va_up_self _ _ _) | exact (va_up_ne _ _ (by decide)).trans ((va_up_ne _ _ (by decide)).trans hZ) | exact (va_up_ne _ _ (by decide)).trans ((va_up_ne _ _ (by decide)).trans ((va_up_ne _ _ (by decide)).trans h1)) | exact (va_up_ne _ _ (by decide)).trans ((va_up_ne _ _ (by decide)).trans (va_up_self _ _ _))) ?_
    show mW _ _ _ _ _ _ _ _ (.ref _ :: _)
    refine m_iload_n dX8_turns_38 rfl ?_
    refine m_iload_n dX8_turns_39 rfl ?_
    refine m_if_ne (t := 52) dX8_turns_40 (by decide) (fun _ => ?_) (fun q => absurd q (by decide))
    refine m_lconst (v := 0) dX8_turns_52 (by decide) ?_
    refine m_lastore (k := 2) dX8_turns_53 (by first | exact (va_up_ne _ _ (by decide)).trans ((va_up_ne _ _ (by decide)).trans h1) | rfl | exact va_up_self _ _ _ | exact (va_up_ne _ _ (by decide)).trans (va_up_self _ _ _) | exact (va_up_ne _ _ (by decide)).trans ((va_up_ne _ _ (by decide)).trans hZ) | exact (va_up_ne _ _ (by decide)).trans ((va_up_ne _ _ (by decide)).trans ((va_up_ne _ _ (by decide)).trans h1)) | exact (va_up_ne _ _ (by decide)).trans ((va_up_ne _ _ (by decide)).trans (va_up_self _ _ _))) ⟨by decide, by decide⟩ ?_
    try rw [va_uu]
    refine m_iinc (v := 3) dX8_turns_54 rfl (by decide) (by decide) ?_
    show mW _ _ _ _ _ _ 57 [_, _, _, _] _
    refine m_goto (t := 29) dX8_turns_57 (by decide) ?_
    refine m_iload_n dX8_turns_29 rfl ?_
    refine m_iconst (v := 5) dX8_turns_30 (by decide) ?_
    refine m_icmp_ge (t := 60) dX8_turns_31 (by decide) (fun q => absurd q (by decide)) (fun _ => ?_)
    refine m_aload_n dX8_turns_34 rfl ?_
    refine m_getfield dX8_turns_35 fl_X8_48 (by first | exact (va_up_ne _ _ (by decide)).trans ((va_up_ne _ _ (by decide)).trans h1) | rfl | exact va_up_self _ _ _ | exact (va_up_ne _ _ (by decide)).trans (va_up_self _ _ _) | exact (va_up_ne _ _ (by decide)).trans ((va_up_ne _ _ (by decide)).trans hZ) | exact (va_up_ne _ _ (by decide)).trans ((va_up_ne _ _ (by decide)).trans ((va_up_ne _ _ (by decide)).trans h1)) | exact (va_up_ne _ _ (by decide)).trans ((va_up_ne _ _ (by decide)).trans (va_up_self _ _ _))) (by first | exact (va_up_ne _ _ (by decide)).trans ((va_up_ne _ _ (by decide)).trans h1) | rfl | exact va_up_self _ _ _ | exact (va_up_ne _ _ (by decide)).trans (va_up_self _ _ _) | exact (va_up_ne _ _ (by decide)).trans ((va_up_ne _ _ (by decide)).trans hZ) | exact (va_up_ne _ _ (by decide)).trans ((va_up_ne _ _ (by decide)).trans ((va_up_ne _ _ (by decide)).trans h1)) | exact (va_up_ne _ _ (by decide)).trans ((va_up_ne _ _ (by decide)).trans (va_up_self _ _ _))) ?_
    show mW _ _ _ _ _ _ _ _ (.ref _ :: _)
    refine m_iload_n dX8_turns_38 rfl ?_
    refine m_iload_n dX8_turns_39 rfl ?_
    refine m_if_ne (t := 52) dX8_turns_40 (by decide) (fun _ => ?_) (fun q => absurd q (by decide))
    refine m_lconst (v := 0) dX8_turns_52 (by decide) ?_
    refine m_lastore (k := 3) dX8_turns_53 (by first | exact (va_up_ne _ _ (by decide)).trans ((va_up_ne _ _ (by decide)).trans h1) | rfl | exact va_up_self _ _ _ | exact (va_up_ne _ _ (by decide)).trans (va_up_self _ _ _) | exact (va_up_ne _ _ (by decide)).trans ((va_up_ne _ _ (by decide)).trans hZ) | exact (va_up_ne _ _ (by decide)).trans ((va_up_ne _ _ (by decide)).trans ((va_up_ne _ _ (by decide)).trans h1)) | exact (va_up_ne _ _ (by decide)).trans ((va_up_ne _ _ (by decide)).trans (va_up_self _ _ _))) ⟨by decide, by decide⟩ ?_
    try rw [va_uu]
    refine m_iinc (v := 4) dX8_turns_54 rfl (by decide) (by decide) ?_
    show mW _ _ _ _ _ _ 57 [_, _, _, _] _
    refine m_goto (t := 29) dX8_turns_57 (by decide) ?_
    refine m_iload_n dX8_turns_29 rfl ?_
    refine m_iconst (v := 5) dX8_turns_30 (by decide) ?_
    refine m_icmp_ge (t := 60) dX8_turns_31 (by decide) (fun q => absurd q (by decide)) (fun _ => ?_)
    refine m_aload_n dX8_turns_34 rfl ?_
    refine m_getfield dX8_turns_35 fl_X8_48 (by first | exact (va_up_ne _ _ (by decide)).trans ((va_up_ne _ _ (by decide)).trans h1) | rfl | exact va_up_self _ _ _ | exact (va_up_ne _ _ (by decide)).trans (va_up_self _ _ _) | exact (va_up_ne _ _ (by decide)).trans ((va_up_ne _ _ (by decide)).trans hZ) | exact (va_up_ne _ _ (by decide)).trans ((va_up_ne _ _ (by decide)).trans ((va_up_ne _ _ (by decide)).trans h1)) | exact (va_up_ne _ _ (by decide)).trans ((va_up_ne _ _ (by decide)).trans (va_up_self _ _ _))) (by first | exact (va_up_ne _ _ (by decide)).trans ((va_up_ne _ _ (by decide)).trans h1) | rfl | exact va_up_self _ _ _ | exact (va_up_ne _ _ (by decide)).trans (va_up_self _ _ _) | exact (va_up_ne _ _ (by decide)).trans ((va_up_ne _ _ (by decide)).trans hZ) | exact (va_up_ne _ _ (by decide)).trans ((va_up_ne _ _ (by decide)).trans ((va_up_ne _ _ (by decide)).trans h1)) | exact (va_up_ne _ _ (by decide)).trans ((va_up_ne _ _ (by decide)).trans (va_up_self _ _ _))) ?_
    show mW _ _ _ _ _ _ _ _ (.ref _ :: _)
    refine m_iload_n dX8_turns_38 rfl ?_
    refine m_iload_n dX8_turns_39 rfl ?_
    refine m_if_ne (t := 52) dX8_turns_40 (by decide) (fun _ => ?_) (fun q => absurd q (by decide))
    refine m_lconst (v := 0) dX8_turns_52 (by decide) ?_
    refine m_lastore (k := 4) dX8_turns_53 (by first | exact (va_up_ne _ _ (by decide)).trans ((va_up_ne _ _ (by decide)).trans h1) | rfl | exact va_up_self _ _ _ | exact (va_up_ne _ _ (by decide)).trans (va_up_self _ _ _) | exact (va_up_ne _ _ (by decide)).trans ((va_up_ne _ _ (by decide)).trans hZ) | exact (va_up_ne _ _ (by decide)).trans ((va_up_ne _ _ (by decide)).trans ((va_up_ne _ _ (by decide)).trans h1)) | exact (va_up_ne _ _ (by decide)).trans ((va_up_ne _ _ (by decide)).trans (va_up_self _ _ _))) ⟨by decide, by decide⟩ ?_
    try rw [va_uu]
    refine m_iinc (v := 5) dX8_turns_54 rfl (by decide) (by decide) ?_
    show mW _ _ _ _ _ _ 57 [_, _, _, _] _
    refine m_goto (t := 29) dX8_turns_57 (by decide) ?_
    refine m_iload_n dX8_turns_29 rfl ?_
    refine m_iconst (v := 5) dX8_turns_30 (by decide) ?_
    refine m_icmp_ge (t := 60) dX8_turns_31 (by decide) (fun _ => ?_) (fun q => absurd (by decide) q)
    refine m_iconst (v := 0) dX8_turns_60 (by decide) ?_
    refine m_istore_n dX8_turns_61 (by decide) ?_
    show mW _ _ _ _ _ _ 62 [_, _, _, _] _
    show mW K _ 0 0 n (va_up (va_up hp 78 (eL 5 T)) 79 (eL 5 (fill5 (stZ Z j) Pr))) 62 [.ref 67, .int (nI d), .int (nI j), .int (nI 0)] []
    refine l_turnI (hp := va_up hp 78 (eL 5 T)) ((va_up_ne _ _ (by decide)).trans h1) hd (by omega) d 0 _ (by omega) ?_
    show mW K _ 0 0 n (va_up (va_up hp 78 (eL 5 T)) 79 (eL 5 (trP Z Pr d j))) 87 [.ref 67, .int (nI d), .int (nI j), .int (nI d)] []
    refine m_iconst (v := 0) dX8_turns_87 (by decide) ?_
    refine m_istore_n dX8_turns_88 (by decide) ?_
    show mW _ _ _ _ _ _ 89 [_, _, _, _] _
    refine m_iload_n dX8_turns_89 rfl ?_
    refine m_iconst (v := 5) dX8_turns_90 (by decide) ?_
    refine m_icmp_ge (t := 115) dX8_turns_91 (by decide) (fun q => absurd q (by decide)) (fun _ => ?_)
    refine m_aload_n dX8_turns_94 rfl ?_
    refine m_getfield dX8_turns_95 fl_X8_45 (by first | exact (va_up_ne _ _ (by decide)).trans ((va_up_ne _ _ (by decide)).trans h1) | rfl | exact va_up_self _ _ _ | exact (va_up_ne _ _ (by decide)).trans (va_up_self _ _ _) | exact (va_up_ne _ _ (by decide)).trans ((va_up_ne _ _ (by decide)).trans hZ) | exact (va_up_ne _ _ (by decide)).trans ((va_up_ne _ _ (by decide)).trans ((va_up_ne _ _ (by decide)).trans h1)) | exact (va_up_ne _ _ (by decide)).trans ((va_up_ne _ _ (by decide)).trans (va_up_self _ _ _))) (by first | exact (va_up_ne _ _ (by decide)).trans ((va_up_ne _ _ (by decide)).trans h1) | rfl | exact va_up_self _ _ _ | exact (va_up_ne _ _ (by decide)).trans (va_up_self _ _ _) | exact (va_up_ne _ _ (by decide)).trans ((va_up_ne _ _ (by decide)).trans hZ) | exact (va_up_ne _ _ (by decide)).trans ((va_up_ne _ _ (by decide)).trans ((va_up_ne _ _ (by decide)).trans h1)) | exact (va_up_ne _ _ (by decide)).trans ((va_up_ne _ _ (by decide)).trans (va_up_self _ _ _))) ?_
    show mW _ _ _ _ _ _ _ _ (.ref _ :: _)
    refine m_iload_n dX8_turns_98 rfl ?_
    refine m_dup2 dX8_turns_99 rfl rfl ?_
    refine m_laload (k := 0) dX8_turns_100 (by first | exact (va_up_ne _ _ (by decide)).trans ((va_up_ne _ _ (by decide)).trans h1) | rfl | exact va_up_self _ _ _ | exact (va_up_ne _ _ (by decide)).trans (va_up_self _ _ _) | exact (va_up_ne _ _ (by decide)).trans ((va_up_ne _ _ (by decide)).trans hZ) | exact (va_up_ne _ _ (by decide)).trans ((va_up_ne _ _ (by decide)).trans ((va_up_ne _ _ (by decide)).trans h1)) | exact (va_up_ne _ _ (by decide)).trans ((va_up_ne _ _ (by decide)).trans (va_up_self _ _ _))) ⟨by decide, by decide⟩ ?_
    refine m_cl (v := T 0) rfl ?_
    refine m_aload_n dX8_turns_101 rfl ?_
    refine m_getfield dX8_turns_102 fl_X8_48 (by first | exact (va_up_ne _ _ (by decide)).trans ((va_up_ne _ _ (by decide)).trans h1) | rfl | exact va_up_self _ _ _ | exact (va_up_ne _ _ (by decide)).trans (va_up_self _ _ _) | exact (va_up_ne _ _ (by decide)).trans ((va_up_ne _ _ (by decide)).trans hZ) | exact (va_up_ne _ _ (by decide)).trans ((va_up_ne _ _ (by decide)).trans ((va_up_ne _ _ (by decide)).trans h1)) | exact (va_up_ne _ _ (by decide)).trans ((va_up_ne _ _ (by decide)).trans (va_up_self _ _ _))) (by first | exact (va_up_ne _ _ (by decide)).trans ((va_up_ne _ _ (by decide)).trans h1) | rfl | exact va_up_self _ _ _ | exact (va_up_ne _ _ (by decide)).trans (va_up_self _ _ _) | exact (va_up_ne _ _ (by decide)).trans ((va_up_ne _ _ (by decide)).trans hZ) | exact (va_up_ne _ _ (by decide)).trans ((va_up_ne _ _ (by decide)).trans ((va_up_ne _ _ (by decide)).trans h1)) | exact (va_up_ne _ _ (by decide)).trans ((va_up_ne _ _ (by decide)).trans (va_up_self _ _ _))) ?_
    show mW _ _ _ _ _ _ _ _ (.ref _ :: _)
    refine m_iload_n dX8_turns_105 rfl ?_
    refine m_laload (k := 0) dX8_turns_106 (by first | exact (va_up_ne _ _ (by decide)).trans ((va_up_ne _ _ (by decide)).trans h1) | rfl | exact va_up_self _ _ _ | exact (va_up_ne _ _ (by decide)).trans (va_up_self _ _ _) | exact (va_up_ne _ _ (by decide)).trans ((va_up_ne _ _ (by decide)).trans hZ) | exact (va_up_ne _ _ (by decide)).trans ((va_up_ne _ _ (by decide)).trans ((va_up_ne _ _ (by decide)).trans h1)) | exact (va_up_ne _ _ (by decide)).trans ((va_up_ne _ _ (by decide)).trans (va_up_self _ _ _))) ⟨by decide, by decide⟩ ?_
    refine m_ladd dX8_turns_107 ?_
    refine m_lastore (k := 0) dX8_turns_108 (by first | exact (va_up_ne _ _ (by decide)).trans ((va_up_ne _ _ (by decide)).trans h1) | rfl | exact va_up_self _ _ _ | exact (va_up_ne _ _ (by decide)).trans (va_up_self _ _ _) | exact (va_up_ne _ _ (by decide)).trans ((va_up_ne _ _ (by decide)).trans hZ) | exact (va_up_ne _ _ (by decide)).trans ((va_up_ne _ _ (by decide)).trans ((va_up_ne _ _ (by decide)).trans h1)) | exact (va_up_ne _ _ (by decide)).trans ((va_up_ne _ _ (by decide)).trans (va_up_self _ _ _))) ⟨by decide, by decide⟩ ?_
    try rw [va_uu]
    refine m_iinc (v := 1) dX8_turns_109 rfl (by decide) (by decide) ?_
    show mW _ _ _ _ _ _ 112 [_, _, _, _] _
    refine m_goto (t := 89) dX8_turns_112 (by decide) ?_
    refine m_iload_n dX8_turns_89 rfl ?_
    refine m_iconst (v := 5) dX8_turns_90 (by decide) ?_
    refine m_icmp_ge (t := 115) dX8_turns_91 (by decide) (fun q => absurd q (by decide)) (fun _ => ?_)
    refine m_aload_n dX8_turns_94 rfl ?_
    refine m_getfield dX8_turns_95 fl_X8_45 (by first | exact (va_up_ne _ _ (by decide)).trans ((va_up_ne _ _ (by decide)).trans h1) | rfl | exact va_up_self _ _ _ | exact (va_up_ne _ _ (by decide)).trans (va_up_self _ _ _) | exact (va_up_ne _ _ (by decide)).trans ((va_up_ne _ _ (by decide)).trans hZ) | exact (va_up_ne _ _ (by decide)).trans ((va_up_ne _ _ (by decide)).trans ((va_up_ne _ _ (by decide)).trans h1)) | exact (va_up_ne _ _ (by decide)).trans ((va_up_ne _ _ (by decide)).trans (va_up_self _ _ _))) (by first | exact (va_up_ne _ _ (by decide)).trans ((va_up_ne _ _ (by decide)).trans h1) | rfl | exact va_up_self _ _ _ | exact (va_up_ne _ _ (by decide)).trans (va_up_self _ _ _) | exact (va_up_ne _ _ (by decide)).trans ((va_up_ne _ _ (by decide)).trans hZ) | exact (va_up_ne _ _ (by decide)).trans ((va_up_ne _ _ (by decide)).trans ((va_up_ne _ _ (by decide)).trans h1)) | exact (va_up_ne _ _ (by decide)).trans ((va_up_ne _ _ (by decide)).trans (va_up_self _ _ _))) ?_
    show mW _ _ _ _ _ _ _ _ (.ref _ :: _)
    refine m_iload_n dX8_turns_98 rfl ?_
    refine m_dup2 dX8_turns_99 rfl rfl ?_
    refine m_laload (k := 1) dX8_turns_100 (by first | exact (va_up_ne _ _ (by decide)).trans ((va_up_ne _ _ (by decide)).trans h1) | rfl | exact va_up_self _ _ _ | exact (va_up_ne _ _ (by decide)).trans (va_up_self _ _ _) | exact (va_up_ne _ _ (by decide)).trans ((va_up_ne _ _ (by decide)).trans hZ) | exact (va_up_ne _ _ (by decide)).trans ((va_up_ne _ _ (by decide)).trans ((va_up_ne _ _ (by decide)).trans h1)) | exact (va_up_ne _ _ (by decide)).trans ((va_up_ne _ _ (by decide)).trans (va_up_self _ _ _))) ⟨by decide, by decide⟩ ?_
    refine m_cl (v := T 1) rfl ?_
    refine m_aload_n dX8_turns_101 rfl ?_
    refine m_getfield dX8_turns_102 fl_X8_48 (by first | exact (va_up_ne _ _ (by decide)).trans ((va_up_ne _ _ (by decide)).trans h1) | rfl | exact va_up_self _ _ _ | exact (va_up_ne _ _ (by decide)).trans (va_up_self _ _ _) | exact (va_up_ne _ _ (by decide)).trans ((va_up_ne _ _ (by decide)).trans hZ) | exact (va_up_ne _ _ (by decide)).trans ((va_up_ne _ _ (by decide)).trans ((va_up_ne _ _ (by decide)).trans h1)) | exact (va_up_ne _ _ (by decide)).trans ((va_up_ne _ _ (by decide)).trans (va_up_self _ _ _))) (by first | exact (va_up_ne _ _ (by decide)).trans ((va_up_ne _ _ (by decide)).trans h1) | rfl | exact va_up_self _ _ _ | exact (va_up_ne _ _ (by decide)).trans (va_up_self _ _ _) | exact (va_up_ne _ _ (by decide)).trans ((va_up_ne _ _ (by decide)).trans hZ) | exact (va_up_ne _ _ (by decide)).trans ((va_up_ne _ _ (by decide)).trans ((va_up_ne _ _ (by decide)).trans h1)) | exact (va_up_ne _ _ (by decide)).trans ((va_up_ne _ _ (by decide)).trans (va_up_self _ _ _))) ?_
    show mW _ _ _ _ _ _ _ _ (.ref _ :: _)
    refine m_iload_n dX8_turns_105 rfl ?_
    refine m_laload (k := 1) dX8_turns_106 (by first | exact (va_up_ne _ _ (by decide)).trans ((va_up_ne _ _ (by decide)).trans h1) | rfl | exact va_up_self _ _ _ | exact (va_up_ne _ _ (by decide)).trans (va_up_self _ _ _) | exact (va_up_ne _ _ (by decide)).trans ((va_up_ne _ _ (by decide)).trans hZ) | exact (va_up_ne _ _ (by decide)).trans ((va_up_ne _ _ (by decide)).trans ((va_up_ne _ _ (by decide)).trans h1)) | exact (va_up_ne _ _ (by decide)).trans ((va_up_ne _ _ (by decide)).trans (va_up_self _ _ _))) ⟨by decide, by decide⟩ ?_
    refine m_ladd dX8_turns_107 ?_
    refine m_lastore (k := 1) dX8_turns_108 (by first | exact (va_up_ne _ _ (by decide)).trans ((va_up_ne _ _ (by decide)).trans h1) | rfl | exact va_up_self _ _ _ | exact (va_up_ne _ _ (by decide)).trans (va_up_self _ _ _) | exact (va_up_ne _ _ (by decide)).trans ((va_up_ne _ _ (by decide)).trans hZ) | exact (va_up_ne _ _ (by decide)).trans ((va_up_ne _ _ (by decide)).trans ((va_up_ne _ _ (by decide)).trans h1)) | exact (va_up_ne _ _ (by decide)).trans ((va_up_ne _ _ (by decide)).trans (va_up_self _ _ _))) ⟨by decide, by decide⟩ ?_
    try rw [va_uu]
    refine m_iinc (v := 2) dX8_turns_109 rfl (by decide) (by decide) ?_
    show mW _ _ _ _ _ _ 112 [_, _, _, _] _
    refine m_goto (t := 89) dX8_turns_112 (by decide) ?_
    refine m_iload_n dX8_turns_89 rfl ?_
    refine m_iconst (v := 5) dX8_turns_90 (by decide) ?_
    refine m_icmp_ge (t := 115) dX8_turns_91 (by decide) (fun q => absurd q (by decide)) (fun _ => ?_)
    refine m_aload_n dX8_turns_94 rfl ?_
    refine m_getfield dX8_turns_95 fl_X8_45 (by first | exact (va_up_ne _ _ (by decide)).trans ((va_up_ne _ _ (by decide)).trans h1) | rfl | exact va_up_self _ _ _ | exact (va_up_ne _ _ (by decide)).trans (va_up_self _ _ _) | exact (va_up_ne _ _ (by decide)).trans ((va_up_ne _ _ (by decide)).trans hZ) | exact (va_up_ne _ _ (by decide)).trans ((va_up_ne _ _ (by decide)).trans ((va_up_ne _ _ (by decide)).trans h1)) | exact (va_up_ne _ _ (by decide)).trans ((va_up_ne _ _ (by decide)).trans (va_up_self _ _ _))) (by first | exact (va_up_ne _ _ (by decide)).trans ((va_up_ne _ _ (by decide)).trans h1) | rfl | exact va_up_self _ _ _ | exact (va_up_ne _ _ (by decide)).trans (va_up_self _ _ _) | exact (va_up_ne _ _ (by decide)).trans ((va_up_ne _ _ (by decide)).trans hZ) | exact (va_up_ne _ _ (by decide)).trans ((va_up_ne _ _ (by decide)).trans ((va_up_ne _ _ (by decide)).trans h1)) | exact (va_up_ne _ _ (by decide)).trans ((va_up_ne _ _ (by decide)).trans (va_up_self _ _ _))) ?_
    show mW _ _ _ _ _ _ _ _ (.ref _ :: _)
    refine m_iload_n dX8_turns_98 rfl ?_
    refine m_dup2 dX8_turns_99 rfl rfl ?_
    refine m_laload (k := 2) dX8_turns_100 (by first | exact (va_up_ne _ _ (by decide)).trans ((va_up_ne _ _ (by decide)).trans h1) | rfl | exact va_up_self _ _ _ | exact (va_up_ne _ _ (by decide)).trans (va_up_self _ _ _) | exact (va_up_ne _ _ (by decide)).trans ((va_up_ne _ _ (by decide)).trans hZ) | exact (va_up_ne _ _ (by decide)).trans ((va_up_ne _ _ (by decide)).trans ((va_up_ne _ _ (by decide)).trans h1)) | exact (va_up_ne _ _ (by decide)).trans ((va_up_ne _ _ (by decide)).trans (va_up_self _ _ _))) ⟨by decide, by decide⟩ ?_
    refine m_cl (v := T 2) rfl ?_
    refine m_aload_n dX8_turns_101 rfl ?_
    refine m_getfield dX8_turns_102 fl_X8_48 (by first | exact (va_up_ne _ _ (by decide)).trans ((va_up_ne _ _ (by decide)).trans h1) | rfl | exact va_up_self _ _ _ | exact (va_up_ne _ _ (by decide)).trans (va_up_self _ _ _) | exact (va_up_ne _ _ (by decide)).trans ((va_up_ne _ _ (by decide)).trans hZ) | exact (va_up_ne _ _ (by decide)).trans ((va_up_ne _ _ (by decide)).trans ((va_up_ne _ _ (by decide)).trans h1)) | exact (va_up_ne _ _ (by decide)).trans ((va_up_ne _ _ (by decide)).trans (va_up_self _ _ _))) (by first | exact (va_up_ne _ _ (by decide)).trans ((va_up_ne _ _ (by decide)).trans h1) | rfl | exact va_up_self _ _ _ | exact (va_up_ne _ _ (by decide)).trans (va_up_self _ _ _) | exact (va_up_ne _ _ (by decide)).trans ((va_up_ne _ _ (by decide)).trans hZ) | exact (va_up_ne _ _ (by decide)).trans ((va_up_ne _ _ (by decide)).trans ((va_up_ne _ _ (by decide)).trans h1)) | exact (va_up_ne _ _ (by decide)).trans ((va_up_ne _ _ (by decide)).trans (va_up_self _ _ _))) ?_
    show mW _ _ _ _ _ _ _ _ (.ref _ :: _)
    refine m_iload_n dX8_turns_105 rfl ?_
    refine m_laload (k := 2) dX8_turns_106 (by first | exact (va_up_ne _ _ (by decide)).trans ((va_up_ne _ _ (by decide)).trans h1) | rfl | exact va_up_self _ _ _ | exact (va_up_ne _ _ (by decide)).trans (va_up_self _ _ _) | exact (va_up_ne _ _ (by decide)).trans ((va_up_ne _ _ (by decide)).trans hZ) | exact (va_up_ne _ _ (by decide)).trans ((va_up_ne _ _ (by decide)).trans ((va_up_ne _ _ (by decide)).trans h1)) | exact (va_up_ne _ _ (by decide)).trans ((va_up_ne _ _ (by decide)).trans (va_up_self _ _ _))) ⟨by decide, by decide⟩ ?_
    refine m_ladd dX8_turns_107 ?_
    refine m_lastore (k := 2) dX8_turns_108 (by first | exact (va_up_ne _ _ (by decide)).trans ((va_up_ne _ _ (by decide)).trans h1) | rfl | exact va_up_self _ _ _ | exact (va_up_ne _ _ (by decide)).trans (va_up_self _ _ _) | exact (va_up_ne _ _ (by decide)).trans ((va_up_ne _ _ (by decide)).trans hZ) | exact (va_up_ne _ _ (by decide)).trans ((va_up_ne _ _ (by decide)).trans ((va_up_ne _ _ (by decide)).trans h1)) | exact (va_up_ne _ _ (by decide)).trans ((va_up_ne _ _ (by decide)).trans (va_up_self _ _ _))) ⟨by decide, by decide⟩ ?_
    try rw [va_uu]
    refine m_iinc (v := 3) dX8_turns_109 rfl (by decide) (by decide) ?_
    show mW _ _ _ _ _ _ 112 [_, _, _, _] _
    refine m_goto (t := 89) dX8_turns_112 (by decide) ?_
    refine m_iload_n dX8_turns_89 rfl ?_
    refine m_iconst (v := 5) dX8_turns_90 (by decide) ?_
    refine m_icmp_ge (t := 115) dX8_turns_91 (by decide) (fun q => absurd q (by decide)) (fun _ => ?_)
    refine m_aload_n dX8_turns_94 rfl ?_
    refine m_getfield dX8_turns_95 fl_X8_45 (by first | exact (va_up_ne _ _ (by decide)).trans ((va_up_ne _ _ (by decide)).trans h1) | rfl | exact va_up_self _ _ _ | exact (va_up_ne _ _ (by decide)).trans (va_up_self _ _ _) | exact (va_up_ne _ _ (by decide)).trans ((va_up_ne _ _ (by decide)).trans hZ) | exact (va_up_ne _ _ (by decide)).trans ((va_up_ne _ _ (by decide)).trans ((va_up_ne _ _ (by decide)).trans h1)) | exact (va_up_ne _ _ (by decide)).trans ((va_up_ne _ _ (by decide)).trans (va_up_self _ _ _))) (by first | exact (va_up_ne _ _ (by decide)).trans ((va_up_ne _ _ (by decide)).trans h1) | rfl | exact va_up_self _ _ _ | exact (va_up_ne _ _ (by decide)).trans (va_up_self _ _ _) | exact (va_up_ne _ _ (by decide)).trans ((va_up_ne _ _ (by decide)).trans hZ) | exact (va_up_ne _ _ (by decide)).trans ((va_up_ne _ _ (by decide)).trans ((va_up_ne _ _ (by decide)).trans h1)) | exact (va_up_ne _ _ (by decide)).trans ((va_up_ne _ _ (by decide)).trans (va_up_self _ _ _))) ?_
    show mW _ _ _ _ _ _ _ _ (.ref _ :: _)
    refine m_iload_n dX8_turns_98 rfl ?_
    refine m_dup2 dX8_turns_99 rfl rfl ?_
    refine m_laload (k := 3) dX8_turns_100 (by first | exact (va_up_ne _ _ (by decide)).trans ((va_up_ne _ _ (by decide)).trans h1) | rfl | exact va_up_self _ _ _ | exact (va_up_ne _ _ (by decide)).trans (va_up_self _ _ _) | exact (va_up_ne _ _ (by decide)).trans ((va_up_ne _ _ (by decide)).trans hZ) | exact (va_up_ne _ _ (by decide)).trans ((va_up_ne _ _ (by decide)).trans ((va_up_ne _ _ (by decide)).trans h1)) | exact (va_up_ne _ _ (by decide)).trans ((va_up_ne _ _ (by decide)).trans (va_up_self _ _ _))) ⟨by decide, by decide⟩ ?_
    refine m_cl (v := T 3) rfl ?_
    refine m_aload_n dX8_turns_101 rfl ?_
    refine m_getfield dX8_turns_102 fl_X8_48 (by first | exact (va_up_ne _ _ (by decide)).trans ((va_up_ne _ _ (by decide)).trans h1) | rfl | exact va_up_self _ _ _ | exact (va_up_ne _ _ (by decide)).trans (va_up_self _ _ _) | exact (va_up_ne _ _ (by decide)).trans ((va_up_ne _ _ (by decide)).trans hZ) | exact (va_up_ne _ _ (by decide)).trans ((va_up_ne _ _ (by decide)).trans ((va_up_ne _ _ (by decide)).trans h1)) | exact (va_up_ne _ _ (by decide)).trans ((va_up_ne _ _ (by decide)).trans (va_up_self _ _ _))) (by first | exact (va_up_ne _ _ (by decide)).trans ((va_up_ne _ _ (by decide)).trans h1) | rfl | exact va_up_self _ _ _ | exact (va_up_ne _ _ (by decide)).trans (va_up_self _ _ _) | exact (va_up_ne _ _ (by decide)).trans ((va_up_ne _ _ (by decide)).trans hZ) | exact (va_up_ne _ _ (by decide)).trans ((va_up_ne _ _ (by decide)).trans ((va_up_ne _ _ (by decide)).trans h1)) | exact (va_up_ne _ _ (by decide)).trans ((va_up_ne _ _ (by decide)).trans (va_up_self _ _ _))) ?_
    show mW _ _ _ _ _ _ _ _ (.ref _ :: _)
    refine m_iload_n dX8_turns_105 rfl ?_
    refine m_laload (k := 3) dX8_turns_106 (by first | exact (va_up_ne _ _ (by decide)).trans ((va_up_ne _ _ (by decide)).trans h1) | rfl | exact va_up_self _ _ _ | exact (va_up_ne _ _ (by decide)).trans (va_up_self _ _ _) | exact (va_up_ne _ _ (by decide)).trans ((va_up_ne _ _ (by decide)).trans hZ) | exact (va_up_ne _ _ (by decide)).trans ((va_up_ne _ _ (by decide)).trans ((va_up_ne _ _ (by decide)).trans h1)) | exact (va_up_ne _ _ (by decide)).trans ((va_up_ne _ _ (by decide)).trans (va_up_self _ _ _))) ⟨by decide, by decide⟩ ?_
    refine m_ladd dX8_turns_107 ?_
    refine m_lastore (k := 3) dX8_turns_108 (by first | exact (va_up_ne _ _ (by decide)).trans ((va_up_ne _ _ (by decide)).trans h1) | rfl | exact va_up_self _ _ _ | exact (va_up_ne _ _ (by decide)).trans (va_up_self _ _ _) | exact (va_up_ne _ _ (by decide)).trans ((va_up_ne _ _ (by decide)).trans hZ) | exact (va_up_ne _ _ (by decide)).trans ((va_up_ne _ _ (by decide)).trans ((va_up_ne _ _ (by decide)).trans h1)) | exact (va_up_ne _ _ (by decide)).trans ((va_up_ne _ _ (by decide)).trans (va_up_self _ _ _))) ⟨by decide, by decide⟩ ?_
    try rw [va_uu]
    refine m_iinc (v := 4) dX8_turns_109 rfl (by decide) (by decide) ?_
    show mW _ _ _ _ _ _ 112 [_, _, _, _] _
    refine m_goto (t := 89) dX8_turns_112 (by decide) ?_
    refine m_iload_n dX8_turns_89 rfl ?_
    refine m_iconst (v := 5) dX8_turns_90 (by decide) ?_
    refine m_icmp_ge (t := 115) dX8_turns_91 (by decide) (fun q => absurd q (by decide)) (fun _ => ?_)
    refine m_aload_n dX8_turns_94 rfl ?_
    refine m_getfield dX8_turns_95 fl_X8_45 (by first | exact (va_up_ne _ _ (by decide)).trans ((va_up_ne _ _ (by decide)).trans h1) | rfl | exact va_up_self _ _ _ | exact (va_up_ne _ _ (by decide)).trans (va_up_self _ _ _) | exact (va_up_ne _ _ (by decide)).trans ((va_up_ne _ _ (by decide)).trans hZ) | exact (va_up_ne _ _ (by decide)).trans ((va_up_ne _ _ (by decide)).trans ((va_up_ne _ _ (by decide)).trans h1)) | exact (va_up_ne _ _ (by decide)).trans ((va_up_ne _ _ (by decide)).trans (va_up_self _ _ _))) (by first | exact (va_up_ne _ _ (by decide)).trans ((va_up_ne _ _ (by decide)).trans h1) | rfl | exact va_up_self _ _ _ | exact (va_up_ne _ _ (by decide)).trans (va_up_self _ _ _) | exact (va_up_ne _ _ (by decide)).trans ((va_up_ne _ _ (by decide)).trans hZ) | exact (va_up_ne _ _ (by decide)).trans ((va_up_ne _ _ (by decide)).trans ((va_up_ne _ _ (by decide)).trans h1)) | exact (va_up_ne _ _ (by decide)).trans ((va_up_ne _ _ (by decide)).trans (va_up_self _ _ _))) ?_
    show mW _ _ _ _ _ _ _ _ (.ref _ :: _)
    refine m_iload_n dX8_turns_98 rfl ?_
    refine m_dup2 dX8_turns_99 rfl rfl ?_
    refine m_laload (k := 4) dX8_turns_100 (by first | exact (va_up_ne _ _ (by decide)).trans ((va_up_ne _ _ (by decide)).trans h1) | rfl | exact va_up_self _ _ _ | exact (va_up_ne _ _ (by decide)).trans (va_up_self _ _ _) | exact (va_up_ne _ _ (by decide)).trans ((va_up_ne _ _ (by decide)).trans hZ) | exact (va_up_ne _ _ (by decide)).trans ((va_up_ne _ _ (by decide)).trans ((va_up_ne _ _ (by decide)).trans h1)) | exact (va_up_ne _ _ (by decide)).trans ((va_up_ne _ _ (by decide)).trans (va_up_self _ _ _))) ⟨by decide, by decide⟩ ?_
    refine m_cl (v := T 4) rfl ?_
    refine m_aload_n dX8_turns_101 rfl ?_
    refine m_getfield dX8_turns_102 fl_X8_48 (by first | exact (va_up_ne _ _ (by decide)).trans ((va_up_ne _ _ (by decide)).trans h1) | rfl | exact va_up_self _ _ _ | exact (va_up_ne _ _ (by decide)).trans (va_up_self _ _ _) | exact (va_up_ne _ _ (by decide)).trans ((va_up_ne _ _ (by decide)).trans hZ) | exact (va_up_ne _ _ (by decide)).trans ((va_up_ne _ _ (by decide)).trans ((va_up_ne _ _ (by decide)).trans h1)) | exact (va_up_ne _ _ (by decide)).trans ((va_up_ne _ _ (by decide)).trans (va_up_self _ _ _))) (by first | exact (va_up_ne _ _ (by decide)).trans ((va_up_ne _ _ (by decide)).trans h1) | rfl | exact va_up_self _ _ _ | exact (va_up_ne _ _ (by decide)).trans (va_up_self _ _ _) | exact (va_up_ne _ _ (by decide)).trans ((va_up_ne _ _ (by decide)).trans hZ) | exact (va_up_ne _ _ (by decide)).trans ((va_up_ne _ _ (by decide)).trans ((va_up_ne _ _ (by decide)).trans h1)) | exact (va_up_ne _ _ (by decide)).trans ((va_up_ne _ _ (by decide)).trans (va_up_self _ _ _))) ?_
    show mW _ _ _ _ _ _ _ _ (.ref _ :: _)
    refine m_iload_n dX8_turns_105 rfl ?_
    refine m_laload (k := 4) dX8_turns_106 (by first | exact (va_up_ne _ _ (by decide)).trans ((va_up_ne _ _ (by decide)).trans h1) | rfl | exact va_up_self _ _ _ | exact (va_up_ne _ _ (by decide)).trans (va_up_self _ _ _) | exact (va_up_ne _ _ (by decide)).trans ((va_up_ne _ _ (by decide)).trans hZ) | exact (va_up_ne _ _ (by decide)).trans ((va_up_ne _ _ (by decide)).trans ((va_up_ne _ _ (by decide)).trans h1)) | exact (va_up_ne _ _ (by decide)).trans ((va_up_ne _ _ (by decide)).trans (va_up_self _ _ _))) ⟨by decide, by decide⟩ ?_
    refine m_ladd dX8_turns_107 ?_
    refine m_lastore (k := 4) dX8_turns_108 (by first | exact (va_up_ne _ _ (by decide)).trans ((va_up_ne _ _ (by decide)).trans h1) | rfl | exact va_up_self _ _ _ | exact (va_up_ne _ _ (by decide)).trans (va_up_self _ _ _) | exact (va_up_ne _ _ (by decide)).trans ((va_up_ne _ _ (by decide)).trans hZ) | exact (va_up_ne _ _ (by decide)).trans ((va_up_ne _ _ (by decide)).trans ((va_up_ne _ _ (by decide)).trans h1)) | exact (va_up_ne _ _ (by decide)).trans ((va_up_ne _ _ (by decide)).trans (va_up_self _ _ _))) ⟨by decide, by decide⟩ ?_
    try rw [va_uu]
    refine m_iinc (v := 5) dX8_turns_109 rfl (by decide) (by decide) ?_
    show mW _ _ _ _ _ _ 112 [_, _, _, _] _
    refine m_goto (t := 89) dX8_turns_112 (by decide) ?_
    refine m_iload_n dX8_turns_89 rfl ?_
    refine m_iconst (v := 5) dX8_turns_90 (by decide) ?_
    refine m_icmp_ge (t := 115) dX8_turns_91 (by decide) (fun _ => ?_) (fun q => absurd (by decide) q)
    show mW K _ 0 0 n (va_up (va_up (va_up hp 78 (eL 5 T)) 79 (eL 5 (trP Z Pr d j))) 78 (eL 5 (adP T (trP Z Pr d j)))) 115 [.ref 67, .int (nI d), .int (nI j), _] _
    rw [up_5]
    refine m_iinc (v := nI (j + 1)) dX8_turns_115 rfl (nI_1 j) (by decide) ?_
    show mW _ _ _ _ _ _ 118 [_, _, _, _] _
    refine m_goto (t := 22) dX8_turns_118 (by decide) ?_
    exact ih r (by omega) (j + 1) _ _ _ (by omega) kk

def tuR (Z T Pr : Nat → Int64) (d : Nat) : (Nat → Int64) × (Nat → Int64) := trR Z d (d + 1) 0 (fill5 (fun _ => 0) T) Pr
set_option maxHeartbeats 400000 in
set_option maxRecDepth 100000 in
theorem t_X8_turns {n : Nat} {hp : mHp} {ac ia tm ri ev le ch ls rm sm ra fa : Int32} (h1 : hp 67 = eO 8 (oMod ac ia tm ri ev le ch ls rm sm ra fa)) {Z T Pr : Nat → Int64} (hZ : hp 76 = eL 5 Z) (h2 : hp 78 = eL 5 T) (h3 : hp 79 = eL 5 Pr) {d : Nat} (hd : d ≤ 4) : mC D_X8_turns [.ref 67, .int (nI d)] n hp (rV (va_up (va_up (va_up hp 78 (eL 5 (tuR Z T Pr d).1)) 79 (eL 5 (tuR Z T Pr d).2)) 76 (eL 5 (fill5 (tuR Z T Pr d).1 Z)))) := by
  refine m_enter rfl rfl (Nat.le_of_ble_eq_true rfl) (fun K hF => ?_)
  show mW K _ 0 0 _ _ 0 [.ref 67, .int (nI d), .retAddr 0, .retAddr 0] []
  refine m_iconst (v := 0) dX8_turns_0 (by decide) ?_
  refine m_istore_n dX8_turns_1 (by decide) ?_
  show mW _ _ _ _ _ _ 2 [_, _, _, _] _
  refine m_iload_n dX8_turns_2 rfl ?_
  refine m_iconst (v := 5) dX8_turns_3 (by decide) ?_
  refine m_icmp_ge (t := 20) dX8_turns_4 (by decide) (fun q => absurd q (by decide)) (fun _ => ?_)
  refine m_aload_n dX8_turns_7 rfl ?_
  refine m_getfield dX8_turns_8 fl_X8_45 (by first | assumption | exact (va_up_ne _ _ (by decide)).trans h1 | exact (va_up_ne _ _ (by decide)).trans ((va_up_ne _ _ (by decide)).trans h1) | rfl | exact va_up_self _ _ _ | exact (va_up_ne _ _ (by decide)).trans (va_up_self _ _ _) | exact (va_up_ne _ _ (by decide)).trans ((va_up_ne _ _ (by decide)).trans hZ) | exact (va_up_ne _ _ (by decide)).trans ((va_up_ne _ _ (by decide)).trans ((va_up_ne _ _ (by decide)).trans h1)) | exact (va_up_ne _ _ (by decide)).trans ((va_up_ne _ _ (by decide)).trans (va_up_self _ _ _))) (by first | assumption | exact (va_up_ne _ _ (by decide)).trans h1 | exact (va_up_ne _ _ (by decide)).trans ((va_up_ne _ _ (by decide)).trans h1) | rfl | exact va_up_self _ _ _ | exact (va_up_ne _ _ (by decide)).trans (va_up_self _ _ _) | exact (va_up_ne _ _ (by decide)).trans ((va_up_ne _ _ (by decide)).trans hZ) | exact (va_up_ne _ _ (by decide)).trans ((va_up_ne _ _ (by decide)).trans ((va_up_ne _ _ (by decide)).trans h1)) | exact (va_up_ne _ _ (by decide)).trans ((va_up_ne _ _ (by decide)).trans (va_up_self _ _ _))) ?_
  show mW _ _ _ _ _ _ _ _ (.ref _ :: _)
  refine m_iload_n dX8_turns_11 rfl ?_
  refine m_lconst (v := 0) dX8_turns_12 (by decide) ?_
  refine m_lastore (k := 0) dX8_turns_13 (by first | assumption | exact (va_up_ne _ _ (by decide)).trans h1 | exact (va_up_ne _ _ (by decide)).trans ((va_up_ne _ _ (by decide)).trans h1) | rfl | exact va_up_self _ _ _ | exact (va_up_ne _ _ (by decide)).trans (va_up_self _ _ _) | exact (va_up_ne _ _ (by decide)).trans ((va_up_ne _ _ (by decide)).trans hZ) | exact (va_up_ne _ _ (by decide)).trans ((va_up_ne _ _ (by decide)).trans ((va_up_ne _ _ (by decide)).trans h1)) | exact (va_up_ne _ _ (by decide)).trans ((va_up_ne _ _ (by decide)).trans (va_up_self _ _ _))) ⟨by decide, by decide⟩ ?_
  try rw [va_uu]
  refine m_iinc (v := 1) dX8_turns_14 rfl (by decide) (by decide) ?_
  show mW _ _ _ _ _ _ 17 [_, _, _, _] _
  refine m_goto (t := 2) dX8_turns_17 (by decide) ?_
  refine m_iload_n dX8_turns_2 rfl ?_
  refine m_iconst (v := 5) dX8_turns_3 (by decide) ?_
  refine m_icmp_ge (t := 20) dX8_turns_4 (by decide) (fun q => absurd q (by decide)) (fun _ => ?_)
  refine m_aload_n dX8_turns_7 rfl ?_
  refine m_getfield dX8_turns_8 fl_X8_45 (by first | assumption | exact (va_up_ne _ _ (by decide)).trans h1 | exact (va_up_ne _ _ (by decide)).trans ((va_up_ne _ _ (by decide)).trans h1) | rfl | exact va_up_self _ _ _ | exact (va_up_ne _ _ (by decide)).trans (va_up_self _ _ _) | exact (va_up_ne _ _ (by decide)).trans ((va_up_ne _ _ (by decide)).trans hZ) | exact (va_up_ne _ _ (by decide)).trans ((va_up_ne _ _ (by decide)).trans ((va_up_ne _ _ (by decide)).trans h1)) | exact (va_up_ne _ _ (by decide)).trans ((va_up_ne _ _ (by decide)).trans (va_up_self _ _ _))) (by first | assumption | exact (va_up_ne _ _ (by decide)).trans h1 | exact (va_up_ne _ _ (by decide)).trans ((va_up_ne _ _ (by decide)).trans h1) | rfl | exact va_up_self _ _ _ | exact (va_up_ne _ _ (by decide)).trans (va_up_self _ _ _) | exact (va_up_ne _ _ (by decide)).trans ((va_up_ne _ _ (by decide)).trans hZ) | exact (va_up_ne _ _ (by decide)).trans ((va_up_ne _ _ (by decide)).trans ((va_up_ne _ _ (by decide)).trans h1)) | exact (va_up_ne _ _ (by decide)).trans ((va_up_ne _ _ (by decide)).trans (va_up_self _ _ _))) ?_
  show mW _ _ _ _ _ _ _ _ (.ref _ :: _)
  refine m_iload_n dX8_turns_11 rfl ?_
  refine m_lconst (v := 0) dX8_turns_12 (by decide) ?_
  refine m_lastore (k := 1) dX8_turns_13 (by first | assumption | exact (va_up_ne _ _ (by decide)).trans h1 | exact (va_up_ne _ _ (by decide)).trans ((va_up_ne _ _ (by decide)).trans h1) | rfl | exact va_up_self _ _ _ | exact (va_up_ne _ _ (by decide)).trans (va_up_self _ _ _) | exact (va_up_ne _ _ (by decide)).trans ((va_up_ne _ _ (by decide)).trans hZ) | exact (va_up_ne _ _ (by decide)).trans ((va_up_ne _ _ (by decide)).trans ((va_up_ne _ _ (by decide)).trans h1)) | exact (va_up_ne _ _ (by decide)).trans ((va_up_ne _ _ (by decide)).trans (va_up_self _ _ _))) ⟨by decide, by decide⟩ ?_
  try rw [va_uu]
  refine m_iinc (v := 2) dX8_turns_14 rfl (by decide) (by decide) ?_
  show mW _ _ _ _ _ _ 17 [_, _, _, _] _
  refine m_goto (t := 2) dX8_turns_17 (by decide) ?_
  refine m_iload_n dX8_turns_2 rfl ?_
  refine m_iconst (v := 5) dX8_turns_3 (by decide) ?_
  refine m_icmp_ge (t := 20) dX8_turns_4 (by decide) (fun q => absurd q (by decide)) (fun _ => ?_)
  refine m_aload_n dX8_turns_7 rfl ?_
  refine m_getfield dX8_turns_8 fl_X8_45 (by first | assumption | exact (va_up_ne _ _ (by decide)).trans h1 | exact (va_up_ne _ _ (by decide)).trans ((va_up_ne _ _ (by decide)).trans h1) | rfl | exact va_up_self _ _ _ | exact (va_up_ne _ _ (by decide)).trans (va_up_self _ _ _) | exact (va_up_ne _ _ (by decide)).trans ((va_up_ne _ _ (by decide)).trans hZ) | exact (va_up_ne _ _ (by decide)).trans ((va_up_ne _ _ (by decide)).trans ((va_up_ne _ _ (by decide)).trans h1)) | exact (va_up_ne _ _ (by decide)).trans ((va_up_ne _ _ (by decide)).trans (va_up_self _ _ _))) (by first | assumption | exact (va_up_ne _ _ (by decide)).trans h1 | exact (va_up_ne _ _ (by decide)).trans ((va_up_ne _ _ (by decide)).trans h1) | rfl | exact va_up_self _ _ _ | exact (va_up_ne _ _ (by decide)).trans (va_up_self _ _ _) | exact (va_up_ne _ _ (by decide)).trans ((va_up_ne _ _ (by decide)).trans hZ) | exact (va_up_ne _ _ (by decide)).trans ((va_up_ne _ _ (by decide)).trans ((va_up_ne _ _ (by decide)).trans h1)) | exact (va_up_ne _ _ (by decide)).trans ((va_up_ne _ _ (by decide)).trans (va_up_self _ _ _))) ?_
  show mW _ _ _ _ _ _ _ _ (.ref _ :: _)
  refine m_iload_n dX8_turns_11 rfl ?_
  refine m_lconst (v := 0) dX8_turns_12 (by decide) ?_
  refine m_lastore (k := 2) dX8_turns_13 (by first | assumption | exact (va_up_ne _ _ (by decide)).trans h1 | exact (va_up_ne _ _ (by decide)).trans ((va_up_ne _ _ (by decide)).trans h1) | rfl | exact va_up_self _ _ _ | exact (va_up_ne _ _ (by decide)).trans (va_up_self _ _ _) | exact (va_up_ne _ _ (by decide)).trans ((va_up_ne _ _ (by decide)).trans hZ) | exact (va_up_ne _ _ (by decide)).trans ((va_up_ne _ _ (by decide)).trans ((va_up_ne _ _ (by decide)).trans h1)) | exact (va_up_ne _ _ (by decide)).trans ((va_up_ne _ _ (by decide)).trans (va_up_self _ _ _))) ⟨by decide, by decide⟩ ?_
  try rw [va_uu]
  refine m_iinc (v := 3) dX8_turns_14 rfl (by decide) (by decide) ?_
  show mW _ _ _ _ _ _ 17 [_, _, _, _] _
  refine m_goto (t := 2) dX8_turns_17 (by decide) ?_
  refine m_iload_n dX8_turns_2 rfl ?_
  refine m_iconst (v := 5) dX8_turns_3 (by decide) ?_
  refine m_icmp_ge (t := 20) dX8_turns_4 (by decide) (fun q => absurd q (by decide)) (fun _ => ?_)
  refine m_aload_n dX8_turns_7 rfl ?_
  refine m_getfield dX8_turns_8 fl_X8_45 (by first | assumption | exact (va_up_ne _ _ (by decide)).trans h1 | exact (va_up_ne _ _ (by decide)).trans ((va_up_ne _ _ (by decide)).trans h1) | rfl | exact va_up_self _ _ _ | exact (va_up_ne _ _ (by decide)).trans (va_up_self _ _ _) | exact (va_up_ne _ _ (by decide)).trans ((va_up_ne _ _ (by decide)).trans hZ) | exact (va_up_ne _ _ (by decide)).trans ((va_up_ne _ _ (by decide)).trans ((va_up_ne _ _ (by decide)).trans h1)) | exact (va_up_ne _ _ (by decide)).trans ((va_up_ne _ _ (by decide)).trans (va_up_self _ _ _))) (by first | assumption | exact (va_up_ne _ _ (by decide)).trans h1 | exact (va_up_ne _ _ (by decide)).trans ((va_up_ne _ _ (by decide)).trans h1) | rfl | exact va_up_self _ _ _ | exact (va_up_ne _ _ (by decide)).trans (va_up_self _ _ _) | exact (va_up_ne _ _ (by decide)).trans ((va_up_ne _ _ (by decide)).trans hZ) | exact (va_up_ne _ _ (by decide)).trans ((va_up_ne _ _ (by decide)).trans ((va_up_ne _ _ (by decide)).trans h1)) | exact (va_up_ne _ _ (by decide)).trans ((va_up_ne _ _ (by decide)).trans (va_up_self _ _ _))) ?_
  show mW _ _ _ _ _ _ _ _ (.ref _ :: _)
  refine m_iload_n dX8_turns_11 rfl ?_
  refine m_lconst (v := 0) dX8_turns_12 (by decide) ?_
  refine m_lastore (k := 3) dX8_turns_13 (by first | assumption | exact (va_up_ne _ _ (by decide)).trans h1 | exact (va_up_ne _ _ (by decide)).trans ((va_up_ne _ _ (by decide)).trans h1) | rfl | exact va_up_self _ _ _ | exact (va_up_ne _ _ (by decide)).trans (va_up_self _ _ _) | exact (va_up_ne _ _ (by decide)).trans ((va_up_ne _ _ (by decide)).trans hZ) | exact (va_up_ne _ _ (by decide)).trans ((va_up_ne _ _ (by decide)).trans ((va_up_ne _ _ (by decide)).trans h1)) | exact (va_up_ne _ _ (by decide)).trans ((va_up_ne _ _ (by decide)).trans (va_up_self _ _ _))) ⟨by decide, by decide⟩ ?_
  try rw [va_uu]
  refine m_iinc (v := 4) dX8_turns_14 rfl (by decide) (by decide) ?_
  show mW _ _ _ _ _ _ 17 [_, _, _, _] _
  refine m_goto (t := 2) dX8_turns_17 (by decide) ?_
  refine m_iload_n dX8_turns_2 rfl ?_
  refine m_iconst (v := 5) dX8_turns_3 (by decide) ?_
  refine m_icmp_ge (t := 20) dX8_turns_4 (by decide) (fun q => absurd q (by decide)) (fun _ => ?_)
  refine m_aload_n dX8_turns_7 rfl ?_
  refine m_getfield dX8_turns_8 fl_X8_45 (by first | assumption | exact (va_up_ne _ _ (by decide)).trans h1 | exact (va_up_ne _ _ (by decide)).trans ((va_up_ne _ _ (by decide)).trans h1) | rfl | exact va_up_self _ _ _ | exact (va_up_ne _ _ (by decide)).trans (va_up_self _ _ _) | exact (va_up_ne _ _ (by decide)).trans ((va_up_ne _ _ (by decide)).trans hZ) | exact (va_up_ne _ _ (by decide)).trans ((va_up_ne _ _ (by decide)).trans ((va_up_ne _ _ (by decide)).trans h1)) | exact (va_up_ne _ _ (by decide)).trans ((va_up_ne _ _ (by decide)).trans (va_up_self _ _ _))) (by first | assumption | exact (va_up_ne _ _ (by decide)).trans h1 | exact (va_up_ne _ _ (by decide)).trans ((va_up_ne _ _ (by decide)).trans h1) | rfl | exact va_up_self _ _ _ | exact (va_up_ne _ _ (by decide)).trans (va_up_self _ _ _) | exact (va_up_ne _ _ (by decide)).trans ((va_up_ne _ _ (by decide)).trans hZ) | exact (va_up_ne _ _ (by decide)).trans ((va_up_ne _ _ (by decide)).trans ((va_up_ne _ _ (by decide)).trans h1)) | exact (va_up_ne _ _ (by decide)).trans ((va_up_ne _ _ (by decide)).trans (va_up_self _ _ _))) ?_
  show mW _ _ _ _ _ _ _ _ (.ref _ :: _)
  refine m_iload_n dX8_turns_11 rfl ?_
  refine m_lconst (v := 0) dX8_turns_12 (by decide) ?_
  refine m_lastore (k := 4) dX8_turns_13 (by first | assumption | exact (va_up_ne _ _ (by decide)).trans h1 | exact (va_up_ne _ _ (by decide)).trans ((va_up_ne _ _ (by decide)).trans h1) | rfl | exact va_up_self _ _ _ | exact (va_up_ne _ _ (by decide)).trans (va_up_self _ _ _) | exact (va_up_ne _ _ (by decide)).trans ((va_up_ne _ _ (by decide)).trans hZ) | exact (va_up_ne _ _ (by decide)).trans ((va_up_ne _ _ (by decide)).trans ((va_up_ne _ _ (by decide)).trans h1)) | exact (va_up_ne _ _ (by decide)).trans ((va_up_ne _ _ (by decide)).trans (va_up_self _ _ _))) ⟨by decide, by decide⟩ ?_
  try rw [va_uu]
  refine m_iinc (v := 5) dX8_turns_14 rfl (by decide) (by decide) ?_
  show mW _ _ _ _ _ _ 17 [_, _, _, _] _
  refine m_goto (t := 2) dX8_turns_17 (by decide) ?_
  refine m_iload_n dX8_turns_2 rfl ?_
  refine m_iconst (v := 5) dX8_turns_3 (by decide) ?_
  refine m_icmp_ge (t := 20) dX8_turns_4 (by decide) (fun _ => ?_) (fun q => absurd (by decide) q)
  refine m_iconst (v := 0) dX8_turns_20 (by decide) ?_
  refine m_istore_n dX8_turns_21 (by decide) ?_
  show mW _ _ _ _ _ _ 22 [_, _, _, _] _
  show mW K _ 0 0 n (va_up hp 78 (eL 5 (fill5 (fun _ => 0) T))) 22 [.ref 67, .int (nI d), .int (nI 0), .retAddr 0] []
  rw [← va_uid (va_up hp 78 (eL 5 (fill5 (fun _ => 0) T))) (k := 79) (v := eL 5 Pr) ((va_up_ne _ _ (by decide)).trans h3)]
  refine l_turnJ h1 hZ hd (d + 1) 0 _ _ _ (by omega) (fun v9 => ?_)
  unfold tuR at hF
  generalize trR Z d (d + 1) 0 (fill5 (fun _ => 0) T) Pr = R at hF ⊢
  show mW K _ 0 0 n (va_up (va_up hp 78 (eL 5 R.1)) 79 (eL 5 R.2)) 121 [.ref 67, .int (nI d), .int (nI (d + 1)), v9] []
  refine m_iconst (v := 0) dX8_turns_121 (by decide) ?_
  refine m_istore_n dX8_turns_122 (by decide) ?_
  show mW _ _ _ _ _ _ 123 [_, _, _, _] _
  refine m_iload_n dX8_turns_123 rfl ?_
  refine m_iconst (v := 5) dX8_turns_124 (by decide) ?_
  refine m_icmp_ge (t := 146) dX8_turns_125 (by decide) (fun q => absurd q (by decide)) (fun _ => ?_)
  refine m_aload_n dX8_turns_128 rfl ?_
  refine m_getfield dX8_turns_129 fl_X8_39 (by first | assumption | exact (va_up_ne _ _ (by decide)).trans h1 | exact (va_up_ne _ _ (by decide)).trans ((va_up_ne _ _ (by decide)).trans h1) | rfl | exact va_up_self _ _ _ | exact (va_up_ne _ _ (by decide)).trans (va_up_self _ _ _) | exact (va_up_ne _ _ (by decide)).trans ((va_up_ne _ _ (by decide)).trans hZ) | exact (va_up_ne _ _ (by decide)).trans ((va_up_ne _ _ (by decide)).trans ((va_up_ne _ _ (by decide)).trans h1)) | exact (va_up_ne _ _ (by decide)).trans ((va_up_ne _ _ (by decide)).trans (va_up_self _ _ _))) (by first | assumption | exact (va_up_ne _ _ (by decide)).trans h1 | exact (va_up_ne _ _ (by decide)).trans ((va_up_ne _ _ (by decide)).trans h1) | rfl | exact va_up_self _ _ _ | exact (va_up_ne _ _ (by decide)).trans (va_up_self _ _ _) | exact (va_up_ne _ _ (by decide)).trans ((va_up_ne _ _ (by decide)).trans hZ) | exact (va_up_ne _ _ (by decide)).trans ((va_up_ne _ _ (by decide)).trans ((va_up_ne _ _ (by decide)).trans h1)) | exact (va_up_ne _ _ (by decide)).trans ((va_up_ne _ _ (by decide)).trans (va_up_self _ _ _))) ?_
  show mW _ _ _ _ _ _ _ _ (.ref _ :: _)
  refine m_iload_n dX8_turns_132 rfl ?_
  refine m_aload_n dX8_turns_133 rfl ?_
  refine m_getfield dX8_turns_134 fl_X8_45 (by first | assumption | exact (va_up_ne _ _ (by decide)).trans h1 | exact (va_up_ne _ _ (by decide)).trans ((va_up_ne _ _ (by decide)).trans h1) | rfl | exact va_up_self _ _ _ | exact (va_up_ne _ _ (by decide)).trans (va_up_self _ _ _) | exact (va_up_ne _ _ (by decide)).trans ((va_up_ne _ _ (by decide)).trans hZ) | exact (va_up_ne _ _ (by decide)).trans ((va_up_ne _ _ (by decide)).trans ((va_up_ne _ _ (by decide)).trans h1)) | exact (va_up_ne _ _ (by decide)).trans ((va_up_ne _ _ (by decide)).trans (va_up_self _ _ _))) (by first | assumption | exact (va_up_ne _ _ (by decide)).trans h1 | exact (va_up_ne _ _ (by decide)).trans ((va_up_ne _ _ (by decide)).trans h1) | rfl | exact va_up_self _ _ _ | exact (va_up_ne _ _ (by decide)).trans (va_up_self _ _ _) | exact (va_up_ne _ _ (by decide)).trans ((va_up_ne _ _ (by decide)).trans hZ) | exact (va_up_ne _ _ (by decide)).trans ((va_up_ne _ _ (by decide)).trans ((va_up_ne _ _ (by decide)).trans h1)) | exact (va_up_ne _ _ (by decide)).trans ((va_up_ne _ _ (by decide)).trans (va_up_self _ _ _))) ?_
  show mW _ _ _ _ _ _ _ _ (.ref _ :: _)
  refine m_iload_n dX8_turns_137 rfl ?_
  refine m_laload (k := 0) dX8_turns_138 (by first | assumption | exact (va_up_ne _ _ (by decide)).trans h1 | exact (va_up_ne _ _ (by decide)).trans ((va_up_ne _ _ (by decide)).trans h1) | rfl | exact va_up_self _ _ _ | exact (va_up_ne _ _ (by decide)).trans (va_up_self _ _ _) | exact (va_up_ne _ _ (by decide)).trans ((va_up_ne _ _ (by decide)).trans hZ) | exact (va_up_ne _ _ (by decide)).trans ((va_up_ne _ _ (by decide)).trans ((va_up_ne _ _ (by decide)).trans h1)) | exact (va_up_ne _ _ (by decide)).trans ((va_up_ne _ _ (by decide)).trans (va_up_self _ _ _))) ⟨by decide, by decide⟩ ?_
  refine m_lastore (k := 0) dX8_turns_139 (by first | assumption | exact (va_up_ne _ _ (by decide)).trans h1 | exact (va_up_ne _ _ (by decide)).trans ((va_up_ne _ _ (by decide)).trans h1) | rfl | exact va_up_self _ _ _ | exact (va_up_ne _ _ (by decide)).trans (va_up_self _ _ _) | exact (va_up_ne _ _ (by decide)).trans ((va_up_ne _ _ (by decide)).trans hZ) | exact (va_up_ne _ _ (by decide)).trans ((va_up_ne _ _ (by decide)).trans ((va_up_ne _ _ (by decide)).trans h1)) | exact (va_up_ne _ _ (by decide)).trans ((va_up_ne _ _ (by decide)).trans (va_up_self _ _ _))) ⟨by decide, by decide⟩ ?_
  try rw [va_uu]
  refine m_iinc (v := 1) dX8_turns_140 rfl (by decide) (by decide) ?_
  show mW _ _ _ _ _ _ 143 [_, _, _, _] _
  refine m_goto (t := 123) dX8_turns_143 (by decide) ?_
  refine m_iload_n dX8_turns_123 rfl ?_
  refine m_iconst (v := 5) dX8_turns_124 (by decide) ?_
  refine m_icmp_ge (t := 146) dX8_turns_125 (by decide) (fun q => absurd q (by decide)) (fun _ => ?_)
  refine m_aload_n dX8_turns_128 rfl ?_
  refine m_getfield dX8_turns_129 fl_X8_39 (by first | assumption | exact (va_up_ne _ _ (by decide)).trans h1 | exact (va_up_ne _ _ (by decide)).trans ((va_up_ne _ _ (by decide)).trans h1) | rfl | exact va_up_self _ _ _ | exact (va_up_ne _ _ (by decide)).trans (va_up_self _ _ _) | exact (va_up_ne _ _ (by decide)).trans ((va_up_ne _ _ (by decide)).trans hZ) | exact (va_up_ne _ _ (by decide)).trans ((va_up_ne _ _ (by decide)).trans ((va_up_ne _ _ (by decide)).trans h1)) | exact (va_up_ne _ _ (by decide)).trans ((va_up_ne _ _ (by decide)).trans (va_up_self _ _ _))) (by first | assumption | exact (va_up_ne _ _ (by decide)).trans h1 | exact (va_up_ne _ _ (by decide)).trans ((va_up_ne _ _ (by decide)).trans h1) | rfl | exact va_up_self _ _ _ | exact (va_up_ne _ _ (by decide)).trans (va_up_self _ _ _) | exact (va_up_ne _ _ (by decide)).trans ((va_up_ne _ _ (by decide)).trans hZ) | exact (va_up_ne _ _ (by decide)).trans ((va_up_ne _ _ (by decide)).trans ((va_up_ne _ _ (by decide)).trans h1)) | exact (va_up_ne _ _ (by decide)).trans ((va_up_ne _ _ (by decide)).trans (va_up_self _ _ _))) ?_
  show mW _ _ _ _ _ _ _ _ (.ref _ :: _)
  refine m_iload_n dX8_turns_132 rfl ?_
  refine m_aload_n dX8_turns_133 rfl ?_
  refine m_getfield dX8_turns_134 fl_X8_45 (by first | assumption | exact (va_up_ne _ _ (by decide)).trans h1 | exact (va_up_ne _ _ (by decide)).trans ((va_up_ne _ _ (by decide)).trans h1) | rfl | exact va_up_self _ _ _ | exact (va_up_ne _ _ (by decide)).trans (va_up_self _ _ _) | exact (va_up_ne _ _ (by decide)).trans ((va_up_ne _ _ (by decide)).trans hZ) | exact (va_up_ne _ _ (by decide)).trans ((va_up_ne _ _ (by decide)).trans ((va_up_ne _ _ (by decide)).trans h1)) | exact (va_up_ne _ _ (by decide)).trans ((va_up_ne _ _ (by decide)).trans (va_up_self _ _ _))) (by first | assumption | exact (va_up_ne _ _ (by decide)).trans h1 | exact (va_up_ne _ _ (by decide)).trans ((va_up_ne _ _ (by decide)).trans h1) | rfl | exact va_up_self _ _ _ | exact (va_up_ne _ _ (by decide)).trans (va_up_self _ _ _) | exact (va_up_ne _ _ (by decide)).trans ((va_up_ne _ _ (by decide)).trans hZ) | exact (va_up_ne _ _ (by decide)).trans ((va_up_ne _ _ (by decide)).trans ((va_up_ne _ _ (by decide)).trans h1)) | exact (va_up_ne _ _ (by decide)).trans ((va_up_ne _ _ (by decide)).trans (va_up_self _ _ _))) ?_
  show mW _ _ _ _ _ _ _ _ (.ref _ :: _)
  refine m_iload_n dX8_turns_137 rfl ?_
  refine m_laload (k := 1) dX8_turns_138 (by first | assumption | exact (va_up_ne _ _ (by decide)).trans h1 | exact (va_up_ne _ _ (by decide)).trans ((va_up_ne _ _ (by decide)).trans h1) | rfl | exact va_up_self _ _ _ | exact (va_up_ne _ _ (by decide)).trans (va_up_self _ _ _) | exact (va_up_ne _ _ (by decide)).trans ((va_up_ne _ _ (by decide)).trans hZ) | exact (va_up_ne _ _ (by decide)).trans ((va_up_ne _ _ (by decide)).trans ((va_up_ne _ _ (by decide)).trans h1)) | exact (va_up_ne _ _ (by decide)).trans ((va_up_ne _ _ (by decide)).trans (va_up_self _ _ _))) ⟨by decide, by decide⟩ ?_
  refine m_lastore (k := 1) dX8_turns_139 (by first | assumption | exact (va_up_ne _ _ (by decide)).trans h1 | exact (va_up_ne _ _ (by decide)).trans ((va_up_ne _ _ (by decide)).trans h1) | rfl | exact va_up_self _ _ _ | exact (va_up_ne _ _ (by decide)).trans (va_up_self _ _ _) | exact (va_up_ne _ _ (by decide)).trans ((va_up_ne _ _ (by decide)).trans hZ) | exact (va_up_ne _ _ (by decide)).trans ((va_up_ne _ _ (by decide)).trans ((va_up_ne _ _ (by decide)).trans h1)) | exact (va_up_ne _ _ (by decide)).trans ((va_up_ne _ _ (by decide)).trans (va_up_self _ _ _))) ⟨by decide, by decide⟩ ?_
  try rw [va_uu]
  refine m_iinc (v := 2) dX8_turns_140 rfl (by decide) (by decide) ?_
  show mW _ _ _ _ _ _ 143 [_, _, _, _] _
  refine m_goto (t := 123) dX8_turns_143 (by decide) ?_
  refine m_iload_n dX8_turns_123 rfl ?_
  refine m_iconst (v := 5) dX8_turns_124 (by decide) ?_
  refine m_icmp_ge (t := 146) dX8_turns_125 (by decide) (fun q => absurd q (by decide)) (fun _ => ?_)
  refine m_aload_n dX8_turns_128 rfl ?_
  refine m_getfield dX8_turns_129 fl_X8_39 (by first | assumption | exact (va_up_ne _ _ (by decide)).trans h1 | exact (va_up_ne _ _ (by decide)).trans ((va_up_ne _ _ (by decide)).trans h1) | rfl | exact va_up_self _ _ _ | exact (va_up_ne _ _ (by decide)).trans (va_up_self _ _ _) | exact (va_up_ne _ _ (by decide)).trans ((va_up_ne _ _ (by decide)).trans hZ) | exact (va_up_ne _ _ (by decide)).trans ((va_up_ne _ _ (by decide)).trans ((va_up_ne _ _ (by decide)).trans h1)) | exact (va_up_ne _ _ (by decide)).trans ((va_up_ne _ _ (by decide)).trans (va_up_self _ _ _))) (by first | assumption | exact (va_up_ne _ _ (by decide)).trans h1 | exact (va_up_ne _ _ (by decide)).trans ((va_up_ne _ _ (by decide)).trans h1) | rfl | exact va_up_self _ _ _ | exact (va_up_ne _ _ (by decide)).trans (va_up_self _ _ _) | exact (va_up_ne _ _ (by decide)).trans ((va_up_ne _ _ (by decide)).trans hZ) | exact (va_up_ne _ _ (by decide)).trans ((va_up_ne _ _ (by decide)).trans ((va_up_ne _ _ (by decide)).trans h1)) | exact (va_up_ne _ _ (by decide)).trans ((va_up_ne _ _ (by decide)).trans (va_up_self _ _ _))) ?_
  show mW _ _ _ _ _ _ _ _ (.ref _ :: _)
  refine m_iload_n dX8_turns_132 rfl ?_
  refine m_aload_n dX8_turns_133 rfl ?_
  refine m_getfield dX8_turns_134 fl_X8_45 (by first | assumption | exact (va_up_ne _ _ (by decide)).trans h1 | exact (va_up_ne _ _ (by decide)).trans ((va_up_ne _ _ (by decide)).trans h1) | rfl | exact va_up_self _ _ _ | exact (va_up_ne _ _ (by decide)).trans (va_up_self _ _ _) | exact (va_up_ne _ _ (by decide)).trans ((va_up_ne _ _ (by decide)).trans hZ) | exact (va_up_ne _ _ (by decide)).trans ((va_up_ne _ _ (by decide)).trans ((va_up_ne _ _ (by decide)).trans h1)) | exact (va_up_ne _ _ (by decide)).trans ((va_up_ne _ _ (by decide)).trans (va_up_self _ _ _))) (by first | assumption | exact (va_up_ne _ _ (by decide)).trans h1 | exact (va_up_ne _ _ (by decide)).trans ((va_up_ne _ _ (by decide)).trans h1) | rfl | exact va_up_self _ _ _ | exact (va_up_ne _ _ (by decide)).trans (va_up_self _ _ _) | exact (va_up_ne _ _ (by decide)).trans ((va_up_ne _ _ (by decide)).trans hZ) | exact (va_up_ne _ _ (by decide)).trans ((va_up_ne _ _ (by decide)).trans ((va_up_ne _ _ (by decide)).trans h1)) | exact (va_up_ne _ _ (by decide)).trans ((va_up_ne _ _ (by decide)).trans (va_up_self _ _ _))) ?_
  show mW _ _ _ _ _ _ _ _ (.ref _ :: _)
  refine m_iload_n dX8_turns_137 rfl ?_
  refine m_laload (k := 2) dX8_turns_138 (by first | assumption | exact (va_up_ne _ _ (by decide)).trans h1 | exact (va_up_ne _ _ (by decide)).trans ((va_up_ne _ _ (by decide)).trans h1) | rfl | exact va_up_self _ _ _ | exact (va_up_ne _ _ (by decide)).trans (va_up_self _ _ _) | exact (va_up_ne _ _ (by decide)).trans ((va_up_ne _ _ (by decide)).trans hZ) | exact (va_up_ne _ _ (by decide)).trans ((va_up_ne _ _ (by decide)).trans ((va_up_ne _ _ (by decide)).trans h1)) | exact (va_up_ne _ _ (by decide)).trans ((va_up_ne _ _ (by decide)).trans (va_up_self _ _ _))) ⟨by decide, by decide⟩ ?_
  refine m_lastore (k := 2) dX8_turns_139 (by first | assumption | exact (va_up_ne _ _ (by decide)).trans h1 | exact (va_up_ne _ _ (by decide)).trans ((va_up_ne _ _ (by decide)).trans h1) | rfl | exact va_up_self _ _ _ | exact (va_up_ne _ _ (by decide)).trans (va_up_self _ _ _) | exact (va_up_ne _ _ (by decide)).trans ((va_up_ne _ _ (by decide)).trans hZ) | exact (va_up_ne _ _ (by decide)).trans ((va_up_ne _ _ (by decide)).trans ((va_up_ne _ _ (by decide)).trans h1)) | exact (va_up_ne _ _ (by decide)).trans ((va_up_ne _ _ (by decide)).trans (va_up_self _ _ _))) ⟨by decide, by decide⟩ ?_
  try rw [va_uu]
  refine m_iinc (v := 3) dX8_turns_140 rfl (by decide) (by decide) ?_
  show mW _ _ _ _ _ _ 143 [_, _, _, _] _
  refine m_goto (t := 123) dX8_turns_143 (by decide) ?_
  refine m_iload_n dX8_turns_123 rfl ?_
  refine m_iconst (v := 5) dX8_turns_124 (by decide) ?_
  refine m_icmp_ge (t := 146) dX8_turns_125 (by decide) (fun q => absurd q (by decide)) (fun _ => ?_)
  refine m_aload_n dX8_turns_128 rfl ?_
  refine m_getfield dX8_turns_129 fl_X8_39 (by first | assumption | exact (va_up_ne _ _ (by decide)).trans h1 | exact (va_up_ne _ _ (by decide)).trans ((va_up_ne _ _ (by decide)).trans h1) | rfl | exact va_up_self _ _ _ | exact (va_up_ne _ _ (by decide)).trans (va_up_self _ _ _) | exact (va_up_ne _ _ (by decide)).trans ((va_up_ne _ _ (by decide)).trans hZ) | exact (va_up_ne _ _ (by decide)).trans ((va_up_ne _ _ (by decide)).trans ((va_up_ne _ _ (by decide)).trans h1)) | exact (va_up_ne _ _ (by decide)).trans ((va_up_ne _ _ (by decide)).trans (va_up_self _ _ _))) (by first | assumption | exact (va_up_ne _ _ (by decide)).trans h1 | exact (va_up_ne _ _ (by decide)).trans ((va_up_ne _ _ (by decide)).trans h1) | rfl | exact va_up_self _ _ _ | exact (va_up_ne _ _ (by decide)).trans (va_up_self _ _ _) | exact (va_up_ne _ _ (by decide)).trans ((va_up_ne _ _ (by decide)).trans hZ) | exact (va_up_ne _ _ (by decide)).trans ((va_up_ne _ _ (by decide)).trans ((va_up_ne _ _ (by decide)).trans h1)) | exact (va_up_ne _ _ (by decide)).trans ((va_up_ne _ _ (by decide)).trans (va_up_self _ _ _))) ?_
  show mW _ _ _ _ _ _ _ _ (.ref _ :: _)
  refine m_iload_n dX8_turns_132 rfl ?_
  refine m_aload_n dX8_turns_133 rfl ?_
  refine m_getfield dX8_turns_134 fl_X8_45 (by first | assumption | exact (va_up_ne _ _ (by decide)).trans h1 | exact (va_up_ne _ _ (by decide)).trans ((va_up_ne _ _ (by decide)).trans h1) | rfl | exact va_up_self _ _ _ | exact (va_up_ne _ _ (by decide)).trans (va_up_self _ _ _) | exact (va_up_ne _ _ (by decide)).trans ((va_up_ne _ _ (by decide)).trans hZ) | exact (va_up_ne _ _ (by decide)).trans ((va_up_ne _ _ (by decide)).trans ((va_up_ne _ _ (by decide)).trans h1)) | exact (va_up_ne _ _ (by decide)).trans ((va_up_ne _ _ (by decide)).trans (va_up_self _ _ _))) (by first | assumption | exact (va_up_ne _ _ (by decide)).trans h1 | exact (va_up_ne _ _ (by decide)).trans ((va_up_ne _ _ (by decide)).trans h1) | rfl | exact va_up_self _ _ _ | exact (va_up_ne _ _ (by decide)).trans (va_up_self _ _ _) | exact (va_up_ne _ _ (by decide)).trans ((va_up_ne _ _ (by decide)).trans hZ) | exact (va_up_ne _ _ (by decide)).trans ((va_up_ne _ _ (by decide)).trans ((va_up_ne _ _ (by decide)).trans h1)) | exact (va_up_ne _ _ (by decide)).trans ((va_up_ne _ _ (by decide)).trans (va_up_self _ _ _))) ?_
  show mW _ _ _ _ _ _ _ _ (.ref _ :: _)
  refine m_iload_n dX8_turns_137 rfl ?_
  refine m_laload (k := 3) dX8_turns_138 (by first | assumption | exact (va_up_ne _ _ (by decide)).trans h1 | exact (va_up_ne _ _ (by decide)).trans ((va_up_ne _ _ (by decide)).trans h1) | rfl | exact va_up_self _ _ _ | exact (va_up_ne _ _ (by decide)).trans (va_up_self _ _ _) | exact (va_up_ne _ _ (by decide)).trans ((va_up_ne _ _ (by decide)).trans hZ) | exact (va_up_ne _ _ (by decide)).trans ((va_up_ne _ _ (by decide)).trans ((va_up_ne _ _ (by decide)).trans h1)) | exact (va_up_ne _ _ (by decide)).trans ((va_up_ne _ _ (by decide)).trans (va_up_self _ _ _))) ⟨by decide, by decide⟩ ?_
  refine m_lastore (k := 3) dX8_turns_139 (by first | assumption | exact (va_up_ne _ _ (by decide)).trans h1 | exact (va_up_ne _ _ (by decide)).trans ((va_up_ne _ _ (by decide)).trans h1) | rfl | exact va_up_self _ _ _ | exact (va_up_ne _ _ (by decide)).trans (va_up_self _ _ _) | exact (va_up_ne _ _ (by decide)).trans ((va_up_ne _ _ (by decide)).trans hZ) | exact (va_up_ne _ _ (by decide)).trans ((va_up_ne _ _ (by decide)).trans ((va_up_ne _ _ (by decide)).trans h1)) | exact (va_up_ne _ _ (by decide)).trans ((va_up_ne _ _ (by decide)).trans (va_up_self _ _ _))) ⟨by decide, by decide⟩ ?_
  try rw [va_uu]
  refine m_iinc (v := 4) dX8_turns_140 rfl (by decide) (by decide) ?_
  show mW _ _ _ _ _ _ 143 [_, _, _, _] _
  refine m_goto (t := 123) dX8_turns_143 (by decide) ?_
  refine m_iload_n dX8_turns_123 rfl ?_
  refine m_iconst (v := 5) dX8_turns_124 (by decide) ?_
  refine m_icmp_ge (t := 146) dX8_turns_125 (by decide) (fun q => absurd q (by decide)) (fun _ => ?_)
  refine m_aload_n dX8_turns_128 rfl ?_
  refine m_getfield dX8_turns_129 fl_X8_39 (by first | assumption | exact (va_up_ne _ _ (by decide)).trans h1 | exact (va_up_ne _ _ (by decide)).trans ((va_up_ne _ _ (by decide)).trans h1) | rfl | exact va_up_self _ _ _ | exact (va_up_ne _ _ (by decide)).trans (va_up_self _ _ _) | exact (va_up_ne _ _ (by decide)).trans ((va_up_ne _ _ (by decide)).trans hZ) | exact (va_up_ne _ _ (by decide)).trans ((va_up_ne _ _ (by decide)).trans ((va_up_ne _ _ (by decide)).trans h1)) | exact (va_up_ne _ _ (by decide)).trans ((va_up_ne _ _ (by decide)).trans (va_up_self _ _ _))) (by first | assumption | exact (va_up_ne _ _ (by decide)).trans h1 | exact (va_up_ne _ _ (by decide)).trans ((va_up_ne _ _ (by decide)).trans h1) | rfl | exact va_up_self _ _ _ | exact (va_up_ne _ _ (by decide)).trans (va_up_self _ _ _) | exact (va_up_ne _ _ (by decide)).trans ((va_up_ne _ _ (by decide)).trans hZ) | exact (va_up_ne _ _ (by decide)).trans ((va_up_ne _ _ (by decide)).trans ((va_up_ne _ _ (by decide)).trans h1)) | exact (va_up_ne _ _ (by decide)).trans ((va_up_ne _ _ (by decide)).trans (va_up_self _ _ _))) ?_
  show mW _ _ _ _ _ _ _ _ (.ref _ :: _)
  refine m_iload_n dX8_turns_132 rfl ?_
  refine m_aload_n dX8_turns_133 rfl ?_
  refine m_getfield dX8_turns_134 fl_X8_45 (by first | assumption | exact (va_up_ne _ _ (by decide)).trans h1 | exact (va_up_ne _ _ (by decide)).trans ((va_up_ne _ _ (by decide)).trans h1) | rfl | exact va_up_self _ _ _ | exact (va_up_ne _ _ (by decide)).trans (va_up_self _ _ _) | exact (va_up_ne _ _ (by decide)).trans ((va_up_ne _ _ (by decide)).trans hZ) | exact (va_up_ne _ _ (by decide)).trans ((va_up_ne _ _ (by decide)).trans ((va_up_ne _ _ (by decide)).trans h1)) | exact (va_up_ne _ _ (by decide)).trans ((va_up_ne _ _ (by decide)).trans (va_up_self _ _ _))) (by first | assumption | exact (va_up_ne _ _ (by decide)).trans h1 | exact (va_up_ne _ _ (by decide)).trans ((va_up_ne _ _ (by decide)).trans h1) | rfl | exact va_up_self _ _ _ | exact (va_up_ne _ _ (by decide)).trans (va_up_self _ _ _) | exact (va_up_ne _ _ (by decide)).trans ((va_up_ne _ _ (by decide)).trans hZ) | exact (va_up_ne _ _ (by decide)).trans ((va_up_ne _ _ (by decide)).trans ((va_up_ne _ _ (by decide)).trans h1)) | exact (va_up_ne _ _ (by decide)).trans ((va_up_ne _ _ (by decide)).trans (va_up_self _ _ _))) ?_
  show mW _ _ _ _ _ _ _ _ (.ref _ :: _)
  refine m_iload_n dX8_turns_137 rfl ?_
  refine m_laload (k := 4) dX8_turns_138 (by first | assumption | exact (va_up_ne _ _ (by decide)).trans h1 | exact (va_up_ne _ _ (by decide)).trans ((va_up_ne _ _ (by decide)).trans h1) | rfl | exact va_up_self _ _ _ | exact (va_up_ne _ _ (by decide)).trans (va_up_self _ _ _) | exact (va_up_ne _ _ (by decide)).trans ((va_up_ne _ _ (by decide)).trans hZ) | exact (va_up_ne _ _ (by decide)).trans ((va_up_ne _ _ (by decide)).trans ((va_up_ne _ _ (by decide)).trans h1)) | exact (va_up_ne _ _ (by decide)).trans ((va_up_ne _ _ (by decide)).trans (va_up_self _ _ _))) ⟨by decide, by decide⟩ ?_
  refine m_lastore (k := 4) dX8_turns_139 (by first | assumption | exact (va_up_ne _ _ (by decide)).trans h1 | exact (va_up_ne _ _ (by decide)).trans ((va_up_ne _ _ (by decide)).trans h1) | rfl | exact va_up_self _ _ _ | exact (va_up_ne _ _ (by decide)).trans (va_up_self _ _ _) | exact (va_up_ne _ _ (by decide)).trans ((va_up_ne _ _ (by decide)).trans hZ) | exact (va_up_ne _ _ (by decide)).trans ((va_up_ne _ _ (by decide)).trans ((va_up_ne _ _ (by decide)).trans h1)) | exact (va_up_ne _ _ (by decide)).trans ((va_up_ne _ _ (by decide)).trans (va_up_self _ _ _))) ⟨by decide, by decide⟩ ?_
  try rw [va_uu]
  refine m_iinc (v := 5) dX8_turns_140 rfl (by decide) (by decide) ?_
  show mW _ _ _ _ _ _ 143 [_, _, _, _] _
  refine m_goto (t := 123) dX8_turns_143 (by decide) ?_
  refine m_iload_n dX8_turns_123 rfl ?_
  refine m_iconst (v := 5) dX8_turns_124 (by decide) ?_
  refine m_icmp_ge (t := 146) dX8_turns_125 (by decide) (fun _ => ?_) (fun q => absurd (by decide) q)
  exact m_return hF dX8_turns_146 rfl rfl rfl ⟨rfl, rfl⟩

