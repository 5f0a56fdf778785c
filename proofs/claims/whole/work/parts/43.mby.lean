/-! ===== the reference: countsBy ===== -/
theorem dg_z {Z : Nat → Int64} : deg5 (fun t => Z (0 + t)) = deg5 Z := deg5_eq (fun t _ => by rw [Nat.zero_add])
theorem dgN_2 {Z : Nat → Int64} (h : deg5 Z ≠ -1) : orN (deg5 (fun t => Z (0 + t))) = nI (dgN Z) := by
  rw [dg_z]
  unfold deg5 dgN at *
  by_cases c4 : Z 4 = 0
  · by_cases c3 : Z 3 = 0
    · by_cases c2 : Z 2 = 0
      · by_cases c1 : Z 1 = 0
        · by_cases c0 : Z 0 = 0
          · simp only [if_pos c4, if_pos c3, if_pos c2, if_pos c1, if_pos c0] at h
            exact absurd rfl h
          · simp only [if_pos c4, if_pos c3, if_pos c2, if_pos c1, if_neg c0]
            rfl
        · simp only [if_pos c4, if_pos c3, if_pos c2, if_neg c1]
          rfl
      · simp only [if_pos c4, if_pos c3, if_neg c2]
        rfl
    · simp only [if_pos c4, if_neg c3]
      rfl
  · simp only [if_neg c4]
    rfl
theorem nI_n4 {d : Nat} (h : d ≤ 4) : ¬ nI d = -4 := by
  match d, h with
  | 0, _ | 1, _ | 2, _ | 3, _ | 4, _ => decide
set_option maxHeartbeats 400000 in
set_option maxRecDepth 100000 in
theorem t_X8_countsBy_n {n : Nat} {hp : mHp} {ac ia tm ri ev le ch ls rm sm ra fa : Int32} (h1 : hp 67 = eO 8 (oMod ac ia tm ri ev le ch ls rm sm ra fa)) {Z A : Nat → Int64} (hZ : hp 76 = eL 5 Z) (hA : hp 77 = eL 5 A) {b : Int32} (hne : deg5 Z = -1) : mC D_X8_countsBy [.ref 67, .int b] n hp (rI (-4) hp) := by
  refine m_enter rfl rfl (Nat.le_of_ble_eq_true rfl) (fun K hF => ?_)
  show mW K _ 0 0 _ _ 0 [.ref 67, .int b, .retAddr 0, .retAddr 0] []
  refine m_aload_n dX8_countsBy_0 rfl ?_
  refine m_getfield dX8_countsBy_1 fl_X8_39 (by first | assumption | rfl | exact va_up_self _ _ _) (by first | assumption | rfl | exact va_up_self _ _ _) ?_
  show mW _ _ _ _ _ _ _ _ (.ref _ :: _)
  refine m_iconst (v := 0) dX8_countsBy_4 (by decide) ?_
  refine m_invS_I dX8_countsBy_5 lk_X8_118 ar_X8_degree (t_X8_degree (at_ := 0) hZ (by decide) (by decide)) rfl (Nat.le_of_ble_eq_true rfl) (by decide) (by decide) (by decide) (by decide) rfl rfl ?_
  try rw [va_uu]
  refine m_ci (v := -4) (by rw [dg_z, hne]; rfl) ?_
  refine m_istore_n dX8_countsBy_8 (by decide) ?_
  show mW _ _ _ _ _ _ 9 [_, _, _, _] _
  refine m_iload_n dX8_countsBy_9 rfl ?_
  refine m_bipush (v := -4) dX8_countsBy_10 (by decide) ?_
  refine m_icmp_ne (t := 18) dX8_countsBy_12 (by decide) (fun q => absurd rfl q) (fun _ => ?_)
  refine m_bipush (v := -4) dX8_countsBy_15 (by decide) ?_
  exact m_ireturn hF dX8_countsBy_17 rfl rfl rfl ⟨rfl, rfl⟩

set_option maxHeartbeats 400000 in
set_option maxRecDepth 100000 in
theorem t_X8_countsBy_0 {n : Nat} {hp : mHp} {ac ia tm ri ev le ch ls rm sm ra fa : Int32} (h1 : hp 67 = eO 8 (oMod ac ia tm ri ev le ch ls rm sm ra fa)) {Z A : Nat → Int64} (hZ : hp 76 = eL 5 Z) (hA : hp 77 = eL 5 A) (hne : deg5 Z ≠ -1) : mC D_X8_countsBy [.ref 67, .int 0] n hp (fun v hp' => v = some (.int (nI (dgN Z))) ∧ ∃ (ch' ls' : Int32) (A' : Nat → Int64), hp' = va_up (va_up hp 77 (eL 5 A')) 67 (eO 8 (oMod ac ia tm (cntM Z A).1 ((cntM Z A).2.1 + (nI (dgN Z) - nI (dgN Z))) (cntM Z A).2.2 ch' ls' rm sm ra fa))) := by
  refine m_enter rfl rfl (Nat.le_of_ble_eq_true rfl) (fun K hF => ?_)
  show mW K _ 0 0 _ _ 0 [.ref 67, .int 0, .retAddr 0, .retAddr 0] []
  refine m_aload_n dX8_countsBy_0 rfl ?_
  refine m_getfield dX8_countsBy_1 fl_X8_39 (by first | assumption | rfl | exact va_up_self _ _ _) (by first | assumption | rfl | exact va_up_self _ _ _) ?_
  show mW _ _ _ _ _ _ _ _ (.ref _ :: _)
  refine m_iconst (v := 0) dX8_countsBy_4 (by decide) ?_
  refine m_invS_I dX8_countsBy_5 lk_X8_118 ar_X8_degree (t_X8_degree (at_ := 0) hZ (by decide) (by decide)) rfl (Nat.le_of_ble_eq_true rfl) (by decide) (by decide) (by decide) (by decide) rfl rfl ?_
  try rw [va_uu]
  refine m_ci (v := nI (dgN Z)) (dgN_2 hne) ?_
  refine m_istore_n dX8_countsBy_8 (by decide) ?_
  show mW _ _ _ _ _ _ 9 [_, _, _, _] _
  refine m_iload_n dX8_countsBy_9 rfl ?_
  refine m_bipush (v := -4) dX8_countsBy_10 (by decide) ?_
  refine m_icmp_ne (t := 18) dX8_countsBy_12 (by decide) (fun c12 => ?_) (fun c12 => ?_)
  rotate_left
  · exact absurd c12 (nI_n4 (dgN_le Z))
  refine m_iload_n dX8_countsBy_18 rfl ?_
  refine m_iconst (v := 1) dX8_countsBy_19 (by decide) ?_
  refine m_icmp_ne (t := 28) dX8_countsBy_20 (by decide) (fun _ => ?_) (fun q => absurd q (by decide))
  refine m_aload_n dX8_countsBy_28 rfl ?_
  refine m_getfield dX8_countsBy_29 fl_X8_39 (by first | assumption | rfl | exact va_up_self _ _ _) (by first | assumption | rfl | exact va_up_self _ _ _) ?_
  show mW _ _ _ _ _ _ _ _ (.ref _ :: _)
  refine m_iconst (v := 0) dX8_countsBy_32 (by decide) ?_
  refine m_invS_I dX8_countsBy_33 lk_X8_118 ar_X8_degree (t_X8_degree (at_ := 0) hZ (by decide) (by decide)) rfl (Nat.le_of_ble_eq_true rfl) (by decide) (by decide) (by decide) (by decide) rfl rfl ?_
  try rw [va_uu]
  refine m_ci (v := nI (dgN Z)) (dgN_2 hne) ?_
  refine m_istore_n dX8_countsBy_36 (by decide) ?_
  show mW _ _ _ _ _ _ 37 [_, _, _, _] _
  refine m_aload_n dX8_countsBy_37 rfl ?_
  refine m_invV dX8_countsBy_38 lk_X8_134 ar_X8_counts (ci := 8) rfl rfl (by first | assumption | rfl | exact va_up_self _ _ _) (t_X8_counts h1 hZ hA hne) rfl (Nat.le_of_ble_eq_true rfl) (by decide) (by decide) (by decide) (by decide) (fun v hp' q => ?_)
  obtain ⟨rfl, ch', ls', A', rfl⟩ := q
  show mW K _ 0 0 n _ 41 [.ref 67, .int 0, .int (nI (dgN Z)), .int (nI (dgN Z))] []
  refine m_aload_n dX8_countsBy_41 rfl ?_
  refine m_dup dX8_countsBy_42 rfl ?_
  refine m_getfield dX8_countsBy_43 fl_X8_78 (by first | assumption | rfl | exact va_up_self _ _ _) (by first | assumption | rfl | exact va_up_self _ _ _) ?_
  show mW _ _ _ _ _ _ _ _ (.int _ :: _)
  refine m_iload_n dX8_countsBy_46 rfl ?_
  refine m_iload_n dX8_countsBy_47 rfl ?_
  refine m_isub dX8_countsBy_48 ?_
  refine m_iadd dX8_countsBy_49 ?_
  refine m_putfield dX8_countsBy_50 fl_X8_78 (by first | assumption | rfl | exact va_up_self _ _ _) (fun _ => rfl) (fun _ => rfl) ?_
  try rw [va_uu]
  rw [oMod_13]
  refine m_iload_n dX8_countsBy_53 rfl ?_
  exact m_ireturn hF dX8_countsBy_54 rfl rfl rfl ⟨rfl, ch', ls', A', rfl⟩

def tuZ (Z T0 Pr : Nat → Int64) : Nat → Int64 := fill5 (tuR Z T0 Pr (dgN Z)).1 Z
set_option maxHeartbeats 400000 in
set_option maxRecDepth 100000 in
theorem t_X8_countsBy_1 {n : Nat} {hp : mHp} {ac ia tm ri ev le ch ls rm sm ra fa : Int32} (h1 : hp 67 = eO 8 (oMod ac ia tm ri ev le ch ls rm sm ra fa)) {Z A : Nat → Int64} (hZ : hp 76 = eL 5 Z) (hA : hp 77 = eL 5 A) {T0 Pr : Nat → Int64} (hT : hp 78 = eL 5 T0) (hPr : hp 79 = eL 5 Pr) (hne : deg5 Z ≠ -1) (hn1 : deg5 (tuZ Z T0 Pr) ≠ -1) : mC D_X8_countsBy [.ref 67, .int 1] n hp (fun v hp' => v = some (.int (nI (dgN Z))) ∧ ∃ (ch' ls' : Int32) (A' : Nat → Int64), hp' = va_up (va_up (va_up (va_up (va_up hp 78 (eL 5 (tuR Z T0 Pr (dgN Z)).1)) 79 (eL 5 (tuR Z T0 Pr (dgN Z)).2)) 76 (eL 5 (tuZ Z T0 Pr))) 77 (eL 5 A')) 67 (eO 8 (oMod ac ia tm (cntM (tuZ Z T0 Pr) A).1 ((cntM (tuZ Z T0 Pr) A).2.1 + (nI (dgN Z) - nI (dgN (tuZ Z T0 Pr)))) (cntM (tuZ Z T0 Pr) A).2.2 ch' ls' rm sm ra fa))) := by
  refine m_enter rfl rfl (Nat.le_of_ble_eq_true rfl) (fun K hF => ?_)
  show mW K _ 0 0 _ _ 0 [.ref 67, .int 1, .retAddr 0, .retAddr 0] []
  refine m_aload_n dX8_countsBy_0 rfl ?_
  refine m_getfield dX8_countsBy_1 fl_X8_39 (by first | assumption | rfl | exact va_up_self _ _ _ | exact (va_up_ne _ _ (by decide)).trans ((va_up_ne _ _ (by decide)).trans ((va_up_ne _ _ (by decide)).trans h1))) (by first | assumption | rfl | exact va_up_self _ _ _ | exact (va_up_ne _ _ (by decide)).trans ((va_up_ne _ _ (by decide)).trans ((va_up_ne _ _ (by decide)).trans h1))) ?_
  show mW _ _ _ _ _ _ _ _ (.ref _ :: _)
  refine m_iconst (v := 0) dX8_countsBy_4 (by decide) ?_
  refine m_invS_I dX8_countsBy_5 lk_X8_118 ar_X8_degree (t_X8_degree (at_ := 0) hZ (by decide) (by decide)) rfl (Nat.le_of_ble_eq_true rfl) (by decide) (by decide) (by decide) (by decide) rfl rfl ?_
  try rw [va_uu]
  refine m_ci (v := nI (dgN Z)) (dgN_2 hne) ?_
  refine m_istore_n dX8_countsBy_8 (by decide) ?_
  show mW _ _ _ _ _ _ 9 [_, _, _, _] _
  refine m_iload_n dX8_countsBy_9 rfl ?_
  refine m_bipush (v := -4) dX8_countsBy_10 (by decide) ?_
  refine m_icmp_ne (t := 18) dX8_countsBy_12 (by decide) (fun c12 => ?_) (fun c12 => ?_)
  rotate_left
  · exact absurd c12 (nI_n4 (dgN_le Z))
  refine m_iload_n dX8_countsBy_18 rfl ?_
  refine m_iconst (v := 1) dX8_countsBy_19 (by decide) ?_
  refine m_icmp_ne (t := 28) dX8_countsBy_20 (by decide) (fun q => absurd rfl q) (fun _ => ?_)
  refine m_aload_n dX8_countsBy_23 rfl ?_
  refine m_iload_n dX8_countsBy_24 rfl ?_
  refine m_invV_V dX8_countsBy_25 lk_X8_131 ar_X8_turns (ci := 8) rfl rfl (by first | assumption | rfl | exact va_up_self _ _ _ | exact (va_up_ne _ _ (by decide)).trans ((va_up_ne _ _ (by decide)).trans ((va_up_ne _ _ (by decide)).trans h1))) (t_X8_turns h1 hZ hT hPr (dgN_le Z)) rfl (Nat.le_of_ble_eq_true rfl) (by decide) (by decide) (by decide) (by decide) rfl rfl ?_
  try rw [va_uu]
  show mW K _ 0 0 n (va_up (va_up (va_up hp 78 (eL 5 (tuR Z T0 Pr (dgN Z)).1)) 79 (eL 5 (tuR Z T0 Pr (dgN Z)).2)) 76 (eL 5 (tuZ Z T0 Pr))) 28 [.ref 67, .int 1, .int (nI (dgN Z)), .retAddr 0] []
  refine m_aload_n dX8_countsBy_28 rfl ?_
  refine m_getfield dX8_countsBy_29 fl_X8_39 (by first | assumption | rfl | exact va_up_self _ _ _ | exact (va_up_ne _ _ (by decide)).trans ((va_up_ne _ _ (by decide)).trans ((va_up_ne _ _ (by decide)).trans h1))) (by first | assumption | rfl | exact va_up_self _ _ _ | exact (va_up_ne _ _ (by decide)).trans ((va_up_ne _ _ (by decide)).trans ((va_up_ne _ _ (by decide)).trans h1))) ?_
  show mW _ _ _ _ _ _ _ _ (.ref _ :: _)
  refine m_iconst (v := 0) dX8_countsBy_32 (by decide) ?_
  refine m_invS_I dX8_countsBy_33 lk_X8_118 ar_X8_degree (t_X8_degree (at_ := 0) (f := (tuZ Z T0 Pr)) (va_up_self _ _ _) (by decide) (by decide)) rfl (Nat.le_of_ble_eq_true rfl) (by decide) (by decide) (by decide) (by decide) rfl rfl ?_
  try rw [va_uu]
  refine m_ci (v := nI (dgN (tuZ Z T0 Pr))) (dgN_2 hn1) ?_
  refine m_istore_n dX8_countsBy_36 (by decide) ?_
  show mW _ _ _ _ _ _ 37 [_, _, _, _] _
  refine m_aload_n dX8_countsBy_37 rfl ?_
  refine m_invV dX8_countsBy_38 lk_X8_134 ar_X8_counts (ci := 8) rfl rfl (by first | assumption | rfl | exact va_up_self _ _ _ | exact (va_up_ne _ _ (by decide)).trans ((va_up_ne _ _ (by decide)).trans ((va_up_ne _ _ (by decide)).trans h1))) (t_X8_counts (Z := (tuZ Z T0 Pr)) (A := A) ((va_up_ne _ _ (by decide)).trans ((va_up_ne _ _ (by decide)).trans ((va_up_ne _ _ (by decide)).trans h1))) (va_up_self _ _ _) ((va_up_ne _ _ (by decide)).trans ((va_up_ne _ _ (by decide)).trans ((va_up_ne _ _ (by decide)).trans hA))) hn1) rfl (Nat.le_of_ble_eq_true rfl) (by decide) (by decide) (by decide) (by decide) (fun v hp' q => ?_)
  obtain ⟨rfl, ch', ls', A', rfl⟩ := q
  show mW K _ 0 0 n _ 41 [.ref 67, .int 1, .int (nI (dgN Z)), .int (nI (dgN (tuZ Z T0 Pr)))] []
  refine m_aload_n dX8_countsBy_41 rfl ?_
  refine m_dup dX8_countsBy_42 rfl ?_
  refine m_getfield dX8_countsBy_43 fl_X8_78 (by first | assumption | rfl | exact va_up_self _ _ _ | exact (va_up_ne _ _ (by decide)).trans ((va_up_ne _ _ (by decide)).trans ((va_up_ne _ _ (by decide)).trans h1))) (by first | assumption | rfl | exact va_up_self _ _ _ | exact (va_up_ne _ _ (by decide)).trans ((va_up_ne _ _ (by decide)).trans ((va_up_ne _ _ (by decide)).trans h1))) ?_
  show mW _ _ _ _ _ _ _ _ (.int _ :: _)
  refine m_iload_n dX8_countsBy_46 rfl ?_
  refine m_iload_n dX8_countsBy_47 rfl ?_
  refine m_isub dX8_countsBy_48 ?_
  refine m_iadd dX8_countsBy_49 ?_
  refine m_putfield dX8_countsBy_50 fl_X8_78 (by first | assumption | rfl | exact va_up_self _ _ _ | exact (va_up_ne _ _ (by decide)).trans ((va_up_ne _ _ (by decide)).trans ((va_up_ne _ _ (by decide)).trans h1))) (fun _ => rfl) (fun _ => rfl) ?_
  try rw [va_uu]
  rw [oMod_13]
  refine m_iload_n dX8_countsBy_53 rfl ?_
  exact m_ireturn hF dX8_countsBy_54 rfl rfl rfl ⟨rfl, ch', ls', A', rfl⟩

