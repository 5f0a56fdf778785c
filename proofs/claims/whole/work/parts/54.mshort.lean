/-! ===== the reference: in lowest terms; a step of division ===== -/
def gcdM (z : Nat → Int) : Nat := Nat.gcd (Nat.gcd (Nat.gcd (Nat.gcd (Nat.gcd 0 (z 0).natAbs) (z 1).natAbs) (z 2).natAbs) (z 3).natAbs) (z 4).natAbs
theorem gcdM_5 (z : Nat → Int) : gcdM z = gcd5 z := by
  unfold gcdM gcd5
  rw [Nat.gcd_comm _ (z 4).natAbs, Nat.gcd_comm _ (z 3).natAbs, Nat.gcd_comm _ (z 2).natAbs, Nat.gcd_comm _ (z 1).natAbs, Nat.gcd_comm 0 (z 0).natAbs]
theorem gcd_nb {a : Nat} {b : Int} (ha : bdZ (a : Int)) (hb : bdZ b) : bdZ ((Nat.gcd a b.natAbs : Nat) : Int) := gcd_bd (a := (a : Int)) ha hb
theorem lZ_gt1 {a : Int} (ha : bdZ a) : ¬ lZ a ≤ 1 ↔ 1 < a := by
  rw [show (1 : Int64) = lZ 1 by decide, lZ_le ha ⟨by decide, by decide⟩]
  omega
theorem gcdM_1 {z : Nat → Int} (h : gcdM z ≤ 1) (j : Nat) (hj : j < 5) : low5 z j = z j := low5_1 (by rw [← gcdM_5]; omega) j hj
set_option maxHeartbeats 400000 in
set_option maxRecDepth 100000 in
theorem t_X8_shortens {n : Nat} {hp : mHp} {ac ia tm ri ev le ch ls rm sm ra fa : Int32} (h1 : hp 67 = eO 8 (oMod ac ia tm ri ev le ch ls rm sm ra fa)) {U : Nat → Int64} {z : Nat → Int} (h2 : hp 81 = eL 5 U) (hW : ∀ j, j < 5 → U j = lZ (z j)) (hb : ∀ j, j < 5 → bdZ (z j)) : mC D_X8_shortens [.ref 67] n hp (fun v hp' => v = none ∧ ∃ U' : Nat → Int64, hp' = va_up hp 81 (eL 5 U') ∧ ∀ j, j < 5 → U' j = lZ (low5 z j)) := by
  refine m_enter rfl rfl (Nat.le_of_ble_eq_true rfl) (fun K hF => ?_)
  show mW K _ 0 0 _ _ 0 [.ref 67, .retAddr 0, .retAddr 0, .retAddr 0] []
  have y1 : ∀ f : mE, va_up hp 81 f 67 = _ := fun f => (va_up_ne _ _ (by decide)).trans h1
  refine m_lconst (v := 0) dX8_shortens_0 (by decide) ?_
  refine m_lstore_n dX8_shortens_1 (by decide) ?_
  show mW _ _ _ _ _ _ 2 [_, _, _, _] _
  refine m_iconst (v := 0) dX8_shortens_2 (by decide) ?_
  refine m_istore_n dX8_shortens_3 (by decide) ?_
  show mW _ _ _ _ _ _ 4 [_, _, _, _] _
  refine m_iload_n dX8_shortens_4 rfl ?_
  refine m_iconst (v := 5) dX8_shortens_5 (by decide) ?_
  refine m_icmp_ge (t := 26) dX8_shortens_6 (by decide) (fun q => absurd q (by decide)) (fun _ => ?_)
  refine m_lload_n dX8_shortens_9 rfl ?_
  refine m_aload_n dX8_shortens_10 rfl ?_
  refine m_getfield dX8_shortens_11 fl_X8_54 (by first | assumption | rfl | exact y1 _ | exact va_up_self _ _ _) (by first | assumption | rfl | exact y1 _ | exact va_up_self _ _ _) ?_
  show mW _ _ _ _ _ _ _ _ (.ref _ :: _)
  refine m_iload_n dX8_shortens_14 rfl ?_
  refine m_laload (k := 0) dX8_shortens_15 (by first | assumption | rfl | exact y1 _ | exact va_up_self _ _ _) ⟨by decide, by decide⟩ ?_
  refine m_cl (v := lZ (z 0)) (hW 0 (by decide)) ?_
  refine m_invS_L dX8_shortens_16 lk_X8_176 ar_X8_divisor (t_X8_divisor (x := ((0 : Nat) : Int)) (y := z 0) bd0 (hb 0 (by decide))) rfl (Nat.le_of_ble_eq_true rfl) (by decide) (by decide) (by decide) (by decide) rfl rfl ?_
  try rw [va_uu]
  refine m_cl (v := lZ ((Nat.gcd 0 (z 0).natAbs : Nat) : Int)) rfl ?_
  have b1 : bdZ ((Nat.gcd 0 (z 0).natAbs : Nat) : Int) := gcd_nb bd0 (hb 0 (by decide))
  refine m_lstore_n dX8_shortens_19 (by decide) ?_
  show mW _ _ _ _ _ _ 20 [_, _, _, _] _
  refine m_iinc (v := 1) dX8_shortens_20 rfl (by decide) (by decide) ?_
  show mW _ _ _ _ _ _ 23 [_, _, _, _] _
  refine m_goto (t := 4) dX8_shortens_23 (by decide) ?_
  refine m_iload_n dX8_shortens_4 rfl ?_
  refine m_iconst (v := 5) dX8_shortens_5 (by decide) ?_
  refine m_icmp_ge (t := 26) dX8_shortens_6 (by decide) (fun q => absurd q (by decide)) (fun _ => ?_)
  refine m_lload_n dX8_shortens_9 rfl ?_
  refine m_aload_n dX8_shortens_10 rfl ?_
  refine m_getfield dX8_shortens_11 fl_X8_54 (by first | assumption | rfl | exact y1 _ | exact va_up_self _ _ _) (by first | assumption | rfl | exact y1 _ | exact va_up_self _ _ _) ?_
  show mW _ _ _ _ _ _ _ _ (.ref _ :: _)
  refine m_iload_n dX8_shortens_14 rfl ?_
  refine m_laload (k := 1) dX8_shortens_15 (by first | assumption | rfl | exact y1 _ | exact va_up_self _ _ _) ⟨by decide, by decide⟩ ?_
  refine m_cl (v := lZ (z 1)) (hW 1 (by decide)) ?_
  refine m_invS_L dX8_shortens_16 lk_X8_176 ar_X8_divisor (t_X8_divisor (x := ((Nat.gcd 0 (z 0).natAbs : Nat) : Int)) (y := z 1) b1 (hb 1 (by decide))) rfl (Nat.le_of_ble_eq_true rfl) (by decide) (by decide) (by decide) (by decide) rfl rfl ?_
  try rw [va_uu]
  refine m_cl (v := lZ ((Nat.gcd (Nat.gcd 0 (z 0).natAbs) (z 1).natAbs : Nat) : Int)) rfl ?_
  have b2 : bdZ ((Nat.gcd (Nat.gcd 0 (z 0).natAbs) (z 1).natAbs : Nat) : Int) := gcd_nb b1 (hb 1 (by decide))
  refine m_lstore_n dX8_shortens_19 (by decide) ?_
  show mW _ _ _ _ _ _ 20 [_, _, _, _] _
  refine m_iinc (v := 2) dX8_shortens_20 rfl (by decide) (by decide) ?_
  show mW _ _ _ _ _ _ 23 [_, _, _, _] _
  refine m_goto (t := 4) dX8_shortens_23 (by decide) ?_
  refine m_iload_n dX8_shortens_4 rfl ?_
  refine m_iconst (v := 5) dX8_shortens_5 (by decide) ?_
  refine m_icmp_ge (t := 26) dX8_shortens_6 (by decide) (fun q => absurd q (by decide)) (fun _ => ?_)
  refine m_lload_n dX8_shortens_9 rfl ?_
  refine m_aload_n dX8_shortens_10 rfl ?_
  refine m_getfield dX8_shortens_11 fl_X8_54 (by first | assumption | rfl | exact y1 _ | exact va_up_self _ _ _) (by first | assumption | rfl | exact y1 _ | exact va_up_self _ _ _) ?_
  show mW _ _ _ _ _ _ _ _ (.ref _ :: _)
  refine m_iload_n dX8_shortens_14 rfl ?_
  refine m_laload (k := 2) dX8_shortens_15 (by first | assumption | rfl | exact y1 _ | exact va_up_self _ _ _) ⟨by decide, by decide⟩ ?_
  refine m_cl (v := lZ (z 2)) (hW 2 (by decide)) ?_
  refine m_invS_L dX8_shortens_16 lk_X8_176 ar_X8_divisor (t_X8_divisor (x := ((Nat.gcd (Nat.gcd 0 (z 0).natAbs) (z 1).natAbs : Nat) : Int)) (y := z 2) b2 (hb 2 (by decide))) rfl (Nat.le_of_ble_eq_true rfl) (by decide) (by decide) (by decide) (by decide) rfl rfl ?_
  try rw [va_uu]
  refine m_cl (v := lZ ((Nat.gcd (Nat.gcd (Nat.gcd 0 (z 0).natAbs) (z 1).natAbs) (z 2).natAbs : Nat) : Int)) rfl ?_
  have b3 : bdZ ((Nat.gcd (Nat.gcd (Nat.gcd 0 (z 0).natAbs) (z 1).natAbs) (z 2).natAbs : Nat) : Int) := gcd_nb b2 (hb 2 (by decide))
  refine m_lstore_n dX8_shortens_19 (by decide) ?_
  show mW _ _ _ _ _ _ 20 [_, _, _, _] _
  refine m_iinc (v := 3) dX8_shortens_20 rfl (by decide) (by decide) ?_
  show mW _ _ _ _ _ _ 23 [_, _, _, _] _
  refine m_goto (t := 4) dX8_shortens_23 (by decide) ?_
  refine m_iload_n dX8_shortens_4 rfl ?_
  refine m_iconst (v := 5) dX8_shortens_5 (by decide) ?_
  refine m_icmp_ge (t := 26) dX8_shortens_6 (by decide) (fun q => absurd q (by decide)) (fun _ => ?_)
  refine m_lload_n dX8_shortens_9 rfl ?_
  refine m_aload_n dX8_shortens_10 rfl ?_
  refine m_getfield dX8_shortens_11 fl_X8_54 (by first | assumption | rfl | exact y1 _ | exact va_up_self _ _ _) (by first | assumption | rfl | exact y1 _ | exact va_up_self _ _ _) ?_
  show mW _ _ _ _ _ _ _ _ (.ref _ :: _)
  refine m_iload_n dX8_shortens_14 rfl ?_
  refine m_laload (k := 3) dX8_shortens_15 (by first | assumption | rfl | exact y1 _ | exact va_up_self _ _ _) ⟨by decide, by decide⟩ ?_
  refine m_cl (v := lZ (z 3)) (hW 3 (by decide)) ?_
  refine m_invS_L dX8_shortens_16 lk_X8_176 ar_X8_divisor (t_X8_divisor (x := ((Nat.gcd (Nat.gcd (Nat.gcd 0 (z 0).natAbs) (z 1).natAbs) (z 2).natAbs : Nat) : Int)) (y := z 3) b3 (hb 3 (by decide))) rfl (Nat.le_of_ble_eq_true rfl) (by decide) (by decide) (by decide) (by decide) rfl rfl ?_
  try rw [va_uu]
  refine m_cl (v := lZ ((Nat.gcd (Nat.gcd (Nat.gcd (Nat.gcd 0 (z 0).natAbs) (z 1).natAbs) (z 2).natAbs) (z 3).natAbs : Nat) : Int)) rfl ?_
  have b4 : bdZ ((Nat.gcd (Nat.gcd (Nat.gcd (Nat.gcd 0 (z 0).natAbs) (z 1).natAbs) (z 2).natAbs) (z 3).natAbs : Nat) : Int) := gcd_nb b3 (hb 3 (by decide))
  refine m_lstore_n dX8_shortens_19 (by decide) ?_
  show mW _ _ _ _ _ _ 20 [_, _, _, _] _
  refine m_iinc (v := 4) dX8_shortens_20 rfl (by decide) (by decide) ?_
  show mW _ _ _ _ _ _ 23 [_, _, _, _] _
  refine m_goto (t := 4) dX8_shortens_23 (by decide) ?_
  refine m_iload_n dX8_shortens_4 rfl ?_
  refine m_iconst (v := 5) dX8_shortens_5 (by decide) ?_
  refine m_icmp_ge (t := 26) dX8_shortens_6 (by decide) (fun q => absurd q (by decide)) (fun _ => ?_)
  refine m_lload_n dX8_shortens_9 rfl ?_
  refine m_aload_n dX8_shortens_10 rfl ?_
  refine m_getfield dX8_shortens_11 fl_X8_54 (by first | assumption | rfl | exact y1 _ | exact va_up_self _ _ _) (by first | assumption | rfl | exact y1 _ | exact va_up_self _ _ _) ?_
  show mW _ _ _ _ _ _ _ _ (.ref _ :: _)
  refine m_iload_n dX8_shortens_14 rfl ?_
  refine m_laload (k := 4) dX8_shortens_15 (by first | assumption | rfl | exact y1 _ | exact va_up_self _ _ _) ⟨by decide, by decide⟩ ?_
  refine m_cl (v := lZ (z 4)) (hW 4 (by decide)) ?_
  refine m_invS_L dX8_shortens_16 lk_X8_176 ar_X8_divisor (t_X8_divisor (x := ((Nat.gcd (Nat.gcd (Nat.gcd (Nat.gcd 0 (z 0).natAbs) (z 1).natAbs) (z 2).natAbs) (z 3).natAbs : Nat) : Int)) (y := z 4) b4 (hb 4 (by decide))) rfl (Nat.le_of_ble_eq_true rfl) (by decide) (by decide) (by decide) (by decide) rfl rfl ?_
  try rw [va_uu]
  refine m_cl (v := lZ ((Nat.gcd (Nat.gcd (Nat.gcd (Nat.gcd (Nat.gcd 0 (z 0).natAbs) (z 1).natAbs) (z 2).natAbs) (z 3).natAbs) (z 4).natAbs : Nat) : Int)) rfl ?_
  have b5 : bdZ ((Nat.gcd (Nat.gcd (Nat.gcd (Nat.gcd (Nat.gcd 0 (z 0).natAbs) (z 1).natAbs) (z 2).natAbs) (z 3).natAbs) (z 4).natAbs : Nat) : Int) := gcd_nb b4 (hb 4 (by decide))
  refine m_lstore_n dX8_shortens_19 (by decide) ?_
  show mW _ _ _ _ _ _ 20 [_, _, _, _] _
  refine m_iinc (v := 5) dX8_shortens_20 rfl (by decide) (by decide) ?_
  show mW _ _ _ _ _ _ 23 [_, _, _, _] _
  refine m_goto (t := 4) dX8_shortens_23 (by decide) ?_
  refine m_iload_n dX8_shortens_4 rfl ?_
  refine m_iconst (v := 5) dX8_shortens_5 (by decide) ?_
  refine m_icmp_ge (t := 26) dX8_shortens_6 (by decide) (fun _ => ?_) (fun q => absurd (by decide) q)
  refine m_iconst (v := 0) dX8_shortens_26 (by decide) ?_
  refine m_istore_n dX8_shortens_27 (by decide) ?_
  show mW _ _ _ _ _ _ 28 [_, _, _, _] _
  refine m_iload_n dX8_shortens_28 rfl ?_
  refine m_iconst (v := 5) dX8_shortens_29 (by decide) ?_
  refine m_icmp_ge (t := 55) dX8_shortens_30 (by decide) (fun q => absurd q (by decide)) (fun _ => ?_)
  refine m_lload_n dX8_shortens_33 rfl ?_
  refine m_lconst (v := 1) dX8_shortens_34 (by decide) ?_
  refine m_lc_le (t := 55) dX8_shortens_35 dX8_shortens_36 (by decide) (fun c35 => ?_) (fun c35 => ?_)
  · exact m_return hF dX8_shortens_55 rfl rfl rfl ⟨rfl, U, (va_uid hp h2).symm, fun j hj => by rw [gcdM_1 (Nat.le_of_not_lt (fun y => (lZ_gt1 b5).mpr (by unfold gcdM at y; omega) c35)) j hj]; exact hW j hj⟩
  have h2 : ¬ gcd5 z < 2 := fun q => absurd ((lZ_gt1 b5).mp c35) (by rw [← gcdM_5] at q; unfold gcdM at q; omega)
  have h3 : ¬ gcd5 z = 0 := by omega
  rw [← gcdM_5] at h3
  refine m_aload_n dX8_shortens_39 rfl ?_
  refine m_getfield dX8_shortens_40 fl_X8_54 (by first | assumption | rfl | exact y1 _ | exact va_up_self _ _ _) (by first | assumption | rfl | exact y1 _ | exact va_up_self _ _ _) ?_
  show mW _ _ _ _ _ _ _ _ (.ref _ :: _)
  refine m_iload_n dX8_shortens_43 rfl ?_
  refine m_dup2 dX8_shortens_44 rfl rfl ?_
  refine m_laload (k := 0) dX8_shortens_45 (by first | assumption | rfl | exact y1 _ | exact va_up_self _ _ _) ⟨by decide, by decide⟩ ?_
  refine m_cl (v := lZ (z 0)) (hW 0 (by decide)) ?_
  refine m_lload_n dX8_shortens_46 rfl ?_
  refine m_ldiv dX8_shortens_47 (fun q => h3 (Int.ofNat.inj ((lZ_0 b5).mp q))) ?_
  refine m_cl (v := lZ (low5 z 0)) (by rw [show low5 z 0 = (z 0).tdiv (gcd5 z) from rfl, ← gcdM_5]; exact lZ_div (hb 0 (by decide)) b5 (tdiv_bd (hb 0 (by decide)))) ?_
  refine m_lastore (k := 0) dX8_shortens_48 (by first | assumption | rfl | exact y1 _ | exact va_up_self _ _ _) ⟨by decide, by decide⟩ ?_
  try rw [va_uu]
  refine m_iinc (v := 1) dX8_shortens_49 rfl (by decide) (by decide) ?_
  show mW _ _ _ _ _ _ 52 [_, _, _, _] _
  refine m_goto (t := 28) dX8_shortens_52 (by decide) ?_
  refine m_iload_n dX8_shortens_28 rfl ?_
  refine m_iconst (v := 5) dX8_shortens_29 (by decide) ?_
  refine m_icmp_ge (t := 55) dX8_shortens_30 (by decide) (fun q => absurd q (by decide)) (fun _ => ?_)
  refine m_lload_n dX8_shortens_33 rfl ?_
  refine m_lconst (v := 1) dX8_shortens_34 (by decide) ?_
  refine m_lc_le (t := 55) dX8_shortens_35 dX8_shortens_36 (by decide) (fun q => absurd q c35) (fun _ => ?_)
  skip
  refine m_aload_n dX8_shortens_39 rfl ?_
  refine m_getfield dX8_shortens_40 fl_X8_54 (by first | assumption | rfl | exact y1 _ | exact va_up_self _ _ _) (by first | assumption | rfl | exact y1 _ | exact va_up_self _ _ _) ?_
  show mW _ _ _ _ _ _ _ _ (.ref _ :: _)
  refine m_iload_n dX8_shortens_43 rfl ?_
  refine m_dup2 dX8_shortens_44 rfl rfl ?_
  refine m_laload (k := 1) dX8_shortens_45 (by first | assumption | rfl | exact y1 _ | exact va_up_self _ _ _) ⟨by decide, by decide⟩ ?_
  refine m_cl (v := lZ (z 1)) (hW 1 (by decide)) ?_
  refine m_lload_n dX8_shortens_46 rfl ?_
  refine m_ldiv dX8_shortens_47 (fun q => h3 (Int.ofNat.inj ((lZ_0 b5).mp q))) ?_
  refine m_cl (v := lZ (low5 z 1)) (by rw [show low5 z 1 = (z 1).tdiv (gcd5 z) from rfl, ← gcdM_5]; exact lZ_div (hb 1 (by decide)) b5 (tdiv_bd (hb 1 (by decide)))) ?_
  refine m_lastore (k := 1) dX8_shortens_48 (by first | assumption | rfl | exact y1 _ | exact va_up_self _ _ _) ⟨by decide, by decide⟩ ?_
  try rw [va_uu]
  refine m_iinc (v := 2) dX8_shortens_49 rfl (by decide) (by decide) ?_
  show mW _ _ _ _ _ _ 52 [_, _, _, _] _
  refine m_goto (t := 28) dX8_shortens_52 (by decide) ?_
  refine m_iload_n dX8_shortens_28 rfl ?_
  refine m_iconst (v := 5) dX8_shortens_29 (by decide) ?_
  refine m_icmp_ge (t := 55) dX8_shortens_30 (by decide) (fun q => absurd q (by decide)) (fun _ => ?_)
  refine m_lload_n dX8_shortens_33 rfl ?_
  refine m_lconst (v := 1) dX8_shortens_34 (by decide) ?_
  refine m_lc_le (t := 55) dX8_shortens_35 dX8_shortens_36 (by decide) (fun q => absurd q c35) (fun _ => ?_)
  skip
  refine m_aload_n dX8_shortens_39 rfl ?_
  refine m_getfield dX8_shortens_40 fl_X8_54 (by first | assumption | rfl | exact y1 _ | exact va_up_self _ _ _) (by first | assumption | rfl | exact y1 _ | exact va_up_self _ _ _) ?_
  show mW _ _ _ _ _ _ _ _ (.ref _ :: _)
  refine m_iload_n dX8_shortens_43 rfl ?_
  refine m_dup2 dX8_shortens_44 rfl rfl ?_
  refine m_laload (k := 2) dX8_shortens_45 (by first | assumption | rfl | exact y1 _ | exact va_up_self _ _ _) ⟨by decide, by decide⟩ ?_
  refine m_cl (v := lZ (z 2)) (hW 2 (by decide)) ?_
  refine m_lload_n dX8_shortens_46 rfl ?_
  refine m_ldiv dX8_shortens_47 (fun q => h3 (Int.ofNat.inj ((lZ_0 b5).mp q))) ?_
  refine m_cl (v := lZ (low5 z 2)) (by rw [show low5 z 2 = (z 2).tdiv (gcd5 z) from rfl, ← gcdM_5]; exact lZ_div (hb 2 (by decide)) b5 (tdiv_bd (hb 2 (by decide)))) ?_
  refine m_lastore (k := 2) dX8_shortens_48 (by first | assumption | rfl | exact y1 _ | exact va_up_self _ _ _) ⟨by decide, by decide⟩ ?_
  try rw [va_uu]
  refine m_iinc (v := 3) dX8_shortens_49 rfl (by decide) (by decide) ?_
  show mW _ _ _ _ _ _ 52 [_, _, _, _] _
  refine m_goto (t := 28) dX8_shortens_52 (by decide) ?_
  refine m_iload_n dX8_shortens_28 rfl ?_
  refine m_iconst (v := 5) dX8_shortens_29 (by decide) ?_
  refine m_icmp_ge (t := 55) dX8_shortens_30 (by decide) (fun q => absurd q (by decide)) (fun _ => ?_)
  refine m_lload_n dX8_shortens_33 rfl ?_
  refine m_lconst (v := 1) dX8_shortens_34 (by decide) ?_
  refine m_lc_le (t := 55) dX8_shortens_35 dX8_shortens_36 (by decide) (fun q => absurd q c35) (fun _ => ?_)
  skip
  refine m_aload_n dX8_shortens_39 rfl ?_
  refine m_getfield dX8_shortens_40 fl_X8_54 (by first | assumption | rfl | exact y1 _ | exact va_up_self _ _ _) (by first | assumption | rfl | exact y1 _ | exact va_up_self _ _ _) ?_
  show mW _ _ _ _ _ _ _ _ (.ref _ :: _)
  refine m_iload_n dX8_shortens_43 rfl ?_
  refine m_dup2 dX8_shortens_44 rfl rfl ?_
  refine m_laload (k := 3) dX8_shortens_45 (by first | assumption | rfl | exact y1 _ | exact va_up_self _ _ _) ⟨by decide, by decide⟩ ?_
  refine m_cl (v := lZ (z 3)) (hW 3 (by decide)) ?_
  refine m_lload_n dX8_shortens_46 rfl ?_
  refine m_ldiv dX8_shortens_47 (fun q => h3 (Int.ofNat.inj ((lZ_0 b5).mp q))) ?_
  refine m_cl (v := lZ (low5 z 3)) (by rw [show low5 z 3 = (z 3).tdiv (gcd5 z) from rfl, ← gcdM_5]; exact lZ_div (hb 3 (by decide)) b5 (tdiv_bd (hb 3 (by decide)))) ?_
  refine m_lastore (k := 3) dX8_shortens_48 (by first | assumption | rfl | exact y1 _ | exact va_up_self _ _ _) ⟨by decide, by decide⟩ ?_
  try rw [va_uu]
  refine m_iinc (v := 4) dX8_shortens_49 rfl (by decide) (by decide) ?_
  show mW _ _ _ _ _ _ 52 [_, _, _, _] _
  refine m_goto (t := 28) dX8_shortens_52 (by decide) ?_
  refine m_iload_n dX8_shortens_28 rfl ?_
  refine m_iconst (v := 5) dX8_shortens_29 (by decide) ?_
  refine m_icmp_ge (t := 55) dX8_shortens_30 (by decide) (fun q => absurd q (by decide)) (fun _ => ?_)
  refine m_lload_n dX8_shortens_33 rfl ?_
  refine m_lconst (v := 1) dX8_shortens_34 (by decide) ?_
  refine m_lc_le (t := 55) dX8_shortens_35 dX8_shortens_36 (by decide) (fun q => absurd q c35) (fun _ => ?_)
  skip
  refine m_aload_n dX8_shortens_39 rfl ?_
  refine m_getfield dX8_shortens_40 fl_X8_54 (by first | assumption | rfl | exact y1 _ | exact va_up_self _ _ _) (by first | assumption | rfl | exact y1 _ | exact va_up_self _ _ _) ?_
  show mW _ _ _ _ _ _ _ _ (.ref _ :: _)
  refine m_iload_n dX8_shortens_43 rfl ?_
  refine m_dup2 dX8_shortens_44 rfl rfl ?_
  refine m_laload (k := 4) dX8_shortens_45 (by first | assumption | rfl | exact y1 _ | exact va_up_self _ _ _) ⟨by decide, by decide⟩ ?_
  refine m_cl (v := lZ (z 4)) (hW 4 (by decide)) ?_
  refine m_lload_n dX8_shortens_46 rfl ?_
  refine m_ldiv dX8_shortens_47 (fun q => h3 (Int.ofNat.inj ((lZ_0 b5).mp q))) ?_
  refine m_cl (v := lZ (low5 z 4)) (by rw [show low5 z 4 = (z 4).tdiv (gcd5 z) from rfl, ← gcdM_5]; exact lZ_div (hb 4 (by decide)) b5 (tdiv_bd (hb 4 (by decide)))) ?_
  refine m_lastore (k := 4) dX8_shortens_48 (by first | assumption | rfl | exact y1 _ | exact va_up_self _ _ _) ⟨by decide, by decide⟩ ?_
  try rw [va_uu]
  refine m_iinc (v := 5) dX8_shortens_49 rfl (by decide) (by decide) ?_
  show mW _ _ _ _ _ _ 52 [_, _, _, _] _
  refine m_goto (t := 28) dX8_shortens_52 (by decide) ?_
  refine m_iload_n dX8_shortens_28 rfl ?_
  refine m_iconst (v := 5) dX8_shortens_29 (by decide) ?_
  refine m_icmp_ge (t := 55) dX8_shortens_30 (by decide) (fun _ => ?_) (fun q => absurd (by decide) q)
  exact m_return hF dX8_shortens_55 rfl rfl rfl ⟨rfl, _, rfl, fun j hj => by rcases lt5 hj with rfl | rfl | rfl | rfl | rfl <;> rfl⟩

