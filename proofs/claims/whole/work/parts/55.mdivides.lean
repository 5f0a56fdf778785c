/-! ===== the reference: divides ===== -/
theorem lZ_le0 {a : Int} (ha : bdZ a) : lZ a ≤ 0 ↔ a ≤ 0 := lZ_le ha bd0
theorem lZ_absM {a : Int} (ha : bdZ a) : (if lZ a ≤ 0 then -lZ a else lZ a) = lZ (a.natAbs : Int) := by
  by_cases h : a ≤ 0
  · rw [if_pos ((lZ_le0 ha).mpr h), lZ_neg]
    congr 1
    omega
  · rw [if_neg (fun y => h ((lZ_le0 ha).mp y))]
    congr 1
    omega
theorem strikeM {A B : Nat → Int} {e d : Nat} (hb : bdZ (B d)) (h0 : B d ≠ 0) : (if lZ (B d) ≤ 0 then -lZ (A e) else lZ (A e)) = lZ (strikeT A e B d) := by
  unfold strikeT
  by_cases h : B d ≤ 0
  · rw [if_pos ((lZ_le0 hb).mpr h), if_pos (by omega), lZ_neg]
  · rw [if_neg (fun y => h ((lZ_le0 hb).mp y)), if_neg (by omega)]
theorem strike_y {A B : Nat → Int} {e d j : Nat} (h : A e ≠ 0) (hj : e - d ≤ j ∧ j ≤ e) : strikeZ A e B d j = A j * (B d).natAbs - strikeT A e B d * B (j - (e - d)) := by
  unfold strikeZ
  rw [if_neg h, if_pos hj]
theorem strike_n {A B : Nat → Int} {e d j : Nat} (h : A e ≠ 0) (hj : ¬ (e - d ≤ j ∧ j ≤ e)) : strikeZ A e B d j = A j * (B d).natAbs := by
  unfold strikeZ
  rw [if_neg h, if_neg hj, Int.sub_zero]
theorem low5_low5 {z : Nat → Int} (j : Nat) (hj : j < 5) : low5 (low5 z) j = low5 z j := by
  by_cases h0 : gcd5 z = 0
  · have h1 := gcd5_0 h0
    have h2 : ∀ t, t < 5 → low5 z t = 0 := fun t ht => by
      unfold low5
      rw [h1 t ht, Int.zero_tdiv]
    rw [h2 j hj]
    show (low5 z j).tdiv (gcd5 (low5 z)) = 0
    rw [h2 j hj, Int.zero_tdiv]
  · refine low5_1 ?_ j hj
    have d : ∀ t, t < 5 → gcd5 z ∣ (z t).natAbs := fun t ht => by
      have e4 : gcd5 z ∣ (z 4).natAbs := Nat.gcd_dvd_left _ _
      have f4 : gcd5 z ∣ _ := Nat.gcd_dvd_right (z 4).natAbs _
      have e3 := Nat.dvd_trans f4 (Nat.gcd_dvd_left _ _)
      have f3 := Nat.dvd_trans f4 (Nat.gcd_dvd_right _ _)
      have e2 := Nat.dvd_trans f3 (Nat.gcd_dvd_left _ _)
      have f2 := Nat.dvd_trans f3 (Nat.gcd_dvd_right _ _)
      have e1 := Nat.dvd_trans f2 (Nat.gcd_dvd_left _ _)
      have f1 := Nat.dvd_trans f2 (Nat.gcd_dvd_right _ _)
      have e0 := Nat.dvd_trans f1 (Nat.gcd_dvd_left _ _)
      rcases lt5 ht with rfl | rfl | rfl | rfl | rfl
      · exact e0
      · exact e1
      · exact e2
      · exact e3
      · exact e4
    have n : ∀ t, (low5 z t).natAbs = (z t).natAbs / gcd5 z := fun t => by
      unfold low5
      rw [Int.natAbs_tdiv, Int.natAbs_natCast]
      rfl
    have k : gcd5 (low5 z) = gcd5 z / gcd5 z := by
      generalize hg : gcd5 z = g at d n
      unfold gcd5
      rw [n 0, n 1, n 2, n 3, n 4, Nat.gcd_zero_right, Nat.gcd_div (d 1 (by decide)) (d 0 (by decide)), Nat.gcd_div (d 2 (by decide)) (Nat.dvd_gcd (d 1 (by decide)) (d 0 (by decide))), Nat.gcd_div (d 3 (by decide)) (Nat.dvd_gcd (d 2 (by decide)) (Nat.dvd_gcd (d 1 (by decide)) (d 0 (by decide)))), Nat.gcd_div (d 4 (by decide)) (Nat.dvd_gcd (d 3 (by decide)) (Nat.dvd_gcd (d 2 (by decide)) (Nat.dvd_gcd (d 1 (by decide)) (d 0 (by decide)))))]
      rw [← hg]
      unfold gcd5
      rw [Nat.gcd_zero_right]
    rw [k, Nat.div_self (by omega)]
    decide
theorem strike_0 {r B : Nat → Int} {k d : Nat} (h : r k = 0) : strikeZ r k B d = r := by
  funext j
  unfold strikeZ
  rw [if_pos h]
/-- the degree, below 0 where there is none -/
def dropOk (A B : Nat → Int) (dA dB : Nat) : Prop := if dA = dB + 3 then (if low5 (strikeZ A dA B dB) (dA - 2) = 0 then orN (dgZ (low5 (strikeZ A dA B dB))) < nI dB else dgZ (low5 (strikeZ A dA B dB)) = nI (dA - 2) ∧ orN (dgZ (low5 (strikeZ (low5 (strikeZ A dA B dB)) (dA - 2) B dB))) < nI dB) else orN (dgZ (low5 (strikeZ A dA B dB))) < nI dB
set_option maxHeartbeats 400000 in
set_option maxRecDepth 100000 in
theorem l_X8_div_1_0 {n : Nat} {hp : mHp} {ac ia tm ri ev le ch ls rm sm ra fa : Int32} (h1 : hp 67 = eO 8 (oMod ac ia tm ri ev le ch ls rm sm ra fa)) {q : Nat} {U R : Nat → Int64} {A B : Nat → Int} (h2 : hp 81 = eL 5 U) (h3 : hp 80 = eL 40 R) (hq : q < 8) (hU : ∀ j, j < 5 → U j = lZ (A j)) (hR : ∀ j, j < 5 → R (5 * q + j) = lZ (B j)) (hA : A 1 ≠ 0) (hB0 : B 0 ≠ 0) (hBb : bdZ (B 0)) (hs : ∀ j, j < 5 → bdZ (strikeZ A 1 B 0 j)) {K : mK} {v4 v5 v6 v7 v8 : Value} (hk9 : ∀ (U' : Nat → Int64) (v4 v5 v6 v7 v8 : Value), (∀ j, j < 5 → U' j = lZ (low5 (strikeZ A 1 B 0) j)) → mW K D_X8_divides 0 0 n (va_up hp 81 (eL 5 U')) 18 [.ref 67, .int (nI (5 * q)), .int 0, .int (orN (dgZ (low5 (strikeZ A 1 B 0)))), v4, v5, v6, v7, v8] []) : mW K D_X8_divides 0 0 n hp 18 [.ref 67, .int (nI (5 * q)), .int 0, .int 1, v4, v5, v6, v7, v8] [] := by
  have y1 : ∀ f : mE, va_up hp 81 f 67 = _ := fun f => (va_up_ne _ _ (by decide)).trans h1
  have y3 : ∀ f : mE, va_up hp 81 f 80 = eL 40 R := fun f => (va_up_ne _ _ (by decide)).trans h3
  refine m_iload_n dX8_divides_18 rfl ?_
  refine m_iload_n dX8_divides_19 rfl ?_
  refine m_icmp_lt (t := 151) dX8_divides_20 (by decide) (fun q => absurd q (by decide)) (fun _ => ?_)
  refine m_aload_n dX8_divides_23 rfl ?_
  refine m_getfield dX8_divides_24 fl_X8_54 (by first | assumption | rfl | exact y1 _ | exact y3 _ | exact va_up_self _ _ _) (by first | assumption | rfl | exact y1 _ | exact y3 _ | exact va_up_self _ _ _) ?_
  show mW _ _ _ _ _ _ _ _ (.ref _ :: _)
  refine m_iload_n dX8_divides_27 rfl ?_
  refine m_laload (k := 1) dX8_divides_28 (by first | assumption | rfl | exact y1 _ | exact y3 _ | exact va_up_self _ _ _) ⟨by decide, by decide⟩ ?_
  refine m_cl (v := lZ (A 1)) (hU 1 (by decide)) ?_
  refine m_lstore dX8_divides_29 (by decide) ?_
  show mW _ _ _ _ _ _ 31 [_, _, _, _, _, _, _, _, _] _
  refine m_aload_n dX8_divides_31 rfl ?_
  refine m_getfield dX8_divides_32 fl_X8_51 (by first | assumption | rfl | exact y1 _ | exact y3 _ | exact va_up_self _ _ _) (by first | assumption | rfl | exact y1 _ | exact y3 _ | exact va_up_self _ _ _) ?_
  show mW _ _ _ _ _ _ _ _ (.ref _ :: _)
  refine m_iload_n dX8_divides_35 rfl ?_
  refine m_iload_n dX8_divides_36 rfl ?_
  refine m_iadd dX8_divides_37 ?_
  refine m_ci (v := nI (5 * q + 0)) (by exact nI_add (5 * q) 0) ?_
  refine m_laload dX8_divides_38 (by first | assumption | rfl | exact y1 _ | exact y3 _ | exact va_up_self _ _ _) (mIx_lit (show 5 * q + 0 < 40 by omega) (by decide)) ?_
  refine m_cl (v := lZ (B 0)) (hR 0 (by decide)) ?_
  refine m_lstore dX8_divides_39 (by decide) ?_
  show mW _ _ _ _ _ _ 41 [_, _, _, _, _, _, _, _, _] _
  refine m_iconst (v := 0) dX8_divides_41 (by decide) ?_
  refine m_istore dX8_divides_42 (by decide) ?_
  show mW _ _ _ _ _ _ 44 [_, _, _, _, _, _, _, _, _] _
  refine m_iload dX8_divides_44 rfl ?_
  refine m_iconst (v := 5) dX8_divides_46 (by decide) ?_
  refine m_icmp_ge (t := 81) dX8_divides_47 (by decide) (fun q => absurd q (by decide)) (fun _ => ?_)
  refine m_aload_n dX8_divides_50 rfl ?_
  refine m_getfield dX8_divides_51 fl_X8_54 (by first | assumption | rfl | exact y1 _ | exact y3 _ | exact va_up_self _ _ _) (by first | assumption | rfl | exact y1 _ | exact y3 _ | exact va_up_self _ _ _) ?_
  show mW _ _ _ _ _ _ _ _ (.ref _ :: _)
  refine m_iload dX8_divides_54 rfl ?_
  refine m_dup2 dX8_divides_56 rfl rfl ?_
  refine m_laload (k := 0) dX8_divides_57 (by first | assumption | rfl | exact y1 _ | exact y3 _ | exact va_up_self _ _ _) ⟨by decide, by decide⟩ ?_
  refine m_cl (v := lZ (A 0)) (hU 0 (by decide)) ?_
  refine m_lload dX8_divides_58 rfl ?_
  refine m_lconst (v := 0) dX8_divides_60 (by decide) ?_
  refine m_tern_L (J := 73) (x := -lZ (B 0)) (y := lZ (B 0)) (m_lc_le (t := 70) dX8_divides_61 dX8_divides_62 (by decide)) (fun k9 => ?_) (fun k9 => ?_) ?_
  · refine m_lload dX8_divides_70 rfl ?_
    refine m_lneg dX8_divides_72 ?_
    exact k9
  · refine m_lload dX8_divides_65 rfl ?_
    refine m_goto (t := 73) dX8_divides_67 (by decide) ?_
    exact k9
  refine m_cl (v := lZ (((B 0).natAbs : Nat) : Int)) (lZ_absM hBb) ?_
  refine m_lmul dX8_divides_73 ?_
  refine m_cl (v := lZ (A 0 * ((B 0).natAbs : Int))) (lZ_mul _ _) ?_
  refine m_lastore (k := 0) dX8_divides_74 (by first | assumption | rfl | exact y1 _ | exact y3 _ | exact va_up_self _ _ _) ⟨by decide, by decide⟩ ?_
  try rw [va_uu]
  refine m_iinc (v := 1) dX8_divides_75 rfl (by decide) (by decide) ?_
  show mW _ _ _ _ _ _ 78 [_, _, _, _, _, _, _, _, _] _
  refine m_goto (t := 44) dX8_divides_78 (by decide) ?_
  refine m_iload dX8_divides_44 rfl ?_
  refine m_iconst (v := 5) dX8_divides_46 (by decide) ?_
  refine m_icmp_ge (t := 81) dX8_divides_47 (by decide) (fun q => absurd q (by decide)) (fun _ => ?_)
  refine m_aload_n dX8_divides_50 rfl ?_
  refine m_getfield dX8_divides_51 fl_X8_54 (by first | assumption | rfl | exact y1 _ | exact y3 _ | exact va_up_self _ _ _) (by first | assumption | rfl | exact y1 _ | exact y3 _ | exact va_up_self _ _ _) ?_
  show mW _ _ _ _ _ _ _ _ (.ref _ :: _)
  refine m_iload dX8_divides_54 rfl ?_
  refine m_dup2 dX8_divides_56 rfl rfl ?_
  refine m_laload (k := 1) dX8_divides_57 (by first | assumption | rfl | exact y1 _ | exact y3 _ | exact va_up_self _ _ _) ⟨by decide, by decide⟩ ?_
  refine m_cl (v := lZ (A 1)) (hU 1 (by decide)) ?_
  refine m_lload dX8_divides_58 rfl ?_
  refine m_lconst (v := 0) dX8_divides_60 (by decide) ?_
  refine m_tern_L (J := 73) (x := -lZ (B 0)) (y := lZ (B 0)) (m_lc_le (t := 70) dX8_divides_61 dX8_divides_62 (by decide)) (fun k9 => ?_) (fun k9 => ?_) ?_
  · refine m_lload dX8_divides_70 rfl ?_
    refine m_lneg dX8_divides_72 ?_
    exact k9
  · refine m_lload dX8_divides_65 rfl ?_
    refine m_goto (t := 73) dX8_divides_67 (by decide) ?_
    exact k9
  refine m_cl (v := lZ (((B 0).natAbs : Nat) : Int)) (lZ_absM hBb) ?_
  refine m_lmul dX8_divides_73 ?_
  refine m_cl (v := lZ (A 1 * ((B 0).natAbs : Int))) (lZ_mul _ _) ?_
  refine m_lastore (k := 1) dX8_divides_74 (by first | assumption | rfl | exact y1 _ | exact y3 _ | exact va_up_self _ _ _) ⟨by decide, by decide⟩ ?_
  try rw [va_uu]
  refine m_iinc (v := 2) dX8_divides_75 rfl (by decide) (by decide) ?_
  show mW _ _ _ _ _ _ 78 [_, _, _, _, _, _, _, _, _] _
  refine m_goto (t := 44) dX8_divides_78 (by decide) ?_
  refine m_iload dX8_divides_44 rfl ?_
  refine m_iconst (v := 5) dX8_divides_46 (by decide) ?_
  refine m_icmp_ge (t := 81) dX8_divides_47 (by decide) (fun q => absurd q (by decide)) (fun _ => ?_)
  refine m_aload_n dX8_divides_50 rfl ?_
  refine m_getfield dX8_divides_51 fl_X8_54 (by first | assumption | rfl | exact y1 _ | exact y3 _ | exact va_up_self _ _ _) (by first | assumption | rfl | exact y1 _ | exact y3 _ | exact va_up_self _ _ _) ?_
  show mW _ _ _ _ _ _ _ _ (.ref _ :: _)
  refine m_iload dX8_divides_54 rfl ?_
  refine m_dup2 dX8_divides_56 rfl rfl ?_
  refine m_laload (k := 2) dX8_divides_57 (by first | assumption | rfl | exact y1 _ | exact y3 _ | exact va_up_self _ _ _) ⟨by decide, by decide⟩ ?_
  refine m_cl (v := lZ (A 2)) (hU 2 (by decide)) ?_
  refine m_lload dX8_divides_58 rfl ?_
  refine m_lconst (v := 0) dX8_divides_60 (by decide) ?_
  refine m_tern_L (J := 73) (x := -lZ (B 0)) (y := lZ (B 0)) (m_lc_le (t := 70) dX8_divides_61 dX8_divides_62 (by decide)) (fun k9 => ?_) (fun k9 => ?_) ?_
  · refine m_lload dX8_divides_70 rfl ?_
    refine m_lneg dX8_divides_72 ?_
    exact k9
  · refine m_lload dX8_divides_65 rfl ?_
    refine m_goto (t := 73) dX8_divides_67 (by decide) ?_
    exact k9
  refine m_cl (v := lZ (((B 0).natAbs : Nat) : Int)) (lZ_absM hBb) ?_
  refine m_lmul dX8_divides_73 ?_
  refine m_cl (v := lZ (A 2 * ((B 0).natAbs : Int))) (lZ_mul _ _) ?_
  refine m_lastore (k := 2) dX8_divides_74 (by first | assumption | rfl | exact y1 _ | exact y3 _ | exact va_up_self _ _ _) ⟨by decide, by decide⟩ ?_
  try rw [va_uu]
  refine m_iinc (v := 3) dX8_divides_75 rfl (by decide) (by decide) ?_
  show mW _ _ _ _ _ _ 78 [_, _, _, _, _, _, _, _, _] _
  refine m_goto (t := 44) dX8_divides_78 (by decide) ?_
  refine m_iload dX8_divides_44 rfl ?_
  refine m_iconst (v := 5) dX8_divides_46 (by decide) ?_
  refine m_icmp_ge (t := 81) dX8_divides_47 (by decide) (fun q => absurd q (by decide)) (fun _ => ?_)
  refine m_aload_n dX8_divides_50 rfl ?_
  refine m_getfield dX8_divides_51 fl_X8_54 (by first | assumption | rfl | exact y1 _ | exact y3 _ | exact va_up_self _ _ _) (by first | assumption | rfl | exact y1 _ | exact y3 _ | exact va_up_self _ _ _) ?_
  show mW _ _ _ _ _ _ _ _ (.ref _ :: _)
  refine m_iload dX8_divides_54 rfl ?_
  refine m_dup2 dX8_divides_56 rfl rfl ?_
  refine m_laload (k := 3) dX8_divides_57 (by first | assumption | rfl | exact y1 _ | exact y3 _ | exact va_up_self _ _ _) ⟨by decide, by decide⟩ ?_
  refine m_cl (v := lZ (A 3)) (hU 3 (by decide)) ?_
  refine m_lload dX8_divides_58 rfl ?_
  refine m_lconst (v := 0) dX8_divides_60 (by decide) ?_
  refine m_tern_L (J := 73) (x := -lZ (B 0)) (y := lZ (B 0)) (m_lc_le (t := 70) dX8_divides_61 dX8_divides_62 (by decide)) (fun k9 => ?_) (fun k9 => ?_) ?_
  · refine m_lload dX8_divides_70 rfl ?_
    refine m_lneg dX8_divides_72 ?_
    exact k9
  · refine m_lload dX8_divides_65 rfl ?_
    refine m_goto (t := 73) dX8_divides_67 (by decide) ?_
    exact k9
  refine m_cl (v := lZ (((B 0).natAbs : Nat) : Int)) (lZ_absM hBb) ?_
  refine m_lmul dX8_divides_73 ?_
  refine m_cl (v := lZ (A 3 * ((B 0).natAbs : Int))) (lZ_mul _ _) ?_
  refine m_lastore (k := 3) dX8_divides_74 (by first | assumption | rfl | exact y1 _ | exact y3 _ | exact va_up_self _ _ _) ⟨by decide, by decide⟩ ?_
  try rw [va_uu]
  refine m_iinc (v := 4) dX8_divides_75 rfl (by decide) (by decide) ?_
  show mW _ _ _ _ _ _ 78 [_, _, _, _, _, _, _, _, _] _
  refine m_goto (t := 44) dX8_divides_78 (by decide) ?_
  refine m_iload dX8_divides_44 rfl ?_
  refine m_iconst (v := 5) dX8_divides_46 (by decide) ?_
  refine m_icmp_ge (t := 81) dX8_divides_47 (by decide) (fun q => absurd q (by decide)) (fun _ => ?_)
  refine m_aload_n dX8_divides_50 rfl ?_
  refine m_getfield dX8_divides_51 fl_X8_54 (by first | assumption | rfl | exact y1 _ | exact y3 _ | exact va_up_self _ _ _) (by first | assumption | rfl | exact y1 _ | exact y3 _ | exact va_up_self _ _ _) ?_
  show mW _ _ _ _ _ _ _ _ (.ref _ :: _)
  refine m_iload dX8_divides_54 rfl ?_
  refine m_dup2 dX8_divides_56 rfl rfl ?_
  refine m_laload (k := 4) dX8_divides_57 (by first | assumption | rfl | exact y1 _ | exact y3 _ | exact va_up_self _ _ _) ⟨by decide, by decide⟩ ?_
  refine m_cl (v := lZ (A 4)) (hU 4 (by decide)) ?_
  refine m_lload dX8_divides_58 rfl ?_
  refine m_lconst (v := 0) dX8_divides_60 (by decide) ?_
  refine m_tern_L (J := 73) (x := -lZ (B 0)) (y := lZ (B 0)) (m_lc_le (t := 70) dX8_divides_61 dX8_divides_62 (by decide)) (fun k9 => ?_) (fun k9 => ?_) ?_
  · refine m_lload dX8_divides_70 rfl ?_
    refine m_lneg dX8_divides_72 ?_
    exact k9
  · refine m_lload dX8_divides_65 rfl ?_
    refine m_goto (t := 73) dX8_divides_67 (by decide) ?_
    exact k9
  refine m_cl (v := lZ (((B 0).natAbs : Nat) : Int)) (lZ_absM hBb) ?_
  refine m_lmul dX8_divides_73 ?_
  refine m_cl (v := lZ (A 4 * ((B 0).natAbs : Int))) (lZ_mul _ _) ?_
  refine m_lastore (k := 4) dX8_divides_74 (by first | assumption | rfl | exact y1 _ | exact y3 _ | exact va_up_self _ _ _) ⟨by decide, by decide⟩ ?_
  try rw [va_uu]
  refine m_iinc (v := 5) dX8_divides_75 rfl (by decide) (by decide) ?_
  show mW _ _ _ _ _ _ 78 [_, _, _, _, _, _, _, _, _] _
  refine m_goto (t := 44) dX8_divides_78 (by decide) ?_
  refine m_iload dX8_divides_44 rfl ?_
  refine m_iconst (v := 5) dX8_divides_46 (by decide) ?_
  refine m_icmp_ge (t := 81) dX8_divides_47 (by decide) (fun _ => ?_) (fun q => absurd (by decide) q)
  refine m_iconst (v := 0) dX8_divides_81 (by decide) ?_
  refine m_istore dX8_divides_82 (by decide) ?_
  show mW _ _ _ _ _ _ 84 [_, _, _, _, _, _, _, _, _] _
  refine m_iload dX8_divides_84 rfl ?_
  refine m_iload_n dX8_divides_86 rfl ?_
  refine m_icmp_gt (t := 135) dX8_divides_87 (by decide) (fun q => absurd q (by decide)) (fun _ => ?_)
  refine m_aload_n dX8_divides_90 rfl ?_
  refine m_getfield dX8_divides_91 fl_X8_54 (by first | assumption | rfl | exact y1 _ | exact y3 _ | exact va_up_self _ _ _) (by first | assumption | rfl | exact y1 _ | exact y3 _ | exact va_up_self _ _ _) ?_
  show mW _ _ _ _ _ _ _ _ (.ref _ :: _)
  refine m_iload dX8_divides_94 rfl ?_
  refine m_iload_n dX8_divides_96 rfl ?_
  refine m_iadd dX8_divides_97 ?_
  refine m_ci (v := 1) (by decide) ?_
  refine m_iload_n dX8_divides_98 rfl ?_
  refine m_isub dX8_divides_99 ?_
  refine m_ci (v := 1) (by decide) ?_
  refine m_dup2 dX8_divides_100 rfl rfl ?_
  refine m_laload (k := 1) dX8_divides_101 (by first | assumption | rfl | exact y1 _ | exact y3 _ | exact va_up_self _ _ _) ⟨by decide, by decide⟩ ?_
  refine m_cl (v := lZ (A 1 * ((B 0).natAbs : Int))) rfl ?_
  refine m_lload dX8_divides_102 rfl ?_
  refine m_lconst (v := 0) dX8_divides_104 (by decide) ?_
  refine m_tern_L (J := 117) (x := -lZ (A 1)) (y := lZ (A 1)) (m_lc_le (t := 114) dX8_divides_105 dX8_divides_106 (by decide)) (fun k9 => ?_) (fun k9 => ?_) ?_
  · refine m_lload dX8_divides_114 rfl ?_
    refine m_lneg dX8_divides_116 ?_
    exact k9
  · refine m_lload dX8_divides_109 rfl ?_
    refine m_goto (t := 117) dX8_divides_111 (by decide) ?_
    exact k9
  refine m_cl (v := lZ (strikeT A 1 B 0)) (strikeM hBb hB0) ?_
  refine m_aload_n dX8_divides_117 rfl ?_
  refine m_getfield dX8_divides_118 fl_X8_51 (by first | assumption | rfl | exact y1 _ | exact y3 _ | exact va_up_self _ _ _) (by first | assumption | rfl | exact y1 _ | exact y3 _ | exact va_up_self _ _ _) ?_
  show mW _ _ _ _ _ _ _ _ (.ref _ :: _)
  refine m_iload_n dX8_divides_121 rfl ?_
  refine m_iload dX8_divides_122 rfl ?_
  refine m_iadd dX8_divides_124 ?_
  refine m_ci (v := nI (5 * q + 0)) (by exact nI_add (5 * q) 0) ?_
  refine m_laload dX8_divides_125 (by first | assumption | rfl | exact y1 _ | exact y3 _ | exact va_up_self _ _ _) (mIx_lit (show 5 * q + 0 < 40 by omega) (by decide)) ?_
  refine m_cl (v := lZ (B 0)) (hR 0 (by decide)) ?_
  refine m_lmul dX8_divides_126 ?_
  refine m_cl (v := lZ (strikeT A 1 B 0 * B 0)) (lZ_mul _ _) ?_
  refine m_lsub dX8_divides_127 ?_
  refine m_cl (v := lZ (A 1 * ((B 0).natAbs : Int) - strikeT A 1 B 0 * B 0)) (lZ_sub _ _) ?_
  refine m_lastore (k := 1) dX8_divides_128 (by first | assumption | rfl | exact y1 _ | exact y3 _ | exact va_up_self _ _ _) ⟨by decide, by decide⟩ ?_
  try rw [va_uu]
  refine m_iinc (v := 1) dX8_divides_129 rfl (by decide) (by decide) ?_
  show mW _ _ _ _ _ _ 132 [_, _, _, _, _, _, _, _, _] _
  refine m_goto (t := 84) dX8_divides_132 (by decide) ?_
  refine m_iload dX8_divides_84 rfl ?_
  refine m_iload_n dX8_divides_86 rfl ?_
  refine m_icmp_gt (t := 135) dX8_divides_87 (by decide) (fun _ => ?_) (fun q => absurd (by decide) q)
  have hSW : ∀ j, j < 5 → (va_up (va_up (va_up (va_up (va_up (va_up (U) 0 (lZ (A 0 * ((B 0).natAbs : Int)))) 1 (lZ (A 1 * ((B 0).natAbs : Int)))) 2 (lZ (A 2 * ((B 0).natAbs : Int)))) 3 (lZ (A 3 * ((B 0).natAbs : Int)))) 4 (lZ (A 4 * ((B 0).natAbs : Int)))) 1 (lZ (A 1 * ((B 0).natAbs : Int) - strikeT A 1 B 0 * B 0))) j = lZ (strikeZ A 1 B 0 j) := fun j hj => by
        rcases lt5 hj with rfl | rfl | rfl | rfl | rfl
        · rw [strike_n hA (by decide)]
          rfl
        · rw [strike_y hA (by decide)]
          rfl
        · rw [strike_n hA (by decide)]
          rfl
        · rw [strike_n hA (by decide)]
          rfl
        · rw [strike_n hA (by decide)]
          rfl
  refine m_aload_n dX8_divides_135 rfl ?_
  refine m_invV dX8_divides_136 lk_X8_180 ar_X8_shortens (ci := 8) rfl rfl (by first | assumption | rfl | exact y1 _ | exact y3 _ | exact va_up_self _ _ _) (t_X8_shortens (y1 _) (va_up_self _ _ _) hSW hs) rfl (Nat.le_of_ble_eq_true rfl) (by decide) (by decide) (by decide) (by decide) (fun v hp' q9 => ?_)
  obtain ⟨rfl, U', rfl, hU'⟩ := q9
  rw [va_uu]
  show mW K _ 0 0 n _ 139 [_, _, _, _, _, _, _, _, _] []
  refine m_aload_n dX8_divides_139 rfl ?_
  refine m_getfield dX8_divides_140 fl_X8_54 (by first | assumption | rfl | exact y1 _ | exact y3 _ | exact va_up_self _ _ _) (by first | assumption | rfl | exact y1 _ | exact y3 _ | exact va_up_self _ _ _) ?_
  show mW _ _ _ _ _ _ _ _ (.ref _ :: _)
  refine m_iconst (v := 0) dX8_divides_143 (by decide) ?_
  refine m_invS_I dX8_divides_144 lk_X8_118 ar_X8_degree (t_X8_degree (at_ := 0) (va_up_self _ _ _) (by decide) (by decide)) rfl (Nat.le_of_ble_eq_true rfl) (by decide) (by decide) (by decide) (by decide) rfl rfl ?_
  try rw [va_uu]
  refine m_ci (v := orN (dgZ (low5 (strikeZ A 1 B 0)))) (by rw [deg5_Z (z := low5 (strikeZ A 1 B 0)) (fun j hj => by rw [Nat.zero_add]; exact hU' j hj) (low5_bd hs)]) ?_
  refine m_istore_n dX8_divides_147 (by decide) ?_
  show mW _ _ _ _ _ _ 148 [_, _, _, _, _, _, _, _, _] _
  refine m_goto (t := 18) dX8_divides_148 (by decide) ?_
  exact hk9 U' _ _ _ _ _ hU'

set_option maxHeartbeats 400000 in
set_option maxRecDepth 100000 in
theorem l_X8_div_2_1 {n : Nat} {hp : mHp} {ac ia tm ri ev le ch ls rm sm ra fa : Int32} (h1 : hp 67 = eO 8 (oMod ac ia tm ri ev le ch ls rm sm ra fa)) {q : Nat} {U R : Nat → Int64} {A B : Nat → Int} (h2 : hp 81 = eL 5 U) (h3 : hp 80 = eL 40 R) (hq : q < 8) (hU : ∀ j, j < 5 → U j = lZ (A j)) (hR : ∀ j, j < 5 → R (5 * q + j) = lZ (B j)) (hA : A 2 ≠ 0) (hB0 : B 1 ≠ 0) (hBb : bdZ (B 1)) (hs : ∀ j, j < 5 → bdZ (strikeZ A 2 B 1 j)) {K : mK} {v4 v5 v6 v7 v8 : Value} (hk9 : ∀ (U' : Nat → Int64) (v4 v5 v6 v7 v8 : Value), (∀ j, j < 5 → U' j = lZ (low5 (strikeZ A 2 B 1) j)) → mW K D_X8_divides 0 0 n (va_up hp 81 (eL 5 U')) 18 [.ref 67, .int (nI (5 * q)), .int 1, .int (orN (dgZ (low5 (strikeZ A 2 B 1)))), v4, v5, v6, v7, v8] []) : mW K D_X8_divides 0 0 n hp 18 [.ref 67, .int (nI (5 * q)), .int 1, .int 2, v4, v5, v6, v7, v8] [] := by
  have y1 : ∀ f : mE, va_up hp 81 f 67 = _ := fun f => (va_up_ne _ _ (by decide)).trans h1
  have y3 : ∀ f : mE, va_up hp 81 f 80 = eL 40 R := fun f => (va_up_ne _ _ (by decide)).trans h3
  refine m_iload_n dX8_divides_18 rfl ?_
  refine m_iload_n dX8_divides_19 rfl ?_
  refine m_icmp_lt (t := 151) dX8_divides_20 (by decide) (fun q => absurd q (by decide)) (fun _ => ?_)
  refine m_aload_n dX8_divides_23 rfl ?_
  refine m_getfield dX8_divides_24 fl_X8_54 (by first | assumption | rfl | exact y1 _ | exact y3 _ | exact va_up_self _ _ _) (by first | assumption | rfl | exact y1 _ | exact y3 _ | exact va_up_self _ _ _) ?_
  show mW _ _ _ _ _ _ _ _ (.ref _ :: _)
  refine m_iload_n dX8_divides_27 rfl ?_
  refine m_laload (k := 2) dX8_divides_28 (by first | assumption | rfl | exact y1 _ | exact y3 _ | exact va_up_self _ _ _) ⟨by decide, by decide⟩ ?_
  refine m_cl (v := lZ (A 2)) (hU 2 (by decide)) ?_
  refine m_lstore dX8_divides_29 (by decide) ?_
  show mW _ _ _ _ _ _ 31 [_, _, _, _, _, _, _, _, _] _
  refine m_aload_n dX8_divides_31 rfl ?_
  refine m_getfield dX8_divides_32 fl_X8_51 (by first | assumption | rfl | exact y1 _ | exact y3 _ | exact va_up_self _ _ _) (by first | assumption | rfl | exact y1 _ | exact y3 _ | exact va_up_self _ _ _) ?_
  show mW _ _ _ _ _ _ _ _ (.ref _ :: _)
  refine m_iload_n dX8_divides_35 rfl ?_
  refine m_iload_n dX8_divides_36 rfl ?_
  refine m_iadd dX8_divides_37 ?_
  refine m_ci (v := nI (5 * q + 1)) (by exact nI_add (5 * q) 1) ?_
  refine m_laload dX8_divides_38 (by first | assumption | rfl | exact y1 _ | exact y3 _ | exact va_up_self _ _ _) (mIx_lit (show 5 * q + 1 < 40 by omega) (by decide)) ?_
  refine m_cl (v := lZ (B 1)) (hR 1 (by decide)) ?_
  refine m_lstore dX8_divides_39 (by decide) ?_
  show mW _ _ _ _ _ _ 41 [_, _, _, _, _, _, _, _, _] _
  refine m_iconst (v := 0) dX8_divides_41 (by decide) ?_
  refine m_istore dX8_divides_42 (by decide) ?_
  show mW _ _ _ _ _ _ 44 [_, _, _, _, _, _, _, _, _] _
  refine m_iload dX8_divides_44 rfl ?_
  refine m_iconst (v := 5) dX8_divides_46 (by decide) ?_
  refine m_icmp_ge (t := 81) dX8_divides_47 (by decide) (fun q => absurd q (by decide)) (fun _ => ?_)
  refine m_aload_n dX8_divides_50 rfl ?_
  refine m_getfield dX8_divides_51 fl_X8_54 (by first | assumption | rfl | exact y1 _ | exact y3 _ | exact va_up_self _ _ _) (by first | assumption | rfl | exact y1 _ | exact y3 _ | exact va_up_self _ _ _) ?_
  show mW _ _ _ _ _ _ _ _ (.ref _ :: _)
  refine m_iload dX8_divides_54 rfl ?_
  refine m_dup2 dX8_divides_56 rfl rfl ?_
  refine m_laload (k := 0) dX8_divides_57 (by first | assumption | rfl | exact y1 _ | exact y3 _ | exact va_up_self _ _ _) ⟨by decide, by decide⟩ ?_
  refine m_cl (v := lZ (A 0)) (hU 0 (by decide)) ?_
  refine m_lload dX8_divides_58 rfl ?_
  refine m_lconst (v := 0) dX8_divides_60 (by decide) ?_
  refine m_tern_L (J := 73) (x := -lZ (B 1)) (y := lZ (B 1)) (m_lc_le (t := 70) dX8_divides_61 dX8_divides_62 (by decide)) (fun k9 => ?_) (fun k9 => ?_) ?_
  · refine m_lload dX8_divides_70 rfl ?_
    refine m_lneg dX8_divides_72 ?_
    exact k9
  · refine m_lload dX8_divides_65 rfl ?_
    refine m_goto (t := 73) dX8_divides_67 (by decide) ?_
    exact k9
  refine m_cl (v := lZ (((B 1).natAbs : Nat) : Int)) (lZ_absM hBb) ?_
  refine m_lmul dX8_divides_73 ?_
  refine m_cl (v := lZ (A 0 * ((B 1).natAbs : Int))) (lZ_mul _ _) ?_
  refine m_lastore (k := 0) dX8_divides_74 (by first | assumption | rfl | exact y1 _ | exact y3 _ | exact va_up_self _ _ _) ⟨by decide, by decide⟩ ?_
  try rw [va_uu]
  refine m_iinc (v := 1) dX8_divides_75 rfl (by decide) (by decide) ?_
  show mW _ _ _ _ _ _ 78 [_, _, _, _, _, _, _, _, _] _
  refine m_goto (t := 44) dX8_divides_78 (by decide) ?_
  refine m_iload dX8_divides_44 rfl ?_
  refine m_iconst (v := 5) dX8_divides_46 (by decide) ?_
  refine m_icmp_ge (t := 81) dX8_divides_47 (by decide) (fun q => absurd q (by decide)) (fun _ => ?_)
  refine m_aload_n dX8_divides_50 rfl ?_
  refine m_getfield dX8_divides_51 fl_X8_54 (by first | assumption | rfl | exact y1 _ | exact y3 _ | exact va_up_self _ _ _) (by first | assumption | rfl | exact y1 _ | exact y3 _ | exact va_up_self _ _ _) ?_
  show mW _ _ _ _ _ _ _ _ (.ref _ :: _)
  refine m_iload dX8_divides_54 rfl ?_
  refine m_dup2 dX8_divides_56 rfl rfl ?_
  refine m_laload (k := 1) dX8_divides_57 (by first | assumption | rfl | exact y1 _ | exact y3 _ | exact va_up_self _ _ _) ⟨by decide, by decide⟩ ?_
  refine m_cl (v := lZ (A 1)) (hU 1 (by decide)) ?_
  refine m_lload dX8_divides_58 rfl ?_
  refine m_lconst (v := 0) dX8_divides_60 (by decide) ?_
  refine m_tern_L (J := 73) (x := -lZ (B 1)) (y := lZ (B 1)) (m_lc_le (t := 70) dX8_divides_61 dX8_divides_62 (by decide)) (fun k9 => ?_) (fun k9 => ?_) ?_
  · refine m_lload dX8_divides_70 rfl ?_
    refine m_lneg dX8_divides_72 ?_
    exact k9
  · refine m_lload dX8_divides_65 rfl ?_
    refine m_goto (t := 73) dX8_divides_67 (by decide) ?_
    exact k9
  refine m_cl (v := lZ (((B 1).natAbs : Nat) : Int)) (lZ_absM hBb) ?_
  refine m_lmul dX8_divides_73 ?_
  refine m_cl (v := lZ (A 1 * ((B 1).natAbs : Int))) (lZ_mul _ _) ?_
  refine m_lastore (k := 1) dX8_divides_74 (by first | assumption | rfl | exact y1 _ | exact y3 _ | exact va_up_self _ _ _) ⟨by decide, by decide⟩ ?_
  try rw [va_uu]
  refine m_iinc (v := 2) dX8_divides_75 rfl (by decide) (by decide) ?_
  show mW _ _ _ _ _ _ 78 [_, _, _, _, _, _, _, _, _] _
  refine m_goto (t := 44) dX8_divides_78 (by decide) ?_
  refine m_iload dX8_divides_44 rfl ?_
  refine m_iconst (v := 5) dX8_divides_46 (by decide) ?_
  refine m_icmp_ge (t := 81) dX8_divides_47 (by decide) (fun q => absurd q (by decide)) (fun _ => ?_)
  refine m_aload_n dX8_divides_50 rfl ?_
  refine m_getfield dX8_divides_51 fl_X8_54 (by first | assumption | rfl | exact y1 _ | exact y3 _ | exact va_up_self _ _ _) (by first | assumption | rfl | exact y1 _ | exact y3 _ | exact va_up_self _ _ _) ?_
  show mW _ _ _ _ _ _ _ _ (.ref _ :: _)
  refine m_iload dX8_divides_54 rfl ?_
  refine m_dup2 dX8_divides_56 rfl rfl ?_
  refine m_laload (k := 2) dX8_divides_57 (by first | assumption | rfl | exact y1 _ | exact y3 _ | exact va_up_self _ _ _) ⟨by decide, by decide⟩ ?_
  refine m_cl (v := lZ (A 2)) (hU 2 (by decide)) ?_
  refine m_lload dX8_divides_58 rfl ?_
  refine m_lconst (v := 0) dX8_divides_60 (by decide) ?_
  refine m_tern_L (J := 73) (x := -lZ (B 1)) (y := lZ (B 1)) (m_lc_le (t := 70) dX8_divides_61 dX8_divides_62 (by decide)) (fun k9 => ?_) (fun k9 => ?_) ?_
  · refine m_lload dX8_divides_70 rfl ?_
    refine m_lneg dX8_divides_72 ?_
    exact k9
  · refine m_lload dX8_divides_65 rfl ?_
    refine m_goto (t := 73) dX8_divides_67 (by decide) ?_
    exact k9
  refine m_cl (v := lZ (((B 1).natAbs : Nat) : Int)) (lZ_absM hBb) ?_
  refine m_lmul dX8_divides_73 ?_
  refine m_cl (v := lZ (A 2 * ((B 1).natAbs : Int))) (lZ_mul _ _) ?_
  refine m_lastore (k := 2) dX8_divides_74 (by first | assumption | rfl | exact y1 _ | exact y3 _ | exact va_up_self _ _ _) ⟨by decide, by decide⟩ ?_
  try rw [va_uu]
  refine m_iinc (v := 3) dX8_divides_75 rfl (by decide) (by decide) ?_
  show mW _ _ _ _ _ _ 78 [_, _, _, _, _, _, _, _, _] _
  refine m_goto (t := 44) dX8_divides_78 (by decide) ?_
  refine m_iload dX8_divides_44 rfl ?_
  refine m_iconst (v := 5) dX8_divides_46 (by decide) ?_
  refine m_icmp_ge (t := 81) dX8_divides_47 (by decide) (fun q => absurd q (by decide)) (fun _ => ?_)
  refine m_aload_n dX8_divides_50 rfl ?_
  refine m_getfield dX8_divides_51 fl_X8_54 (by first | assumption | rfl | exact y1 _ | exact y3 _ | exact va_up_self _ _ _) (by first | assumption | rfl | exact y1 _ | exact y3 _ | exact va_up_self _ _ _) ?_
  show mW _ _ _ _ _ _ _ _ (.ref _ :: _)
  refine m_iload dX8_divides_54 rfl ?_
  refine m_dup2 dX8_divides_56 rfl rfl ?_
  refine m_laload (k := 3) dX8_divides_57 (by first | assumption | rfl | exact y1 _ | exact y3 _ | exact va_up_self _ _ _) ⟨by decide, by decide⟩ ?_
  refine m_cl (v := lZ (A 3)) (hU 3 (by decide)) ?_
  refine m_lload dX8_divides_58 rfl ?_
  refine m_lconst (v := 0) dX8_divides_60 (by decide) ?_
  refine m_tern_L (J := 73) (x := -lZ (B 1)) (y := lZ (B 1)) (m_lc_le (t := 70) dX8_divides_61 dX8_divides_62 (by decide)) (fun k9 => ?_) (fun k9 => ?_) ?_
  · refine m_lload dX8_divides_70 rfl ?_
    refine m_lneg dX8_divides_72 ?_
    exact k9
  · refine m_lload dX8_divides_65 rfl ?_
    refine m_goto (t := 73) dX8_divides_67 (by decide) ?_
    exact k9
  refine m_cl (v := lZ (((B 1).natAbs : Nat) : Int)) (lZ_absM hBb) ?_
  refine m_lmul dX8_divides_73 ?_
  refine m_cl (v := lZ (A 3 * ((B 1).natAbs : Int))) (lZ_mul _ _) ?_
  refine m_lastore (k := 3) dX8_divides_74 (by first | assumption | rfl | exact y1 _ | exact y3 _ | exact va_up_self _ _ _) ⟨by decide, by decide⟩ ?_
  try rw [va_uu]
  refine m_iinc (v := 4) dX8_divides_75 rfl (by decide) (by decide) ?_
  show mW _ _ _ _ _ _ 78 [_, _, _, _, _, _, _, _, _] _
  refine m_goto (t := 44) dX8_divides_78 (by decide) ?_
  refine m_iload dX8_divides_44 rfl ?_
  refine m_iconst (v := 5) dX8_divides_46 (by decide) ?_
  refine m_icmp_ge (t := 81) dX8_divides_47 (by decide) (fun q => absurd q (by decide)) (fun _ => ?_)
  refine m_aload_n dX8_divides_50 rfl ?_
  refine m_getfield dX8_divides_51 fl_X8_54 (by first | assumption | rfl | exact y1 _ | exact y3 _ | exact va_up_self _ _ _) (by first | assumption | rfl | exact y1 _ | exact y3 _ | exact va_up_self _ _ _) ?_
  show mW _ _ _ _ _ _ _ _ (.ref _ :: _)
  refine m_iload dX8_divides_54 rfl ?_
  refine m_dup2 dX8_divides_56 rfl rfl ?_
  refine m_laload (k := 4) dX8_divides_57 (by first | assumption | rfl | exact y1 _ | exact y3 _ | exact va_up_self _ _ _) ⟨by decide, by decide⟩ ?_
  refine m_cl (v := lZ (A 4)) (hU 4 (by decide)) ?_
  refine m_lload dX8_divides_58 rfl ?_
  refine m_lconst (v := 0) dX8_divides_60 (by decide) ?_
  refine m_tern_L (J := 73) (x := -lZ (B 1)) (y := lZ (B 1)) (m_lc_le (t := 70) dX8_divides_61 dX8_divides_62 (by decide)) (fun k9 => ?_) (fun k9 => ?_) ?_
  · refine m_lload dX8_divides_70 rfl ?_
    refine m_lneg dX8_divides_72 ?_
    exact k9
  · refine m_lload dX8_divides_65 rfl ?_
    refine m_goto (t := 73) dX8_divides_67 (by decide) ?_
    exact k9
  refine m_cl (v := lZ (((B 1).natAbs : Nat) : Int)) (lZ_absM hBb) ?_
  refine m_lmul dX8_divides_73 ?_
  refine m_cl (v := lZ (A 4 * ((B 1).natAbs : Int))) (lZ_mul _ _) ?_
  refine m_lastore (k := 4) dX8_divides_74 (by first | assumption | rfl | exact y1 _ | exact y3 _ | exact va_up_self _ _ _) ⟨by decide, by decide⟩ ?_
  try rw [va_uu]
  refine m_iinc (v := 5) dX8_divides_75 rfl (by decide) (by decide) ?_
  show mW _ _ _ _ _ _ 78 [_, _, _, _, _, _, _, _, _] _
  refine m_goto (t := 44) dX8_divides_78 (by decide) ?_
  refine m_iload dX8_divides_44 rfl ?_
  refine m_iconst (v := 5) dX8_divides_46 (by decide) ?_
  refine m_icmp_ge (t := 81) dX8_divides_47 (by decide) (fun _ => ?_) (fun q => absurd (by decide) q)
  refine m_iconst (v := 0) dX8_divides_81 (by decide) ?_
  refine m_istore dX8_divides_82 (by decide) ?_
  show mW _ _ _ _ _ _ 84 [_, _, _, _, _, _, _, _, _] _
  refine m_iload dX8_divides_84 rfl ?_
  refine m_iload_n dX8_divides_86 rfl ?_
  refine m_icmp_gt (t := 135) dX8_divides_87 (by decide) (fun q => absurd q (by decide)) (fun _ => ?_)
  refine m_aload_n dX8_divides_90 rfl ?_
  refine m_getfield dX8_divides_91 fl_X8_54 (by first | assumption | rfl | exact y1 _ | exact y3 _ | exact va_up_self _ _ _) (by first | assumption | rfl | exact y1 _ | exact y3 _ | exact va_up_self _ _ _) ?_
  show mW _ _ _ _ _ _ _ _ (.ref _ :: _)
  refine m_iload dX8_divides_94 rfl ?_
  refine m_iload_n dX8_divides_96 rfl ?_
  refine m_iadd dX8_divides_97 ?_
  refine m_ci (v := 2) (by decide) ?_
  refine m_iload_n dX8_divides_98 rfl ?_
  refine m_isub dX8_divides_99 ?_
  refine m_ci (v := 1) (by decide) ?_
  refine m_dup2 dX8_divides_100 rfl rfl ?_
  refine m_laload (k := 1) dX8_divides_101 (by first | assumption | rfl | exact y1 _ | exact y3 _ | exact va_up_self _ _ _) ⟨by decide, by decide⟩ ?_
  refine m_cl (v := lZ (A 1 * ((B 1).natAbs : Int))) rfl ?_
  refine m_lload dX8_divides_102 rfl ?_
  refine m_lconst (v := 0) dX8_divides_104 (by decide) ?_
  refine m_tern_L (J := 117) (x := -lZ (A 2)) (y := lZ (A 2)) (m_lc_le (t := 114) dX8_divides_105 dX8_divides_106 (by decide)) (fun k9 => ?_) (fun k9 => ?_) ?_
  · refine m_lload dX8_divides_114 rfl ?_
    refine m_lneg dX8_divides_116 ?_
    exact k9
  · refine m_lload dX8_divides_109 rfl ?_
    refine m_goto (t := 117) dX8_divides_111 (by decide) ?_
    exact k9
  refine m_cl (v := lZ (strikeT A 2 B 1)) (strikeM hBb hB0) ?_
  refine m_aload_n dX8_divides_117 rfl ?_
  refine m_getfield dX8_divides_118 fl_X8_51 (by first | assumption | rfl | exact y1 _ | exact y3 _ | exact va_up_self _ _ _) (by first | assumption | rfl | exact y1 _ | exact y3 _ | exact va_up_self _ _ _) ?_
  show mW _ _ _ _ _ _ _ _ (.ref _ :: _)
  refine m_iload_n dX8_divides_121 rfl ?_
  refine m_iload dX8_divides_122 rfl ?_
  refine m_iadd dX8_divides_124 ?_
  refine m_ci (v := nI (5 * q + 0)) (by exact nI_add (5 * q) 0) ?_
  refine m_laload dX8_divides_125 (by first | assumption | rfl | exact y1 _ | exact y3 _ | exact va_up_self _ _ _) (mIx_lit (show 5 * q + 0 < 40 by omega) (by decide)) ?_
  refine m_cl (v := lZ (B 0)) (hR 0 (by decide)) ?_
  refine m_lmul dX8_divides_126 ?_
  refine m_cl (v := lZ (strikeT A 2 B 1 * B 0)) (lZ_mul _ _) ?_
  refine m_lsub dX8_divides_127 ?_
  refine m_cl (v := lZ (A 1 * ((B 1).natAbs : Int) - strikeT A 2 B 1 * B 0)) (lZ_sub _ _) ?_
  refine m_lastore (k := 1) dX8_divides_128 (by first | assumption | rfl | exact y1 _ | exact y3 _ | exact va_up_self _ _ _) ⟨by decide, by decide⟩ ?_
  try rw [va_uu]
  refine m_iinc (v := 1) dX8_divides_129 rfl (by decide) (by decide) ?_
  show mW _ _ _ _ _ _ 132 [_, _, _, _, _, _, _, _, _] _
  refine m_goto (t := 84) dX8_divides_132 (by decide) ?_
  refine m_iload dX8_divides_84 rfl ?_
  refine m_iload_n dX8_divides_86 rfl ?_
  refine m_icmp_gt (t := 135) dX8_divides_87 (by decide) (fun q => absurd q (by decide)) (fun _ => ?_)
  refine m_aload_n dX8_divides_90 rfl ?_
  refine m_getfield dX8_divides_91 fl_X8_54 (by first | assumption | rfl | exact y1 _ | exact y3 _ | exact va_up_self _ _ _) (by first | assumption | rfl | exact y1 _ | exact y3 _ | exact va_up_self _ _ _) ?_
  show mW _ _ _ _ _ _ _ _ (.ref _ :: _)
  refine m_iload dX8_divides_94 rfl ?_
  refine m_iload_n dX8_divides_96 rfl ?_
  refine m_iadd dX8_divides_97 ?_
  refine m_ci (v := 3) (by decide) ?_
  refine m_iload_n dX8_divides_98 rfl ?_
  refine m_isub dX8_divides_99 ?_
  refine m_ci (v := 2) (by decide) ?_
  refine m_dup2 dX8_divides_100 rfl rfl ?_
  refine m_laload (k := 2) dX8_divides_101 (by first | assumption | rfl | exact y1 _ | exact y3 _ | exact va_up_self _ _ _) ⟨by decide, by decide⟩ ?_
  refine m_cl (v := lZ (A 2 * ((B 1).natAbs : Int))) rfl ?_
  refine m_lload dX8_divides_102 rfl ?_
  refine m_lconst (v := 0) dX8_divides_104 (by decide) ?_
  refine m_tern_L (J := 117) (x := -lZ (A 2)) (y := lZ (A 2)) (m_lc_le (t := 114) dX8_divides_105 dX8_divides_106 (by decide)) (fun k9 => ?_) (fun k9 => ?_) ?_
  · refine m_lload dX8_divides_114 rfl ?_
    refine m_lneg dX8_divides_116 ?_
    exact k9
  · refine m_lload dX8_divides_109 rfl ?_
    refine m_goto (t := 117) dX8_divides_111 (by decide) ?_
    exact k9
  refine m_cl (v := lZ (strikeT A 2 B 1)) (strikeM hBb hB0) ?_
  refine m_aload_n dX8_divides_117 rfl ?_
  refine m_getfield dX8_divides_118 fl_X8_51 (by first | assumption | rfl | exact y1 _ | exact y3 _ | exact va_up_self _ _ _) (by first | assumption | rfl | exact y1 _ | exact y3 _ | exact va_up_self _ _ _) ?_
  show mW _ _ _ _ _ _ _ _ (.ref _ :: _)
  refine m_iload_n dX8_divides_121 rfl ?_
  refine m_iload dX8_divides_122 rfl ?_
  refine m_iadd dX8_divides_124 ?_
  refine m_ci (v := nI (5 * q + 1)) (by exact nI_add (5 * q) 1) ?_
  refine m_laload dX8_divides_125 (by first | assumption | rfl | exact y1 _ | exact y3 _ | exact va_up_self _ _ _) (mIx_lit (show 5 * q + 1 < 40 by omega) (by decide)) ?_
  refine m_cl (v := lZ (B 1)) (hR 1 (by decide)) ?_
  refine m_lmul dX8_divides_126 ?_
  refine m_cl (v := lZ (strikeT A 2 B 1 * B 1)) (lZ_mul _ _) ?_
  refine m_lsub dX8_divides_127 ?_
  refine m_cl (v := lZ (A 2 * ((B 1).natAbs : Int) - strikeT A 2 B 1 * B 1)) (lZ_sub _ _) ?_
  refine m_lastore (k := 2) dX8_divides_128 (by first | assumption | rfl | exact y1 _ | exact y3 _ | exact va_up_self _ _ _) ⟨by decide, by decide⟩ ?_
  try rw [va_uu]
  refine m_iinc (v := 2) dX8_divides_129 rfl (by decide) (by decide) ?_
  show mW _ _ _ _ _ _ 132 [_, _, _, _, _, _, _, _, _] _
  refine m_goto (t := 84) dX8_divides_132 (by decide) ?_
  refine m_iload dX8_divides_84 rfl ?_
  refine m_iload_n dX8_divides_86 rfl ?_
  refine m_icmp_gt (t := 135) dX8_divides_87 (by decide) (fun _ => ?_) (fun q => absurd (by decide) q)
  have hSW : ∀ j, j < 5 → (va_up (va_up (va_up (va_up (va_up (va_up (va_up (U) 0 (lZ (A 0 * ((B 1).natAbs : Int)))) 1 (lZ (A 1 * ((B 1).natAbs : Int)))) 2 (lZ (A 2 * ((B 1).natAbs : Int)))) 3 (lZ (A 3 * ((B 1).natAbs : Int)))) 4 (lZ (A 4 * ((B 1).natAbs : Int)))) 1 (lZ (A 1 * ((B 1).natAbs : Int) - strikeT A 2 B 1 * B 0))) 2 (lZ (A 2 * ((B 1).natAbs : Int) - strikeT A 2 B 1 * B 1))) j = lZ (strikeZ A 2 B 1 j) := fun j hj => by
        rcases lt5 hj with rfl | rfl | rfl | rfl | rfl
        · rw [strike_n hA (by decide)]
          rfl
        · rw [strike_y hA (by decide)]
          rfl
        · rw [strike_y hA (by decide)]
          rfl
        · rw [strike_n hA (by decide)]
          rfl
        · rw [strike_n hA (by decide)]
          rfl
  refine m_aload_n dX8_divides_135 rfl ?_
  refine m_invV dX8_divides_136 lk_X8_180 ar_X8_shortens (ci := 8) rfl rfl (by first | assumption | rfl | exact y1 _ | exact y3 _ | exact va_up_self _ _ _) (t_X8_shortens (y1 _) (va_up_self _ _ _) hSW hs) rfl (Nat.le_of_ble_eq_true rfl) (by decide) (by decide) (by decide) (by decide) (fun v hp' q9 => ?_)
  obtain ⟨rfl, U', rfl, hU'⟩ := q9
  rw [va_uu]
  show mW K _ 0 0 n _ 139 [_, _, _, _, _, _, _, _, _] []
  refine m_aload_n dX8_divides_139 rfl ?_
  refine m_getfield dX8_divides_140 fl_X8_54 (by first | assumption | rfl | exact y1 _ | exact y3 _ | exact va_up_self _ _ _) (by first | assumption | rfl | exact y1 _ | exact y3 _ | exact va_up_self _ _ _) ?_
  show mW _ _ _ _ _ _ _ _ (.ref _ :: _)
  refine m_iconst (v := 0) dX8_divides_143 (by decide) ?_
  refine m_invS_I dX8_divides_144 lk_X8_118 ar_X8_degree (t_X8_degree (at_ := 0) (va_up_self _ _ _) (by decide) (by decide)) rfl (Nat.le_of_ble_eq_true rfl) (by decide) (by decide) (by decide) (by decide) rfl rfl ?_
  try rw [va_uu]
  refine m_ci (v := orN (dgZ (low5 (strikeZ A 2 B 1)))) (by rw [deg5_Z (z := low5 (strikeZ A 2 B 1)) (fun j hj => by rw [Nat.zero_add]; exact hU' j hj) (low5_bd hs)]) ?_
  refine m_istore_n dX8_divides_147 (by decide) ?_
  show mW _ _ _ _ _ _ 148 [_, _, _, _, _, _, _, _, _] _
  refine m_goto (t := 18) dX8_divides_148 (by decide) ?_
  exact hk9 U' _ _ _ _ _ hU'

set_option maxHeartbeats 400000 in
set_option maxRecDepth 100000 in
theorem l_X8_div_3_2 {n : Nat} {hp : mHp} {ac ia tm ri ev le ch ls rm sm ra fa : Int32} (h1 : hp 67 = eO 8 (oMod ac ia tm ri ev le ch ls rm sm ra fa)) {q : Nat} {U R : Nat → Int64} {A B : Nat → Int} (h2 : hp 81 = eL 5 U) (h3 : hp 80 = eL 40 R) (hq : q < 8) (hU : ∀ j, j < 5 → U j = lZ (A j)) (hR : ∀ j, j < 5 → R (5 * q + j) = lZ (B j)) (hA : A 3 ≠ 0) (hB0 : B 2 ≠ 0) (hBb : bdZ (B 2)) (hs : ∀ j, j < 5 → bdZ (strikeZ A 3 B 2 j)) {K : mK} {v4 v5 v6 v7 v8 : Value} (hk9 : ∀ (U' : Nat → Int64) (v4 v5 v6 v7 v8 : Value), (∀ j, j < 5 → U' j = lZ (low5 (strikeZ A 3 B 2) j)) → mW K D_X8_divides 0 0 n (va_up hp 81 (eL 5 U')) 18 [.ref 67, .int (nI (5 * q)), .int 2, .int (orN (dgZ (low5 (strikeZ A 3 B 2)))), v4, v5, v6, v7, v8] []) : mW K D_X8_divides 0 0 n hp 18 [.ref 67, .int (nI (5 * q)), .int 2, .int 3, v4, v5, v6, v7, v8] [] := by
  have y1 : ∀ f : mE, va_up hp 81 f 67 = _ := fun f => (va_up_ne _ _ (by decide)).trans h1
  have y3 : ∀ f : mE, va_up hp 81 f 80 = eL 40 R := fun f => (va_up_ne _ _ (by decide)).trans h3
  refine m_iload_n dX8_divides_18 rfl ?_
  refine m_iload_n dX8_divides_19 rfl ?_
  refine m_icmp_lt (t := 151) dX8_divides_20 (by decide) (fun q => absurd q (by decide)) (fun _ => ?_)
  refine m_aload_n dX8_divides_23 rfl ?_
  refine m_getfield dX8_divides_24 fl_X8_54 (by first | assumption | rfl | exact y1 _ | exact y3 _ | exact va_up_self _ _ _) (by first | assumption | rfl | exact y1 _ | exact y3 _ | exact va_up_self _ _ _) ?_
  show mW _ _ _ _ _ _ _ _ (.ref _ :: _)
  refine m_iload_n dX8_divides_27 rfl ?_
  refine m_laload (k := 3) dX8_divides_28 (by first | assumption | rfl | exact y1 _ | exact y3 _ | exact va_up_self _ _ _) ⟨by decide, by decide⟩ ?_
  refine m_cl (v := lZ (A 3)) (hU 3 (by decide)) ?_
  refine m_lstore dX8_divides_29 (by decide) ?_
  show mW _ _ _ _ _ _ 31 [_, _, _, _, _, _, _, _, _] _
  refine m_aload_n dX8_divides_31 rfl ?_
  refine m_getfield dX8_divides_32 fl_X8_51 (by first | assumption | rfl | exact y1 _ | exact y3 _ | exact va_up_self _ _ _) (by first | assumption | rfl | exact y1 _ | exact y3 _ | exact va_up_self _ _ _) ?_
  show mW _ _ _ _ _ _ _ _ (.ref _ :: _)
  refine m_iload_n dX8_divides_35 rfl ?_
  refine m_iload_n dX8_divides_36 rfl ?_
  refine m_iadd dX8_divides_37 ?_
  refine m_ci (v := nI (5 * q + 2)) (by exact nI_add (5 * q) 2) ?_
  refine m_laload dX8_divides_38 (by first | assumption | rfl | exact y1 _ | exact y3 _ | exact va_up_self _ _ _) (mIx_lit (show 5 * q + 2 < 40 by omega) (by decide)) ?_
  refine m_cl (v := lZ (B 2)) (hR 2 (by decide)) ?_
  refine m_lstore dX8_divides_39 (by decide) ?_
  show mW _ _ _ _ _ _ 41 [_, _, _, _, _, _, _, _, _] _
  refine m_iconst (v := 0) dX8_divides_41 (by decide) ?_
  refine m_istore dX8_divides_42 (by decide) ?_
  show mW _ _ _ _ _ _ 44 [_, _, _, _, _, _, _, _, _] _
  refine m_iload dX8_divides_44 rfl ?_
  refine m_iconst (v := 5) dX8_divides_46 (by decide) ?_
  refine m_icmp_ge (t := 81) dX8_divides_47 (by decide) (fun q => absurd q (by decide)) (fun _ => ?_)
  refine m_aload_n dX8_divides_50 rfl ?_
  refine m_getfield dX8_divides_51 fl_X8_54 (by first | assumption | rfl | exact y1 _ | exact y3 _ | exact va_up_self _ _ _) (by first | assumption | rfl | exact y1 _ | exact y3 _ | exact va_up_self _ _ _) ?_
  show mW _ _ _ _ _ _ _ _ (.ref _ :: _)
  refine m_iload dX8_divides_54 rfl ?_
  refine m_dup2 dX8_divides_56 rfl rfl ?_
  refine m_laload (k := 0) dX8_divides_57 (by first | assumption | rfl | exact y1 _ | exact y3 _ | exact va_up_self _ _ _) ⟨by decide, by decide⟩ ?_
  refine m_cl (v := lZ (A 0)) (hU 0 (by decide)) ?_
  refine m_lload dX8_divides_58 rfl ?_
  refine m_lconst (v := 0) dX8_divides_60 (by decide) ?_
  refine m_tern_L (J := 73) (x := -lZ (B 2)) (y := lZ (B 2)) (m_lc_le (t := 70) dX8_divides_61 dX8_divides_62 (by decide)) (fun k9 => ?_) (fun k9 => ?_) ?_
  · refine m_lload dX8_divides_70 rfl ?_
    refine m_lneg dX8_divides_72 ?_
    exact k9
  · refine m_lload dX8_divides_65 rfl ?_
    refine m_goto (t := 73) dX8_divides_67 (by decide) ?_
    exact k9
  refine m_cl (v := lZ (((B 2).natAbs : Nat) : Int)) (lZ_absM hBb) ?_
  refine m_lmul dX8_divides_73 ?_
  refine m_cl (v := lZ (A 0 * ((B 2).natAbs : Int))) (lZ_mul _ _) ?_
  refine m_lastore (k := 0) dX8_divides_74 (by first | assumption | rfl | exact y1 _ | exact y3 _ | exact va_up_self _ _ _) ⟨by decide, by decide⟩ ?_
  try rw [va_uu]
  refine m_iinc (v := 1) dX8_divides_75 rfl (by decide) (by decide) ?_
  show mW _ _ _ _ _ _ 78 [_, _, _, _, _, _, _, _, _] _
  refine m_goto (t := 44) dX8_divides_78 (by decide) ?_
  refine m_iload dX8_divides_44 rfl ?_
  refine m_iconst (v := 5) dX8_divides_46 (by decide) ?_
  refine m_icmp_ge (t := 81) dX8_divides_47 (by decide) (fun q => absurd q (by decide)) (fun _ => ?_)
  refine m_aload_n dX8_divides_50 rfl ?_
  refine m_getfield dX8_divides_51 fl_X8_54 (by first | assumption | rfl | exact y1 _ | exact y3 _ | exact va_up_self _ _ _) (by first | assumption | rfl | exact y1 _ | exact y3 _ | exact va_up_self _ _ _) ?_
  show mW _ _ _ _ _ _ _ _ (.ref _ :: _)
  refine m_iload dX8_divides_54 rfl ?_
  refine m_dup2 dX8_divides_56 rfl rfl ?_
  refine m_laload (k := 1) dX8_divides_57 (by first | assumption | rfl | exact y1 _ | exact y3 _ | exact va_up_self _ _ _) ⟨by decide, by decide⟩ ?_
  refine m_cl (v := lZ (A 1)) (hU 1 (by decide)) ?_
  refine m_lload dX8_divides_58 rfl ?_
  refine m_lconst (v := 0) dX8_divides_60 (by decide) ?_
  refine m_tern_L (J := 73) (x := -lZ (B 2)) (y := lZ (B 2)) (m_lc_le (t := 70) dX8_divides_61 dX8_divides_62 (by decide)) (fun k9 => ?_) (fun k9 => ?_) ?_
  · refine m_lload dX8_divides_70 rfl ?_
    refine m_lneg dX8_divides_72 ?_
    exact k9
  · refine m_lload dX8_divides_65 rfl ?_
    refine m_goto (t := 73) dX8_divides_67 (by decide) ?_
    exact k9
  refine m_cl (v := lZ (((B 2).natAbs : Nat) : Int)) (lZ_absM hBb) ?_
  refine m_lmul dX8_divides_73 ?_
  refine m_cl (v := lZ (A 1 * ((B 2).natAbs : Int))) (lZ_mul _ _) ?_
  refine m_lastore (k := 1) dX8_divides_74 (by first | assumption | rfl | exact y1 _ | exact y3 _ | exact va_up_self _ _ _) ⟨by decide, by decide⟩ ?_
  try rw [va_uu]
  refine m_iinc (v := 2) dX8_divides_75 rfl (by decide) (by decide) ?_
  show mW _ _ _ _ _ _ 78 [_, _, _, _, _, _, _, _, _] _
  refine m_goto (t := 44) dX8_divides_78 (by decide) ?_
  refine m_iload dX8_divides_44 rfl ?_
  refine m_iconst (v := 5) dX8_divides_46 (by decide) ?_
  refine m_icmp_ge (t := 81) dX8_divides_47 (by decide) (fun q => absurd q (by decide)) (fun _ => ?_)
  refine m_aload_n dX8_divides_50 rfl ?_
  refine m_getfield dX8_divides_51 fl_X8_54 (by first | assumption | rfl | exact y1 _ | exact y3 _ | exact va_up_self _ _ _) (by first | assumption | rfl | exact y1 _ | exact y3 _ | exact va_up_self _ _ _) ?_
  show mW _ _ _ _ _ _ _ _ (.ref _ :: _)
  refine m_iload dX8_divides_54 rfl ?_
  refine m_dup2 dX8_divides_56 rfl rfl ?_
  refine m_laload (k := 2) dX8_divides_57 (by first | assumption | rfl | exact y1 _ | exact y3 _ | exact va_up_self _ _ _) ⟨by decide, by decide⟩ ?_
  refine m_cl (v := lZ (A 2)) (hU 2 (by decide)) ?_
  refine m_lload dX8_divides_58 rfl ?_
  refine m_lconst (v := 0) dX8_divides_60 (by decide) ?_
  refine m_tern_L (J := 73) (x := -lZ (B 2)) (y := lZ (B 2)) (m_lc_le (t := 70) dX8_divides_61 dX8_divides_62 (by decide)) (fun k9 => ?_) (fun k9 => ?_) ?_
  · refine m_lload dX8_divides_70 rfl ?_
    refine m_lneg dX8_divides_72 ?_
    exact k9
  · refine m_lload dX8_divides_65 rfl ?_
    refine m_goto (t := 73) dX8_divides_67 (by decide) ?_
    exact k9
  refine m_cl (v := lZ (((B 2).natAbs : Nat) : Int)) (lZ_absM hBb) ?_
  refine m_lmul dX8_divides_73 ?_
  refine m_cl (v := lZ (A 2 * ((B 2).natAbs : Int))) (lZ_mul _ _) ?_
  refine m_lastore (k := 2) dX8_divides_74 (by first | assumption | rfl | exact y1 _ | exact y3 _ | exact va_up_self _ _ _) ⟨by decide, by decide⟩ ?_
  try rw [va_uu]
  refine m_iinc (v := 3) dX8_divides_75 rfl (by decide) (by decide) ?_
  show mW _ _ _ _ _ _ 78 [_, _, _, _, _, _, _, _, _] _
  refine m_goto (t := 44) dX8_divides_78 (by decide) ?_
  refine m_iload dX8_divides_44 rfl ?_
  refine m_iconst (v := 5) dX8_divides_46 (by decide) ?_
  refine m_icmp_ge (t := 81) dX8_divides_47 (by decide) (fun q => absurd q (by decide)) (fun _ => ?_)
  refine m_aload_n dX8_divides_50 rfl ?_
  refine m_getfield dX8_divides_51 fl_X8_54 (by first | assumption | rfl | exact y1 _ | exact y3 _ | exact va_up_self _ _ _) (by first | assumption | rfl | exact y1 _ | exact y3 _ | exact va_up_self _ _ _) ?_
  show mW _ _ _ _ _ _ _ _ (.ref _ :: _)
  refine m_iload dX8_divides_54 rfl ?_
  refine m_dup2 dX8_divides_56 rfl rfl ?_
  refine m_laload (k := 3) dX8_divides_57 (by first | assumption | rfl | exact y1 _ | exact y3 _ | exact va_up_self _ _ _) ⟨by decide, by decide⟩ ?_
  refine m_cl (v := lZ (A 3)) (hU 3 (by decide)) ?_
  refine m_lload dX8_divides_58 rfl ?_
  refine m_lconst (v := 0) dX8_divides_60 (by decide) ?_
  refine m_tern_L (J := 73) (x := -lZ (B 2)) (y := lZ (B 2)) (m_lc_le (t := 70) dX8_divides_61 dX8_divides_62 (by decide)) (fun k9 => ?_) (fun k9 => ?_) ?_
  · refine m_lload dX8_divides_70 rfl ?_
    refine m_lneg dX8_divides_72 ?_
    exact k9
  · refine m_lload dX8_divides_65 rfl ?_
    refine m_goto (t := 73) dX8_divides_67 (by decide) ?_
    exact k9
  refine m_cl (v := lZ (((B 2).natAbs : Nat) : Int)) (lZ_absM hBb) ?_
  refine m_lmul dX8_divides_73 ?_
  refine m_cl (v := lZ (A 3 * ((B 2).natAbs : Int))) (lZ_mul _ _) ?_
  refine m_lastore (k := 3) dX8_divides_74 (by first | assumption | rfl | exact y1 _ | exact y3 _ | exact va_up_self _ _ _) ⟨by decide, by decide⟩ ?_
  try rw [va_uu]
  refine m_iinc (v := 4) dX8_divides_75 rfl (by decide) (by decide) ?_
  show mW _ _ _ _ _ _ 78 [_, _, _, _, _, _, _, _, _] _
  refine m_goto (t := 44) dX8_divides_78 (by decide) ?_
  refine m_iload dX8_divides_44 rfl ?_
  refine m_iconst (v := 5) dX8_divides_46 (by decide) ?_
  refine m_icmp_ge (t := 81) dX8_divides_47 (by decide) (fun q => absurd q (by decide)) (fun _ => ?_)
  refine m_aload_n dX8_divides_50 rfl ?_
  refine m_getfield dX8_divides_51 fl_X8_54 (by first | assumption | rfl | exact y1 _ | exact y3 _ | exact va_up_self _ _ _) (by first | assumption | rfl | exact y1 _ | exact y3 _ | exact va_up_self _ _ _) ?_
  show mW _ _ _ _ _ _ _ _ (.ref _ :: _)
  refine m_iload dX8_divides_54 rfl ?_
  refine m_dup2 dX8_divides_56 rfl rfl ?_
  refine m_laload (k := 4) dX8_divides_57 (by first | assumption | rfl | exact y1 _ | exact y3 _ | exact va_up_self _ _ _) ⟨by decide, by decide⟩ ?_
  refine m_cl (v := lZ (A 4)) (hU 4 (by decide)) ?_
  refine m_lload dX8_divides_58 rfl ?_
  refine m_lconst (v := 0) dX8_divides_60 (by decide) ?_
  refine m_tern_L (J := 73) (x := -lZ (B 2)) (y := lZ (B 2)) (m_lc_le (t := 70) dX8_divides_61 dX8_divides_62 (by decide)) (fun k9 => ?_) (fun k9 => ?_) ?_
  · refine m_lload dX8_divides_70 rfl ?_
    refine m_lneg dX8_divides_72 ?_
    exact k9
  · refine m_lload dX8_divides_65 rfl ?_
    refine m_goto (t := 73) dX8_divides_67 (by decide) ?_
    exact k9
  refine m_cl (v := lZ (((B 2).natAbs : Nat) : Int)) (lZ_absM hBb) ?_
  refine m_lmul dX8_divides_73 ?_
  refine m_cl (v := lZ (A 4 * ((B 2).natAbs : Int))) (lZ_mul _ _) ?_
  refine m_lastore (k := 4) dX8_divides_74 (by first | assumption | rfl | exact y1 _ | exact y3 _ | exact va_up_self _ _ _) ⟨by decide, by decide⟩ ?_
  try rw [va_uu]
  refine m_iinc (v := 5) dX8_divides_75 rfl (by decide) (by decide) ?_
  show mW _ _ _ _ _ _ 78 [_, _, _, _, _, _, _, _, _] _
  refine m_goto (t := 44) dX8_divides_78 (by decide) ?_
  refine m_iload dX8_divides_44 rfl ?_
  refine m_iconst (v := 5) dX8_divides_46 (by decide) ?_
  refine m_icmp_ge (t := 81) dX8_divides_47 (by decide) (fun _ => ?_) (fun q => absurd (by decide) q)
  refine m_iconst (v := 0) dX8_divides_81 (by decide) ?_
  refine m_istore dX8_divides_82 (by decide) ?_
  show mW _ _ _ _ _ _ 84 [_, _, _, _, _, _, _, _, _] _
  refine m_iload dX8_divides_84 rfl ?_
  refine m_iload_n dX8_divides_86 rfl ?_
  refine m_icmp_gt (t := 135) dX8_divides_87 (by decide) (fun q => absurd q (by decide)) (fun _ => ?_)
  refine m_aload_n dX8_divides_90 rfl ?_
  refine m_getfield dX8_divides_91 fl_X8_54 (by first | assumption | rfl | exact y1 _ | exact y3 _ | exact va_up_self _ _ _) (by first | assumption | rfl | exact y1 _ | exact y3 _ | exact va_up_self _ _ _) ?_
  show mW _ _ _ _ _ _ _ _ (.ref _ :: _)
  refine m_iload dX8_divides_94 rfl ?_
  refine m_iload_n dX8_divides_96 rfl ?_
  refine m_iadd dX8_divides_97 ?_
  refine m_ci (v := 3) (by decide) ?_
  refine m_iload_n dX8_divides_98 rfl ?_
  refine m_isub dX8_divides_99 ?_
  refine m_ci (v := 1) (by decide) ?_
  refine m_dup2 dX8_divides_100 rfl rfl ?_
  refine m_laload (k := 1) dX8_divides_101 (by first | assumption | rfl | exact y1 _ | exact y3 _ | exact va_up_self _ _ _) ⟨by decide, by decide⟩ ?_
  refine m_cl (v := lZ (A 1 * ((B 2).natAbs : Int))) rfl ?_
  refine m_lload dX8_divides_102 rfl ?_
  refine m_lconst (v := 0) dX8_divides_104 (by decide) ?_
  refine m_tern_L (J := 117) (x := -lZ (A 3)) (y := lZ (A 3)) (m_lc_le (t := 114) dX8_divides_105 dX8_divides_106 (by decide)) (fun k9 => ?_) (fun k9 => ?_) ?_
  · refine m_lload dX8_divides_114 rfl ?_
    refine m_lneg dX8_divides_116 ?_
    exact k9
  · refine m_lload dX8_divides_109 rfl ?_
    refine m_goto (t := 117) dX8_divides_111 (by decide) ?_
    exact k9
  refine m_cl (v := lZ (strikeT A 3 B 2)) (strikeM hBb hB0) ?_
  refine m_aload_n dX8_divides_117 rfl ?_
  refine m_getfield dX8_divides_118 fl_X8_51 (by first | assumption | rfl | exact y1 _ | exact y3 _ | exact va_up_self _ _ _) (by first | assumption | rfl | exact y1 _ | exact y3 _ | exact va_up_self _ _ _) ?_
  show mW _ _ _ _ _ _ _ _ (.ref _ :: _)
  refine m_iload_n dX8_divides_121 rfl ?_
  refine m_iload dX8_divides_122 rfl ?_
  refine m_iadd dX8_divides_124 ?_
  refine m_ci (v := nI (5 * q + 0)) (by exact nI_add (5 * q) 0) ?_
  refine m_laload dX8_divides_125 (by first | assumption | rfl | exact y1 _ | exact y3 _ | exact va_up_self _ _ _) (mIx_lit (show 5 * q + 0 < 40 by omega) (by decide)) ?_
  refine m_cl (v := lZ (B 0)) (hR 0 (by decide)) ?_
  refine m_lmul dX8_divides_126 ?_
  refine m_cl (v := lZ (strikeT A 3 B 2 * B 0)) (lZ_mul _ _) ?_
  refine m_lsub dX8_divides_127 ?_
  refine m_cl (v := lZ (A 1 * ((B 2).natAbs : Int) - strikeT A 3 B 2 * B 0)) (lZ_sub _ _) ?_
  refine m_lastore (k := 1) dX8_divides_128 (by first | assumption | rfl | exact y1 _ | exact y3 _ | exact va_up_self _ _ _) ⟨by decide, by decide⟩ ?_
  try rw [va_uu]
  refine m_iinc (v := 1) dX8_divides_129 rfl (by decide) (by decide) ?_
  show mW _ _ _ _ _ _ 132 [_, _, _, _, _, _, _, _, _] _
  refine m_goto (t := 84) dX8_divides_132 (by decide) ?_
  refine m_iload dX8_divides_84 rfl ?_
  refine m_iload_n dX8_divides_86 rfl ?_
  refine m_icmp_gt (t := 135) dX8_divides_87 (by decide) (fun q => absurd q (by decide)) (fun _ => ?_)
  refine m_aload_n dX8_divides_90 rfl ?_
  refine m_getfield dX8_divides_91 fl_X8_54 (by first | assumption | rfl | exact y1 _ | exact y3 _ | exact va_up_self _ _ _) (by first | assumption | rfl | exact y1 _ | exact y3 _ | exact va_up_self _ _ _) ?_
  show mW _ _ _ _ _ _ _ _ (.ref _ :: _)
  refine m_iload dX8_divides_94 rfl ?_
  refine m_iload_n dX8_divides_96 rfl ?_
  refine m_iadd dX8_divides_97 ?_
  refine m_ci (v := 4) (by decide) ?_
  refine m_iload_n dX8_divides_98 rfl ?_
  refine m_isub dX8_divides_99 ?_
  refine m_ci (v := 2) (by decide) ?_
  refine m_dup2 dX8_divides_100 rfl rfl ?_
  refine m_laload (k := 2) dX8_divides_101 (by first | assumption | rfl | exact y1 _ | exact y3 _ | exact va_up_self _ _ _) ⟨by decide, by decide⟩ ?_
  refine m_cl (v := lZ (A 2 * ((B 2).natAbs : Int))) rfl ?_
  refine m_lload dX8_divides_102 rfl ?_
  refine m_lconst (v := 0) dX8_divides_104 (by decide) ?_
  refine m_tern_L (J := 117) (x := -lZ (A 3)) (y := lZ (A 3)) (m_lc_le (t := 114) dX8_divides_105 dX8_divides_106 (by decide)) (fun k9 => ?_) (fun k9 => ?_) ?_
  · refine m_lload dX8_divides_114 rfl ?_
    refine m_lneg dX8_divides_116 ?_
    exact k9
  · refine m_lload dX8_divides_109 rfl ?_
    refine m_goto (t := 117) dX8_divides_111 (by decide) ?_
    exact k9
  refine m_cl (v := lZ (strikeT A 3 B 2)) (strikeM hBb hB0) ?_
  refine m_aload_n dX8_divides_117 rfl ?_
  refine m_getfield dX8_divides_118 fl_X8_51 (by first | assumption | rfl | exact y1 _ | exact y3 _ | exact va_up_self _ _ _) (by first | assumption | rfl | exact y1 _ | exact y3 _ | exact va_up_self _ _ _) ?_
  show mW _ _ _ _ _ _ _ _ (.ref _ :: _)
  refine m_iload_n dX8_divides_121 rfl ?_
  refine m_iload dX8_divides_122 rfl ?_
  refine m_iadd dX8_divides_124 ?_
  refine m_ci (v := nI (5 * q + 1)) (by exact nI_add (5 * q) 1) ?_
  refine m_laload dX8_divides_125 (by first | assumption | rfl | exact y1 _ | exact y3 _ | exact va_up_self _ _ _) (mIx_lit (show 5 * q + 1 < 40 by omega) (by decide)) ?_
  refine m_cl (v := lZ (B 1)) (hR 1 (by decide)) ?_
  refine m_lmul dX8_divides_126 ?_
  refine m_cl (v := lZ (strikeT A 3 B 2 * B 1)) (lZ_mul _ _) ?_
  refine m_lsub dX8_divides_127 ?_
  refine m_cl (v := lZ (A 2 * ((B 2).natAbs : Int) - strikeT A 3 B 2 * B 1)) (lZ_sub _ _) ?_
  refine m_lastore (k := 2) dX8_divides_128 (by first | assumption | rfl | exact y1 _ | exact y3 _ | exact va_up_self _ _ _) ⟨by decide, by decide⟩ ?_
  try rw [va_uu]
  refine m_iinc (v := 2) dX8_divides_129 rfl (by decide) (by decide) ?_
  show mW _ _ _ _ _ _ 132 [_, _, _, _, _, _, _, _, _] _
  refine m_goto (t := 84) dX8_divides_132 (by decide) ?_
  refine m_iload dX8_divides_84 rfl ?_
  refine m_iload_n dX8_divides_86 rfl ?_
  refine m_icmp_gt (t := 135) dX8_divides_87 (by decide) (fun q => absurd q (by decide)) (fun _ => ?_)
  refine m_aload_n dX8_divides_90 rfl ?_
  refine m_getfield dX8_divides_91 fl_X8_54 (by first | assumption | rfl | exact y1 _ | exact y3 _ | exact va_up_self _ _ _) (by first | assumption | rfl | exact y1 _ | exact y3 _ | exact va_up_self _ _ _) ?_
  show mW _ _ _ _ _ _ _ _ (.ref _ :: _)
  refine m_iload dX8_divides_94 rfl ?_
  refine m_iload_n dX8_divides_96 rfl ?_
  refine m_iadd dX8_divides_97 ?_
  refine m_ci (v := 5) (by decide) ?_
  refine m_iload_n dX8_divides_98 rfl ?_
  refine m_isub dX8_divides_99 ?_
  refine m_ci (v := 3) (by decide) ?_
  refine m_dup2 dX8_divides_100 rfl rfl ?_
  refine m_laload (k := 3) dX8_divides_101 (by first | assumption | rfl | exact y1 _ | exact y3 _ | exact va_up_self _ _ _) ⟨by decide, by decide⟩ ?_
  refine m_cl (v := lZ (A 3 * ((B 2).natAbs : Int))) rfl ?_
  refine m_lload dX8_divides_102 rfl ?_
  refine m_lconst (v := 0) dX8_divides_104 (by decide) ?_
  refine m_tern_L (J := 117) (x := -lZ (A 3)) (y := lZ (A 3)) (m_lc_le (t := 114) dX8_divides_105 dX8_divides_106 (by decide)) (fun k9 => ?_) (fun k9 => ?_) ?_
  · refine m_lload dX8_divides_114 rfl ?_
    refine m_lneg dX8_divides_116 ?_
    exact k9
  · refine m_lload dX8_divides_109 rfl ?_
    refine m_goto (t := 117) dX8_divides_111 (by decide) ?_
    exact k9
  refine m_cl (v := lZ (strikeT A 3 B 2)) (strikeM hBb hB0) ?_
  refine m_aload_n dX8_divides_117 rfl ?_
  refine m_getfield dX8_divides_118 fl_X8_51 (by first | assumption | rfl | exact y1 _ | exact y3 _ | exact va_up_self _ _ _) (by first | assumption | rfl | exact y1 _ | exact y3 _ | exact va_up_self _ _ _) ?_
  show mW _ _ _ _ _ _ _ _ (.ref _ :: _)
  refine m_iload_n dX8_divides_121 rfl ?_
  refine m_iload dX8_divides_122 rfl ?_
  refine m_iadd dX8_divides_124 ?_
  refine m_ci (v := nI (5 * q + 2)) (by exact nI_add (5 * q) 2) ?_
  refine m_laload dX8_divides_125 (by first | assumption | rfl | exact y1 _ | exact y3 _ | exact va_up_self _ _ _) (mIx_lit (show 5 * q + 2 < 40 by omega) (by decide)) ?_
  refine m_cl (v := lZ (B 2)) (hR 2 (by decide)) ?_
  refine m_lmul dX8_divides_126 ?_
  refine m_cl (v := lZ (strikeT A 3 B 2 * B 2)) (lZ_mul _ _) ?_
  refine m_lsub dX8_divides_127 ?_
  refine m_cl (v := lZ (A 3 * ((B 2).natAbs : Int) - strikeT A 3 B 2 * B 2)) (lZ_sub _ _) ?_
  refine m_lastore (k := 3) dX8_divides_128 (by first | assumption | rfl | exact y1 _ | exact y3 _ | exact va_up_self _ _ _) ⟨by decide, by decide⟩ ?_
  try rw [va_uu]
  refine m_iinc (v := 3) dX8_divides_129 rfl (by decide) (by decide) ?_
  show mW _ _ _ _ _ _ 132 [_, _, _, _, _, _, _, _, _] _
  refine m_goto (t := 84) dX8_divides_132 (by decide) ?_
  refine m_iload dX8_divides_84 rfl ?_
  refine m_iload_n dX8_divides_86 rfl ?_
  refine m_icmp_gt (t := 135) dX8_divides_87 (by decide) (fun _ => ?_) (fun q => absurd (by decide) q)
  have hSW : ∀ j, j < 5 → (va_up (va_up (va_up (va_up (va_up (va_up (va_up (va_up (U) 0 (lZ (A 0 * ((B 2).natAbs : Int)))) 1 (lZ (A 1 * ((B 2).natAbs : Int)))) 2 (lZ (A 2 * ((B 2).natAbs : Int)))) 3 (lZ (A 3 * ((B 2).natAbs : Int)))) 4 (lZ (A 4 * ((B 2).natAbs : Int)))) 1 (lZ (A 1 * ((B 2).natAbs : Int) - strikeT A 3 B 2 * B 0))) 2 (lZ (A 2 * ((B 2).natAbs : Int) - strikeT A 3 B 2 * B 1))) 3 (lZ (A 3 * ((B 2).natAbs : Int) - strikeT A 3 B 2 * B 2))) j = lZ (strikeZ A 3 B 2 j) := fun j hj => by
        rcases lt5 hj with rfl | rfl | rfl | rfl | rfl
        · rw [strike_n hA (by decide)]
          rfl
        · rw [strike_y hA (by decide)]
          rfl
        · rw [strike_y hA (by decide)]
          rfl
        · rw [strike_y hA (by decide)]
          rfl
        · rw [strike_n hA (by decide)]
          rfl
  refine m_aload_n dX8_divides_135 rfl ?_
  refine m_invV dX8_divides_136 lk_X8_180 ar_X8_shortens (ci := 8) rfl rfl (by first | assumption | rfl | exact y1 _ | exact y3 _ | exact va_up_self _ _ _) (t_X8_shortens (y1 _) (va_up_self _ _ _) hSW hs) rfl (Nat.le_of_ble_eq_true rfl) (by decide) (by decide) (by decide) (by decide) (fun v hp' q9 => ?_)
  obtain ⟨rfl, U', rfl, hU'⟩ := q9
  rw [va_uu]
  show mW K _ 0 0 n _ 139 [_, _, _, _, _, _, _, _, _] []
  refine m_aload_n dX8_divides_139 rfl ?_
  refine m_getfield dX8_divides_140 fl_X8_54 (by first | assumption | rfl | exact y1 _ | exact y3 _ | exact va_up_self _ _ _) (by first | assumption | rfl | exact y1 _ | exact y3 _ | exact va_up_self _ _ _) ?_
  show mW _ _ _ _ _ _ _ _ (.ref _ :: _)
  refine m_iconst (v := 0) dX8_divides_143 (by decide) ?_
  refine m_invS_I dX8_divides_144 lk_X8_118 ar_X8_degree (t_X8_degree (at_ := 0) (va_up_self _ _ _) (by decide) (by decide)) rfl (Nat.le_of_ble_eq_true rfl) (by decide) (by decide) (by decide) (by decide) rfl rfl ?_
  try rw [va_uu]
  refine m_ci (v := orN (dgZ (low5 (strikeZ A 3 B 2)))) (by rw [deg5_Z (z := low5 (strikeZ A 3 B 2)) (fun j hj => by rw [Nat.zero_add]; exact hU' j hj) (low5_bd hs)]) ?_
  refine m_istore_n dX8_divides_147 (by decide) ?_
  show mW _ _ _ _ _ _ 148 [_, _, _, _, _, _, _, _, _] _
  refine m_goto (t := 18) dX8_divides_148 (by decide) ?_
  exact hk9 U' _ _ _ _ _ hU'

set_option maxHeartbeats 400000 in
set_option maxRecDepth 100000 in
theorem l_X8_div_4_3 {n : Nat} {hp : mHp} {ac ia tm ri ev le ch ls rm sm ra fa : Int32} (h1 : hp 67 = eO 8 (oMod ac ia tm ri ev le ch ls rm sm ra fa)) {q : Nat} {U R : Nat → Int64} {A B : Nat → Int} (h2 : hp 81 = eL 5 U) (h3 : hp 80 = eL 40 R) (hq : q < 8) (hU : ∀ j, j < 5 → U j = lZ (A j)) (hR : ∀ j, j < 5 → R (5 * q + j) = lZ (B j)) (hA : A 4 ≠ 0) (hB0 : B 3 ≠ 0) (hBb : bdZ (B 3)) (hs : ∀ j, j < 5 → bdZ (strikeZ A 4 B 3 j)) {K : mK} {v4 v5 v6 v7 v8 : Value} (hk9 : ∀ (U' : Nat → Int64) (v4 v5 v6 v7 v8 : Value), (∀ j, j < 5 → U' j = lZ (low5 (strikeZ A 4 B 3) j)) → mW K D_X8_divides 0 0 n (va_up hp 81 (eL 5 U')) 18 [.ref 67, .int (nI (5 * q)), .int 3, .int (orN (dgZ (low5 (strikeZ A 4 B 3)))), v4, v5, v6, v7, v8] []) : mW K D_X8_divides 0 0 n hp 18 [.ref 67, .int (nI (5 * q)), .int 3, .int 4, v4, v5, v6, v7, v8] [] := by
  have y1 : ∀ f : mE, va_up hp 81 f 67 = _ := fun f => (va_up_ne _ _ (by decide)).trans h1
  have y3 : ∀ f : mE, va_up hp 81 f 80 = eL 40 R := fun f => (va_up_ne _ _ (by decide)).trans h3
  refine m_iload_n dX8_divides_18 rfl ?_
  refine m_iload_n dX8_divides_19 rfl ?_
  refine m_icmp_lt (t := 151) dX8_divides_20 (by decide) (fun q => absurd q (by decide)) (fun _ => ?_)
  refine m_aload_n dX8_divides_23 rfl ?_
  refine m_getfield dX8_divides_24 fl_X8_54 (by first | assumption | rfl | exact y1 _ | exact y3 _ | exact va_up_self _ _ _) (by first | assumption | rfl | exact y1 _ | exact y3 _ | exact va_up_self _ _ _) ?_
  show mW _ _ _ _ _ _ _ _ (.ref _ :: _)
  refine m_iload_n dX8_divides_27 rfl ?_
  refine m_laload (k := 4) dX8_divides_28 (by first | assumption | rfl | exact y1 _ | exact y3 _ | exact va_up_self _ _ _) ⟨by decide, by decide⟩ ?_
  refine m_cl (v := lZ (A 4)) (hU 4 (by decide)) ?_
  refine m_lstore dX8_divides_29 (by decide) ?_
  show mW _ _ _ _ _ _ 31 [_, _, _, _, _, _, _, _, _] _
  refine m_aload_n dX8_divides_31 rfl ?_
  refine m_getfield dX8_divides_32 fl_X8_51 (by first | assumption | rfl | exact y1 _ | exact y3 _ | exact va_up_self _ _ _) (by first | assumption | rfl | exact y1 _ | exact y3 _ | exact va_up_self _ _ _) ?_
  show mW _ _ _ _ _ _ _ _ (.ref _ :: _)
  refine m_iload_n dX8_divides_35 rfl ?_
  refine m_iload_n dX8_divides_36 rfl ?_
  refine m_iadd dX8_divides_37 ?_
  refine m_ci (v := nI (5 * q + 3)) (by exact nI_add (5 * q) 3) ?_
  refine m_laload dX8_divides_38 (by first | assumption | rfl | exact y1 _ | exact y3 _ | exact va_up_self _ _ _) (mIx_lit (show 5 * q + 3 < 40 by omega) (by decide)) ?_
  refine m_cl (v := lZ (B 3)) (hR 3 (by decide)) ?_
  refine m_lstore dX8_divides_39 (by decide) ?_
  show mW _ _ _ _ _ _ 41 [_, _, _, _, _, _, _, _, _] _
  refine m_iconst (v := 0) dX8_divides_41 (by decide) ?_
  refine m_istore dX8_divides_42 (by decide) ?_
  show mW _ _ _ _ _ _ 44 [_, _, _, _, _, _, _, _, _] _
  refine m_iload dX8_divides_44 rfl ?_
  refine m_iconst (v := 5) dX8_divides_46 (by decide) ?_
  refine m_icmp_ge (t := 81) dX8_divides_47 (by decide) (fun q => absurd q (by decide)) (fun _ => ?_)
  refine m_aload_n dX8_divides_50 rfl ?_
  refine m_getfield dX8_divides_51 fl_X8_54 (by first | assumption | rfl | exact y1 _ | exact y3 _ | exact va_up_self _ _ _) (by first | assumption | rfl | exact y1 _ | exact y3 _ | exact va_up_self _ _ _) ?_
  show mW _ _ _ _ _ _ _ _ (.ref _ :: _)
  refine m_iload dX8_divides_54 rfl ?_
  refine m_dup2 dX8_divides_56 rfl rfl ?_
  refine m_laload (k := 0) dX8_divides_57 (by first | assumption | rfl | exact y1 _ | exact y3 _ | exact va_up_self _ _ _) ⟨by decide, by decide⟩ ?_
  refine m_cl (v := lZ (A 0)) (hU 0 (by decide)) ?_
  refine m_lload dX8_divides_58 rfl ?_
  refine m_lconst (v := 0) dX8_divides_60 (by decide) ?_
  refine m_tern_L (J := 73) (x := -lZ (B 3)) (y := lZ (B 3)) (m_lc_le (t := 70) dX8_divides_61 dX8_divides_62 (by decide)) (fun k9 => ?_) (fun k9 => ?_) ?_
  · refine m_lload dX8_divides_70 rfl ?_
    refine m_lneg dX8_divides_72 ?_
    exact k9
  · refine m_lload dX8_divides_65 rfl ?_
    refine m_goto (t := 73) dX8_divides_67 (by decide) ?_
    exact k9
  refine m_cl (v := lZ (((B 3).natAbs : Nat) : Int)) (lZ_absM hBb) ?_
  refine m_lmul dX8_divides_73 ?_
  refine m_cl (v := lZ (A 0 * ((B 3).natAbs : Int))) (lZ_mul _ _) ?_
  refine m_lastore (k := 0) dX8_divides_74 (by first | assumption | rfl | exact y1 _ | exact y3 _ | exact va_up_self _ _ _) ⟨by decide, by decide⟩ ?_
  try rw [va_uu]
  refine m_iinc (v := 1) dX8_divides_75 rfl (by decide) (by decide) ?_
  show mW _ _ _ _ _ _ 78 [_, _, _, _, _, _, _, _, _] _
  refine m_goto (t := 44) dX8_divides_78 (by decide) ?_
  refine m_iload dX8_divides_44 rfl ?_
  refine m_iconst (v := 5) dX8_divides_46 (by decide) ?_
  refine m_icmp_ge (t := 81) dX8_divides_47 (by decide) (fun q => absurd q (by decide)) (fun _ => ?_)
  refine m_aload_n dX8_divides_50 rfl ?_
  refine m_getfield dX8_divides_51 fl_X8_54 (by first | assumption | rfl | exact y1 _ | exact y3 _ | exact va_up_self _ _ _) (by first | assumption | rfl | exact y1 _ | exact y3 _ | exact va_up_self _ _ _) ?_
  show mW _ _ _ _ _ _ _ _ (.ref _ :: _)
  refine m_iload dX8_divides_54 rfl ?_
  refine m_dup2 dX8_divides_56 rfl rfl ?_
  refine m_laload (k := 1) dX8_divides_57 (by first | assumption | rfl | exact y1 _ | exact y3 _ | exact va_up_self _ _ _) ⟨by decide, by decide⟩ ?_
  refine m_cl (v := lZ (A 1)) (hU 1 (by decide)) ?_
  refine m_lload dX8_divides_58 rfl ?_
  refine m_lconst (v := 0) dX8_divides_60 (by decide) ?_
  refine m_tern_L (J := 73) (x := -lZ (B 3)) (y := lZ (B 3)) (m_lc_le (t := 70) dX8_divides_61 dX8_divides_62 (by decide)) (fun k9 => ?_) (fun k9 => ?_) ?_
  · refine m_lload dX8_divides_70 rfl ?_
    refine m_lneg dX8_divides_72 ?_
    exact k9
  · refine m_lload dX8_divides_65 rfl ?_
    refine m_goto (t := 73) dX8_divides_67 (by decide) ?_
    exact k9
  refine m_cl (v := lZ (((B 3).natAbs : Nat) : Int)) (lZ_absM hBb) ?_
  refine m_lmul dX8_divides_73 ?_
  refine m_cl (v := lZ (A 1 * ((B 3).natAbs : Int))) (lZ_mul _ _) ?_
  refine m_lastore (k := 1) dX8_divides_74 (by first | assumption | rfl | exact y1 _ | exact y3 _ | exact va_up_self _ _ _) ⟨by decide, by decide⟩ ?_
  try rw [va_uu]
  refine m_iinc (v := 2) dX8_divides_75 rfl (by decide) (by decide) ?_
  show mW _ _ _ _ _ _ 78 [_, _, _, _, _, _, _, _, _] _
  refine m_goto (t := 44) dX8_divides_78 (by decide) ?_
  refine m_iload dX8_divides_44 rfl ?_
  refine m_iconst (v := 5) dX8_divides_46 (by decide) ?_
  refine m_icmp_ge (t := 81) dX8_divides_47 (by decide) (fun q => absurd q (by decide)) (fun _ => ?_)
  refine m_aload_n dX8_divides_50 rfl ?_
  refine m_getfield dX8_divides_51 fl_X8_54 (by first | assumption | rfl | exact y1 _ | exact y3 _ | exact va_up_self _ _ _) (by first | assumption | rfl | exact y1 _ | exact y3 _ | exact va_up_self _ _ _) ?_
  show mW _ _ _ _ _ _ _ _ (.ref _ :: _)
  refine m_iload dX8_divides_54 rfl ?_
  refine m_dup2 dX8_divides_56 rfl rfl ?_
  refine m_laload (k := 2) dX8_divides_57 (by first | assumption | rfl | exact y1 _ | exact y3 _ | exact va_up_self _ _ _) ⟨by decide, by decide⟩ ?_
  refine m_cl (v := lZ (A 2)) (hU 2 (by decide)) ?_
  refine m_lload dX8_divides_58 rfl ?_
  refine m_lconst (v := 0) dX8_divides_60 (by decide) ?_
  refine m_tern_L (J := 73) (x := -lZ (B 3)) (y := lZ (B 3)) (m_lc_le (t := 70) dX8_divides_61 dX8_divides_62 (by decide)) (fun k9 => ?_) (fun k9 => ?_) ?_
  · refine m_lload dX8_divides_70 rfl ?_
    refine m_lneg dX8_divides_72 ?_
    exact k9
  · refine m_lload dX8_divides_65 rfl ?_
    refine m_goto (t := 73) dX8_divides_67 (by decide) ?_
    exact k9
  refine m_cl (v := lZ (((B 3).natAbs : Nat) : Int)) (lZ_absM hBb) ?_
  refine m_lmul dX8_divides_73 ?_
  refine m_cl (v := lZ (A 2 * ((B 3).natAbs : Int))) (lZ_mul _ _) ?_
  refine m_lastore (k := 2) dX8_divides_74 (by first | assumption | rfl | exact y1 _ | exact y3 _ | exact va_up_self _ _ _) ⟨by decide, by decide⟩ ?_
  try rw [va_uu]
  refine m_iinc (v := 3) dX8_divides_75 rfl (by decide) (by decide) ?_
  show mW _ _ _ _ _ _ 78 [_, _, _, _, _, _, _, _, _] _
  refine m_goto (t := 44) dX8_divides_78 (by decide) ?_
  refine m_iload dX8_divides_44 rfl ?_
  refine m_iconst (v := 5) dX8_divides_46 (by decide) ?_
  refine m_icmp_ge (t := 81) dX8_divides_47 (by decide) (fun q => absurd q (by decide)) (fun _ => ?_)
  refine m_aload_n dX8_divides_50 rfl ?_
  refine m_getfield dX8_divides_51 fl_X8_54 (by first | assumption | rfl | exact y1 _ | exact y3 _ | exact va_up_self _ _ _) (by first | assumption | rfl | exact y1 _ | exact y3 _ | exact va_up_self _ _ _) ?_
  show mW _ _ _ _ _ _ _ _ (.ref _ :: _)
  refine m_iload dX8_divides_54 rfl ?_
  refine m_dup2 dX8_divides_56 rfl rfl ?_
  refine m_laload (k := 3) dX8_divides_57 (by first | assumption | rfl | exact y1 _ | exact y3 _ | exact va_up_self _ _ _) ⟨by decide, by decide⟩ ?_
  refine m_cl (v := lZ (A 3)) (hU 3 (by decide)) ?_
  refine m_lload dX8_divides_58 rfl ?_
  refine m_lconst (v := 0) dX8_divides_60 (by decide) ?_
  refine m_tern_L (J := 73) (x := -lZ (B 3)) (y := lZ (B 3)) (m_lc_le (t := 70) dX8_divides_61 dX8_divides_62 (by decide)) (fun k9 => ?_) (fun k9 => ?_) ?_
  · refine m_lload dX8_divides_70 rfl ?_
    refine m_lneg dX8_divides_72 ?_
    exact k9
  · refine m_lload dX8_divides_65 rfl ?_
    refine m_goto (t := 73) dX8_divides_67 (by decide) ?_
    exact k9
  refine m_cl (v := lZ (((B 3).natAbs : Nat) : Int)) (lZ_absM hBb) ?_
  refine m_lmul dX8_divides_73 ?_
  refine m_cl (v := lZ (A 3 * ((B 3).natAbs : Int))) (lZ_mul _ _) ?_
  refine m_lastore (k := 3) dX8_divides_74 (by first | assumption | rfl | exact y1 _ | exact y3 _ | exact va_up_self _ _ _) ⟨by decide, by decide⟩ ?_
  try rw [va_uu]
  refine m_iinc (v := 4) dX8_divides_75 rfl (by decide) (by decide) ?_
  show mW _ _ _ _ _ _ 78 [_, _, _, _, _, _, _, _, _] _
  refine m_goto (t := 44) dX8_divides_78 (by decide) ?_
  refine m_iload dX8_divides_44 rfl ?_
  refine m_iconst (v := 5) dX8_divides_46 (by decide) ?_
  refine m_icmp_ge (t := 81) dX8_divides_47 (by decide) (fun q => absurd q (by decide)) (fun _ => ?_)
  refine m_aload_n dX8_divides_50 rfl ?_
  refine m_getfield dX8_divides_51 fl_X8_54 (by first | assumption | rfl | exact y1 _ | exact y3 _ | exact va_up_self _ _ _) (by first | assumption | rfl | exact y1 _ | exact y3 _ | exact va_up_self _ _ _) ?_
  show mW _ _ _ _ _ _ _ _ (.ref _ :: _)
  refine m_iload dX8_divides_54 rfl ?_
  refine m_dup2 dX8_divides_56 rfl rfl ?_
  refine m_laload (k := 4) dX8_divides_57 (by first | assumption | rfl | exact y1 _ | exact y3 _ | exact va_up_self _ _ _) ⟨by decide, by decide⟩ ?_
  refine m_cl (v := lZ (A 4)) (hU 4 (by decide)) ?_
  refine m_lload dX8_divides_58 rfl ?_
  refine m_lconst (v := 0) dX8_divides_60 (by decide) ?_
  refine m_tern_L (J := 73) (x := -lZ (B 3)) (y := lZ (B 3)) (m_lc_le (t := 70) dX8_divides_61 dX8_divides_62 (by decide)) (fun k9 => ?_) (fun k9 => ?_) ?_
  · refine m_lload dX8_divides_70 rfl ?_
    refine m_lneg dX8_divides_72 ?_
    exact k9
  · refine m_lload dX8_divides_65 rfl ?_
    refine m_goto (t := 73) dX8_divides_67 (by decide) ?_
    exact k9
  refine m_cl (v := lZ (((B 3).natAbs : Nat) : Int)) (lZ_absM hBb) ?_
  refine m_lmul dX8_divides_73 ?_
  refine m_cl (v := lZ (A 4 * ((B 3).natAbs : Int))) (lZ_mul _ _) ?_
  refine m_lastore (k := 4) dX8_divides_74 (by first | assumption | rfl | exact y1 _ | exact y3 _ | exact va_up_self _ _ _) ⟨by decide, by decide⟩ ?_
  try rw [va_uu]
  refine m_iinc (v := 5) dX8_divides_75 rfl (by decide) (by decide) ?_
  show mW _ _ _ _ _ _ 78 [_, _, _, _, _, _, _, _, _] _
  refine m_goto (t := 44) dX8_divides_78 (by decide) ?_
  refine m_iload dX8_divides_44 rfl ?_
  refine m_iconst (v := 5) dX8_divides_46 (by decide) ?_
  refine m_icmp_ge (t := 81) dX8_divides_47 (by decide) (fun _ => ?_) (fun q => absurd (by decide) q)
  refine m_iconst (v := 0) dX8_divides_81 (by decide) ?_
  refine m_istore dX8_divides_82 (by decide) ?_
  show mW _ _ _ _ _ _ 84 [_, _, _, _, _, _, _, _, _] _
  refine m_iload dX8_divides_84 rfl ?_
  refine m_iload_n dX8_divides_86 rfl ?_
  refine m_icmp_gt (t := 135) dX8_divides_87 (by decide) (fun q => absurd q (by decide)) (fun _ => ?_)
  refine m_aload_n dX8_divides_90 rfl ?_
  refine m_getfield dX8_divides_91 fl_X8_54 (by first | assumption | rfl | exact y1 _ | exact y3 _ | exact va_up_self _ _ _) (by first | assumption | rfl | exact y1 _ | exact y3 _ | exact va_up_self _ _ _) ?_
  show mW _ _ _ _ _ _ _ _ (.ref _ :: _)
  refine m_iload dX8_divides_94 rfl ?_
  refine m_iload_n dX8_divides_96 rfl ?_
  refine m_iadd dX8_divides_97 ?_
  refine m_ci (v := 4) (by decide) ?_
  refine m_iload_n dX8_divides_98 rfl ?_
  refine m_isub dX8_divides_99 ?_
  refine m_ci (v := 1) (by decide) ?_
  refine m_dup2 dX8_divides_100 rfl rfl ?_
  refine m_laload (k := 1) dX8_divides_101 (by first | assumption | rfl | exact y1 _ | exact y3 _ | exact va_up_self _ _ _) ⟨by decide, by decide⟩ ?_
  refine m_cl (v := lZ (A 1 * ((B 3).natAbs : Int))) rfl ?_
  refine m_lload dX8_divides_102 rfl ?_
  refine m_lconst (v := 0) dX8_divides_104 (by decide) ?_
  refine m_tern_L (J := 117) (x := -lZ (A 4)) (y := lZ (A 4)) (m_lc_le (t := 114) dX8_divides_105 dX8_divides_106 (by decide)) (fun k9 => ?_) (fun k9 => ?_) ?_
  · refine m_lload dX8_divides_114 rfl ?_
    refine m_lneg dX8_divides_116 ?_
    exact k9
  · refine m_lload dX8_divides_109 rfl ?_
    refine m_goto (t := 117) dX8_divides_111 (by decide) ?_
    exact k9
  refine m_cl (v := lZ (strikeT A 4 B 3)) (strikeM hBb hB0) ?_
  refine m_aload_n dX8_divides_117 rfl ?_
  refine m_getfield dX8_divides_118 fl_X8_51 (by first | assumption | rfl | exact y1 _ | exact y3 _ | exact va_up_self _ _ _) (by first | assumption | rfl | exact y1 _ | exact y3 _ | exact va_up_self _ _ _) ?_
  show mW _ _ _ _ _ _ _ _ (.ref _ :: _)
  refine m_iload_n dX8_divides_121 rfl ?_
  refine m_iload dX8_divides_122 rfl ?_
  refine m_iadd dX8_divides_124 ?_
  refine m_ci (v := nI (5 * q + 0)) (by exact nI_add (5 * q) 0) ?_
  refine m_laload dX8_divides_125 (by first | assumption | rfl | exact y1 _ | exact y3 _ | exact va_up_self _ _ _) (mIx_lit (show 5 * q + 0 < 40 by omega) (by decide)) ?_
  refine m_cl (v := lZ (B 0)) (hR 0 (by decide)) ?_
  refine m_lmul dX8_divides_126 ?_
  refine m_cl (v := lZ (strikeT A 4 B 3 * B 0)) (lZ_mul _ _) ?_
  refine m_lsub dX8_divides_127 ?_
  refine m_cl (v := lZ (A 1 * ((B 3).natAbs : Int) - strikeT A 4 B 3 * B 0)) (lZ_sub _ _) ?_
  refine m_lastore (k := 1) dX8_divides_128 (by first | assumption | rfl | exact y1 _ | exact y3 _ | exact va_up_self _ _ _) ⟨by decide, by decide⟩ ?_
  try rw [va_uu]
  refine m_iinc (v := 1) dX8_divides_129 rfl (by decide) (by decide) ?_
  show mW _ _ _ _ _ _ 132 [_, _, _, _, _, _, _, _, _] _
  refine m_goto (t := 84) dX8_divides_132 (by decide) ?_
  refine m_iload dX8_divides_84 rfl ?_
  refine m_iload_n dX8_divides_86 rfl ?_
  refine m_icmp_gt (t := 135) dX8_divides_87 (by decide) (fun q => absurd q (by decide)) (fun _ => ?_)
  refine m_aload_n dX8_divides_90 rfl ?_
  refine m_getfield dX8_divides_91 fl_X8_54 (by first | assumption | rfl | exact y1 _ | exact y3 _ | exact va_up_self _ _ _) (by first | assumption | rfl | exact y1 _ | exact y3 _ | exact va_up_self _ _ _) ?_
  show mW _ _ _ _ _ _ _ _ (.ref _ :: _)
  refine m_iload dX8_divides_94 rfl ?_
  refine m_iload_n dX8_divides_96 rfl ?_
  refine m_iadd dX8_divides_97 ?_
  refine m_ci (v := 5) (by decide) ?_
  refine m_iload_n dX8_divides_98 rfl ?_
  refine m_isub dX8_divides_99 ?_
  refine m_ci (v := 2) (by decide) ?_
  refine m_dup2 dX8_divides_100 rfl rfl ?_
  refine m_laload (k := 2) dX8_divides_101 (by first | assumption | rfl | exact y1 _ | exact y3 _ | exact va_up_self _ _ _) ⟨by decide, by decide⟩ ?_
  refine m_cl (v := lZ (A 2 * ((B 3).natAbs : Int))) rfl ?_
  refine m_lload dX8_divides_102 rfl ?_
  refine m_lconst (v := 0) dX8_divides_104 (by decide) ?_
  refine m_tern_L (J := 117) (x := -lZ (A 4)) (y := lZ (A 4)) (m_lc_le (t := 114) dX8_divides_105 dX8_divides_106 (by decide)) (fun k9 => ?_) (fun k9 => ?_) ?_
  · refine m_lload dX8_divides_114 rfl ?_
    refine m_lneg dX8_divides_116 ?_
    exact k9
  · refine m_lload dX8_divides_109 rfl ?_
    refine m_goto (t := 117) dX8_divides_111 (by decide) ?_
    exact k9
  refine m_cl (v := lZ (strikeT A 4 B 3)) (strikeM hBb hB0) ?_
  refine m_aload_n dX8_divides_117 rfl ?_
  refine m_getfield dX8_divides_118 fl_X8_51 (by first | assumption | rfl | exact y1 _ | exact y3 _ | exact va_up_self _ _ _) (by first | assumption | rfl | exact y1 _ | exact y3 _ | exact va_up_self _ _ _) ?_
  show mW _ _ _ _ _ _ _ _ (.ref _ :: _)
  refine m_iload_n dX8_divides_121 rfl ?_
  refine m_iload dX8_divides_122 rfl ?_
  refine m_iadd dX8_divides_124 ?_
  refine m_ci (v := nI (5 * q + 1)) (by exact nI_add (5 * q) 1) ?_
  refine m_laload dX8_divides_125 (by first | assumption | rfl | exact y1 _ | exact y3 _ | exact va_up_self _ _ _) (mIx_lit (show 5 * q + 1 < 40 by omega) (by decide)) ?_
  refine m_cl (v := lZ (B 1)) (hR 1 (by decide)) ?_
  refine m_lmul dX8_divides_126 ?_
  refine m_cl (v := lZ (strikeT A 4 B 3 * B 1)) (lZ_mul _ _) ?_
  refine m_lsub dX8_divides_127 ?_
  refine m_cl (v := lZ (A 2 * ((B 3).natAbs : Int) - strikeT A 4 B 3 * B 1)) (lZ_sub _ _) ?_
  refine m_lastore (k := 2) dX8_divides_128 (by first | assumption | rfl | exact y1 _ | exact y3 _ | exact va_up_self _ _ _) ⟨by decide, by decide⟩ ?_
  try rw [va_uu]
  refine m_iinc (v := 2) dX8_divides_129 rfl (by decide) (by decide) ?_
  show mW _ _ _ _ _ _ 132 [_, _, _, _, _, _, _, _, _] _
  refine m_goto (t := 84) dX8_divides_132 (by decide) ?_
  refine m_iload dX8_divides_84 rfl ?_
  refine m_iload_n dX8_divides_86 rfl ?_
  refine m_icmp_gt (t := 135) dX8_divides_87 (by decide) (fun q => absurd q (by decide)) (fun _ => ?_)
  refine m_aload_n dX8_divides_90 rfl ?_
  refine m_getfield dX8_divides_91 fl_X8_54 (by first | assumption | rfl | exact y1 _ | exact y3 _ | exact va_up_self _ _ _) (by first | assumption | rfl | exact y1 _ | exact y3 _ | exact va_up_self _ _ _) ?_
  show mW _ _ _ _ _ _ _ _ (.ref _ :: _)
  refine m_iload dX8_divides_94 rfl ?_
  refine m_iload_n dX8_divides_96 rfl ?_
  refine m_iadd dX8_divides_97 ?_
  refine m_ci (v := 6) (by decide) ?_
  refine m_iload_n dX8_divides_98 rfl ?_
  refine m_isub dX8_divides_99 ?_
  refine m_ci (v := 3) (by decide) ?_
  refine m_dup2 dX8_divides_100 rfl rfl ?_
  refine m_laload (k := 3) dX8_divides_101 (by first | assumption | rfl | exact y1 _ | exact y3 _ | exact va_up_self _ _ _) ⟨by decide, by decide⟩ ?_
  refine m_cl (v := lZ (A 3 * ((B 3).natAbs : Int))) rfl ?_
  refine m_lload dX8_divides_102 rfl ?_
  refine m_lconst (v := 0) dX8_divides_104 (by decide) ?_
  refine m_tern_L (J := 117) (x := -lZ (A 4)) (y := lZ (A 4)) (m_lc_le (t := 114) dX8_divides_105 dX8_divides_106 (by decide)) (fun k9 => ?_) (fun k9 => ?_) ?_
  · refine m_lload dX8_divides_114 rfl ?_
    refine m_lneg dX8_divides_116 ?_
    exact k9
  · refine m_lload dX8_divides_109 rfl ?_
    refine m_goto (t := 117) dX8_divides_111 (by decide) ?_
    exact k9
  refine m_cl (v := lZ (strikeT A 4 B 3)) (strikeM hBb hB0) ?_
  refine m_aload_n dX8_divides_117 rfl ?_
  refine m_getfield dX8_divides_118 fl_X8_51 (by first | assumption | rfl | exact y1 _ | exact y3 _ | exact va_up_self _ _ _) (by first | assumption | rfl | exact y1 _ | exact y3 _ | exact va_up_self _ _ _) ?_
  show mW _ _ _ _ _ _ _ _ (.ref _ :: _)
  refine m_iload_n dX8_divides_121 rfl ?_
  refine m_iload dX8_divides_122 rfl ?_
  refine m_iadd dX8_divides_124 ?_
  refine m_ci (v := nI (5 * q + 2)) (by exact nI_add (5 * q) 2) ?_
  refine m_laload dX8_divides_125 (by first | assumption | rfl | exact y1 _ | exact y3 _ | exact va_up_self _ _ _) (mIx_lit (show 5 * q + 2 < 40 by omega) (by decide)) ?_
  refine m_cl (v := lZ (B 2)) (hR 2 (by decide)) ?_
  refine m_lmul dX8_divides_126 ?_
  refine m_cl (v := lZ (strikeT A 4 B 3 * B 2)) (lZ_mul _ _) ?_
  refine m_lsub dX8_divides_127 ?_
  refine m_cl (v := lZ (A 3 * ((B 3).natAbs : Int) - strikeT A 4 B 3 * B 2)) (lZ_sub _ _) ?_
  refine m_lastore (k := 3) dX8_divides_128 (by first | assumption | rfl | exact y1 _ | exact y3 _ | exact va_up_self _ _ _) ⟨by decide, by decide⟩ ?_
  try rw [va_uu]
  refine m_iinc (v := 3) dX8_divides_129 rfl (by decide) (by decide) ?_
  show mW _ _ _ _ _ _ 132 [_, _, _, _, _, _, _, _, _] _
  refine m_goto (t := 84) dX8_divides_132 (by decide) ?_
  refine m_iload dX8_divides_84 rfl ?_
  refine m_iload_n dX8_divides_86 rfl ?_
  refine m_icmp_gt (t := 135) dX8_divides_87 (by decide) (fun q => absurd q (by decide)) (fun _ => ?_)
  refine m_aload_n dX8_divides_90 rfl ?_
  refine m_getfield dX8_divides_91 fl_X8_54 (by first | assumption | rfl | exact y1 _ | exact y3 _ | exact va_up_self _ _ _) (by first | assumption | rfl | exact y1 _ | exact y3 _ | exact va_up_self _ _ _) ?_
  show mW _ _ _ _ _ _ _ _ (.ref _ :: _)
  refine m_iload dX8_divides_94 rfl ?_
  refine m_iload_n dX8_divides_96 rfl ?_
  refine m_iadd dX8_divides_97 ?_
  refine m_ci (v := 7) (by decide) ?_
  refine m_iload_n dX8_divides_98 rfl ?_
  refine m_isub dX8_divides_99 ?_
  refine m_ci (v := 4) (by decide) ?_
  refine m_dup2 dX8_divides_100 rfl rfl ?_
  refine m_laload (k := 4) dX8_divides_101 (by first | assumption | rfl | exact y1 _ | exact y3 _ | exact va_up_self _ _ _) ⟨by decide, by decide⟩ ?_
  refine m_cl (v := lZ (A 4 * ((B 3).natAbs : Int))) rfl ?_
  refine m_lload dX8_divides_102 rfl ?_
  refine m_lconst (v := 0) dX8_divides_104 (by decide) ?_
  refine m_tern_L (J := 117) (x := -lZ (A 4)) (y := lZ (A 4)) (m_lc_le (t := 114) dX8_divides_105 dX8_divides_106 (by decide)) (fun k9 => ?_) (fun k9 => ?_) ?_
  · refine m_lload dX8_divides_114 rfl ?_
    refine m_lneg dX8_divides_116 ?_
    exact k9
  · refine m_lload dX8_divides_109 rfl ?_
    refine m_goto (t := 117) dX8_divides_111 (by decide) ?_
    exact k9
  refine m_cl (v := lZ (strikeT A 4 B 3)) (strikeM hBb hB0) ?_
  refine m_aload_n dX8_divides_117 rfl ?_
  refine m_getfield dX8_divides_118 fl_X8_51 (by first | assumption | rfl | exact y1 _ | exact y3 _ | exact va_up_self _ _ _) (by first | assumption | rfl | exact y1 _ | exact y3 _ | exact va_up_self _ _ _) ?_
  show mW _ _ _ _ _ _ _ _ (.ref _ :: _)
  refine m_iload_n dX8_divides_121 rfl ?_
  refine m_iload dX8_divides_122 rfl ?_
  refine m_iadd dX8_divides_124 ?_
  refine m_ci (v := nI (5 * q + 3)) (by exact nI_add (5 * q) 3) ?_
  refine m_laload dX8_divides_125 (by first | assumption | rfl | exact y1 _ | exact y3 _ | exact va_up_self _ _ _) (mIx_lit (show 5 * q + 3 < 40 by omega) (by decide)) ?_
  refine m_cl (v := lZ (B 3)) (hR 3 (by decide)) ?_
  refine m_lmul dX8_divides_126 ?_
  refine m_cl (v := lZ (strikeT A 4 B 3 * B 3)) (lZ_mul _ _) ?_
  refine m_lsub dX8_divides_127 ?_
  refine m_cl (v := lZ (A 4 * ((B 3).natAbs : Int) - strikeT A 4 B 3 * B 3)) (lZ_sub _ _) ?_
  refine m_lastore (k := 4) dX8_divides_128 (by first | assumption | rfl | exact y1 _ | exact y3 _ | exact va_up_self _ _ _) ⟨by decide, by decide⟩ ?_
  try rw [va_uu]
  refine m_iinc (v := 4) dX8_divides_129 rfl (by decide) (by decide) ?_
  show mW _ _ _ _ _ _ 132 [_, _, _, _, _, _, _, _, _] _
  refine m_goto (t := 84) dX8_divides_132 (by decide) ?_
  refine m_iload dX8_divides_84 rfl ?_
  refine m_iload_n dX8_divides_86 rfl ?_
  refine m_icmp_gt (t := 135) dX8_divides_87 (by decide) (fun _ => ?_) (fun q => absurd (by decide) q)
  have hSW : ∀ j, j < 5 → (va_up (va_up (va_up (va_up (va_up (va_up (va_up (va_up (va_up (U) 0 (lZ (A 0 * ((B 3).natAbs : Int)))) 1 (lZ (A 1 * ((B 3).natAbs : Int)))) 2 (lZ (A 2 * ((B 3).natAbs : Int)))) 3 (lZ (A 3 * ((B 3).natAbs : Int)))) 4 (lZ (A 4 * ((B 3).natAbs : Int)))) 1 (lZ (A 1 * ((B 3).natAbs : Int) - strikeT A 4 B 3 * B 0))) 2 (lZ (A 2 * ((B 3).natAbs : Int) - strikeT A 4 B 3 * B 1))) 3 (lZ (A 3 * ((B 3).natAbs : Int) - strikeT A 4 B 3 * B 2))) 4 (lZ (A 4 * ((B 3).natAbs : Int) - strikeT A 4 B 3 * B 3))) j = lZ (strikeZ A 4 B 3 j) := fun j hj => by
        rcases lt5 hj with rfl | rfl | rfl | rfl | rfl
        · rw [strike_n hA (by decide)]
          rfl
        · rw [strike_y hA (by decide)]
          rfl
        · rw [strike_y hA (by decide)]
          rfl
        · rw [strike_y hA (by decide)]
          rfl
        · rw [strike_y hA (by decide)]
          rfl
  refine m_aload_n dX8_divides_135 rfl ?_
  refine m_invV dX8_divides_136 lk_X8_180 ar_X8_shortens (ci := 8) rfl rfl (by first | assumption | rfl | exact y1 _ | exact y3 _ | exact va_up_self _ _ _) (t_X8_shortens (y1 _) (va_up_self _ _ _) hSW hs) rfl (Nat.le_of_ble_eq_true rfl) (by decide) (by decide) (by decide) (by decide) (fun v hp' q9 => ?_)
  obtain ⟨rfl, U', rfl, hU'⟩ := q9
  rw [va_uu]
  show mW K _ 0 0 n _ 139 [_, _, _, _, _, _, _, _, _] []
  refine m_aload_n dX8_divides_139 rfl ?_
  refine m_getfield dX8_divides_140 fl_X8_54 (by first | assumption | rfl | exact y1 _ | exact y3 _ | exact va_up_self _ _ _) (by first | assumption | rfl | exact y1 _ | exact y3 _ | exact va_up_self _ _ _) ?_
  show mW _ _ _ _ _ _ _ _ (.ref _ :: _)
  refine m_iconst (v := 0) dX8_divides_143 (by decide) ?_
  refine m_invS_I dX8_divides_144 lk_X8_118 ar_X8_degree (t_X8_degree (at_ := 0) (va_up_self _ _ _) (by decide) (by decide)) rfl (Nat.le_of_ble_eq_true rfl) (by decide) (by decide) (by decide) (by decide) rfl rfl ?_
  try rw [va_uu]
  refine m_ci (v := orN (dgZ (low5 (strikeZ A 4 B 3)))) (by rw [deg5_Z (z := low5 (strikeZ A 4 B 3)) (fun j hj => by rw [Nat.zero_add]; exact hU' j hj) (low5_bd hs)]) ?_
  refine m_istore_n dX8_divides_147 (by decide) ?_
  show mW _ _ _ _ _ _ 148 [_, _, _, _, _, _, _, _, _] _
  refine m_goto (t := 18) dX8_divides_148 (by decide) ?_
  exact hk9 U' _ _ _ _ _ hU'

set_option maxHeartbeats 400000 in
set_option maxRecDepth 100000 in
theorem l_X8_div_3_0 {n : Nat} {hp : mHp} {ac ia tm ri ev le ch ls rm sm ra fa : Int32} (h1 : hp 67 = eO 8 (oMod ac ia tm ri ev le ch ls rm sm ra fa)) {q : Nat} {U R : Nat → Int64} {A B : Nat → Int} (h2 : hp 81 = eL 5 U) (h3 : hp 80 = eL 40 R) (hq : q < 8) (hU : ∀ j, j < 5 → U j = lZ (A j)) (hR : ∀ j, j < 5 → R (5 * q + j) = lZ (B j)) (hA : A 3 ≠ 0) (hB0 : B 0 ≠ 0) (hBb : bdZ (B 0)) (hs : ∀ j, j < 5 → bdZ (strikeZ A 3 B 0 j)) {K : mK} {v4 v5 v6 v7 v8 : Value} (hk9 : ∀ (U' : Nat → Int64) (v4 v5 v6 v7 v8 : Value), (∀ j, j < 5 → U' j = lZ (low5 (strikeZ A 3 B 0) j)) → mW K D_X8_divides 0 0 n (va_up hp 81 (eL 5 U')) 18 [.ref 67, .int (nI (5 * q)), .int 0, .int (orN (dgZ (low5 (strikeZ A 3 B 0)))), v4, v5, v6, v7, v8] []) : mW K D_X8_divides 0 0 n hp 18 [.ref 67, .int (nI (5 * q)), .int 0, .int 3, v4, v5, v6, v7, v8] [] := by
  have y1 : ∀ f : mE, va_up hp 81 f 67 = _ := fun f => (va_up_ne _ _ (by decide)).trans h1
  have y3 : ∀ f : mE, va_up hp 81 f 80 = eL 40 R := fun f => (va_up_ne _ _ (by decide)).trans h3
  refine m_iload_n dX8_divides_18 rfl ?_
  refine m_iload_n dX8_divides_19 rfl ?_
  refine m_icmp_lt (t := 151) dX8_divides_20 (by decide) (fun q => absurd q (by decide)) (fun _ => ?_)
  refine m_aload_n dX8_divides_23 rfl ?_
  refine m_getfield dX8_divides_24 fl_X8_54 (by first | assumption | rfl | exact y1 _ | exact y3 _ | exact va_up_self _ _ _) (by first | assumption | rfl | exact y1 _ | exact y3 _ | exact va_up_self _ _ _) ?_
  show mW _ _ _ _ _ _ _ _ (.ref _ :: _)
  refine m_iload_n dX8_divides_27 rfl ?_
  refine m_laload (k := 3) dX8_divides_28 (by first | assumption | rfl | exact y1 _ | exact y3 _ | exact va_up_self _ _ _) ⟨by decide, by decide⟩ ?_
  refine m_cl (v := lZ (A 3)) (hU 3 (by decide)) ?_
  refine m_lstore dX8_divides_29 (by decide) ?_
  show mW _ _ _ _ _ _ 31 [_, _, _, _, _, _, _, _, _] _
  refine m_aload_n dX8_divides_31 rfl ?_
  refine m_getfield dX8_divides_32 fl_X8_51 (by first | assumption | rfl | exact y1 _ | exact y3 _ | exact va_up_self _ _ _) (by first | assumption | rfl | exact y1 _ | exact y3 _ | exact va_up_self _ _ _) ?_
  show mW _ _ _ _ _ _ _ _ (.ref _ :: _)
  refine m_iload_n dX8_divides_35 rfl ?_
  refine m_iload_n dX8_divides_36 rfl ?_
  refine m_iadd dX8_divides_37 ?_
  refine m_ci (v := nI (5 * q + 0)) (by exact nI_add (5 * q) 0) ?_
  refine m_laload dX8_divides_38 (by first | assumption | rfl | exact y1 _ | exact y3 _ | exact va_up_self _ _ _) (mIx_lit (show 5 * q + 0 < 40 by omega) (by decide)) ?_
  refine m_cl (v := lZ (B 0)) (hR 0 (by decide)) ?_
  refine m_lstore dX8_divides_39 (by decide) ?_
  show mW _ _ _ _ _ _ 41 [_, _, _, _, _, _, _, _, _] _
  refine m_iconst (v := 0) dX8_divides_41 (by decide) ?_
  refine m_istore dX8_divides_42 (by decide) ?_
  show mW _ _ _ _ _ _ 44 [_, _, _, _, _, _, _, _, _] _
  refine m_iload dX8_divides_44 rfl ?_
  refine m_iconst (v := 5) dX8_divides_46 (by decide) ?_
  refine m_icmp_ge (t := 81) dX8_divides_47 (by decide) (fun q => absurd q (by decide)) (fun _ => ?_)
  refine m_aload_n dX8_divides_50 rfl ?_
  refine m_getfield dX8_divides_51 fl_X8_54 (by first | assumption | rfl | exact y1 _ | exact y3 _ | exact va_up_self _ _ _) (by first | assumption | rfl | exact y1 _ | exact y3 _ | exact va_up_self _ _ _) ?_
  show mW _ _ _ _ _ _ _ _ (.ref _ :: _)
  refine m_iload dX8_divides_54 rfl ?_
  refine m_dup2 dX8_divides_56 rfl rfl ?_
  refine m_laload (k := 0) dX8_divides_57 (by first | assumption | rfl | exact y1 _ | exact y3 _ | exact va_up_self _ _ _) ⟨by decide, by decide⟩ ?_
  refine m_cl (v := lZ (A 0)) (hU 0 (by decide)) ?_
  refine m_lload dX8_divides_58 rfl ?_
  refine m_lconst (v := 0) dX8_divides_60 (by decide) ?_
  refine m_tern_L (J := 73) (x := -lZ (B 0)) (y := lZ (B 0)) (m_lc_le (t := 70) dX8_divides_61 dX8_divides_62 (by decide)) (fun k9 => ?_) (fun k9 => ?_) ?_
  · refine m_lload dX8_divides_70 rfl ?_
    refine m_lneg dX8_divides_72 ?_
    exact k9
  · refine m_lload dX8_divides_65 rfl ?_
    refine m_goto (t := 73) dX8_divides_67 (by decide) ?_
    exact k9
  refine m_cl (v := lZ (((B 0).natAbs : Nat) : Int)) (lZ_absM hBb) ?_
  refine m_lmul dX8_divides_73 ?_
  refine m_cl (v := lZ (A 0 * ((B 0).natAbs : Int))) (lZ_mul _ _) ?_
  refine m_lastore (k := 0) dX8_divides_74 (by first | assumption | rfl | exact y1 _ | exact y3 _ | exact va_up_self _ _ _) ⟨by decide, by decide⟩ ?_
  try rw [va_uu]
  refine m_iinc (v := 1) dX8_divides_75 rfl (by decide) (by decide) ?_
  show mW _ _ _ _ _ _ 78 [_, _, _, _, _, _, _, _, _] _
  refine m_goto (t := 44) dX8_divides_78 (by decide) ?_
  refine m_iload dX8_divides_44 rfl ?_
  refine m_iconst (v := 5) dX8_divides_46 (by decide) ?_
  refine m_icmp_ge (t := 81) dX8_divides_47 (by decide) (fun q => absurd q (by decide)) (fun _ => ?_)
  refine m_aload_n dX8_divides_50 rfl ?_
  refine m_getfield dX8_divides_51 fl_X8_54 (by first | assumption | rfl | exact y1 _ | exact y3 _ | exact va_up_self _ _ _) (by first | assumption | rfl | exact y1 _ | exact y3 _ | exact va_up_self _ _ _) ?_
  show mW _ _ _ _ _ _ _ _ (.ref _ :: _)
  refine m_iload dX8_divides_54 rfl ?_
  refine m_dup2 dX8_divides_56 rfl rfl ?_
  refine m_laload (k := 1) dX8_divides_57 (by first | assumption | rfl | exact y1 _ | exact y3 _ | exact va_up_self _ _ _) ⟨by decide, by decide⟩ ?_
  refine m_cl (v := lZ (A 1)) (hU 1 (by decide)) ?_
  refine m_lload dX8_divides_58 rfl ?_
  refine m_lconst (v := 0) dX8_divides_60 (by decide) ?_
  refine m_tern_L (J := 73) (x := -lZ (B 0)) (y := lZ (B 0)) (m_lc_le (t := 70) dX8_divides_61 dX8_divides_62 (by decide)) (fun k9 => ?_) (fun k9 => ?_) ?_
  · refine m_lload dX8_divides_70 rfl ?_
    refine m_lneg dX8_divides_72 ?_
    exact k9
  · refine m_lload dX8_divides_65 rfl ?_
    refine m_goto (t := 73) dX8_divides_67 (by decide) ?_
    exact k9
  refine m_cl (v := lZ (((B 0).natAbs : Nat) : Int)) (lZ_absM hBb) ?_
  refine m_lmul dX8_divides_73 ?_
  refine m_cl (v := lZ (A 1 * ((B 0).natAbs : Int))) (lZ_mul _ _) ?_
  refine m_lastore (k := 1) dX8_divides_74 (by first | assumption | rfl | exact y1 _ | exact y3 _ | exact va_up_self _ _ _) ⟨by decide, by decide⟩ ?_
  try rw [va_uu]
  refine m_iinc (v := 2) dX8_divides_75 rfl (by decide) (by decide) ?_
  show mW _ _ _ _ _ _ 78 [_, _, _, _, _, _, _, _, _] _
  refine m_goto (t := 44) dX8_divides_78 (by decide) ?_
  refine m_iload dX8_divides_44 rfl ?_
  refine m_iconst (v := 5) dX8_divides_46 (by decide) ?_
  refine m_icmp_ge (t := 81) dX8_divides_47 (by decide) (fun q => absurd q (by decide)) (fun _ => ?_)
  refine m_aload_n dX8_divides_50 rfl ?_
  refine m_getfield dX8_divides_51 fl_X8_54 (by first | assumption | rfl | exact y1 _ | exact y3 _ | exact va_up_self _ _ _) (by first | assumption | rfl | exact y1 _ | exact y3 _ | exact va_up_self _ _ _) ?_
  show mW _ _ _ _ _ _ _ _ (.ref _ :: _)
  refine m_iload dX8_divides_54 rfl ?_
  refine m_dup2 dX8_divides_56 rfl rfl ?_
  refine m_laload (k := 2) dX8_divides_57 (by first | assumption | rfl | exact y1 _ | exact y3 _ | exact va_up_self _ _ _) ⟨by decide, by decide⟩ ?_
  refine m_cl (v := lZ (A 2)) (hU 2 (by decide)) ?_
  refine m_lload dX8_divides_58 rfl ?_
  refine m_lconst (v := 0) dX8_divides_60 (by decide) ?_
  refine m_tern_L (J := 73) (x := -lZ (B 0)) (y := lZ (B 0)) (m_lc_le (t := 70) dX8_divides_61 dX8_divides_62 (by decide)) (fun k9 => ?_) (fun k9 => ?_) ?_
  · refine m_lload dX8_divides_70 rfl ?_
    refine m_lneg dX8_divides_72 ?_
    exact k9
  · refine m_lload dX8_divides_65 rfl ?_
    refine m_goto (t := 73) dX8_divides_67 (by decide) ?_
    exact k9
  refine m_cl (v := lZ (((B 0).natAbs : Nat) : Int)) (lZ_absM hBb) ?_
  refine m_lmul dX8_divides_73 ?_
  refine m_cl (v := lZ (A 2 * ((B 0).natAbs : Int))) (lZ_mul _ _) ?_
  refine m_lastore (k := 2) dX8_divides_74 (by first | assumption | rfl | exact y1 _ | exact y3 _ | exact va_up_self _ _ _) ⟨by decide, by decide⟩ ?_
  try rw [va_uu]
  refine m_iinc (v := 3) dX8_divides_75 rfl (by decide) (by decide) ?_
  show mW _ _ _ _ _ _ 78 [_, _, _, _, _, _, _, _, _] _
  refine m_goto (t := 44) dX8_divides_78 (by decide) ?_
  refine m_iload dX8_divides_44 rfl ?_
  refine m_iconst (v := 5) dX8_divides_46 (by decide) ?_
  refine m_icmp_ge (t := 81) dX8_divides_47 (by decide) (fun q => absurd q (by decide)) (fun _ => ?_)
  refine m_aload_n dX8_divides_50 rfl ?_
  refine m_getfield dX8_divides_51 fl_X8_54 (by first | assumption | rfl | exact y1 _ | exact y3 _ | exact va_up_self _ _ _) (by first | assumption | rfl | exact y1 _ | exact y3 _ | exact va_up_self _ _ _) ?_
  show mW _ _ _ _ _ _ _ _ (.ref _ :: _)
  refine m_iload dX8_divides_54 rfl ?_
  refine m_dup2 dX8_divides_56 rfl rfl ?_
  refine m_laload (k := 3) dX8_divides_57 (by first | assumption | rfl | exact y1 _ | exact y3 _ | exact va_up_self _ _ _) ⟨by decide, by decide⟩ ?_
  refine m_cl (v := lZ (A 3)) (hU 3 (by decide)) ?_
  refine m_lload dX8_divides_58 rfl ?_
  refine m_lconst (v := 0) dX8_divides_60 (by decide) ?_
  refine m_tern_L (J := 73) (x := -lZ (B 0)) (y := lZ (B 0)) (m_lc_le (t := 70) dX8_divides_61 dX8_divides_62 (by decide)) (fun k9 => ?_) (fun k9 => ?_) ?_
  · refine m_lload dX8_divides_70 rfl ?_
    refine m_lneg dX8_divides_72 ?_
    exact k9
  · refine m_lload dX8_divides_65 rfl ?_
    refine m_goto (t := 73) dX8_divides_67 (by decide) ?_
    exact k9
  refine m_cl (v := lZ (((B 0).natAbs : Nat) : Int)) (lZ_absM hBb) ?_
  refine m_lmul dX8_divides_73 ?_
  refine m_cl (v := lZ (A 3 * ((B 0).natAbs : Int))) (lZ_mul _ _) ?_
  refine m_lastore (k := 3) dX8_divides_74 (by first | assumption | rfl | exact y1 _ | exact y3 _ | exact va_up_self _ _ _) ⟨by decide, by decide⟩ ?_
  try rw [va_uu]
  refine m_iinc (v := 4) dX8_divides_75 rfl (by decide) (by decide) ?_
  show mW _ _ _ _ _ _ 78 [_, _, _, _, _, _, _, _, _] _
  refine m_goto (t := 44) dX8_divides_78 (by decide) ?_
  refine m_iload dX8_divides_44 rfl ?_
  refine m_iconst (v := 5) dX8_divides_46 (by decide) ?_
  refine m_icmp_ge (t := 81) dX8_divides_47 (by decide) (fun q => absurd q (by decide)) (fun _ => ?_)
  refine m_aload_n dX8_divides_50 rfl ?_
  refine m_getfield dX8_divides_51 fl_X8_54 (by first | assumption | rfl | exact y1 _ | exact y3 _ | exact va_up_self _ _ _) (by first | assumption | rfl | exact y1 _ | exact y3 _ | exact va_up_self _ _ _) ?_
  show mW _ _ _ _ _ _ _ _ (.ref _ :: _)
  refine m_iload dX8_divides_54 rfl ?_
  refine m_dup2 dX8_divides_56 rfl rfl ?_
  refine m_laload (k := 4) dX8_divides_57 (by first | assumption | rfl | exact y1 _ | exact y3 _ | exact va_up_self _ _ _) ⟨by decide, by decide⟩ ?_
  refine m_cl (v := lZ (A 4)) (hU 4 (by decide)) ?_
  refine m_lload dX8_divides_58 rfl ?_
  refine m_lconst (v := 0) dX8_divides_60 (by decide) ?_
  refine m_tern_L (J := 73) (x := -lZ (B 0)) (y := lZ (B 0)) (m_lc_le (t := 70) dX8_divides_61 dX8_divides_62 (by decide)) (fun k9 => ?_) (fun k9 => ?_) ?_
  · refine m_lload dX8_divides_70 rfl ?_
    refine m_lneg dX8_divides_72 ?_
    exact k9
  · refine m_lload dX8_divides_65 rfl ?_
    refine m_goto (t := 73) dX8_divides_67 (by decide) ?_
    exact k9
  refine m_cl (v := lZ (((B 0).natAbs : Nat) : Int)) (lZ_absM hBb) ?_
  refine m_lmul dX8_divides_73 ?_
  refine m_cl (v := lZ (A 4 * ((B 0).natAbs : Int))) (lZ_mul _ _) ?_
  refine m_lastore (k := 4) dX8_divides_74 (by first | assumption | rfl | exact y1 _ | exact y3 _ | exact va_up_self _ _ _) ⟨by decide, by decide⟩ ?_
  try rw [va_uu]
  refine m_iinc (v := 5) dX8_divides_75 rfl (by decide) (by decide) ?_
  show mW _ _ _ _ _ _ 78 [_, _, _, _, _, _, _, _, _] _
  refine m_goto (t := 44) dX8_divides_78 (by decide) ?_
  refine m_iload dX8_divides_44 rfl ?_
  refine m_iconst (v := 5) dX8_divides_46 (by decide) ?_
  refine m_icmp_ge (t := 81) dX8_divides_47 (by decide) (fun _ => ?_) (fun q => absurd (by decide) q)
  refine m_iconst (v := 0) dX8_divides_81 (by decide) ?_
  refine m_istore dX8_divides_82 (by decide) ?_
  show mW _ _ _ _ _ _ 84 [_, _, _, _, _, _, _, _, _] _
  refine m_iload dX8_divides_84 rfl ?_
  refine m_iload_n dX8_divides_86 rfl ?_
  refine m_icmp_gt (t := 135) dX8_divides_87 (by decide) (fun q => absurd q (by decide)) (fun _ => ?_)
  refine m_aload_n dX8_divides_90 rfl ?_
  refine m_getfield dX8_divides_91 fl_X8_54 (by first | assumption | rfl | exact y1 _ | exact y3 _ | exact va_up_self _ _ _) (by first | assumption | rfl | exact y1 _ | exact y3 _ | exact va_up_self _ _ _) ?_
  show mW _ _ _ _ _ _ _ _ (.ref _ :: _)
  refine m_iload dX8_divides_94 rfl ?_
  refine m_iload_n dX8_divides_96 rfl ?_
  refine m_iadd dX8_divides_97 ?_
  refine m_ci (v := 3) (by decide) ?_
  refine m_iload_n dX8_divides_98 rfl ?_
  refine m_isub dX8_divides_99 ?_
  refine m_ci (v := 3) (by decide) ?_
  refine m_dup2 dX8_divides_100 rfl rfl ?_
  refine m_laload (k := 3) dX8_divides_101 (by first | assumption | rfl | exact y1 _ | exact y3 _ | exact va_up_self _ _ _) ⟨by decide, by decide⟩ ?_
  refine m_cl (v := lZ (A 3 * ((B 0).natAbs : Int))) rfl ?_
  refine m_lload dX8_divides_102 rfl ?_
  refine m_lconst (v := 0) dX8_divides_104 (by decide) ?_
  refine m_tern_L (J := 117) (x := -lZ (A 3)) (y := lZ (A 3)) (m_lc_le (t := 114) dX8_divides_105 dX8_divides_106 (by decide)) (fun k9 => ?_) (fun k9 => ?_) ?_
  · refine m_lload dX8_divides_114 rfl ?_
    refine m_lneg dX8_divides_116 ?_
    exact k9
  · refine m_lload dX8_divides_109 rfl ?_
    refine m_goto (t := 117) dX8_divides_111 (by decide) ?_
    exact k9
  refine m_cl (v := lZ (strikeT A 3 B 0)) (strikeM hBb hB0) ?_
  refine m_aload_n dX8_divides_117 rfl ?_
  refine m_getfield dX8_divides_118 fl_X8_51 (by first | assumption | rfl | exact y1 _ | exact y3 _ | exact va_up_self _ _ _) (by first | assumption | rfl | exact y1 _ | exact y3 _ | exact va_up_self _ _ _) ?_
  show mW _ _ _ _ _ _ _ _ (.ref _ :: _)
  refine m_iload_n dX8_divides_121 rfl ?_
  refine m_iload dX8_divides_122 rfl ?_
  refine m_iadd dX8_divides_124 ?_
  refine m_ci (v := nI (5 * q + 0)) (by exact nI_add (5 * q) 0) ?_
  refine m_laload dX8_divides_125 (by first | assumption | rfl | exact y1 _ | exact y3 _ | exact va_up_self _ _ _) (mIx_lit (show 5 * q + 0 < 40 by omega) (by decide)) ?_
  refine m_cl (v := lZ (B 0)) (hR 0 (by decide)) ?_
  refine m_lmul dX8_divides_126 ?_
  refine m_cl (v := lZ (strikeT A 3 B 0 * B 0)) (lZ_mul _ _) ?_
  refine m_lsub dX8_divides_127 ?_
  refine m_cl (v := lZ (A 3 * ((B 0).natAbs : Int) - strikeT A 3 B 0 * B 0)) (lZ_sub _ _) ?_
  refine m_lastore (k := 3) dX8_divides_128 (by first | assumption | rfl | exact y1 _ | exact y3 _ | exact va_up_self _ _ _) ⟨by decide, by decide⟩ ?_
  try rw [va_uu]
  refine m_iinc (v := 1) dX8_divides_129 rfl (by decide) (by decide) ?_
  show mW _ _ _ _ _ _ 132 [_, _, _, _, _, _, _, _, _] _
  refine m_goto (t := 84) dX8_divides_132 (by decide) ?_
  refine m_iload dX8_divides_84 rfl ?_
  refine m_iload_n dX8_divides_86 rfl ?_
  refine m_icmp_gt (t := 135) dX8_divides_87 (by decide) (fun _ => ?_) (fun q => absurd (by decide) q)
  have hSW : ∀ j, j < 5 → (va_up (va_up (va_up (va_up (va_up (va_up (U) 0 (lZ (A 0 * ((B 0).natAbs : Int)))) 1 (lZ (A 1 * ((B 0).natAbs : Int)))) 2 (lZ (A 2 * ((B 0).natAbs : Int)))) 3 (lZ (A 3 * ((B 0).natAbs : Int)))) 4 (lZ (A 4 * ((B 0).natAbs : Int)))) 3 (lZ (A 3 * ((B 0).natAbs : Int) - strikeT A 3 B 0 * B 0))) j = lZ (strikeZ A 3 B 0 j) := fun j hj => by
        rcases lt5 hj with rfl | rfl | rfl | rfl | rfl
        · rw [strike_n hA (by decide)]
          rfl
        · rw [strike_n hA (by decide)]
          rfl
        · rw [strike_n hA (by decide)]
          rfl
        · rw [strike_y hA (by decide)]
          rfl
        · rw [strike_n hA (by decide)]
          rfl
  refine m_aload_n dX8_divides_135 rfl ?_
  refine m_invV dX8_divides_136 lk_X8_180 ar_X8_shortens (ci := 8) rfl rfl (by first | assumption | rfl | exact y1 _ | exact y3 _ | exact va_up_self _ _ _) (t_X8_shortens (y1 _) (va_up_self _ _ _) hSW hs) rfl (Nat.le_of_ble_eq_true rfl) (by decide) (by decide) (by decide) (by decide) (fun v hp' q9 => ?_)
  obtain ⟨rfl, U', rfl, hU'⟩ := q9
  rw [va_uu]
  show mW K _ 0 0 n _ 139 [_, _, _, _, _, _, _, _, _] []
  refine m_aload_n dX8_divides_139 rfl ?_
  refine m_getfield dX8_divides_140 fl_X8_54 (by first | assumption | rfl | exact y1 _ | exact y3 _ | exact va_up_self _ _ _) (by first | assumption | rfl | exact y1 _ | exact y3 _ | exact va_up_self _ _ _) ?_
  show mW _ _ _ _ _ _ _ _ (.ref _ :: _)
  refine m_iconst (v := 0) dX8_divides_143 (by decide) ?_
  refine m_invS_I dX8_divides_144 lk_X8_118 ar_X8_degree (t_X8_degree (at_ := 0) (va_up_self _ _ _) (by decide) (by decide)) rfl (Nat.le_of_ble_eq_true rfl) (by decide) (by decide) (by decide) (by decide) rfl rfl ?_
  try rw [va_uu]
  refine m_ci (v := orN (dgZ (low5 (strikeZ A 3 B 0)))) (by rw [deg5_Z (z := low5 (strikeZ A 3 B 0)) (fun j hj => by rw [Nat.zero_add]; exact hU' j hj) (low5_bd hs)]) ?_
  refine m_istore_n dX8_divides_147 (by decide) ?_
  show mW _ _ _ _ _ _ 148 [_, _, _, _, _, _, _, _, _] _
  refine m_goto (t := 18) dX8_divides_148 (by decide) ?_
  exact hk9 U' _ _ _ _ _ hU'

set_option maxHeartbeats 400000 in
set_option maxRecDepth 100000 in
theorem l_X8_div_4_1 {n : Nat} {hp : mHp} {ac ia tm ri ev le ch ls rm sm ra fa : Int32} (h1 : hp 67 = eO 8 (oMod ac ia tm ri ev le ch ls rm sm ra fa)) {q : Nat} {U R : Nat → Int64} {A B : Nat → Int} (h2 : hp 81 = eL 5 U) (h3 : hp 80 = eL 40 R) (hq : q < 8) (hU : ∀ j, j < 5 → U j = lZ (A j)) (hR : ∀ j, j < 5 → R (5 * q + j) = lZ (B j)) (hA : A 4 ≠ 0) (hB0 : B 1 ≠ 0) (hBb : bdZ (B 1)) (hs : ∀ j, j < 5 → bdZ (strikeZ A 4 B 1 j)) {K : mK} {v4 v5 v6 v7 v8 : Value} (hk9 : ∀ (U' : Nat → Int64) (v4 v5 v6 v7 v8 : Value), (∀ j, j < 5 → U' j = lZ (low5 (strikeZ A 4 B 1) j)) → mW K D_X8_divides 0 0 n (va_up hp 81 (eL 5 U')) 18 [.ref 67, .int (nI (5 * q)), .int 1, .int (orN (dgZ (low5 (strikeZ A 4 B 1)))), v4, v5, v6, v7, v8] []) : mW K D_X8_divides 0 0 n hp 18 [.ref 67, .int (nI (5 * q)), .int 1, .int 4, v4, v5, v6, v7, v8] [] := by
  have y1 : ∀ f : mE, va_up hp 81 f 67 = _ := fun f => (va_up_ne _ _ (by decide)).trans h1
  have y3 : ∀ f : mE, va_up hp 81 f 80 = eL 40 R := fun f => (va_up_ne _ _ (by decide)).trans h3
  refine m_iload_n dX8_divides_18 rfl ?_
  refine m_iload_n dX8_divides_19 rfl ?_
  refine m_icmp_lt (t := 151) dX8_divides_20 (by decide) (fun q => absurd q (by decide)) (fun _ => ?_)
  refine m_aload_n dX8_divides_23 rfl ?_
  refine m_getfield dX8_divides_24 fl_X8_54 (by first | assumption | rfl | exact y1 _ | exact y3 _ | exact va_up_self _ _ _) (by first | assumption | rfl | exact y1 _ | exact y3 _ | exact va_up_self _ _ _) ?_
  show mW _ _ _ _ _ _ _ _ (.ref _ :: _)
  refine m_iload_n dX8_divides_27 rfl ?_
  refine m_laload (k := 4) dX8_divides_28 (by first | assumption | rfl | exact y1 _ | exact y3 _ | exact va_up_self _ _ _) ⟨by decide, by decide⟩ ?_
  refine m_cl (v := lZ (A 4)) (hU 4 (by decide)) ?_
  refine m_lstore dX8_divides_29 (by decide) ?_
  show mW _ _ _ _ _ _ 31 [_, _, _, _, _, _, _, _, _] _
  refine m_aload_n dX8_divides_31 rfl ?_
  refine m_getfield dX8_divides_32 fl_X8_51 (by first | assumption | rfl | exact y1 _ | exact y3 _ | exact va_up_self _ _ _) (by first | assumption | rfl | exact y1 _ | exact y3 _ | exact va_up_self _ _ _) ?_
  show mW _ _ _ _ _ _ _ _ (.ref _ :: _)
  refine m_iload_n dX8_divides_35 rfl ?_
  refine m_iload_n dX8_divides_36 rfl ?_
  refine m_iadd dX8_divides_37 ?_
  refine m_ci (v := nI (5 * q + 1)) (by exact nI_add (5 * q) 1) ?_
  refine m_laload dX8_divides_38 (by first | assumption | rfl | exact y1 _ | exact y3 _ | exact va_up_self _ _ _) (mIx_lit (show 5 * q + 1 < 40 by omega) (by decide)) ?_
  refine m_cl (v := lZ (B 1)) (hR 1 (by decide)) ?_
  refine m_lstore dX8_divides_39 (by decide) ?_
  show mW _ _ _ _ _ _ 41 [_, _, _, _, _, _, _, _, _] _
  refine m_iconst (v := 0) dX8_divides_41 (by decide) ?_
  refine m_istore dX8_divides_42 (by decide) ?_
  show mW _ _ _ _ _ _ 44 [_, _, _, _, _, _, _, _, _] _
  refine m_iload dX8_divides_44 rfl ?_
  refine m_iconst (v := 5) dX8_divides_46 (by decide) ?_
  refine m_icmp_ge (t := 81) dX8_divides_47 (by decide) (fun q => absurd q (by decide)) (fun _ => ?_)
  refine m_aload_n dX8_divides_50 rfl ?_
  refine m_getfield dX8_divides_51 fl_X8_54 (by first | assumption | rfl | exact y1 _ | exact y3 _ | exact va_up_self _ _ _) (by first | assumption | rfl | exact y1 _ | exact y3 _ | exact va_up_self _ _ _) ?_
  show mW _ _ _ _ _ _ _ _ (.ref _ :: _)
  refine m_iload dX8_divides_54 rfl ?_
  refine m_dup2 dX8_divides_56 rfl rfl ?_
  refine m_laload (k := 0) dX8_divides_57 (by first | assumption | rfl | exact y1 _ | exact y3 _ | exact va_up_self _ _ _) ⟨by decide, by decide⟩ ?_
  refine m_cl (v := lZ (A 0)) (hU 0 (by decide)) ?_
  refine m_lload dX8_divides_58 rfl ?_
  refine m_lconst (v := 0) dX8_divides_60 (by decide) ?_
  refine m_tern_L (J := 73) (x := -lZ (B 1)) (y := lZ (B 1)) (m_lc_le (t := 70) dX8_divides_61 dX8_divides_62 (by decide)) (fun k9 => ?_) (fun k9 => ?_) ?_
  · refine m_lload dX8_divides_70 rfl ?_
    refine m_lneg dX8_divides_72 ?_
    exact k9
  · refine m_lload dX8_divides_65 rfl ?_
    refine m_goto (t := 73) dX8_divides_67 (by decide) ?_
    exact k9
  refine m_cl (v := lZ (((B 1).natAbs : Nat) : Int)) (lZ_absM hBb) ?_
  refine m_lmul dX8_divides_73 ?_
  refine m_cl (v := lZ (A 0 * ((B 1).natAbs : Int))) (lZ_mul _ _) ?_
  refine m_lastore (k := 0) dX8_divides_74 (by first | assumption | rfl | exact y1 _ | exact y3 _ | exact va_up_self _ _ _) ⟨by decide, by decide⟩ ?_
  try rw [va_uu]
  refine m_iinc (v := 1) dX8_divides_75 rfl (by decide) (by decide) ?_
  show mW _ _ _ _ _ _ 78 [_, _, _, _, _, _, _, _, _] _
  refine m_goto (t := 44) dX8_divides_78 (by decide) ?_
  refine m_iload dX8_divides_44 rfl ?_
  refine m_iconst (v := 5) dX8_divides_46 (by decide) ?_
  refine m_icmp_ge (t := 81) dX8_divides_47 (by decide) (fun q => absurd q (by decide)) (fun _ => ?_)
  refine m_aload_n dX8_divides_50 rfl ?_
  refine m_getfield dX8_divides_51 fl_X8_54 (by first | assumption | rfl | exact y1 _ | exact y3 _ | exact va_up_self _ _ _) (by first | assumption | rfl | exact y1 _ | exact y3 _ | exact va_up_self _ _ _) ?_
  show mW _ _ _ _ _ _ _ _ (.ref _ :: _)
  refine m_iload dX8_divides_54 rfl ?_
  refine m_dup2 dX8_divides_56 rfl rfl ?_
  refine m_laload (k := 1) dX8_divides_57 (by first | assumption | rfl | exact y1 _ | exact y3 _ | exact va_up_self _ _ _) ⟨by decide, by decide⟩ ?_
  refine m_cl (v := lZ (A 1)) (hU 1 (by decide)) ?_
  refine m_lload dX8_divides_58 rfl ?_
  refine m_lconst (v := 0) dX8_divides_60 (by decide) ?_
  refine m_tern_L (J := 73) (x := -lZ (B 1)) (y := lZ (B 1)) (m_lc_le (t := 70) dX8_divides_61 dX8_divides_62 (by decide)) (fun k9 => ?_) (fun k9 => ?_) ?_
  · refine m_lload dX8_divides_70 rfl ?_
    refine m_lneg dX8_divides_72 ?_
    exact k9
  · refine m_lload dX8_divides_65 rfl ?_
    refine m_goto (t := 73) dX8_divides_67 (by decide) ?_
    exact k9
  refine m_cl (v := lZ (((B 1).natAbs : Nat) : Int)) (lZ_absM hBb) ?_
  refine m_lmul dX8_divides_73 ?_
  refine m_cl (v := lZ (A 1 * ((B 1).natAbs : Int))) (lZ_mul _ _) ?_
  refine m_lastore (k := 1) dX8_divides_74 (by first | assumption | rfl | exact y1 _ | exact y3 _ | exact va_up_self _ _ _) ⟨by decide, by decide⟩ ?_
  try rw [va_uu]
  refine m_iinc (v := 2) dX8_divides_75 rfl (by decide) (by decide) ?_
  show mW _ _ _ _ _ _ 78 [_, _, _, _, _, _, _, _, _] _
  refine m_goto (t := 44) dX8_divides_78 (by decide) ?_
  refine m_iload dX8_divides_44 rfl ?_
  refine m_iconst (v := 5) dX8_divides_46 (by decide) ?_
  refine m_icmp_ge (t := 81) dX8_divides_47 (by decide) (fun q => absurd q (by decide)) (fun _ => ?_)
  refine m_aload_n dX8_divides_50 rfl ?_
  refine m_getfield dX8_divides_51 fl_X8_54 (by first | assumption | rfl | exact y1 _ | exact y3 _ | exact va_up_self _ _ _) (by first | assumption | rfl | exact y1 _ | exact y3 _ | exact va_up_self _ _ _) ?_
  show mW _ _ _ _ _ _ _ _ (.ref _ :: _)
  refine m_iload dX8_divides_54 rfl ?_
  refine m_dup2 dX8_divides_56 rfl rfl ?_
  refine m_laload (k := 2) dX8_divides_57 (by first | assumption | rfl | exact y1 _ | exact y3 _ | exact va_up_self _ _ _) ⟨by decide, by decide⟩ ?_
  refine m_cl (v := lZ (A 2)) (hU 2 (by decide)) ?_
  refine m_lload dX8_divides_58 rfl ?_
  refine m_lconst (v := 0) dX8_divides_60 (by decide) ?_
  refine m_tern_L (J := 73) (x := -lZ (B 1)) (y := lZ (B 1)) (m_lc_le (t := 70) dX8_divides_61 dX8_divides_62 (by decide)) (fun k9 => ?_) (fun k9 => ?_) ?_
  · refine m_lload dX8_divides_70 rfl ?_
    refine m_lneg dX8_divides_72 ?_
    exact k9
  · refine m_lload dX8_divides_65 rfl ?_
    refine m_goto (t := 73) dX8_divides_67 (by decide) ?_
    exact k9
  refine m_cl (v := lZ (((B 1).natAbs : Nat) : Int)) (lZ_absM hBb) ?_
  refine m_lmul dX8_divides_73 ?_
  refine m_cl (v := lZ (A 2 * ((B 1).natAbs : Int))) (lZ_mul _ _) ?_
  refine m_lastore (k := 2) dX8_divides_74 (by first | assumption | rfl | exact y1 _ | exact y3 _ | exact va_up_self _ _ _) ⟨by decide, by decide⟩ ?_
  try rw [va_uu]
  refine m_iinc (v := 3) dX8_divides_75 rfl (by decide) (by decide) ?_
  show mW _ _ _ _ _ _ 78 [_, _, _, _, _, _, _, _, _] _
  refine m_goto (t := 44) dX8_divides_78 (by decide) ?_
  refine m_iload dX8_divides_44 rfl ?_
  refine m_iconst (v := 5) dX8_divides_46 (by decide) ?_
  refine m_icmp_ge (t := 81) dX8_divides_47 (by decide) (fun q => absurd q (by decide)) (fun _ => ?_)
  refine m_aload_n dX8_divides_50 rfl ?_
  refine m_getfield dX8_divides_51 fl_X8_54 (by first | assumption | rfl | exact y1 _ | exact y3 _ | exact va_up_self _ _ _) (by first | assumption | rfl | exact y1 _ | exact y3 _ | exact va_up_self _ _ _) ?_
  show mW _ _ _ _ _ _ _ _ (.ref _ :: _)
  refine m_iload dX8_divides_54 rfl ?_
  refine m_dup2 dX8_divides_56 rfl rfl ?_
  refine m_laload (k := 3) dX8_divides_57 (by first | assumption | rfl | exact y1 _ | exact y3 _ | exact va_up_self _ _ _) ⟨by decide, by decide⟩ ?_
  refine m_cl (v := lZ (A 3)) (hU 3 (by decide)) ?_
  refine m_lload dX8_divides_58 rfl ?_
  refine m_lconst (v := 0) dX8_divides_60 (by decide) ?_
  refine m_tern_L (J := 73) (x := -lZ (B 1)) (y := lZ (B 1)) (m_lc_le (t := 70) dX8_divides_61 dX8_divides_62 (by decide)) (fun k9 => ?_) (fun k9 => ?_) ?_
  · refine m_lload dX8_divides_70 rfl ?_
    refine m_lneg dX8_divides_72 ?_
    exact k9
  · refine m_lload dX8_divides_65 rfl ?_
    refine m_goto (t := 73) dX8_divides_67 (by decide) ?_
    exact k9
  refine m_cl (v := lZ (((B 1).natAbs : Nat) : Int)) (lZ_absM hBb) ?_
  refine m_lmul dX8_divides_73 ?_
  refine m_cl (v := lZ (A 3 * ((B 1).natAbs : Int))) (lZ_mul _ _) ?_
  refine m_lastore (k := 3) dX8_divides_74 (by first | assumption | rfl | exact y1 _ | exact y3 _ | exact va_up_self _ _ _) ⟨by decide, by decide⟩ ?_
  try rw [va_uu]
  refine m_iinc (v := 4) dX8_divides_75 rfl (by decide) (by decide) ?_
  show mW _ _ _ _ _ _ 78 [_, _, _, _, _, _, _, _, _] _
  refine m_goto (t := 44) dX8_divides_78 (by decide) ?_
  refine m_iload dX8_divides_44 rfl ?_
  refine m_iconst (v := 5) dX8_divides_46 (by decide) ?_
  refine m_icmp_ge (t := 81) dX8_divides_47 (by decide) (fun q => absurd q (by decide)) (fun _ => ?_)
  refine m_aload_n dX8_divides_50 rfl ?_
  refine m_getfield dX8_divides_51 fl_X8_54 (by first | assumption | rfl | exact y1 _ | exact y3 _ | exact va_up_self _ _ _) (by first | assumption | rfl | exact y1 _ | exact y3 _ | exact va_up_self _ _ _) ?_
  show mW _ _ _ _ _ _ _ _ (.ref _ :: _)
  refine m_iload dX8_divides_54 rfl ?_
  refine m_dup2 dX8_divides_56 rfl rfl ?_
  refine m_laload (k := 4) dX8_divides_57 (by first | assumption | rfl | exact y1 _ | exact y3 _ | exact va_up_self _ _ _) ⟨by decide, by decide⟩ ?_
  refine m_cl (v := lZ (A 4)) (hU 4 (by decide)) ?_
  refine m_lload dX8_divides_58 rfl ?_
  refine m_lconst (v := 0) dX8_divides_60 (by decide) ?_
  refine m_tern_L (J := 73) (x := -lZ (B 1)) (y := lZ (B 1)) (m_lc_le (t := 70) dX8_divides_61 dX8_divides_62 (by decide)) (fun k9 => ?_) (fun k9 => ?_) ?_
  · refine m_lload dX8_divides_70 rfl ?_
    refine m_lneg dX8_divides_72 ?_
    exact k9
  · refine m_lload dX8_divides_65 rfl ?_
    refine m_goto (t := 73) dX8_divides_67 (by decide) ?_
    exact k9
  refine m_cl (v := lZ (((B 1).natAbs : Nat) : Int)) (lZ_absM hBb) ?_
  refine m_lmul dX8_divides_73 ?_
  refine m_cl (v := lZ (A 4 * ((B 1).natAbs : Int))) (lZ_mul _ _) ?_
  refine m_lastore (k := 4) dX8_divides_74 (by first | assumption | rfl | exact y1 _ | exact y3 _ | exact va_up_self _ _ _) ⟨by decide, by decide⟩ ?_
  try rw [va_uu]
  refine m_iinc (v := 5) dX8_divides_75 rfl (by decide) (by decide) ?_
  show mW _ _ _ _ _ _ 78 [_, _, _, _, _, _, _, _, _] _
  refine m_goto (t := 44) dX8_divides_78 (by decide) ?_
  refine m_iload dX8_divides_44 rfl ?_
  refine m_iconst (v := 5) dX8_divides_46 (by decide) ?_
  refine m_icmp_ge (t := 81) dX8_divides_47 (by decide) (fun _ => ?_) (fun q => absurd (by decide) q)
  refine m_iconst (v := 0) dX8_divides_81 (by decide) ?_
  refine m_istore dX8_divides_82 (by decide) ?_
  show mW _ _ _ _ _ _ 84 [_, _, _, _, _, _, _, _, _] _
  refine m_iload dX8_divides_84 rfl ?_
  refine m_iload_n dX8_divides_86 rfl ?_
  refine m_icmp_gt (t := 135) dX8_divides_87 (by decide) (fun q => absurd q (by decide)) (fun _ => ?_)
  refine m_aload_n dX8_divides_90 rfl ?_
  refine m_getfield dX8_divides_91 fl_X8_54 (by first | assumption | rfl | exact y1 _ | exact y3 _ | exact va_up_self _ _ _) (by first | assumption | rfl | exact y1 _ | exact y3 _ | exact va_up_self _ _ _) ?_
  show mW _ _ _ _ _ _ _ _ (.ref _ :: _)
  refine m_iload dX8_divides_94 rfl ?_
  refine m_iload_n dX8_divides_96 rfl ?_
  refine m_iadd dX8_divides_97 ?_
  refine m_ci (v := 4) (by decide) ?_
  refine m_iload_n dX8_divides_98 rfl ?_
  refine m_isub dX8_divides_99 ?_
  refine m_ci (v := 3) (by decide) ?_
  refine m_dup2 dX8_divides_100 rfl rfl ?_
  refine m_laload (k := 3) dX8_divides_101 (by first | assumption | rfl | exact y1 _ | exact y3 _ | exact va_up_self _ _ _) ⟨by decide, by decide⟩ ?_
  refine m_cl (v := lZ (A 3 * ((B 1).natAbs : Int))) rfl ?_
  refine m_lload dX8_divides_102 rfl ?_
  refine m_lconst (v := 0) dX8_divides_104 (by decide) ?_
  refine m_tern_L (J := 117) (x := -lZ (A 4)) (y := lZ (A 4)) (m_lc_le (t := 114) dX8_divides_105 dX8_divides_106 (by decide)) (fun k9 => ?_) (fun k9 => ?_) ?_
  · refine m_lload dX8_divides_114 rfl ?_
    refine m_lneg dX8_divides_116 ?_
    exact k9
  · refine m_lload dX8_divides_109 rfl ?_
    refine m_goto (t := 117) dX8_divides_111 (by decide) ?_
    exact k9
  refine m_cl (v := lZ (strikeT A 4 B 1)) (strikeM hBb hB0) ?_
  refine m_aload_n dX8_divides_117 rfl ?_
  refine m_getfield dX8_divides_118 fl_X8_51 (by first | assumption | rfl | exact y1 _ | exact y3 _ | exact va_up_self _ _ _) (by first | assumption | rfl | exact y1 _ | exact y3 _ | exact va_up_self _ _ _) ?_
  show mW _ _ _ _ _ _ _ _ (.ref _ :: _)
  refine m_iload_n dX8_divides_121 rfl ?_
  refine m_iload dX8_divides_122 rfl ?_
  refine m_iadd dX8_divides_124 ?_
  refine m_ci (v := nI (5 * q + 0)) (by exact nI_add (5 * q) 0) ?_
  refine m_laload dX8_divides_125 (by first | assumption | rfl | exact y1 _ | exact y3 _ | exact va_up_self _ _ _) (mIx_lit (show 5 * q + 0 < 40 by omega) (by decide)) ?_
  refine m_cl (v := lZ (B 0)) (hR 0 (by decide)) ?_
  refine m_lmul dX8_divides_126 ?_
  refine m_cl (v := lZ (strikeT A 4 B 1 * B 0)) (lZ_mul _ _) ?_
  refine m_lsub dX8_divides_127 ?_
  refine m_cl (v := lZ (A 3 * ((B 1).natAbs : Int) - strikeT A 4 B 1 * B 0)) (lZ_sub _ _) ?_
  refine m_lastore (k := 3) dX8_divides_128 (by first | assumption | rfl | exact y1 _ | exact y3 _ | exact va_up_self _ _ _) ⟨by decide, by decide⟩ ?_
  try rw [va_uu]
  refine m_iinc (v := 1) dX8_divides_129 rfl (by decide) (by decide) ?_
  show mW _ _ _ _ _ _ 132 [_, _, _, _, _, _, _, _, _] _
  refine m_goto (t := 84) dX8_divides_132 (by decide) ?_
  refine m_iload dX8_divides_84 rfl ?_
  refine m_iload_n dX8_divides_86 rfl ?_
  refine m_icmp_gt (t := 135) dX8_divides_87 (by decide) (fun q => absurd q (by decide)) (fun _ => ?_)
  refine m_aload_n dX8_divides_90 rfl ?_
  refine m_getfield dX8_divides_91 fl_X8_54 (by first | assumption | rfl | exact y1 _ | exact y3 _ | exact va_up_self _ _ _) (by first | assumption | rfl | exact y1 _ | exact y3 _ | exact va_up_self _ _ _) ?_
  show mW _ _ _ _ _ _ _ _ (.ref _ :: _)
  refine m_iload dX8_divides_94 rfl ?_
  refine m_iload_n dX8_divides_96 rfl ?_
  refine m_iadd dX8_divides_97 ?_
  refine m_ci (v := 5) (by decide) ?_
  refine m_iload_n dX8_divides_98 rfl ?_
  refine m_isub dX8_divides_99 ?_
  refine m_ci (v := 4) (by decide) ?_
  refine m_dup2 dX8_divides_100 rfl rfl ?_
  refine m_laload (k := 4) dX8_divides_101 (by first | assumption | rfl | exact y1 _ | exact y3 _ | exact va_up_self _ _ _) ⟨by decide, by decide⟩ ?_
  refine m_cl (v := lZ (A 4 * ((B 1).natAbs : Int))) rfl ?_
  refine m_lload dX8_divides_102 rfl ?_
  refine m_lconst (v := 0) dX8_divides_104 (by decide) ?_
  refine m_tern_L (J := 117) (x := -lZ (A 4)) (y := lZ (A 4)) (m_lc_le (t := 114) dX8_divides_105 dX8_divides_106 (by decide)) (fun k9 => ?_) (fun k9 => ?_) ?_
  · refine m_lload dX8_divides_114 rfl ?_
    refine m_lneg dX8_divides_116 ?_
    exact k9
  · refine m_lload dX8_divides_109 rfl ?_
    refine m_goto (t := 117) dX8_divides_111 (by decide) ?_
    exact k9
  refine m_cl (v := lZ (strikeT A 4 B 1)) (strikeM hBb hB0) ?_
  refine m_aload_n dX8_divides_117 rfl ?_
  refine m_getfield dX8_divides_118 fl_X8_51 (by first | assumption | rfl | exact y1 _ | exact y3 _ | exact va_up_self _ _ _) (by first | assumption | rfl | exact y1 _ | exact y3 _ | exact va_up_self _ _ _) ?_
  show mW _ _ _ _ _ _ _ _ (.ref _ :: _)
  refine m_iload_n dX8_divides_121 rfl ?_
  refine m_iload dX8_divides_122 rfl ?_
  refine m_iadd dX8_divides_124 ?_
  refine m_ci (v := nI (5 * q + 1)) (by exact nI_add (5 * q) 1) ?_
  refine m_laload dX8_divides_125 (by first | assumption | rfl | exact y1 _ | exact y3 _ | exact va_up_self _ _ _) (mIx_lit (show 5 * q + 1 < 40 by omega) (by decide)) ?_
  refine m_cl (v := lZ (B 1)) (hR 1 (by decide)) ?_
  refine m_lmul dX8_divides_126 ?_
  refine m_cl (v := lZ (strikeT A 4 B 1 * B 1)) (lZ_mul _ _) ?_
  refine m_lsub dX8_divides_127 ?_
  refine m_cl (v := lZ (A 4 * ((B 1).natAbs : Int) - strikeT A 4 B 1 * B 1)) (lZ_sub _ _) ?_
  refine m_lastore (k := 4) dX8_divides_128 (by first | assumption | rfl | exact y1 _ | exact y3 _ | exact va_up_self _ _ _) ⟨by decide, by decide⟩ ?_
  try rw [va_uu]
  refine m_iinc (v := 2) dX8_divides_129 rfl (by decide) (by decide) ?_
  show mW _ _ _ _ _ _ 132 [_, _, _, _, _, _, _, _, _] _
  refine m_goto (t := 84) dX8_divides_132 (by decide) ?_
  refine m_iload dX8_divides_84 rfl ?_
  refine m_iload_n dX8_divides_86 rfl ?_
  refine m_icmp_gt (t := 135) dX8_divides_87 (by decide) (fun _ => ?_) (fun q => absurd (by decide) q)
  have hSW : ∀ j, j < 5 → (va_up (va_up (va_up (va_up (va_up (va_up (va_up (U) 0 (lZ (A 0 * ((B 1).natAbs : Int)))) 1 (lZ (A 1 * ((B 1).natAbs : Int)))) 2 (lZ (A 2 * ((B 1).natAbs : Int)))) 3 (lZ (A 3 * ((B 1).natAbs : Int)))) 4 (lZ (A 4 * ((B 1).natAbs : Int)))) 3 (lZ (A 3 * ((B 1).natAbs : Int) - strikeT A 4 B 1 * B 0))) 4 (lZ (A 4 * ((B 1).natAbs : Int) - strikeT A 4 B 1 * B 1))) j = lZ (strikeZ A 4 B 1 j) := fun j hj => by
        rcases lt5 hj with rfl | rfl | rfl | rfl | rfl
        · rw [strike_n hA (by decide)]
          rfl
        · rw [strike_n hA (by decide)]
          rfl
        · rw [strike_n hA (by decide)]
          rfl
        · rw [strike_y hA (by decide)]
          rfl
        · rw [strike_y hA (by decide)]
          rfl
  refine m_aload_n dX8_divides_135 rfl ?_
  refine m_invV dX8_divides_136 lk_X8_180 ar_X8_shortens (ci := 8) rfl rfl (by first | assumption | rfl | exact y1 _ | exact y3 _ | exact va_up_self _ _ _) (t_X8_shortens (y1 _) (va_up_self _ _ _) hSW hs) rfl (Nat.le_of_ble_eq_true rfl) (by decide) (by decide) (by decide) (by decide) (fun v hp' q9 => ?_)
  obtain ⟨rfl, U', rfl, hU'⟩ := q9
  rw [va_uu]
  show mW K _ 0 0 n _ 139 [_, _, _, _, _, _, _, _, _] []
  refine m_aload_n dX8_divides_139 rfl ?_
  refine m_getfield dX8_divides_140 fl_X8_54 (by first | assumption | rfl | exact y1 _ | exact y3 _ | exact va_up_self _ _ _) (by first | assumption | rfl | exact y1 _ | exact y3 _ | exact va_up_self _ _ _) ?_
  show mW _ _ _ _ _ _ _ _ (.ref _ :: _)
  refine m_iconst (v := 0) dX8_divides_143 (by decide) ?_
  refine m_invS_I dX8_divides_144 lk_X8_118 ar_X8_degree (t_X8_degree (at_ := 0) (va_up_self _ _ _) (by decide) (by decide)) rfl (Nat.le_of_ble_eq_true rfl) (by decide) (by decide) (by decide) (by decide) rfl rfl ?_
  try rw [va_uu]
  refine m_ci (v := orN (dgZ (low5 (strikeZ A 4 B 1)))) (by rw [deg5_Z (z := low5 (strikeZ A 4 B 1)) (fun j hj => by rw [Nat.zero_add]; exact hU' j hj) (low5_bd hs)]) ?_
  refine m_istore_n dX8_divides_147 (by decide) ?_
  show mW _ _ _ _ _ _ 148 [_, _, _, _, _, _, _, _, _] _
  refine m_goto (t := 18) dX8_divides_148 (by decide) ?_
  exact hk9 U' _ _ _ _ _ hU'

/-- a division goes well -/
def stepOk (A B : Nat → Int) : Prop := (∀ j, j < 5 → bdZ (A j)) ∧ (∀ j, j < 5 → bdZ (B j)) ∧ pairOk (dN A) (dN B) ∧ remOk A B (dN A) (dN B) ∧ dropOk A B (dN A) (dN B)
theorem dN_ne {A : Nat → Int} (h : dgZ A ≠ -1) : A (dN A) ≠ 0 := by
  revert h
  unfold dgZ dN
  by_cases c4 : A 4 = 0
  · by_cases c3 : A 3 = 0
    · by_cases c2 : A 2 = 0
      · by_cases c1 : A 1 = 0
        · by_cases c0 : A 0 = 0
          · simp only [if_pos c4, if_pos c3, if_pos c2, if_pos c1, if_pos c0]
            exact fun h => absurd rfl h
          · simp only [if_pos c4, if_pos c3, if_pos c2, if_pos c1, if_neg c0]
            exact fun _ => c0
        · simp only [if_pos c4, if_pos c3, if_pos c2, if_neg c1]
          exact fun _ => c1
      · simp only [if_pos c4, if_pos c3, if_neg c2]
        exact fun _ => c2
    · simp only [if_pos c4, if_neg c3]
      exact fun _ => c3
  · simp only [if_neg c4]
    exact fun _ => c4
theorem orN_N {d : Nat} (h : d ≤ 4) : orN (nI d) = nI d := by
  match d, h with
  | 0, _ => rfl
  | 1, _ => rfl
  | 2, _ => rfl
  | 3, _ => rfl
  | 4, _ => rfl
set_option maxHeartbeats 400000 in
set_option maxRecDepth 100000 in
theorem t_X8_divides {n : Nat} {hp : mHp} {ac ia tm ri ev le ch ls rm sm ra fa : Int32} (h1 : hp 67 = eO 8 (oMod ac ia tm ri ev le ch ls rm sm ra fa)) {q : Nat} {U R : Nat → Int64} {A B : Nat → Int} (h2 : hp 81 = eL 5 U) (h3 : hp 80 = eL 40 R) (hq : q < 8) (hU : ∀ j, j < 5 → U j = lZ (A j)) (hR : ∀ j, j < 5 → R (5 * q + j) = lZ (B j)) (hgA : dgZ A ≠ -1) (hgB : dgZ B ≠ -1) (hok : stepOk A B) : mC D_X8_divides [.ref 67, .int (nI (5 * q))] n hp (fun v hp' => v = none ∧ ∃ U' : Nat → Int64, hp' = va_up hp 81 (eL 5 U') ∧ ∀ j, j < 5 → U' j = lZ (remZ A B (dN A) (dN B) j)) := by
  refine m_enter rfl rfl (Nat.le_of_ble_eq_true rfl) (fun K hF => ?_)
  show mW K _ 0 0 _ _ 0 [.ref 67, .int (nI (5 * q)), .retAddr 0, .retAddr 0, .retAddr 0, .retAddr 0, .retAddr 0, .retAddr 0, .retAddr 0] []
  refine m_aload_n dX8_divides_0 rfl ?_
  refine m_getfield dX8_divides_1 fl_X8_51 (by first | assumption | rfl) (by first | assumption | rfl) ?_
  show mW _ _ _ _ _ _ _ _ (.ref _ :: _)
  refine m_iload_n dX8_divides_4 rfl ?_
  refine m_invS_I dX8_divides_5 lk_X8_118 ar_X8_degree (t_X8_degree h3 (by omega) (by decide)) rfl (Nat.le_of_ble_eq_true rfl) (by decide) (by decide) (by decide) (by decide) rfl rfl ?_
  try rw [va_uu]
  refine m_ci (v := nI (dN B)) (by rw [deg5_Z (z := B) (fun j hj => hR j hj) hok.2.1, dgZ_N hgB, orN_N (dN_le B)]) ?_
  refine m_istore_n dX8_divides_8 (by decide) ?_
  show mW _ _ _ _ _ _ 9 [_, _, _, _, _, _, _, _, _] _
  refine m_aload_n dX8_divides_9 rfl ?_
  refine m_getfield dX8_divides_10 fl_X8_54 (by first | assumption | rfl) (by first | assumption | rfl) ?_
  show mW _ _ _ _ _ _ _ _ (.ref _ :: _)
  refine m_iconst (v := 0) dX8_divides_13 (by decide) ?_
  refine m_invS_I dX8_divides_14 lk_X8_118 ar_X8_degree (t_X8_degree (at_ := 0) h2 (by decide) (by decide)) rfl (Nat.le_of_ble_eq_true rfl) (by decide) (by decide) (by decide) (by decide) rfl rfl ?_
  try rw [va_uu]
  refine m_ci (v := nI (dN A)) (by rw [deg5_Z (z := A) (fun j hj => by rw [Nat.zero_add]; exact hU j hj) hok.1, dgZ_N hgA, orN_N (dN_le A)]) ?_
  refine m_istore_n dX8_divides_17 (by decide) ?_
  show mW _ _ _ _ _ _ 18 [_, _, _, _, _, _, _, _, _] _
  obtain ⟨bA, bB, hpair, hrem, hdrop⟩ := hok
  rcases hpair with ⟨pA, pB⟩ | ⟨pA, pB⟩ | ⟨pA, pB⟩ | ⟨pA, pB⟩ | ⟨pA, pB⟩ | ⟨pA, pB⟩
  · rw [pA, pB] at hrem hdrop
    have hAe : A 1 ≠ 0 := (by have y := dN_ne hgA; rw [pA] at y; exact y)
    have hBd : B 0 ≠ 0 := (by have y := dN_ne hgB; rw [pB] at y; exact y)
    obtain ⟨m1, m2, m3, m4⟩ := hrem
    rw [pA, pB] at hF
    rw [pA, pB]
    show mW _ _ _ _ _ _ 18 [_, _, .int 0, .int 1, _, _, _, _, _] _
    rw [show remZ A B 1 0 = (low5 (strikeZ A 1 B 0)) from if_neg (by decide)] at hF
    have hdr : orN (dgZ (low5 (strikeZ A 1 B 0))) < 0 := (by unfold dropOk at hdrop; rw [if_neg (by decide)] at hdrop; exact hdrop)
    refine l_X8_div_1_0 h1 h2 h3 hq hU hR hAe hBd m1 m3 (fun U' v4 v5 v6 v7 v8 hU' => ?_)
    refine m_iload_n dX8_divides_18 rfl ?_
    refine m_iload_n dX8_divides_19 rfl ?_
    refine m_icmp_lt (t := 151) dX8_divides_20 (by decide) (fun _ => ?_) (fun y => absurd hdr y)
    exact m_return hF dX8_divides_151 rfl rfl rfl ⟨rfl, U', rfl, hU'⟩
  · rw [pA, pB] at hrem hdrop
    have hAe : A 2 ≠ 0 := (by have y := dN_ne hgA; rw [pA] at y; exact y)
    have hBd : B 1 ≠ 0 := (by have y := dN_ne hgB; rw [pB] at y; exact y)
    obtain ⟨m1, m2, m3, m4⟩ := hrem
    rw [pA, pB] at hF
    rw [pA, pB]
    show mW _ _ _ _ _ _ 18 [_, _, .int 1, .int 2, _, _, _, _, _] _
    rw [show remZ A B 2 1 = (low5 (strikeZ A 2 B 1)) from if_neg (by decide)] at hF
    have hdr : orN (dgZ (low5 (strikeZ A 2 B 1))) < 1 := (by unfold dropOk at hdrop; rw [if_neg (by decide)] at hdrop; exact hdrop)
    refine l_X8_div_2_1 h1 h2 h3 hq hU hR hAe hBd m1 m3 (fun U' v4 v5 v6 v7 v8 hU' => ?_)
    refine m_iload_n dX8_divides_18 rfl ?_
    refine m_iload_n dX8_divides_19 rfl ?_
    refine m_icmp_lt (t := 151) dX8_divides_20 (by decide) (fun _ => ?_) (fun y => absurd hdr y)
    exact m_return hF dX8_divides_151 rfl rfl rfl ⟨rfl, U', rfl, hU'⟩
  · rw [pA, pB] at hrem hdrop
    have hAe : A 3 ≠ 0 := (by have y := dN_ne hgA; rw [pA] at y; exact y)
    have hBd : B 2 ≠ 0 := (by have y := dN_ne hgB; rw [pB] at y; exact y)
    obtain ⟨m1, m2, m3, m4⟩ := hrem
    rw [pA, pB] at hF
    rw [pA, pB]
    show mW _ _ _ _ _ _ 18 [_, _, .int 2, .int 3, _, _, _, _, _] _
    rw [show remZ A B 3 2 = (low5 (strikeZ A 3 B 2)) from if_neg (by decide)] at hF
    have hdr : orN (dgZ (low5 (strikeZ A 3 B 2))) < 2 := (by unfold dropOk at hdrop; rw [if_neg (by decide)] at hdrop; exact hdrop)
    refine l_X8_div_3_2 h1 h2 h3 hq hU hR hAe hBd m1 m3 (fun U' v4 v5 v6 v7 v8 hU' => ?_)
    refine m_iload_n dX8_divides_18 rfl ?_
    refine m_iload_n dX8_divides_19 rfl ?_
    refine m_icmp_lt (t := 151) dX8_divides_20 (by decide) (fun _ => ?_) (fun y => absurd hdr y)
    exact m_return hF dX8_divides_151 rfl rfl rfl ⟨rfl, U', rfl, hU'⟩
  · rw [pA, pB] at hrem hdrop
    have hAe : A 4 ≠ 0 := (by have y := dN_ne hgA; rw [pA] at y; exact y)
    have hBd : B 3 ≠ 0 := (by have y := dN_ne hgB; rw [pB] at y; exact y)
    obtain ⟨m1, m2, m3, m4⟩ := hrem
    rw [pA, pB] at hF
    rw [pA, pB]
    show mW _ _ _ _ _ _ 18 [_, _, .int 3, .int 4, _, _, _, _, _] _
    rw [show remZ A B 4 3 = (low5 (strikeZ A 4 B 3)) from if_neg (by decide)] at hF
    have hdr : orN (dgZ (low5 (strikeZ A 4 B 3))) < 3 := (by unfold dropOk at hdrop; rw [if_neg (by decide)] at hdrop; exact hdrop)
    refine l_X8_div_4_3 h1 h2 h3 hq hU hR hAe hBd m1 m3 (fun U' v4 v5 v6 v7 v8 hU' => ?_)
    refine m_iload_n dX8_divides_18 rfl ?_
    refine m_iload_n dX8_divides_19 rfl ?_
    refine m_icmp_lt (t := 151) dX8_divides_20 (by decide) (fun _ => ?_) (fun y => absurd hdr y)
    exact m_return hF dX8_divides_151 rfl rfl rfl ⟨rfl, U', rfl, hU'⟩
  · rw [pA, pB] at hrem hdrop
    have hAe : A 3 ≠ 0 := (by have y := dN_ne hgA; rw [pA] at y; exact y)
    have hBd : B 0 ≠ 0 := (by have y := dN_ne hgB; rw [pB] at y; exact y)
    obtain ⟨m1, m2, m3, m4⟩ := hrem
    rw [pA, pB] at hF
    rw [pA, pB]
    show mW _ _ _ _ _ _ 18 [_, _, .int 0, .int 3, _, _, _, _, _] _
    rw [show remZ A B 3 0 = (low5 (strikeZ (low5 (strikeZ A 3 B 0)) 1 B 0)) from if_pos (by decide)] at hF
    have hdr : if (low5 (strikeZ A 3 B 0)) 1 = 0 then orN (dgZ (low5 (strikeZ A 3 B 0))) < 0 else dgZ (low5 (strikeZ A 3 B 0)) = 1 ∧ orN (dgZ (low5 (strikeZ (low5 (strikeZ A 3 B 0)) 1 B 0))) < 0 := (by unfold dropOk at hdrop; rw [if_pos (by decide)] at hdrop; exact hdrop)
    refine l_X8_div_3_0 h1 h2 h3 hq hU hR hAe hBd m1 m3 (fun U' v4 v5 v6 v7 v8 hU' => ?_)
    by_cases c0 : (low5 (strikeZ A 3 B 0)) 1 = 0
    · rw [if_pos c0] at hdr
      refine m_iload_n dX8_divides_18 rfl ?_
      refine m_iload_n dX8_divides_19 rfl ?_
      refine m_icmp_lt (t := 151) dX8_divides_20 (by decide) (fun _ => ?_) (fun y => absurd hdr y)
      exact m_return hF dX8_divides_151 rfl rfl rfl ⟨rfl, U', rfl, fun j hj => by rw [hU' j hj, strike_0 c0, low5_low5 j hj]⟩
    rw [if_neg c0] at hdr
    rw [show orN (dgZ (low5 (strikeZ A 3 B 0))) = 1 from (by rw [hdr.1]; rfl)]
    refine l_X8_div_1_0 (hp := va_up hp 81 (eL 5 U')) ((va_up_ne _ _ (by decide)).trans h1) (va_up_self _ _ _) ((va_up_ne _ _ (by decide)).trans h3) hq hU' hR c0 hBd m1 (m4 rfl) (fun U2 v4 v5 v6 v7 v8 hU2 => ?_)
    rw [va_uu]
    refine m_iload_n dX8_divides_18 rfl ?_
    refine m_iload_n dX8_divides_19 rfl ?_
    refine m_icmp_lt (t := 151) dX8_divides_20 (by decide) (fun _ => ?_) (fun y => absurd hdr.2 y)
    exact m_return hF dX8_divides_151 rfl rfl rfl ⟨rfl, U2, rfl, hU2⟩
  · rw [pA, pB] at hrem hdrop
    have hAe : A 4 ≠ 0 := (by have y := dN_ne hgA; rw [pA] at y; exact y)
    have hBd : B 1 ≠ 0 := (by have y := dN_ne hgB; rw [pB] at y; exact y)
    obtain ⟨m1, m2, m3, m4⟩ := hrem
    rw [pA, pB] at hF
    rw [pA, pB]
    show mW _ _ _ _ _ _ 18 [_, _, .int 1, .int 4, _, _, _, _, _] _
    rw [show remZ A B 4 1 = (low5 (strikeZ (low5 (strikeZ A 4 B 1)) 2 B 1)) from if_pos (by decide)] at hF
    have hdr : if (low5 (strikeZ A 4 B 1)) 2 = 0 then orN (dgZ (low5 (strikeZ A 4 B 1))) < 1 else dgZ (low5 (strikeZ A 4 B 1)) = 2 ∧ orN (dgZ (low5 (strikeZ (low5 (strikeZ A 4 B 1)) 2 B 1))) < 1 := (by unfold dropOk at hdrop; rw [if_pos (by decide)] at hdrop; exact hdrop)
    refine l_X8_div_4_1 h1 h2 h3 hq hU hR hAe hBd m1 m3 (fun U' v4 v5 v6 v7 v8 hU' => ?_)
    by_cases c0 : (low5 (strikeZ A 4 B 1)) 2 = 0
    · rw [if_pos c0] at hdr
      refine m_iload_n dX8_divides_18 rfl ?_
      refine m_iload_n dX8_divides_19 rfl ?_
      refine m_icmp_lt (t := 151) dX8_divides_20 (by decide) (fun _ => ?_) (fun y => absurd hdr y)
      exact m_return hF dX8_divides_151 rfl rfl rfl ⟨rfl, U', rfl, fun j hj => by rw [hU' j hj, strike_0 c0, low5_low5 j hj]⟩
    rw [if_neg c0] at hdr
    rw [show orN (dgZ (low5 (strikeZ A 4 B 1))) = 2 from (by rw [hdr.1]; rfl)]
    refine l_X8_div_2_1 (hp := va_up hp 81 (eL 5 U')) ((va_up_ne _ _ (by decide)).trans h1) (va_up_self _ _ _) ((va_up_ne _ _ (by decide)).trans h3) hq hU' hR c0 hBd m1 (m4 rfl) (fun U2 v4 v5 v6 v7 v8 hU2 => ?_)
    rw [va_uu]
    refine m_iload_n dX8_divides_18 rfl ?_
    refine m_iload_n dX8_divides_19 rfl ?_
    refine m_icmp_lt (t := 151) dX8_divides_20 (by decide) (fun _ => ?_) (fun y => absurd hdr.2 y)
    exact m_return hF dX8_divides_151 rfl rfl rfl ⟨rfl, U2, rfl, hU2⟩

