/-! ===== the reference: off, judged ===== -/
def tmF (c : Int32) (i k : Nat) : Int32 := if nI (i / 2 ^ k % 2) = 1 then c else 10 - c
def tmM (c : Int32) (i : Nat) : Int32 := 1 * tmF c i 0 * tmF c i 1 * tmF c i 2 * tmF c i 3 * tmF c i 4
set_option maxRecDepth 100000 in
theorem tmM_N : ∀ c : Nat, c < 11 → ∀ i : Nat, i < 32 → tmM (nI c) i = odI (nI c) (bcI (nI i)) := by decide
theorem tmM_odI {c : Int32} (h : inC c 11) {i : Nat} (hi : i < 32) : tmM c i = odI c (bcI (nI i)) := by
  obtain ⟨w, hw, rfl, -⟩ := inC_N h
  exact tmM_N w hw i hi
abbrev gcI (a : Int32) : Int32 := (lZ ((Nat.gcd a.toInt.natAbs (100000 : Int).natAbs : Nat) : Int)).toInt32
theorem gcI_ok (a : Int32) : 1 ≤ gcI a ∧ gcI a ≠ 0 := by
  have h1 : 0 < Nat.gcd a.toInt.natAbs (100000 : Int).natAbs := Nat.gcd_pos_of_pos_right _ (by decide)
  have h2 : Nat.gcd a.toInt.natAbs (100000 : Int).natAbs ≤ (100000 : Int).natAbs := Nat.gcd_le_right _ (by decide)
  have h3 : (100000 : Int).natAbs = 100000 := rfl
  rw [h3] at h2
  have e : gcI a = nI (Nat.gcd a.toInt.natAbs (100000 : Int).natAbs) := dr_3 (by rw [h3]; omega)
  rw [h3] at h1
  rw [h3] at e
  rw [e]
  constructor
  · rw [Int32.le_iff_toInt_le, nI_toInt (by omega), show (1 : Int32).toInt = 1 by decide]
    omega
  · intro q
    have := congrArg Int32.toInt q
    rw [nI_toInt (by omega), show (0 : Int32).toInt = 0 by decide] at this
    omega
theorem offC_g (a : Int32) : offC a = gcI a := if_pos (gcI_ok a).1
set_option maxHeartbeats 400000 in
set_option maxRecDepth 100000 in
theorem l_X8_off {n : Nat} {hp0 : mHp} {S : TS} {ia tm : Int32} {c w V : Int32} (hc : inC c 11) (hV : V = offW (offA S c) w) (hC : okC S.1) (hTU : TUK) (hST : STK) {K : mK} (hF : mFin K D_X8_off n (qM hp0 S ia tm V)) : ∀ (r i : Nat) (hp : mHp) (t : Int32) (vx vy : Value), i + r = 32 → mRep hp S ia tm → mScX hp → (∀ _ : Unit, offS (fun i => stA (offP S.1 i)) (fun i => odI c (bcI (nI i))) r i t = offA S c) → offM hp0 hp → mW K D_X8_off 0 0 n hp 29 [.ref 67, .int c, .int w, .int t, .int (nI i), vx, vy] [] := by
  intro r
  induction r using Nat.strongRecOn with
  | ind r ih =>
    intro i hp t vx vy hir h hX hv ho
    have hR := h
    obtain ⟨ri, ev, le, ch, ls, rm, sm, ra, fa, C, PA, h1, h2, h3, h4, h5, h6⟩ := h
    obtain ⟨Z0, A0, T0, Pr, s1, s2, s3, s4⟩ := hX
    have y1 : ∀ f : mE, va_up hp 76 f 67 = _ := fun f => (va_up_ne _ _ (by decide)).trans h1
    have y2 : ∀ f : mE, va_up hp 76 f 68 = eI 12 C := fun f => (va_up_ne _ _ (by decide)).trans h2
    refine m_iload dX8_off_29 rfl ?_
    refine m_bipush (v := 32) dX8_off_31 (by decide) ?_
    refine m_icmp_ge (t := 124) dX8_off_33 (by decide) (fun cc => ?_) (fun cc => ?_)
    · have hr : r = 0 := by have := nI_cmp' (b := 32) (by decide) (by omega) cc; omega
      subst hr
      have ht : ∀ _ : Unit, t = offA S c := fun _ => hv ()
      refine m_iload_n dX8_off_124 rfl ?_
      refine m_i2l dX8_off_125 ?_
      refine m_cl (v := lZ t.toInt) lZ_i ?_
      refine m_ldc2 dX8_off_126 cl_X8_216 ?_
      refine m_invS_L dX8_off_129 lk_X8_176 ar_X8_divisor (t_X8_divisor (x := t.toInt) (y := 100000) bdZ_i (by unfold bdZ; omega)) rfl (Nat.le_of_ble_eq_true rfl) (by decide) (by decide) (by decide) (by decide) rfl rfl ?_
      try rw [va_uu]
      refine m_l2i dX8_off_132 ?_
      refine m_istore dX8_off_133 (by decide) ?_
      show mW _ _ _ _ _ _ 135 [_, _, _, _, _, _, _] _
      refine m_iload_n dX8_off_135 rfl ?_
      refine m_if_ne (t := 146) dX8_off_136 (by decide) (fun c136 => ?_) (fun c136 => ?_)
      · refine m_ldc dX8_off_146 ct_X8_218 ?_
        refine m_iload dX8_off_148 rfl ?_
        refine m_idiv dX8_off_150 (gcI_ok t).2 ?_
        exact m_ireturn hF dX8_off_151 rfl rfl rfl ⟨by rw [hV, ← ht ()]; unfold offW; rw [offC_g, if_neg c136], hR, ⟨Z0, A0, T0, Pr, s1, s2, s3, s4⟩, ho⟩
      refine m_iload_n dX8_off_139 rfl ?_
      refine m_iload dX8_off_140 rfl ?_
      refine m_idiv dX8_off_142 (gcI_ok t).2 ?_
      refine m_goto (t := 151) dX8_off_143 (by decide) ?_
      exact m_ireturn hF dX8_off_151 rfl rfl rfl ⟨by rw [hV, ← ht ()]; unfold offW; rw [offC_g, if_pos c136], hR, ⟨Z0, A0, T0, Pr, s1, s2, s3, s4⟩, ho⟩
    have hi4 : i < 32 := nI_cmp (by decide) (by omega) cc
    obtain ⟨r, rfl⟩ : ∃ r', r = r' + 1 := ⟨r - 1, by omega⟩
    rw [offS] at hv
    refine m_iconst (v := 1) dX8_off_36 (by decide) ?_
    refine m_istore dX8_off_37 (by decide) ?_
    show mW _ _ _ _ _ _ 39 [_, _, _, _, _, _, _] _
    refine m_iconst (v := 0) dX8_off_39 (by decide) ?_
    refine m_istore dX8_off_40 (by decide) ?_
    show mW _ _ _ _ _ _ 42 [_, _, _, _, _, _, _] _
    refine m_iload dX8_off_42 rfl ?_
    refine m_iconst (v := 5) dX8_off_44 (by decide) ?_
    refine m_icmp_ge (t := 101) dX8_off_45 (by decide) (fun q => absurd q (by decide)) (fun _ => ?_)
    refine m_aload_n dX8_off_48 rfl ?_
    refine m_getfield dX8_off_49 fl_X8_39 (by first | assumption | rfl | exact y1 _ | exact y2 _ | exact va_up_self _ _ _) (by first | assumption | rfl | exact y1 _ | exact y2 _ | exact va_up_self _ _ _) ?_
    show mW _ _ _ _ _ _ _ _ (.ref _ :: _)
    refine m_iload dX8_off_52 rfl ?_
    refine m_aload_n dX8_off_54 rfl ?_
    refine m_getfield dX8_off_55 fl_X8_7 (by first | assumption | rfl | exact y1 _ | exact y2 _ | exact va_up_self _ _ _) (by first | assumption | rfl | exact y1 _ | exact y2 _ | exact va_up_self _ _ _) ?_
    show mW _ _ _ _ _ _ _ _ (.ref _ :: _)
    refine m_iload dX8_off_58 rfl ?_
    refine m_iaload (k := 0) dX8_off_60 (by first | assumption | rfl | exact y1 _ | exact y2 _ | exact va_up_self _ _ _) ⟨by decide, by decide⟩ ?_
    refine m_iload dX8_off_61 rfl ?_
    refine m_iload dX8_off_63 rfl ?_
    refine m_ishr dX8_off_65 ?_
    refine m_ci (v := nI (i / 2 ^ 0)) (off_shr i hi4 0 (by decide)) ?_
    refine m_iconst (v := 1) dX8_off_66 (by decide) ?_
    refine m_iand dX8_off_67 ?_
    refine m_ci (v := nI (i / 2 ^ 0 % 2)) (off_and _ (div_lt32 hi4)) ?_
    refine m_iadd dX8_off_68 ?_
    refine m_i2l dX8_off_69 ?_
    refine m_lastore (k := 0) dX8_off_70 (by first | assumption | rfl | exact y1 _ | exact y2 _ | exact va_up_self _ _ _) ⟨by decide, by decide⟩ ?_
    try rw [va_uu]
    refine m_iload dX8_off_71 rfl ?_
    refine m_iload dX8_off_73 rfl ?_
    refine m_iload dX8_off_75 rfl ?_
    refine m_ishr dX8_off_77 ?_
    refine m_ci (v := nI (i / 2 ^ 0)) (off_shr i hi4 0 (by decide)) ?_
    refine m_iconst (v := 1) dX8_off_78 (by decide) ?_
    refine m_iand dX8_off_79 ?_
    refine m_ci (v := nI (i / 2 ^ 0 % 2)) (off_and _ (div_lt32 hi4)) ?_
    refine m_iconst (v := 1) dX8_off_80 (by decide) ?_
    refine m_ternN_I (J := 92) (x := 10 - c) (y := c) (m_icmp_ne (t := 88) dX8_off_81 (by decide)) (fun k9 => ?_) (fun k9 => ?_) ?_
    · refine m_bipush (v := 10) dX8_off_88 (by decide) ?_
      refine m_iload_n dX8_off_90 rfl ?_
      refine m_isub dX8_off_91 ?_
      exact k9
    · refine m_iload_n dX8_off_84 rfl ?_
      refine m_goto (t := 92) dX8_off_85 (by decide) ?_
      exact k9
    refine m_imul dX8_off_92 ?_
    refine m_istore dX8_off_93 (by decide) ?_
    show mW _ _ _ _ _ _ 95 [_, _, _, _, _, _, _] _
    refine m_iinc (v := 1) dX8_off_95 rfl (by decide) (by decide) ?_
    show mW _ _ _ _ _ _ 98 [_, _, _, _, _, _, _] _
    refine m_goto (t := 42) dX8_off_98 (by decide) ?_
    refine m_iload dX8_off_42 rfl ?_
    refine m_iconst (v := 5) dX8_off_44 (by decide) ?_
    refine m_icmp_ge (t := 101) dX8_off_45 (by decide) (fun q => absurd q (by decide)) (fun _ => ?_)
    refine m_aload_n dX8_off_48 rfl ?_
    refine m_getfield dX8_off_49 fl_X8_39 (by first | assumption | rfl | exact y1 _ | exact y2 _ | exact va_up_self _ _ _) (by first | assumption | rfl | exact y1 _ | exact y2 _ | exact va_up_self _ _ _) ?_
    show mW _ _ _ _ _ _ _ _ (.ref _ :: _)
    refine m_iload dX8_off_52 rfl ?_
    refine m_aload_n dX8_off_54 rfl ?_
    refine m_getfield dX8_off_55 fl_X8_7 (by first | assumption | rfl | exact y1 _ | exact y2 _ | exact va_up_self _ _ _) (by first | assumption | rfl | exact y1 _ | exact y2 _ | exact va_up_self _ _ _) ?_
    show mW _ _ _ _ _ _ _ _ (.ref _ :: _)
    refine m_iload dX8_off_58 rfl ?_
    refine m_iaload (k := 1) dX8_off_60 (by first | assumption | rfl | exact y1 _ | exact y2 _ | exact va_up_self _ _ _) ⟨by decide, by decide⟩ ?_
    refine m_iload dX8_off_61 rfl ?_
    refine m_iload dX8_off_63 rfl ?_
    refine m_ishr dX8_off_65 ?_
    refine m_ci (v := nI (i / 2 ^ 1)) (off_shr i hi4 1 (by decide)) ?_
    refine m_iconst (v := 1) dX8_off_66 (by decide) ?_
    refine m_iand dX8_off_67 ?_
    refine m_ci (v := nI (i / 2 ^ 1 % 2)) (off_and _ (div_lt32 hi4)) ?_
    refine m_iadd dX8_off_68 ?_
    refine m_i2l dX8_off_69 ?_
    refine m_lastore (k := 1) dX8_off_70 (by first | assumption | rfl | exact y1 _ | exact y2 _ | exact va_up_self _ _ _) ⟨by decide, by decide⟩ ?_
    try rw [va_uu]
    refine m_iload dX8_off_71 rfl ?_
    refine m_iload dX8_off_73 rfl ?_
    refine m_iload dX8_off_75 rfl ?_
    refine m_ishr dX8_off_77 ?_
    refine m_ci (v := nI (i / 2 ^ 1)) (off_shr i hi4 1 (by decide)) ?_
    refine m_iconst (v := 1) dX8_off_78 (by decide) ?_
    refine m_iand dX8_off_79 ?_
    refine m_ci (v := nI (i / 2 ^ 1 % 2)) (off_and _ (div_lt32 hi4)) ?_
    refine m_iconst (v := 1) dX8_off_80 (by decide) ?_
    refine m_ternN_I (J := 92) (x := 10 - c) (y := c) (m_icmp_ne (t := 88) dX8_off_81 (by decide)) (fun k9 => ?_) (fun k9 => ?_) ?_
    · refine m_bipush (v := 10) dX8_off_88 (by decide) ?_
      refine m_iload_n dX8_off_90 rfl ?_
      refine m_isub dX8_off_91 ?_
      exact k9
    · refine m_iload_n dX8_off_84 rfl ?_
      refine m_goto (t := 92) dX8_off_85 (by decide) ?_
      exact k9
    refine m_imul dX8_off_92 ?_
    refine m_istore dX8_off_93 (by decide) ?_
    show mW _ _ _ _ _ _ 95 [_, _, _, _, _, _, _] _
    refine m_iinc (v := 2) dX8_off_95 rfl (by decide) (by decide) ?_
    show mW _ _ _ _ _ _ 98 [_, _, _, _, _, _, _] _
    refine m_goto (t := 42) dX8_off_98 (by decide) ?_
    refine m_iload dX8_off_42 rfl ?_
    refine m_iconst (v := 5) dX8_off_44 (by decide) ?_
    refine m_icmp_ge (t := 101) dX8_off_45 (by decide) (fun q => absurd q (by decide)) (fun _ => ?_)
    refine m_aload_n dX8_off_48 rfl ?_
    refine m_getfield dX8_off_49 fl_X8_39 (by first | assumption | rfl | exact y1 _ | exact y2 _ | exact va_up_self _ _ _) (by first | assumption | rfl | exact y1 _ | exact y2 _ | exact va_up_self _ _ _) ?_
    show mW _ _ _ _ _ _ _ _ (.ref _ :: _)
    refine m_iload dX8_off_52 rfl ?_
    refine m_aload_n dX8_off_54 rfl ?_
    refine m_getfield dX8_off_55 fl_X8_7 (by first | assumption | rfl | exact y1 _ | exact y2 _ | exact va_up_self _ _ _) (by first | assumption | rfl | exact y1 _ | exact y2 _ | exact va_up_self _ _ _) ?_
    show mW _ _ _ _ _ _ _ _ (.ref _ :: _)
    refine m_iload dX8_off_58 rfl ?_
    refine m_iaload (k := 2) dX8_off_60 (by first | assumption | rfl | exact y1 _ | exact y2 _ | exact va_up_self _ _ _) ⟨by decide, by decide⟩ ?_
    refine m_iload dX8_off_61 rfl ?_
    refine m_iload dX8_off_63 rfl ?_
    refine m_ishr dX8_off_65 ?_
    refine m_ci (v := nI (i / 2 ^ 2)) (off_shr i hi4 2 (by decide)) ?_
    refine m_iconst (v := 1) dX8_off_66 (by decide) ?_
    refine m_iand dX8_off_67 ?_
    refine m_ci (v := nI (i / 2 ^ 2 % 2)) (off_and _ (div_lt32 hi4)) ?_
    refine m_iadd dX8_off_68 ?_
    refine m_i2l dX8_off_69 ?_
    refine m_lastore (k := 2) dX8_off_70 (by first | assumption | rfl | exact y1 _ | exact y2 _ | exact va_up_self _ _ _) ⟨by decide, by decide⟩ ?_
    try rw [va_uu]
    refine m_iload dX8_off_71 rfl ?_
    refine m_iload dX8_off_73 rfl ?_
    refine m_iload dX8_off_75 rfl ?_
    refine m_ishr dX8_off_77 ?_
    refine m_ci (v := nI (i / 2 ^ 2)) (off_shr i hi4 2 (by decide)) ?_
    refine m_iconst (v := 1) dX8_off_78 (by decide) ?_
    refine m_iand dX8_off_79 ?_
    refine m_ci (v := nI (i / 2 ^ 2 % 2)) (off_and _ (div_lt32 hi4)) ?_
    refine m_iconst (v := 1) dX8_off_80 (by decide) ?_
    refine m_ternN_I (J := 92) (x := 10 - c) (y := c) (m_icmp_ne (t := 88) dX8_off_81 (by decide)) (fun k9 => ?_) (fun k9 => ?_) ?_
    · refine m_bipush (v := 10) dX8_off_88 (by decide) ?_
      refine m_iload_n dX8_off_90 rfl ?_
      refine m_isub dX8_off_91 ?_
      exact k9
    · refine m_iload_n dX8_off_84 rfl ?_
      refine m_goto (t := 92) dX8_off_85 (by decide) ?_
      exact k9
    refine m_imul dX8_off_92 ?_
    refine m_istore dX8_off_93 (by decide) ?_
    show mW _ _ _ _ _ _ 95 [_, _, _, _, _, _, _] _
    refine m_iinc (v := 3) dX8_off_95 rfl (by decide) (by decide) ?_
    show mW _ _ _ _ _ _ 98 [_, _, _, _, _, _, _] _
    refine m_goto (t := 42) dX8_off_98 (by decide) ?_
    refine m_iload dX8_off_42 rfl ?_
    refine m_iconst (v := 5) dX8_off_44 (by decide) ?_
    refine m_icmp_ge (t := 101) dX8_off_45 (by decide) (fun q => absurd q (by decide)) (fun _ => ?_)
    refine m_aload_n dX8_off_48 rfl ?_
    refine m_getfield dX8_off_49 fl_X8_39 (by first | assumption | rfl | exact y1 _ | exact y2 _ | exact va_up_self _ _ _) (by first | assumption | rfl | exact y1 _ | exact y2 _ | exact va_up_self _ _ _) ?_
    show mW _ _ _ _ _ _ _ _ (.ref _ :: _)
    refine m_iload dX8_off_52 rfl ?_
    refine m_aload_n dX8_off_54 rfl ?_
    refine m_getfield dX8_off_55 fl_X8_7 (by first | assumption | rfl | exact y1 _ | exact y2 _ | exact va_up_self _ _ _) (by first | assumption | rfl | exact y1 _ | exact y2 _ | exact va_up_self _ _ _) ?_
    show mW _ _ _ _ _ _ _ _ (.ref _ :: _)
    refine m_iload dX8_off_58 rfl ?_
    refine m_iaload (k := 3) dX8_off_60 (by first | assumption | rfl | exact y1 _ | exact y2 _ | exact va_up_self _ _ _) ⟨by decide, by decide⟩ ?_
    refine m_iload dX8_off_61 rfl ?_
    refine m_iload dX8_off_63 rfl ?_
    refine m_ishr dX8_off_65 ?_
    refine m_ci (v := nI (i / 2 ^ 3)) (off_shr i hi4 3 (by decide)) ?_
    refine m_iconst (v := 1) dX8_off_66 (by decide) ?_
    refine m_iand dX8_off_67 ?_
    refine m_ci (v := nI (i / 2 ^ 3 % 2)) (off_and _ (div_lt32 hi4)) ?_
    refine m_iadd dX8_off_68 ?_
    refine m_i2l dX8_off_69 ?_
    refine m_lastore (k := 3) dX8_off_70 (by first | assumption | rfl | exact y1 _ | exact y2 _ | exact va_up_self _ _ _) ⟨by decide, by decide⟩ ?_
    try rw [va_uu]
    refine m_iload dX8_off_71 rfl ?_
    refine m_iload dX8_off_73 rfl ?_
    refine m_iload dX8_off_75 rfl ?_
    refine m_ishr dX8_off_77 ?_
    refine m_ci (v := nI (i / 2 ^ 3)) (off_shr i hi4 3 (by decide)) ?_
    refine m_iconst (v := 1) dX8_off_78 (by decide) ?_
    refine m_iand dX8_off_79 ?_
    refine m_ci (v := nI (i / 2 ^ 3 % 2)) (off_and _ (div_lt32 hi4)) ?_
    refine m_iconst (v := 1) dX8_off_80 (by decide) ?_
    refine m_ternN_I (J := 92) (x := 10 - c) (y := c) (m_icmp_ne (t := 88) dX8_off_81 (by decide)) (fun k9 => ?_) (fun k9 => ?_) ?_
    · refine m_bipush (v := 10) dX8_off_88 (by decide) ?_
      refine m_iload_n dX8_off_90 rfl ?_
      refine m_isub dX8_off_91 ?_
      exact k9
    · refine m_iload_n dX8_off_84 rfl ?_
      refine m_goto (t := 92) dX8_off_85 (by decide) ?_
      exact k9
    refine m_imul dX8_off_92 ?_
    refine m_istore dX8_off_93 (by decide) ?_
    show mW _ _ _ _ _ _ 95 [_, _, _, _, _, _, _] _
    refine m_iinc (v := 4) dX8_off_95 rfl (by decide) (by decide) ?_
    show mW _ _ _ _ _ _ 98 [_, _, _, _, _, _, _] _
    refine m_goto (t := 42) dX8_off_98 (by decide) ?_
    refine m_iload dX8_off_42 rfl ?_
    refine m_iconst (v := 5) dX8_off_44 (by decide) ?_
    refine m_icmp_ge (t := 101) dX8_off_45 (by decide) (fun q => absurd q (by decide)) (fun _ => ?_)
    refine m_aload_n dX8_off_48 rfl ?_
    refine m_getfield dX8_off_49 fl_X8_39 (by first | assumption | rfl | exact y1 _ | exact y2 _ | exact va_up_self _ _ _) (by first | assumption | rfl | exact y1 _ | exact y2 _ | exact va_up_self _ _ _) ?_
    show mW _ _ _ _ _ _ _ _ (.ref _ :: _)
    refine m_iload dX8_off_52 rfl ?_
    refine m_aload_n dX8_off_54 rfl ?_
    refine m_getfield dX8_off_55 fl_X8_7 (by first | assumption | rfl | exact y1 _ | exact y2 _ | exact va_up_self _ _ _) (by first | assumption | rfl | exact y1 _ | exact y2 _ | exact va_up_self _ _ _) ?_
    show mW _ _ _ _ _ _ _ _ (.ref _ :: _)
    refine m_iload dX8_off_58 rfl ?_
    refine m_iaload (k := 4) dX8_off_60 (by first | assumption | rfl | exact y1 _ | exact y2 _ | exact va_up_self _ _ _) ⟨by decide, by decide⟩ ?_
    refine m_iload dX8_off_61 rfl ?_
    refine m_iload dX8_off_63 rfl ?_
    refine m_ishr dX8_off_65 ?_
    refine m_ci (v := nI (i / 2 ^ 4)) (off_shr i hi4 4 (by decide)) ?_
    refine m_iconst (v := 1) dX8_off_66 (by decide) ?_
    refine m_iand dX8_off_67 ?_
    refine m_ci (v := nI (i / 2 ^ 4 % 2)) (off_and _ (div_lt32 hi4)) ?_
    refine m_iadd dX8_off_68 ?_
    refine m_i2l dX8_off_69 ?_
    refine m_lastore (k := 4) dX8_off_70 (by first | assumption | rfl | exact y1 _ | exact y2 _ | exact va_up_self _ _ _) ⟨by decide, by decide⟩ ?_
    try rw [va_uu]
    refine m_iload dX8_off_71 rfl ?_
    refine m_iload dX8_off_73 rfl ?_
    refine m_iload dX8_off_75 rfl ?_
    refine m_ishr dX8_off_77 ?_
    refine m_ci (v := nI (i / 2 ^ 4)) (off_shr i hi4 4 (by decide)) ?_
    refine m_iconst (v := 1) dX8_off_78 (by decide) ?_
    refine m_iand dX8_off_79 ?_
    refine m_ci (v := nI (i / 2 ^ 4 % 2)) (off_and _ (div_lt32 hi4)) ?_
    refine m_iconst (v := 1) dX8_off_80 (by decide) ?_
    refine m_ternN_I (J := 92) (x := 10 - c) (y := c) (m_icmp_ne (t := 88) dX8_off_81 (by decide)) (fun k9 => ?_) (fun k9 => ?_) ?_
    · refine m_bipush (v := 10) dX8_off_88 (by decide) ?_
      refine m_iload_n dX8_off_90 rfl ?_
      refine m_isub dX8_off_91 ?_
      exact k9
    · refine m_iload_n dX8_off_84 rfl ?_
      refine m_goto (t := 92) dX8_off_85 (by decide) ?_
      exact k9
    refine m_imul dX8_off_92 ?_
    refine m_istore dX8_off_93 (by decide) ?_
    show mW _ _ _ _ _ _ 95 [_, _, _, _, _, _, _] _
    refine m_iinc (v := 5) dX8_off_95 rfl (by decide) (by decide) ?_
    show mW _ _ _ _ _ _ 98 [_, _, _, _, _, _, _] _
    refine m_goto (t := 42) dX8_off_98 (by decide) ?_
    refine m_iload dX8_off_42 rfl ?_
    refine m_iconst (v := 5) dX8_off_44 (by decide) ?_
    refine m_icmp_ge (t := 101) dX8_off_45 (by decide) (fun _ => ?_) (fun q => absurd (by decide) q)
    refine m_iload_n dX8_off_101 rfl ?_
    refine m_aload_n dX8_off_102 rfl ?_
    refine m_iconst (v := 0) dX8_off_103 (by decide) ?_
    refine m_invV dX8_off_104 lk_X8_204 ar_X8_isSteady (ci := 8) rfl rfl (by first | assumption | rfl | exact y1 _ | exact y2 _ | exact va_up_self _ _ _) (t_st (b := 0) (Z := fill5 (offP C i) Z0) (hR.of (fun q r1 r2 => va_up_ne _ _ (by omega))) ⟨A0, T0, Pr, va_up_self _ _ _, (va_up_ne _ _ (by decide)).trans s2, (va_up_ne _ _ (by decide)).trans s3, (va_up_ne _ _ (by decide)).trans s4⟩ hTU hST (bL_eq (offP_b hC.1) (fun t ht => (fill5_at ht).trans (offP_eq (fun t ht => h5 t (by omega)) ht))) (by decide)) rfl (Nat.le_of_ble_eq_true rfl) (by decide) (by decide) (by decide) (by decide) (fun v hp' q => ?_)
    obtain ⟨x, rfl, x01, xs, gR, gX, gO⟩ := q
    have e9 : stB 0 (fill5 (offP C i) Z0) = stA (offP S.1 i) := (stB_eq (b := 0) (fun t ht => (fill5_at ht).trans (offP_eq (fun t ht => h5 t (by omega)) ht))).trans stB_0
    rw [e9] at xs
    have gO' : offM hp0 hp' := fun q hq => (by rw [gO q hq, va_up_ne _ _ (by omega)]; exact ho q hq)
    show mW K _ 0 0 n hp' 107 [.ref 67, .int c, .int w, .int t, .int (nI i), .int (tmM c i), .int 5] [.int x, .int t]
    refine m_if_eq (t := 115) dX8_off_107 (by decide) (fun c107 => ?_) (fun c107 => ?_)
    · rw [if_pos (xs.mp c107)] at hv
      refine m_iconst (v := 0) dX8_off_115 (by decide) ?_
      refine m_iadd dX8_off_116 ?_
      refine m_istore_n dX8_off_117 (by decide) ?_
      show mW _ _ _ _ _ _ 118 [_, _, _, _, _, _, _] _
      refine m_iinc (v := nI (i + 1)) dX8_off_118 rfl (nI_1 i) (by decide) ?_
      show mW _ _ _ _ _ _ 121 [_, _, _, _, _, _, _] _
      refine m_goto (t := 29) dX8_off_121 (by decide) ?_
      exact ih r (by omega) (i + 1) hp' _ _ _ (by omega) gR gX (fun _ => by have hw := hv (); rw [Int32.add_zero]; exact hw) gO'
    rw [if_neg (fun y => c107 (xs.mpr y))] at hv
    refine m_iload dX8_off_110 rfl ?_
    refine m_goto (t := 116) dX8_off_112 (by decide) ?_
    refine m_iadd dX8_off_116 ?_
    refine m_istore_n dX8_off_117 (by decide) ?_
    show mW _ _ _ _ _ _ 118 [_, _, _, _, _, _, _] _
    refine m_iinc (v := nI (i + 1)) dX8_off_118 rfl (nI_1 i) (by decide) ?_
    show mW _ _ _ _ _ _ 121 [_, _, _, _, _, _, _] _
    refine m_goto (t := 29) dX8_off_121 (by decide) ?_
    exact ih r (by omega) (i + 1) hp' _ _ _ (by omega) gR gX (fun _ => by have hw := hv (); rw [← tmM_odI hc hi4] at hw; exact hw) gO'

theorem in010 {c : Int32} : inI c.toInt64 0 10 = 0 ↔ ¬ (0 ≤ c ∧ c ≤ 10) := by
  rw [inI_iff (x := 0) (y := 10) (by decide) (by decide), Int32.le_iff_toInt_le, Int32.le_iff_toInt_le, show (0 : Int32).toInt = 0 by decide, show (10 : Int32).toInt = 10 by decide]
set_option maxHeartbeats 400000 in
set_option maxRecDepth 100000 in
theorem t_X8_off {n : Nat} {hp : mHp} {S : TS} {ia tm : Int32} (h : mRep hp S ia tm) (hX : mScX hp) (hC : okC S.1) (hTU : TUK) (hST : STK) {c w : Int32} : mC D_X8_off [.ref 67, .int c, .int w] n hp (qM hp S ia tm (sOff S c w)) := by
  refine m_enter rfl rfl (Nat.le_of_ble_eq_true rfl) (fun K hF => ?_)
  show mW K _ 0 0 _ _ 0 [.ref 67, .int c, .int w, .retAddr 0, .retAddr 0, .retAddr 0, .retAddr 0] []
  refine m_iload_n dX8_off_0 rfl ?_
  refine m_i2l dX8_off_1 ?_
  refine m_lconst (v := 0) dX8_off_2 (by decide) ?_
  refine m_ldc2 dX8_off_3 cl_X8_214 ?_
  refine m_invS_I dX8_off_6 lk_X8_141 ar_X8_in (t_X8_in) rfl (Nat.le_of_ble_eq_true rfl) (by decide) (by decide) (by decide) (by decide) rfl rfl ?_
  try rw [va_uu]
  refine m_if_eq (t := 22) dX8_off_9 (by decide) (fun c9 => ?_) (fun c9 => ?_)
  · refine m_iconst (v := -1) dX8_off_22 (by decide) ?_
    exact m_ireturn hF dX8_off_23 rfl rfl rfl ⟨by unfold sOff; rw [if_neg (by rintro ⟨y0, y1, y2⟩; first | exact in010.mp c9 ⟨y0, y1⟩ | exact in2_iff.mp c19 y2)], h, hX, offM.rf⟩
  refine m_iload_n dX8_off_12 rfl ?_
  refine m_i2l dX8_off_13 ?_
  refine m_lconst (v := 0) dX8_off_14 (by decide) ?_
  refine m_lconst (v := 1) dX8_off_15 (by decide) ?_
  refine m_invS_I dX8_off_16 lk_X8_141 ar_X8_in (t_X8_in) rfl (Nat.le_of_ble_eq_true rfl) (by decide) (by decide) (by decide) (by decide) rfl rfl ?_
  try rw [va_uu]
  refine m_if_ne (t := 24) dX8_off_19 (by decide) (fun c19 => ?_) (fun c19 => ?_)
  rotate_left
  · refine m_iconst (v := -1) dX8_off_22 (by decide) ?_
    exact m_ireturn hF dX8_off_23 rfl rfl rfl ⟨by unfold sOff; rw [if_neg (by rintro ⟨y0, y1, y2⟩; first | exact in010.mp c9 ⟨y0, y1⟩ | exact in2_iff.mp c19 y2)], h, hX, offM.rf⟩
  have hc1 : 0 ≤ c ∧ c ≤ 10 := Classical.not_not.mp (fun y => c9 (in010.mpr y))
  have hw2 : inC w 2 := Classical.not_not.mp (fun y => c19 (in2_iff.mpr y))
  have hc : inC c 11 := (by have a := hc1.1; have b := hc1.2; rw [Int32.le_iff_toInt_le, show (0 : Int32).toInt = 0 by decide] at a; rw [Int32.le_iff_toInt_le, show (10 : Int32).toInt = 10 by decide] at b; exact ⟨a, by omega⟩)
  refine m_iconst (v := 0) dX8_off_24 (by decide) ?_
  refine m_istore_n dX8_off_25 (by decide) ?_
  show mW _ _ _ _ _ _ 26 [_, _, _, _, _, _, _] _
  refine m_iconst (v := 0) dX8_off_26 (by decide) ?_
  refine m_istore dX8_off_27 (by decide) ?_
  show mW _ _ _ _ _ _ 29 [_, _, _, _, _, _, _] _
  exact l_X8_off (V := sOff S c w) hc (by unfold sOff; rw [if_pos ⟨hc1.1, hc1.2, hw2⟩]) hC hTU hST hF 32 0 hp 0 _ _ rfl h hX (fun _ => rfl) offM.rf

theorem allP_ok {F : Nat → Int64} : ∀ (m i : Nat), ¬ allP F i m = 0 → ∀ t, i ≤ t → t < i + m → -9 ≤ (F t).toInt ∧ (F t).toInt ≤ 9
  | 0, i, _, t, h1, h2 => absurd h1 (by omega)
  | m + 1, i, h, t, h1, h2 => by
    rw [allP] at h
    by_cases c1 : F i < -9
    · rw [if_pos c1, if_pos rfl] at h
      exact absurd rfl h
    · rw [if_neg c1] at h
      by_cases c2 : 9 < F i
      · rw [if_pos c2, if_pos rfl] at h
        exact absurd rfl h
      · rw [if_neg c2, if_neg (by decide)] at h
        by_cases e : t = i
        · rw [e]
          rw [Int64.lt_iff_toInt_lt, show (-9 : Int64).toInt = -9 by decide] at c1
          rw [Int64.lt_iff_toInt_lt, show (9 : Int64).toInt = 9 by decide] at c2
          omega
        · exact allP_ok m (i + 1) h t (by omega) (by omega)
set_option maxHeartbeats 400000 in
set_option maxRecDepth 100000 in
theorem l_X8_judged1 {n : Nat} {hp : mHp} {ac ia tm ri ev le ch ls rm sm ra fa : Int32} (h1 : hp 67 = eO 8 (oMod ac ia tm ri ev le ch ls rm sm ra fa)) {IT : Nat → Int64} (x3 : hp 75 = eL 96 IT) {F : Nat → Int64} {s a N : Nat} {l v5 : Int32} (hs : s < 4) (hN : N ≤ 4) (haN : a + 5 * N ≤ 24) (hIT : ∀ t, t < a + 5 * N → F t = IT (24 * s + t)) {Q : mQ} {K : mK} (hF : mFin K D_X8_judged n Q) (hb9 : allP F a (5 * N) = 0 → Q (some (.int (-2))) hp) (hk9 : ¬ allP F a (5 * N) = 0 → mW K D_X8_judged 0 0 n hp 95 [.ref 67, .int (nI s), .int l, .int (nI a), .int (nI N), .int v5, .int (nI (24 * s + a)), .int (nI (5 * N)), .retAddr 0, .retAddr 0, .retAddr 0] []) : ∀ m k : Nat, k + m = 5 * N → allP F (a + k) m = allP F a (5 * N) → mW K D_X8_judged 0 0 n hp 55 [.ref 67, .int (nI s), .int l, .int (nI a), .int (nI N), .int v5, .int (nI (24 * s + a)), .int (nI k), .retAddr 0, .retAddr 0, .retAddr 0] [] := by
  intro m
  induction m using Nat.strongRecOn with
  | ind m ih =>
    intro k hkm hv
    refine m_iload dX8_judged_55 rfl ?_
    refine m_iconst (v := 5) dX8_judged_57 (by decide) ?_
    refine m_iload dX8_judged_58 rfl ?_
    refine m_imul dX8_judged_60 ?_
    refine m_ci (v := nI (5 * N)) (nI_mulN 5 N) ?_
    refine m_icmp_ge (t := 95) dX8_judged_61 (by decide) (fun cc => ?_) (fun cc => ?_)
    · have hm0 : m = 0 := by have := nI_cmp' (by omega) (by omega) cc; omega
      subst hm0
      obtain rfl : k = 5 * N := by omega
      exact hk9 (fun y => absurd (hv.trans y) (show ¬ (1 : Int32) = 0 by decide))
    have hlt : k < 5 * N := nI_cmp (by omega) (by omega) cc
    obtain ⟨m, rfl⟩ : ∃ m', m = m' + 1 := ⟨m - 1, by omega⟩
    rw [allP, hIT (a + k) (by omega), ← Nat.add_assoc] at hv
    refine m_aload_n dX8_judged_64 rfl ?_
    refine m_getfield dX8_judged_65 fl_X8_35 (by first | assumption | rfl) (by first | assumption | rfl) ?_
    show mW _ _ _ _ _ _ _ _ (.ref _ :: _)
    refine m_iload dX8_judged_68 rfl ?_
    refine m_iload dX8_judged_70 rfl ?_
    refine m_iadd dX8_judged_72 ?_
    refine m_ci (v := nI (24 * s + a + k)) (nI_add _ k) ?_
    refine m_laload dX8_judged_73 (by first | assumption | rfl) (mIx_lit (show 24 * s + a + k < 96 by omega) (by decide)) ?_
    refine m_ldc2 dX8_judged_74 cl_X8_149 ?_
    refine m_ldc2 dX8_judged_77 cl_X8_151 ?_
    refine m_invS_I dX8_judged_80 lk_X8_141 ar_X8_in (t_X8_in) rfl (Nat.le_of_ble_eq_true rfl) (by decide) (by decide) (by decide) (by decide) rfl rfl ?_
    try rw [va_uu]
    refine m_if_ne (t := 89) dX8_judged_83 (by decide) (fun c83 => ?_) (fun c83 => ?_)
    rotate_left
    · rw [if_pos (show (if IT (24 * s + a + k) < -9 then (0 : Int32) else if 9 < IT (24 * s + a + k) then 0 else 1) = 0 from c83)] at hv
      refine m_bipush (v := -2) dX8_judged_86 (by decide) ?_
      exact m_ireturn hF dX8_judged_88 rfl rfl rfl (hb9 hv.symm)
    rw [if_neg (show ¬ (if IT (24 * s + a + k) < -9 then (0 : Int32) else if 9 < IT (24 * s + a + k) then 0 else 1) = 0 from c83)] at hv
    refine m_iinc (v := nI (k + 1)) dX8_judged_89 rfl (nI_1 k) (by decide) ?_
    show mW _ _ _ _ _ _ 92 [_, _, _, _, _, _, _, _, _, _, _] _
    refine m_goto (t := 55) dX8_judged_92 (by decide) ?_
    exact ih m (by omega) (k + 1) (by omega) hv

set_option maxHeartbeats 400000 in
set_option maxRecDepth 100000 in
theorem l_X8_judged2 {n : Nat} {hp0 : mHp} {S : TS} {X : SH} {s a N : Nat} {l V v5 ia tm : Int32} (hs : s < 4) (hN : N ≤ 4) (hO : okS X) (hSZ : a + 5 * N ≤ tN (X.2.1 s)) (hNM : ¬ X.1 s = -1) (hAP : ¬ allP (X.2.2 s) a (5 * N) = 0) (hTU : TUK) (hST : STK) {K : mK} (hF : mFin K D_X8_judged n (qM hp0 S ia tm V)) : ∀ (r m : Nat) (hp : mHp) (t : Int32) (vx vy : Value), m + r = N → mRep hp S ia tm → mShelf hp X → mScX hp → (∀ _ : Unit, jgS (fun m => stA (jP (X.2.2 s) a m)) (fun m => stC (jP (X.2.2 s) a m)) r m t = V) → offM hp0 hp → mW K D_X8_judged 0 0 n hp 101 [.ref 67, .int (nI s), .int l, .int (nI a), .int (nI N), .int v5, .int (nI (24 * s + a)), .int t, .int (nI m), vx, vy] [] := by
  intro r
  induction r using Nat.strongRecOn with
  | ind r ih =>
    intro m hp t vx vy hir h hX hY hv ho
    have hR := h
    obtain ⟨ri, ev, le, ch, ls, rm, sm, ra, fa, C, PA, h1, h2, h3, h4, h5, h6⟩ := h
    obtain ⟨LN, SZ, IT, x1, x2, x3, x4⟩ := id hX
    obtain ⟨Z0, A0, T0, Pr, s1, s2, s3, s4⟩ := hY
    have y1 : ∀ f : mE, va_up hp 76 f 67 = _ := fun f => (va_up_ne _ _ (by decide)).trans h1
    have y2 : ∀ f : mE, va_up hp 76 f 68 = eI 12 C := fun f => (va_up_ne _ _ (by decide)).trans h2
    have y3 : ∀ f : mE, va_up hp 76 f 75 = eL 96 IT := fun f => (va_up_ne _ _ (by decide)).trans x3
    have h24 : a + 5 * N ≤ 24 := (by have q1 := hO s hs; have q2 : tN (X.2.1 s) = (X.2.1 s).toInt.toNat := rfl; omega)
    have hIT : ∀ t, t < a + 5 * N → X.2.2 s t = IT (24 * s + t) := (by obtain ⟨-, q2⟩ | ⟨-, -, q3, q4⟩ := x4 s hs; exact absurd q2 hNM; exact fun t ht => q4 t (by rw [← q3]; have := hO s hs; omega))
    refine m_iload dX8_judged_101 rfl ?_
    refine m_iload dX8_judged_103 rfl ?_
    refine m_icmp_ge (t := 194) dX8_judged_105 (by decide) (fun cc => ?_) (fun cc => ?_)
    · have hr : r = 0 := by have := nI_cmp' (by omega) (by omega) cc; omega
      subst hr
      refine m_iload dX8_judged_194 rfl ?_
      exact m_ireturn hF dX8_judged_196 rfl rfl rfl ⟨by rw [← hv ()]; rfl, hR, ⟨Z0, A0, T0, Pr, s1, s2, s3, s4⟩, ho⟩
    have hm4 : m < N := nI_cmp (by omega) (by omega) cc
    obtain ⟨r, rfl⟩ : ∃ r', r = r' + 1 := ⟨r - 1, by omega⟩
    refine m_iconst (v := 0) dX8_judged_108 (by decide) ?_
    refine m_istore dX8_judged_109 (by decide) ?_
    show mW _ _ _ _ _ _ 111 [_, _, _, _, _, _, _, _, _, _, _] _
    refine m_iload dX8_judged_111 rfl ?_
    refine m_iconst (v := 2) dX8_judged_113 (by decide) ?_
    refine m_icmp_ge (t := 188) dX8_judged_114 (by decide) (fun q => absurd q (by decide)) (fun _ => ?_)
    refine m_iconst (v := 0) dX8_judged_117 (by decide) ?_
    refine m_istore dX8_judged_118 (by decide) ?_
    show mW _ _ _ _ _ _ 120 [_, _, _, _, _, _, _, _, _, _, _] _
    refine m_iload dX8_judged_120 rfl ?_
    refine m_iconst (v := 5) dX8_judged_122 (by decide) ?_
    refine m_icmp_ge (t := 154) dX8_judged_123 (by decide) (fun q => absurd q (by decide)) (fun _ => ?_)
    refine m_aload_n dX8_judged_126 rfl ?_
    refine m_getfield dX8_judged_127 fl_X8_39 (by first | assumption | rfl | exact y1 _ | exact y3 _ | exact z1 _ | exact z3 _ | exact va_up_self _ _ _) (by first | assumption | rfl | exact y1 _ | exact y3 _ | exact z1 _ | exact z3 _ | exact va_up_self _ _ _) ?_
    show mW _ _ _ _ _ _ _ _ (.ref _ :: _)
    refine m_iload dX8_judged_130 rfl ?_
    refine m_aload_n dX8_judged_132 rfl ?_
    refine m_getfield dX8_judged_133 fl_X8_35 (by first | assumption | rfl | exact y1 _ | exact y3 _ | exact z1 _ | exact z3 _ | exact va_up_self _ _ _) (by first | assumption | rfl | exact y1 _ | exact y3 _ | exact z1 _ | exact z3 _ | exact va_up_self _ _ _) ?_
    show mW _ _ _ _ _ _ _ _ (.ref _ :: _)
    refine m_iload dX8_judged_136 rfl ?_
    refine m_iconst (v := 5) dX8_judged_138 (by decide) ?_
    refine m_iload dX8_judged_139 rfl ?_
    refine m_imul dX8_judged_141 ?_
    refine m_ci (v := nI (5 * m)) (nI_mulN 5 m) ?_
    refine m_iadd dX8_judged_142 ?_
    refine m_ci (v := nI (24 * s + a + 5 * m)) (nI_add _ _) ?_
    refine m_iload dX8_judged_143 rfl ?_
    refine m_iadd dX8_judged_145 ?_
    refine m_ci (v := nI (24 * s + a + 5 * m + 0)) (by exact nI_add (24 * s + a + 5 * m) 0) ?_
    refine m_laload dX8_judged_146 (by first | assumption | rfl | exact y1 _ | exact y3 _ | exact z1 _ | exact z3 _ | exact va_up_self _ _ _) (mIx_lit (show 24 * s + a + 5 * m + 0 < 96 by omega) (by decide)) ?_
    refine m_lastore (k := 0) dX8_judged_147 (by first | assumption | rfl | exact y1 _ | exact y3 _ | exact z1 _ | exact z3 _ | exact va_up_self _ _ _) ⟨by decide, by decide⟩ ?_
    try rw [va_uu]
    refine m_iinc (v := 1) dX8_judged_148 rfl (by decide) (by decide) ?_
    show mW _ _ _ _ _ _ 151 [_, _, _, _, _, _, _, _, _, _, _] _
    refine m_goto (t := 120) dX8_judged_151 (by decide) ?_
    refine m_iload dX8_judged_120 rfl ?_
    refine m_iconst (v := 5) dX8_judged_122 (by decide) ?_
    refine m_icmp_ge (t := 154) dX8_judged_123 (by decide) (fun q => absurd q (by decide)) (fun _ => ?_)
    refine m_aload_n dX8_judged_126 rfl ?_
    refine m_getfield dX8_judged_127 fl_X8_39 (by first | assumption | rfl | exact y1 _ | exact y3 _ | exact z1 _ | exact z3 _ | exact va_up_self _ _ _) (by first | assumption | rfl | exact y1 _ | exact y3 _ | exact z1 _ | exact z3 _ | exact va_up_self _ _ _) ?_
    show mW _ _ _ _ _ _ _ _ (.ref _ :: _)
    refine m_iload dX8_judged_130 rfl ?_
    refine m_aload_n dX8_judged_132 rfl ?_
    refine m_getfield dX8_judged_133 fl_X8_35 (by first | assumption | rfl | exact y1 _ | exact y3 _ | exact z1 _ | exact z3 _ | exact va_up_self _ _ _) (by first | assumption | rfl | exact y1 _ | exact y3 _ | exact z1 _ | exact z3 _ | exact va_up_self _ _ _) ?_
    show mW _ _ _ _ _ _ _ _ (.ref _ :: _)
    refine m_iload dX8_judged_136 rfl ?_
    refine m_iconst (v := 5) dX8_judged_138 (by decide) ?_
    refine m_iload dX8_judged_139 rfl ?_
    refine m_imul dX8_judged_141 ?_
    refine m_ci (v := nI (5 * m)) (nI_mulN 5 m) ?_
    refine m_iadd dX8_judged_142 ?_
    refine m_ci (v := nI (24 * s + a + 5 * m)) (nI_add _ _) ?_
    refine m_iload dX8_judged_143 rfl ?_
    refine m_iadd dX8_judged_145 ?_
    refine m_ci (v := nI (24 * s + a + 5 * m + 1)) (by exact nI_add (24 * s + a + 5 * m) 1) ?_
    refine m_laload dX8_judged_146 (by first | assumption | rfl | exact y1 _ | exact y3 _ | exact z1 _ | exact z3 _ | exact va_up_self _ _ _) (mIx_lit (show 24 * s + a + 5 * m + 1 < 96 by omega) (by decide)) ?_
    refine m_lastore (k := 1) dX8_judged_147 (by first | assumption | rfl | exact y1 _ | exact y3 _ | exact z1 _ | exact z3 _ | exact va_up_self _ _ _) ⟨by decide, by decide⟩ ?_
    try rw [va_uu]
    refine m_iinc (v := 2) dX8_judged_148 rfl (by decide) (by decide) ?_
    show mW _ _ _ _ _ _ 151 [_, _, _, _, _, _, _, _, _, _, _] _
    refine m_goto (t := 120) dX8_judged_151 (by decide) ?_
    refine m_iload dX8_judged_120 rfl ?_
    refine m_iconst (v := 5) dX8_judged_122 (by decide) ?_
    refine m_icmp_ge (t := 154) dX8_judged_123 (by decide) (fun q => absurd q (by decide)) (fun _ => ?_)
    refine m_aload_n dX8_judged_126 rfl ?_
    refine m_getfield dX8_judged_127 fl_X8_39 (by first | assumption | rfl | exact y1 _ | exact y3 _ | exact z1 _ | exact z3 _ | exact va_up_self _ _ _) (by first | assumption | rfl | exact y1 _ | exact y3 _ | exact z1 _ | exact z3 _ | exact va_up_self _ _ _) ?_
    show mW _ _ _ _ _ _ _ _ (.ref _ :: _)
    refine m_iload dX8_judged_130 rfl ?_
    refine m_aload_n dX8_judged_132 rfl ?_
    refine m_getfield dX8_judged_133 fl_X8_35 (by first | assumption | rfl | exact y1 _ | exact y3 _ | exact z1 _ | exact z3 _ | exact va_up_self _ _ _) (by first | assumption | rfl | exact y1 _ | exact y3 _ | exact z1 _ | exact z3 _ | exact va_up_self _ _ _) ?_
    show mW _ _ _ _ _ _ _ _ (.ref _ :: _)
    refine m_iload dX8_judged_136 rfl ?_
    refine m_iconst (v := 5) dX8_judged_138 (by decide) ?_
    refine m_iload dX8_judged_139 rfl ?_
    refine m_imul dX8_judged_141 ?_
    refine m_ci (v := nI (5 * m)) (nI_mulN 5 m) ?_
    refine m_iadd dX8_judged_142 ?_
    refine m_ci (v := nI (24 * s + a + 5 * m)) (nI_add _ _) ?_
    refine m_iload dX8_judged_143 rfl ?_
    refine m_iadd dX8_judged_145 ?_
    refine m_ci (v := nI (24 * s + a + 5 * m + 2)) (by exact nI_add (24 * s + a + 5 * m) 2) ?_
    refine m_laload dX8_judged_146 (by first | assumption | rfl | exact y1 _ | exact y3 _ | exact z1 _ | exact z3 _ | exact va_up_self _ _ _) (mIx_lit (show 24 * s + a + 5 * m + 2 < 96 by omega) (by decide)) ?_
    refine m_lastore (k := 2) dX8_judged_147 (by first | assumption | rfl | exact y1 _ | exact y3 _ | exact z1 _ | exact z3 _ | exact va_up_self _ _ _) ⟨by decide, by decide⟩ ?_
    try rw [va_uu]
    refine m_iinc (v := 3) dX8_judged_148 rfl (by decide) (by decide) ?_
    show mW _ _ _ _ _ _ 151 [_, _, _, _, _, _, _, _, _, _, _] _
    refine m_goto (t := 120) dX8_judged_151 (by decide) ?_
    refine m_iload dX8_judged_120 rfl ?_
    refine m_iconst (v := 5) dX8_judged_122 (by decide) ?_
    refine m_icmp_ge (t := 154) dX8_judged_123 (by decide) (fun q => absurd q (by decide)) (fun _ => ?_)
    refine m_aload_n dX8_judged_126 rfl ?_
    refine m_getfield dX8_judged_127 fl_X8_39 (by first | assumption | rfl | exact y1 _ | exact y3 _ | exact z1 _ | exact z3 _ | exact va_up_self _ _ _) (by first | assumption | rfl | exact y1 _ | exact y3 _ | exact z1 _ | exact z3 _ | exact va_up_self _ _ _) ?_
    show mW _ _ _ _ _ _ _ _ (.ref _ :: _)
    refine m_iload dX8_judged_130 rfl ?_
    refine m_aload_n dX8_judged_132 rfl ?_
    refine m_getfield dX8_judged_133 fl_X8_35 (by first | assumption | rfl | exact y1 _ | exact y3 _ | exact z1 _ | exact z3 _ | exact va_up_self _ _ _) (by first | assumption | rfl | exact y1 _ | exact y3 _ | exact z1 _ | exact z3 _ | exact va_up_self _ _ _) ?_
    show mW _ _ _ _ _ _ _ _ (.ref _ :: _)
    refine m_iload dX8_judged_136 rfl ?_
    refine m_iconst (v := 5) dX8_judged_138 (by decide) ?_
    refine m_iload dX8_judged_139 rfl ?_
    refine m_imul dX8_judged_141 ?_
    refine m_ci (v := nI (5 * m)) (nI_mulN 5 m) ?_
    refine m_iadd dX8_judged_142 ?_
    refine m_ci (v := nI (24 * s + a + 5 * m)) (nI_add _ _) ?_
    refine m_iload dX8_judged_143 rfl ?_
    refine m_iadd dX8_judged_145 ?_
    refine m_ci (v := nI (24 * s + a + 5 * m + 3)) (by exact nI_add (24 * s + a + 5 * m) 3) ?_
    refine m_laload dX8_judged_146 (by first | assumption | rfl | exact y1 _ | exact y3 _ | exact z1 _ | exact z3 _ | exact va_up_self _ _ _) (mIx_lit (show 24 * s + a + 5 * m + 3 < 96 by omega) (by decide)) ?_
    refine m_lastore (k := 3) dX8_judged_147 (by first | assumption | rfl | exact y1 _ | exact y3 _ | exact z1 _ | exact z3 _ | exact va_up_self _ _ _) ⟨by decide, by decide⟩ ?_
    try rw [va_uu]
    refine m_iinc (v := 4) dX8_judged_148 rfl (by decide) (by decide) ?_
    show mW _ _ _ _ _ _ 151 [_, _, _, _, _, _, _, _, _, _, _] _
    refine m_goto (t := 120) dX8_judged_151 (by decide) ?_
    refine m_iload dX8_judged_120 rfl ?_
    refine m_iconst (v := 5) dX8_judged_122 (by decide) ?_
    refine m_icmp_ge (t := 154) dX8_judged_123 (by decide) (fun q => absurd q (by decide)) (fun _ => ?_)
    refine m_aload_n dX8_judged_126 rfl ?_
    refine m_getfield dX8_judged_127 fl_X8_39 (by first | assumption | rfl | exact y1 _ | exact y3 _ | exact z1 _ | exact z3 _ | exact va_up_self _ _ _) (by first | assumption | rfl | exact y1 _ | exact y3 _ | exact z1 _ | exact z3 _ | exact va_up_self _ _ _) ?_
    show mW _ _ _ _ _ _ _ _ (.ref _ :: _)
    refine m_iload dX8_judged_130 rfl ?_
    refine m_aload_n dX8_judged_132 rfl ?_
    refine m_getfield dX8_judged_133 fl_X8_35 (by first | assumption | rfl | exact y1 _ | exact y3 _ | exact z1 _ | exact z3 _ | exact va_up_self _ _ _) (by first | assumption | rfl | exact y1 _ | exact y3 _ | exact z1 _ | exact z3 _ | exact va_up_self _ _ _) ?_
    show mW _ _ _ _ _ _ _ _ (.ref _ :: _)
    refine m_iload dX8_judged_136 rfl ?_
    refine m_iconst (v := 5) dX8_judged_138 (by decide) ?_
    refine m_iload dX8_judged_139 rfl ?_
    refine m_imul dX8_judged_141 ?_
    refine m_ci (v := nI (5 * m)) (nI_mulN 5 m) ?_
    refine m_iadd dX8_judged_142 ?_
    refine m_ci (v := nI (24 * s + a + 5 * m)) (nI_add _ _) ?_
    refine m_iload dX8_judged_143 rfl ?_
    refine m_iadd dX8_judged_145 ?_
    refine m_ci (v := nI (24 * s + a + 5 * m + 4)) (by exact nI_add (24 * s + a + 5 * m) 4) ?_
    refine m_laload dX8_judged_146 (by first | assumption | rfl | exact y1 _ | exact y3 _ | exact z1 _ | exact z3 _ | exact va_up_self _ _ _) (mIx_lit (show 24 * s + a + 5 * m + 4 < 96 by omega) (by decide)) ?_
    refine m_lastore (k := 4) dX8_judged_147 (by first | assumption | rfl | exact y1 _ | exact y3 _ | exact z1 _ | exact z3 _ | exact va_up_self _ _ _) ⟨by decide, by decide⟩ ?_
    try rw [va_uu]
    refine m_iinc (v := 5) dX8_judged_148 rfl (by decide) (by decide) ?_
    show mW _ _ _ _ _ _ 151 [_, _, _, _, _, _, _, _, _, _, _] _
    refine m_goto (t := 120) dX8_judged_151 (by decide) ?_
    refine m_iload dX8_judged_120 rfl ?_
    refine m_iconst (v := 5) dX8_judged_122 (by decide) ?_
    refine m_icmp_ge (t := 154) dX8_judged_123 (by decide) (fun _ => ?_) (fun q => absurd (by decide) q)
    skip
    refine m_iload dX8_judged_154 rfl ?_
    refine m_aload_n dX8_judged_156 rfl ?_
    refine m_iload dX8_judged_157 rfl ?_
    refine m_invV dX8_judged_159 lk_X8_204 ar_X8_isSteady (ci := 8) rfl rfl (by first | assumption | rfl | exact y1 _ | exact y3 _ | exact z1 _ | exact z3 _ | exact va_up_self _ _ _) (t_st (b := 0) (Z := fill5 (fun t => IT (24 * s + a + 5 * m + t)) Z0) (hR.of (fun q r1 r2 => va_up_ne _ _ (by omega))) ⟨A0, T0, Pr, va_up_self _ _ _, (va_up_ne _ _ (by decide)).trans s2, (va_up_ne _ _ (by decide)).trans s3, (va_up_ne _ _ (by decide)).trans s4⟩ hTU hST (bL_eq (Z' := jP (X.2.2 s) a m) (fun t ht => by have q9 := allP_ok (5 * N) a hAP (a + 5 * m + t) (by omega) (by omega); show -7272 ≤ (X.2.2 s (a + 5 * m + t)).toInt ∧ (X.2.2 s (a + 5 * m + t)).toInt ≤ 7272; omega) (fun t ht => (fill5_at ht).trans (by show IT (24 * s + a + 5 * m + t) = X.2.2 s (a + 5 * m + t); rw [hIT (a + 5 * m + t) (by omega)]; congr 1; omega))) (by decide)) rfl (Nat.le_of_ble_eq_true rfl) (by decide) (by decide) (by decide) (by decide) (fun v hp' q => ?_)
    obtain ⟨x, rfl, x01, xs, gR, gX, gO⟩ := q
    have e9 : stB 0 (fill5 (fun t => IT (24 * s + a + 5 * m + t)) Z0) = stA (jP (X.2.2 s) a m) := (stB_eq (b := 0) (fun t ht => (fill5_at ht).trans (by show IT (24 * s + a + 5 * m + t) = X.2.2 s (a + 5 * m + t); rw [hIT (a + 5 * m + t) (by omega)]; congr 1; omega))).trans stB_0
    rw [e9] at xs
    obtain ⟨Z1, A1, T1, P1, u1, u2, u3, u4⟩ := gX
    obtain ⟨ri1, ev1, le1, ch1, ls1, rm1, sm1, ra1, fa1, C1, PA1, g1, -⟩ := id gR
    have g75 : hp' 75 = eL 96 IT := (gO 75 (by decide)).trans (y3 _)
    have z1 : ∀ f : mE, va_up hp' 76 f 67 = _ := fun f => (va_up_ne _ _ (by decide)).trans g1
    have z3 : ∀ f : mE, va_up hp' 76 f 75 = eL 96 IT := fun f => (va_up_ne _ _ (by decide)).trans g75
    show mW K _ 0 0 n hp' 162 [.ref 67, .int (nI s), .int l, .int (nI a), .int (nI N), .int v5, .int (nI (24 * s + a)), .int t, .int (nI m), .int 0, .int 5] [.int x, .int t]
    refine m_if_eq (t := 178) dX8_judged_162 (by decide) (fun c162 => ?_) (fun c162 => ?_)
    · have f0 : stA (jP (X.2.2 s) a m) = 0 := xs.mp c162
      refine m_iconst (v := 0) dX8_judged_178 (by decide) ?_
      refine m_ior dX8_judged_179 ?_
      rw [Int32.or_zero]
      refine m_istore dX8_judged_180 (by decide) ?_
      show mW _ _ _ _ _ _ 182 [_, _, _, _, _, _, _, _, _, _, _] _
      refine m_iinc (v := 1) dX8_judged_182 rfl (by decide) (by decide) ?_
      show mW _ _ _ _ _ _ 185 [_, _, _, _, _, _, _, _, _, _, _] _
      refine m_goto (t := 111) dX8_judged_185 (by decide) ?_
      refine m_iload dX8_judged_111 rfl ?_
      refine m_iconst (v := 2) dX8_judged_113 (by decide) ?_
      refine m_icmp_ge (t := 188) dX8_judged_114 (by decide) (fun q => absurd q (by decide)) (fun _ => ?_)
      refine m_iconst (v := 0) dX8_judged_117 (by decide) ?_
      refine m_istore dX8_judged_118 (by decide) ?_
      show mW _ _ _ _ _ _ 120 [_, _, _, _, _, _, _, _, _, _, _] _
      refine m_iload dX8_judged_120 rfl ?_
      refine m_iconst (v := 5) dX8_judged_122 (by decide) ?_
      refine m_icmp_ge (t := 154) dX8_judged_123 (by decide) (fun q => absurd q (by decide)) (fun _ => ?_)
      refine m_aload_n dX8_judged_126 rfl ?_
      refine m_getfield dX8_judged_127 fl_X8_39 (by first | assumption | rfl | exact y1 _ | exact y3 _ | exact z1 _ | exact z3 _ | exact va_up_self _ _ _) (by first | assumption | rfl | exact y1 _ | exact y3 _ | exact z1 _ | exact z3 _ | exact va_up_self _ _ _) ?_
      show mW _ _ _ _ _ _ _ _ (.ref _ :: _)
      refine m_iload dX8_judged_130 rfl ?_
      refine m_aload_n dX8_judged_132 rfl ?_
      refine m_getfield dX8_judged_133 fl_X8_35 (by first | assumption | rfl | exact y1 _ | exact y3 _ | exact z1 _ | exact z3 _ | exact va_up_self _ _ _) (by first | assumption | rfl | exact y1 _ | exact y3 _ | exact z1 _ | exact z3 _ | exact va_up_self _ _ _) ?_
      show mW _ _ _ _ _ _ _ _ (.ref _ :: _)
      refine m_iload dX8_judged_136 rfl ?_
      refine m_iconst (v := 5) dX8_judged_138 (by decide) ?_
      refine m_iload dX8_judged_139 rfl ?_
      refine m_imul dX8_judged_141 ?_
      refine m_ci (v := nI (5 * m)) (nI_mulN 5 m) ?_
      refine m_iadd dX8_judged_142 ?_
      refine m_ci (v := nI (24 * s + a + 5 * m)) (nI_add _ _) ?_
      refine m_iload dX8_judged_143 rfl ?_
      refine m_iadd dX8_judged_145 ?_
      refine m_ci (v := nI (24 * s + a + 5 * m + 0)) (by exact nI_add (24 * s + a + 5 * m) 0) ?_
      refine m_laload dX8_judged_146 (by first | assumption | rfl | exact y1 _ | exact y3 _ | exact z1 _ | exact z3 _ | exact va_up_self _ _ _) (mIx_lit (show 24 * s + a + 5 * m + 0 < 96 by omega) (by decide)) ?_
      refine m_lastore (k := 0) dX8_judged_147 (by first | assumption | rfl | exact y1 _ | exact y3 _ | exact z1 _ | exact z3 _ | exact va_up_self _ _ _) ⟨by decide, by decide⟩ ?_
      try rw [va_uu]
      refine m_iinc (v := 1) dX8_judged_148 rfl (by decide) (by decide) ?_
      show mW _ _ _ _ _ _ 151 [_, _, _, _, _, _, _, _, _, _, _] _
      refine m_goto (t := 120) dX8_judged_151 (by decide) ?_
      refine m_iload dX8_judged_120 rfl ?_
      refine m_iconst (v := 5) dX8_judged_122 (by decide) ?_
      refine m_icmp_ge (t := 154) dX8_judged_123 (by decide) (fun q => absurd q (by decide)) (fun _ => ?_)
      refine m_aload_n dX8_judged_126 rfl ?_
      refine m_getfield dX8_judged_127 fl_X8_39 (by first | assumption | rfl | exact y1 _ | exact y3 _ | exact z1 _ | exact z3 _ | exact va_up_self _ _ _) (by first | assumption | rfl | exact y1 _ | exact y3 _ | exact z1 _ | exact z3 _ | exact va_up_self _ _ _) ?_
      show mW _ _ _ _ _ _ _ _ (.ref _ :: _)
      refine m_iload dX8_judged_130 rfl ?_
      refine m_aload_n dX8_judged_132 rfl ?_
      refine m_getfield dX8_judged_133 fl_X8_35 (by first | assumption | rfl | exact y1 _ | exact y3 _ | exact z1 _ | exact z3 _ | exact va_up_self _ _ _) (by first | assumption | rfl | exact y1 _ | exact y3 _ | exact z1 _ | exact z3 _ | exact va_up_self _ _ _) ?_
      show mW _ _ _ _ _ _ _ _ (.ref _ :: _)
      refine m_iload dX8_judged_136 rfl ?_
      refine m_iconst (v := 5) dX8_judged_138 (by decide) ?_
      refine m_iload dX8_judged_139 rfl ?_
      refine m_imul dX8_judged_141 ?_
      refine m_ci (v := nI (5 * m)) (nI_mulN 5 m) ?_
      refine m_iadd dX8_judged_142 ?_
      refine m_ci (v := nI (24 * s + a + 5 * m)) (nI_add _ _) ?_
      refine m_iload dX8_judged_143 rfl ?_
      refine m_iadd dX8_judged_145 ?_
      refine m_ci (v := nI (24 * s + a + 5 * m + 1)) (by exact nI_add (24 * s + a + 5 * m) 1) ?_
      refine m_laload dX8_judged_146 (by first | assumption | rfl | exact y1 _ | exact y3 _ | exact z1 _ | exact z3 _ | exact va_up_self _ _ _) (mIx_lit (show 24 * s + a + 5 * m + 1 < 96 by omega) (by decide)) ?_
      refine m_lastore (k := 1) dX8_judged_147 (by first | assumption | rfl | exact y1 _ | exact y3 _ | exact z1 _ | exact z3 _ | exact va_up_self _ _ _) ⟨by decide, by decide⟩ ?_
      try rw [va_uu]
      refine m_iinc (v := 2) dX8_judged_148 rfl (by decide) (by decide) ?_
      show mW _ _ _ _ _ _ 151 [_, _, _, _, _, _, _, _, _, _, _] _
      refine m_goto (t := 120) dX8_judged_151 (by decide) ?_
      refine m_iload dX8_judged_120 rfl ?_
      refine m_iconst (v := 5) dX8_judged_122 (by decide) ?_
      refine m_icmp_ge (t := 154) dX8_judged_123 (by decide) (fun q => absurd q (by decide)) (fun _ => ?_)
      refine m_aload_n dX8_judged_126 rfl ?_
      refine m_getfield dX8_judged_127 fl_X8_39 (by first | assumption | rfl | exact y1 _ | exact y3 _ | exact z1 _ | exact z3 _ | exact va_up_self _ _ _) (by first | assumption | rfl | exact y1 _ | exact y3 _ | exact z1 _ | exact z3 _ | exact va_up_self _ _ _) ?_
      show mW _ _ _ _ _ _ _ _ (.ref _ :: _)
      refine m_iload dX8_judged_130 rfl ?_
      refine m_aload_n dX8_judged_132 rfl ?_
      refine m_getfield dX8_judged_133 fl_X8_35 (by first | assumption | rfl | exact y1 _ | exact y3 _ | exact z1 _ | exact z3 _ | exact va_up_self _ _ _) (by first | assumption | rfl | exact y1 _ | exact y3 _ | exact z1 _ | exact z3 _ | exact va_up_self _ _ _) ?_
      show mW _ _ _ _ _ _ _ _ (.ref _ :: _)
      refine m_iload dX8_judged_136 rfl ?_
      refine m_iconst (v := 5) dX8_judged_138 (by decide) ?_
      refine m_iload dX8_judged_139 rfl ?_
      refine m_imul dX8_judged_141 ?_
      refine m_ci (v := nI (5 * m)) (nI_mulN 5 m) ?_
      refine m_iadd dX8_judged_142 ?_
      refine m_ci (v := nI (24 * s + a + 5 * m)) (nI_add _ _) ?_
      refine m_iload dX8_judged_143 rfl ?_
      refine m_iadd dX8_judged_145 ?_
      refine m_ci (v := nI (24 * s + a + 5 * m + 2)) (by exact nI_add (24 * s + a + 5 * m) 2) ?_
      refine m_laload dX8_judged_146 (by first | assumption | rfl | exact y1 _ | exact y3 _ | exact z1 _ | exact z3 _ | exact va_up_self _ _ _) (mIx_lit (show 24 * s + a + 5 * m + 2 < 96 by omega) (by decide)) ?_
      refine m_lastore (k := 2) dX8_judged_147 (by first | assumption | rfl | exact y1 _ | exact y3 _ | exact z1 _ | exact z3 _ | exact va_up_self _ _ _) ⟨by decide, by decide⟩ ?_
      try rw [va_uu]
      refine m_iinc (v := 3) dX8_judged_148 rfl (by decide) (by decide) ?_
      show mW _ _ _ _ _ _ 151 [_, _, _, _, _, _, _, _, _, _, _] _
      refine m_goto (t := 120) dX8_judged_151 (by decide) ?_
      refine m_iload dX8_judged_120 rfl ?_
      refine m_iconst (v := 5) dX8_judged_122 (by decide) ?_
      refine m_icmp_ge (t := 154) dX8_judged_123 (by decide) (fun q => absurd q (by decide)) (fun _ => ?_)
      refine m_aload_n dX8_judged_126 rfl ?_
      refine m_getfield dX8_judged_127 fl_X8_39 (by first | assumption | rfl | exact y1 _ | exact y3 _ | exact z1 _ | exact z3 _ | exact va_up_self _ _ _) (by first | assumption | rfl | exact y1 _ | exact y3 _ | exact z1 _ | exact z3 _ | exact va_up_self _ _ _) ?_
      show mW _ _ _ _ _ _ _ _ (.ref _ :: _)
      refine m_iload dX8_judged_130 rfl ?_
      refine m_aload_n dX8_judged_132 rfl ?_
      refine m_getfield dX8_judged_133 fl_X8_35 (by first | assumption | rfl | exact y1 _ | exact y3 _ | exact z1 _ | exact z3 _ | exact va_up_self _ _ _) (by first | assumption | rfl | exact y1 _ | exact y3 _ | exact z1 _ | exact z3 _ | exact va_up_self _ _ _) ?_
      show mW _ _ _ _ _ _ _ _ (.ref _ :: _)
      refine m_iload dX8_judged_136 rfl ?_
      refine m_iconst (v := 5) dX8_judged_138 (by decide) ?_
      refine m_iload dX8_judged_139 rfl ?_
      refine m_imul dX8_judged_141 ?_
      refine m_ci (v := nI (5 * m)) (nI_mulN 5 m) ?_
      refine m_iadd dX8_judged_142 ?_
      refine m_ci (v := nI (24 * s + a + 5 * m)) (nI_add _ _) ?_
      refine m_iload dX8_judged_143 rfl ?_
      refine m_iadd dX8_judged_145 ?_
      refine m_ci (v := nI (24 * s + a + 5 * m + 3)) (by exact nI_add (24 * s + a + 5 * m) 3) ?_
      refine m_laload dX8_judged_146 (by first | assumption | rfl | exact y1 _ | exact y3 _ | exact z1 _ | exact z3 _ | exact va_up_self _ _ _) (mIx_lit (show 24 * s + a + 5 * m + 3 < 96 by omega) (by decide)) ?_
      refine m_lastore (k := 3) dX8_judged_147 (by first | assumption | rfl | exact y1 _ | exact y3 _ | exact z1 _ | exact z3 _ | exact va_up_self _ _ _) ⟨by decide, by decide⟩ ?_
      try rw [va_uu]
      refine m_iinc (v := 4) dX8_judged_148 rfl (by decide) (by decide) ?_
      show mW _ _ _ _ _ _ 151 [_, _, _, _, _, _, _, _, _, _, _] _
      refine m_goto (t := 120) dX8_judged_151 (by decide) ?_
      refine m_iload dX8_judged_120 rfl ?_
      refine m_iconst (v := 5) dX8_judged_122 (by decide) ?_
      refine m_icmp_ge (t := 154) dX8_judged_123 (by decide) (fun q => absurd q (by decide)) (fun _ => ?_)
      refine m_aload_n dX8_judged_126 rfl ?_
      refine m_getfield dX8_judged_127 fl_X8_39 (by first | assumption | rfl | exact y1 _ | exact y3 _ | exact z1 _ | exact z3 _ | exact va_up_self _ _ _) (by first | assumption | rfl | exact y1 _ | exact y3 _ | exact z1 _ | exact z3 _ | exact va_up_self _ _ _) ?_
      show mW _ _ _ _ _ _ _ _ (.ref _ :: _)
      refine m_iload dX8_judged_130 rfl ?_
      refine m_aload_n dX8_judged_132 rfl ?_
      refine m_getfield dX8_judged_133 fl_X8_35 (by first | assumption | rfl | exact y1 _ | exact y3 _ | exact z1 _ | exact z3 _ | exact va_up_self _ _ _) (by first | assumption | rfl | exact y1 _ | exact y3 _ | exact z1 _ | exact z3 _ | exact va_up_self _ _ _) ?_
      show mW _ _ _ _ _ _ _ _ (.ref _ :: _)
      refine m_iload dX8_judged_136 rfl ?_
      refine m_iconst (v := 5) dX8_judged_138 (by decide) ?_
      refine m_iload dX8_judged_139 rfl ?_
      refine m_imul dX8_judged_141 ?_
      refine m_ci (v := nI (5 * m)) (nI_mulN 5 m) ?_
      refine m_iadd dX8_judged_142 ?_
      refine m_ci (v := nI (24 * s + a + 5 * m)) (nI_add _ _) ?_
      refine m_iload dX8_judged_143 rfl ?_
      refine m_iadd dX8_judged_145 ?_
      refine m_ci (v := nI (24 * s + a + 5 * m + 4)) (by exact nI_add (24 * s + a + 5 * m) 4) ?_
      refine m_laload dX8_judged_146 (by first | assumption | rfl | exact y1 _ | exact y3 _ | exact z1 _ | exact z3 _ | exact va_up_self _ _ _) (mIx_lit (show 24 * s + a + 5 * m + 4 < 96 by omega) (by decide)) ?_
      refine m_lastore (k := 4) dX8_judged_147 (by first | assumption | rfl | exact y1 _ | exact y3 _ | exact z1 _ | exact z3 _ | exact va_up_self _ _ _) ⟨by decide, by decide⟩ ?_
      try rw [va_uu]
      refine m_iinc (v := 5) dX8_judged_148 rfl (by decide) (by decide) ?_
      show mW _ _ _ _ _ _ 151 [_, _, _, _, _, _, _, _, _, _, _] _
      refine m_goto (t := 120) dX8_judged_151 (by decide) ?_
      refine m_iload dX8_judged_120 rfl ?_
      refine m_iconst (v := 5) dX8_judged_122 (by decide) ?_
      refine m_icmp_ge (t := 154) dX8_judged_123 (by decide) (fun _ => ?_) (fun q => absurd (by decide) q)
      skip
      refine m_iload dX8_judged_154 rfl ?_
      refine m_aload_n dX8_judged_156 rfl ?_
      refine m_iload dX8_judged_157 rfl ?_
      refine m_invV dX8_judged_159 lk_X8_204 ar_X8_isSteady (ci := 8) rfl rfl (by first | assumption | rfl | exact y1 _ | exact y3 _ | exact z1 _ | exact z3 _ | exact va_up_self _ _ _) (t_st (b := 1) (Z := fill5 (fun t => IT (24 * s + a + 5 * m + t)) Z1) (gR.of (fun q r1 r2 => va_up_ne _ _ (by omega))) ⟨A1, T1, P1, va_up_self _ _ _, (va_up_ne _ _ (by decide)).trans u2, (va_up_ne _ _ (by decide)).trans u3, (va_up_ne _ _ (by decide)).trans u4⟩ hTU hST (bL_eq (Z' := jP (X.2.2 s) a m) (fun t ht => by have q9 := allP_ok (5 * N) a hAP (a + 5 * m + t) (by omega) (by omega); show -7272 ≤ (X.2.2 s (a + 5 * m + t)).toInt ∧ (X.2.2 s (a + 5 * m + t)).toInt ≤ 7272; omega) (fun t ht => (fill5_at ht).trans (by show IT (24 * s + a + 5 * m + t) = X.2.2 s (a + 5 * m + t); rw [hIT (a + 5 * m + t) (by omega)]; congr 1; omega))) (by decide)) rfl (Nat.le_of_ble_eq_true rfl) (by decide) (by decide) (by decide) (by decide) (fun v hp2 q => ?_)
      obtain ⟨x', rfl, x01', xs', kR, kX, kO⟩ := q
      have e9' : stB 1 (fill5 (fun t => IT (24 * s + a + 5 * m + t)) Z1) = stC (jP (X.2.2 s) a m) := (stB_eq (b := 1) (fun t ht => (fill5_at ht).trans (by show IT (24 * s + a + 5 * m + t) = X.2.2 s (a + 5 * m + t); rw [hIT (a + 5 * m + t) (by omega)]; congr 1; omega))).trans stB_1
      rw [e9'] at xs'
      have kO' : offM hp0 hp2 := fun q hq => (by rw [kO q hq, va_up_ne _ _ (by omega), gO q hq, va_up_ne _ _ (by omega)]; exact ho q hq)
      show mW K _ 0 0 n hp2 162 [.ref 67, .int (nI s), .int l, .int (nI a), .int (nI N), .int v5, .int (nI (24 * s + a)), _, .int (nI m), .int 1, .int 5] [.int x', _]
      refine m_if_eq (t := 178) dX8_judged_162 (by decide) (fun c162 => ?_) (fun c162 => ?_)
      · have f1 : stC (jP (X.2.2 s) a m) = 0 := xs'.mp c162
        refine m_iconst (v := 0) dX8_judged_178 (by decide) ?_
        refine m_ior dX8_judged_179 ?_
        rw [Int32.or_zero]
        refine m_istore dX8_judged_180 (by decide) ?_
        show mW _ _ _ _ _ _ 182 [_, _, _, _, _, _, _, _, _, _, _] _
        refine m_iinc (v := 2) dX8_judged_182 rfl (by decide) (by decide) ?_
        show mW _ _ _ _ _ _ 185 [_, _, _, _, _, _, _, _, _, _, _] _
        refine m_goto (t := 111) dX8_judged_185 (by decide) ?_
        refine m_iload dX8_judged_111 rfl ?_
        refine m_iconst (v := 2) dX8_judged_113 (by decide) ?_
        refine m_icmp_ge (t := 188) dX8_judged_114 (by decide) (fun _ => ?_) (fun q => absurd (by decide) q)
        refine m_iinc (v := nI (m + 1)) dX8_judged_188 rfl (nI_1 m) (by decide) ?_
        show mW _ _ _ _ _ _ 191 [_, _, _, _, _, _, _, _, _, _, _] _
        refine m_goto (t := 101) dX8_judged_191 (by decide) ?_
        exact ih r (by omega) (m + 1) hp2 _ _ _ (by omega) kR (hX.of (fun q r1 r2 => by rw [kO q (by omega), va_up_ne _ _ (by omega), gO q (by omega), va_up_ne _ _ (by omega)])) kX (fun _ => by have hw := hv (); rw [jgS] at hw; unfold jgT at hw; simp only [if_pos f0, if_pos f1] at hw; exact hw) kO'
      have f1 : ¬ stC (jP (X.2.2 s) a m) = 0 := fun y => c162 (xs'.mpr y)
      refine m_iconst (v := 1) dX8_judged_165 (by decide) ?_
      refine m_bipush (v := 8) dX8_judged_166 (by decide) ?_
      refine m_iload dX8_judged_168 rfl ?_
      refine m_imul dX8_judged_170 ?_
      refine m_ci (v := 8) (by decide) ?_
      refine m_iload dX8_judged_171 rfl ?_
      refine m_iadd dX8_judged_173 ?_
      skip
      refine m_ishl dX8_judged_174 ?_
      refine m_goto (t := 179) dX8_judged_175 (by decide) ?_
      refine m_ior dX8_judged_179 ?_
      skip
      refine m_istore dX8_judged_180 (by decide) ?_
      show mW _ _ _ _ _ _ 182 [_, _, _, _, _, _, _, _, _, _, _] _
      refine m_iinc (v := 2) dX8_judged_182 rfl (by decide) (by decide) ?_
      show mW _ _ _ _ _ _ 185 [_, _, _, _, _, _, _, _, _, _, _] _
      refine m_goto (t := 111) dX8_judged_185 (by decide) ?_
      refine m_iload dX8_judged_111 rfl ?_
      refine m_iconst (v := 2) dX8_judged_113 (by decide) ?_
      refine m_icmp_ge (t := 188) dX8_judged_114 (by decide) (fun _ => ?_) (fun q => absurd (by decide) q)
      refine m_iinc (v := nI (m + 1)) dX8_judged_188 rfl (nI_1 m) (by decide) ?_
      show mW _ _ _ _ _ _ 191 [_, _, _, _, _, _, _, _, _, _, _] _
      refine m_goto (t := 101) dX8_judged_191 (by decide) ?_
      exact ih r (by omega) (m + 1) hp2 _ _ _ (by omega) kR (hX.of (fun q r1 r2 => by rw [kO q (by omega), va_up_ne _ _ (by omega), gO q (by omega), va_up_ne _ _ (by omega)])) kX (fun _ => by have hw := hv (); rw [jgS] at hw; unfold jgT at hw; simp only [if_pos f0, if_neg f1] at hw; exact hw) kO'
    have f0 : ¬ stA (jP (X.2.2 s) a m) = 0 := fun y => c162 (xs.mpr y)
    refine m_iconst (v := 1) dX8_judged_165 (by decide) ?_
    refine m_bipush (v := 8) dX8_judged_166 (by decide) ?_
    refine m_iload dX8_judged_168 rfl ?_
    refine m_imul dX8_judged_170 ?_
    refine m_ci (v := 0) (by decide) ?_
    refine m_iload dX8_judged_171 rfl ?_
    refine m_iadd dX8_judged_173 ?_
    refine m_ci (v := nI m) (Int32.zero_add _) ?_
    refine m_ishl dX8_judged_174 ?_
    refine m_goto (t := 179) dX8_judged_175 (by decide) ?_
    refine m_ior dX8_judged_179 ?_
    skip
    refine m_istore dX8_judged_180 (by decide) ?_
    show mW _ _ _ _ _ _ 182 [_, _, _, _, _, _, _, _, _, _, _] _
    refine m_iinc (v := 1) dX8_judged_182 rfl (by decide) (by decide) ?_
    show mW _ _ _ _ _ _ 185 [_, _, _, _, _, _, _, _, _, _, _] _
    refine m_goto (t := 111) dX8_judged_185 (by decide) ?_
    refine m_iload dX8_judged_111 rfl ?_
    refine m_iconst (v := 2) dX8_judged_113 (by decide) ?_
    refine m_icmp_ge (t := 188) dX8_judged_114 (by decide) (fun q => absurd q (by decide)) (fun _ => ?_)
    refine m_iconst (v := 0) dX8_judged_117 (by decide) ?_
    refine m_istore dX8_judged_118 (by decide) ?_
    show mW _ _ _ _ _ _ 120 [_, _, _, _, _, _, _, _, _, _, _] _
    refine m_iload dX8_judged_120 rfl ?_
    refine m_iconst (v := 5) dX8_judged_122 (by decide) ?_
    refine m_icmp_ge (t := 154) dX8_judged_123 (by decide) (fun q => absurd q (by decide)) (fun _ => ?_)
    refine m_aload_n dX8_judged_126 rfl ?_
    refine m_getfield dX8_judged_127 fl_X8_39 (by first | assumption | rfl | exact y1 _ | exact y3 _ | exact z1 _ | exact z3 _ | exact va_up_self _ _ _) (by first | assumption | rfl | exact y1 _ | exact y3 _ | exact z1 _ | exact z3 _ | exact va_up_self _ _ _) ?_
    show mW _ _ _ _ _ _ _ _ (.ref _ :: _)
    refine m_iload dX8_judged_130 rfl ?_
    refine m_aload_n dX8_judged_132 rfl ?_
    refine m_getfield dX8_judged_133 fl_X8_35 (by first | assumption | rfl | exact y1 _ | exact y3 _ | exact z1 _ | exact z3 _ | exact va_up_self _ _ _) (by first | assumption | rfl | exact y1 _ | exact y3 _ | exact z1 _ | exact z3 _ | exact va_up_self _ _ _) ?_
    show mW _ _ _ _ _ _ _ _ (.ref _ :: _)
    refine m_iload dX8_judged_136 rfl ?_
    refine m_iconst (v := 5) dX8_judged_138 (by decide) ?_
    refine m_iload dX8_judged_139 rfl ?_
    refine m_imul dX8_judged_141 ?_
    refine m_ci (v := nI (5 * m)) (nI_mulN 5 m) ?_
    refine m_iadd dX8_judged_142 ?_
    refine m_ci (v := nI (24 * s + a + 5 * m)) (nI_add _ _) ?_
    refine m_iload dX8_judged_143 rfl ?_
    refine m_iadd dX8_judged_145 ?_
    refine m_ci (v := nI (24 * s + a + 5 * m + 0)) (by exact nI_add (24 * s + a + 5 * m) 0) ?_
    refine m_laload dX8_judged_146 (by first | assumption | rfl | exact y1 _ | exact y3 _ | exact z1 _ | exact z3 _ | exact va_up_self _ _ _) (mIx_lit (show 24 * s + a + 5 * m + 0 < 96 by omega) (by decide)) ?_
    refine m_lastore (k := 0) dX8_judged_147 (by first | assumption | rfl | exact y1 _ | exact y3 _ | exact z1 _ | exact z3 _ | exact va_up_self _ _ _) ⟨by decide, by decide⟩ ?_
    try rw [va_uu]
    refine m_iinc (v := 1) dX8_judged_148 rfl (by decide) (by decide) ?_
    show mW _ _ _ _ _ _ 151 [_, _, _, _, _, _, _, _, _, _, _] _
    refine m_goto (t := 120) dX8_judged_151 (by decide) ?_
    refine m_iload dX8_judged_120 rfl ?_
    refine m_iconst (v := 5) dX8_judged_122 (by decide) ?_
    refine m_icmp_ge (t := 154) dX8_judged_123 (by decide) (fun q => absurd q (by decide)) (fun _ => ?_)
    refine m_aload_n dX8_judged_126 rfl ?_
    refine m_getfield dX8_judged_127 fl_X8_39 (by first | assumption | rfl | exact y1 _ | exact y3 _ | exact z1 _ | exact z3 _ | exact va_up_self _ _ _) (by first | assumption | rfl | exact y1 _ | exact y3 _ | exact z1 _ | exact z3 _ | exact va_up_self _ _ _) ?_
    show mW _ _ _ _ _ _ _ _ (.ref _ :: _)
    refine m_iload dX8_judged_130 rfl ?_
    refine m_aload_n dX8_judged_132 rfl ?_
    refine m_getfield dX8_judged_133 fl_X8_35 (by first | assumption | rfl | exact y1 _ | exact y3 _ | exact z1 _ | exact z3 _ | exact va_up_self _ _ _) (by first | assumption | rfl | exact y1 _ | exact y3 _ | exact z1 _ | exact z3 _ | exact va_up_self _ _ _) ?_
    show mW _ _ _ _ _ _ _ _ (.ref _ :: _)
    refine m_iload dX8_judged_136 rfl ?_
    refine m_iconst (v := 5) dX8_judged_138 (by decide) ?_
    refine m_iload dX8_judged_139 rfl ?_
    refine m_imul dX8_judged_141 ?_
    refine m_ci (v := nI (5 * m)) (nI_mulN 5 m) ?_
    refine m_iadd dX8_judged_142 ?_
    refine m_ci (v := nI (24 * s + a + 5 * m)) (nI_add _ _) ?_
    refine m_iload dX8_judged_143 rfl ?_
    refine m_iadd dX8_judged_145 ?_
    refine m_ci (v := nI (24 * s + a + 5 * m + 1)) (by exact nI_add (24 * s + a + 5 * m) 1) ?_
    refine m_laload dX8_judged_146 (by first | assumption | rfl | exact y1 _ | exact y3 _ | exact z1 _ | exact z3 _ | exact va_up_self _ _ _) (mIx_lit (show 24 * s + a + 5 * m + 1 < 96 by omega) (by decide)) ?_
    refine m_lastore (k := 1) dX8_judged_147 (by first | assumption | rfl | exact y1 _ | exact y3 _ | exact z1 _ | exact z3 _ | exact va_up_self _ _ _) ⟨by decide, by decide⟩ ?_
    try rw [va_uu]
    refine m_iinc (v := 2) dX8_judged_148 rfl (by decide) (by decide) ?_
    show mW _ _ _ _ _ _ 151 [_, _, _, _, _, _, _, _, _, _, _] _
    refine m_goto (t := 120) dX8_judged_151 (by decide) ?_
    refine m_iload dX8_judged_120 rfl ?_
    refine m_iconst (v := 5) dX8_judged_122 (by decide) ?_
    refine m_icmp_ge (t := 154) dX8_judged_123 (by decide) (fun q => absurd q (by decide)) (fun _ => ?_)
    refine m_aload_n dX8_judged_126 rfl ?_
    refine m_getfield dX8_judged_127 fl_X8_39 (by first | assumption | rfl | exact y1 _ | exact y3 _ | exact z1 _ | exact z3 _ | exact va_up_self _ _ _) (by first | assumption | rfl | exact y1 _ | exact y3 _ | exact z1 _ | exact z3 _ | exact va_up_self _ _ _) ?_
    show mW _ _ _ _ _ _ _ _ (.ref _ :: _)
    refine m_iload dX8_judged_130 rfl ?_
    refine m_aload_n dX8_judged_132 rfl ?_
    refine m_getfield dX8_judged_133 fl_X8_35 (by first | assumption | rfl | exact y1 _ | exact y3 _ | exact z1 _ | exact z3 _ | exact va_up_self _ _ _) (by first | assumption | rfl | exact y1 _ | exact y3 _ | exact z1 _ | exact z3 _ | exact va_up_self _ _ _) ?_
    show mW _ _ _ _ _ _ _ _ (.ref _ :: _)
    refine m_iload dX8_judged_136 rfl ?_
    refine m_iconst (v := 5) dX8_judged_138 (by decide) ?_
    refine m_iload dX8_judged_139 rfl ?_
    refine m_imul dX8_judged_141 ?_
    refine m_ci (v := nI (5 * m)) (nI_mulN 5 m) ?_
    refine m_iadd dX8_judged_142 ?_
    refine m_ci (v := nI (24 * s + a + 5 * m)) (nI_add _ _) ?_
    refine m_iload dX8_judged_143 rfl ?_
    refine m_iadd dX8_judged_145 ?_
    refine m_ci (v := nI (24 * s + a + 5 * m + 2)) (by exact nI_add (24 * s + a + 5 * m) 2) ?_
    refine m_laload dX8_judged_146 (by first | assumption | rfl | exact y1 _ | exact y3 _ | exact z1 _ | exact z3 _ | exact va_up_self _ _ _) (mIx_lit (show 24 * s + a + 5 * m + 2 < 96 by omega) (by decide)) ?_
    refine m_lastore (k := 2) dX8_judged_147 (by first | assumption | rfl | exact y1 _ | exact y3 _ | exact z1 _ | exact z3 _ | exact va_up_self _ _ _) ⟨by decide, by decide⟩ ?_
    try rw [va_uu]
    refine m_iinc (v := 3) dX8_judged_148 rfl (by decide) (by decide) ?_
    show mW _ _ _ _ _ _ 151 [_, _, _, _, _, _, _, _, _, _, _] _
    refine m_goto (t := 120) dX8_judged_151 (by decide) ?_
    refine m_iload dX8_judged_120 rfl ?_
    refine m_iconst (v := 5) dX8_judged_122 (by decide) ?_
    refine m_icmp_ge (t := 154) dX8_judged_123 (by decide) (fun q => absurd q (by decide)) (fun _ => ?_)
    refine m_aload_n dX8_judged_126 rfl ?_
    refine m_getfield dX8_judged_127 fl_X8_39 (by first | assumption | rfl | exact y1 _ | exact y3 _ | exact z1 _ | exact z3 _ | exact va_up_self _ _ _) (by first | assumption | rfl | exact y1 _ | exact y3 _ | exact z1 _ | exact z3 _ | exact va_up_self _ _ _) ?_
    show mW _ _ _ _ _ _ _ _ (.ref _ :: _)
    refine m_iload dX8_judged_130 rfl ?_
    refine m_aload_n dX8_judged_132 rfl ?_
    refine m_getfield dX8_judged_133 fl_X8_35 (by first | assumption | rfl | exact y1 _ | exact y3 _ | exact z1 _ | exact z3 _ | exact va_up_self _ _ _) (by first | assumption | rfl | exact y1 _ | exact y3 _ | exact z1 _ | exact z3 _ | exact va_up_self _ _ _) ?_
    show mW _ _ _ _ _ _ _ _ (.ref _ :: _)
    refine m_iload dX8_judged_136 rfl ?_
    refine m_iconst (v := 5) dX8_judged_138 (by decide) ?_
    refine m_iload dX8_judged_139 rfl ?_
    refine m_imul dX8_judged_141 ?_
    refine m_ci (v := nI (5 * m)) (nI_mulN 5 m) ?_
    refine m_iadd dX8_judged_142 ?_
    refine m_ci (v := nI (24 * s + a + 5 * m)) (nI_add _ _) ?_
    refine m_iload dX8_judged_143 rfl ?_
    refine m_iadd dX8_judged_145 ?_
    refine m_ci (v := nI (24 * s + a + 5 * m + 3)) (by exact nI_add (24 * s + a + 5 * m) 3) ?_
    refine m_laload dX8_judged_146 (by first | assumption | rfl | exact y1 _ | exact y3 _ | exact z1 _ | exact z3 _ | exact va_up_self _ _ _) (mIx_lit (show 24 * s + a + 5 * m + 3 < 96 by omega) (by decide)) ?_
    refine m_lastore (k := 3) dX8_judged_147 (by first | assumption | rfl | exact y1 _ | exact y3 _ | exact z1 _ | exact z3 _ | exact va_up_self _ _ _) ⟨by decide, by decide⟩ ?_
    try rw [va_uu]
    refine m_iinc (v := 4) dX8_judged_148 rfl (by decide) (by decide) ?_
    show mW _ _ _ _ _ _ 151 [_, _, _, _, _, _, _, _, _, _, _] _
    refine m_goto (t := 120) dX8_judged_151 (by decide) ?_
    refine m_iload dX8_judged_120 rfl ?_
    refine m_iconst (v := 5) dX8_judged_122 (by decide) ?_
    refine m_icmp_ge (t := 154) dX8_judged_123 (by decide) (fun q => absurd q (by decide)) (fun _ => ?_)
    refine m_aload_n dX8_judged_126 rfl ?_
    refine m_getfield dX8_judged_127 fl_X8_39 (by first | assumption | rfl | exact y1 _ | exact y3 _ | exact z1 _ | exact z3 _ | exact va_up_self _ _ _) (by first | assumption | rfl | exact y1 _ | exact y3 _ | exact z1 _ | exact z3 _ | exact va_up_self _ _ _) ?_
    show mW _ _ _ _ _ _ _ _ (.ref _ :: _)
    refine m_iload dX8_judged_130 rfl ?_
    refine m_aload_n dX8_judged_132 rfl ?_
    refine m_getfield dX8_judged_133 fl_X8_35 (by first | assumption | rfl | exact y1 _ | exact y3 _ | exact z1 _ | exact z3 _ | exact va_up_self _ _ _) (by first | assumption | rfl | exact y1 _ | exact y3 _ | exact z1 _ | exact z3 _ | exact va_up_self _ _ _) ?_
    show mW _ _ _ _ _ _ _ _ (.ref _ :: _)
    refine m_iload dX8_judged_136 rfl ?_
    refine m_iconst (v := 5) dX8_judged_138 (by decide) ?_
    refine m_iload dX8_judged_139 rfl ?_
    refine m_imul dX8_judged_141 ?_
    refine m_ci (v := nI (5 * m)) (nI_mulN 5 m) ?_
    refine m_iadd dX8_judged_142 ?_
    refine m_ci (v := nI (24 * s + a + 5 * m)) (nI_add _ _) ?_
    refine m_iload dX8_judged_143 rfl ?_
    refine m_iadd dX8_judged_145 ?_
    refine m_ci (v := nI (24 * s + a + 5 * m + 4)) (by exact nI_add (24 * s + a + 5 * m) 4) ?_
    refine m_laload dX8_judged_146 (by first | assumption | rfl | exact y1 _ | exact y3 _ | exact z1 _ | exact z3 _ | exact va_up_self _ _ _) (mIx_lit (show 24 * s + a + 5 * m + 4 < 96 by omega) (by decide)) ?_
    refine m_lastore (k := 4) dX8_judged_147 (by first | assumption | rfl | exact y1 _ | exact y3 _ | exact z1 _ | exact z3 _ | exact va_up_self _ _ _) ⟨by decide, by decide⟩ ?_
    try rw [va_uu]
    refine m_iinc (v := 5) dX8_judged_148 rfl (by decide) (by decide) ?_
    show mW _ _ _ _ _ _ 151 [_, _, _, _, _, _, _, _, _, _, _] _
    refine m_goto (t := 120) dX8_judged_151 (by decide) ?_
    refine m_iload dX8_judged_120 rfl ?_
    refine m_iconst (v := 5) dX8_judged_122 (by decide) ?_
    refine m_icmp_ge (t := 154) dX8_judged_123 (by decide) (fun _ => ?_) (fun q => absurd (by decide) q)
    skip
    refine m_iload dX8_judged_154 rfl ?_
    refine m_aload_n dX8_judged_156 rfl ?_
    refine m_iload dX8_judged_157 rfl ?_
    refine m_invV dX8_judged_159 lk_X8_204 ar_X8_isSteady (ci := 8) rfl rfl (by first | assumption | rfl | exact y1 _ | exact y3 _ | exact z1 _ | exact z3 _ | exact va_up_self _ _ _) (t_st (b := 1) (Z := fill5 (fun t => IT (24 * s + a + 5 * m + t)) Z1) (gR.of (fun q r1 r2 => va_up_ne _ _ (by omega))) ⟨A1, T1, P1, va_up_self _ _ _, (va_up_ne _ _ (by decide)).trans u2, (va_up_ne _ _ (by decide)).trans u3, (va_up_ne _ _ (by decide)).trans u4⟩ hTU hST (bL_eq (Z' := jP (X.2.2 s) a m) (fun t ht => by have q9 := allP_ok (5 * N) a hAP (a + 5 * m + t) (by omega) (by omega); show -7272 ≤ (X.2.2 s (a + 5 * m + t)).toInt ∧ (X.2.2 s (a + 5 * m + t)).toInt ≤ 7272; omega) (fun t ht => (fill5_at ht).trans (by show IT (24 * s + a + 5 * m + t) = X.2.2 s (a + 5 * m + t); rw [hIT (a + 5 * m + t) (by omega)]; congr 1; omega))) (by decide)) rfl (Nat.le_of_ble_eq_true rfl) (by decide) (by decide) (by decide) (by decide) (fun v hp2 q => ?_)
    obtain ⟨x', rfl, x01', xs', kR, kX, kO⟩ := q
    have e9' : stB 1 (fill5 (fun t => IT (24 * s + a + 5 * m + t)) Z1) = stC (jP (X.2.2 s) a m) := (stB_eq (b := 1) (fun t ht => (fill5_at ht).trans (by show IT (24 * s + a + 5 * m + t) = X.2.2 s (a + 5 * m + t); rw [hIT (a + 5 * m + t) (by omega)]; congr 1; omega))).trans stB_1
    rw [e9'] at xs'
    have kO' : offM hp0 hp2 := fun q hq => (by rw [kO q hq, va_up_ne _ _ (by omega), gO q hq, va_up_ne _ _ (by omega)]; exact ho q hq)
    show mW K _ 0 0 n hp2 162 [.ref 67, .int (nI s), .int l, .int (nI a), .int (nI N), .int v5, .int (nI (24 * s + a)), _, .int (nI m), .int 1, .int 5] [.int x', _]
    refine m_if_eq (t := 178) dX8_judged_162 (by decide) (fun c162 => ?_) (fun c162 => ?_)
    · have f1 : stC (jP (X.2.2 s) a m) = 0 := xs'.mp c162
      refine m_iconst (v := 0) dX8_judged_178 (by decide) ?_
      refine m_ior dX8_judged_179 ?_
      rw [Int32.or_zero]
      refine m_istore dX8_judged_180 (by decide) ?_
      show mW _ _ _ _ _ _ 182 [_, _, _, _, _, _, _, _, _, _, _] _
      refine m_iinc (v := 2) dX8_judged_182 rfl (by decide) (by decide) ?_
      show mW _ _ _ _ _ _ 185 [_, _, _, _, _, _, _, _, _, _, _] _
      refine m_goto (t := 111) dX8_judged_185 (by decide) ?_
      refine m_iload dX8_judged_111 rfl ?_
      refine m_iconst (v := 2) dX8_judged_113 (by decide) ?_
      refine m_icmp_ge (t := 188) dX8_judged_114 (by decide) (fun _ => ?_) (fun q => absurd (by decide) q)
      refine m_iinc (v := nI (m + 1)) dX8_judged_188 rfl (nI_1 m) (by decide) ?_
      show mW _ _ _ _ _ _ 191 [_, _, _, _, _, _, _, _, _, _, _] _
      refine m_goto (t := 101) dX8_judged_191 (by decide) ?_
      exact ih r (by omega) (m + 1) hp2 _ _ _ (by omega) kR (hX.of (fun q r1 r2 => by rw [kO q (by omega), va_up_ne _ _ (by omega), gO q (by omega), va_up_ne _ _ (by omega)])) kX (fun _ => by have hw := hv (); rw [jgS] at hw; unfold jgT at hw; simp only [if_neg f0, if_pos f1] at hw; exact hw) kO'
    have f1 : ¬ stC (jP (X.2.2 s) a m) = 0 := fun y => c162 (xs'.mpr y)
    refine m_iconst (v := 1) dX8_judged_165 (by decide) ?_
    refine m_bipush (v := 8) dX8_judged_166 (by decide) ?_
    refine m_iload dX8_judged_168 rfl ?_
    refine m_imul dX8_judged_170 ?_
    refine m_ci (v := 8) (by decide) ?_
    refine m_iload dX8_judged_171 rfl ?_
    refine m_iadd dX8_judged_173 ?_
    skip
    refine m_ishl dX8_judged_174 ?_
    refine m_goto (t := 179) dX8_judged_175 (by decide) ?_
    refine m_ior dX8_judged_179 ?_
    skip
    refine m_istore dX8_judged_180 (by decide) ?_
    show mW _ _ _ _ _ _ 182 [_, _, _, _, _, _, _, _, _, _, _] _
    refine m_iinc (v := 2) dX8_judged_182 rfl (by decide) (by decide) ?_
    show mW _ _ _ _ _ _ 185 [_, _, _, _, _, _, _, _, _, _, _] _
    refine m_goto (t := 111) dX8_judged_185 (by decide) ?_
    refine m_iload dX8_judged_111 rfl ?_
    refine m_iconst (v := 2) dX8_judged_113 (by decide) ?_
    refine m_icmp_ge (t := 188) dX8_judged_114 (by decide) (fun _ => ?_) (fun q => absurd (by decide) q)
    refine m_iinc (v := nI (m + 1)) dX8_judged_188 rfl (nI_1 m) (by decide) ?_
    show mW _ _ _ _ _ _ 191 [_, _, _, _, _, _, _, _, _, _, _] _
    refine m_goto (t := 101) dX8_judged_191 (by decide) ?_
    exact ih r (by omega) (m + 1) hp2 _ _ _ (by omega) kR (hX.of (fun q r1 r2 => by rw [kO q (by omega), va_up_ne _ _ (by omega), gO q (by omega), va_up_ne _ _ (by omega)])) kX (fun _ => by have hw := hv (); rw [jgS] at hw; unfold jgT at hw; simp only [if_neg f0, if_neg f1] at hw; exact hw) kO'

theorem shHas_sz {SZ : Nat → Int32} {s : Nat} {i z : Int32} (h : 0 ≤ (SZ s).toInt ∧ (SZ s).toInt ≤ 24) (e : shHas SZ s i z ≠ 0) : tN i + tN z ≤ tN (SZ s) := by
  unfold shHas at e
  by_cases c1 : i < 0
  · rw [if_pos c1] at e
    exact absurd rfl e
  · rw [if_neg c1] at e
    by_cases c2 : z < 0
    · rw [if_pos c2] at e
      exact absurd rfl e
    · rw [if_neg c2] at e
      by_cases c3 : SZ s - z < i
      · rw [if_pos c3] at e
        exact absurd rfl e
      · rw [Int32.lt_iff_toInt_lt, show (0 : Int32).toInt = 0 by decide] at c1 c2
        have hz := Int32.toInt_lt z
        rw [Int32.lt_iff_toInt_lt, Int32.toInt_sub, bmod32 (by omega) (by omega)] at c3
        unfold tN
        omega
theorem in14 {z : Int32} : inI z.toInt64 1 4 = 0 ↔ ¬ (1 ≤ z ∧ z ≤ 4) := by
  rw [inI_iff (x := 1) (y := 4) (by decide) (by decide), Int32.le_iff_toInt_le, Int32.le_iff_toInt_le, show (1 : Int32).toInt = 1 by decide, show (4 : Int32).toInt = 4 by decide]
set_option maxHeartbeats 400000 in
set_option maxRecDepth 100000 in
theorem t_X8_judged {n : Nat} {hp : mHp} {S : TS} {ia tm : Int32} (h : mRep hp S ia tm) {X : SH} (hX : mShelf hp X) (hO : okS X) (hY : mScX hp) (hTU : TUK) (hST : STK) {s l i z : Int32} : mC D_X8_judged [.ref 67, .int s, .int l, .int i, .int z] n hp (qM hp S ia tm (sJudged X s l i z)) := by
  refine m_enter rfl rfl (Nat.le_of_ble_eq_true rfl) (fun K hF => ?_)
  show mW K _ 0 0 _ _ 0 [.ref 67, .int s, .int l, .int i, .int z, .retAddr 0, .retAddr 0, .retAddr 0, .retAddr 0, .retAddr 0, .retAddr 0] []
  have hR := h
  obtain ⟨ri, ev, le, ch, ls, rm, sm, ra, fa, C, PA, h1, h2, h3, h4, h5, h6⟩ := h
  obtain ⟨LN, SZ, IT, x1, x2, x3, x4⟩ := id hX
  refine m_iload_n dX8_judged_0 rfl ?_
  refine m_iload_n dX8_judged_1 rfl ?_
  refine m_invS_I dX8_judged_2 lk_X8_264 ar_X8_isSheet (t_X8_isSheet) rfl (Nat.le_of_ble_eq_true rfl) (by decide) (by decide) (by decide) (by decide) rfl rfl ?_
  try rw [va_uu]
  refine m_if_eq (t := 21) dX8_judged_5 (by decide) (fun c5 => ?_) (fun c5 => ?_)
  · refine m_iconst (v := -1) dX8_judged_21 (by decide) ?_
    exact m_ireturn hF dX8_judged_22 rfl rfl rfl ⟨by unfold sJudged; rw [if_neg (by rintro ⟨y0, y1, y2, y3⟩; first | exact shM_iff.mp c5 ⟨y0, y1⟩ | exact in14.mp c18 ⟨y2, y3⟩)], hR, hY, offM.rf⟩
  refine m_iload dX8_judged_8 rfl ?_
  refine m_i2l dX8_judged_10 ?_
  refine m_lconst (v := 1) dX8_judged_11 (by decide) ?_
  refine m_ldc2 dX8_judged_12 cl_X8_96 ?_
  refine m_invS_I dX8_judged_15 lk_X8_141 ar_X8_in (t_X8_in) rfl (Nat.le_of_ble_eq_true rfl) (by decide) (by decide) (by decide) (by decide) rfl rfl ?_
  try rw [va_uu]
  refine m_if_ne (t := 23) dX8_judged_18 (by decide) (fun c18 => ?_) (fun c18 => ?_)
  rotate_left
  · refine m_iconst (v := -1) dX8_judged_21 (by decide) ?_
    exact m_ireturn hF dX8_judged_22 rfl rfl rfl ⟨by unfold sJudged; rw [if_neg (by rintro ⟨y0, y1, y2, y3⟩; first | exact shM_iff.mp c5 ⟨y0, y1⟩ | exact in14.mp c18 ⟨y2, y3⟩)], hR, hY, offM.rf⟩
  have hpt := Classical.not_not.mp (fun y => c5 (shM_iff.mpr y))
  have hz14 := Classical.not_not.mp (fun y => c18 (in14.mpr y))
  have hok : inC s 4 ∧ inC l 4 ∧ 1 ≤ z ∧ z ≤ 4 := ⟨hpt.1, hpt.2, hz14.1, hz14.2⟩
  obtain ⟨s, hs, rfl, es⟩ := inC_n hok.1
  have hz1 : 1 ≤ z.toInt := Int32.le_iff_toInt_le.mp hok.2.2.1
  have hz4 : z.toInt ≤ 4 := Int32.le_iff_toInt_le.mp hok.2.2.2
  obtain ⟨N, hN, rfl, eN⟩ := inC_n (v := z) (C := 5) ⟨by omega, by omega⟩
  have e5 : (5 : Int32) * nI N = nI (5 * N) := nI_mulN 5 N
  have hfr : ∀ _ : Unit, fndV LN SZ s l i (nI (5 * N)) = shRef X.1 X.2.1 s l i (nI (5 * N)) := fun _ => fnd_ref (x4 s hs) (nI_pos (by omega))
  refine m_aload_n dX8_judged_23 rfl ?_
  refine m_iload_n dX8_judged_24 rfl ?_
  refine m_iload_n dX8_judged_25 rfl ?_
  refine m_iload_n dX8_judged_26 rfl ?_
  refine m_iconst (v := 5) dX8_judged_27 (by decide) ?_
  refine m_iload dX8_judged_28 rfl ?_
  refine m_imul dX8_judged_30 ?_
  refine m_ci (v := nI (5 * N)) (nI_mulN 5 N) ?_
  refine m_invV_I dX8_judged_31 lk_X8_267 ar_X8_found (ci := 8) rfl rfl (by first | assumption | rfl) (t_X8_found h1 x1 x2 hs) rfl (Nat.le_of_ble_eq_true rfl) (by decide) (by decide) (by decide) (by decide) rfl rfl ?_
  try rw [va_uu]
  refine m_istore dX8_judged_34 (by decide) ?_
  show mW _ _ _ _ _ _ 36 [_, _, _, _, _, _, _, _, _, _, _] _
  refine m_iload dX8_judged_36 rfl ?_
  refine m_if_eq (t := 44) dX8_judged_38 (by decide) (fun c38 => ?_) (fun c38 => ?_)
  rotate_left
  · refine m_iload dX8_judged_41 rfl ?_
    exact m_ireturn hF dX8_judged_43 rfl rfl rfl ⟨by unfold sJudged; rw [if_pos hok, es, e5, ← hfr (), if_neg c38], hR, hY, offM.rf⟩
  have c38b := (hfr ()).symm.trans c38
  have hsz := shHas_sz (hO s hs) (shRef_has c38b).1
  obtain ⟨a, b, rfl, eb, hab, ea, eb2⟩ := shHas_in (hO s hs) (shRef_has c38b).1
  obtain rfl : b = 5 * N := by
    have h9 : (nI (5 * N)).toInt.toNat = 5 * N := by rw [nI_toInt (by omega)]; rfl
    exact eb2.symm.trans h9
  rw [ea, eb2] at hsz
  have hNM := (shRef_has c38b).2.2
  have hIT : ∀ t, t < a + 5 * N → X.2.2 s t = IT (24 * s + t) := (by obtain ⟨-, q2⟩ | ⟨-, -, q3, q4⟩ := x4 s hs; exact absurd q2 hNM; exact fun t ht => q4 t (by rw [← q3]; omega))
  refine m_bipush (v := 24) dX8_judged_44 (by decide) ?_
  refine m_iload_n dX8_judged_46 rfl ?_
  refine m_imul dX8_judged_47 ?_
  refine m_ci (v := nI (24 * s)) (nI_mulN 24 s) ?_
  refine m_iload_n dX8_judged_48 rfl ?_
  refine m_iadd dX8_judged_49 ?_
  refine m_ci (v := nI (24 * s + a)) (nI_add _ _) ?_
  refine m_istore dX8_judged_50 (by decide) ?_
  show mW _ _ _ _ _ _ 52 [_, _, _, _, _, _, _, _, _, _, _] _
  refine m_iconst (v := 0) dX8_judged_52 (by decide) ?_
  refine m_istore dX8_judged_53 (by decide) ?_
  show mW _ _ _ _ _ _ 55 [_, _, _, _, _, _, _, _, _, _, _] _
  refine l_X8_judged1 (N := N) h1 x3 hs (by omega) hab hIT hF (fun y => ⟨by unfold sJudged; rw [if_pos hok, es, e5, if_pos c38b, ea, eN, if_pos y], hR, hY, offM.rf⟩) (fun y => ?_) (5 * N) 0 (by omega) rfl
  refine m_iconst (v := 0) dX8_judged_95 (by decide) ?_
  refine m_istore dX8_judged_96 (by decide) ?_
  show mW _ _ _ _ _ _ 98 [_, _, _, _, _, _, _, _, _, _, _] _
  refine m_iconst (v := 0) dX8_judged_98 (by decide) ?_
  refine m_istore dX8_judged_99 (by decide) ?_
  show mW _ _ _ _ _ _ 101 [_, _, _, _, _, _, _, _, _, _, _] _
  exact l_X8_judged2 (V := sJudged X (nI s) l (nI a) (nI N)) hs (by omega) hO hsz hNM y hTU hST hF N 0 hp 0 _ _ (by omega) hR hX hY (fun _ => by unfold sJudged; rw [if_pos hok, es, e5, if_pos c38b, ea, eN, if_neg y]; rfl) offM.rf

