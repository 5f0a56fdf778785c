/-! ===== the reference: divisor ===== -/
set_option maxHeartbeats 400000 in
set_option maxRecDepth 100000 in
theorem l_X8_divisor {n : Nat} {hp : mHp} {G : Int} {a1 a2 : Value} {K : mK} (hF : mFin K D_X8_divisor n (rL (lZ G) hp)) : ∀ (Y X : Nat) (v8 v9 : Value), bdZ X → bdZ Y → ((Nat.gcd X Y : Nat) : Int) = G → mW K D_X8_divisor 0 0 n hp 28 [a1, .retAddr 0, a2, .retAddr 0, .long (lZ X), .retAddr 0, .long (lZ Y), .retAddr 0, v8, v9] [] := by
  intro Y
  induction Y using Nat.strongRecOn with
  | ind Y ih =>
    intro X v8 v9 hX hYb hg
    refine m_lload dX8_divisor_28 rfl ?_
    refine m_lconst (v := 0) dX8_divisor_30 (by decide) ?_
    refine m_lc_eq (t := 53) dX8_divisor_31 dX8_divisor_32 (by decide) (fun c31 => ?_) (fun c31 => ?_)
    · have hY : Y = 0 := Int.ofNat.inj ((lZ_0 hYb).mp c31)
      subst hY
      refine m_lload dX8_divisor_53 rfl ?_
      exact m_lreturn hF dX8_divisor_55 rfl rfl rfl ⟨by rw [← hg, Nat.gcd_zero_right], rfl⟩
    have hY : 0 < Y := Nat.pos_of_ne_zero (fun q => c31 ((lZ_0 hYb).mpr (by rw [q]; rfl)))
    refine m_lload dX8_divisor_35 rfl ?_
    refine m_lload dX8_divisor_37 rfl ?_
    refine m_lrem dX8_divisor_39 (fun q => absurd ((lZ_0 hYb).mp q) (by omega)) ?_
    refine m_cl (v := lZ ((X % Y : Nat) : Int)) (lZ_rem hX hYb) ?_
    refine m_lstore dX8_divisor_40 (by decide) ?_
    show mW _ _ _ _ _ _ 42 [_, _, _, _, _, _, _, _, _, _] _
    refine m_lload dX8_divisor_42 rfl ?_
    refine m_lstore dX8_divisor_44 (by decide) ?_
    show mW _ _ _ _ _ _ 46 [_, _, _, _, _, _, _, _, _, _] _
    refine m_lload dX8_divisor_46 rfl ?_
    refine m_lstore dX8_divisor_48 (by decide) ?_
    show mW _ _ _ _ _ _ 50 [_, _, _, _, _, _, _, _, _, _] _
    have hm := Nat.mod_lt X hY
    have hbm : bdZ ((X % Y : Nat) : Int) := by
      have := hYb.2
      generalize X % Y = q at hm ⊢
      exact ⟨by omega, by omega⟩
    refine m_goto (t := 28) dX8_divisor_50 (by decide) ?_
    exact ih (X % Y) hm Y _ _ hYb hbm (by rw [gcd_step]; exact hg)

set_option maxHeartbeats 400000 in
set_option maxRecDepth 100000 in
theorem t_X8_divisor {n : Nat} {hp : mHp} {x y : Int} (hx : bdZ x) (hy : bdZ y) : mC D_X8_divisor [.long (lZ x), .long (lZ y)] n hp (rL (lZ ((Nat.gcd x.natAbs y.natAbs : Nat) : Int)) hp) := by
  refine m_enter rfl rfl (Nat.le_of_ble_eq_true rfl) (fun K hF => ?_)
  show mW K _ 0 0 _ _ 0 [.long (lZ x), .retAddr 0, .long (lZ y), .retAddr 0, .retAddr 0, .retAddr 0, .retAddr 0, .retAddr 0, .retAddr 0, .retAddr 0] []
  refine m_lload_n dX8_divisor_0 rfl ?_
  refine m_lconst (v := 0) dX8_divisor_1 (by decide) ?_
  refine m_tern_L (J := 12) (x := lZ x) (y := -lZ x) (m_lc_ge (t := 11) dX8_divisor_2 dX8_divisor_3 (by decide)) (fun k9 => ?_) (fun k9 => ?_) ?_
  · refine m_lload_n dX8_divisor_11 rfl ?_
    exact k9
  · refine m_lload_n dX8_divisor_6 rfl ?_
    refine m_lneg dX8_divisor_7 ?_
    refine m_goto (t := 12) dX8_divisor_8 (by decide) ?_
    exact k9
  refine m_cl (v := lZ (x.natAbs : Int)) (lZ_abs hx) ?_
  refine m_lstore dX8_divisor_12 (by decide) ?_
  show mW _ _ _ _ _ _ 14 [_, _, _, _, _, _, _, _, _, _] _
  refine m_lload_n dX8_divisor_14 rfl ?_
  refine m_lconst (v := 0) dX8_divisor_15 (by decide) ?_
  refine m_tern_L (J := 26) (x := lZ y) (y := -lZ y) (m_lc_ge (t := 25) dX8_divisor_16 dX8_divisor_17 (by decide)) (fun k9 => ?_) (fun k9 => ?_) ?_
  · refine m_lload_n dX8_divisor_25 rfl ?_
    exact k9
  · refine m_lload_n dX8_divisor_20 rfl ?_
    refine m_lneg dX8_divisor_21 ?_
    refine m_goto (t := 26) dX8_divisor_22 (by decide) ?_
    exact k9
  refine m_cl (v := lZ (y.natAbs : Int)) (lZ_abs hy) ?_
  refine m_lstore dX8_divisor_26 (by decide) ?_
  show mW _ _ _ _ _ _ 28 [_, _, _, _, _, _, _, _, _, _] _
  exact l_X8_divisor hF y.natAbs x.natAbs (.retAddr 0) (.retAddr 0) (bd_nat hx) (bd_nat hy) rfl

