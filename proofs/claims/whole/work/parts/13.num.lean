/-! ===== longs as whole numbers; divisors ===== -/
def lZ (z : Int) : Int64 := Int64.ofInt z
def bdZ (z : Int) : Prop := -9223372036854775807 ≤ z ∧ z ≤ 9223372036854775807
theorem lZ_add (a b : Int) : lZ a + lZ b = lZ (a + b) := (Int64.ofInt_add a b).symm
theorem lZ_mul (a b : Int) : lZ a * lZ b = lZ (a * b) := (Int64.ofInt_mul a b).symm
theorem lZ_sub (a b : Int) : lZ a - lZ b = lZ (a - b) := (Int64.ofInt_sub a b).symm
theorem lZ_neg (a : Int) : -lZ a = lZ (-a) := (Int64.ofInt_neg a).symm
theorem lZ_toInt {z : Int} (h : bdZ z) : (lZ z).toInt = z := Int64.toInt_ofInt_of_le (by have := h.1; omega) (by have := h.2; omega)
theorem lZ_of (x : Int64) : lZ x.toInt = x := Int64.ofInt_toInt x
theorem lZ_inj {a b : Int} (ha : bdZ a) (hb : bdZ b) : lZ a = lZ b ↔ a = b := by
  rw [← Int64.toInt_inj, lZ_toInt ha, lZ_toInt hb]
theorem lZ_lt {a b : Int} (ha : bdZ a) (hb : bdZ b) : lZ a < lZ b ↔ a < b := by
  rw [Int64.lt_iff_toInt_lt, lZ_toInt ha, lZ_toInt hb]
theorem lZ_le {a b : Int} (ha : bdZ a) (hb : bdZ b) : lZ a ≤ lZ b ↔ a ≤ b := by
  rw [Int64.le_iff_toInt_le, lZ_toInt ha, lZ_toInt hb]
theorem bd0 : bdZ 0 := ⟨by decide, by decide⟩
theorem lZ_0 {a : Int} (ha : bdZ a) : lZ a = 0 ↔ a = 0 := lZ_inj ha bd0
theorem lZ_lt0 {a : Int} (ha : bdZ a) : lZ a < 0 ↔ a < 0 := lZ_lt ha bd0
theorem lZ_ge0 {a : Int} (ha : bdZ a) : 0 ≤ lZ a ↔ 0 ≤ a := lZ_le bd0 ha
theorem lZ_gt0 {a : Int} (ha : bdZ a) : 0 < lZ a ↔ 0 < a := lZ_lt bd0 ha
theorem bd_neg {a : Int} (h : bdZ a) : bdZ (-a) := ⟨by have := h.2; omega, by have := h.1; omega⟩
theorem bd_nat {a : Int} (h : bdZ a) : bdZ (a.natAbs : Int) := by
  have := h.1
  have := h.2
  constructor <;> omega
theorem lZ_div {a b : Int} (ha : bdZ a) (hb : bdZ b) (h : bdZ (a.tdiv b)) : lZ a / lZ b = lZ (a.tdiv b) := by
  apply Int64.toInt_inj.mp
  rw [Int64.toInt_div, lZ_toInt ha, lZ_toInt hb, lZ_toInt h]
  exact bmod64 (by have := h.1; omega) (by have := h.2; omega)
theorem lZ_rem {a b : Nat} (ha : bdZ a) (hb : bdZ b) : lZ a - lZ a / lZ b * lZ b = lZ ((a % b : Nat) : Int) := by
  have hq : bdZ (((a / b : Nat) : Int)) := by
    have h1 := Nat.div_le_self a b
    have h2 := ha.2
    generalize a / b = q at h1 ⊢
    exact ⟨by omega, by omega⟩
  have e : ((a : Int).tdiv b) = ((a / b : Nat) : Int) := by rw [← Int.ofNat_tdiv]
  rw [lZ_div ha hb (by rw [e]; exact hq), e, lZ_mul, lZ_sub]
  congr 1
  have h3 := Nat.mod_add_div a b
  have h4 : ((a % b : Nat) : Int) + (b : Int) * ((a / b : Nat) : Int) = (a : Int) := by exact_mod_cast h3
  rw [Int.mul_comm] at h4
  omega
theorem lZ_abs {a : Int} (ha : bdZ a) : (if 0 ≤ lZ a then lZ a else -lZ a) = lZ (a.natAbs : Int) := by
  by_cases h : 0 ≤ a
  · rw [if_pos ((lZ_ge0 ha).mpr h)]
    congr 1
    omega
  · rw [if_neg (fun q => h ((lZ_ge0 ha).mp q)), lZ_neg]
    congr 1
    omega
section MB
variable {K : mK} {M : MD} {cs sl n : Nat} {hp : mHp} {pc : Nat} {lv st : List Value}
theorem m_mabs {ix : Nat} {x : Int64} (hd : decode (dC M) pc = .ok (.invokestatic ix, 3)) (hl : Cond.methodLink (dOwn M) ix yJ9_abs_067f4 ∈ TB ∧ Cond.static yJ9_abs_067f4 ∈ TB ∧ mMd D_J9_abs_067f4) (hw : (st.map Value.category).sum ≤ 8) (hv : 1 ≤ dV M) (hc : cs ≤ dMc M) (hs : sl ≤ dMs M) (kk : mW K M cs sl n hp (pc + 3) lv (.long (if 0 < x then x else -x) :: st)) : mW K M cs sl n hp pc lv (.long x :: st) := fun hk H locs ls hR hlv => by
  have hR' := hk.2.2.2.2.2.2.2.2.2
  refine va_mabs_long hk.1 hk.2.1 (by rw [hk.2.2.1]; exact hlv.1.symm) hk.2.2.2.1 (hk.2.2.2.2.1 _ hl.1) (hk.2.2.2.2.1 _ hl.2.1) (hk.2.2.2.2.1 _ hl.2.2.2.1) (hk.2.2.2.2.1 _ hl.2.2.1) (by rw [hR']; exact hv) ?_ (by rw [hR']; exact hc) (by rw [hR']; exact hs) hd (kk hk H locs ls hR hlv)
  rw [hR']
  show _ + 13 ≤ 40 * dV M
  rw [m_words]
  omega
end MB
theorem lZ_abs' {a : Int} (ha : bdZ a) : (if 0 < lZ a then lZ a else -lZ a) = lZ (a.natAbs : Int) := by
  by_cases h : 0 < a
  · rw [if_pos ((lZ_gt0 ha).mpr h)]
    congr 1
    omega
  · rw [if_neg (fun q => h ((lZ_gt0 ha).mp q)), lZ_neg]
    congr 1
    omega
theorem gcd_step (X Y : Nat) : Nat.gcd Y (X % Y) = Nat.gcd X Y := by
  rw [Nat.gcd_comm X Y, Nat.gcd_rec Y X, Nat.gcd_comm]
theorem half_step {X Y : Nat} (h : Y ≤ X) (h0 : 0 < Y) : 2 * (Y * (X % Y)) ≤ X * Y := by
  have h1 : 2 * (X % Y) ≤ X := by
    have a := Nat.mod_lt X h0
    have b := Nat.mod_add_div X Y
    have c : 1 ≤ X / Y := (Nat.one_le_div_iff h0).mpr h
    have d : Y * 1 ≤ Y * (X / Y) := Nat.mul_le_mul_left Y c
    omega
  calc 2 * (Y * (X % Y)) = Y * (2 * (X % Y)) := by rw [Nat.mul_left_comm]
    _ ≤ Y * X := Nat.mul_le_mul_left Y h1
    _ = X * Y := Nat.mul_comm Y X
set_option maxHeartbeats 4000000 in
set_option maxRecDepth 100000 in
theorem l_X7_commonDivisor {n : Nat} {hp : mHp} {G : Int} {a1 a2 : Value} {K : mK} (hF : mFin K D_X7_commonDivisor n (rL (lZ G) hp)) : ∀ b c X Y : Nat, ∀ v9 : Value, bdZ X → bdZ Y → ((X * Y < 2 ^ b ∧ Y ≤ X) ∨ (X < Y ∧ X * Y < 2 ^ (b - 1) ∧ 1 ≤ b)) → c + b ≤ 198 → ((Nat.gcd X Y : Nat) : Int) = G → mW K D_X7_commonDivisor 0 0 n hp 31 [a1, .retAddr 0, a2, .retAddr 0, .long (lZ X), .retAddr 0, .long (lZ Y), .retAddr 0, .int (nI c), v9, .retAddr 0] [] := by
  intro b
  induction b using Nat.strongRecOn with
  | ind b ih =>
    intro c X Y v9 hX hYb hb hc hg
    refine m_iload dX7_commonDivisor_31 rfl ?_
    refine m_sipush (v := 200) dX7_commonDivisor_33 (by decide) ?_
    refine m_icmp_ge (t := 67) dX7_commonDivisor_36 (by decide) (fun c36 => ?_) (fun c36 => ?_)
    · have hY : Y = 0 := by
        first
          | exact Int.ofNat.inj ((lZ_0 hYb).mp c42)
          | (exfalso
             have hc := nI_cmp' (b := 200) (by decide) (by omega) c36
             omega)
      subst hY
      refine m_lload dX7_commonDivisor_67 rfl ?_
      exact m_lreturn hF dX7_commonDivisor_69 rfl rfl rfl ⟨by rw [← hg, Nat.gcd_zero_right], rfl⟩
    refine m_lload dX7_commonDivisor_39 rfl ?_
    refine m_lconst (v := 0) dX7_commonDivisor_41 (by decide) ?_
    refine m_lc_eq (t := 67) dX7_commonDivisor_42 dX7_commonDivisor_43 (by decide) (fun c42 => ?_) (fun c42 => ?_)
    · have hY : Y = 0 := by
        first
          | exact Int.ofNat.inj ((lZ_0 hYb).mp c42)
          | (exfalso
             have hc := nI_cmp' (b := 200) (by decide) (by omega) c36
             omega)
      subst hY
      refine m_lload dX7_commonDivisor_67 rfl ?_
      exact m_lreturn hF dX7_commonDivisor_69 rfl rfl rfl ⟨by rw [← hg, Nat.gcd_zero_right], rfl⟩
    have hY : 0 < Y := by
      rcases Nat.eq_zero_or_pos Y with q | q
      · subst q
        exact absurd rfl c42
      · exact q
    refine m_lload dX7_commonDivisor_46 rfl ?_
    refine m_lload dX7_commonDivisor_48 rfl ?_
    refine m_lrem dX7_commonDivisor_50 (fun q => absurd ((lZ_0 hYb).mp q) (by omega)) ?_
    refine m_cl (v := lZ ((X % Y : Nat) : Int)) (lZ_rem hX hYb) ?_
    refine m_lstore dX7_commonDivisor_51 (by decide) ?_
    show mW _ _ _ _ _ _ 53 [_, _, _, _, _, _, _, _, _, _, _] _
    refine m_lload dX7_commonDivisor_53 rfl ?_
    refine m_lstore dX7_commonDivisor_55 (by decide) ?_
    show mW _ _ _ _ _ _ 57 [_, _, _, _, _, _, _, _, _, _, _] _
    refine m_lload dX7_commonDivisor_57 rfl ?_
    refine m_lstore dX7_commonDivisor_59 (by decide) ?_
    show mW _ _ _ _ _ _ 61 [_, _, _, _, _, _, _, _, _, _, _] _
    refine m_iinc (v := nI (c + 1)) dX7_commonDivisor_61 rfl (nI_1 c) (by decide) ?_
    show mW _ _ _ _ _ _ 64 [_, _, _, _, _, _, _, _, _, _, _] _
    refine m_goto (t := 31) dX7_commonDivisor_64 (by decide) ?_
    have hm := Nat.mod_lt X hY
    have hbm : bdZ ((X % Y : Nat) : Int) := by
      have := hYb.2
      generalize X % Y = q at hm ⊢
      exact ⟨by omega, by omega⟩
    have hg9 : ((Nat.gcd Y (X % Y) : Nat) : Int) = G := by rw [gcd_step]; exact hg
    rcases hb with ⟨h1, h2⟩ | ⟨h1, h2, h3⟩
    · obtain ⟨b, rfl⟩ : ∃ b', b = b' + 1 := ⟨b - 1, by
        rcases Nat.eq_zero_or_pos b with q | q
        · subst q
          have : 1 ≤ X * Y := Nat.mul_pos (by omega) hY
          omega
        · omega⟩
      have hs := half_step h2 hY
      have hp2 : 2 ^ (b + 1) = 2 * 2 ^ b := by rw [Nat.pow_succ]; omega
      exact ih b (by omega) (c + 1) Y (X % Y) _ hYb hbm (Or.inl ⟨by omega, by omega⟩) (by omega) hg9
    · obtain ⟨b, rfl⟩ : ∃ b', b = b' + 1 := ⟨b - 1, by omega⟩
      have e : X % Y = X := Nat.mod_eq_of_lt h1
      rw [e] at hbm hg9 ⊢
      have e2 : Y * X < 2 ^ b := by rw [Nat.mul_comm]; exact h2
      exact ih b (by omega) (c + 1) Y X _ hYb hbm (Or.inl ⟨e2, by omega⟩) (by omega) hg9

theorem t_X7_commonDivisor {n : Nat} {hp : mHp} {x y : Int} (hx : bdZ x) (hy : bdZ y) : mC D_X7_commonDivisor [.long (lZ x), .long (lZ y)] n hp (rL (lZ ((Nat.gcd x.natAbs y.natAbs : Nat) : Int)) hp) := by
  refine m_enter rfl rfl (Nat.le_of_ble_eq_true rfl) (fun K hF => ?_)
  show mW K _ 0 0 _ _ 0 [.long (lZ x), .retAddr 0, .long (lZ y), .retAddr 0, .retAddr 0, .retAddr 0, .retAddr 0, .retAddr 0, .retAddr 0, .retAddr 0, .retAddr 0] []
  refine m_lload_n dX7_commonDivisor_0 rfl ?_
  refine m_lconst (v := 0) dX7_commonDivisor_1 (by decide) ?_
  refine m_tern_L (J := 12) (x := lZ x) (y := -lZ x) (m_lc_ge (t := 11) dX7_commonDivisor_2 dX7_commonDivisor_3 (by decide)) (fun k9 => ?_) (fun k9 => ?_) ?_
  · refine m_lload_n dX7_commonDivisor_11 rfl ?_
    exact k9
  · refine m_lload_n dX7_commonDivisor_6 rfl ?_
    refine m_lneg dX7_commonDivisor_7 ?_
    refine m_goto (t := 12) dX7_commonDivisor_8 (by decide) ?_
    exact k9
  refine m_cl (v := lZ (x.natAbs : Int)) (lZ_abs hx) ?_
  refine m_lstore dX7_commonDivisor_12 (by decide) ?_
  show mW _ _ _ _ _ _ 14 [_, _, _, _, _, _, _, _, _, _, _] _
  refine m_lload_n dX7_commonDivisor_14 rfl ?_
  refine m_lconst (v := 0) dX7_commonDivisor_15 (by decide) ?_
  refine m_tern_L (J := 26) (x := lZ y) (y := -lZ y) (m_lc_ge (t := 25) dX7_commonDivisor_16 dX7_commonDivisor_17 (by decide)) (fun k9 => ?_) (fun k9 => ?_) ?_
  · refine m_lload_n dX7_commonDivisor_25 rfl ?_
    exact k9
  · refine m_lload_n dX7_commonDivisor_20 rfl ?_
    refine m_lneg dX7_commonDivisor_21 ?_
    refine m_goto (t := 26) dX7_commonDivisor_22 (by decide) ?_
    exact k9
  refine m_cl (v := lZ (y.natAbs : Int)) (lZ_abs hy) ?_
  refine m_lstore dX7_commonDivisor_26 (by decide) ?_
  show mW _ _ _ _ _ _ 28 [_, _, _, _, _, _, _, _, _, _, _] _
  refine m_iconst (v := 0) dX7_commonDivisor_28 (by decide) ?_
  refine m_istore dX7_commonDivisor_29 (by decide) ?_
  show mW _ _ _ _ _ _ 31 [_, _, _, _, _, _, _, _, _, _, _] _
  have hb : x.natAbs * y.natAbs < 2 ^ 126 := by
    have h1 : x.natAbs < 2 ^ 63 := by have := hx.1; have := hx.2; omega
    have h2 : y.natAbs < 2 ^ 63 := by have := hy.1; have := hy.2; omega
    calc x.natAbs * y.natAbs < 2 ^ 63 * 2 ^ 63 := Nat.mul_lt_mul'' h1 h2
      _ = 2 ^ 126 := by decide
  refine l_X7_commonDivisor hF 127 0 x.natAbs y.natAbs (.retAddr 0) (bd_nat hx) (bd_nat hy) ?_ (by decide) rfl
  rcases Nat.lt_or_ge x.natAbs y.natAbs with q | q
  · exact Or.inr ⟨q, hb, by decide⟩
  · exact Or.inl ⟨Nat.lt_trans hb (by decide), q⟩

