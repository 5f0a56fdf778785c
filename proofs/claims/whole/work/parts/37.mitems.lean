/-! ===== the reference: items ===== -/
def lowV (v : Int64) (l : Int32) : Int64 := if l = 0 then v <<< ((56 : Int32).toInt64 &&& 63) >>> ((56 : Int32).toInt64 &&& 63) else if l = 1 then v <<< ((48 : Int32).toInt64 &&& 63) >>> ((48 : Int32).toInt64 &&& 63) else if l = 2 then v <<< ((32 : Int32).toInt64 &&& 63) >>> ((32 : Int32).toInt64 &&& 63) else v

theorem low56 (v : Int64) : v <<< ((56 : Int32).toInt64 &&& 63) >>> ((56 : Int32).toInt64 &&& 63) = v.toInt32.toInt8.toInt32.toInt64 := by
  rw [show (56 : Int32).toInt64 &&& 63 = 56 by decide]
  apply Int64.toBitVec_inj.mp
  have e1 : (v <<< (56 : Int64) >>> (56 : Int64)).toBitVec = (v.toBitVec <<< 56).sshiftRight 56 := rfl
  have e2 : (v.toInt32.toInt8.toInt32.toInt64).toBitVec = (((v.toBitVec.signExtend 32).signExtend 8).signExtend 32).signExtend 64 := rfl
  rw [e1, e2]
  apply BitVec.eq_of_getLsbD_eq
  intro i hi
  simp only [BitVec.getLsbD_sshiftRight, BitVec.getLsbD_signExtend, BitVec.msb_eq_getLsbD_last, BitVec.getLsbD_shiftLeft]
  have hA : i < 64 := hi
  by_cases h : 56 + i < 64
  · have a1 : i < 8 := by omega
    have a2 : i < 32 := by omega
    have a3 : ¬ 64 ≤ i := by omega
    have a4 : ¬ 56 + i < 56 := by omega
    simp [hA, h, a1, a2, a3, a4]
  · have a1 : ¬ i < 8 := by omega
    have a3 : ¬ 64 ≤ i := by omega
    have a4 : ¬ 56 + i < 56 := by omega
    by_cases a2 : i < 32
    · simp [hA, h, a1, a2, a3, a4]
    · simp [hA, h, a1, a2, a3, a4]
theorem low48 (v : Int64) : v <<< ((48 : Int32).toInt64 &&& 63) >>> ((48 : Int32).toInt64 &&& 63) = v.toInt32.toInt16.toInt32.toInt64 := by
  rw [show (48 : Int32).toInt64 &&& 63 = 48 by decide]
  apply Int64.toBitVec_inj.mp
  have e1 : (v <<< (48 : Int64) >>> (48 : Int64)).toBitVec = (v.toBitVec <<< 48).sshiftRight 48 := rfl
  have e2 : (v.toInt32.toInt16.toInt32.toInt64).toBitVec = (((v.toBitVec.signExtend 32).signExtend 16).signExtend 32).signExtend 64 := rfl
  rw [e1, e2]
  apply BitVec.eq_of_getLsbD_eq
  intro i hi
  simp only [BitVec.getLsbD_sshiftRight, BitVec.getLsbD_signExtend, BitVec.msb_eq_getLsbD_last, BitVec.getLsbD_shiftLeft]
  have hA : i < 64 := hi
  by_cases h : 48 + i < 64
  · have a1 : i < 16 := by omega
    have a2 : i < 32 := by omega
    have a3 : ¬ 64 ≤ i := by omega
    have a4 : ¬ 48 + i < 48 := by omega
    simp [hA, h, a1, a2, a3, a4]
  · have a1 : ¬ i < 16 := by omega
    have a3 : ¬ 64 ≤ i := by omega
    have a4 : ¬ 48 + i < 48 := by omega
    by_cases a2 : i < 32
    · simp [hA, h, a1, a2, a3, a4]
    · simp [hA, h, a1, a2, a3, a4]
theorem low32 (v : Int64) : v <<< ((32 : Int32).toInt64 &&& 63) >>> ((32 : Int32).toInt64 &&& 63) = v.toInt32.toInt64 := by
  rw [show (32 : Int32).toInt64 &&& 63 = 32 by decide]
  apply Int64.toBitVec_inj.mp
  have e1 : (v <<< (32 : Int64) >>> (32 : Int64)).toBitVec = (v.toBitVec <<< 32).sshiftRight 32 := rfl
  have e2 : (v.toInt32.toInt64).toBitVec = (v.toBitVec.signExtend 32).signExtend 64 := rfl
  rw [e1, e2]
  apply BitVec.eq_of_getLsbD_eq
  intro i hi
  simp only [BitVec.getLsbD_sshiftRight, BitVec.getLsbD_signExtend, BitVec.msb_eq_getLsbD_last, BitVec.getLsbD_shiftLeft]
  have hA : i < 64 := hi
  by_cases h : 32 + i < 64
  · have a1 : i < 32 := by omega
    have a2 : i < 32 := by omega
    have a3 : ¬ 64 ≤ i := by omega
    have a4 : ¬ 32 + i < 32 := by omega
    simp [hA, h, a1, a2, a3, a4]
  · have a1 : ¬ i < 32 := by omega
    have a3 : ¬ 64 ≤ i := by omega
    have a4 : ¬ 32 + i < 32 := by omega
    simp [hA, h, a1, a3, a4]
theorem low_cut {v : Int64} {l : Int32} : lowV v l = cutV l v := by
  unfold lowV cutV
  rw [low56, low48, low32]
set_option maxHeartbeats 400000 in
set_option maxRecDepth 100000 in
theorem t_X8_lowest {n : Nat} {hp : mHp} {l : Int32} {v : Int64} : mC D_X8_lowest [.long v, .int l] n hp (rL (cutV l v) hp) := by
  refine m_enter rfl rfl (Nat.le_of_ble_eq_true rfl) (fun K hF => ?_)
  show mW K _ 0 0 _ _ 0 [.long v, .retAddr 0, .int l] []
  refine m_iload_n dX8_lowest_0 rfl ?_
  refine m_if_ne (t := 14) dX8_lowest_1 (by decide) (fun c1 => ?_) (fun c1 => ?_)
  rotate_left
  · refine m_lload_n dX8_lowest_4 rfl ?_
    refine m_bipush (v := 56) dX8_lowest_5 (by decide) ?_
    refine m_lshl dX8_lowest_7 ?_
    refine m_bipush (v := 56) dX8_lowest_8 (by decide) ?_
    refine m_lshr dX8_lowest_10 ?_
    refine m_goto (t := 45) dX8_lowest_11 (by decide) ?_
    exact m_lreturn hF dX8_lowest_45 rfl rfl rfl ⟨by rw [← low_cut]; unfold lowV; rw [if_pos c1], rfl⟩
  refine m_iload_n dX8_lowest_14 rfl ?_
  refine m_iconst (v := 1) dX8_lowest_15 (by decide) ?_
  refine m_icmp_ne (t := 29) dX8_lowest_16 (by decide) (fun c16 => ?_) (fun c16 => ?_)
  rotate_left
  · refine m_lload_n dX8_lowest_19 rfl ?_
    refine m_bipush (v := 48) dX8_lowest_20 (by decide) ?_
    refine m_lshl dX8_lowest_22 ?_
    refine m_bipush (v := 48) dX8_lowest_23 (by decide) ?_
    refine m_lshr dX8_lowest_25 ?_
    refine m_goto (t := 45) dX8_lowest_26 (by decide) ?_
    exact m_lreturn hF dX8_lowest_45 rfl rfl rfl ⟨by rw [← low_cut]; unfold lowV; rw [if_neg c1, if_pos c16], rfl⟩
  refine m_iload_n dX8_lowest_29 rfl ?_
  refine m_iconst (v := 2) dX8_lowest_30 (by decide) ?_
  refine m_icmp_ne (t := 44) dX8_lowest_31 (by decide) (fun c31 => ?_) (fun c31 => ?_)
  · refine m_lload_n dX8_lowest_44 rfl ?_
    exact m_lreturn hF dX8_lowest_45 rfl rfl rfl ⟨by rw [← low_cut]; unfold lowV; rw [if_neg c1, if_neg c16, if_neg c31], rfl⟩
  refine m_lload_n dX8_lowest_34 rfl ?_
  refine m_bipush (v := 32) dX8_lowest_35 (by decide) ?_
  refine m_lshl dX8_lowest_37 ?_
  refine m_bipush (v := 32) dX8_lowest_38 (by decide) ?_
  refine m_lshr dX8_lowest_40 ?_
  refine m_goto (t := 45) dX8_lowest_41 (by decide) ?_
  exact m_lreturn hF dX8_lowest_45 rfl rfl rfl ⟨by rw [← low_cut]; unfold lowV; rw [if_neg c1, if_neg c16, if_pos c31], rfl⟩

theorem lnR_item {X : SH} {LN SZ : Nat → Int32} {IT : Nat → Int64} {t q : Nat} {f : Nat → Int64} {g : Nat → Int64} (h : lnR X LN SZ IT q) (hO : okS X) (hq : q < 4) (hf : ∀ i, i < 24 → X.2.2 t i = IT (24 * t + i) → f i = g (24 * t + i)) (hg : ∀ p i, p ≠ t → i < 24 → g (24 * p + i) = IT (24 * p + i)) : lnR (X.1, X.2.1, va_up X.2.2 t f) LN SZ g q := by
  unfold lnR
  show (LN q < 0 ∧ X.1 q = -1) ∨ (0 ≤ LN q ∧ X.1 q = LN q ∧ X.2.1 q = SZ q ∧ ∀ i, i < tN (SZ q) → va_up X.2.2 t f q i = g (24 * q + i))
  rcases h with y | ⟨y1, y2, y3, y4⟩
  · exact Or.inl y
  · refine Or.inr ⟨y1, y2, y3, fun i hi => ?_⟩
    have hb := hO q hq
    rw [y3] at hb
    have hi2 : i < (SZ q).toInt.toNat := hi
    by_cases e : q = t
    · subst e
      rw [va_up_self]
      exact hf i (by omega) (y4 i hi)
    · rw [va_up_ne _ _ e, y4 i hi, hg q i e (by omega)]
set_option maxHeartbeats 400000 in
set_option maxRecDepth 100000 in
theorem t_X8_item {n : Nat} {hp : mHp} {X : SH} (hT : mTop hp) (hX : mShelf hp X) (hO : okS X) {s l i : Int32} {v : Int64} : mC D_X8_item [.ref 67, .int s, .int l, .int i, .long v] n hp (fun r hp' => r = some (.int (sItem X s l i v).1) ∧ mShelf hp' (sItem X s l i v).2 ∧ off5 hp hp') := by
  refine m_enter rfl rfl (Nat.le_of_ble_eq_true rfl) (fun K hF => ?_)
  show mW K _ 0 0 _ _ 0 [.ref 67, .int s, .int l, .int i, .long v, .retAddr 0, .retAddr 0] []
  obtain ⟨ac, ia, tm, ri, ev, le, ch, ls, rm, sm, ra, fa, h1⟩ := hT
  have hX0 := hX
  obtain ⟨LN, SZ, IT, x1, x2, x3, x4⟩ := hX
  refine m_iload_n dX8_item_0 rfl ?_
  refine m_iload_n dX8_item_1 rfl ?_
  refine m_invS_I dX8_item_2 lk_X8_264 ar_X8_isSheet (t_X8_isSheet) rfl (Nat.le_of_ble_eq_true rfl) (by decide) (by decide) (by decide) (by decide) rfl rfl ?_
  try rw [va_uu]
  refine m_if_ne (t := 10) dX8_item_5 (by decide) (fun c5 => ?_) (fun c5 => ?_)
  rotate_left
  · refine m_iconst (v := -1) dX8_item_8 (by decide) ?_
    exact m_ireturn hF dX8_item_9 rfl rfl rfl ⟨by unfold sItem; rw [if_neg (shM_iff.mp c5)], by unfold sItem; rw [if_neg (shM_iff.mp c5)]; exact hX0, off5.rf⟩
  have hok := Classical.not_not.mp (fun z => c5 (shM_iff.mpr z))
  obtain ⟨t, ht, rfl, et⟩ := inC_n hok.1
  have hfr : ∀ _ : Unit, fndV LN SZ t l i 1 = shRef X.1 X.2.1 t l i 1 := fun _ => fnd_ref (x4 t ht) (by decide)
  refine m_aload_n dX8_item_10 rfl ?_
  refine m_iload_n dX8_item_11 rfl ?_
  refine m_iload_n dX8_item_12 rfl ?_
  refine m_iload_n dX8_item_13 rfl ?_
  refine m_iconst (v := 1) dX8_item_14 (by decide) ?_
  refine m_invV_I dX8_item_15 lk_X8_267 ar_X8_found (ci := 8) rfl rfl (by first | assumption | rfl) (t_X8_found h1 x1 x2 ht) rfl (Nat.le_of_ble_eq_true rfl) (by decide) (by decide) (by decide) (by decide) rfl rfl ?_
  try rw [va_uu]
  refine m_istore dX8_item_18 (by decide) ?_
  show mW _ _ _ _ _ _ 20 [_, _, _, _, _, _, _] _
  refine m_iload dX8_item_20 rfl ?_
  refine m_if_eq (t := 28) dX8_item_22 (by decide) (fun c22 => ?_) (fun c22 => ?_)
  rotate_left
  · refine m_iload dX8_item_25 rfl ?_
    exact m_ireturn hF dX8_item_27 rfl rfl rfl ⟨by unfold sItem; rw [if_pos hok, et, ← hfr (), if_neg c22], by unfold sItem; rw [if_pos hok, et, ← hfr (), if_neg c22]; exact hX0, off5.rf⟩
  have c22b := (hfr ()).symm.trans c22
  obtain ⟨a, b, rfl, eb, hab, ea, eb2⟩ := shHas_in (hO t ht) (shRef_has c22b).1
  have hb1 : b = 1 := by rw [← eb2]; rfl
  refine m_aload_n dX8_item_28 rfl ?_
  refine m_getfield dX8_item_29 fl_X8_35 (by first | assumption | rfl) (by first | assumption | rfl) ?_
  show mW _ _ _ _ _ _ _ _ (.ref _ :: _)
  refine m_bipush (v := 24) dX8_item_32 (by decide) ?_
  refine m_iload_n dX8_item_34 rfl ?_
  refine m_imul dX8_item_35 ?_
  refine m_ci (v := nI (24 * t)) (nI_mulN 24 t) ?_
  refine m_iload_n dX8_item_36 rfl ?_
  refine m_iadd dX8_item_37 ?_
  refine m_ci (v := nI (24 * t + a)) (nI_add _ _) ?_
  refine m_lload dX8_item_38 rfl ?_
  refine m_iload_n dX8_item_40 rfl ?_
  refine m_invS_L dX8_item_41 lk_X8_271 ar_X8_lowest t_X8_lowest rfl (Nat.le_of_ble_eq_true rfl) (by decide) (by decide) (by decide) (by decide) rfl rfl ?_
  try rw [va_uu]
  refine m_lastore dX8_item_44 (by first | assumption | rfl) (mIx_lit (show 24 * t + a < 96 by omega) (by decide)) ?_
  try rw [va_uu]
  refine m_iconst (v := 1) dX8_item_45 (by decide) ?_
  exact m_ireturn hF dX8_item_46 rfl rfl rfl ⟨by unfold sItem; rw [if_pos hok, et, if_pos c22b], by unfold sItem; rw [if_pos hok, et, if_pos c22b, ea]; exact ⟨LN, SZ, _, (va_up_ne _ _ (by decide)).trans x1, (va_up_ne _ _ (by decide)).trans x2, va_up_self _ _ _, fun q hq => lnR_item (x4 q hq) hO hq (fun i hi e => by by_cases z : i = a; (rw [z, va_up_self, va_up_self]); (rw [va_up_ne _ _ z, va_up_ne _ _ (by omega)]; exact e)) (fun p i hp hi => va_up_ne _ _ (by omega))⟩, fun q hq => va_up_ne _ _ (by omega)⟩

theorem flm_f {c : Nat → Int32} {b t a i : Nat} {f g : Nat → Int64} (e : f i = g (24 * t + i)) : flmI c b f a i = flmI c b g (24 * t + a) (24 * t + i) := by
  unfold flmI
  by_cases h : a ≤ i ∧ i < a + 5
  · rw [if_pos h, if_pos (by omega), show 24 * t + i - (24 * t + a) = i - a by omega]
  · rw [if_neg h, if_neg (by omega)]
    exact e
theorem flm_g {c : Nat → Int32} {b t a i p : Nat} {g : Nat → Int64} (ha : a + 5 ≤ 24) (hi : i < 24) (hp : p ≠ t) : flmI c b g (24 * t + a) (24 * p + i) = g (24 * p + i) := by
  unfold flmI
  rw [if_neg (by omega)]
set_option maxHeartbeats 400000 in
set_option maxRecDepth 100000 in
theorem t_X8_film {n : Nat} {hp : mHp} {S : TS} {C : Nat → Int32} (hC : hp 68 = eI 12 C) (hc : eq12 C S.1) {X : SH} (hT : mTop hp) (hX : mShelf hp X) (hO : okS X) {w s l i : Int32} : mC D_X8_film [.ref 67, .int w, .int s, .int l, .int i] n hp (fun r hp' => r = some (.int (sFilm S X w s l i).1) ∧ mShelf hp' (sFilm S X w s l i).2 ∧ off5 hp hp') := by
  refine m_enter rfl rfl (Nat.le_of_ble_eq_true rfl) (fun K hF => ?_)
  show mW K _ 0 0 _ _ 0 [.ref 67, .int w, .int s, .int l, .int i, .retAddr 0, .retAddr 0] []
  obtain ⟨ac, ia, tm, ri, ev, le, ch, ls, rm, sm, ra, fa, h1⟩ := hT
  have hX0 := hX
  obtain ⟨LN, SZ, IT, x1, x2, x3, x4⟩ := hX
  refine m_iload_n dX8_film_0 rfl ?_
  refine m_i2l dX8_film_1 ?_
  refine m_lconst (v := 0) dX8_film_2 (by decide) ?_
  refine m_lconst (v := 1) dX8_film_3 (by decide) ?_
  refine m_invS_I dX8_film_4 lk_X8_141 ar_X8_in (t_X8_in) rfl (Nat.le_of_ble_eq_true rfl) (by decide) (by decide) (by decide) (by decide) rfl rfl ?_
  try rw [va_uu]
  refine m_if_eq (t := 18) dX8_film_7 (by decide) (fun c7 => ?_) (fun c7 => ?_)
  · refine m_iconst (v := -1) dX8_film_18 (by decide) ?_
    exact m_ireturn hF dX8_film_19 rfl rfl rfl ⟨by unfold sFilm; rw [if_neg (by rintro ⟨a1, a2, a3⟩; first | exact in2_iff.mp c7 a1 | exact shM_iff.mp c15 ⟨a2, a3⟩)], by unfold sFilm; rw [if_neg (by rintro ⟨a1, a2, a3⟩; first | exact in2_iff.mp c7 a1 | exact shM_iff.mp c15 ⟨a2, a3⟩)]; exact hX0, off5.rf⟩
  refine m_iload_n dX8_film_10 rfl ?_
  refine m_iload_n dX8_film_11 rfl ?_
  refine m_invS_I dX8_film_12 lk_X8_264 ar_X8_isSheet (t_X8_isSheet) rfl (Nat.le_of_ble_eq_true rfl) (by decide) (by decide) (by decide) (by decide) rfl rfl ?_
  try rw [va_uu]
  refine m_if_ne (t := 20) dX8_film_15 (by decide) (fun c15 => ?_) (fun c15 => ?_)
  rotate_left
  · refine m_iconst (v := -1) dX8_film_18 (by decide) ?_
    exact m_ireturn hF dX8_film_19 rfl rfl rfl ⟨by unfold sFilm; rw [if_neg (by rintro ⟨a1, a2, a3⟩; first | exact in2_iff.mp c7 a1 | exact shM_iff.mp c15 ⟨a2, a3⟩)], by unfold sFilm; rw [if_neg (by rintro ⟨a1, a2, a3⟩; first | exact in2_iff.mp c7 a1 | exact shM_iff.mp c15 ⟨a2, a3⟩)]; exact hX0, off5.rf⟩
  have hpt := Classical.not_not.mp (fun z => c15 (shM_iff.mpr z))
  have hok : inC w 2 ∧ inC s 4 ∧ inC l 4 := ⟨Classical.not_not.mp (fun z => c7 (in2_iff.mpr z)), hpt.1, hpt.2⟩
  obtain ⟨w, hw, rfl, ew⟩ := inC_n hok.1
  obtain ⟨t, ht, rfl, et⟩ := inC_n hok.2.1
  have hfr : ∀ _ : Unit, fndV LN SZ t l i 5 = shRef X.1 X.2.1 t l i 5 := fun _ => fnd_ref (x4 t ht) (by decide)
  refine m_aload_n dX8_film_20 rfl ?_
  refine m_iload_n dX8_film_21 rfl ?_
  refine m_iload_n dX8_film_22 rfl ?_
  refine m_iload dX8_film_23 rfl ?_
  refine m_iconst (v := 5) dX8_film_25 (by decide) ?_
  refine m_invV_I dX8_film_26 lk_X8_267 ar_X8_found (ci := 8) rfl rfl (by first | assumption | rfl | exact y1 _ | exact y2 _ | exact va_up_self _ _ _) (t_X8_found h1 x1 x2 ht) rfl (Nat.le_of_ble_eq_true rfl) (by decide) (by decide) (by decide) (by decide) rfl rfl ?_
  try rw [va_uu]
  refine m_istore dX8_film_29 (by decide) ?_
  show mW _ _ _ _ _ _ 31 [_, _, _, _, _, _, _] _
  refine m_iload dX8_film_31 rfl ?_
  refine m_if_eq (t := 39) dX8_film_33 (by decide) (fun c33 => ?_) (fun c33 => ?_)
  rotate_left
  · refine m_iload dX8_film_36 rfl ?_
    exact m_ireturn hF dX8_film_38 rfl rfl rfl ⟨by unfold sFilm; rw [if_pos hok, et, ← hfr (), if_neg c33], by unfold sFilm; rw [if_pos hok, et, ← hfr (), if_neg c33]; exact hX0, off5.rf⟩
  have c33b := (hfr ()).symm.trans c33
  obtain ⟨a, b, rfl, eb, hab, ea, eb2⟩ := shHas_in (hO t ht) (shRef_has c33b).1
  have hb1 : b = 5 := by rw [← eb2]; rfl
  have y1 : ∀ f : mE, va_up hp 75 f 67 = _ := fun f => (va_up_ne _ _ (by decide)).trans h1
  have y2 : ∀ f : mE, va_up hp 75 f 68 = eI 12 C := fun f => (va_up_ne _ _ (by decide)).trans hC
  refine m_iconst (v := 0) dX8_film_39 (by decide) ?_
  refine m_istore dX8_film_40 (by decide) ?_
  show mW _ _ _ _ _ _ 42 [_, _, _, _, _, _, _] _
  refine m_iload dX8_film_42 rfl ?_
  refine m_iconst (v := 5) dX8_film_44 (by decide) ?_
  refine m_icmp_ge (t := 81) dX8_film_45 (by decide) (fun q => absurd q (by decide)) (fun _ => ?_)
  refine m_aload_n dX8_film_48 rfl ?_
  refine m_getfield dX8_film_49 fl_X8_35 (by first | assumption | rfl | exact y1 _ | exact y2 _ | exact va_up_self _ _ _) (by first | assumption | rfl | exact y1 _ | exact y2 _ | exact va_up_self _ _ _) ?_
  show mW _ _ _ _ _ _ _ _ (.ref _ :: _)
  refine m_bipush (v := 24) dX8_film_52 (by decide) ?_
  refine m_iload_n dX8_film_54 rfl ?_
  refine m_imul dX8_film_55 ?_
  refine m_ci (v := nI (24 * t)) (nI_mulN 24 t) ?_
  refine m_iload dX8_film_56 rfl ?_
  refine m_iadd dX8_film_58 ?_
  refine m_ci (v := nI (24 * t + a)) (nI_add _ _) ?_
  refine m_iload dX8_film_59 rfl ?_
  refine m_iadd dX8_film_61 ?_
  refine m_ci (v := nI (24 * t + a + 0)) (by exact nI_add (24 * t + a) 0) ?_
  refine m_aload_n dX8_film_62 rfl ?_
  refine m_getfield dX8_film_63 fl_X8_7 (by first | assumption | rfl | exact y1 _ | exact y2 _ | exact va_up_self _ _ _) (by first | assumption | rfl | exact y1 _ | exact y2 _ | exact va_up_self _ _ _) ?_
  show mW _ _ _ _ _ _ _ _ (.ref _ :: _)
  refine m_iconst (v := 5) dX8_film_66 (by decide) ?_
  refine m_iload_n dX8_film_67 rfl ?_
  refine m_imul dX8_film_68 ?_
  refine m_ci (v := nI (5 * w)) (nI_mulN 5 w) ?_
  refine m_iload dX8_film_69 rfl ?_
  refine m_iadd dX8_film_71 ?_
  refine m_ci (v := nI (5 * w + 0)) (by exact nI_add (5 * w) 0) ?_
  refine m_iaload dX8_film_72 (by first | assumption | rfl | exact y1 _ | exact y2 _ | exact va_up_self _ _ _) (mIx_lit (show 5 * w + 0 < 12 by omega) (by decide)) ?_
  refine m_i2l dX8_film_73 ?_
  refine m_lastore dX8_film_74 (by first | assumption | rfl | exact y1 _ | exact y2 _ | exact va_up_self _ _ _) (mIx_lit (show 24 * t + a + 0 < 96 by omega) (by decide)) ?_
  try rw [va_uu]
  refine m_iinc (v := 1) dX8_film_75 rfl (by decide) (by decide) ?_
  show mW _ _ _ _ _ _ 78 [_, _, _, _, _, _, _] _
  refine m_goto (t := 42) dX8_film_78 (by decide) ?_
  refine m_iload dX8_film_42 rfl ?_
  refine m_iconst (v := 5) dX8_film_44 (by decide) ?_
  refine m_icmp_ge (t := 81) dX8_film_45 (by decide) (fun q => absurd q (by decide)) (fun _ => ?_)
  refine m_aload_n dX8_film_48 rfl ?_
  refine m_getfield dX8_film_49 fl_X8_35 (by first | assumption | rfl | exact y1 _ | exact y2 _ | exact va_up_self _ _ _) (by first | assumption | rfl | exact y1 _ | exact y2 _ | exact va_up_self _ _ _) ?_
  show mW _ _ _ _ _ _ _ _ (.ref _ :: _)
  refine m_bipush (v := 24) dX8_film_52 (by decide) ?_
  refine m_iload_n dX8_film_54 rfl ?_
  refine m_imul dX8_film_55 ?_
  refine m_ci (v := nI (24 * t)) (nI_mulN 24 t) ?_
  refine m_iload dX8_film_56 rfl ?_
  refine m_iadd dX8_film_58 ?_
  refine m_ci (v := nI (24 * t + a)) (nI_add _ _) ?_
  refine m_iload dX8_film_59 rfl ?_
  refine m_iadd dX8_film_61 ?_
  refine m_ci (v := nI (24 * t + a + 1)) (by exact nI_add (24 * t + a) 1) ?_
  refine m_aload_n dX8_film_62 rfl ?_
  refine m_getfield dX8_film_63 fl_X8_7 (by first | assumption | rfl | exact y1 _ | exact y2 _ | exact va_up_self _ _ _) (by first | assumption | rfl | exact y1 _ | exact y2 _ | exact va_up_self _ _ _) ?_
  show mW _ _ _ _ _ _ _ _ (.ref _ :: _)
  refine m_iconst (v := 5) dX8_film_66 (by decide) ?_
  refine m_iload_n dX8_film_67 rfl ?_
  refine m_imul dX8_film_68 ?_
  refine m_ci (v := nI (5 * w)) (nI_mulN 5 w) ?_
  refine m_iload dX8_film_69 rfl ?_
  refine m_iadd dX8_film_71 ?_
  refine m_ci (v := nI (5 * w + 1)) (by exact nI_add (5 * w) 1) ?_
  refine m_iaload dX8_film_72 (by first | assumption | rfl | exact y1 _ | exact y2 _ | exact va_up_self _ _ _) (mIx_lit (show 5 * w + 1 < 12 by omega) (by decide)) ?_
  refine m_i2l dX8_film_73 ?_
  refine m_lastore dX8_film_74 (by first | assumption | rfl | exact y1 _ | exact y2 _ | exact va_up_self _ _ _) (mIx_lit (show 24 * t + a + 1 < 96 by omega) (by decide)) ?_
  try rw [va_uu]
  refine m_iinc (v := 2) dX8_film_75 rfl (by decide) (by decide) ?_
  show mW _ _ _ _ _ _ 78 [_, _, _, _, _, _, _] _
  refine m_goto (t := 42) dX8_film_78 (by decide) ?_
  refine m_iload dX8_film_42 rfl ?_
  refine m_iconst (v := 5) dX8_film_44 (by decide) ?_
  refine m_icmp_ge (t := 81) dX8_film_45 (by decide) (fun q => absurd q (by decide)) (fun _ => ?_)
  refine m_aload_n dX8_film_48 rfl ?_
  refine m_getfield dX8_film_49 fl_X8_35 (by first | assumption | rfl | exact y1 _ | exact y2 _ | exact va_up_self _ _ _) (by first | assumption | rfl | exact y1 _ | exact y2 _ | exact va_up_self _ _ _) ?_
  show mW _ _ _ _ _ _ _ _ (.ref _ :: _)
  refine m_bipush (v := 24) dX8_film_52 (by decide) ?_
  refine m_iload_n dX8_film_54 rfl ?_
  refine m_imul dX8_film_55 ?_
  refine m_ci (v := nI (24 * t)) (nI_mulN 24 t) ?_
  refine m_iload dX8_film_56 rfl ?_
  refine m_iadd dX8_film_58 ?_
  refine m_ci (v := nI (24 * t + a)) (nI_add _ _) ?_
  refine m_iload dX8_film_59 rfl ?_
  refine m_iadd dX8_film_61 ?_
  refine m_ci (v := nI (24 * t + a + 2)) (by exact nI_add (24 * t + a) 2) ?_
  refine m_aload_n dX8_film_62 rfl ?_
  refine m_getfield dX8_film_63 fl_X8_7 (by first | assumption | rfl | exact y1 _ | exact y2 _ | exact va_up_self _ _ _) (by first | assumption | rfl | exact y1 _ | exact y2 _ | exact va_up_self _ _ _) ?_
  show mW _ _ _ _ _ _ _ _ (.ref _ :: _)
  refine m_iconst (v := 5) dX8_film_66 (by decide) ?_
  refine m_iload_n dX8_film_67 rfl ?_
  refine m_imul dX8_film_68 ?_
  refine m_ci (v := nI (5 * w)) (nI_mulN 5 w) ?_
  refine m_iload dX8_film_69 rfl ?_
  refine m_iadd dX8_film_71 ?_
  refine m_ci (v := nI (5 * w + 2)) (by exact nI_add (5 * w) 2) ?_
  refine m_iaload dX8_film_72 (by first | assumption | rfl | exact y1 _ | exact y2 _ | exact va_up_self _ _ _) (mIx_lit (show 5 * w + 2 < 12 by omega) (by decide)) ?_
  refine m_i2l dX8_film_73 ?_
  refine m_lastore dX8_film_74 (by first | assumption | rfl | exact y1 _ | exact y2 _ | exact va_up_self _ _ _) (mIx_lit (show 24 * t + a + 2 < 96 by omega) (by decide)) ?_
  try rw [va_uu]
  refine m_iinc (v := 3) dX8_film_75 rfl (by decide) (by decide) ?_
  show mW _ _ _ _ _ _ 78 [_, _, _, _, _, _, _] _
  refine m_goto (t := 42) dX8_film_78 (by decide) ?_
  refine m_iload dX8_film_42 rfl ?_
  refine m_iconst (v := 5) dX8_film_44 (by decide) ?_
  refine m_icmp_ge (t := 81) dX8_film_45 (by decide) (fun q => absurd q (by decide)) (fun _ => ?_)
  refine m_aload_n dX8_film_48 rfl ?_
  refine m_getfield dX8_film_49 fl_X8_35 (by first | assumption | rfl | exact y1 _ | exact y2 _ | exact va_up_self _ _ _) (by first | assumption | rfl | exact y1 _ | exact y2 _ | exact va_up_self _ _ _) ?_
  show mW _ _ _ _ _ _ _ _ (.ref _ :: _)
  refine m_bipush (v := 24) dX8_film_52 (by decide) ?_
  refine m_iload_n dX8_film_54 rfl ?_
  refine m_imul dX8_film_55 ?_
  refine m_ci (v := nI (24 * t)) (nI_mulN 24 t) ?_
  refine m_iload dX8_film_56 rfl ?_
  refine m_iadd dX8_film_58 ?_
  refine m_ci (v := nI (24 * t + a)) (nI_add _ _) ?_
  refine m_iload dX8_film_59 rfl ?_
  refine m_iadd dX8_film_61 ?_
  refine m_ci (v := nI (24 * t + a + 3)) (by exact nI_add (24 * t + a) 3) ?_
  refine m_aload_n dX8_film_62 rfl ?_
  refine m_getfield dX8_film_63 fl_X8_7 (by first | assumption | rfl | exact y1 _ | exact y2 _ | exact va_up_self _ _ _) (by first | assumption | rfl | exact y1 _ | exact y2 _ | exact va_up_self _ _ _) ?_
  show mW _ _ _ _ _ _ _ _ (.ref _ :: _)
  refine m_iconst (v := 5) dX8_film_66 (by decide) ?_
  refine m_iload_n dX8_film_67 rfl ?_
  refine m_imul dX8_film_68 ?_
  refine m_ci (v := nI (5 * w)) (nI_mulN 5 w) ?_
  refine m_iload dX8_film_69 rfl ?_
  refine m_iadd dX8_film_71 ?_
  refine m_ci (v := nI (5 * w + 3)) (by exact nI_add (5 * w) 3) ?_
  refine m_iaload dX8_film_72 (by first | assumption | rfl | exact y1 _ | exact y2 _ | exact va_up_self _ _ _) (mIx_lit (show 5 * w + 3 < 12 by omega) (by decide)) ?_
  refine m_i2l dX8_film_73 ?_
  refine m_lastore dX8_film_74 (by first | assumption | rfl | exact y1 _ | exact y2 _ | exact va_up_self _ _ _) (mIx_lit (show 24 * t + a + 3 < 96 by omega) (by decide)) ?_
  try rw [va_uu]
  refine m_iinc (v := 4) dX8_film_75 rfl (by decide) (by decide) ?_
  show mW _ _ _ _ _ _ 78 [_, _, _, _, _, _, _] _
  refine m_goto (t := 42) dX8_film_78 (by decide) ?_
  refine m_iload dX8_film_42 rfl ?_
  refine m_iconst (v := 5) dX8_film_44 (by decide) ?_
  refine m_icmp_ge (t := 81) dX8_film_45 (by decide) (fun q => absurd q (by decide)) (fun _ => ?_)
  refine m_aload_n dX8_film_48 rfl ?_
  refine m_getfield dX8_film_49 fl_X8_35 (by first | assumption | rfl | exact y1 _ | exact y2 _ | exact va_up_self _ _ _) (by first | assumption | rfl | exact y1 _ | exact y2 _ | exact va_up_self _ _ _) ?_
  show mW _ _ _ _ _ _ _ _ (.ref _ :: _)
  refine m_bipush (v := 24) dX8_film_52 (by decide) ?_
  refine m_iload_n dX8_film_54 rfl ?_
  refine m_imul dX8_film_55 ?_
  refine m_ci (v := nI (24 * t)) (nI_mulN 24 t) ?_
  refine m_iload dX8_film_56 rfl ?_
  refine m_iadd dX8_film_58 ?_
  refine m_ci (v := nI (24 * t + a)) (nI_add _ _) ?_
  refine m_iload dX8_film_59 rfl ?_
  refine m_iadd dX8_film_61 ?_
  refine m_ci (v := nI (24 * t + a + 4)) (by exact nI_add (24 * t + a) 4) ?_
  refine m_aload_n dX8_film_62 rfl ?_
  refine m_getfield dX8_film_63 fl_X8_7 (by first | assumption | rfl | exact y1 _ | exact y2 _ | exact va_up_self _ _ _) (by first | assumption | rfl | exact y1 _ | exact y2 _ | exact va_up_self _ _ _) ?_
  show mW _ _ _ _ _ _ _ _ (.ref _ :: _)
  refine m_iconst (v := 5) dX8_film_66 (by decide) ?_
  refine m_iload_n dX8_film_67 rfl ?_
  refine m_imul dX8_film_68 ?_
  refine m_ci (v := nI (5 * w)) (nI_mulN 5 w) ?_
  refine m_iload dX8_film_69 rfl ?_
  refine m_iadd dX8_film_71 ?_
  refine m_ci (v := nI (5 * w + 4)) (by exact nI_add (5 * w) 4) ?_
  refine m_iaload dX8_film_72 (by first | assumption | rfl | exact y1 _ | exact y2 _ | exact va_up_self _ _ _) (mIx_lit (show 5 * w + 4 < 12 by omega) (by decide)) ?_
  refine m_i2l dX8_film_73 ?_
  refine m_lastore dX8_film_74 (by first | assumption | rfl | exact y1 _ | exact y2 _ | exact va_up_self _ _ _) (mIx_lit (show 24 * t + a + 4 < 96 by omega) (by decide)) ?_
  try rw [va_uu]
  refine m_iinc (v := 5) dX8_film_75 rfl (by decide) (by decide) ?_
  show mW _ _ _ _ _ _ 78 [_, _, _, _, _, _, _] _
  refine m_goto (t := 42) dX8_film_78 (by decide) ?_
  refine m_iload dX8_film_42 rfl ?_
  refine m_iconst (v := 5) dX8_film_44 (by decide) ?_
  refine m_icmp_ge (t := 81) dX8_film_45 (by decide) (fun _ => ?_) (fun q => absurd (by decide) q)
  refine m_iconst (v := 5) dX8_film_81 (by decide) ?_
  exact m_ireturn hF dX8_film_82 rfl rfl rfl ⟨by unfold sFilm; rw [if_pos hok, et, if_pos c33b], by unfold sFilm; rw [if_pos hok, et, if_pos c33b, ea, ew, flm_up (c := S.1) (fun t ht => hc t (by omega)) hw]; exact ⟨LN, SZ, _, (va_up_ne _ _ (by decide)).trans x1, (va_up_ne _ _ (by decide)).trans x2, va_up_self _ _ _, fun q hq => lnR_item (x4 q hq) hO hq (fun i hi e => flm_f e) (fun p i hp hi => flm_g (by omega) hi hp)⟩, fun q hq => va_up_ne _ _ (by omega)⟩

