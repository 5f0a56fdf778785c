/-! ===== the reference: the sheets ===== -/
abbrev mTop (hp : mHp) : Prop := ∃ ac ia tm ri ev le ch ls rm sm ra fa : Int32, hp 67 = eO 8 (oMod ac ia tm ri ev le ch ls rm sm ra fa)
def lnR (X : SH) (LN SZ : Nat → Int32) (IT : Nat → Int64) (s : Nat) : Prop := (LN s < 0 ∧ X.1 s = -1) ∨ (0 ≤ LN s ∧ X.1 s = LN s ∧ X.2.1 s = SZ s ∧ ∀ i, i < tN (SZ s) → X.2.2 s i = IT (24 * s + i))
def mShelf (hp : mHp) (X : SH) : Prop := ∃ (LN SZ : Nat → Int32) (IT : Nat → Int64), hp 73 = eI 4 LN ∧ hp 74 = eI 4 SZ ∧ hp 75 = eL 96 IT ∧ ∀ s, s < 4 → lnR X LN SZ IT s
theorem mShelf.of {hp hp' : mHp} {X : SH} (h : mShelf hp X) (e : ∀ q, 73 ≤ q → q ≤ 75 → hp' q = hp q) : mShelf hp' X := by
  obtain ⟨LN, SZ, IT, h1, h2, h3, h4⟩ := h
  exact ⟨LN, SZ, IT, (e 73 (by decide) (by decide)).trans h1, (e 74 (by decide) (by decide)).trans h2, (e 75 (by decide) (by decide)).trans h3, h4⟩
def off5 (hp hp' : mHp) : Prop := ∀ q, (q < 73 ∨ 75 < q) → hp' q = hp q
theorem off5.rf {hp : mHp} : off5 hp hp := fun _ _ => rfl
theorem m0_ne {x : Int32} (h : 0 ≤ x) : x ≠ -1 := fun e => by
  rw [e] at h
  exact absurd h (by decide)
def shM (s l : Int32) : Int32 := if inI s.toInt64 0 3 = 0 then 0 else if inI l.toInt64 0 3 = 0 then 0 else 1
theorem in4_iff {v : Int32} : inI v.toInt64 0 3 = 0 ↔ ¬ inC v 4 := by
  rw [inI_iff (x := 0) (y := 3) (by decide) (by decide)]
  unfold inC
  omega
theorem in2_iff {v : Int32} : inI v.toInt64 0 1 = 0 ↔ ¬ inC v 2 := by
  rw [inI_iff (x := 0) (y := 1) (by decide) (by decide)]
  unfold inC
  omega
theorem shM_iff {s l : Int32} : shM s l = 0 ↔ ¬ (inC s 4 ∧ inC l 4) := by
  unfold shM
  rw [if01, in4_iff, in4_iff]
  constructor
  · rintro (h | h) ⟨a, b⟩
    · exact h a
    · exact h b
  · intro h
    by_cases a : inC s 4
    · exact Or.inr (fun b => h ⟨a, b⟩)
    · exact Or.inl a
def fndV (LN SZ : Nat → Int32) (s : Nat) (l i z : Int32) : Int32 := if 0 ≤ LN s then (if LN s = l then (if i < 0 then -13 else if i ≤ SZ s - z then 0 else -13) else -12) else -11
theorem fnd_ref {X : SH} {LN SZ : Nat → Int32} {IT : Nat → Int64} {s : Nat} {l i z : Int32} (h : lnR X LN SZ IT s) (hz : ¬ z < 0) : fndV LN SZ s l i z = shRef X.1 X.2.1 s l i z := by
  unfold fndV shRef
  rcases h with ⟨a, b⟩ | ⟨a, b, c, -⟩
  · rw [if_neg (Int32.not_le.mpr a), if_pos b, if_neg (by decide)]
  · rw [if_pos a, if_neg (fun e => m0_ne a (b.symm.trans e)), if_pos rfl, b]
    by_cases e : LN s = l
    · rw [if_pos e, if_pos e]
      unfold shHas
      rw [c]
      by_cases e1 : i < 0
      · rw [if_pos e1, if_pos e1, if_pos rfl]
      · rw [if_neg e1, if_neg e1, if_neg hz]
        by_cases e2 : i ≤ SZ s - z
        · rw [if_pos e2, if_neg (Int32.not_lt.mpr e2), if_neg (by decide)]
        · rw [if_neg e2, if_pos (Int32.not_le.mp e2), if_pos rfl]
    · rw [if_neg e, if_neg e]
set_option maxHeartbeats 400000 in
set_option maxRecDepth 100000 in
theorem t_X8_isSheet {n : Nat} {hp : mHp} {s l : Int32} : mC D_X8_isSheet [.int s, .int l] n hp (rI (shM s l) hp) := by
  refine m_enter rfl rfl (Nat.le_of_ble_eq_true rfl) (fun K hF => ?_)
  show mW K _ 0 0 _ _ 0 [.int s, .int l] []
  refine m_iload_n dX8_isSheet_0 rfl ?_
  refine m_i2l dX8_isSheet_1 ?_
  refine m_lconst (v := 0) dX8_isSheet_2 (by decide) ?_
  refine m_ldc2 dX8_isSheet_3 cl_X8_174 ?_
  refine m_invS_I dX8_isSheet_6 lk_X8_141 ar_X8_in (t_X8_in) rfl (Nat.le_of_ble_eq_true rfl) (by decide) (by decide) (by decide) (by decide) rfl rfl ?_
  try rw [va_uu]
  refine m_if_eq (t := 28) dX8_isSheet_9 (by decide) (fun c9 => ?_) (fun c9 => ?_)
  · refine m_iconst (v := 0) dX8_isSheet_28 (by decide) ?_
    exact m_zreturn hF dX8_isSheet_29 rfl rfl rfl rfl ⟨by unfold shM; simp only [if_pos c9], rfl⟩
  refine m_iload_n dX8_isSheet_12 rfl ?_
  refine m_i2l dX8_isSheet_13 ?_
  refine m_lconst (v := 0) dX8_isSheet_14 (by decide) ?_
  refine m_ldc2 dX8_isSheet_15 cl_X8_174 ?_
  refine m_invS_I dX8_isSheet_18 lk_X8_141 ar_X8_in (t_X8_in) rfl (Nat.le_of_ble_eq_true rfl) (by decide) (by decide) (by decide) (by decide) rfl rfl ?_
  try rw [va_uu]
  refine m_if_eq (t := 28) dX8_isSheet_21 (by decide) (fun c21 => ?_) (fun c21 => ?_)
  · refine m_iconst (v := 0) dX8_isSheet_28 (by decide) ?_
    exact m_zreturn hF dX8_isSheet_29 rfl rfl rfl rfl ⟨by unfold shM; simp only [if_neg c9, if_pos c21], rfl⟩
  refine m_iconst (v := 1) dX8_isSheet_24 (by decide) ?_
  refine m_goto (t := 29) dX8_isSheet_25 (by decide) ?_
  exact m_zreturn hF dX8_isSheet_29 rfl rfl rfl rfl ⟨by unfold shM; simp only [if_neg c9, if_neg c21], rfl⟩

set_option maxHeartbeats 400000 in
set_option maxRecDepth 100000 in
theorem t_X8_found {n : Nat} {hp : mHp} {ac ia tm ri ev le ch ls rm sm ra fa : Int32} (h1 : hp 67 = eO 8 (oMod ac ia tm ri ev le ch ls rm sm ra fa)) {LN SZ : Nat → Int32} {s : Nat} {l i z : Int32} (h2 : hp 73 = eI 4 LN) (h3 : hp 74 = eI 4 SZ) (hs : s < 4) : mC D_X8_found [.ref 67, .int (nI s), .int l, .int i, .int z] n hp (rI (fndV LN SZ s l i z) hp) := by
  refine m_enter rfl rfl (Nat.le_of_ble_eq_true rfl) (fun K hF => ?_)
  show mW K _ 0 0 _ _ 0 [.ref 67, .int (nI s), .int l, .int i, .int z] []
  refine m_aload_n dX8_found_0 rfl ?_
  refine m_getfield dX8_found_1 fl_X8_29 (by first | assumption | rfl) (by first | assumption | rfl) ?_
  show mW _ _ _ _ _ _ _ _ (.ref _ :: _)
  refine m_iload_n dX8_found_4 rfl ?_
  refine m_iaload dX8_found_5 (by first | assumption | rfl) (mIx_lit hs (by decide)) ?_
  refine m_if_ge (t := 12) dX8_found_6 (by decide) (fun c6 => ?_) (fun c6 => ?_)
  rotate_left
  · refine m_bipush (v := -11) dX8_found_9 (by decide) ?_
    exact m_ireturn hF dX8_found_11 rfl rfl rfl ⟨by unfold fndV; rw [if_neg c6], rfl⟩
  refine m_aload_n dX8_found_12 rfl ?_
  refine m_getfield dX8_found_13 fl_X8_29 (by first | assumption | rfl) (by first | assumption | rfl) ?_
  show mW _ _ _ _ _ _ _ _ (.ref _ :: _)
  refine m_iload_n dX8_found_16 rfl ?_
  refine m_iaload dX8_found_17 (by first | assumption | rfl) (mIx_lit hs (by decide)) ?_
  refine m_iload_n dX8_found_18 rfl ?_
  refine m_icmp_eq (t := 25) dX8_found_19 (by decide) (fun c19 => ?_) (fun c19 => ?_)
  rotate_left
  · refine m_bipush (v := -12) dX8_found_22 (by decide) ?_
    exact m_ireturn hF dX8_found_24 rfl rfl rfl ⟨by unfold fndV; rw [if_pos c6, if_neg c19], rfl⟩
  refine m_iload_n dX8_found_25 rfl ?_
  refine m_if_lt (t := 42) dX8_found_26 (by decide) (fun c26 => ?_) (fun c26 => ?_)
  · refine m_bipush (v := -13) dX8_found_42 (by decide) ?_
    refine m_goto (t := 48) dX8_found_44 (by decide) ?_
    exact m_ireturn hF dX8_found_48 rfl rfl rfl ⟨by unfold fndV; rw [if_pos c6, if_pos c19, if_pos c26], rfl⟩
  refine m_iload_n dX8_found_29 rfl ?_
  refine m_aload_n dX8_found_30 rfl ?_
  refine m_getfield dX8_found_31 fl_X8_32 (by first | assumption | rfl) (by first | assumption | rfl) ?_
  show mW _ _ _ _ _ _ _ _ (.ref _ :: _)
  refine m_iload_n dX8_found_34 rfl ?_
  refine m_iaload dX8_found_35 (by first | assumption | rfl) (mIx_lit hs (by decide)) ?_
  refine m_iload dX8_found_36 rfl ?_
  refine m_isub dX8_found_38 ?_
  refine m_icmp_le (t := 47) dX8_found_39 (by decide) (fun c39 => ?_) (fun c39 => ?_)
  · refine m_iconst (v := 0) dX8_found_47 (by decide) ?_
    exact m_ireturn hF dX8_found_48 rfl rfl rfl ⟨by unfold fndV; rw [if_pos c6, if_pos c19, if_neg c26, if_pos c39], rfl⟩
  refine m_bipush (v := -13) dX8_found_42 (by decide) ?_
  refine m_goto (t := 48) dX8_found_44 (by decide) ?_
  exact m_ireturn hF dX8_found_48 rfl rfl rfl ⟨by unfold fndV; rw [if_pos c6, if_pos c19, if_neg c26, if_neg c39], rfl⟩

theorem lnR_drop {X : SH} {LN SZ : Nat → Int32} {IT : Nat → Int64} {t q : Nat} (h : lnR X LN SZ IT q) : lnR (va_up X.1 t (-1), va_up X.2.1 t 0, X.2.2) (va_up LN t (-4)) SZ IT q := by
  unfold lnR
  show (va_up LN t (-4) q < 0 ∧ va_up X.1 t (-1) q = -1) ∨ (0 ≤ va_up LN t (-4) q ∧ va_up X.1 t (-1) q = va_up LN t (-4) q ∧ va_up X.2.1 t 0 q = SZ q ∧ ∀ i, i < tN (SZ q) → X.2.2 q i = IT (24 * q + i))
  by_cases e : q = t
  · rw [e, va_up_self, va_up_self]
    exact Or.inl ⟨by decide, rfl⟩
  · rw [va_up_ne _ _ e, va_up_ne _ _ e, va_up_ne _ _ e]
    exact h
set_option maxHeartbeats 400000 in
set_option maxRecDepth 100000 in
theorem t_X8_drop {n : Nat} {hp : mHp} {X : SH} (hT : mTop hp) (hX : mShelf hp X) {s : Int32} : mC D_X8_drop [.ref 67, .int s] n hp (fun r hp' => r = some (.int (sDrop X s).1) ∧ mShelf hp' (sDrop X s).2 ∧ off5 hp hp') := by
  refine m_enter rfl rfl (Nat.le_of_ble_eq_true rfl) (fun K hF => ?_)
  show mW K _ 0 0 _ _ 0 [.ref 67, .int s] []
  obtain ⟨ac, ia, tm, ri, ev, le, ch, ls, rm, sm, ra, fa, h1⟩ := hT
  have hX0 := hX
  obtain ⟨LN, SZ, IT, x1, x2, x3, x4⟩ := hX
  refine m_iload_n dX8_drop_0 rfl ?_
  refine m_i2l dX8_drop_1 ?_
  refine m_lconst (v := 0) dX8_drop_2 (by decide) ?_
  refine m_ldc2 dX8_drop_3 cl_X8_174 ?_
  refine m_invS_I dX8_drop_6 lk_X8_141 ar_X8_in (t_X8_in) rfl (Nat.le_of_ble_eq_true rfl) (by decide) (by decide) (by decide) (by decide) rfl rfl ?_
  try rw [va_uu]
  refine m_if_ne (t := 14) dX8_drop_9 (by decide) (fun c9 => ?_) (fun c9 => ?_)
  rotate_left
  · refine m_iconst (v := -1) dX8_drop_12 (by decide) ?_
    exact m_ireturn hF dX8_drop_13 rfl rfl rfl ⟨by unfold sDrop; rw [if_neg (in4_iff.mp c9)], by unfold sDrop; rw [if_neg (in4_iff.mp c9)]; exact hX0, off5.rf⟩
  have hok : inC s 4 := Classical.not_not.mp (fun z => c9 (in4_iff.mpr z))
  obtain ⟨t, ht, rfl, et⟩ := inC_n hok
  have hr := x4 t ht
  refine m_aload_n dX8_drop_14 rfl ?_
  refine m_getfield dX8_drop_15 fl_X8_29 (by first | assumption | rfl | exact y1 _ | exact y3 _) (by first | assumption | rfl | exact y1 _ | exact y3 _) ?_
  show mW _ _ _ _ _ _ _ _ (.ref _ :: _)
  refine m_iload_n dX8_drop_18 rfl ?_
  refine m_iaload dX8_drop_19 (by first | assumption | rfl | exact y1 _ | exact y3 _) (mIx_lit ht (by decide)) ?_
  refine m_if_ge (t := 26) dX8_drop_20 (by decide) (fun c20 => ?_) (fun c20 => ?_)
  rotate_left
  · have hm : X.1 t = -1 := by rcases hr with y | y; exact y.2; exact absurd y.1 c20
    refine m_bipush (v := -11) dX8_drop_23 (by decide) ?_
    exact m_ireturn hF dX8_drop_25 rfl rfl rfl ⟨by unfold sDrop; rw [if_pos hok, et, if_pos hm], by unfold sDrop; rw [if_pos hok, et, if_pos hm]; exact hX0, off5.rf⟩
  have hr2 := hr.resolve_left (fun y => absurd c20 (Int32.not_le.mpr y.1))
  have hm : X.1 t ≠ -1 := fun e => m0_ne c20 (hr2.2.1.symm.trans e)
  have y3 : ∀ f : mE, va_up hp 73 f 74 = eI 4 SZ := fun f => (va_up_ne _ _ (by decide)).trans x2
  have y1 : ∀ f : mE, va_up hp 73 f 67 = _ := fun f => (va_up_ne _ _ (by decide)).trans h1
  refine m_aload_n dX8_drop_26 rfl ?_
  refine m_getfield dX8_drop_27 fl_X8_29 (by first | assumption | rfl | exact y1 _ | exact y3 _) (by first | assumption | rfl | exact y1 _ | exact y3 _) ?_
  show mW _ _ _ _ _ _ _ _ (.ref _ :: _)
  refine m_iload_n dX8_drop_30 rfl ?_
  refine m_bipush (v := -4) dX8_drop_31 (by decide) ?_
  refine m_iastore dX8_drop_33 (by first | assumption | rfl | exact y1 _ | exact y3 _) (mIx_lit ht (by decide)) ?_
  try rw [va_uu]
  refine m_aload_n dX8_drop_34 rfl ?_
  refine m_getfield dX8_drop_35 fl_X8_32 (by first | assumption | rfl | exact y1 _ | exact y3 _) (by first | assumption | rfl | exact y1 _ | exact y3 _) ?_
  show mW _ _ _ _ _ _ _ _ (.ref _ :: _)
  refine m_iload_n dX8_drop_38 rfl ?_
  refine m_iaload dX8_drop_39 (by first | assumption | rfl | exact y1 _ | exact y3 _) (mIx_lit ht (by decide)) ?_
  exact m_ireturn hF dX8_drop_40 rfl rfl rfl ⟨by unfold sDrop; rw [if_pos hok, et, if_neg hm, hr2.2.2.1], by unfold sDrop; rw [if_pos hok, et, if_neg hm]; exact ⟨_, SZ, IT, va_up_self _ _ _, (va_up_ne _ _ (by decide)).trans x2, (va_up_ne _ _ (by decide)).trans x3, fun q hq => lnR_drop (x4 q hq)⟩, fun q hq => va_up_ne _ _ (by omega)⟩

def zfil (IT : Nat → Int64) (b k : Nat) : Nat → Int64 := fun t => if b ≤ t ∧ t < b + k then 0 else IT t
theorem zfil_up {IT : Nat → Int64} {b k : Nat} : va_up (zfil IT b k) (b + k) 0 = zfil IT b (k + 1) := by
  funext t
  by_cases e : t = b + k
  · rw [e, va_up_self]
    unfold zfil
    rw [if_pos (by omega)]
  · rw [va_up_ne _ _ e]
    unfold zfil
    by_cases e2 : b ≤ t ∧ t < b + k
    · rw [if_pos e2, if_pos (by omega)]
    · rw [if_neg e2, if_neg (by omega)]
theorem zfil_0 {IT : Nat → Int64} {b : Nat} : zfil IT b 0 = IT := by
  funext t
  unfold zfil
  rw [if_neg (by omega)]
theorem lnR_sheet {X : SH} {LN SZ : Nat → Int32} {IT : Nat → Int64} {t q N : Nat} {l : Int32} (h : lnR X LN SZ IT q) (hN : N ≤ 24) (hl : 0 ≤ l) (hO : okS X) (hq : q < 4) : lnR (va_up X.1 t l, va_up X.2.1 t (nI N), va_up X.2.2 t (fillTo (X.2.2 t) 0 24)) (va_up LN t l) (va_up SZ t (nI N)) (zfil IT (24 * t) N) q := by
  unfold lnR
  show (va_up LN t l q < 0 ∧ va_up X.1 t l q = -1) ∨ (0 ≤ va_up LN t l q ∧ va_up X.1 t l q = va_up LN t l q ∧ va_up X.2.1 t (nI N) q = va_up SZ t (nI N) q ∧ ∀ i, i < tN (va_up SZ t (nI N) q) → va_up X.2.2 t (fillTo (X.2.2 t) 0 24) q i = zfil IT (24 * t) N (24 * q + i))
  by_cases e : q = t
  · rw [e, va_up_self, va_up_self, va_up_self, va_up_self, va_up_self]
    refine Or.inr ⟨hl, rfl, rfl, fun i hi => ?_⟩
    have hi : i < (nI N).toInt.toNat := hi
    rw [nI_toInt (by omega)] at hi
    have hi2 : i < N := by omega
    unfold zfil fillTo
    rw [if_pos (by omega), if_pos (by omega)]
  · rw [va_up_ne _ _ e, va_up_ne _ _ e, va_up_ne _ _ e, va_up_ne _ _ e, va_up_ne _ _ e]
    rcases h with y | ⟨y1, y2, y3, y4⟩
    · exact Or.inl y
    · refine Or.inr ⟨y1, y2, y3, fun i hi => ?_⟩
      have hb := hO q hq
      rw [y3] at hb
      have hi2 : i < (SZ q).toInt.toNat := hi
      rw [y4 i hi]
      unfold zfil
      rw [if_neg (by omega)]
set_option maxHeartbeats 400000 in
set_option maxRecDepth 100000 in
theorem l_X8_sheet {n : Nat} {hp : mHp} {ac ia tm ri ev le ch ls rm sm ra fa : Int32} (h1 : hp 67 = eO 8 (oMod ac ia tm ri ev le ch ls rm sm ra fa)) {s N : Nat} {l : Int32} {IT : Nat → Int64} (hs : s < 4) (hN : N ≤ 24) {Q : mQ} {K : mK} (hF : mFin K D_X8_sheet n Q) (hq : Q (some (.int (nI N))) (va_up hp 75 (eL 96 (zfil IT (24 * s) N)))) (y1 : ∀ f : mE, va_up hp 75 f 67 = eO 8 (oMod ac ia tm ri ev le ch ls rm sm ra fa)) : ∀ r k : Nat, k + r = N → mW K D_X8_sheet 0 0 n (va_up hp 75 (eL 96 (zfil IT (24 * s) k))) 40 [.ref 67, .int (nI s), .int l, .int (nI N), .int (nI k)] [] := by
  intro r
  induction r using Nat.strongRecOn with
  | ind r ih =>
    intro k hkr
    refine m_iload dX8_sheet_40 rfl ?_
    refine m_iload_n dX8_sheet_42 rfl ?_
    refine m_icmp_ge (t := 65) dX8_sheet_43 (by decide) (fun cc => ?_) (fun cc => ?_)
    · have hm : k = N := by have := nI_cmp' (by omega) (by omega) cc; omega
      subst hm
      refine m_iload_n dX8_sheet_65 rfl ?_
      exact m_ireturn hF dX8_sheet_66 rfl rfl rfl hq
    have hlt : k < N := nI_cmp (by omega) (by omega) cc
    refine m_aload_n dX8_sheet_46 rfl ?_
    refine m_getfield dX8_sheet_47 fl_X8_35 (by first | exact y1 _ | rfl | exact va_up_self _ _ _) (by first | exact y1 _ | rfl | exact va_up_self _ _ _) ?_
    show mW _ _ _ _ _ _ _ _ (.ref _ :: _)
    refine m_bipush (v := 24) dX8_sheet_50 (by decide) ?_
    refine m_iload_n dX8_sheet_52 rfl ?_
    refine m_imul dX8_sheet_53 ?_
    refine m_ci (v := nI (24 * s)) (nI_mulN 24 s) ?_
    refine m_iload dX8_sheet_54 rfl ?_
    refine m_iadd dX8_sheet_56 ?_
    refine m_ci (v := nI (24 * s + k)) (nI_add _ _) ?_
    refine m_lconst (v := 0) dX8_sheet_57 (by decide) ?_
    refine m_lastore dX8_sheet_58 (by first | exact y1 _ | rfl | exact va_up_self _ _ _) (mIx_lit (show 24 * s + k < 96 by omega) (by decide)) ?_
    try rw [va_uu]
    rw [zfil_up]
    refine m_iinc (v := nI (k + 1)) dX8_sheet_59 rfl (nI_1 k) (by decide) ?_
    show mW _ _ _ _ _ _ 62 [_, _, _, _, _] _
    refine m_goto (t := 40) dX8_sheet_62 (by decide) ?_
    exact ih (r - 1) (by omega) (k + 1) (by omega)

set_option maxHeartbeats 400000 in
set_option maxRecDepth 100000 in
theorem t_X8_sheet {n : Nat} {hp : mHp} {X : SH} (hT : mTop hp) (hX : mShelf hp X) (hO : okS X) {s l z : Int32} : mC D_X8_sheet [.ref 67, .int s, .int l, .int z] n hp (fun r hp' => r = some (.int (sSheet X s l z).1) ∧ mShelf hp' (sSheet X s l z).2 ∧ off5 hp hp') := by
  refine m_enter rfl rfl (Nat.le_of_ble_eq_true rfl) (fun K hF => ?_)
  show mW K _ 0 0 _ _ 0 [.ref 67, .int s, .int l, .int z, .retAddr 0] []
  obtain ⟨ac, ia, tm, ri, ev, le, ch, ls, rm, sm, ra, fa, h1⟩ := hT
  have hX0 := hX
  obtain ⟨LN, SZ, IT, x1, x2, x3, x4⟩ := hX
  refine m_iload_n dX8_sheet_0 rfl ?_
  refine m_iload_n dX8_sheet_1 rfl ?_
  refine m_invS_I dX8_sheet_2 lk_X8_264 ar_X8_isSheet (t_X8_isSheet) rfl (Nat.le_of_ble_eq_true rfl) (by decide) (by decide) (by decide) (by decide) rfl rfl ?_
  try rw [va_uu]
  refine m_if_eq (t := 14) dX8_sheet_5 (by decide) (fun c5 => ?_) (fun c5 => ?_)
  · refine m_iconst (v := -1) dX8_sheet_14 (by decide) ?_
    exact m_ireturn hF dX8_sheet_15 rfl rfl rfl ⟨by unfold sSheet; rw [if_neg (by rintro ⟨a1, a2, a3⟩; first | exact shM_iff.mp c5 ⟨a1, a2⟩ | exact c11 a3)], by unfold sSheet; rw [if_neg (by rintro ⟨a1, a2, a3⟩; first | exact shM_iff.mp c5 ⟨a1, a2⟩ | exact c11 a3)]; exact hX0, off5.rf⟩
  refine m_iload_n dX8_sheet_8 rfl ?_
  refine m_bipush (v := 24) dX8_sheet_9 (by decide) ?_
  refine m_icmp_le (t := 16) dX8_sheet_11 (by decide) (fun c11 => ?_) (fun c11 => ?_)
  rotate_left
  · refine m_iconst (v := -1) dX8_sheet_14 (by decide) ?_
    exact m_ireturn hF dX8_sheet_15 rfl rfl rfl ⟨by unfold sSheet; rw [if_neg (by rintro ⟨a1, a2, a3⟩; first | exact shM_iff.mp c5 ⟨a1, a2⟩ | exact c11 a3)], by unfold sSheet; rw [if_neg (by rintro ⟨a1, a2, a3⟩; first | exact shM_iff.mp c5 ⟨a1, a2⟩ | exact c11 a3)]; exact hX0, off5.rf⟩
  have h44 := Classical.not_not.mp (fun z => c5 (shM_iff.mpr z))
  have hok : inC s 4 ∧ inC l 4 ∧ z ≤ 24 := ⟨h44.1, h44.2, c11⟩
  refine m_iload_n dX8_sheet_16 rfl ?_
  refine m_if_ge (t := 23) dX8_sheet_17 (by decide) (fun c17 => ?_) (fun c17 => ?_)
  rotate_left
  · refine m_bipush (v := -14) dX8_sheet_20 (by decide) ?_
    exact m_ireturn hF dX8_sheet_22 rfl rfl rfl ⟨by unfold sSheet; rw [if_pos hok, if_neg c17], by unfold sSheet; rw [if_pos hok, if_neg c17]; exact hX0, off5.rf⟩
  obtain ⟨t, ht, rfl, et⟩ := inC_n hok.1
  have y1 : ∀ f : mE, va_up hp 73 f 67 = _ := fun f => (va_up_ne _ _ (by decide)).trans h1
  have y2 : ∀ f : mE, va_up hp 73 f 74 = eI 4 SZ := fun f => (va_up_ne _ _ (by decide)).trans x2
  refine m_aload_n dX8_sheet_23 rfl ?_
  refine m_getfield dX8_sheet_24 fl_X8_29 (by first | assumption | rfl | exact y1 _ | exact y2 _) (by first | assumption | rfl | exact y1 _ | exact y2 _) ?_
  show mW _ _ _ _ _ _ _ _ (.ref _ :: _)
  refine m_iload_n dX8_sheet_27 rfl ?_
  refine m_iload_n dX8_sheet_28 rfl ?_
  refine m_iastore dX8_sheet_29 (by first | assumption | rfl | exact y1 _ | exact y2 _) (mIx_lit ht (by decide)) ?_
  try rw [va_uu]
  refine m_aload_n dX8_sheet_30 rfl ?_
  refine m_getfield dX8_sheet_31 fl_X8_32 (by first | assumption | rfl | exact y1 _ | exact y2 _) (by first | assumption | rfl | exact y1 _ | exact y2 _) ?_
  show mW _ _ _ _ _ _ _ _ (.ref _ :: _)
  refine m_iload_n dX8_sheet_34 rfl ?_
  refine m_iload_n dX8_sheet_35 rfl ?_
  refine m_iastore dX8_sheet_36 (by first | assumption | rfl | exact y1 _ | exact y2 _) (mIx_lit ht (by decide)) ?_
  try rw [va_uu]
  refine m_iconst (v := 0) dX8_sheet_37 (by decide) ?_
  refine m_istore dX8_sheet_38 (by decide) ?_
  show mW _ _ _ _ _ _ 40 [_, _, _, _, _] _
  have hz0 : 0 ≤ z.toInt := Int32.le_iff_toInt_le.mp c17
  have hz24 : z.toInt ≤ 24 := Int32.le_iff_toInt_le.mp c11
  obtain ⟨ez, -⟩ := nI_of0 hz0
  generalize hN9 : z.toInt.toNat = N at ez
  have hN : N ≤ 24 := by omega
  have hq := l_X8_sheet (hp := va_up (va_up hp 73 (eI 4 (va_up LN t l))) 74 (eI 4 (va_up SZ t z))) (IT := IT) (s := t) (N := N) (l := l) ((va_up_ne _ _ (by decide)).trans (y1 _)) ht hN hF (by
    rw [← ez]
    refine ⟨by unfold sSheet; rw [if_pos hok, if_pos c17], ?_, fun q hq => by rw [va_up_ne _ _ (by omega), va_up_ne _ _ (by omega), va_up_ne _ _ (by omega)]⟩
    unfold sSheet
    rw [if_pos hok, if_pos c17, et]
    refine ⟨va_up LN t l, va_up SZ t z, zfil IT (24 * t) N, rfl, rfl, va_up_self _ _ _, fun q hq => ?_⟩
    rw [ez]
    exact lnR_sheet (x4 q hq) hN (Int32.le_iff_toInt_le.mpr hok.2.1.1) hO hq) (fun f => (va_up_ne _ _ (by decide)).trans ((va_up_ne _ _ (by decide)).trans h1)) N 0 (by omega)
  rw [zfil_0, va_uid _ (show va_up (va_up hp 73 (eI 4 (va_up LN t l))) 74 (eI 4 (va_up SZ t z)) 75 = eL 96 IT from (va_up_ne _ _ (by decide)).trans ((va_up_ne _ _ (by decide)).trans x3)), ← ez] at hq
  exact hq

