/-! ===== the reference: type, copy ===== -/
def mTape (hp : mHp) (z : Nat) (LT : Nat → Int32) : Prop := z ≤ 60 ∧ ∃ TP : Nat → Int32, hp 72 = eI 60 TP ∧ ∀ t, t < z → TP t = LT t
theorem byT_eq {x : Int32} (h1 : 32 ≤ x.toInt) (h2 : x.toInt ≤ 126) : byT x = x := by
  have e0 : byT x = x.toInt8.toInt32.toInt8.toInt32 := rfl
  rw [e0]
  apply Int32.toInt_inj.mp
  rw [Int8.toInt_toInt32, Int32.toInt_toInt8, Int8.toInt_toInt32, Int32.toInt_toInt8]
  rw [Int.bmod_eq_of_le (n := x.toInt) (by omega) (by omega), Int.bmod_eq_of_le (n := x.toInt) (by omega) (by omega)]
theorem sType_bad {z : Nat} {LT : Nat → Int32} {x : Int32} (h : ¬ (32 ≤ x.toInt ∧ x.toInt ≤ 126)) : sType z LT x = (-1, z, LT) := by
  unfold sType
  by_cases e : x < 32
  · rw [if_pos e]
  · rw [if_neg e, if_neg (fun y => h ⟨by rw [Int32.lt_iff_toInt_lt, show (32 : Int32).toInt = 32 by decide] at e; omega, by rw [Int32.le_iff_toInt_le, show (126 : Int32).toInt = 126 by decide] at y; exact y⟩)]
theorem sType_ok {z : Nat} {LT : Nat → Int32} {x : Int32} (h : 32 ≤ x.toInt ∧ x.toInt ≤ 126) : sType z LT x = if z < 60 then (nI (z + 1), z + 1, va_up LT z x) else (-3, z, LT) := by
  unfold sType
  rw [if_neg (by rw [Int32.lt_iff_toInt_lt, show (32 : Int32).toInt = 32 by decide]; omega), if_pos (by rw [Int32.le_iff_toInt_le, show (126 : Int32).toInt = 126 by decide]; exact h.2), byT_eq h.1 h.2]
set_option maxHeartbeats 400000 in
set_option maxRecDepth 100000 in
theorem t_X8_type {n : Nat} {hp : mHp} {z : Nat} {LT : Nat → Int32} {ac ia ri ev le ch ls rm sm ra fa x : Int32} (h1 : hp 67 = eO 8 (oMod ac ia (nI z) ri ev le ch ls rm sm ra fa)) (hT : mTape hp z LT) : mC D_X8_type [.ref 67, .int x] n hp (fun r hp' => r = some (.int (sType z LT x).1) ∧ hp' 67 = eO 8 (oMod ac ia (nI (sType z LT x).2.1) ri ev le ch ls rm sm ra fa) ∧ mTape hp' (sType z LT x).2.1 (sType z LT x).2.2 ∧ ∀ q, q ≠ 67 → q ≠ 72 → hp' q = hp q) := by
  refine m_enter rfl rfl (Nat.le_of_ble_eq_true rfl) (fun K hF => ?_)
  show mW K _ 0 0 _ _ 0 [.ref 67, .int x] []
  have hT0 := hT
  obtain ⟨hz, TP, t1, t2⟩ := hT
  refine m_iload_n dX8_type_0 rfl ?_
  refine m_i2l dX8_type_1 ?_
  refine m_ldc2 dX8_type_2 cl_X8_219 ?_
  refine m_ldc2 dX8_type_5 cl_X8_221 ?_
  refine m_invS_I dX8_type_8 lk_X8_141 ar_X8_in (t_X8_in) rfl (Nat.le_of_ble_eq_true rfl) (by decide) (by decide) (by decide) (by decide) rfl rfl ?_
  try rw [va_uu]
  refine m_if_ne (t := 16) dX8_type_11 (by decide) (fun c11 => ?_) (fun c11 => ?_)
  rotate_left
  · have sd := sType_bad (z := z) (LT := LT) ((inI_iff (x := 32) (y := 126) (by decide) (by decide)).mp c11)
    refine m_iconst (v := -1) dX8_type_14 (by decide) ?_
    exact m_ireturn hF dX8_type_15 rfl rfl rfl ⟨by rw [sd], by rw [sd]; exact h1, by rw [sd]; exact hT0, fun _ _ _ => rfl⟩
  have sd := sType_ok (z := z) (LT := LT) (Classical.not_not.mp (fun y => c11 ((inI_iff (x := 32) (y := 126) (by decide) (by decide)).mpr y)))
  refine m_aload_n dX8_type_16 rfl ?_
  refine m_getfield dX8_type_17 fl_X8_223 (by first | assumption | rfl | exact va_up_self _ _ _ | exact (va_up_ne _ _ (by decide)).trans h1) (by first | assumption | rfl | exact va_up_self _ _ _ | exact (va_up_ne _ _ (by decide)).trans h1) ?_
  show mW _ _ _ _ _ _ _ _ (.int _ :: _)
  refine m_bipush (v := 60) dX8_type_20 (by decide) ?_
  refine m_icmp_ne (t := 28) dX8_type_22 (by decide) (fun c22 => ?_) (fun c22 => ?_)
  rotate_left
  · rw [if_neg (by have := (nI_eq (b := 60) (by omega) (by decide)).mp c22; omega)] at sd
    refine m_bipush (v := -3) dX8_type_25 (by decide) ?_
    exact m_ireturn hF dX8_type_27 rfl rfl rfl ⟨by rw [sd], by rw [sd]; exact h1, by rw [sd]; exact hT0, fun _ _ _ => rfl⟩
  have hlt : z < 60 := by have : z ≠ 60 := fun e => c22 (by rw [e]; rfl); omega
  rw [if_pos hlt] at sd
  refine m_aload_n dX8_type_28 rfl ?_
  refine m_getfield dX8_type_29 fl_X8_26 (by first | assumption | rfl | exact va_up_self _ _ _ | exact (va_up_ne _ _ (by decide)).trans h1) (by first | assumption | rfl | exact va_up_self _ _ _ | exact (va_up_ne _ _ (by decide)).trans h1) ?_
  show mW _ _ _ _ _ _ _ _ (.ref _ :: _)
  refine m_aload_n dX8_type_32 rfl ?_
  refine m_getfield dX8_type_33 fl_X8_223 (by first | assumption | rfl | exact va_up_self _ _ _ | exact (va_up_ne _ _ (by decide)).trans h1) (by first | assumption | rfl | exact va_up_self _ _ _ | exact (va_up_ne _ _ (by decide)).trans h1) ?_
  show mW _ _ _ _ _ _ _ _ (.int _ :: _)
  refine m_iload_n dX8_type_36 rfl ?_
  refine m_iastore dX8_type_37 (by first | assumption | rfl | exact va_up_self _ _ _ | exact (va_up_ne _ _ (by decide)).trans h1) (mIx_lit hlt (by decide)) ?_
  try rw [va_uu]
  refine m_aload_n dX8_type_38 rfl ?_
  refine m_dup dX8_type_39 rfl ?_
  refine m_getfield dX8_type_40 fl_X8_223 (by first | assumption | rfl | exact va_up_self _ _ _ | exact (va_up_ne _ _ (by decide)).trans h1) (by first | assumption | rfl | exact va_up_self _ _ _ | exact (va_up_ne _ _ (by decide)).trans h1) ?_
  show mW _ _ _ _ _ _ _ _ (.int _ :: _)
  refine m_iconst (v := 1) dX8_type_43 (by decide) ?_
  refine m_iadd dX8_type_44 ?_
  refine m_ci (v := nI (z + 1)) (nI_add z 1) ?_
  refine m_putfield dX8_type_45 fl_X8_223 (by first | assumption | rfl | exact va_up_self _ _ _ | exact (va_up_ne _ _ (by decide)).trans h1) (fun _ => rfl) (fun _ => rfl) ?_
  try rw [va_uu]
  rw [oMod_7]
  refine m_aload_n dX8_type_48 rfl ?_
  refine m_getfield dX8_type_49 fl_X8_223 (by first | assumption | rfl | exact va_up_self _ _ _ | exact (va_up_ne _ _ (by decide)).trans h1) (by first | assumption | rfl | exact va_up_self _ _ _ | exact (va_up_ne _ _ (by decide)).trans h1) ?_
  show mW _ _ _ _ _ _ _ _ (.int _ :: _)
  exact m_ireturn hF dX8_type_52 rfl rfl rfl ⟨by rw [sd], by rw [sd]; exact va_up_self _ _ _, by rw [sd]; exact ⟨by show z + 1 ≤ 60; omega, _, (va_up_ne _ _ (by decide)).trans (va_up_self _ _ _), fun t ht => by have ht : t < z + 1 := ht; show va_up TP z x t = va_up LT z x t; by_cases e : t = z; (rw [e, va_up_self, va_up_self]); (rw [va_up_ne _ _ e, va_up_ne _ _ e]; exact t2 t (by omega))⟩, fun q a b => by rw [va_up_ne _ _ a, va_up_ne _ _ b]⟩

def cpyB (f : Nat → Int64) (a b k : Nat) : Nat → Int64 := fun t => if b ≤ t ∧ t < b + k then f (a + (t - b)) else f t
/-- k items from the end have been brought -/
def cpyE (f : Nat → Int64) (a b z k : Nat) : Nat → Int64 := fun t => if b + (z - k) ≤ t ∧ t < b + z then f (a + (t - b)) else f t
theorem cpyB_s {f : Nat → Int64} {a b k z : Nat} (h : b ≤ a ∨ a + z ≤ b) (hk : k < z) : va_up (cpyB f a b k) (b + k) (cpyB f a b k (a + k)) = cpyB f a b (k + 1) := by
  have e9 : cpyB f a b k (a + k) = f (a + k) := by
    unfold cpyB
    rw [if_neg (by omega)]
  rw [e9]
  funext t
  by_cases e : t = b + k
  · rw [e, va_up_self]
    unfold cpyB
    rw [if_pos (by omega), show a + (b + k - b) = a + k by omega]
  · rw [va_up_ne _ _ e]
    unfold cpyB
    by_cases e2 : b ≤ t ∧ t < b + k
    · rw [if_pos e2, if_pos (by omega)]
    · rw [if_neg e2, if_neg (by omega)]
theorem cpyE_s {f : Nat → Int64} {a b z k : Nat} (h : a ≤ b ∨ b + z ≤ a) (hk : k < z) : va_up (cpyE f a b z k) (b + (z - 1 - k)) (cpyE f a b z k (a + (z - 1 - k))) = cpyE f a b z (k + 1) := by
  have e9 : cpyE f a b z k (a + (z - 1 - k)) = f (a + (z - 1 - k)) := by
    unfold cpyE
    rw [if_neg (by omega)]
  rw [e9]
  funext t
  by_cases e : t = b + (z - 1 - k)
  · rw [e, va_up_self]
    unfold cpyE
    rw [if_pos (by omega), show a + (b + (z - 1 - k) - b) = a + (z - 1 - k) by omega]
  · rw [va_up_ne _ _ e]
    unfold cpyE
    by_cases e2 : b + (z - k) ≤ t ∧ t < b + z
    · rw [if_pos e2, if_pos (by omega)]
    · rw [if_neg e2, if_neg (by omega)]
theorem cpyB_0 {f : Nat → Int64} {a b : Nat} : cpyB f a b 0 = f := by
  funext t
  unfold cpyB
  rw [if_neg (by omega)]
theorem cpyE_0 {f : Nat → Int64} {a b z : Nat} : cpyE f a b z 0 = f := by
  funext t
  unfold cpyE
  rw [if_neg (by omega)]
theorem cpyE_z {f : Nat → Int64} {a b z : Nat} : cpyE f a b z z = cpyB f a b z := by
  funext t
  unfold cpyE cpyB
  rw [Nat.sub_self, Nat.add_zero]
theorem shHas_z {SZ : Nat → Int32} {s : Nat} {i z : Int32} : shHas SZ s i z = 0 ↔ (i < 0 ∨ z < 0 ∨ SZ s - z < i) := by
  unfold shHas
  by_cases c1 : i < 0
  · rw [if_pos c1]
    exact ⟨fun _ => Or.inl c1, fun _ => rfl⟩
  · rw [if_neg c1, if01]
    constructor
    · intro h
      exact Or.inr h
    · intro h
      exact h.resolve_left c1
theorem big_z {x i z : Int32} (h0 : 0 ≤ x.toInt) (h1 : x.toInt ≤ 24) (hz : 24 < z) (hi : ¬ i < 0) : x - z < i := by
  rw [Int32.lt_iff_toInt_lt] at hz hi ⊢
  rw [show (24 : Int32).toInt = 24 by decide] at hz
  rw [show (0 : Int32).toInt = 0 by decide] at hi
  have b := Int32.toInt_lt z
  rw [Int32.toInt_sub, Int.bmod_eq_of_le (by omega) (by omega)]
  omega
set_option maxHeartbeats 400000 in
set_option maxRecDepth 100000 in
theorem l_X8_copy0 {n : Nat} {hp : mHp} {ac ia tm ri ev le ch ls rm sm ra fa : Int32} {s t a b z : Nat} {IT : Nat → Int64} (hs : s < 4) (ht : t < 4) (hz : z ≤ 24) (haz : a + z ≤ 24) (hbz : b + z ≤ 24) (hd9 : 24 * t + b ≤ 24 * s + a ∨ 24 * s + a + z ≤ 24 * t + b) {Q : mQ} {K : mK} (hF : mFin K D_X8_copy n Q) (hq : Q (some (.int (nI z))) (va_up hp 75 (eL 96 (cpyB IT (24 * s + a) (24 * t + b) z)))) (y1 : ∀ f : mE, va_up hp 75 f 67 = eO 8 (oMod ac ia tm ri ev le ch ls rm sm ra fa)) : ∀ (r k : Nat) (v8 : Value), k + r = z → mW K D_X8_copy 0 0 n (va_up hp 75 (eL 96 (cpyB IT (24 * s + a) (24 * t + b) k))) 132 [.ref 67, .int (nI s), .int (nI a), .int (nI t), .int (nI b), .int (nI z), .int 0, .int (nI k), v8] [] := by
  intro r
  induction r using Nat.strongRecOn with
  | ind r ih =>
    intro k v8 hkr
    refine m_iload dX8_copy_132 rfl ?_
    refine m_iload dX8_copy_134 rfl ?_
    refine m_icmp_ge (t := 193) dX8_copy_136 (by decide) (fun cc => ?_) (fun cc => ?_)
    · have hm : k = z := by have := nI_cmp' (by omega) (by omega) cc; omega
      subst hm
      refine m_iload dX8_copy_193 rfl ?_
      exact m_ireturn hF dX8_copy_195 rfl rfl rfl hq
    have hlt : k < z := nI_cmp (by omega) (by omega) cc
    refine m_iload dX8_copy_139 rfl ?_
    refine m_if_eq (t := 154) dX8_copy_141 (by decide) (fun _ => ?_) (fun q => absurd (by decide) q)
    refine m_iload dX8_copy_154 rfl ?_
    refine m_istore dX8_copy_156 (by decide) ?_
    show mW _ _ _ _ _ _ 158 [_, _, _, _, _, _, _, _, _] _
    refine m_aload_n dX8_copy_158 rfl ?_
    refine m_getfield dX8_copy_159 fl_X8_35 (by first | exact y1 _ | rfl | exact va_up_self _ _ _) (by first | exact y1 _ | rfl | exact va_up_self _ _ _) ?_
    show mW _ _ _ _ _ _ _ _ (.ref _ :: _)
    refine m_bipush (v := 24) dX8_copy_162 (by decide) ?_
    refine m_iload_n dX8_copy_164 rfl ?_
    refine m_imul dX8_copy_165 ?_
    refine m_ci (v := nI (24 * t)) (nI_mulN 24 t) ?_
    refine m_iload dX8_copy_166 rfl ?_
    refine m_iadd dX8_copy_168 ?_
    refine m_ci (v := nI (24 * t + b)) (nI_add _ _) ?_
    refine m_iload dX8_copy_169 rfl ?_
    refine m_iadd dX8_copy_171 ?_
    refine m_ci (v := nI (24 * t + b + k)) (nI_add _ _) ?_
    refine m_aload_n dX8_copy_172 rfl ?_
    refine m_getfield dX8_copy_173 fl_X8_35 (by first | exact y1 _ | rfl | exact va_up_self _ _ _) (by first | exact y1 _ | rfl | exact va_up_self _ _ _) ?_
    show mW _ _ _ _ _ _ _ _ (.ref _ :: _)
    refine m_bipush (v := 24) dX8_copy_176 (by decide) ?_
    refine m_iload_n dX8_copy_178 rfl ?_
    refine m_imul dX8_copy_179 ?_
    refine m_ci (v := nI (24 * s)) (nI_mulN 24 s) ?_
    refine m_iload_n dX8_copy_180 rfl ?_
    refine m_iadd dX8_copy_181 ?_
    refine m_ci (v := nI (24 * s + a)) (nI_add _ _) ?_
    refine m_iload dX8_copy_182 rfl ?_
    refine m_iadd dX8_copy_184 ?_
    refine m_ci (v := nI (24 * s + a + k)) (nI_add _ _) ?_
    refine m_laload dX8_copy_185 (by first | exact y1 _ | rfl | exact va_up_self _ _ _) (mIx_lit (show 24 * s + a + k < 96 by omega) (by decide)) ?_
    refine m_lastore dX8_copy_186 (by first | exact y1 _ | rfl | exact va_up_self _ _ _) (mIx_lit (show 24 * t + b + k < 96 by omega) (by decide)) ?_
    try rw [va_uu]
    rw [cpyB_s hd9 hlt]
    refine m_iinc (v := nI (k + 1)) dX8_copy_187 rfl (nI_1 k) (by decide) ?_
    show mW _ _ _ _ _ _ 190 [_, _, _, _, _, _, _, _, _] _
    refine m_goto (t := 132) dX8_copy_190 (by decide) ?_
    exact ih (r - 1) (by omega) (k + 1) _ (by omega)

set_option maxHeartbeats 400000 in
set_option maxRecDepth 100000 in
theorem l_X8_copy1 {n : Nat} {hp : mHp} {ac ia tm ri ev le ch ls rm sm ra fa : Int32} {s t a b z : Nat} {IT : Nat → Int64} (hs : s < 4) (ht : t < 4) (hz : z ≤ 24) (haz : a + z ≤ 24) (hbz : b + z ≤ 24) (hd9 : 24 * s + a ≤ 24 * t + b ∨ 24 * t + b + z ≤ 24 * s + a) {Q : mQ} {K : mK} (hF : mFin K D_X8_copy n Q) (hq : Q (some (.int (nI z))) (va_up hp 75 (eL 96 (cpyE IT (24 * s + a) (24 * t + b) z z)))) (y1 : ∀ f : mE, va_up hp 75 f 67 = eO 8 (oMod ac ia tm ri ev le ch ls rm sm ra fa)) : ∀ (r k : Nat) (v8 : Value), k + r = z → mW K D_X8_copy 0 0 n (va_up hp 75 (eL 96 (cpyE IT (24 * s + a) (24 * t + b) z k))) 132 [.ref 67, .int (nI s), .int (nI a), .int (nI t), .int (nI b), .int (nI z), .int 1, .int (nI k), v8] [] := by
  intro r
  induction r using Nat.strongRecOn with
  | ind r ih =>
    intro k v8 hkr
    refine m_iload dX8_copy_132 rfl ?_
    refine m_iload dX8_copy_134 rfl ?_
    refine m_icmp_ge (t := 193) dX8_copy_136 (by decide) (fun cc => ?_) (fun cc => ?_)
    · have hm : k = z := by have := nI_cmp' (by omega) (by omega) cc; omega
      subst hm
      refine m_iload dX8_copy_193 rfl ?_
      exact m_ireturn hF dX8_copy_195 rfl rfl rfl hq
    have hlt : k < z := nI_cmp (by omega) (by omega) cc
    refine m_iload dX8_copy_139 rfl ?_
    refine m_if_eq (t := 154) dX8_copy_141 (by decide) (fun q => absurd q (by decide)) (fun _ => ?_)
    refine m_iload dX8_copy_144 rfl ?_
    refine m_iconst (v := 1) dX8_copy_146 (by decide) ?_
    refine m_isub dX8_copy_147 ?_
    refine m_ci (v := nI (z - 1)) (nI_subN (b := 1) (by omega)) ?_
    refine m_iload dX8_copy_148 rfl ?_
    refine m_isub dX8_copy_150 ?_
    refine m_ci (v := nI (z - 1 - k)) (nI_subN (by omega)) ?_
    refine m_goto (t := 156) dX8_copy_151 (by decide) ?_
    refine m_istore dX8_copy_156 (by decide) ?_
    show mW _ _ _ _ _ _ 158 [_, _, _, _, _, _, _, _, _] _
    refine m_aload_n dX8_copy_158 rfl ?_
    refine m_getfield dX8_copy_159 fl_X8_35 (by first | exact y1 _ | rfl | exact va_up_self _ _ _) (by first | exact y1 _ | rfl | exact va_up_self _ _ _) ?_
    show mW _ _ _ _ _ _ _ _ (.ref _ :: _)
    refine m_bipush (v := 24) dX8_copy_162 (by decide) ?_
    refine m_iload_n dX8_copy_164 rfl ?_
    refine m_imul dX8_copy_165 ?_
    refine m_ci (v := nI (24 * t)) (nI_mulN 24 t) ?_
    refine m_iload dX8_copy_166 rfl ?_
    refine m_iadd dX8_copy_168 ?_
    refine m_ci (v := nI (24 * t + b)) (nI_add _ _) ?_
    refine m_iload dX8_copy_169 rfl ?_
    refine m_iadd dX8_copy_171 ?_
    refine m_ci (v := nI (24 * t + b + (z - 1 - k))) (nI_add _ _) ?_
    refine m_aload_n dX8_copy_172 rfl ?_
    refine m_getfield dX8_copy_173 fl_X8_35 (by first | exact y1 _ | rfl | exact va_up_self _ _ _) (by first | exact y1 _ | rfl | exact va_up_self _ _ _) ?_
    show mW _ _ _ _ _ _ _ _ (.ref _ :: _)
    refine m_bipush (v := 24) dX8_copy_176 (by decide) ?_
    refine m_iload_n dX8_copy_178 rfl ?_
    refine m_imul dX8_copy_179 ?_
    refine m_ci (v := nI (24 * s)) (nI_mulN 24 s) ?_
    refine m_iload_n dX8_copy_180 rfl ?_
    refine m_iadd dX8_copy_181 ?_
    refine m_ci (v := nI (24 * s + a)) (nI_add _ _) ?_
    refine m_iload dX8_copy_182 rfl ?_
    refine m_iadd dX8_copy_184 ?_
    refine m_ci (v := nI (24 * s + a + (z - 1 - k))) (nI_add _ _) ?_
    refine m_laload dX8_copy_185 (by first | exact y1 _ | rfl | exact va_up_self _ _ _) (mIx_lit (show 24 * s + a + (z - 1 - k) < 96 by omega) (by decide)) ?_
    refine m_lastore dX8_copy_186 (by first | exact y1 _ | rfl | exact va_up_self _ _ _) (mIx_lit (show 24 * t + b + (z - 1 - k) < 96 by omega) (by decide)) ?_
    try rw [va_uu]
    rw [cpyE_s hd9 hlt]
    refine m_iinc (v := nI (k + 1)) dX8_copy_187 rfl (nI_1 k) (by decide) ?_
    show mW _ _ _ _ _ _ 190 [_, _, _, _, _, _, _, _, _] _
    refine m_goto (t := 132) dX8_copy_190 (by decide) ?_
    exact ih (r - 1) (by omega) (k + 1) _ (by omega)

theorem copy_f {X : SH} {IT : Nat → Int64} {s t a b z i : Nat} (hr : ∀ p, p < a + z → X.2.2 s p = IT (24 * s + p)) (e : X.2.2 t i = IT (24 * t + i)) : va_cpy (X.2.2 s) (X.2.2 t) a b z i = cpyB IT (24 * s + a) (24 * t + b) z (24 * t + i) := by
  unfold va_cpy cpyB
  by_cases h : b ≤ i ∧ i < b + z
  · rw [if_pos h, if_pos (by omega), hr _ (by omega)]
    congr 1
    omega
  · rw [if_neg h, if_neg (by omega)]
    exact e
theorem copy_g {IT : Nat → Int64} {s t a b z i p : Nat} (hb : b + z ≤ 24) (hi : i < 24) (hp : p ≠ t) : cpyB IT (24 * s + a) (24 * t + b) z (24 * p + i) = IT (24 * p + i) := by
  unfold cpyB
  rw [if_neg (by omega)]
set_option maxHeartbeats 400000 in
set_option maxRecDepth 100000 in
theorem t_X8_copy {n : Nat} {hp : mHp} {X : SH} (hT : mTop hp) (hX : mShelf hp X) (hO : okS X) {s i t j z : Int32} : mC D_X8_copy [.ref 67, .int s, .int i, .int t, .int j, .int z] n hp (fun r hp' => r = some (.int (sCopy X s i t j z).1) ∧ mShelf hp' (sCopy X s i t j z).2 ∧ off5 hp hp') := by
  refine m_enter rfl rfl (Nat.le_of_ble_eq_true rfl) (fun K hF => ?_)
  show mW K _ 0 0 _ _ 0 [.ref 67, .int s, .int i, .int t, .int j, .int z, .retAddr 0, .retAddr 0, .retAddr 0] []
  obtain ⟨ac, ia, tm, ri, ev, le, ch, ls, rm, sm, ra, fa, h1⟩ := hT
  have hX0 := hX
  obtain ⟨LN, SZ, IT, x1, x2, x3, x4⟩ := hX
  refine m_iload_n dX8_copy_0 rfl ?_
  refine m_i2l dX8_copy_1 ?_
  refine m_lconst (v := 0) dX8_copy_2 (by decide) ?_
  refine m_ldc2 dX8_copy_3 cl_X8_174 ?_
  refine m_invS_I dX8_copy_6 lk_X8_141 ar_X8_in (t_X8_in) rfl (Nat.le_of_ble_eq_true rfl) (by decide) (by decide) (by decide) (by decide) rfl rfl ?_
  try rw [va_uu]
  refine m_if_eq (t := 24) dX8_copy_9 (by decide) (fun c9 => ?_) (fun c9 => ?_)
  · refine m_iconst (v := -1) dX8_copy_24 (by decide) ?_
    exact m_ireturn hF dX8_copy_25 rfl rfl rfl ⟨by unfold sCopy; rw [if_neg (by rintro ⟨a1, a2⟩; first | exact in4_iff.mp c9 a1 | exact in4_iff.mp c21 a2)], by unfold sCopy; rw [if_neg (by rintro ⟨a1, a2⟩; first | exact in4_iff.mp c9 a1 | exact in4_iff.mp c21 a2)]; exact hX0, off5.rf⟩
  refine m_iload_n dX8_copy_12 rfl ?_
  refine m_i2l dX8_copy_13 ?_
  refine m_lconst (v := 0) dX8_copy_14 (by decide) ?_
  refine m_ldc2 dX8_copy_15 cl_X8_174 ?_
  refine m_invS_I dX8_copy_18 lk_X8_141 ar_X8_in (t_X8_in) rfl (Nat.le_of_ble_eq_true rfl) (by decide) (by decide) (by decide) (by decide) rfl rfl ?_
  try rw [va_uu]
  refine m_if_ne (t := 26) dX8_copy_21 (by decide) (fun c21 => ?_) (fun c21 => ?_)
  rotate_left
  · refine m_iconst (v := -1) dX8_copy_24 (by decide) ?_
    exact m_ireturn hF dX8_copy_25 rfl rfl rfl ⟨by unfold sCopy; rw [if_neg (by rintro ⟨a1, a2⟩; first | exact in4_iff.mp c9 a1 | exact in4_iff.mp c21 a2)], by unfold sCopy; rw [if_neg (by rintro ⟨a1, a2⟩; first | exact in4_iff.mp c9 a1 | exact in4_iff.mp c21 a2)]; exact hX0, off5.rf⟩
  have hok : inC s 4 ∧ inC t 4 := ⟨Classical.not_not.mp (fun z => c9 (in4_iff.mpr z)), Classical.not_not.mp (fun z => c21 (in4_iff.mpr z))⟩
  obtain ⟨s, hs, rfl, es⟩ := inC_n hok.1
  obtain ⟨t, ht, rfl, et⟩ := inC_n hok.2
  have hrs := x4 s hs
  have hrt := x4 t ht
  refine m_aload_n dX8_copy_26 rfl ?_
  refine m_getfield dX8_copy_27 fl_X8_29 (by first | assumption | rfl) (by first | assumption | rfl) ?_
  show mW _ _ _ _ _ _ _ _ (.ref _ :: _)
  refine m_iload_n dX8_copy_30 rfl ?_
  refine m_iaload dX8_copy_31 (by first | assumption | rfl) (mIx_lit hs (by decide)) ?_
  refine m_if_lt (t := 44) dX8_copy_32 (by decide) (fun c32 => ?_) (fun c32 => ?_)
  · have hmi : X.1 s = -1 ∨ X.1 t = -1 := by first | exact Or.inl (hrs.resolve_right (fun y => absurd y.1 (Int32.not_le.mpr c32))).2 | exact Or.inr (hrt.resolve_right (fun y => absurd y.1 c41)).2
    refine m_bipush (v := -11) dX8_copy_44 (by decide) ?_
    exact m_ireturn hF dX8_copy_46 rfl rfl rfl ⟨by unfold sCopy; rw [if_pos hok, es, et, if_pos hmi], by unfold sCopy; rw [if_pos hok, es, et, if_pos hmi]; exact hX0, off5.rf⟩
  refine m_aload_n dX8_copy_35 rfl ?_
  refine m_getfield dX8_copy_36 fl_X8_29 (by first | assumption | rfl) (by first | assumption | rfl) ?_
  show mW _ _ _ _ _ _ _ _ (.ref _ :: _)
  refine m_iload_n dX8_copy_39 rfl ?_
  refine m_iaload dX8_copy_40 (by first | assumption | rfl) (mIx_lit ht (by decide)) ?_
  refine m_if_ge (t := 47) dX8_copy_41 (by decide) (fun c41 => ?_) (fun c41 => ?_)
  rotate_left
  · have hmi : X.1 s = -1 ∨ X.1 t = -1 := by first | exact Or.inl (hrs.resolve_right (fun y => absurd y.1 (Int32.not_le.mpr c32))).2 | exact Or.inr (hrt.resolve_right (fun y => absurd y.1 c41)).2
    refine m_bipush (v := -11) dX8_copy_44 (by decide) ?_
    exact m_ireturn hF dX8_copy_46 rfl rfl rfl ⟨by unfold sCopy; rw [if_pos hok, es, et, if_pos hmi], by unfold sCopy; rw [if_pos hok, es, et, if_pos hmi]; exact hX0, off5.rf⟩
  have hs2 := hrs.resolve_left (fun y => absurd y.1 c32)
  have ht2 := hrt.resolve_left (fun y => absurd c41 (Int32.not_le.mpr y.1))
  have hms : ¬ (X.1 s = -1 ∨ X.1 t = -1) := by
    rintro (y | y)
    · exact m0_ne (Int32.not_lt.mp c32) (hs2.2.1.symm.trans y)
    · exact m0_ne c41 (ht2.2.1.symm.trans y)
  refine m_aload_n dX8_copy_47 rfl ?_
  refine m_getfield dX8_copy_48 fl_X8_29 (by first | assumption | rfl) (by first | assumption | rfl) ?_
  show mW _ _ _ _ _ _ _ _ (.ref _ :: _)
  refine m_iload_n dX8_copy_51 rfl ?_
  refine m_iaload dX8_copy_52 (by first | assumption | rfl) (mIx_lit hs (by decide)) ?_
  refine m_aload_n dX8_copy_53 rfl ?_
  refine m_getfield dX8_copy_54 fl_X8_29 (by first | assumption | rfl) (by first | assumption | rfl) ?_
  show mW _ _ _ _ _ _ _ _ (.ref _ :: _)
  refine m_iload_n dX8_copy_57 rfl ?_
  refine m_iaload dX8_copy_58 (by first | assumption | rfl) (mIx_lit ht (by decide)) ?_
  refine m_icmp_eq (t := 65) dX8_copy_59 (by decide) (fun c59 => ?_) (fun c59 => ?_)
  rotate_left
  · refine m_bipush (v := -12) dX8_copy_62 (by decide) ?_
    exact m_ireturn hF dX8_copy_64 rfl rfl rfl ⟨by unfold sCopy; rw [if_pos hok, es, et, if_neg hms, if_neg (by rw [hs2.2.1, ht2.2.1]; exact c59)], by unfold sCopy; rw [if_pos hok, es, et, if_neg hms, if_neg (by rw [hs2.2.1, ht2.2.1]; exact c59)]; exact hX0, off5.rf⟩
  have hln : X.1 s = X.1 t := by rw [hs2.2.1, ht2.2.1]; exact c59
  refine m_iload dX8_copy_65 rfl ?_
  refine m_if_lt (t := 113) dX8_copy_67 (by decide) (fun c67 => ?_) (fun c67 => ?_)
  · have hbd : shHas X.2.1 s i z = 0 ∨ shHas X.2.1 t j z = 0 := by first | exact Or.inl (shHas_z.mpr (Or.inr (Or.inl c67))) | exact Or.inl (shHas_z.mpr (by by_cases y : i < 0; exact Or.inl y; exact Or.inr (Or.inr (big_z (hO s hs).1 (hO s hs).2 c74 y)))) | exact Or.inl (shHas_z.mpr (Or.inl c78)) | exact Or.inr (shHas_z.mpr (Or.inl c83)) | exact Or.inl (shHas_z.mpr (Or.inr (Or.inr (by rw [hs2.2.2.1]; exact c96)))) | exact Or.inr (shHas_z.mpr (Or.inr (Or.inr (by rw [ht2.2.2.1]; exact Int32.not_le.mp c110))))
    refine m_bipush (v := -13) dX8_copy_113 (by decide) ?_
    exact m_ireturn hF dX8_copy_115 rfl rfl rfl ⟨by unfold sCopy; rw [if_pos hok, es, et, if_neg hms, if_pos hln, if_pos hbd], by unfold sCopy; rw [if_pos hok, es, et, if_neg hms, if_pos hln, if_pos hbd]; exact hX0, off5.rf⟩
  refine m_iload dX8_copy_70 rfl ?_
  refine m_bipush (v := 24) dX8_copy_72 (by decide) ?_
  refine m_icmp_gt (t := 113) dX8_copy_74 (by decide) (fun c74 => ?_) (fun c74 => ?_)
  · have hbd : shHas X.2.1 s i z = 0 ∨ shHas X.2.1 t j z = 0 := by first | exact Or.inl (shHas_z.mpr (Or.inr (Or.inl c67))) | exact Or.inl (shHas_z.mpr (by by_cases y : i < 0; exact Or.inl y; exact Or.inr (Or.inr (big_z (hO s hs).1 (hO s hs).2 c74 y)))) | exact Or.inl (shHas_z.mpr (Or.inl c78)) | exact Or.inr (shHas_z.mpr (Or.inl c83)) | exact Or.inl (shHas_z.mpr (Or.inr (Or.inr (by rw [hs2.2.2.1]; exact c96)))) | exact Or.inr (shHas_z.mpr (Or.inr (Or.inr (by rw [ht2.2.2.1]; exact Int32.not_le.mp c110))))
    refine m_bipush (v := -13) dX8_copy_113 (by decide) ?_
    exact m_ireturn hF dX8_copy_115 rfl rfl rfl ⟨by unfold sCopy; rw [if_pos hok, es, et, if_neg hms, if_pos hln, if_pos hbd], by unfold sCopy; rw [if_pos hok, es, et, if_neg hms, if_pos hln, if_pos hbd]; exact hX0, off5.rf⟩
  refine m_iload_n dX8_copy_77 rfl ?_
  refine m_if_lt (t := 113) dX8_copy_78 (by decide) (fun c78 => ?_) (fun c78 => ?_)
  · have hbd : shHas X.2.1 s i z = 0 ∨ shHas X.2.1 t j z = 0 := by first | exact Or.inl (shHas_z.mpr (Or.inr (Or.inl c67))) | exact Or.inl (shHas_z.mpr (by by_cases y : i < 0; exact Or.inl y; exact Or.inr (Or.inr (big_z (hO s hs).1 (hO s hs).2 c74 y)))) | exact Or.inl (shHas_z.mpr (Or.inl c78)) | exact Or.inr (shHas_z.mpr (Or.inl c83)) | exact Or.inl (shHas_z.mpr (Or.inr (Or.inr (by rw [hs2.2.2.1]; exact c96)))) | exact Or.inr (shHas_z.mpr (Or.inr (Or.inr (by rw [ht2.2.2.1]; exact Int32.not_le.mp c110))))
    refine m_bipush (v := -13) dX8_copy_113 (by decide) ?_
    exact m_ireturn hF dX8_copy_115 rfl rfl rfl ⟨by unfold sCopy; rw [if_pos hok, es, et, if_neg hms, if_pos hln, if_pos hbd], by unfold sCopy; rw [if_pos hok, es, et, if_neg hms, if_pos hln, if_pos hbd]; exact hX0, off5.rf⟩
  refine m_iload dX8_copy_81 rfl ?_
  refine m_if_lt (t := 113) dX8_copy_83 (by decide) (fun c83 => ?_) (fun c83 => ?_)
  · have hbd : shHas X.2.1 s i z = 0 ∨ shHas X.2.1 t j z = 0 := by first | exact Or.inl (shHas_z.mpr (Or.inr (Or.inl c67))) | exact Or.inl (shHas_z.mpr (by by_cases y : i < 0; exact Or.inl y; exact Or.inr (Or.inr (big_z (hO s hs).1 (hO s hs).2 c74 y)))) | exact Or.inl (shHas_z.mpr (Or.inl c78)) | exact Or.inr (shHas_z.mpr (Or.inl c83)) | exact Or.inl (shHas_z.mpr (Or.inr (Or.inr (by rw [hs2.2.2.1]; exact c96)))) | exact Or.inr (shHas_z.mpr (Or.inr (Or.inr (by rw [ht2.2.2.1]; exact Int32.not_le.mp c110))))
    refine m_bipush (v := -13) dX8_copy_113 (by decide) ?_
    exact m_ireturn hF dX8_copy_115 rfl rfl rfl ⟨by unfold sCopy; rw [if_pos hok, es, et, if_neg hms, if_pos hln, if_pos hbd], by unfold sCopy; rw [if_pos hok, es, et, if_neg hms, if_pos hln, if_pos hbd]; exact hX0, off5.rf⟩
  refine m_iload_n dX8_copy_86 rfl ?_
  refine m_aload_n dX8_copy_87 rfl ?_
  refine m_getfield dX8_copy_88 fl_X8_32 (by first | assumption | rfl) (by first | assumption | rfl) ?_
  show mW _ _ _ _ _ _ _ _ (.ref _ :: _)
  refine m_iload_n dX8_copy_91 rfl ?_
  refine m_iaload dX8_copy_92 (by first | assumption | rfl) (mIx_lit hs (by decide)) ?_
  refine m_iload dX8_copy_93 rfl ?_
  refine m_isub dX8_copy_95 ?_
  refine m_icmp_gt (t := 113) dX8_copy_96 (by decide) (fun c96 => ?_) (fun c96 => ?_)
  · have hbd : shHas X.2.1 s i z = 0 ∨ shHas X.2.1 t j z = 0 := by first | exact Or.inl (shHas_z.mpr (Or.inr (Or.inl c67))) | exact Or.inl (shHas_z.mpr (by by_cases y : i < 0; exact Or.inl y; exact Or.inr (Or.inr (big_z (hO s hs).1 (hO s hs).2 c74 y)))) | exact Or.inl (shHas_z.mpr (Or.inl c78)) | exact Or.inr (shHas_z.mpr (Or.inl c83)) | exact Or.inl (shHas_z.mpr (Or.inr (Or.inr (by rw [hs2.2.2.1]; exact c96)))) | exact Or.inr (shHas_z.mpr (Or.inr (Or.inr (by rw [ht2.2.2.1]; exact Int32.not_le.mp c110))))
    refine m_bipush (v := -13) dX8_copy_113 (by decide) ?_
    exact m_ireturn hF dX8_copy_115 rfl rfl rfl ⟨by unfold sCopy; rw [if_pos hok, es, et, if_neg hms, if_pos hln, if_pos hbd], by unfold sCopy; rw [if_pos hok, es, et, if_neg hms, if_pos hln, if_pos hbd]; exact hX0, off5.rf⟩
  refine m_iload dX8_copy_99 rfl ?_
  refine m_aload_n dX8_copy_101 rfl ?_
  refine m_getfield dX8_copy_102 fl_X8_32 (by first | assumption | rfl) (by first | assumption | rfl) ?_
  show mW _ _ _ _ _ _ _ _ (.ref _ :: _)
  refine m_iload_n dX8_copy_105 rfl ?_
  refine m_iaload dX8_copy_106 (by first | assumption | rfl) (mIx_lit ht (by decide)) ?_
  refine m_iload dX8_copy_107 rfl ?_
  refine m_isub dX8_copy_109 ?_
  refine m_icmp_le (t := 116) dX8_copy_110 (by decide) (fun c110 => ?_) (fun c110 => ?_)
  rotate_left
  · have hbd : shHas X.2.1 s i z = 0 ∨ shHas X.2.1 t j z = 0 := by first | exact Or.inl (shHas_z.mpr (Or.inr (Or.inl c67))) | exact Or.inl (shHas_z.mpr (by by_cases y : i < 0; exact Or.inl y; exact Or.inr (Or.inr (big_z (hO s hs).1 (hO s hs).2 c74 y)))) | exact Or.inl (shHas_z.mpr (Or.inl c78)) | exact Or.inr (shHas_z.mpr (Or.inl c83)) | exact Or.inl (shHas_z.mpr (Or.inr (Or.inr (by rw [hs2.2.2.1]; exact c96)))) | exact Or.inr (shHas_z.mpr (Or.inr (Or.inr (by rw [ht2.2.2.1]; exact Int32.not_le.mp c110))))
    refine m_bipush (v := -13) dX8_copy_113 (by decide) ?_
    exact m_ireturn hF dX8_copy_115 rfl rfl rfl ⟨by unfold sCopy; rw [if_pos hok, es, et, if_neg hms, if_pos hln, if_pos hbd], by unfold sCopy; rw [if_pos hok, es, et, if_neg hms, if_pos hln, if_pos hbd]; exact hX0, off5.rf⟩
  have hn : ¬ shHas X.2.1 s i z = 0 := fun y => by
    rcases shHas_z.mp y with y | y | y
    · exact c78 y
    · exact c67 y
    · rw [hs2.2.2.1] at y
      exact c96 y
  have hn2 : ¬ shHas X.2.1 t j z = 0 := fun y => by
    rcases shHas_z.mp y with y | y | y
    · exact c83 y
    · exact c67 y
    · rw [ht2.2.2.1] at y
      exact absurd c110 (Int32.not_le.mpr y)
  obtain ⟨a, c, rfl, rfl, hac, ea, ec⟩ := shHas_in (hO s hs) hn
  obtain ⟨b, c9', rfl, e9, hbc, eb, ec9⟩ := shHas_in (hO t ht) hn2
  obtain rfl : c9' = c := ec9.symm.trans ec
  have hsz : a + c9' ≤ tN (SZ s) := by
    have q1 := Int32.not_lt.mp c96
    have o1 := hO s hs
    rw [hs2.2.2.1] at o1
    rw [Int32.le_iff_toInt_le, Int32.toInt_sub, nI_toInt (by omega), nI_toInt (by omega), Int.bmod_eq_of_le (by omega) (by omega)] at q1
    show a + c9' ≤ (SZ s).toInt.toNat
    omega
  have hpost : (fun r hp' => r = some (Value.int (sCopy X (nI s) (nI a) (nI t) (nI b) (nI c9')).1) ∧ mShelf hp' (sCopy X (nI s) (nI a) (nI t) (nI b) (nI c9')).2 ∧ off5 hp hp') (some (.int (nI c9'))) (va_up hp 75 (eL 96 (cpyB IT (24 * s + a) (24 * t + b) c9'))) := by
    refine ⟨?_, ?_, fun q hq => va_up_ne _ _ (by omega)⟩
    · unfold sCopy
      rw [if_pos hok, es, et, if_neg hms, if_pos hln, if_neg (by rintro (y | y); exact hn y; exact hn2 y)]
    · unfold sCopy
      rw [if_pos hok, es, et, if_neg hms, if_pos hln, if_neg (by rintro (y | y); exact hn y; exact hn2 y), ea, eb, ec]
      exact ⟨LN, SZ, _, (va_up_ne _ _ (by decide)).trans x1, (va_up_ne _ _ (by decide)).trans x2, va_up_self _ _ _, fun q hq => lnR_item (x4 q hq) hO hq (fun i hi e => copy_f (fun p hp => hs2.2.2.2 p (by omega)) e) (fun p i hp hi => copy_g hbc hi hp)⟩
  have hpa : (nI a).toInt = a := nI_toInt (by omega)
  have hpb : (nI b).toInt = b := nI_toInt (by omega)
  have y1 : ∀ f : mE, va_up hp 75 f 67 = eO 8 (oMod ac ia tm ri ev le ch ls rm sm ra fa) := fun f => (va_up_ne _ _ (by decide)).trans h1
  refine m_iload dX8_copy_116 rfl ?_
  refine m_iload_n dX8_copy_118 rfl ?_
  refine m_icmp_le (t := 126) dX8_copy_119 (by decide) (fun c119 => ?_) (fun c119 => ?_)
  · refine m_iconst (v := 0) dX8_copy_126 (by decide) ?_
    refine m_istore dX8_copy_127 (by decide) ?_
    show mW _ _ _ _ _ _ 129 [_, _, _, _, _, _, _, _, _] _
    refine m_iconst (v := 0) dX8_copy_129 (by decide) ?_
    refine m_istore dX8_copy_130 (by decide) ?_
    show mW _ _ _ _ _ _ 132 [_, _, _, _, _, _, _, _, _] _
    have hji := Int32.le_iff_toInt_le.mp c119
    rw [hpa, hpb] at hji
    have q9 := l_X8_copy0 (hp := hp) (IT := IT) hs ht (show c9' ≤ 24 by omega) hac hbc (by by_cases e : s = t; (left; rw [e]; omega); (rcases Nat.lt_or_gt_of_ne e with y | y; (right; omega); (left; omega))) hF hpost y1 c9' 0 (.retAddr 0) (by omega)
    rw [cpyB_0, va_uid hp x3] at q9
    exact q9
  refine m_iconst (v := 1) dX8_copy_122 (by decide) ?_
  refine m_goto (t := 127) dX8_copy_123 (by decide) ?_
  refine m_istore dX8_copy_127 (by decide) ?_
  show mW _ _ _ _ _ _ 129 [_, _, _, _, _, _, _, _, _] _
  refine m_iconst (v := 0) dX8_copy_129 (by decide) ?_
  refine m_istore dX8_copy_130 (by decide) ?_
  show mW _ _ _ _ _ _ 132 [_, _, _, _, _, _, _, _, _] _
  have hji := Int32.lt_iff_toInt_lt.mp (Int32.not_le.mp c119)
  rw [hpa, hpb] at hji
  have q9 := l_X8_copy1 (hp := hp) (IT := IT) hs ht (show c9' ≤ 24 by omega) hac hbc (by by_cases e : s = t; (left; rw [e]; omega); (rcases Nat.lt_or_gt_of_ne e with y | y; (left; omega); (right; omega))) hF (by rw [cpyE_z]; exact hpost) y1 c9' 0 (.retAddr 0) (by omega)
  rw [cpyE_0, va_uid hp x3] at q9
  exact q9

