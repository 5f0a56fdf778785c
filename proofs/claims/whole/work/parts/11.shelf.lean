/-! ===== Arrays.fill, Shelf ===== -/
def fillTo {α : Type} (f : Nat → α) (v : α) (i : Nat) : Nat → α := fun k => if k < i then v else f k
theorem fillTo_0 {α : Type} (f : Nat → α) (v : α) : fillTo f v 0 = f := by funext k; simp [fillTo]
theorem fillTo_s {α : Type} (f : Nat → α) (v : α) (i : Nat) : va_up (fillTo f v i) i v = fillTo f v (i + 1) := by
  funext k
  by_cases e : k = i
  · subst e
    simp [va_up, fillTo]
  · have : k < i ↔ k < i + 1 := by omega
    simp [va_up, fillTo, e, this]
theorem nI_cmp {a b : Nat} (hb : b < 2 ^ 31) (ha : a < 2 ^ 31) (h : ¬ nI b ≤ nI a) : a < b := by
  rcases Nat.lt_or_ge a b with z | z
  · exact z
  · exact absurd (nI_le z ha) h
theorem nI_cmp' {a b : Nat} (hb : b < 2 ^ 31) (ha : a < 2 ^ 31) (h : nI b ≤ nI a) : b ≤ a := by
  rcases Nat.lt_or_ge a b with z | z
  · exact absurd h (nI_ge z hb)
  · exact z
set_option maxHeartbeats 4000000 in
set_option maxRecDepth 100000 in
theorem l_J7_fill_d0a16 {n : Nat} {hp : mHp} {h len : Nat} {f : Nat → Int64} {v : Int64} (hl : len ≤ 65535) {K : mK} (hF : mFin K D_J7_fill_d0a16 n (rV (va_up hp h (eL len (fillTo f v len))))) : ∀ m i : Nat, i ≤ len → len + 1 ≤ i + m → mW K D_J7_fill_d0a16 0 0 n (va_up hp h (eL len (fillTo f v i))) 6 [.ref h, .long v, .retAddr 0, .int (nI i), .int (nI len)] [] := by
  intro m
  induction m with
  | zero =>
    intro i hi6 him
    exact absurd hi6 (by omega)
  | succ m ih =>
    intro i hi6 him
    have c1 : va_up hp h (eL len (fillTo f v i)) h = eL len (fillTo f v i) := va_up_self _ _ _
    refine m_iload_n dJ7_fill_d0a16_6 rfl ?_
    refine m_iload dJ7_fill_d0a16_7 rfl ?_
    refine m_icmp_ge (t := 22) dJ7_fill_d0a16_9 (by decide) (fun cc => ?_) (fun cc => ?_)
    · have hj := nI_cmp' (by omega) (by omega) cc
      exact m_return hF dJ7_fill_d0a16_22 rfl rfl rfl ⟨rfl, by rw [show i = len by omega]⟩
    have hi : i < len := nI_cmp (by omega) (by omega) cc
    refine m_aload_n dJ7_fill_d0a16_12 rfl ?_
    refine m_iload_n dJ7_fill_d0a16_13 rfl ?_
    refine m_lload_n dJ7_fill_d0a16_14 rfl ?_
    refine m_lastore dJ7_fill_d0a16_15 (by first | assumption | rfl) (mIx_lit hi (by omega)) ?_
    try rw [va_uu]
    rw [fillTo_s]
    refine m_iinc (v := nI (i + 1)) dJ7_fill_d0a16_16 rfl (nI_1 i) (by decide) ?_
    show mW _ _ _ _ _ _ 19 [_, _, _, _, _] _
    refine m_goto (t := 6) dJ7_fill_d0a16_19 (by decide) ?_
    exact ih (i + 1) (by omega) (by omega)

theorem t_J7_fill_d0a16 {n : Nat} {hp : mHp} {h len : Nat} {f : Nat → Int64} {v : Int64} (h1 : hp h = eL len f) (hl : len ≤ 65535) : mC D_J7_fill_d0a16 [.ref h, .long v] n hp (rV (va_up hp h (eL len (fillTo f v len)))) := by
  refine m_enter rfl rfl (Nat.le_of_ble_eq_true rfl) (fun K hF => ?_)
  show mW K _ 0 0 _ _ 0 [.ref h, .long v, .retAddr 0, .retAddr 0, .retAddr 0] []
  refine m_iconst (v := 0) dJ7_fill_d0a16_0 (by decide) ?_
  refine m_istore_n dJ7_fill_d0a16_1 (by decide) ?_
  show mW _ _ _ _ _ _ 2 [_, _, _, _, _] _
  refine m_aload_n dJ7_fill_d0a16_2 rfl ?_
  refine m_arraylength (t0 := 1) (v := nI len) dJ7_fill_d0a16_3 (by first | assumption | rfl) (fun _ => rfl) rfl ?_
  refine m_istore dJ7_fill_d0a16_4 (by decide) ?_
  show mW _ _ _ _ _ _ 6 [_, _, _, _, _] _
  rw [show hp = va_up hp h (eL len (fillTo f v 0)) by rw [fillTo_0]; exact (va_uid hp h1).symm]
  exact l_J7_fill_d0a16 hl hF (len + 1) 0 (by omega) (by omega)

set_option maxHeartbeats 4000000 in
set_option maxRecDepth 100000 in
theorem l_J7_fill_53178 {n : Nat} {hp : mHp} {h len : Nat} {f : Nat → Int32} {v : Int32} (hl : len ≤ 65535) {K : mK} (hF : mFin K D_J7_fill_53178 n (rV (va_up hp h (eI len (fillTo f v len))))) : ∀ m i : Nat, i ≤ len → len + 1 ≤ i + m → mW K D_J7_fill_53178 0 0 n (va_up hp h (eI len (fillTo f v i))) 5 [.ref h, .int v, .int (nI i), .int (nI len)] [] := by
  intro m
  induction m with
  | zero =>
    intro i hi6 him
    exact absurd hi6 (by omega)
  | succ m ih =>
    intro i hi6 him
    have c1 : va_up hp h (eI len (fillTo f v i)) h = eI len (fillTo f v i) := va_up_self _ _ _
    refine m_iload_n dJ7_fill_53178_5 rfl ?_
    refine m_iload_n dJ7_fill_53178_6 rfl ?_
    refine m_icmp_ge (t := 20) dJ7_fill_53178_7 (by decide) (fun cc => ?_) (fun cc => ?_)
    · have hj := nI_cmp' (by omega) (by omega) cc
      exact m_return hF dJ7_fill_53178_20 rfl rfl rfl ⟨rfl, by rw [show i = len by omega]⟩
    have hi : i < len := nI_cmp (by omega) (by omega) cc
    refine m_aload_n dJ7_fill_53178_10 rfl ?_
    refine m_iload_n dJ7_fill_53178_11 rfl ?_
    refine m_iload_n dJ7_fill_53178_12 rfl ?_
    refine m_iastore dJ7_fill_53178_13 (by first | assumption | rfl) (mIx_lit hi (by omega)) ?_
    try rw [va_uu]
    rw [fillTo_s]
    refine m_iinc (v := nI (i + 1)) dJ7_fill_53178_14 rfl (nI_1 i) (by decide) ?_
    show mW _ _ _ _ _ _ 17 [_, _, _, _] _
    refine m_goto (t := 5) dJ7_fill_53178_17 (by decide) ?_
    exact ih (i + 1) (by omega) (by omega)

theorem t_J7_fill_53178 {n : Nat} {hp : mHp} {h len : Nat} {f : Nat → Int32} {v : Int32} (h1 : hp h = eI len f) (hl : len ≤ 65535) : mC D_J7_fill_53178 [.ref h, .int v] n hp (rV (va_up hp h (eI len (fillTo f v len)))) := by
  refine m_enter rfl rfl (Nat.le_of_ble_eq_true rfl) (fun K hF => ?_)
  show mW K _ 0 0 _ _ 0 [.ref h, .int v, .retAddr 0, .retAddr 0] []
  refine m_iconst (v := 0) dJ7_fill_53178_0 (by decide) ?_
  refine m_istore_n dJ7_fill_53178_1 (by decide) ?_
  show mW _ _ _ _ _ _ 2 [_, _, _, _] _
  refine m_aload_n dJ7_fill_53178_2 rfl ?_
  refine m_arraylength (t0 := 0) (v := nI len) dJ7_fill_53178_3 (by first | assumption | rfl) (fun _ => rfl) rfl ?_
  refine m_istore_n dJ7_fill_53178_4 (by decide) ?_
  show mW _ _ _ _ _ _ 5 [_, _, _, _] _
  rw [show hp = va_up hp h (eI len (fillTo f v 0)) by rw [fillTo_0]; exact (va_uid hp h1).symm]
  exact l_J7_fill_53178 hl hF (len + 1) 0 (by omega) (by omega)

/-! the four sheets: handles 36 .. 43 -/
def oShelf : Nat → Value := fun k => match k with
  | 0 => .ref 37
  | 1 => .ref 38
  | 2 => .ref 39
  | _ => .null
def rItems : Nat → Option Nat := fun i => if i < 4 then some (40 + i) else none
theorem rItems_at {i : Nat} (h : i < 4) : va_rf (rItems i) = .ref (40 + i) := by simp [rItems, h, va_rf]
theorem t_X4_isMissing {n : Nat} {hp : mHp} {s : Nat} {LN : Nat → Int32} (h1 : hp 36 = eO 4 oShelf) (h2 : hp 37 = eI 4 LN) (hs : s < 4) : mC D_X4_isMissing [.ref 36, .int (nI s)] n hp (rI (if LN s = -1 then 1 else 0) hp) := by
  refine m_enter rfl rfl (Nat.le_of_ble_eq_true rfl) (fun K hF => ?_)
  show mW K _ 0 0 _ _ 0 [.ref 36, .int (nI s)] []
  refine m_aload_n dX4_isMissing_0 rfl ?_
  refine m_getfield dX4_isMissing_1 fl_X4_9 (by first | assumption | rfl) (by first | assumption | rfl) ?_
  show mW _ _ _ _ _ _ _ _ (.ref _ :: _)
  refine m_iload_n dX4_isMissing_4 rfl ?_
  refine m_iaload dX4_isMissing_5 (by first | assumption | rfl) (mIx_lit hs (by decide)) ?_
  refine m_iconst (v := -1) dX4_isMissing_6 (by decide) ?_
  refine m_icmp_ne (t := 14) dX4_isMissing_7 (by decide) (fun c7 => ?_) (fun c7 => ?_)
  · refine m_iconst (v := 0) dX4_isMissing_14 (by decide) ?_
    exact m_zreturn hF dX4_isMissing_15 rfl rfl rfl rfl ⟨by simp only [if_neg c7], rfl⟩
  refine m_iconst (v := 1) dX4_isMissing_10 (by decide) ?_
  refine m_goto (t := 15) dX4_isMissing_11 (by decide) ?_
  exact m_zreturn hF dX4_isMissing_15 rfl rfl rfl rfl ⟨by simp only [if_pos c7], rfl⟩

theorem t_X4_remove {n : Nat} {hp : mHp} {s : Nat} {LN SZ : Nat → Int32} (h1 : hp 36 = eO 4 oShelf) (h2 : hp 37 = eI 4 LN) (h3 : hp 38 = eI 4 SZ) (hs : s < 4) : mC D_X4_remove [.ref 36, .int (nI s)] n hp (rV (va_up (va_up hp 37 (eI 4 (va_up LN s (-1)))) 38 (eI 4 (va_up SZ s 0)))) := by
  refine m_enter rfl rfl (Nat.le_of_ble_eq_true rfl) (fun K hF => ?_)
  show mW K _ 0 0 _ _ 0 [.ref 36, .int (nI s)] []
  refine m_aload_n dX4_remove_0 rfl ?_
  refine m_getfield dX4_remove_1 fl_X4_9 (by first | assumption | rfl) (by first | assumption | rfl) ?_
  show mW _ _ _ _ _ _ _ _ (.ref _ :: _)
  refine m_iload_n dX4_remove_4 rfl ?_
  refine m_iconst (v := -1) dX4_remove_5 (by decide) ?_
  refine m_iastore dX4_remove_6 (by first | assumption | rfl) (mIx_lit hs (by decide)) ?_
  try rw [va_uu]
  refine m_aload_n dX4_remove_7 rfl ?_
  refine m_getfield dX4_remove_8 fl_X4_15 (by first | assumption | rfl) (by first | assumption | rfl) ?_
  show mW _ _ _ _ _ _ _ _ (.ref _ :: _)
  refine m_iload_n dX4_remove_11 rfl ?_
  refine m_iconst (v := 0) dX4_remove_12 (by decide) ?_
  refine m_iastore dX4_remove_13 (by first | assumption | rfl) (mIx_lit hs (by decide)) ?_
  try rw [va_uu]
  exact m_return hF dX4_remove_14 rfl rfl rfl ⟨rfl, rfl⟩

theorem t_X4_renew {n : Nat} {hp : mHp} {s : Nat} {lane z : Int32} {LN SZ : Nat → Int32} {IT : Nat → Int64} (h1 : hp 36 = eO 4 oShelf) (h2 : hp 37 = eI 4 LN) (h3 : hp 38 = eI 4 SZ) (h4 : hp 39 = eR tyJJ 4 rItems) (h5 : hp (40 + s) = eL 24 IT) (hs : s < 4) : mC D_X4_renew [.ref 36, .int (nI s), .int lane, .int z] n hp (rV (va_up (va_up (va_up hp 37 (eI 4 (va_up LN s lane))) 38 (eI 4 (va_up SZ s z))) (40 + s) (eL 24 (fillTo IT 0 24)))) := by
  refine m_enter rfl rfl (Nat.le_of_ble_eq_true rfl) (fun K hF => ?_)
  show mW K _ 0 0 _ _ 0 [.ref 36, .int (nI s), .int lane, .int z] []
  have n1 : 40 + s ≠ 37 := by omega
  have n2 : 40 + s ≠ 38 := by omega
  refine m_aload_n dX4_renew_0 rfl ?_
  refine m_getfield dX4_renew_1 fl_X4_9 (by first | assumption | rfl | exact va_up_self _ _ _ | (refine (va_up_ne _ _ ?_).trans ?_ <;> assumption) | (refine (va_up_ne _ _ ?_).trans (va_up_self _ _ _) <;> assumption) | (refine (va_up_ne _ _ ?_).trans ((va_up_ne _ _ ?_).trans ?_) <;> assumption) | (refine (va_up_ne _ _ ?_).trans ((va_up_ne _ _ ?_).trans (va_up_self _ _ _)) <;> assumption)) (by first | assumption | rfl | exact va_up_self _ _ _ | (refine (va_up_ne _ _ ?_).trans ?_ <;> assumption) | (refine (va_up_ne _ _ ?_).trans (va_up_self _ _ _) <;> assumption) | (refine (va_up_ne _ _ ?_).trans ((va_up_ne _ _ ?_).trans ?_) <;> assumption) | (refine (va_up_ne _ _ ?_).trans ((va_up_ne _ _ ?_).trans (va_up_self _ _ _)) <;> assumption)) ?_
  show mW _ _ _ _ _ _ _ _ (.ref _ :: _)
  refine m_iload_n dX4_renew_4 rfl ?_
  refine m_iload_n dX4_renew_5 rfl ?_
  refine m_iastore dX4_renew_6 (by first | assumption | rfl | exact va_up_self _ _ _ | (refine (va_up_ne _ _ ?_).trans ?_ <;> assumption) | (refine (va_up_ne _ _ ?_).trans (va_up_self _ _ _) <;> assumption) | (refine (va_up_ne _ _ ?_).trans ((va_up_ne _ _ ?_).trans ?_) <;> assumption) | (refine (va_up_ne _ _ ?_).trans ((va_up_ne _ _ ?_).trans (va_up_self _ _ _)) <;> assumption)) (mIx_lit hs (by decide)) ?_
  try rw [va_uu]
  refine m_aload_n dX4_renew_7 rfl ?_
  refine m_getfield dX4_renew_8 fl_X4_15 (by first | assumption | rfl | exact va_up_self _ _ _ | (refine (va_up_ne _ _ ?_).trans ?_ <;> assumption) | (refine (va_up_ne _ _ ?_).trans (va_up_self _ _ _) <;> assumption) | (refine (va_up_ne _ _ ?_).trans ((va_up_ne _ _ ?_).trans ?_) <;> assumption) | (refine (va_up_ne _ _ ?_).trans ((va_up_ne _ _ ?_).trans (va_up_self _ _ _)) <;> assumption)) (by first | assumption | rfl | exact va_up_self _ _ _ | (refine (va_up_ne _ _ ?_).trans ?_ <;> assumption) | (refine (va_up_ne _ _ ?_).trans (va_up_self _ _ _) <;> assumption) | (refine (va_up_ne _ _ ?_).trans ((va_up_ne _ _ ?_).trans ?_) <;> assumption) | (refine (va_up_ne _ _ ?_).trans ((va_up_ne _ _ ?_).trans (va_up_self _ _ _)) <;> assumption)) ?_
  show mW _ _ _ _ _ _ _ _ (.ref _ :: _)
  refine m_iload_n dX4_renew_11 rfl ?_
  refine m_iload_n dX4_renew_12 rfl ?_
  refine m_iastore dX4_renew_13 (by first | assumption | rfl | exact va_up_self _ _ _ | (refine (va_up_ne _ _ ?_).trans ?_ <;> assumption) | (refine (va_up_ne _ _ ?_).trans (va_up_self _ _ _) <;> assumption) | (refine (va_up_ne _ _ ?_).trans ((va_up_ne _ _ ?_).trans ?_) <;> assumption) | (refine (va_up_ne _ _ ?_).trans ((va_up_ne _ _ ?_).trans (va_up_self _ _ _)) <;> assumption)) (mIx_lit hs (by decide)) ?_
  try rw [va_uu]
  refine m_aload_n dX4_renew_14 rfl ?_
  refine m_getfield dX4_renew_15 fl_X4_20 (by first | assumption | rfl | exact va_up_self _ _ _ | (refine (va_up_ne _ _ ?_).trans ?_ <;> assumption) | (refine (va_up_ne _ _ ?_).trans (va_up_self _ _ _) <;> assumption) | (refine (va_up_ne _ _ ?_).trans ((va_up_ne _ _ ?_).trans ?_) <;> assumption) | (refine (va_up_ne _ _ ?_).trans ((va_up_ne _ _ ?_).trans (va_up_self _ _ _)) <;> assumption)) (by first | assumption | rfl | exact va_up_self _ _ _ | (refine (va_up_ne _ _ ?_).trans ?_ <;> assumption) | (refine (va_up_ne _ _ ?_).trans (va_up_self _ _ _) <;> assumption) | (refine (va_up_ne _ _ ?_).trans ((va_up_ne _ _ ?_).trans ?_) <;> assumption) | (refine (va_up_ne _ _ ?_).trans ((va_up_ne _ _ ?_).trans (va_up_self _ _ _)) <;> assumption)) ?_
  show mW _ _ _ _ _ _ _ _ (.ref _ :: _)
  refine m_iload_n dX4_renew_18 rfl ?_
  refine m_aaloadJ dX4_renew_19 (by first | assumption | rfl | exact va_up_self _ _ _ | (refine (va_up_ne _ _ ?_).trans ?_ <;> assumption) | (refine (va_up_ne _ _ ?_).trans (va_up_self _ _ _) <;> assumption) | (refine (va_up_ne _ _ ?_).trans ((va_up_ne _ _ ?_).trans ?_) <;> assumption) | (refine (va_up_ne _ _ ?_).trans ((va_up_ne _ _ ?_).trans (va_up_self _ _ _)) <;> assumption)) (mIx_lit hs (by decide)) (rItems_at hs) ?_
  refine m_lconst (v := 0) dX4_renew_20 (by decide) ?_
  refine m_invS_V dX4_renew_21 lk_X4_23 ar_J7_fill_d0a16 (t_J7_fill_d0a16 (by first | assumption | rfl | exact va_up_self _ _ _ | (refine (va_up_ne _ _ ?_).trans ?_ <;> assumption) | (refine (va_up_ne _ _ ?_).trans (va_up_self _ _ _) <;> assumption) | (refine (va_up_ne _ _ ?_).trans ((va_up_ne _ _ ?_).trans ?_) <;> assumption) | (refine (va_up_ne _ _ ?_).trans ((va_up_ne _ _ ?_).trans (va_up_self _ _ _)) <;> assumption)) (by decide)) rfl (Nat.le_of_ble_eq_true rfl) (by decide) (by decide) (by decide) (by decide) rfl rfl ?_
  try rw [va_uu]
  exact m_return hF dX4_renew_24 rfl rfl rfl ⟨rfl, rfl⟩

theorem t_X4_hasItems {n : Nat} {hp : mHp} {s : Nat} {i z : Int32} {SZ : Nat → Int32} (h1 : hp 36 = eO 4 oShelf) (h3 : hp 38 = eI 4 SZ) (hs : s < 4) : mC D_X4_hasItems [.ref 36, .int (nI s), .int i, .int z] n hp (rI (if i < 0 then 0 else if z < 0 then 0 else if SZ s - z < i then 0 else 1) hp) := by
  refine m_enter rfl rfl (Nat.le_of_ble_eq_true rfl) (fun K hF => ?_)
  show mW K _ 0 0 _ _ 0 [.ref 36, .int (nI s), .int i, .int z] []
  refine m_iload_n dX4_hasItems_0 rfl ?_
  refine m_if_lt (t := 24) dX4_hasItems_1 (by decide) (fun c1 => ?_) (fun c1 => ?_)
  · refine m_iconst (v := 0) dX4_hasItems_24 (by decide) ?_
    exact m_zreturn hF dX4_hasItems_25 rfl rfl rfl rfl ⟨by simp only [if_pos c1], rfl⟩
  refine m_iload_n dX4_hasItems_4 rfl ?_
  refine m_if_lt (t := 24) dX4_hasItems_5 (by decide) (fun c5 => ?_) (fun c5 => ?_)
  · refine m_iconst (v := 0) dX4_hasItems_24 (by decide) ?_
    exact m_zreturn hF dX4_hasItems_25 rfl rfl rfl rfl ⟨by simp only [if_neg c1, if_pos c5], rfl⟩
  refine m_iload_n dX4_hasItems_8 rfl ?_
  refine m_aload_n dX4_hasItems_9 rfl ?_
  refine m_getfield dX4_hasItems_10 fl_X4_15 (by first | assumption | rfl) (by first | assumption | rfl) ?_
  show mW _ _ _ _ _ _ _ _ (.ref _ :: _)
  refine m_iload_n dX4_hasItems_13 rfl ?_
  refine m_iaload dX4_hasItems_14 (by first | assumption | rfl) (mIx_lit hs (by decide)) ?_
  refine m_iload_n dX4_hasItems_15 rfl ?_
  refine m_isub dX4_hasItems_16 ?_
  refine m_icmp_gt (t := 24) dX4_hasItems_17 (by decide) (fun c17 => ?_) (fun c17 => ?_)
  · refine m_iconst (v := 0) dX4_hasItems_24 (by decide) ?_
    exact m_zreturn hF dX4_hasItems_25 rfl rfl rfl rfl ⟨by simp only [if_neg c1, if_neg c5, if_pos c17], rfl⟩
  refine m_iconst (v := 1) dX4_hasItems_20 (by decide) ?_
  refine m_goto (t := 25) dX4_hasItems_21 (by decide) ?_
  exact m_zreturn hF dX4_hasItems_25 rfl rfl rfl rfl ⟨by simp only [if_neg c1, if_neg c5, if_neg c17], rfl⟩

def shHas (SZ : Nat → Int32) (s : Nat) (i z : Int32) : Int32 := (if i < 0 then 0 else if z < 0 then 0 else if SZ s - z < i then 0 else 1)
def shRef (LN SZ : Nat → Int32) (s : Nat) (lane i z : Int32) : Int32 := if (if LN s = -1 then (1 : Int32) else 0) = 0 then if LN s = lane then if shHas SZ s i z = 0 then -13 else 0 else -12 else -11
theorem t_X4_refusal {n : Nat} {hp : mHp} {s : Nat} {lane i z : Int32} {LN SZ : Nat → Int32} (h1 : hp 36 = eO 4 oShelf) (h2 : hp 37 = eI 4 LN) (h3 : hp 38 = eI 4 SZ) (hs : s < 4) : mC D_X4_refusal [.ref 36, .int (nI s), .int lane, .int i, .int z] n hp (rI (shRef LN SZ s lane i z) hp) := by
  refine m_enter rfl rfl (Nat.le_of_ble_eq_true rfl) (fun K hF => ?_)
  show mW K _ 0 0 _ _ 0 [.ref 36, .int (nI s), .int lane, .int i, .int z] []
  refine m_aload_n dX4_refusal_0 rfl ?_
  refine m_iload_n dX4_refusal_1 rfl ?_
  refine m_invV_I dX4_refusal_2 lk_X4_29 ar_X4_isMissing (ci := 4) rfl rfl (by first | assumption | rfl) (t_X4_isMissing (by first | assumption | rfl) (by first | assumption | rfl) (by first | assumption | rfl)) rfl (Nat.le_of_ble_eq_true rfl) (by decide) (by decide) (by decide) (by decide) rfl rfl ?_
  try rw [va_uu]
  refine m_if_eq (t := 11) dX4_refusal_5 (by decide) (fun c5 => ?_) (fun c5 => ?_)
  rotate_left
  · refine m_bipush (v := -11) dX4_refusal_8 (by decide) ?_
    exact m_ireturn hF dX4_refusal_10 rfl rfl rfl ⟨by unfold shRef; simp only [if_neg c5], rfl⟩
  refine m_aload_n dX4_refusal_11 rfl ?_
  refine m_getfield dX4_refusal_12 fl_X4_9 (by first | assumption | rfl) (by first | assumption | rfl) ?_
  show mW _ _ _ _ _ _ _ _ (.ref _ :: _)
  refine m_iload_n dX4_refusal_15 rfl ?_
  refine m_iaload dX4_refusal_16 (by first | assumption | rfl) (mIx_lit hs (by decide)) ?_
  refine m_iload_n dX4_refusal_17 rfl ?_
  refine m_icmp_eq (t := 24) dX4_refusal_18 (by decide) (fun c18 => ?_) (fun c18 => ?_)
  rotate_left
  · refine m_bipush (v := -12) dX4_refusal_21 (by decide) ?_
    exact m_ireturn hF dX4_refusal_23 rfl rfl rfl ⟨by unfold shRef; simp only [if_pos c5, if_neg c18], rfl⟩
  refine m_aload_n dX4_refusal_24 rfl ?_
  refine m_iload_n dX4_refusal_25 rfl ?_
  refine m_iload_n dX4_refusal_26 rfl ?_
  refine m_iload dX4_refusal_27 rfl ?_
  refine m_invV_I dX4_refusal_29 lk_X4_33 ar_X4_hasItems (ci := 4) rfl rfl (by first | assumption | rfl) (R := shHas SZ s i z) (t_X4_hasItems h1 h3 hs) rfl (Nat.le_of_ble_eq_true rfl) (by decide) (by decide) (by decide) (by decide) rfl rfl ?_
  try rw [va_uu]
  refine m_if_eq (t := 39) dX4_refusal_32 (by decide) (fun c32 => ?_) (fun c32 => ?_)
  · refine m_bipush (v := -13) dX4_refusal_39 (by decide) ?_
    exact m_ireturn hF dX4_refusal_41 rfl rfl rfl ⟨by unfold shRef; simp only [if_pos c5, if_pos c18, if_pos c32], rfl⟩
  refine m_iconst (v := 0) dX4_refusal_35 (by decide) ?_
  refine m_goto (t := 41) dX4_refusal_36 (by decide) ?_
  exact m_ireturn hF dX4_refusal_41 rfl rfl rfl ⟨by unfold shRef; simp only [if_pos c5, if_pos c18, if_neg c32], rfl⟩

