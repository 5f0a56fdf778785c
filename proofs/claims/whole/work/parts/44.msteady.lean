/-! ===== the reference: isSteady ===== -/
/-- the object, but for its counts -/
def mOb5 (hp : mHp) (ac ia tm rm sm ra fa : Int32) : Prop := ∃ ri ev le ch ls : Int32, hp 67 = eO 8 (oMod ac ia tm ri ev le ch ls rm sm ra fa)
/-- its scratch: what is looked at, its shifted and turned forms -/
def mScr (hp : mHp) (Z : Nat → Int64) : Prop := ∃ A T0 Pr : Nat → Int64, hp 76 = eL 5 Z ∧ hp 77 = eL 5 A ∧ hp 78 = eL 5 T0 ∧ hp 79 = eL 5 Pr
/-- steady by the axis, as the reference says -/
def isA (Z : Nat → Int64) (x : Int32) : Prop := (deg5 Z = -1 ∧ x = 0) ∨ (deg5 Z ≠ -1 ∧ ∃ A : Nat → Int64, x = if (cntM Z A).2.2 = nI (dgN Z) then 1 else 0)
def isC (Z : Nat → Int64) (x : Int32) : Prop := (deg5 Z = -1 ∧ x = 0) ∨ (deg5 Z ≠ -1 ∧ ∃ A T0 Pr : Nat → Int64, x = if (cntM (tuZ Z T0 Pr) A).2.2 = nI (dgN Z) then 1 else 0)
/-- the turned form of what has a degree has one -/
def bL (Z : Nat → Int64) : Prop := ∀ t, t < 5 → -7272 ≤ (Z t).toInt ∧ (Z t).toInt ≤ 7272
def TUK : Prop := ∀ Z T0 Pr : Nat → Int64, bL Z → deg5 Z ≠ -1 → deg5 (tuZ Z T0 Pr) ≠ -1
set_option maxHeartbeats 400000 in
set_option maxRecDepth 100000 in
theorem t_X8_isSteady_0n {n : Nat} {hp : mHp} {ac ia tm ri ev le ch ls rm sm ra fa : Int32} (h1 : hp 67 = eO 8 (oMod ac ia tm ri ev le ch ls rm sm ra fa)) {Z : Nat → Int64} (hs : mScr hp Z) (hne : deg5 Z = -1) : mC D_X8_isSteady [.ref 67, .int 0] n hp (fun v hp' => ∃ x : Int32, v = some (.int x) ∧ isA Z x ∧ mOb5 hp' ac ia tm rm sm ra fa ∧ (∃ Z', mScr hp' Z') ∧ ∀ q, (q < 67 ∨ 67 < q ∧ q < 76 ∨ 79 < q) → hp' q = hp q) := by
  refine m_enter rfl rfl (Nat.le_of_ble_eq_true rfl) (fun K hF => ?_)
  show mW K _ 0 0 _ _ 0 [.ref 67, .int 0, .retAddr 0] []
  have hs0 := hs
  obtain ⟨A, T0, Pr, s1, s2, s3, s4⟩ := hs
  refine m_aload_n dX8_isSteady_0 rfl ?_
  refine m_iload_n dX8_isSteady_1 rfl ?_
  refine m_invV_I dX8_isSteady_2 lk_X8_137 ar_X8_countsBy (ci := 8) rfl rfl (by first | assumption | rfl | exact va_up_self _ _ _) (t_X8_countsBy_n h1 s1 s2 hne) rfl (Nat.le_of_ble_eq_true rfl) (by decide) (by decide) (by decide) (by decide) rfl rfl ?_
  try rw [va_uu]
  refine m_istore_n dX8_isSteady_5 (by decide) ?_
  show mW _ _ _ _ _ _ 6 [_, _, _] _
  skip
  refine m_iload_n dX8_isSteady_6 rfl ?_
  refine m_bipush (v := -4) dX8_isSteady_7 (by decide) ?_
  refine m_icmp_eq (t := 24) dX8_isSteady_9 (by decide) (fun _ => ?_) (fun q => absurd (by decide) q)
  refine m_iconst (v := 0) dX8_isSteady_24 (by decide) ?_
  exact m_zreturn hF dX8_isSteady_25 rfl rfl rfl rfl ⟨0, rfl, Or.inl ⟨hne, rfl⟩, ⟨_, _, _, _, _, h1⟩, ⟨Z, hs0⟩, fun _ _ => rfl⟩

set_option maxHeartbeats 400000 in
set_option maxRecDepth 100000 in
theorem t_X8_isSteady_1n {n : Nat} {hp : mHp} {ac ia tm ri ev le ch ls rm sm ra fa : Int32} (h1 : hp 67 = eO 8 (oMod ac ia tm ri ev le ch ls rm sm ra fa)) {Z : Nat → Int64} (hs : mScr hp Z) (hne : deg5 Z = -1) : mC D_X8_isSteady [.ref 67, .int 1] n hp (fun v hp' => ∃ x : Int32, v = some (.int x) ∧ isC Z x ∧ mOb5 hp' ac ia tm rm sm ra fa ∧ (∃ Z', mScr hp' Z') ∧ ∀ q, (q < 67 ∨ 67 < q ∧ q < 76 ∨ 79 < q) → hp' q = hp q) := by
  refine m_enter rfl rfl (Nat.le_of_ble_eq_true rfl) (fun K hF => ?_)
  show mW K _ 0 0 _ _ 0 [.ref 67, .int 1, .retAddr 0] []
  have hs0 := hs
  obtain ⟨A, T0, Pr, s1, s2, s3, s4⟩ := hs
  refine m_aload_n dX8_isSteady_0 rfl ?_
  refine m_iload_n dX8_isSteady_1 rfl ?_
  refine m_invV_I dX8_isSteady_2 lk_X8_137 ar_X8_countsBy (ci := 8) rfl rfl (by first | assumption | rfl | exact va_up_self _ _ _) (t_X8_countsBy_n h1 s1 s2 hne) rfl (Nat.le_of_ble_eq_true rfl) (by decide) (by decide) (by decide) (by decide) rfl rfl ?_
  try rw [va_uu]
  refine m_istore_n dX8_isSteady_5 (by decide) ?_
  show mW _ _ _ _ _ _ 6 [_, _, _] _
  skip
  refine m_iload_n dX8_isSteady_6 rfl ?_
  refine m_bipush (v := -4) dX8_isSteady_7 (by decide) ?_
  refine m_icmp_eq (t := 24) dX8_isSteady_9 (by decide) (fun _ => ?_) (fun q => absurd (by decide) q)
  refine m_iconst (v := 0) dX8_isSteady_24 (by decide) ?_
  exact m_zreturn hF dX8_isSteady_25 rfl rfl rfl rfl ⟨0, rfl, Or.inl ⟨hne, rfl⟩, ⟨_, _, _, _, _, h1⟩, ⟨Z, hs0⟩, fun _ _ => rfl⟩

set_option maxHeartbeats 400000 in
set_option maxRecDepth 100000 in
theorem t_X8_isSteady_0d {n : Nat} {hp : mHp} {ac ia tm ri ev le ch ls rm sm ra fa : Int32} (h1 : hp 67 = eO 8 (oMod ac ia tm ri ev le ch ls rm sm ra fa)) {Z : Nat → Int64} (hs : mScr hp Z) (hne : deg5 Z ≠ -1) : mC D_X8_isSteady [.ref 67, .int 0] n hp (fun v hp' => ∃ x : Int32, v = some (.int x) ∧ isA Z x ∧ mOb5 hp' ac ia tm rm sm ra fa ∧ (∃ Z', mScr hp' Z') ∧ ∀ q, (q < 67 ∨ 67 < q ∧ q < 76 ∨ 79 < q) → hp' q = hp q) := by
  refine m_enter rfl rfl (Nat.le_of_ble_eq_true rfl) (fun K hF => ?_)
  show mW K _ 0 0 _ _ 0 [.ref 67, .int 0, .retAddr 0] []
  have hs0 := hs
  obtain ⟨A, T0, Pr, s1, s2, s3, s4⟩ := hs
  refine m_aload_n dX8_isSteady_0 rfl ?_
  refine m_iload_n dX8_isSteady_1 rfl ?_
  refine m_invV dX8_isSteady_2 lk_X8_137 ar_X8_countsBy (ci := 8) rfl rfl (by first | assumption | rfl | exact va_up_self _ _ _) (t_X8_countsBy_0 h1 s1 s2 hne) rfl (Nat.le_of_ble_eq_true rfl) (by decide) (by decide) (by decide) (by decide) (fun v hp' q => ?_)
  obtain ⟨rfl, ch', ls', A', rfl⟩ := q
  show mW K _ 0 0 n _ 5 [.ref 67, .int 0, .retAddr 0] [.int (nI (dgN Z))]
  refine m_istore_n dX8_isSteady_5 (by decide) ?_
  show mW _ _ _ _ _ _ 6 [_, _, _] _
  refine m_iload_n dX8_isSteady_6 rfl ?_
  refine m_bipush (v := -4) dX8_isSteady_7 (by decide) ?_
  refine m_icmp_eq (t := 24) dX8_isSteady_9 (by decide) (fun c9 => ?_) (fun c9 => ?_)
  · skip
    refine m_iconst (v := 0) dX8_isSteady_24 (by decide) ?_
    exact m_zreturn hF dX8_isSteady_25 rfl rfl rfl rfl (absurd c9 (nI_n4 (dgN_le Z)))
  refine m_aload_n dX8_isSteady_12 rfl ?_
  refine m_getfield dX8_isSteady_13 fl_X8_81 (by first | assumption | rfl | exact va_up_self _ _ _) (by first | assumption | rfl | exact va_up_self _ _ _) ?_
  show mW _ _ _ _ _ _ _ _ (.int _ :: _)
  refine m_iload_n dX8_isSteady_16 rfl ?_
  refine m_icmp_ne (t := 24) dX8_isSteady_17 (by decide) (fun c17 => ?_) (fun c17 => ?_)
  · skip
    refine m_iconst (v := 0) dX8_isSteady_24 (by decide) ?_
    exact m_zreturn hF dX8_isSteady_25 rfl rfl rfl rfl ⟨0, rfl, Or.inr ⟨hne, A, by rw [if_neg c17]⟩, ⟨_, _, _, _, _, va_up_self _ _ _⟩, ⟨Z, ⟨A', T0, Pr, (va_up_ne _ _ (by decide)).trans ((va_up_ne _ _ (by decide)).trans s1), (va_up_ne _ _ (by decide)).trans (va_up_self _ _ _), (va_up_ne _ _ (by decide)).trans ((va_up_ne _ _ (by decide)).trans s3), (va_up_ne _ _ (by decide)).trans ((va_up_ne _ _ (by decide)).trans s4)⟩⟩, fun q hq => by rw [va_up_ne _ _ (by omega), va_up_ne _ _ (by omega)]⟩
  refine m_iconst (v := 1) dX8_isSteady_20 (by decide) ?_
  refine m_goto (t := 25) dX8_isSteady_21 (by decide) ?_
  exact m_zreturn hF dX8_isSteady_25 rfl rfl rfl rfl ⟨1, rfl, Or.inr ⟨hne, A, by rw [if_pos c17]⟩, ⟨_, _, _, _, _, va_up_self _ _ _⟩, ⟨Z, ⟨A', T0, Pr, (va_up_ne _ _ (by decide)).trans ((va_up_ne _ _ (by decide)).trans s1), (va_up_ne _ _ (by decide)).trans (va_up_self _ _ _), (va_up_ne _ _ (by decide)).trans ((va_up_ne _ _ (by decide)).trans s3), (va_up_ne _ _ (by decide)).trans ((va_up_ne _ _ (by decide)).trans s4)⟩⟩, fun q hq => by rw [va_up_ne _ _ (by omega), va_up_ne _ _ (by omega)]⟩

set_option maxHeartbeats 400000 in
set_option maxRecDepth 100000 in
theorem t_X8_isSteady_1d {n : Nat} {hp : mHp} {ac ia tm ri ev le ch ls rm sm ra fa : Int32} (h1 : hp 67 = eO 8 (oMod ac ia tm ri ev le ch ls rm sm ra fa)) {Z : Nat → Int64} (hs : mScr hp Z) (hTU : TUK) (hB : bL Z) (hne : deg5 Z ≠ -1) : mC D_X8_isSteady [.ref 67, .int 1] n hp (fun v hp' => ∃ x : Int32, v = some (.int x) ∧ isC Z x ∧ mOb5 hp' ac ia tm rm sm ra fa ∧ (∃ Z', mScr hp' Z') ∧ ∀ q, (q < 67 ∨ 67 < q ∧ q < 76 ∨ 79 < q) → hp' q = hp q) := by
  refine m_enter rfl rfl (Nat.le_of_ble_eq_true rfl) (fun K hF => ?_)
  show mW K _ 0 0 _ _ 0 [.ref 67, .int 1, .retAddr 0] []
  have hs0 := hs
  obtain ⟨A, T0, Pr, s1, s2, s3, s4⟩ := hs
  refine m_aload_n dX8_isSteady_0 rfl ?_
  refine m_iload_n dX8_isSteady_1 rfl ?_
  refine m_invV dX8_isSteady_2 lk_X8_137 ar_X8_countsBy (ci := 8) rfl rfl (by first | assumption | rfl | exact va_up_self _ _ _) (t_X8_countsBy_1 h1 s1 s2 s3 s4 hne (hTU Z T0 Pr hB hne)) rfl (Nat.le_of_ble_eq_true rfl) (by decide) (by decide) (by decide) (by decide) (fun v hp' q => ?_)
  obtain ⟨rfl, ch', ls', A', rfl⟩ := q
  show mW K _ 0 0 n _ 5 [.ref 67, .int 1, .retAddr 0] [.int (nI (dgN Z))]
  refine m_istore_n dX8_isSteady_5 (by decide) ?_
  show mW _ _ _ _ _ _ 6 [_, _, _] _
  refine m_iload_n dX8_isSteady_6 rfl ?_
  refine m_bipush (v := -4) dX8_isSteady_7 (by decide) ?_
  refine m_icmp_eq (t := 24) dX8_isSteady_9 (by decide) (fun c9 => ?_) (fun c9 => ?_)
  · skip
    refine m_iconst (v := 0) dX8_isSteady_24 (by decide) ?_
    exact m_zreturn hF dX8_isSteady_25 rfl rfl rfl rfl (absurd c9 (nI_n4 (dgN_le Z)))
  refine m_aload_n dX8_isSteady_12 rfl ?_
  refine m_getfield dX8_isSteady_13 fl_X8_81 (by first | assumption | rfl | exact va_up_self _ _ _) (by first | assumption | rfl | exact va_up_self _ _ _) ?_
  show mW _ _ _ _ _ _ _ _ (.int _ :: _)
  refine m_iload_n dX8_isSteady_16 rfl ?_
  refine m_icmp_ne (t := 24) dX8_isSteady_17 (by decide) (fun c17 => ?_) (fun c17 => ?_)
  · skip
    refine m_iconst (v := 0) dX8_isSteady_24 (by decide) ?_
    exact m_zreturn hF dX8_isSteady_25 rfl rfl rfl rfl ⟨0, rfl, Or.inr ⟨hne, A, T0, Pr, by rw [if_neg c17]⟩, ⟨_, _, _, _, _, va_up_self _ _ _⟩, ⟨(tuZ Z T0 Pr), ⟨A', _, _, (va_up_ne _ _ (by decide)).trans ((va_up_ne _ _ (by decide)).trans (va_up_self _ _ _)), (va_up_ne _ _ (by decide)).trans (va_up_self _ _ _), (va_up_ne _ _ (by decide)).trans ((va_up_ne _ _ (by decide)).trans ((va_up_ne _ _ (by decide)).trans ((va_up_ne _ _ (by decide)).trans (va_up_self _ _ _)))), (va_up_ne _ _ (by decide)).trans ((va_up_ne _ _ (by decide)).trans ((va_up_ne _ _ (by decide)).trans (va_up_self _ _ _)))⟩⟩, fun q hq => by rw [va_up_ne _ _ (by omega), va_up_ne _ _ (by omega), va_up_ne _ _ (by omega), va_up_ne _ _ (by omega), va_up_ne _ _ (by omega)]⟩
  refine m_iconst (v := 1) dX8_isSteady_20 (by decide) ?_
  refine m_goto (t := 25) dX8_isSteady_21 (by decide) ?_
  exact m_zreturn hF dX8_isSteady_25 rfl rfl rfl rfl ⟨1, rfl, Or.inr ⟨hne, A, T0, Pr, by rw [if_pos c17]⟩, ⟨_, _, _, _, _, va_up_self _ _ _⟩, ⟨(tuZ Z T0 Pr), ⟨A', _, _, (va_up_ne _ _ (by decide)).trans ((va_up_ne _ _ (by decide)).trans (va_up_self _ _ _)), (va_up_ne _ _ (by decide)).trans (va_up_self _ _ _), (va_up_ne _ _ (by decide)).trans ((va_up_ne _ _ (by decide)).trans ((va_up_ne _ _ (by decide)).trans ((va_up_ne _ _ (by decide)).trans (va_up_self _ _ _)))), (va_up_ne _ _ (by decide)).trans ((va_up_ne _ _ (by decide)).trans ((va_up_ne _ _ (by decide)).trans (va_up_self _ _ _)))⟩⟩, fun q hq => by rw [va_up_ne _ _ (by omega), va_up_ne _ _ (by omega), va_up_ne _ _ (by omega), va_up_ne _ _ (by omega), va_up_ne _ _ (by omega)]⟩

def isB (b : Int32) (Z : Nat → Int64) (x : Int32) : Prop := if b = 0 then isA Z x else isC Z x
theorem t_isSteady {n : Nat} {hp : mHp} {ac ia tm ri ev le ch ls rm sm ra fa : Int32} (h1 : hp 67 = eO 8 (oMod ac ia tm ri ev le ch ls rm sm ra fa)) {Z : Nat → Int64} (hs : mScr hp Z) (hTU : TUK) (hB : bL Z) {b : Int32} (hb : inC b 2) : mC D_X8_isSteady [.ref 67, .int b] n hp (fun v hp' => ∃ x : Int32, v = some (.int x) ∧ isB b Z x ∧ mOb5 hp' ac ia tm rm sm ra fa ∧ (∃ Z', mScr hp' Z') ∧ ∀ q, (q < 67 ∨ 67 < q ∧ q < 76 ∨ 79 < q) → hp' q = hp q) := by
  obtain ⟨w, hw, rfl, -⟩ := inC_N hb
  by_cases hne : deg5 Z = -1
  · match w, hw with
    | 0, _ => exact t_X8_isSteady_0n h1 hs hne
    | 1, _ => exact t_X8_isSteady_1n h1 hs hne
  · match w, hw with
    | 0, _ => exact t_X8_isSteady_0d h1 hs hne
    | 1, _ => exact t_X8_isSteady_1d h1 hs hTU hB hne
