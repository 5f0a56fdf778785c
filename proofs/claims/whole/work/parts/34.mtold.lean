/-! ===== the reference: what is told ===== -/
def mRep (hp : mHp) (S : TS) (ia tm : Int32) : Prop := ∃ (ri ev le ch ls rm sm ra fa : Int32) (C PA : Nat → Int32), hp 67 = eO 8 (oMod (nI S.2.1) ia tm ri ev le ch ls rm sm ra fa) ∧ hp 68 = eI 12 C ∧ hp 69 = eI 72 PA ∧ S.2.1 ≤ 6 ∧ eq12 C S.1 ∧ mHist PA S.2.1 S.2.2
theorem mRep.of {hp hp' : mHp} {S : TS} {ia tm : Int32} (h : mRep hp S ia tm) (e : ∀ q, 67 ≤ q → q ≤ 69 → hp' q = hp q) : mRep hp' S ia tm := by
  obtain ⟨ri, ev, le, ch, ls, rm, sm, ra, fa, C, PA, h1, h2, h3, h4, h5, h6⟩ := h
  exact ⟨ri, ev, le, ch, ls, rm, sm, ra, fa, C, PA, (e 67 (by decide) (by decide)).trans h1, (e 68 (by decide) (by decide)).trans h2, (e 69 (by decide) (by decide)).trans h3, h4, h5, h6⟩
def off3 (hp hp' : mHp) : Prop := ∀ q, (q < 67 ∨ 69 < q) → hp' q = hp q
theorem off3.rf {hp : mHp} : off3 hp hp := fun _ _ => rfl
theorem t_notes {n : Nat} {hp : mHp} {S : TS} {ia tm : Int32} {C : Nat → Int32} (h : mRep hp S ia tm) (hC : hp 68 = eI 12 C) : mC D_X8_notes [.ref 67] n hp (fun v hp' => v = none ∧ mRep hp' (S.1, pushK S.2.1, pushH S.1 S.2.2) ia tm ∧ hp' 68 = eI 12 C ∧ off3 hp hp') := by
  obtain ⟨ri, ev, le, ch, ls, rm, sm, ra, fa, C', PA, h1, h2, h3, h4, h5, h6⟩ := h
  have pk : pushK S.2.1 ≤ 6 := by
    unfold pushK
    by_cases e : 6 ≤ S.2.1
    · rw [if_pos e]
      exact h4
    · rw [if_neg e]
      omega
  have fin : ∀ v hp', qNotes hp S.2.1 S.1 S.2.2 ia tm ri ev le ch ls rm sm ra fa v hp' → (v = none ∧ mRep hp' (S.1, pushK S.2.1, pushH S.1 S.2.2) ia tm ∧ hp' 68 = eI 12 C ∧ off3 hp hp') := by
    rintro v hp' ⟨rfl, PA', rfl, hh⟩
    exact ⟨rfl, ⟨ri, ev, le, ch, ls, rm, sm, ra, fa, C', PA', va_up_self _ _ _, h2, rfl, pk, h5, hh⟩, hC, fun q hq => by rw [va_up_ne _ _ (by omega), va_up_ne _ _ (by omega)]⟩
  by_cases e : S.2.1 = 6
  · refine mC.mono ?_ fin
    rw [e]
    rw [e] at h1 h6
    exact t_X8_notesB h1 h2 h3 h5 h6
  · exact (t_X8_notesA h1 h2 h3 (by omega) h5 h6).mono fin
theorem mRep.st {hp : mHp} {S : TS} {ia tm : Int32} {C : Nat → Int32} (h : mRep hp S ia tm) (hC : hp 68 = eI 12 C) {i : Nat} {v : Int32} : mRep (va_up hp 68 (eI 12 (va_up C i v))) (va_up S.1 i v, S.2) ia tm := by
  obtain ⟨ri, ev, le, ch, ls, rm, sm, ra, fa, C', PA, h1, h2, h3, h4, h5, h6⟩ := h
  obtain ⟨-, rfl⟩ := eI_inj (hC.symm.trans h2)
  refine ⟨ri, ev, le, ch, ls, rm, sm, ra, fa, _, PA, (va_up_ne _ _ (by decide)).trans h1, va_up_self _ _ _, (va_up_ne _ _ (by decide)).trans h3, h4, fun t ht => ?_, h6⟩
  show va_up C i v t = va_up S.1 i v t
  by_cases e : t = i
  · rw [e, va_up_self, va_up_self]
  · rw [va_up_ne _ _ e, va_up_ne _ _ e]
    exact h5 t ht
def ptM (w k : Int32) : Int32 := if inI w.toInt64 0 1 = 0 then 0 else if inI k.toInt64 0 4 = 0 then 0 else 1
theorem ptM_iff {w k : Int32} : ptM w k = 0 ↔ ¬ (inC w 2 ∧ inC k 5) := by
  have h1 := inI_iff (v := w) (a := 0) (b := 1) (x := 0) (y := 1) (by decide) (by decide)
  have h2 := inI_iff (v := k) (a := 0) (b := 4) (x := 0) (y := 4) (by decide) (by decide)
  unfold ptM
  rw [if01, h1, h2]
  unfold inC
  omega
theorem in9_iff {v : Int32} : inI v.toInt64 (-9) 9 = 0 ↔ ¬ in9 v := inI_iff (by decide) (by decide)
theorem inG_iff {v : Int32} : inI v.toInt64 (-800) 800 = 0 ↔ ¬ inG v := inI_iff (by decide) (by decide)
set_option maxHeartbeats 400000 in
set_option maxRecDepth 100000 in
theorem t_X8_isPart {n : Nat} {hp : mHp} {w k : Int32} : mC D_X8_isPart [.int w, .int k] n hp (rI (ptM w k) hp) := by
  refine m_enter rfl rfl (Nat.le_of_ble_eq_true rfl) (fun K hF => ?_)
  show mW K _ 0 0 _ _ 0 [.int w, .int k] []
  refine m_iload_n dX8_isPart_0 rfl ?_
  refine m_i2l dX8_isPart_1 ?_
  refine m_lconst (v := 0) dX8_isPart_2 (by decide) ?_
  refine m_lconst (v := 1) dX8_isPart_3 (by decide) ?_
  refine m_invS_I dX8_isPart_4 lk_X8_141 ar_X8_in (t_X8_in) rfl (Nat.le_of_ble_eq_true rfl) (by decide) (by decide) (by decide) (by decide) rfl rfl ?_
  try rw [va_uu]
  refine m_if_eq (t := 26) dX8_isPart_7 (by decide) (fun c7 => ?_) (fun c7 => ?_)
  · refine m_iconst (v := 0) dX8_isPart_26 (by decide) ?_
    exact m_zreturn hF dX8_isPart_27 rfl rfl rfl rfl ⟨by unfold ptM; simp only [if_pos c7], rfl⟩
  refine m_iload_n dX8_isPart_10 rfl ?_
  refine m_i2l dX8_isPart_11 ?_
  refine m_lconst (v := 0) dX8_isPart_12 (by decide) ?_
  refine m_ldc2 dX8_isPart_13 cl_X8_96 ?_
  refine m_invS_I dX8_isPart_16 lk_X8_141 ar_X8_in (t_X8_in) rfl (Nat.le_of_ble_eq_true rfl) (by decide) (by decide) (by decide) (by decide) rfl rfl ?_
  try rw [va_uu]
  refine m_if_eq (t := 26) dX8_isPart_19 (by decide) (fun c19 => ?_) (fun c19 => ?_)
  · refine m_iconst (v := 0) dX8_isPart_26 (by decide) ?_
    exact m_zreturn hF dX8_isPart_27 rfl rfl rfl rfl ⟨by unfold ptM; simp only [if_neg c7, if_pos c19], rfl⟩
  refine m_iconst (v := 1) dX8_isPart_22 (by decide) ?_
  refine m_goto (t := 27) dX8_isPart_23 (by decide) ?_
  exact m_zreturn hF dX8_isPart_27 rfl rfl rfl rfl ⟨by unfold ptM; simp only [if_neg c7, if_neg c19], rfl⟩

theorem inI_b {v a b : Int64} : inI v a b = 0 ∨ inI v a b = 1 := by
  unfold inI
  by_cases h : v < a
  · exact Or.inl (if_pos h)
  · rw [if_neg h]
    by_cases h2 : b < v
    · exact Or.inl (if_pos h2)
    · exact Or.inr (if_neg h2)
theorem narB {x : Int32} (h : x = 0 ∨ x = 1) : narrow FieldType.boolean (Value.int x) = Value.int x := by
  rcases h with rfl | rfl <;> rfl
set_option maxHeartbeats 400000 in
set_option maxRecDepth 100000 in
theorem t_X8_isGain {n : Nat} {hp : mHp} {v : Int32} : mC D_X8_isGain [.int v] n hp (rI (inI v.toInt64 (-800) 800) hp) := by
  refine m_enter rfl rfl (Nat.le_of_ble_eq_true rfl) (fun K hF => ?_)
  show mW K _ 0 0 _ _ 0 [.int v] []
  refine m_iload_n dX8_isGain_0 rfl ?_
  refine m_i2l dX8_isGain_1 ?_
  refine m_ldc2 dX8_isGain_2 cl_X8_156 ?_
  refine m_ldc2 dX8_isGain_5 cl_X8_158 ?_
  refine m_invS_I dX8_isGain_8 lk_X8_141 ar_X8_in (t_X8_in) rfl (Nat.le_of_ble_eq_true rfl) (by decide) (by decide) (by decide) (by decide) rfl rfl ?_
  try rw [va_uu]
  exact m_zreturn hF dX8_isGain_11 rfl (narB inI_b) rfl rfl ⟨rfl, rfl⟩

set_option maxHeartbeats 400000 in
set_option maxRecDepth 100000 in
theorem t_X8_part {n : Nat} {hp : mHp} {S : TS} {ia tm : Int32} (h : mRep hp S ia tm) {a k x : Int32} : mC D_X8_part [.ref 67, .int a, .int k, .int x] n hp (fun r hp' => r = some (.int (sPart S a k x).1) ∧ mRep hp' (sPart S a k x).2 ia tm ∧ off3 hp hp') := by
  refine m_enter rfl rfl (Nat.le_of_ble_eq_true rfl) (fun K hF => ?_)
  show mW K _ 0 0 _ _ 0 [.ref 67, .int a, .int k, .int x, .retAddr 0] []
  have hR := h
  obtain ⟨ri, ev, le, ch, ls, rm, sm, ra, fa, C, PA, h1, h2, h3, h4, h5, h6⟩ := h
  refine m_iload_n dX8_part_0 rfl ?_
  refine m_iload_n dX8_part_1 rfl ?_
  refine m_invS_I dX8_part_2 lk_X8_145 ar_X8_isPart (t_X8_isPart) rfl (Nat.le_of_ble_eq_true rfl) (by decide) (by decide) (by decide) (by decide) rfl rfl ?_
  try rw [va_uu]
  refine m_if_eq (t := 22) dX8_part_5 (by decide) (fun c5 => ?_) (fun c5 => ?_)
  · refine m_iconst (v := -1) dX8_part_22 (by decide) ?_
    exact m_ireturn hF dX8_part_23 rfl rfl rfl ⟨by unfold sPart; rw [if_neg (by rintro ⟨y1, y2, y3⟩; first | exact ptM_iff.mp c5 ⟨y1, y2⟩ | exact in9_iff.mp c19 y3)], by unfold sPart; rw [if_neg (by rintro ⟨y1, y2, y3⟩; first | exact ptM_iff.mp c5 ⟨y1, y2⟩ | exact in9_iff.mp c19 y3)]; exact hR, off3.rf⟩
  refine m_iload_n dX8_part_8 rfl ?_
  refine m_i2l dX8_part_9 ?_
  refine m_ldc2 dX8_part_10 cl_X8_149 ?_
  refine m_ldc2 dX8_part_13 cl_X8_151 ?_
  refine m_invS_I dX8_part_16 lk_X8_141 ar_X8_in (t_X8_in) rfl (Nat.le_of_ble_eq_true rfl) (by decide) (by decide) (by decide) (by decide) rfl rfl ?_
  try rw [va_uu]
  refine m_if_ne (t := 24) dX8_part_19 (by decide) (fun c19 => ?_) (fun c19 => ?_)
  rotate_left
  · refine m_iconst (v := -1) dX8_part_22 (by decide) ?_
    exact m_ireturn hF dX8_part_23 rfl rfl rfl ⟨by unfold sPart; rw [if_neg (by rintro ⟨y1, y2, y3⟩; first | exact ptM_iff.mp c5 ⟨y1, y2⟩ | exact in9_iff.mp c19 y3)], by unfold sPart; rw [if_neg (by rintro ⟨y1, y2, y3⟩; first | exact ptM_iff.mp c5 ⟨y1, y2⟩ | exact in9_iff.mp c19 y3)]; exact hR, off3.rf⟩
  have hpt := Classical.not_not.mp (fun z => c5 (ptM_iff.mpr z))
  have hok : inC a 2 ∧ inC k 5 ∧ in9 x := ⟨hpt.1, hpt.2, Classical.not_not.mp (fun z => c19 (in9_iff.mpr z))⟩
  obtain ⟨w, hw, rfl, ew⟩ := inC_N hok.1
  obtain ⟨j, hj, rfl, ej⟩ := inC_N hok.2.1
  have hix : tIx (nI w) (nI j) = 5 * w + j := by unfold tIx; rw [ew, ej]
  have h10 : 5 * w + j < 12 := by omega
  have hcv : C (5 * w + j) = S.1 (5 * w + j) := h5 _ h10
  refine m_aload_n dX8_part_24 rfl ?_
  refine m_getfield dX8_part_25 fl_X8_7 (by first | assumption | rfl) (by first | assumption | rfl) ?_
  show mW _ _ _ _ _ _ _ _ (.ref _ :: _)
  refine m_iconst (v := 5) dX8_part_28 (by decide) ?_
  refine m_iload_n dX8_part_29 rfl ?_
  refine m_imul dX8_part_30 ?_
  refine m_ci (v := nI (5 * w)) (nI_mulN 5 w) ?_
  refine m_iload_n dX8_part_31 rfl ?_
  refine m_iadd dX8_part_32 ?_
  refine m_ci (v := nI (5 * w + j)) (nI_add _ _) ?_
  refine m_iaload dX8_part_33 (by first | assumption | rfl) (mIx_lit h10 (by decide)) ?_
  refine m_istore dX8_part_34 (by decide) ?_
  show mW _ _ _ _ _ _ 36 [_, _, _, _, _] _
  refine m_iload dX8_part_36 rfl ?_
  refine m_iload_n dX8_part_38 rfl ?_
  refine m_icmp_ne (t := 45) dX8_part_39 (by decide) (fun c39 => ?_) (fun c39 => ?_)
  rotate_left
  · have hv : S.1 (5 * w + j) = x := hcv.symm.trans c39
    refine m_bipush (v := -2) dX8_part_42 (by decide) ?_
    exact m_ireturn hF dX8_part_44 rfl rfl rfl ⟨by unfold sPart; rw [if_pos hok, hix, if_pos hv], by unfold sPart; rw [if_pos hok, hix, if_pos hv]; exact hR, off3.rf⟩
  have hnv : ¬ S.1 (5 * w + j) = x := fun z => c39 (hcv.trans z)
  refine m_aload_n dX8_part_45 rfl ?_
  refine m_invV dX8_part_46 lk_X8_153 ar_X8_notes (ci := 8) rfl rfl (by first | assumption | rfl) (t_notes hR h2) rfl (Nat.le_of_ble_eq_true rfl) (by decide) (by decide) (by decide) (by decide) (fun v hp' q => ?_)
  obtain ⟨rfl, gR, g2, gO⟩ := q
  obtain ⟨ri2, ev2, le2, ch2, ls2, rm2, sm2, ra2, fa2, C2, PA2, g1, -⟩ := id gR
  show mW K _ 0 0 n hp' 49 [.ref 67, .int (nI w), .int (nI j), .int x, .int (C (5 * w + j))] []
  refine m_aload_n dX8_part_49 rfl ?_
  refine m_getfield dX8_part_50 fl_X8_7 (by first | assumption | rfl) (by first | assumption | rfl) ?_
  show mW _ _ _ _ _ _ _ _ (.ref _ :: _)
  refine m_iconst (v := 5) dX8_part_53 (by decide) ?_
  refine m_iload_n dX8_part_54 rfl ?_
  refine m_imul dX8_part_55 ?_
  refine m_ci (v := nI (5 * w)) (nI_mulN 5 w) ?_
  refine m_iload_n dX8_part_56 rfl ?_
  refine m_iadd dX8_part_57 ?_
  refine m_ci (v := nI (5 * w + j)) (nI_add _ _) ?_
  refine m_iload_n dX8_part_58 rfl ?_
  refine m_iastore dX8_part_59 (by first | assumption | rfl) (mIx_lit h10 (by decide)) ?_
  try rw [va_uu]
  refine m_iload dX8_part_60 rfl ?_
  refine m_bipush (v := 9) dX8_part_62 (by decide) ?_
  refine m_iadd dX8_part_64 ?_
  exact m_ireturn hF dX8_part_65 rfl rfl rfl ⟨by unfold sPart; rw [if_pos hok, hix, if_neg hnv, ← hcv], by unfold sPart; rw [if_pos hok, hix, if_neg hnv]; exact gR.st g2, fun q hq => by rw [va_up_ne _ _ (by omega)]; exact gO q hq⟩

set_option maxHeartbeats 400000 in
set_option maxRecDepth 100000 in
theorem t_X8_gain {n : Nat} {hp : mHp} {S : TS} {ia tm : Int32} (h : mRep hp S ia tm) {x : Int32} : mC D_X8_gain [.ref 67, .int x] n hp (fun r hp' => r = some (.int (sGain S x).1) ∧ mRep hp' (sGain S x).2 ia tm ∧ off3 hp hp') := by
  refine m_enter rfl rfl (Nat.le_of_ble_eq_true rfl) (fun K hF => ?_)
  show mW K _ 0 0 _ _ 0 [.ref 67, .int x, .retAddr 0] []
  have hR := h
  obtain ⟨ri, ev, le, ch, ls, rm, sm, ra, fa, C, PA, h1, h2, h3, h4, h5, h6⟩ := h
  have hcv : C 10 = S.1 10 := h5 _ (by decide)
  refine m_iload_n dX8_gain_0 rfl ?_
  refine m_invS_I dX8_gain_1 lk_X8_160 ar_X8_isGain (t_X8_isGain) rfl (Nat.le_of_ble_eq_true rfl) (by decide) (by decide) (by decide) (by decide) rfl rfl ?_
  try rw [va_uu]
  refine m_if_ne (t := 9) dX8_gain_4 (by decide) (fun c4 => ?_) (fun c4 => ?_)
  rotate_left
  · refine m_iconst (v := -1) dX8_gain_7 (by decide) ?_
    exact m_ireturn hF dX8_gain_8 rfl rfl rfl ⟨by unfold sGain; rw [if_neg (inG_iff.mp c4)], by unfold sGain; rw [if_neg (inG_iff.mp c4)]; exact hR, off3.rf⟩
  have hok : inG x := Classical.not_not.mp (fun z => c4 (inG_iff.mpr z))
  refine m_aload_n dX8_gain_9 rfl ?_
  refine m_getfield dX8_gain_10 fl_X8_7 (by first | assumption | rfl) (by first | assumption | rfl) ?_
  show mW _ _ _ _ _ _ _ _ (.ref _ :: _)
  refine m_bipush (v := 10) dX8_gain_13 (by decide) ?_
  refine m_iaload (k := 10) dX8_gain_15 (by first | assumption | rfl) ⟨by decide, by decide⟩ ?_
  refine m_istore_n dX8_gain_16 (by decide) ?_
  show mW _ _ _ _ _ _ 17 [_, _, _] _
  refine m_iload_n dX8_gain_17 rfl ?_
  refine m_iload_n dX8_gain_18 rfl ?_
  refine m_icmp_ne (t := 25) dX8_gain_19 (by decide) (fun c19 => ?_) (fun c19 => ?_)
  rotate_left
  · have hv : S.1 10 = x := hcv.symm.trans c19
    refine m_bipush (v := -2) dX8_gain_22 (by decide) ?_
    exact m_ireturn hF dX8_gain_24 rfl rfl rfl ⟨by unfold sGain; rw [if_pos hok, if_pos hv], by unfold sGain; rw [if_pos hok, if_pos hv]; exact hR, off3.rf⟩
  have hnv : ¬ S.1 10 = x := fun z => c19 (hcv.trans z)
  refine m_aload_n dX8_gain_25 rfl ?_
  refine m_invV dX8_gain_26 lk_X8_153 ar_X8_notes (ci := 8) rfl rfl (by first | assumption | rfl) (t_notes hR h2) rfl (Nat.le_of_ble_eq_true rfl) (by decide) (by decide) (by decide) (by decide) (fun v hp' q => ?_)
  obtain ⟨rfl, gR, g2, gO⟩ := q
  obtain ⟨ri2, ev2, le2, ch2, ls2, rm2, sm2, ra2, fa2, C2, PA2, g1, -⟩ := id gR
  show mW K _ 0 0 n hp' 29 [.ref 67, .int x, .int (C 10)] []
  refine m_aload_n dX8_gain_29 rfl ?_
  refine m_getfield dX8_gain_30 fl_X8_7 (by first | assumption | rfl) (by first | assumption | rfl) ?_
  show mW _ _ _ _ _ _ _ _ (.ref _ :: _)
  refine m_bipush (v := 10) dX8_gain_33 (by decide) ?_
  refine m_iload_n dX8_gain_35 rfl ?_
  refine m_iastore (k := 10) dX8_gain_36 (by first | assumption | rfl) ⟨by decide, by decide⟩ ?_
  try rw [va_uu]
  refine m_iload_n dX8_gain_37 rfl ?_
  refine m_sipush (v := 800) dX8_gain_38 (by decide) ?_
  refine m_iadd dX8_gain_41 ?_
  exact m_ireturn hF dX8_gain_42 rfl rfl rfl ⟨by unfold sGain; rw [if_pos hok, if_neg hnv, ← hcv], by unfold sGain; rw [if_pos hok, if_neg hnv]; exact gR.st g2, fun q hq => by rw [va_up_ne _ _ (by omega)]; exact gO q hq⟩

set_option maxHeartbeats 400000 in
set_option maxRecDepth 100000 in
theorem t_X8_told {n : Nat} {hp : mHp} {S : TS} {ia tm : Int32} (h : mRep hp S ia tm) {a k : Int32} : mC D_X8_told [.ref 67, .int a, .int k] n hp (rI (sTold S a k) hp) := by
  refine m_enter rfl rfl (Nat.le_of_ble_eq_true rfl) (fun K hF => ?_)
  show mW K _ 0 0 _ _ 0 [.ref 67, .int a, .int k] []
  have hR := h
  obtain ⟨ri, ev, le, ch, ls, rm, sm, ra, fa, C, PA, h1, h2, h3, h4, h5, h6⟩ := h
  refine m_iload_n dX8_told_0 rfl ?_
  refine m_iload_n dX8_told_1 rfl ?_
  refine m_invS_I dX8_told_2 lk_X8_145 ar_X8_isPart (t_X8_isPart) rfl (Nat.le_of_ble_eq_true rfl) (by decide) (by decide) (by decide) (by decide) rfl rfl ?_
  try rw [va_uu]
  refine m_if_eq (t := 24) dX8_told_5 (by decide) (fun c5 => ?_) (fun c5 => ?_)
  · refine m_iconst (v := -1) dX8_told_24 (by decide) ?_
    exact m_ireturn hF dX8_told_25 rfl rfl rfl ⟨by unfold sTold; rw [if_neg (ptM_iff.mp c5)], rfl⟩
  have hok := Classical.not_not.mp (fun z => c5 (ptM_iff.mpr z))
  obtain ⟨w, hw, rfl, ew⟩ := inC_N hok.1
  obtain ⟨j, hj, rfl, ej⟩ := inC_N hok.2
  have hix : tIx (nI w) (nI j) = 5 * w + j := by unfold tIx; rw [ew, ej]
  have h10 : 5 * w + j < 12 := by omega
  have hcv : C (5 * w + j) = S.1 (5 * w + j) := h5 _ h10
  refine m_aload_n dX8_told_8 rfl ?_
  refine m_getfield dX8_told_9 fl_X8_7 (by first | assumption | rfl) (by first | assumption | rfl) ?_
  show mW _ _ _ _ _ _ _ _ (.ref _ :: _)
  refine m_iconst (v := 5) dX8_told_12 (by decide) ?_
  refine m_iload_n dX8_told_13 rfl ?_
  refine m_imul dX8_told_14 ?_
  refine m_ci (v := nI (5 * w)) (nI_mulN 5 w) ?_
  refine m_iload_n dX8_told_15 rfl ?_
  refine m_iadd dX8_told_16 ?_
  refine m_ci (v := nI (5 * w + j)) (nI_add _ _) ?_
  refine m_iaload dX8_told_17 (by first | assumption | rfl) (mIx_lit h10 (by decide)) ?_
  refine m_bipush (v := 9) dX8_told_18 (by decide) ?_
  refine m_iadd dX8_told_20 ?_
  refine m_goto (t := 25) dX8_told_21 (by decide) ?_
  exact m_ireturn hF dX8_told_25 rfl rfl rfl ⟨by unfold sTold; rw [if_pos hok, hix, ← hcv], rfl⟩

set_option maxHeartbeats 400000 in
set_option maxRecDepth 100000 in
theorem t_X8_seed {n : Nat} {hp : mHp} {S : TS} {ia tm : Int32} (h : mRep hp S ia tm) {x : Int32} : mC D_X8_seed [.ref 67, .int x] n hp (fun r hp' => r = some (.int (sSeed S x).1) ∧ mRep hp' (sSeed S x).2 ia tm ∧ off3 hp hp') := by
  refine m_enter rfl rfl (Nat.le_of_ble_eq_true rfl) (fun K hF => ?_)
  show mW K _ 0 0 _ _ 0 [.ref 67, .int x, .retAddr 0] []
  have hR := h
  obtain ⟨ri, ev, le, ch, ls, rm, sm, ra, fa, C, PA, h1, h2, h3, h4, h5, h6⟩ := h
  have hcv : C 11 = S.1 11 := h5 _ (by decide)
  refine m_iload_n dX8_seed_0 rfl ?_
  refine m_if_ge (t := 6) dX8_seed_1 (by decide) (fun c1 => ?_) (fun c1 => ?_)
  rotate_left
  · refine m_iconst (v := -1) dX8_seed_4 (by decide) ?_
    exact m_ireturn hF dX8_seed_5 rfl rfl rfl ⟨by unfold sSeed; rw [if_neg c1], by unfold sSeed; rw [if_neg c1]; exact hR, off3.rf⟩
  refine m_aload_n dX8_seed_6 rfl ?_
  refine m_getfield dX8_seed_7 fl_X8_7 (by first | assumption | rfl) (by first | assumption | rfl) ?_
  show mW _ _ _ _ _ _ _ _ (.ref _ :: _)
  refine m_bipush (v := 11) dX8_seed_10 (by decide) ?_
  refine m_iaload (k := 11) dX8_seed_12 (by first | assumption | rfl) ⟨by decide, by decide⟩ ?_
  refine m_istore_n dX8_seed_13 (by decide) ?_
  show mW _ _ _ _ _ _ 14 [_, _, _] _
  refine m_aload_n dX8_seed_14 rfl ?_
  refine m_getfield dX8_seed_15 fl_X8_7 (by first | assumption | rfl) (by first | assumption | rfl) ?_
  show mW _ _ _ _ _ _ _ _ (.ref _ :: _)
  refine m_bipush (v := 11) dX8_seed_18 (by decide) ?_
  refine m_iload_n dX8_seed_20 rfl ?_
  refine m_iastore (k := 11) dX8_seed_21 (by first | assumption | rfl) ⟨by decide, by decide⟩ ?_
  try rw [va_uu]
  refine m_iload_n dX8_seed_22 rfl ?_
  exact m_ireturn hF dX8_seed_23 rfl rfl rfl ⟨by unfold sSeed; rw [if_pos c1, ← hcv], by unfold sSeed; rw [if_pos c1]; exact hR.st h2, fun q hq => va_up_ne _ _ (by omega)⟩

set_option maxHeartbeats 400000 in
set_option maxRecDepth 100000 in
theorem t_X8_undo {n : Nat} {hp : mHp} {S : TS} {ia tm : Int32} (h : mRep hp S ia tm) : mC D_X8_undo [.ref 67] n hp (fun r hp' => r = some (.int (sUndo S).1) ∧ mRep hp' (sUndo S).2 ia tm ∧ off3 hp hp') := by
  refine m_enter rfl rfl (Nat.le_of_ble_eq_true rfl) (fun K hF => ?_)
  show mW K _ 0 0 _ _ 0 [.ref 67] []
  have hR := h
  obtain ⟨ri, ev, le, ch, ls, rm, sm, ra, fa, C, PA, h1, h2, h3, h4, h5, h6⟩ := h
  refine m_aload_n dX8_undo_0 rfl ?_
  refine m_getfield dX8_undo_1 fl_X8_66 (by first | assumption | rfl | exact va_up_self _ _ _ | exact (va_up_ne _ _ (by decide)).trans (va_up_self _ _ _) | exact (va_up_ne _ _ (by decide)).trans h2 | exact (va_up_ne _ _ (by decide)).trans h3 | exact (va_up_ne _ _ (by decide)).trans h1) (by first | assumption | rfl | exact va_up_self _ _ _ | exact (va_up_ne _ _ (by decide)).trans (va_up_self _ _ _) | exact (va_up_ne _ _ (by decide)).trans h2 | exact (va_up_ne _ _ (by decide)).trans h3 | exact (va_up_ne _ _ (by decide)).trans h1) ?_
  show mW _ _ _ _ _ _ _ _ (.int _ :: _)
  refine m_if_ne (t := 10) dX8_undo_4 (by decide) (fun c4 => ?_) (fun c4 => ?_)
  rotate_left
  · have hz : S.2.1 = 0 := (nI_eq (b := 0) (by omega) (by decide)).mp c4
    refine m_bipush (v := -4) dX8_undo_7 (by decide) ?_
    exact m_ireturn hF dX8_undo_9 rfl rfl rfl ⟨by unfold sUndo; rw [if_pos hz], by unfold sUndo; rw [if_pos hz]; exact hR, off3.rf⟩
  have hz : ¬ S.2.1 = 0 := fun z => c4 (by rw [z]; rfl)
  refine m_aload_n dX8_undo_10 rfl ?_
  refine m_dup dX8_undo_11 rfl ?_
  refine m_getfield dX8_undo_12 fl_X8_66 (by first | assumption | rfl | exact va_up_self _ _ _ | exact (va_up_ne _ _ (by decide)).trans (va_up_self _ _ _) | exact (va_up_ne _ _ (by decide)).trans h2 | exact (va_up_ne _ _ (by decide)).trans h3 | exact (va_up_ne _ _ (by decide)).trans h1) (by first | assumption | rfl | exact va_up_self _ _ _ | exact (va_up_ne _ _ (by decide)).trans (va_up_self _ _ _) | exact (va_up_ne _ _ (by decide)).trans h2 | exact (va_up_ne _ _ (by decide)).trans h3 | exact (va_up_ne _ _ (by decide)).trans h1) ?_
  show mW _ _ _ _ _ _ _ _ (.int _ :: _)
  refine m_iconst (v := 1) dX8_undo_15 (by decide) ?_
  refine m_isub dX8_undo_16 ?_
  refine m_ci (v := nI (S.2.1 - 1)) (nI_subN (b := 1) (by omega)) ?_
  refine m_putfield dX8_undo_17 fl_X8_66 (by first | assumption | rfl | exact va_up_self _ _ _ | exact (va_up_ne _ _ (by decide)).trans (va_up_self _ _ _) | exact (va_up_ne _ _ (by decide)).trans h2 | exact (va_up_ne _ _ (by decide)).trans h3 | exact (va_up_ne _ _ (by decide)).trans h1) (fun _ => rfl) (fun _ => rfl) ?_
  try rw [va_uu]
  rw [oMod_2]
  refine m_aload_n dX8_undo_20 rfl ?_
  refine m_getfield dX8_undo_21 fl_X8_13 (by first | assumption | rfl | exact va_up_self _ _ _ | exact (va_up_ne _ _ (by decide)).trans (va_up_self _ _ _) | exact (va_up_ne _ _ (by decide)).trans h2 | exact (va_up_ne _ _ (by decide)).trans h3 | exact (va_up_ne _ _ (by decide)).trans h1) (by first | assumption | rfl | exact va_up_self _ _ _ | exact (va_up_ne _ _ (by decide)).trans (va_up_self _ _ _) | exact (va_up_ne _ _ (by decide)).trans h2 | exact (va_up_ne _ _ (by decide)).trans h3 | exact (va_up_ne _ _ (by decide)).trans h1) ?_
  show mW _ _ _ _ _ _ _ _ (.ref _ :: _)
  refine m_bipush (v := 12) dX8_undo_24 (by decide) ?_
  refine m_aload_n dX8_undo_26 rfl ?_
  refine m_getfield dX8_undo_27 fl_X8_66 (by first | assumption | rfl | exact va_up_self _ _ _ | exact (va_up_ne _ _ (by decide)).trans (va_up_self _ _ _) | exact (va_up_ne _ _ (by decide)).trans h2 | exact (va_up_ne _ _ (by decide)).trans h3 | exact (va_up_ne _ _ (by decide)).trans h1) (by first | assumption | rfl | exact va_up_self _ _ _ | exact (va_up_ne _ _ (by decide)).trans (va_up_self _ _ _) | exact (va_up_ne _ _ (by decide)).trans h2 | exact (va_up_ne _ _ (by decide)).trans h3 | exact (va_up_ne _ _ (by decide)).trans h1) ?_
  show mW _ _ _ _ _ _ _ _ (.int _ :: _)
  refine m_imul dX8_undo_30 ?_
  refine m_ci (v := nI (12 * (S.2.1 - 1))) (nI_mulN 12 _) ?_
  refine m_aload_n dX8_undo_31 rfl ?_
  refine m_getfield dX8_undo_32 fl_X8_7 (by first | assumption | rfl | exact va_up_self _ _ _ | exact (va_up_ne _ _ (by decide)).trans (va_up_self _ _ _) | exact (va_up_ne _ _ (by decide)).trans h2 | exact (va_up_ne _ _ (by decide)).trans h3 | exact (va_up_ne _ _ (by decide)).trans h1) (by first | assumption | rfl | exact va_up_self _ _ _ | exact (va_up_ne _ _ (by decide)).trans (va_up_self _ _ _) | exact (va_up_ne _ _ (by decide)).trans h2 | exact (va_up_ne _ _ (by decide)).trans h3 | exact (va_up_ne _ _ (by decide)).trans h1) ?_
  show mW _ _ _ _ _ _ _ _ (.ref _ :: _)
  refine m_iconst (v := 0) dX8_undo_35 (by decide) ?_
  refine m_bipush (v := 12) dX8_undo_36 (by decide) ?_
  refine m_invS_V dX8_undo_38 lk_X8_69 ar_X8_bring (t_X8_bring (a := 69) (b := 68) (la := 72) (lb := 12) (f := PA) (g := C) (i := 12 * (S.2.1 - 1)) (j := 0) (m := 12) ((va_up_ne _ _ (by decide)).trans h3) ((va_up_ne _ _ (by decide)).trans h2) (Or.inl (by decide)) (by omega) (by decide) (by decide) (by decide)) rfl (Nat.le_of_ble_eq_true rfl) (by decide) (by decide) (by decide) (by decide) rfl rfl ?_
  try rw [va_uu]
  refine m_aload_n dX8_undo_41 rfl ?_
  refine m_getfield dX8_undo_42 fl_X8_66 (by first | assumption | rfl | exact va_up_self _ _ _ | exact (va_up_ne _ _ (by decide)).trans (va_up_self _ _ _) | exact (va_up_ne _ _ (by decide)).trans h2 | exact (va_up_ne _ _ (by decide)).trans h3 | exact (va_up_ne _ _ (by decide)).trans h1) (by first | assumption | rfl | exact va_up_self _ _ _ | exact (va_up_ne _ _ (by decide)).trans (va_up_self _ _ _) | exact (va_up_ne _ _ (by decide)).trans h2 | exact (va_up_ne _ _ (by decide)).trans h3 | exact (va_up_ne _ _ (by decide)).trans h1) ?_
  show mW _ _ _ _ _ _ _ _ (.int _ :: _)
  exact m_ireturn hF dX8_undo_45 rfl rfl rfl ⟨by unfold sUndo; rw [if_neg hz], by unfold sUndo; rw [if_neg hz]; exact ⟨ri, ev, le, ch, ls, rm, sm, ra, fa, _, PA, (va_up_ne _ _ (by decide)).trans (va_up_self _ _ _), va_up_self _ _ _, (va_up_ne _ _ (by decide)).trans ((va_up_ne _ _ (by decide)).trans h3), by show S.2.1 - 1 ≤ 6; omega, fun t ht => by unfold va_cpy; rw [if_pos (by omega)]; show PA (12 * (S.2.1 - 1) + (t - 0)) = S.2.2 0 t; rw [← h6 0 (by omega) t ht]; rfl, fun j hj t ht => by have hj : j < S.2.1 - 1 := hj; show PA (12 * (S.2.1 - 1 - 1 - j) + t) = S.2.2 (j + 1) t; rw [← h6 (j + 1) (by omega) t ht, show S.2.1 - 1 - 1 - j = S.2.1 - 1 - (j + 1) by omega]⟩, fun q hq => by rw [va_up_ne _ _ (by omega), va_up_ne _ _ (by omega)]⟩

def mImg (hp : mHp) (ia : Int32) (T : TS) : Prop := ∃ CI PI : Nat → Int32, hp 70 = eI 12 CI ∧ hp 71 = eI 72 PI ∧ (ia < 0 ∨ (ia = nI T.2.1 ∧ T.2.1 ≤ 6 ∧ eq12 CI T.1 ∧ mHist PI T.2.1 T.2.2))
theorem mImg.of {hp hp' : mHp} {ia : Int32} {T : TS} (h : mImg hp ia T) (e : ∀ q, 70 ≤ q → q ≤ 71 → hp' q = hp q) : mImg hp' ia T := by
  obtain ⟨CI, PI, h1, h2, h3⟩ := h
  exact ⟨CI, PI, (e 70 (by decide) (by decide)).trans h1, (e 71 (by decide) (by decide)).trans h2, h3⟩
theorem cpy_eq12 {C D c : Nat → Int32} (h : eq12 C c) : eq12 (va_cpy C D 0 0 12) c := fun t ht => by
  unfold va_cpy
  rw [if_pos (by omega), show 0 + (t - 0) = t by omega]
  exact h t ht
theorem cpy_mH {A B : Nat → Int32} {k : Nat} {H : Nat → Nat → Int32} (h : mHist A k H) (hk : k ≤ 6) : mHist (va_cpy A B 0 0 72) k H := fun j hj t ht => by
  unfold va_cpy
  rw [if_pos (by omega), show 0 + (12 * (k - 1 - j) + t - 0) = 12 * (k - 1 - j) + t by omega]
  exact h j hj t ht
set_option maxHeartbeats 400000 in
set_option maxRecDepth 100000 in
theorem t_X8_image {n : Nat} {hp : mHp} {S : TS} {ia tm : Int32} (h : mRep hp S ia tm) {T : TS} (hI : mImg hp ia T) : mC D_X8_image [.ref 67] n hp (fun r hp' => r = some (.int 1) ∧ mRep hp' S (nI S.2.1) tm ∧ mImg hp' (nI S.2.1) S ∧ ∀ q, (q < 67 ∨ 71 < q) → hp' q = hp q) := by
  refine m_enter rfl rfl (Nat.le_of_ble_eq_true rfl) (fun K hF => ?_)
  show mW K _ 0 0 _ _ 0 [.ref 67] []
  have hR := h
  obtain ⟨ri, ev, le, ch, ls, rm, sm, ra, fa, C, PA, h1, h2, h3, h4, h5, h6⟩ := h
  obtain ⟨CI, PI, m1, m2, m3⟩ := hI
  refine m_aload_n dX8_image_0 rfl ?_
  refine m_getfield dX8_image_1 fl_X8_7 (by first | assumption | rfl | exact va_up_self _ _ _ | exact (va_up_ne _ _ (by decide)).trans h1 | exact (va_up_ne _ _ (by decide)).trans ((va_up_ne _ _ (by decide)).trans h1) | exact (va_up_ne _ _ (by decide)).trans h3 | exact (va_up_ne _ _ (by decide)).trans m1 | exact (va_up_ne _ _ (by decide)).trans m2) (by first | assumption | rfl | exact va_up_self _ _ _ | exact (va_up_ne _ _ (by decide)).trans h1 | exact (va_up_ne _ _ (by decide)).trans ((va_up_ne _ _ (by decide)).trans h1) | exact (va_up_ne _ _ (by decide)).trans h3 | exact (va_up_ne _ _ (by decide)).trans m1 | exact (va_up_ne _ _ (by decide)).trans m2) ?_
  show mW _ _ _ _ _ _ _ _ (.ref _ :: _)
  refine m_iconst (v := 0) dX8_image_4 (by decide) ?_
  refine m_aload_n dX8_image_5 rfl ?_
  refine m_getfield dX8_image_6 fl_X8_16 (by first | assumption | rfl | exact va_up_self _ _ _ | exact (va_up_ne _ _ (by decide)).trans h1 | exact (va_up_ne _ _ (by decide)).trans ((va_up_ne _ _ (by decide)).trans h1) | exact (va_up_ne _ _ (by decide)).trans h3 | exact (va_up_ne _ _ (by decide)).trans m1 | exact (va_up_ne _ _ (by decide)).trans m2) (by first | assumption | rfl | exact va_up_self _ _ _ | exact (va_up_ne _ _ (by decide)).trans h1 | exact (va_up_ne _ _ (by decide)).trans ((va_up_ne _ _ (by decide)).trans h1) | exact (va_up_ne _ _ (by decide)).trans h3 | exact (va_up_ne _ _ (by decide)).trans m1 | exact (va_up_ne _ _ (by decide)).trans m2) ?_
  show mW _ _ _ _ _ _ _ _ (.ref _ :: _)
  refine m_iconst (v := 0) dX8_image_9 (by decide) ?_
  refine m_bipush (v := 12) dX8_image_10 (by decide) ?_
  refine m_invS_V dX8_image_12 lk_X8_69 ar_X8_bring (t_X8_bring (a := 68) (b := 70) (i := 0) (j := 0) (m := 12) h2 m1 (Or.inl (by decide)) (by decide) (by decide) (by decide) (by decide)) rfl (Nat.le_of_ble_eq_true rfl) (by decide) (by decide) (by decide) (by decide) rfl rfl ?_
  try rw [va_uu]
  refine m_aload_n dX8_image_15 rfl ?_
  refine m_getfield dX8_image_16 fl_X8_13 (by first | assumption | rfl | exact va_up_self _ _ _ | exact (va_up_ne _ _ (by decide)).trans h1 | exact (va_up_ne _ _ (by decide)).trans ((va_up_ne _ _ (by decide)).trans h1) | exact (va_up_ne _ _ (by decide)).trans h3 | exact (va_up_ne _ _ (by decide)).trans m1 | exact (va_up_ne _ _ (by decide)).trans m2) (by first | assumption | rfl | exact va_up_self _ _ _ | exact (va_up_ne _ _ (by decide)).trans h1 | exact (va_up_ne _ _ (by decide)).trans ((va_up_ne _ _ (by decide)).trans h1) | exact (va_up_ne _ _ (by decide)).trans h3 | exact (va_up_ne _ _ (by decide)).trans m1 | exact (va_up_ne _ _ (by decide)).trans m2) ?_
  show mW _ _ _ _ _ _ _ _ (.ref _ :: _)
  refine m_iconst (v := 0) dX8_image_19 (by decide) ?_
  refine m_aload_n dX8_image_20 rfl ?_
  refine m_getfield dX8_image_21 fl_X8_19 (by first | assumption | rfl | exact va_up_self _ _ _ | exact (va_up_ne _ _ (by decide)).trans h1 | exact (va_up_ne _ _ (by decide)).trans ((va_up_ne _ _ (by decide)).trans h1) | exact (va_up_ne _ _ (by decide)).trans h3 | exact (va_up_ne _ _ (by decide)).trans m1 | exact (va_up_ne _ _ (by decide)).trans m2) (by first | assumption | rfl | exact va_up_self _ _ _ | exact (va_up_ne _ _ (by decide)).trans h1 | exact (va_up_ne _ _ (by decide)).trans ((va_up_ne _ _ (by decide)).trans h1) | exact (va_up_ne _ _ (by decide)).trans h3 | exact (va_up_ne _ _ (by decide)).trans m1 | exact (va_up_ne _ _ (by decide)).trans m2) ?_
  show mW _ _ _ _ _ _ _ _ (.ref _ :: _)
  refine m_iconst (v := 0) dX8_image_24 (by decide) ?_
  refine m_bipush (v := 72) dX8_image_25 (by decide) ?_
  refine m_invS_V dX8_image_27 lk_X8_69 ar_X8_bring (t_X8_bring (a := 69) (b := 71) (la := 72) (lb := 72) (f := PA) (g := PI) (i := 0) (j := 0) (m := 72) ((va_up_ne _ _ (by decide)).trans h3) ((va_up_ne _ _ (by decide)).trans m2) (Or.inl (by decide)) (by decide) (by decide) (by decide) (by decide)) rfl (Nat.le_of_ble_eq_true rfl) (by decide) (by decide) (by decide) (by decide) rfl rfl ?_
  try rw [va_uu]
  refine m_aload_n dX8_image_30 rfl ?_
  refine m_aload_n dX8_image_31 rfl ?_
  refine m_getfield dX8_image_32 fl_X8_66 (by first | assumption | rfl | exact va_up_self _ _ _ | exact (va_up_ne _ _ (by decide)).trans h1 | exact (va_up_ne _ _ (by decide)).trans ((va_up_ne _ _ (by decide)).trans h1) | exact (va_up_ne _ _ (by decide)).trans h3 | exact (va_up_ne _ _ (by decide)).trans m1 | exact (va_up_ne _ _ (by decide)).trans m2) (by first | assumption | rfl | exact va_up_self _ _ _ | exact (va_up_ne _ _ (by decide)).trans h1 | exact (va_up_ne _ _ (by decide)).trans ((va_up_ne _ _ (by decide)).trans h1) | exact (va_up_ne _ _ (by decide)).trans h3 | exact (va_up_ne _ _ (by decide)).trans m1 | exact (va_up_ne _ _ (by decide)).trans m2) ?_
  show mW _ _ _ _ _ _ _ _ (.int _ :: _)
  refine m_putfield dX8_image_35 fl_X8_22 (by first | assumption | rfl | exact va_up_self _ _ _ | exact (va_up_ne _ _ (by decide)).trans h1 | exact (va_up_ne _ _ (by decide)).trans ((va_up_ne _ _ (by decide)).trans h1) | exact (va_up_ne _ _ (by decide)).trans h3 | exact (va_up_ne _ _ (by decide)).trans m1 | exact (va_up_ne _ _ (by decide)).trans m2) (fun _ => rfl) (fun _ => rfl) ?_
  try rw [va_uu]
  rw [oMod_5]
  refine m_iconst (v := 1) dX8_image_38 (by decide) ?_
  exact m_ireturn hF dX8_image_39 rfl rfl rfl ⟨rfl, ⟨ri, ev, le, ch, ls, rm, sm, ra, fa, C, PA, va_up_self _ _ _, (va_up_ne _ _ (by decide)).trans ((va_up_ne _ _ (by decide)).trans ((va_up_ne _ _ (by decide)).trans h2)), (va_up_ne _ _ (by decide)).trans ((va_up_ne _ _ (by decide)).trans ((va_up_ne _ _ (by decide)).trans h3)), h4, h5, h6⟩, ⟨_, _, (va_up_ne _ _ (by decide)).trans ((va_up_ne _ _ (by decide)).trans (va_up_self _ _ _)), (va_up_ne _ _ (by decide)).trans (va_up_self _ _ _), Or.inr ⟨rfl, h4, cpy_eq12 h5, cpy_mH h6 h4⟩⟩, fun q hq => by rw [va_up_ne _ _ (by omega), va_up_ne _ _ (by omega), va_up_ne _ _ (by omega)]⟩

set_option maxHeartbeats 400000 in
set_option maxRecDepth 100000 in
theorem t_X8_restore {n : Nat} {hp : mHp} {S : TS} {ia tm : Int32} (h : mRep hp S ia tm) {T : TS} (hI : mImg hp ia T) : mC D_X8_restore [.ref 67] n hp (fun r hp' => r = some (.int (if 0 ≤ ia then 1 else -4)) ∧ mRep hp' (if 0 ≤ ia then T else S) ia tm ∧ off3 hp hp') := by
  refine m_enter rfl rfl (Nat.le_of_ble_eq_true rfl) (fun K hF => ?_)
  show mW K _ 0 0 _ _ 0 [.ref 67] []
  have hR := h
  obtain ⟨ri, ev, le, ch, ls, rm, sm, ra, fa, C, PA, h1, h2, h3, h4, h5, h6⟩ := h
  obtain ⟨CI, PI, m1, m2, m3⟩ := hI
  refine m_aload_n dX8_restore_0 rfl ?_
  refine m_getfield dX8_restore_1 fl_X8_22 (by first | assumption | rfl | exact va_up_self _ _ _ | exact (va_up_ne _ _ (by decide)).trans h1 | exact (va_up_ne _ _ (by decide)).trans ((va_up_ne _ _ (by decide)).trans h1) | exact (va_up_ne _ _ (by decide)).trans h3 | exact (va_up_ne _ _ (by decide)).trans m1 | exact (va_up_ne _ _ (by decide)).trans m2) (by first | assumption | rfl | exact va_up_self _ _ _ | exact (va_up_ne _ _ (by decide)).trans h1 | exact (va_up_ne _ _ (by decide)).trans ((va_up_ne _ _ (by decide)).trans h1) | exact (va_up_ne _ _ (by decide)).trans h3 | exact (va_up_ne _ _ (by decide)).trans m1 | exact (va_up_ne _ _ (by decide)).trans m2) ?_
  show mW _ _ _ _ _ _ _ _ (.int _ :: _)
  refine m_if_ge (t := 10) dX8_restore_4 (by decide) (fun c4 => ?_) (fun c4 => ?_)
  rotate_left
  · refine m_bipush (v := -4) dX8_restore_7 (by decide) ?_
    exact m_ireturn hF dX8_restore_9 rfl rfl rfl ⟨by rw [if_neg c4], by rw [if_neg c4]; exact hR, off3.rf⟩
  obtain ⟨n1, n2, n3, n4⟩ := m3.resolve_left (Int32.not_lt.mpr c4)
  refine m_aload_n dX8_restore_10 rfl ?_
  refine m_getfield dX8_restore_11 fl_X8_16 (by first | assumption | rfl | exact va_up_self _ _ _ | exact (va_up_ne _ _ (by decide)).trans h1 | exact (va_up_ne _ _ (by decide)).trans ((va_up_ne _ _ (by decide)).trans h1) | exact (va_up_ne _ _ (by decide)).trans h3 | exact (va_up_ne _ _ (by decide)).trans m1 | exact (va_up_ne _ _ (by decide)).trans m2) (by first | assumption | rfl | exact va_up_self _ _ _ | exact (va_up_ne _ _ (by decide)).trans h1 | exact (va_up_ne _ _ (by decide)).trans ((va_up_ne _ _ (by decide)).trans h1) | exact (va_up_ne _ _ (by decide)).trans h3 | exact (va_up_ne _ _ (by decide)).trans m1 | exact (va_up_ne _ _ (by decide)).trans m2) ?_
  show mW _ _ _ _ _ _ _ _ (.ref _ :: _)
  refine m_iconst (v := 0) dX8_restore_14 (by decide) ?_
  refine m_aload_n dX8_restore_15 rfl ?_
  refine m_getfield dX8_restore_16 fl_X8_7 (by first | assumption | rfl | exact va_up_self _ _ _ | exact (va_up_ne _ _ (by decide)).trans h1 | exact (va_up_ne _ _ (by decide)).trans ((va_up_ne _ _ (by decide)).trans h1) | exact (va_up_ne _ _ (by decide)).trans h3 | exact (va_up_ne _ _ (by decide)).trans m1 | exact (va_up_ne _ _ (by decide)).trans m2) (by first | assumption | rfl | exact va_up_self _ _ _ | exact (va_up_ne _ _ (by decide)).trans h1 | exact (va_up_ne _ _ (by decide)).trans ((va_up_ne _ _ (by decide)).trans h1) | exact (va_up_ne _ _ (by decide)).trans h3 | exact (va_up_ne _ _ (by decide)).trans m1 | exact (va_up_ne _ _ (by decide)).trans m2) ?_
  show mW _ _ _ _ _ _ _ _ (.ref _ :: _)
  refine m_iconst (v := 0) dX8_restore_19 (by decide) ?_
  refine m_bipush (v := 12) dX8_restore_20 (by decide) ?_
  refine m_invS_V dX8_restore_22 lk_X8_69 ar_X8_bring (t_X8_bring (a := 70) (b := 68) (i := 0) (j := 0) (m := 12) m1 h2 (Or.inl (by decide)) (by decide) (by decide) (by decide) (by decide)) rfl (Nat.le_of_ble_eq_true rfl) (by decide) (by decide) (by decide) (by decide) rfl rfl ?_
  try rw [va_uu]
  refine m_aload_n dX8_restore_25 rfl ?_
  refine m_getfield dX8_restore_26 fl_X8_19 (by first | assumption | rfl | exact va_up_self _ _ _ | exact (va_up_ne _ _ (by decide)).trans h1 | exact (va_up_ne _ _ (by decide)).trans ((va_up_ne _ _ (by decide)).trans h1) | exact (va_up_ne _ _ (by decide)).trans h3 | exact (va_up_ne _ _ (by decide)).trans m1 | exact (va_up_ne _ _ (by decide)).trans m2) (by first | assumption | rfl | exact va_up_self _ _ _ | exact (va_up_ne _ _ (by decide)).trans h1 | exact (va_up_ne _ _ (by decide)).trans ((va_up_ne _ _ (by decide)).trans h1) | exact (va_up_ne _ _ (by decide)).trans h3 | exact (va_up_ne _ _ (by decide)).trans m1 | exact (va_up_ne _ _ (by decide)).trans m2) ?_
  show mW _ _ _ _ _ _ _ _ (.ref _ :: _)
  refine m_iconst (v := 0) dX8_restore_29 (by decide) ?_
  refine m_aload_n dX8_restore_30 rfl ?_
  refine m_getfield dX8_restore_31 fl_X8_13 (by first | assumption | rfl | exact va_up_self _ _ _ | exact (va_up_ne _ _ (by decide)).trans h1 | exact (va_up_ne _ _ (by decide)).trans ((va_up_ne _ _ (by decide)).trans h1) | exact (va_up_ne _ _ (by decide)).trans h3 | exact (va_up_ne _ _ (by decide)).trans m1 | exact (va_up_ne _ _ (by decide)).trans m2) (by first | assumption | rfl | exact va_up_self _ _ _ | exact (va_up_ne _ _ (by decide)).trans h1 | exact (va_up_ne _ _ (by decide)).trans ((va_up_ne _ _ (by decide)).trans h1) | exact (va_up_ne _ _ (by decide)).trans h3 | exact (va_up_ne _ _ (by decide)).trans m1 | exact (va_up_ne _ _ (by decide)).trans m2) ?_
  show mW _ _ _ _ _ _ _ _ (.ref _ :: _)
  refine m_iconst (v := 0) dX8_restore_34 (by decide) ?_
  refine m_bipush (v := 72) dX8_restore_35 (by decide) ?_
  refine m_invS_V dX8_restore_37 lk_X8_69 ar_X8_bring (t_X8_bring (a := 71) (b := 69) (la := 72) (lb := 72) (f := PI) (g := PA) (i := 0) (j := 0) (m := 72) ((va_up_ne _ _ (by decide)).trans m2) ((va_up_ne _ _ (by decide)).trans h3) (Or.inl (by decide)) (by decide) (by decide) (by decide) (by decide)) rfl (Nat.le_of_ble_eq_true rfl) (by decide) (by decide) (by decide) (by decide) rfl rfl ?_
  try rw [va_uu]
  refine m_aload_n dX8_restore_40 rfl ?_
  refine m_aload_n dX8_restore_41 rfl ?_
  refine m_getfield dX8_restore_42 fl_X8_22 (by first | assumption | rfl | exact va_up_self _ _ _ | exact (va_up_ne _ _ (by decide)).trans h1 | exact (va_up_ne _ _ (by decide)).trans ((va_up_ne _ _ (by decide)).trans h1) | exact (va_up_ne _ _ (by decide)).trans h3 | exact (va_up_ne _ _ (by decide)).trans m1 | exact (va_up_ne _ _ (by decide)).trans m2) (by first | assumption | rfl | exact va_up_self _ _ _ | exact (va_up_ne _ _ (by decide)).trans h1 | exact (va_up_ne _ _ (by decide)).trans ((va_up_ne _ _ (by decide)).trans h1) | exact (va_up_ne _ _ (by decide)).trans h3 | exact (va_up_ne _ _ (by decide)).trans m1 | exact (va_up_ne _ _ (by decide)).trans m2) ?_
  show mW _ _ _ _ _ _ _ _ (.int _ :: _)
  refine m_putfield dX8_restore_45 fl_X8_66 (by first | assumption | rfl | exact va_up_self _ _ _ | exact (va_up_ne _ _ (by decide)).trans h1 | exact (va_up_ne _ _ (by decide)).trans ((va_up_ne _ _ (by decide)).trans h1) | exact (va_up_ne _ _ (by decide)).trans h3 | exact (va_up_ne _ _ (by decide)).trans m1 | exact (va_up_ne _ _ (by decide)).trans m2) (fun _ => rfl) (fun _ => rfl) ?_
  try rw [va_uu]
  rw [oMod_2]
  refine m_iconst (v := 1) dX8_restore_48 (by decide) ?_
  exact m_ireturn hF dX8_restore_49 rfl rfl rfl ⟨by rw [if_pos c4], by rw [if_pos c4]; exact ⟨ri, ev, le, ch, ls, rm, sm, ra, fa, _, _, by rw [← n1]; exact va_up_self _ _ _, (va_up_ne _ _ (by decide)).trans ((va_up_ne _ _ (by decide)).trans (va_up_self _ _ _)), (va_up_ne _ _ (by decide)).trans (va_up_self _ _ _), n2, cpy_eq12 n3, cpy_mH n4 n2⟩, fun q hq => by rw [va_up_ne _ _ (by omega), va_up_ne _ _ (by omega), va_up_ne _ _ (by omega)]⟩

set_option maxHeartbeats 400000 in
set_option maxRecDepth 100000 in
theorem t_X8_degree {n : Nat} {hp : mHp} {h at_ len : Nat} {f : Nat → Int64} (h1 : hp h = eL len f) (h2 : at_ + 5 ≤ len) (h3 : len ≤ 1000) : mC D_X8_degree [.ref h, .int (nI at_)] n hp (rI (orN (deg5 (fun t => f (at_ + t)))) hp) := by
  refine m_enter rfl rfl (Nat.le_of_ble_eq_true rfl) (fun K hF => ?_)
  show mW K _ 0 0 _ _ 0 [.ref h, .int (nI at_), .retAddr 0] []
  refine m_iconst (v := 4) dX8_degree_0 (by decide) ?_
  refine m_istore_n dX8_degree_1 (by decide) ?_
  show mW _ _ _ _ _ _ 2 [_, _, _] _
  refine m_iload_n dX8_degree_2 rfl ?_
  refine m_if_lt (t := 22) dX8_degree_3 (by decide) (fun q => absurd q (by decide)) (fun _ => ?_)
  refine m_aload_n dX8_degree_6 rfl ?_
  refine m_iload_n dX8_degree_7 rfl ?_
  refine m_iload_n dX8_degree_8 rfl ?_
  refine m_iadd dX8_degree_9 ?_
  refine m_ci (v := nI (at_ + 4)) (by exact nI_add at_ 4) ?_
  refine m_laload dX8_degree_10 (by first | assumption | rfl) (mIx_lit (show at_ + 4 < len by omega) (by omega)) ?_
  refine m_lconst (v := 0) dX8_degree_11 (by decide) ?_
  refine m_lc_ne (t := 22) dX8_degree_12 dX8_degree_13 (by decide) (fun c12 => ?_) (fun c12 => ?_)
  · refine m_iload_n dX8_degree_22 rfl ?_
    refine m_if_ge (t := 31) dX8_degree_23 (by decide) (fun _ => ?_) (fun q => absurd (by decide) q)
    refine m_iload_n dX8_degree_31 rfl ?_
    exact m_ireturn hF dX8_degree_32 rfl rfl rfl ⟨by unfold deg5; simp only [if_neg c12]; rfl, rfl⟩
  refine m_iinc (v := 3) dX8_degree_16 rfl (by decide) (by decide) ?_
  show mW _ _ _ _ _ _ 19 [_, _, _] _
  refine m_goto (t := 2) dX8_degree_19 (by decide) ?_
  refine m_iload_n dX8_degree_2 rfl ?_
  refine m_if_lt (t := 22) dX8_degree_3 (by decide) (fun q => absurd q (by decide)) (fun _ => ?_)
  refine m_aload_n dX8_degree_6 rfl ?_
  refine m_iload_n dX8_degree_7 rfl ?_
  refine m_iload_n dX8_degree_8 rfl ?_
  refine m_iadd dX8_degree_9 ?_
  refine m_ci (v := nI (at_ + 3)) (by exact nI_add at_ 3) ?_
  refine m_laload dX8_degree_10 (by first | assumption | rfl) (mIx_lit (show at_ + 3 < len by omega) (by omega)) ?_
  refine m_lconst (v := 0) dX8_degree_11 (by decide) ?_
  refine m_lc_ne (t := 22) dX8_degree_12 dX8_degree_13 (by decide) (fun c12_1 => ?_) (fun c12_1 => ?_)
  · refine m_iload_n dX8_degree_22 rfl ?_
    refine m_if_ge (t := 31) dX8_degree_23 (by decide) (fun _ => ?_) (fun q => absurd (by decide) q)
    refine m_iload_n dX8_degree_31 rfl ?_
    exact m_ireturn hF dX8_degree_32 rfl rfl rfl ⟨by unfold deg5; simp only [if_pos c12, if_neg c12_1]; rfl, rfl⟩
  refine m_iinc (v := 2) dX8_degree_16 rfl (by decide) (by decide) ?_
  show mW _ _ _ _ _ _ 19 [_, _, _] _
  refine m_goto (t := 2) dX8_degree_19 (by decide) ?_
  refine m_iload_n dX8_degree_2 rfl ?_
  refine m_if_lt (t := 22) dX8_degree_3 (by decide) (fun q => absurd q (by decide)) (fun _ => ?_)
  refine m_aload_n dX8_degree_6 rfl ?_
  refine m_iload_n dX8_degree_7 rfl ?_
  refine m_iload_n dX8_degree_8 rfl ?_
  refine m_iadd dX8_degree_9 ?_
  refine m_ci (v := nI (at_ + 2)) (by exact nI_add at_ 2) ?_
  refine m_laload dX8_degree_10 (by first | assumption | rfl) (mIx_lit (show at_ + 2 < len by omega) (by omega)) ?_
  refine m_lconst (v := 0) dX8_degree_11 (by decide) ?_
  refine m_lc_ne (t := 22) dX8_degree_12 dX8_degree_13 (by decide) (fun c12_2 => ?_) (fun c12_2 => ?_)
  · refine m_iload_n dX8_degree_22 rfl ?_
    refine m_if_ge (t := 31) dX8_degree_23 (by decide) (fun _ => ?_) (fun q => absurd (by decide) q)
    refine m_iload_n dX8_degree_31 rfl ?_
    exact m_ireturn hF dX8_degree_32 rfl rfl rfl ⟨by unfold deg5; simp only [if_pos c12, if_pos c12_1, if_neg c12_2]; rfl, rfl⟩
  refine m_iinc (v := 1) dX8_degree_16 rfl (by decide) (by decide) ?_
  show mW _ _ _ _ _ _ 19 [_, _, _] _
  refine m_goto (t := 2) dX8_degree_19 (by decide) ?_
  refine m_iload_n dX8_degree_2 rfl ?_
  refine m_if_lt (t := 22) dX8_degree_3 (by decide) (fun q => absurd q (by decide)) (fun _ => ?_)
  refine m_aload_n dX8_degree_6 rfl ?_
  refine m_iload_n dX8_degree_7 rfl ?_
  refine m_iload_n dX8_degree_8 rfl ?_
  refine m_iadd dX8_degree_9 ?_
  refine m_ci (v := nI (at_ + 1)) (by exact nI_add at_ 1) ?_
  refine m_laload dX8_degree_10 (by first | assumption | rfl) (mIx_lit (show at_ + 1 < len by omega) (by omega)) ?_
  refine m_lconst (v := 0) dX8_degree_11 (by decide) ?_
  refine m_lc_ne (t := 22) dX8_degree_12 dX8_degree_13 (by decide) (fun c12_3 => ?_) (fun c12_3 => ?_)
  · refine m_iload_n dX8_degree_22 rfl ?_
    refine m_if_ge (t := 31) dX8_degree_23 (by decide) (fun _ => ?_) (fun q => absurd (by decide) q)
    refine m_iload_n dX8_degree_31 rfl ?_
    exact m_ireturn hF dX8_degree_32 rfl rfl rfl ⟨by unfold deg5; simp only [if_pos c12, if_pos c12_1, if_pos c12_2, if_neg c12_3]; rfl, rfl⟩
  refine m_iinc (v := 0) dX8_degree_16 rfl (by decide) (by decide) ?_
  show mW _ _ _ _ _ _ 19 [_, _, _] _
  refine m_goto (t := 2) dX8_degree_19 (by decide) ?_
  refine m_iload_n dX8_degree_2 rfl ?_
  refine m_if_lt (t := 22) dX8_degree_3 (by decide) (fun q => absurd q (by decide)) (fun _ => ?_)
  refine m_aload_n dX8_degree_6 rfl ?_
  refine m_iload_n dX8_degree_7 rfl ?_
  refine m_iload_n dX8_degree_8 rfl ?_
  refine m_iadd dX8_degree_9 ?_
  refine m_ci (v := nI (at_ + 0)) (by exact nI_add at_ 0) ?_
  refine m_laload dX8_degree_10 (by first | assumption | rfl) (mIx_lit (show at_ + 0 < len by omega) (by omega)) ?_
  refine m_lconst (v := 0) dX8_degree_11 (by decide) ?_
  refine m_lc_ne (t := 22) dX8_degree_12 dX8_degree_13 (by decide) (fun c12_4 => ?_) (fun c12_4 => ?_)
  · refine m_iload_n dX8_degree_22 rfl ?_
    refine m_if_ge (t := 31) dX8_degree_23 (by decide) (fun _ => ?_) (fun q => absurd (by decide) q)
    refine m_iload_n dX8_degree_31 rfl ?_
    exact m_ireturn hF dX8_degree_32 rfl rfl rfl ⟨by unfold deg5; simp only [if_pos c12, if_pos c12_1, if_pos c12_2, if_pos c12_3, if_neg c12_4]; rfl, rfl⟩
  refine m_iinc (v := -1) dX8_degree_16 rfl (by decide) (by decide) ?_
  show mW _ _ _ _ _ _ 19 [_, _, _] _
  refine m_goto (t := 2) dX8_degree_19 (by decide) ?_
  refine m_iload_n dX8_degree_2 rfl ?_
  refine m_if_lt (t := 22) dX8_degree_3 (by decide) (fun _ => ?_) (fun q => absurd (by decide) q)
  refine m_iload_n dX8_degree_22 rfl ?_
  refine m_if_ge (t := 31) dX8_degree_23 (by decide) (fun q => absurd q (by decide)) (fun _ => ?_)
  refine m_bipush (v := -4) dX8_degree_26 (by decide) ?_
  refine m_goto (t := 32) dX8_degree_28 (by decide) ?_
  exact m_ireturn hF dX8_degree_32 rfl rfl rfl ⟨by unfold deg5; simp only [if_pos c12, if_pos c12_1, if_pos c12_2, if_pos c12_3, if_pos c12_4]; rfl, rfl⟩

set_option maxHeartbeats 400000 in
set_option maxRecDepth 100000 in
theorem t_X8_degreeOf {n : Nat} {hp : mHp} {w : Nat} {ac ia tm ri ev le ch ls rm sm ra fa : Int32} {C : Nat → Int32} (h1 : hp 67 = eO 8 (oMod ac ia tm ri ev le ch ls rm sm ra fa)) (h2 : hp 68 = eI 12 C) (hw : w < 2) : mC D_X8_degreeOf [.ref 67, .int (nI w)] n hp (rI (orN (degI C (5 * w))) hp) := by
  refine m_enter rfl rfl (Nat.le_of_ble_eq_true rfl) (fun K hF => ?_)
  show mW K _ 0 0 _ _ 0 [.ref 67, .int (nI w), .retAddr 0] []
  refine m_iconst (v := 4) dX8_degreeOf_0 (by decide) ?_
  refine m_istore_n dX8_degreeOf_1 (by decide) ?_
  show mW _ _ _ _ _ _ 2 [_, _, _] _
  refine m_iload_n dX8_degreeOf_2 rfl ?_
  refine m_if_lt (t := 25) dX8_degreeOf_3 (by decide) (fun q => absurd q (by decide)) (fun _ => ?_)
  refine m_aload_n dX8_degreeOf_6 rfl ?_
  refine m_getfield dX8_degreeOf_7 fl_X8_7 (by first | assumption | rfl) (by first | assumption | rfl) ?_
  show mW _ _ _ _ _ _ _ _ (.ref _ :: _)
  refine m_iconst (v := 5) dX8_degreeOf_10 (by decide) ?_
  refine m_iload_n dX8_degreeOf_11 rfl ?_
  refine m_imul dX8_degreeOf_12 ?_
  refine m_ci (v := nI (5 * w)) (nI_mulN 5 w) ?_
  refine m_iload_n dX8_degreeOf_13 rfl ?_
  refine m_iadd dX8_degreeOf_14 ?_
  refine m_ci (v := nI (5 * w + 4)) (by exact nI_add (5 * w) 4) ?_
  refine m_iaload dX8_degreeOf_15 (by first | assumption | rfl) (mIx_lit (show 5 * w + 4 < 12 by omega) (by decide)) ?_
  refine m_if_ne (t := 25) dX8_degreeOf_16 (by decide) (fun c16 => ?_) (fun c16 => ?_)
  · refine m_iload_n dX8_degreeOf_25 rfl ?_
    refine m_if_ge (t := 34) dX8_degreeOf_26 (by decide) (fun _ => ?_) (fun q => absurd (by decide) q)
    refine m_iload_n dX8_degreeOf_34 rfl ?_
    exact m_ireturn hF dX8_degreeOf_35 rfl rfl rfl ⟨by unfold degI; simp only [if_neg c16]; rfl, rfl⟩
  refine m_iinc (v := 3) dX8_degreeOf_19 rfl (by decide) (by decide) ?_
  show mW _ _ _ _ _ _ 22 [_, _, _] _
  refine m_goto (t := 2) dX8_degreeOf_22 (by decide) ?_
  refine m_iload_n dX8_degreeOf_2 rfl ?_
  refine m_if_lt (t := 25) dX8_degreeOf_3 (by decide) (fun q => absurd q (by decide)) (fun _ => ?_)
  refine m_aload_n dX8_degreeOf_6 rfl ?_
  refine m_getfield dX8_degreeOf_7 fl_X8_7 (by first | assumption | rfl) (by first | assumption | rfl) ?_
  show mW _ _ _ _ _ _ _ _ (.ref _ :: _)
  refine m_iconst (v := 5) dX8_degreeOf_10 (by decide) ?_
  refine m_iload_n dX8_degreeOf_11 rfl ?_
  refine m_imul dX8_degreeOf_12 ?_
  refine m_ci (v := nI (5 * w)) (nI_mulN 5 w) ?_
  refine m_iload_n dX8_degreeOf_13 rfl ?_
  refine m_iadd dX8_degreeOf_14 ?_
  refine m_ci (v := nI (5 * w + 3)) (by exact nI_add (5 * w) 3) ?_
  refine m_iaload dX8_degreeOf_15 (by first | assumption | rfl) (mIx_lit (show 5 * w + 3 < 12 by omega) (by decide)) ?_
  refine m_if_ne (t := 25) dX8_degreeOf_16 (by decide) (fun c16_1 => ?_) (fun c16_1 => ?_)
  · refine m_iload_n dX8_degreeOf_25 rfl ?_
    refine m_if_ge (t := 34) dX8_degreeOf_26 (by decide) (fun _ => ?_) (fun q => absurd (by decide) q)
    refine m_iload_n dX8_degreeOf_34 rfl ?_
    exact m_ireturn hF dX8_degreeOf_35 rfl rfl rfl ⟨by unfold degI; simp only [if_pos c16, if_neg c16_1]; rfl, rfl⟩
  refine m_iinc (v := 2) dX8_degreeOf_19 rfl (by decide) (by decide) ?_
  show mW _ _ _ _ _ _ 22 [_, _, _] _
  refine m_goto (t := 2) dX8_degreeOf_22 (by decide) ?_
  refine m_iload_n dX8_degreeOf_2 rfl ?_
  refine m_if_lt (t := 25) dX8_degreeOf_3 (by decide) (fun q => absurd q (by decide)) (fun _ => ?_)
  refine m_aload_n dX8_degreeOf_6 rfl ?_
  refine m_getfield dX8_degreeOf_7 fl_X8_7 (by first | assumption | rfl) (by first | assumption | rfl) ?_
  show mW _ _ _ _ _ _ _ _ (.ref _ :: _)
  refine m_iconst (v := 5) dX8_degreeOf_10 (by decide) ?_
  refine m_iload_n dX8_degreeOf_11 rfl ?_
  refine m_imul dX8_degreeOf_12 ?_
  refine m_ci (v := nI (5 * w)) (nI_mulN 5 w) ?_
  refine m_iload_n dX8_degreeOf_13 rfl ?_
  refine m_iadd dX8_degreeOf_14 ?_
  refine m_ci (v := nI (5 * w + 2)) (by exact nI_add (5 * w) 2) ?_
  refine m_iaload dX8_degreeOf_15 (by first | assumption | rfl) (mIx_lit (show 5 * w + 2 < 12 by omega) (by decide)) ?_
  refine m_if_ne (t := 25) dX8_degreeOf_16 (by decide) (fun c16_2 => ?_) (fun c16_2 => ?_)
  · refine m_iload_n dX8_degreeOf_25 rfl ?_
    refine m_if_ge (t := 34) dX8_degreeOf_26 (by decide) (fun _ => ?_) (fun q => absurd (by decide) q)
    refine m_iload_n dX8_degreeOf_34 rfl ?_
    exact m_ireturn hF dX8_degreeOf_35 rfl rfl rfl ⟨by unfold degI; simp only [if_pos c16, if_pos c16_1, if_neg c16_2]; rfl, rfl⟩
  refine m_iinc (v := 1) dX8_degreeOf_19 rfl (by decide) (by decide) ?_
  show mW _ _ _ _ _ _ 22 [_, _, _] _
  refine m_goto (t := 2) dX8_degreeOf_22 (by decide) ?_
  refine m_iload_n dX8_degreeOf_2 rfl ?_
  refine m_if_lt (t := 25) dX8_degreeOf_3 (by decide) (fun q => absurd q (by decide)) (fun _ => ?_)
  refine m_aload_n dX8_degreeOf_6 rfl ?_
  refine m_getfield dX8_degreeOf_7 fl_X8_7 (by first | assumption | rfl) (by first | assumption | rfl) ?_
  show mW _ _ _ _ _ _ _ _ (.ref _ :: _)
  refine m_iconst (v := 5) dX8_degreeOf_10 (by decide) ?_
  refine m_iload_n dX8_degreeOf_11 rfl ?_
  refine m_imul dX8_degreeOf_12 ?_
  refine m_ci (v := nI (5 * w)) (nI_mulN 5 w) ?_
  refine m_iload_n dX8_degreeOf_13 rfl ?_
  refine m_iadd dX8_degreeOf_14 ?_
  refine m_ci (v := nI (5 * w + 1)) (by exact nI_add (5 * w) 1) ?_
  refine m_iaload dX8_degreeOf_15 (by first | assumption | rfl) (mIx_lit (show 5 * w + 1 < 12 by omega) (by decide)) ?_
  refine m_if_ne (t := 25) dX8_degreeOf_16 (by decide) (fun c16_3 => ?_) (fun c16_3 => ?_)
  · refine m_iload_n dX8_degreeOf_25 rfl ?_
    refine m_if_ge (t := 34) dX8_degreeOf_26 (by decide) (fun _ => ?_) (fun q => absurd (by decide) q)
    refine m_iload_n dX8_degreeOf_34 rfl ?_
    exact m_ireturn hF dX8_degreeOf_35 rfl rfl rfl ⟨by unfold degI; simp only [if_pos c16, if_pos c16_1, if_pos c16_2, if_neg c16_3]; rfl, rfl⟩
  refine m_iinc (v := 0) dX8_degreeOf_19 rfl (by decide) (by decide) ?_
  show mW _ _ _ _ _ _ 22 [_, _, _] _
  refine m_goto (t := 2) dX8_degreeOf_22 (by decide) ?_
  refine m_iload_n dX8_degreeOf_2 rfl ?_
  refine m_if_lt (t := 25) dX8_degreeOf_3 (by decide) (fun q => absurd q (by decide)) (fun _ => ?_)
  refine m_aload_n dX8_degreeOf_6 rfl ?_
  refine m_getfield dX8_degreeOf_7 fl_X8_7 (by first | assumption | rfl) (by first | assumption | rfl) ?_
  show mW _ _ _ _ _ _ _ _ (.ref _ :: _)
  refine m_iconst (v := 5) dX8_degreeOf_10 (by decide) ?_
  refine m_iload_n dX8_degreeOf_11 rfl ?_
  refine m_imul dX8_degreeOf_12 ?_
  refine m_ci (v := nI (5 * w)) (nI_mulN 5 w) ?_
  refine m_iload_n dX8_degreeOf_13 rfl ?_
  refine m_iadd dX8_degreeOf_14 ?_
  refine m_ci (v := nI (5 * w + 0)) (by exact nI_add (5 * w) 0) ?_
  refine m_iaload dX8_degreeOf_15 (by first | assumption | rfl) (mIx_lit (show 5 * w + 0 < 12 by omega) (by decide)) ?_
  refine m_if_ne (t := 25) dX8_degreeOf_16 (by decide) (fun c16_4 => ?_) (fun c16_4 => ?_)
  · refine m_iload_n dX8_degreeOf_25 rfl ?_
    refine m_if_ge (t := 34) dX8_degreeOf_26 (by decide) (fun _ => ?_) (fun q => absurd (by decide) q)
    refine m_iload_n dX8_degreeOf_34 rfl ?_
    exact m_ireturn hF dX8_degreeOf_35 rfl rfl rfl ⟨by unfold degI; simp only [if_pos c16, if_pos c16_1, if_pos c16_2, if_pos c16_3, if_neg c16_4]; rfl, rfl⟩
  refine m_iinc (v := -1) dX8_degreeOf_19 rfl (by decide) (by decide) ?_
  show mW _ _ _ _ _ _ 22 [_, _, _] _
  refine m_goto (t := 2) dX8_degreeOf_22 (by decide) ?_
  refine m_iload_n dX8_degreeOf_2 rfl ?_
  refine m_if_lt (t := 25) dX8_degreeOf_3 (by decide) (fun _ => ?_) (fun q => absurd (by decide) q)
  refine m_iload_n dX8_degreeOf_25 rfl ?_
  refine m_if_ge (t := 34) dX8_degreeOf_26 (by decide) (fun q => absurd q (by decide)) (fun _ => ?_)
  refine m_bipush (v := -4) dX8_degreeOf_29 (by decide) ?_
  refine m_goto (t := 35) dX8_degreeOf_31 (by decide) ?_
  exact m_ireturn hF dX8_degreeOf_35 rfl rfl rfl ⟨by unfold degI; simp only [if_pos c16, if_pos c16_1, if_pos c16_2, if_pos c16_3, if_pos c16_4]; rfl, rfl⟩

def loopL (C : Nat → Int32) (v : Int32) (k : Nat) : Int64 := 8 * (C k).toInt64 + v.toInt64 * (C (5 + k)).toInt64
set_option maxHeartbeats 400000 in
set_option maxRecDepth 100000 in
theorem t_X8_loops {n : Nat} {hp : mHp} {ac ia tm ri ev le ch ls rm sm ra fa : Int32} {C : Nat → Int32} {L : Nat → Int64} {v : Int32} (h1 : hp 67 = eO 8 (oMod ac ia tm ri ev le ch ls rm sm ra fa)) (h2 : hp 68 = eI 12 C) (h3 : hp 76 = eL 5 L) : mC D_X8_loops [.ref 67, .int v] n hp (rV (va_up hp 76 (eL 5 (fill5 (loopL C v) L)))) := by
  refine m_enter rfl rfl (Nat.le_of_ble_eq_true rfl) (fun K hF => ?_)
  show mW K _ 0 0 _ _ 0 [.ref 67, .int v, .retAddr 0] []
  have y1 : ∀ f : mE, va_up hp 76 f 67 = _ := fun f => (va_up_ne _ _ (by decide)).trans h1
  have y2 : ∀ f : mE, va_up hp 76 f 68 = _ := fun f => (va_up_ne _ _ (by decide)).trans h2
  refine m_iconst (v := 0) dX8_loops_0 (by decide) ?_
  refine m_istore_n dX8_loops_1 (by decide) ?_
  show mW _ _ _ _ _ _ 2 [_, _, _] _
  refine m_iload_n dX8_loops_2 rfl ?_
  refine m_iconst (v := 5) dX8_loops_3 (by decide) ?_
  refine m_icmp_ge (t := 43) dX8_loops_4 (by decide) (fun q => absurd q (by decide)) (fun _ => ?_)
  refine m_aload_n dX8_loops_7 rfl ?_
  refine m_getfield dX8_loops_8 fl_X8_39 (by first | assumption | rfl | exact y1 _ | exact y2 _ | exact va_up_self _ _ _) (by first | assumption | rfl | exact y1 _ | exact y2 _ | exact va_up_self _ _ _) ?_
  show mW _ _ _ _ _ _ _ _ (.ref _ :: _)
  refine m_iload_n dX8_loops_11 rfl ?_
  refine m_ldc2 dX8_loops_12 cl_X8_73 ?_
  refine m_aload_n dX8_loops_15 rfl ?_
  refine m_getfield dX8_loops_16 fl_X8_7 (by first | assumption | rfl | exact y1 _ | exact y2 _ | exact va_up_self _ _ _) (by first | assumption | rfl | exact y1 _ | exact y2 _ | exact va_up_self _ _ _) ?_
  show mW _ _ _ _ _ _ _ _ (.ref _ :: _)
  refine m_iload_n dX8_loops_19 rfl ?_
  refine m_iaload (k := 0) dX8_loops_20 (by first | assumption | rfl | exact y1 _ | exact y2 _ | exact va_up_self _ _ _) ⟨by decide, by decide⟩ ?_
  refine m_i2l dX8_loops_21 ?_
  refine m_lmul dX8_loops_22 ?_
  refine m_iload_n dX8_loops_23 rfl ?_
  refine m_i2l dX8_loops_24 ?_
  refine m_aload_n dX8_loops_25 rfl ?_
  refine m_getfield dX8_loops_26 fl_X8_7 (by first | assumption | rfl | exact y1 _ | exact y2 _ | exact va_up_self _ _ _) (by first | assumption | rfl | exact y1 _ | exact y2 _ | exact va_up_self _ _ _) ?_
  show mW _ _ _ _ _ _ _ _ (.ref _ :: _)
  refine m_iconst (v := 5) dX8_loops_29 (by decide) ?_
  refine m_iload_n dX8_loops_30 rfl ?_
  refine m_iadd dX8_loops_31 ?_
  refine m_ci (v := 5) (by decide) ?_
  refine m_iaload (k := 5) dX8_loops_32 (by first | assumption | rfl | exact y1 _ | exact y2 _ | exact va_up_self _ _ _) ⟨by decide, by decide⟩ ?_
  refine m_i2l dX8_loops_33 ?_
  refine m_lmul dX8_loops_34 ?_
  refine m_ladd dX8_loops_35 ?_
  refine m_lastore (k := 0) dX8_loops_36 (by first | assumption | rfl | exact y1 _ | exact y2 _ | exact va_up_self _ _ _) ⟨by decide, by decide⟩ ?_
  try rw [va_uu]
  refine m_iinc (v := 1) dX8_loops_37 rfl (by decide) (by decide) ?_
  show mW _ _ _ _ _ _ 40 [_, _, _] _
  refine m_goto (t := 2) dX8_loops_40 (by decide) ?_
  refine m_iload_n dX8_loops_2 rfl ?_
  refine m_iconst (v := 5) dX8_loops_3 (by decide) ?_
  refine m_icmp_ge (t := 43) dX8_loops_4 (by decide) (fun q => absurd q (by decide)) (fun _ => ?_)
  refine m_aload_n dX8_loops_7 rfl ?_
  refine m_getfield dX8_loops_8 fl_X8_39 (by first | assumption | rfl | exact y1 _ | exact y2 _ | exact va_up_self _ _ _) (by first | assumption | rfl | exact y1 _ | exact y2 _ | exact va_up_self _ _ _) ?_
  show mW _ _ _ _ _ _ _ _ (.ref _ :: _)
  refine m_iload_n dX8_loops_11 rfl ?_
  refine m_ldc2 dX8_loops_12 cl_X8_73 ?_
  refine m_aload_n dX8_loops_15 rfl ?_
  refine m_getfield dX8_loops_16 fl_X8_7 (by first | assumption | rfl | exact y1 _ | exact y2 _ | exact va_up_self _ _ _) (by first | assumption | rfl | exact y1 _ | exact y2 _ | exact va_up_self _ _ _) ?_
  show mW _ _ _ _ _ _ _ _ (.ref _ :: _)
  refine m_iload_n dX8_loops_19 rfl ?_
  refine m_iaload (k := 1) dX8_loops_20 (by first | assumption | rfl | exact y1 _ | exact y2 _ | exact va_up_self _ _ _) ⟨by decide, by decide⟩ ?_
  refine m_i2l dX8_loops_21 ?_
  refine m_lmul dX8_loops_22 ?_
  refine m_iload_n dX8_loops_23 rfl ?_
  refine m_i2l dX8_loops_24 ?_
  refine m_aload_n dX8_loops_25 rfl ?_
  refine m_getfield dX8_loops_26 fl_X8_7 (by first | assumption | rfl | exact y1 _ | exact y2 _ | exact va_up_self _ _ _) (by first | assumption | rfl | exact y1 _ | exact y2 _ | exact va_up_self _ _ _) ?_
  show mW _ _ _ _ _ _ _ _ (.ref _ :: _)
  refine m_iconst (v := 5) dX8_loops_29 (by decide) ?_
  refine m_iload_n dX8_loops_30 rfl ?_
  refine m_iadd dX8_loops_31 ?_
  refine m_ci (v := 6) (by decide) ?_
  refine m_iaload (k := 6) dX8_loops_32 (by first | assumption | rfl | exact y1 _ | exact y2 _ | exact va_up_self _ _ _) ⟨by decide, by decide⟩ ?_
  refine m_i2l dX8_loops_33 ?_
  refine m_lmul dX8_loops_34 ?_
  refine m_ladd dX8_loops_35 ?_
  refine m_lastore (k := 1) dX8_loops_36 (by first | assumption | rfl | exact y1 _ | exact y2 _ | exact va_up_self _ _ _) ⟨by decide, by decide⟩ ?_
  try rw [va_uu]
  refine m_iinc (v := 2) dX8_loops_37 rfl (by decide) (by decide) ?_
  show mW _ _ _ _ _ _ 40 [_, _, _] _
  refine m_goto (t := 2) dX8_loops_40 (by decide) ?_
  refine m_iload_n dX8_loops_2 rfl ?_
  refine m_iconst (v := 5) dX8_loops_3 (by decide) ?_
  refine m_icmp_ge (t := 43) dX8_loops_4 (by decide) (fun q => absurd q (by decide)) (fun _ => ?_)
  refine m_aload_n dX8_loops_7 rfl ?_
  refine m_getfield dX8_loops_8 fl_X8_39 (by first | assumption | rfl | exact y1 _ | exact y2 _ | exact va_up_self _ _ _) (by first | assumption | rfl | exact y1 _ | exact y2 _ | exact va_up_self _ _ _) ?_
  show mW _ _ _ _ _ _ _ _ (.ref _ :: _)
  refine m_iload_n dX8_loops_11 rfl ?_
  refine m_ldc2 dX8_loops_12 cl_X8_73 ?_
  refine m_aload_n dX8_loops_15 rfl ?_
  refine m_getfield dX8_loops_16 fl_X8_7 (by first | assumption | rfl | exact y1 _ | exact y2 _ | exact va_up_self _ _ _) (by first | assumption | rfl | exact y1 _ | exact y2 _ | exact va_up_self _ _ _) ?_
  show mW _ _ _ _ _ _ _ _ (.ref _ :: _)
  refine m_iload_n dX8_loops_19 rfl ?_
  refine m_iaload (k := 2) dX8_loops_20 (by first | assumption | rfl | exact y1 _ | exact y2 _ | exact va_up_self _ _ _) ⟨by decide, by decide⟩ ?_
  refine m_i2l dX8_loops_21 ?_
  refine m_lmul dX8_loops_22 ?_
  refine m_iload_n dX8_loops_23 rfl ?_
  refine m_i2l dX8_loops_24 ?_
  refine m_aload_n dX8_loops_25 rfl ?_
  refine m_getfield dX8_loops_26 fl_X8_7 (by first | assumption | rfl | exact y1 _ | exact y2 _ | exact va_up_self _ _ _) (by first | assumption | rfl | exact y1 _ | exact y2 _ | exact va_up_self _ _ _) ?_
  show mW _ _ _ _ _ _ _ _ (.ref _ :: _)
  refine m_iconst (v := 5) dX8_loops_29 (by decide) ?_
  refine m_iload_n dX8_loops_30 rfl ?_
  refine m_iadd dX8_loops_31 ?_
  refine m_ci (v := 7) (by decide) ?_
  refine m_iaload (k := 7) dX8_loops_32 (by first | assumption | rfl | exact y1 _ | exact y2 _ | exact va_up_self _ _ _) ⟨by decide, by decide⟩ ?_
  refine m_i2l dX8_loops_33 ?_
  refine m_lmul dX8_loops_34 ?_
  refine m_ladd dX8_loops_35 ?_
  refine m_lastore (k := 2) dX8_loops_36 (by first | assumption | rfl | exact y1 _ | exact y2 _ | exact va_up_self _ _ _) ⟨by decide, by decide⟩ ?_
  try rw [va_uu]
  refine m_iinc (v := 3) dX8_loops_37 rfl (by decide) (by decide) ?_
  show mW _ _ _ _ _ _ 40 [_, _, _] _
  refine m_goto (t := 2) dX8_loops_40 (by decide) ?_
  refine m_iload_n dX8_loops_2 rfl ?_
  refine m_iconst (v := 5) dX8_loops_3 (by decide) ?_
  refine m_icmp_ge (t := 43) dX8_loops_4 (by decide) (fun q => absurd q (by decide)) (fun _ => ?_)
  refine m_aload_n dX8_loops_7 rfl ?_
  refine m_getfield dX8_loops_8 fl_X8_39 (by first | assumption | rfl | exact y1 _ | exact y2 _ | exact va_up_self _ _ _) (by first | assumption | rfl | exact y1 _ | exact y2 _ | exact va_up_self _ _ _) ?_
  show mW _ _ _ _ _ _ _ _ (.ref _ :: _)
  refine m_iload_n dX8_loops_11 rfl ?_
  refine m_ldc2 dX8_loops_12 cl_X8_73 ?_
  refine m_aload_n dX8_loops_15 rfl ?_
  refine m_getfield dX8_loops_16 fl_X8_7 (by first | assumption | rfl | exact y1 _ | exact y2 _ | exact va_up_self _ _ _) (by first | assumption | rfl | exact y1 _ | exact y2 _ | exact va_up_self _ _ _) ?_
  show mW _ _ _ _ _ _ _ _ (.ref _ :: _)
  refine m_iload_n dX8_loops_19 rfl ?_
  refine m_iaload (k := 3) dX8_loops_20 (by first | assumption | rfl | exact y1 _ | exact y2 _ | exact va_up_self _ _ _) ⟨by decide, by decide⟩ ?_
  refine m_i2l dX8_loops_21 ?_
  refine m_lmul dX8_loops_22 ?_
  refine m_iload_n dX8_loops_23 rfl ?_
  refine m_i2l dX8_loops_24 ?_
  refine m_aload_n dX8_loops_25 rfl ?_
  refine m_getfield dX8_loops_26 fl_X8_7 (by first | assumption | rfl | exact y1 _ | exact y2 _ | exact va_up_self _ _ _) (by first | assumption | rfl | exact y1 _ | exact y2 _ | exact va_up_self _ _ _) ?_
  show mW _ _ _ _ _ _ _ _ (.ref _ :: _)
  refine m_iconst (v := 5) dX8_loops_29 (by decide) ?_
  refine m_iload_n dX8_loops_30 rfl ?_
  refine m_iadd dX8_loops_31 ?_
  refine m_ci (v := 8) (by decide) ?_
  refine m_iaload (k := 8) dX8_loops_32 (by first | assumption | rfl | exact y1 _ | exact y2 _ | exact va_up_self _ _ _) ⟨by decide, by decide⟩ ?_
  refine m_i2l dX8_loops_33 ?_
  refine m_lmul dX8_loops_34 ?_
  refine m_ladd dX8_loops_35 ?_
  refine m_lastore (k := 3) dX8_loops_36 (by first | assumption | rfl | exact y1 _ | exact y2 _ | exact va_up_self _ _ _) ⟨by decide, by decide⟩ ?_
  try rw [va_uu]
  refine m_iinc (v := 4) dX8_loops_37 rfl (by decide) (by decide) ?_
  show mW _ _ _ _ _ _ 40 [_, _, _] _
  refine m_goto (t := 2) dX8_loops_40 (by decide) ?_
  refine m_iload_n dX8_loops_2 rfl ?_
  refine m_iconst (v := 5) dX8_loops_3 (by decide) ?_
  refine m_icmp_ge (t := 43) dX8_loops_4 (by decide) (fun q => absurd q (by decide)) (fun _ => ?_)
  refine m_aload_n dX8_loops_7 rfl ?_
  refine m_getfield dX8_loops_8 fl_X8_39 (by first | assumption | rfl | exact y1 _ | exact y2 _ | exact va_up_self _ _ _) (by first | assumption | rfl | exact y1 _ | exact y2 _ | exact va_up_self _ _ _) ?_
  show mW _ _ _ _ _ _ _ _ (.ref _ :: _)
  refine m_iload_n dX8_loops_11 rfl ?_
  refine m_ldc2 dX8_loops_12 cl_X8_73 ?_
  refine m_aload_n dX8_loops_15 rfl ?_
  refine m_getfield dX8_loops_16 fl_X8_7 (by first | assumption | rfl | exact y1 _ | exact y2 _ | exact va_up_self _ _ _) (by first | assumption | rfl | exact y1 _ | exact y2 _ | exact va_up_self _ _ _) ?_
  show mW _ _ _ _ _ _ _ _ (.ref _ :: _)
  refine m_iload_n dX8_loops_19 rfl ?_
  refine m_iaload (k := 4) dX8_loops_20 (by first | assumption | rfl | exact y1 _ | exact y2 _ | exact va_up_self _ _ _) ⟨by decide, by decide⟩ ?_
  refine m_i2l dX8_loops_21 ?_
  refine m_lmul dX8_loops_22 ?_
  refine m_iload_n dX8_loops_23 rfl ?_
  refine m_i2l dX8_loops_24 ?_
  refine m_aload_n dX8_loops_25 rfl ?_
  refine m_getfield dX8_loops_26 fl_X8_7 (by first | assumption | rfl | exact y1 _ | exact y2 _ | exact va_up_self _ _ _) (by first | assumption | rfl | exact y1 _ | exact y2 _ | exact va_up_self _ _ _) ?_
  show mW _ _ _ _ _ _ _ _ (.ref _ :: _)
  refine m_iconst (v := 5) dX8_loops_29 (by decide) ?_
  refine m_iload_n dX8_loops_30 rfl ?_
  refine m_iadd dX8_loops_31 ?_
  refine m_ci (v := 9) (by decide) ?_
  refine m_iaload (k := 9) dX8_loops_32 (by first | assumption | rfl | exact y1 _ | exact y2 _ | exact va_up_self _ _ _) ⟨by decide, by decide⟩ ?_
  refine m_i2l dX8_loops_33 ?_
  refine m_lmul dX8_loops_34 ?_
  refine m_ladd dX8_loops_35 ?_
  refine m_lastore (k := 4) dX8_loops_36 (by first | assumption | rfl | exact y1 _ | exact y2 _ | exact va_up_self _ _ _) ⟨by decide, by decide⟩ ?_
  try rw [va_uu]
  refine m_iinc (v := 5) dX8_loops_37 rfl (by decide) (by decide) ?_
  show mW _ _ _ _ _ _ 40 [_, _, _] _
  refine m_goto (t := 2) dX8_loops_40 (by decide) ?_
  refine m_iload_n dX8_loops_2 rfl ?_
  refine m_iconst (v := 5) dX8_loops_3 (by decide) ?_
  refine m_icmp_ge (t := 43) dX8_loops_4 (by decide) (fun _ => ?_) (fun q => absurd (by decide) q)
  exact m_return hF dX8_loops_43 rfl rfl rfl ⟨rfl, rfl⟩

