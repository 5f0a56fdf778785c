/-! ===== Shelf.holdsParts; Tape ===== -/
def allP (IT : Nat → Int64) (i : Nat) : Nat → Int32
  | 0 => 1
  | m + 1 => if (if IT i < -9 then (0 : Int32) else if 9 < IT i then 0 else 1) = 0 then 0 else allP IT (i + 1) m
set_option maxHeartbeats 4000000 in
set_option maxRecDepth 100000 in
theorem l_X4_holdsParts {n : Nat} {hp : mHp} {s i m : Nat} {IT : Nat → Int64} (h1 : hp 36 = eO 4 oShelf) (h4 : hp 39 = eR tyJJ 4 rItems) (h5 : hp (40 + s) = eL 24 IT) (hs : s < 4) (him : i + m ≤ 24) {K : mK} (hF : mFin K D_X4_holdsParts n (rI (allP IT i m) hp)) : ∀ r j : Nat, j + r = i + m → allP IT j r = allP IT i m → mW K D_X4_holdsParts 0 0 n hp 3 [.ref 36, .int (nI s), .int (nI i), .int (nI m), .int (nI j)] [] := by
  intro r
  induction r using Nat.strongRecOn with
  | ind r ih =>
    intro j hjr hv
    refine m_iload dX4_holdsParts_3 rfl ?_
    refine m_iload_n dX4_holdsParts_5 rfl ?_
    refine m_iload_n dX4_holdsParts_6 rfl ?_
    refine m_iadd dX4_holdsParts_7 ?_
    refine m_ci (v := nI (i + m)) (nI_add i m) ?_
    refine m_icmp_ge (t := 34) dX4_holdsParts_8 (by decide) (fun cc => ?_) (fun cc => ?_)
    · have hr : r = 0 := by have := nI_cmp' (by omega) (by omega) cc; omega
      subst hr
      refine m_iconst (v := 1) dX4_holdsParts_34 (by decide) ?_
      exact m_zreturn hF dX4_holdsParts_35 rfl rfl rfl rfl ⟨by first | (rw [← hv]; done) | (rw [← hv]; rfl), rfl⟩
    obtain ⟨r, rfl⟩ : ∃ r', r = r' + 1 := ⟨r - 1, by have := nI_cmp (by omega) (by omega) cc; omega⟩
    have hj : j < 24 := by omega
    refine m_aload_n dX4_holdsParts_11 rfl ?_
    refine m_getfield dX4_holdsParts_12 fl_X4_20 (by first | assumption | rfl) (by first | assumption | rfl) ?_
    show mW _ _ _ _ _ _ _ _ (.ref _ :: _)
    refine m_iload_n dX4_holdsParts_15 rfl ?_
    refine m_aaloadJ dX4_holdsParts_16 (by first | assumption | rfl) (mIx_lit hs (by decide)) (rItems_at hs) ?_
    refine m_iload dX4_holdsParts_17 rfl ?_
    refine m_laload dX4_holdsParts_19 (by first | assumption | rfl) (mIx_lit hj (by decide)) ?_
    refine m_invSN_I dX4_holdsParts_20 lk_X4_37 ar_X7_isPart (t_X7_isPart) rfl (Nat.le_of_ble_eq_true rfl) (by decide) (by decide) (by decide) (by decide) rfl rfl ?_
    try rw [va_uu]
    refine m_if_ne (t := 28) dX4_holdsParts_23 (by decide) (fun c23 => ?_) (fun c23 => ?_)
    rotate_left
    · rw [allP, if_pos (by assumption)] at hv
      refine m_iconst (v := 0) dX4_holdsParts_26 (by decide) ?_
      exact m_zreturn hF dX4_holdsParts_27 rfl rfl rfl rfl ⟨by first | (rw [← hv]; done) | (rw [← hv]; rfl), rfl⟩
    rw [allP, if_neg (by assumption)] at hv
    refine m_iinc (v := nI (j + 1)) dX4_holdsParts_28 rfl (nI_1 j) (by decide) ?_
    show mW _ _ _ _ _ _ 31 [_, _, _, _, _] _
    refine m_goto (t := 3) dX4_holdsParts_31 (by decide) ?_
    exact ih r (by omega) (j + 1) (by omega) hv

theorem t_X4_holdsParts {n : Nat} {hp : mHp} {s i m : Nat} {IT : Nat → Int64} (h1 : hp 36 = eO 4 oShelf) (h4 : hp 39 = eR tyJJ 4 rItems) (h5 : hp (40 + s) = eL 24 IT) (hs : s < 4) (him : i + m ≤ 24) : mC D_X4_holdsParts [.ref 36, .int (nI s), .int (nI i), .int (nI m)] n hp (rI (allP IT i m) hp) := by
  refine m_enter rfl rfl (Nat.le_of_ble_eq_true rfl) (fun K hF => ?_)
  show mW K _ 0 0 _ _ 0 [.ref 36, .int (nI s), .int (nI i), .int (nI m), .retAddr 0] []
  refine m_iload_n dX4_holdsParts_0 rfl ?_
  refine m_istore dX4_holdsParts_1 (by decide) ?_
  show mW _ _ _ _ _ _ 3 [_, _, _, _, _] _
  exact l_X4_holdsParts h1 h4 h5 hs him hF m i rfl rfl

def oTape (tq sz pl fg pw : Int32) : Nat → Value := fun k => match k with
  | 0 => .ref 34
  | 1 => .ref 35
  | 2 => .int tq
  | 3 => .int sz
  | 4 => .int pl
  | 5 => .int fg
  | 6 => .int pw
  | _ => .null
theorem oTape_2 (tq sz pl fg pw : Int32) (x9 : Int32) : va_up (oTape tq sz pl fg pw) 2 (.int x9) = oTape x9 sz pl fg pw := by
  funext k
  match k with
  | 0 => rfl
  | 1 => rfl
  | 2 => rfl
  | 3 => rfl
  | 4 => rfl
  | 5 => rfl
  | 6 => rfl
  | k + 7 => simp [va_up, oTape]
theorem oTape_3 (tq sz pl fg pw : Int32) (x9 : Int32) : va_up (oTape tq sz pl fg pw) 3 (.int x9) = oTape tq x9 pl fg pw := by
  funext k
  match k with
  | 0 => rfl
  | 1 => rfl
  | 2 => rfl
  | 3 => rfl
  | 4 => rfl
  | 5 => rfl
  | 6 => rfl
  | k + 7 => simp [va_up, oTape]
theorem oTape_4 (tq sz pl fg pw : Int32) (x9 : Int32) : va_up (oTape tq sz pl fg pw) 4 (.int x9) = oTape tq sz x9 fg pw := by
  funext k
  match k with
  | 0 => rfl
  | 1 => rfl
  | 2 => rfl
  | 3 => rfl
  | 4 => rfl
  | 5 => rfl
  | 6 => rfl
  | k + 7 => simp [va_up, oTape]
theorem oTape_5 (tq sz pl fg pw : Int32) (x9 : Int32) : va_up (oTape tq sz pl fg pw) 5 (.int x9) = oTape tq sz pl x9 pw := by
  funext k
  match k with
  | 0 => rfl
  | 1 => rfl
  | 2 => rfl
  | 3 => rfl
  | 4 => rfl
  | 5 => rfl
  | 6 => rfl
  | k + 7 => simp [va_up, oTape]
theorem oTape_6 (tq sz pl fg pw : Int32) (x9 : Int32) : va_up (oTape tq sz pl fg pw) 6 (.int x9) = oTape tq sz pl fg x9 := by
  funext k
  match k with
  | 0 => rfl
  | 1 => rfl
  | 2 => rfl
  | 3 => rfl
  | 4 => rfl
  | 5 => rfl
  | 6 => rfl
  | k + 7 => simp [va_up, oTape]
/-- the first place from p on whose letter is no blank -/
def skipB (LT : Nat → Int32) (z p : Nat) : Nat := if p < z ∧ LT p = 32 then skipB LT z (p + 1) else p
  termination_by z - p
theorem skipB_le {LT : Nat → Int32} {z : Nat} : ∀ (m p : Nat), z - p ≤ m → p ≤ z → skipB LT z p ≤ z ∧ p ≤ skipB LT z p := by
  intro m
  induction m with
  | zero =>
    intro p h1 h2
    rw [skipB, if_neg (by omega)]
    omega
  | succ m ih =>
    intro p h1 h2
    rw [skipB]
    split
    · have := ih (p + 1) (by omega) (by omega)
      omega
    · omega
theorem skipB_z {LT : Nat → Int32} {z p : Nat} (h : p ≤ z) : skipB LT z p ≤ z := (skipB_le (z - p) p (Nat.le_refl _) h).1
theorem skipB_p {LT : Nat → Int32} {z p : Nat} (h : p ≤ z) : p ≤ skipB LT z p := (skipB_le (z - p) p (Nat.le_refl _) h).2
/-- the letter there; -1: the end -/
def ltrB (LT : Nat → Int32) (z p : Nat) : Int32 := if skipB LT z p < z then LT (skipB LT z p) else -1
theorem skipB_go {LT : Nat → Int32} {z p : Nat} (h : p < z) (h2 : LT p = 32) : skipB LT z p = skipB LT z (p + 1) := by
  rw [skipB, if_pos ⟨h, h2⟩]
theorem skipB_end {LT : Nat → Int32} {z p : Nat} (h : ¬ (p < z ∧ LT p = 32)) : skipB LT z p = p := by
  rw [skipB, if_neg h]
theorem nI_ne_neg {a : Nat} (h : a < 2 ^ 31) : ¬ nI a < 0 := nI_pos h
set_option maxHeartbeats 4000000 in
set_option maxRecDepth 100000 in
theorem l_X6_nextLetter {n : Nat} {hp : mHp} {LT : Nat → Int32} {z p : Nat} {tq fg pw : Int32} (h1 : hp 33 = eO 6 (oTape tq (nI z) (nI p) fg pw)) (h2 : hp 34 = eB 60 LT) (hz : z ≤ 60) (hpz : p ≤ z) {K : mK} (hF : mFin K D_X6_nextLetter n (rI (ltrB LT z p) (va_up hp 33 (eO 6 (oTape tq (nI z) (nI (skipB LT z p)) fg pw))))) : ∀ m r : Nat, r ≤ z → z + 1 ≤ r + m → skipB LT z r = skipB LT z p → mW K D_X6_nextLetter 0 0 n (va_up hp 33 (eO 6 (oTape tq (nI z) (nI r) fg pw))) 0 [.ref 33] [] := by
  intro m
  induction m with
  | zero =>
    intro r h3 h4
    exact absurd h4 (by omega)
  | succ m ih =>
    intro r h3 h4 hv
    have c1 : va_up hp 33 (eO 6 (oTape tq (nI z) (nI r) fg pw)) 33 = eO 6 (oTape tq (nI z) (nI r) fg pw) := rfl
    have c2 : va_up hp 33 (eO 6 (oTape tq (nI z) (nI r) fg pw)) 34 = eB 60 LT := h2
    refine m_aload_n dX6_nextLetter_0 rfl ?_
    refine m_getfield dX6_nextLetter_1 fl_X6_27 (by first | assumption | rfl) (by first | assumption | rfl) ?_
    show mW _ _ _ _ _ _ _ _ (.int _ :: _)
    refine m_aload_n dX6_nextLetter_4 rfl ?_
    refine m_getfield dX6_nextLetter_5 fl_X6_23 (by first | assumption | rfl) (by first | assumption | rfl) ?_
    show mW _ _ _ _ _ _ _ _ (.int _ :: _)
    refine m_icmp_ge (t := 38) dX6_nextLetter_8 (by decide) (fun c8 => ?_) (fun c8 => ?_)
    · have hend : skipB LT z r = r := skipB_end (by first | (rintro ⟨a1, a2⟩; exact absurd (nI_cmp' (by omega) (by omega) c8) (by omega)) | (rintro ⟨a1, a2⟩; exact c22 a2))
      rw [hend] at hv
      refine m_aload_n dX6_nextLetter_38 rfl ?_
      refine m_getfield dX6_nextLetter_39 fl_X6_27 (by first | assumption | rfl) (by first | assumption | rfl) ?_
      show mW _ _ _ _ _ _ _ _ (.int _ :: _)
      refine m_if_lt (t := 68) dX6_nextLetter_42 (by decide) (fun c42 => ?_) (fun c42 => ?_)
      · have hlt : ¬ r < z := by first | (have := nI_cmp' (by omega) (by omega) c53; omega) | exact absurd c42 (nI_pos (by omega))
        refine m_iconst (v := -1) dX6_nextLetter_68 (by decide) ?_
        exact m_ireturn hF dX6_nextLetter_69 rfl rfl rfl ⟨by unfold ltrB; rw [← hv]; first | rw [if_pos hlt] | rw [if_neg hlt], by rw [← hv]⟩
      refine m_aload_n dX6_nextLetter_45 rfl ?_
      refine m_getfield dX6_nextLetter_46 fl_X6_27 (by first | assumption | rfl) (by first | assumption | rfl) ?_
      show mW _ _ _ _ _ _ _ _ (.int _ :: _)
      refine m_aload_n dX6_nextLetter_49 rfl ?_
      refine m_getfield dX6_nextLetter_50 fl_X6_23 (by first | assumption | rfl) (by first | assumption | rfl) ?_
      show mW _ _ _ _ _ _ _ _ (.int _ :: _)
      refine m_icmp_ge (t := 68) dX6_nextLetter_53 (by decide) (fun c53 => ?_) (fun c53 => ?_)
      · have hlt : ¬ r < z := by first | (have := nI_cmp' (by omega) (by omega) c53; omega) | exact absurd c42 (nI_pos (by omega))
        refine m_iconst (v := -1) dX6_nextLetter_68 (by decide) ?_
        exact m_ireturn hF dX6_nextLetter_69 rfl rfl rfl ⟨by unfold ltrB; rw [← hv]; first | rw [if_pos hlt] | rw [if_neg hlt], by rw [← hv]⟩
      have hlt : r < z := nI_cmp (by omega) (by omega) c53
      refine m_aload_n dX6_nextLetter_56 rfl ?_
      refine m_getfield dX6_nextLetter_57 fl_X6_11 (by first | assumption | rfl) (by first | assumption | rfl) ?_
      show mW _ _ _ _ _ _ _ _ (.ref _ :: _)
      refine m_aload_n dX6_nextLetter_60 rfl ?_
      refine m_getfield dX6_nextLetter_61 fl_X6_27 (by first | assumption | rfl) (by first | assumption | rfl) ?_
      show mW _ _ _ _ _ _ _ _ (.int _ :: _)
      refine m_baload dX6_nextLetter_64 (by first | assumption | rfl) (mIx_lit (show r < 60 by omega) (by decide)) ?_
      refine m_goto (t := 69) dX6_nextLetter_65 (by decide) ?_
      exact m_ireturn hF dX6_nextLetter_69 rfl rfl rfl ⟨by unfold ltrB; rw [← hv]; first | rw [if_pos hlt] | rw [if_neg hlt], by rw [← hv]⟩
    have hr := nI_cmp (by omega) (by omega) c8
    refine m_aload_n dX6_nextLetter_11 rfl ?_
    refine m_getfield dX6_nextLetter_12 fl_X6_11 (by first | assumption | rfl) (by first | assumption | rfl) ?_
    show mW _ _ _ _ _ _ _ _ (.ref _ :: _)
    refine m_aload_n dX6_nextLetter_15 rfl ?_
    refine m_getfield dX6_nextLetter_16 fl_X6_27 (by first | assumption | rfl) (by first | assumption | rfl) ?_
    show mW _ _ _ _ _ _ _ _ (.int _ :: _)
    refine m_baload dX6_nextLetter_19 (by first | assumption | rfl) (mIx_lit (show r < 60 by omega) (by decide)) ?_
    refine m_bipush (v := 32) dX6_nextLetter_20 (by decide) ?_
    refine m_icmp_ne (t := 38) dX6_nextLetter_22 (by decide) (fun c22 => ?_) (fun c22 => ?_)
    rotate_left
    · refine m_aload_n dX6_nextLetter_25 rfl ?_
      refine m_dup dX6_nextLetter_26 rfl ?_
      refine m_getfield dX6_nextLetter_27 fl_X6_27 (by first | assumption | rfl) (by first | assumption | rfl) ?_
      show mW _ _ _ _ _ _ _ _ (.int _ :: _)
      refine m_iconst (v := 1) dX6_nextLetter_30 (by decide) ?_
      refine m_iadd dX6_nextLetter_31 ?_
      refine m_ci (v := nI (r + 1)) (nI_1 r) ?_
      refine m_putfield dX6_nextLetter_32 fl_X6_27 (by first | assumption | rfl) (fun _ => rfl) (fun _ => rfl) ?_
      try rw [va_uu]
      rw [oTape_4]
      refine m_goto (t := 0) dX6_nextLetter_35 (by decide) ?_
      exact ih (r + 1) (by omega) (by omega) (by rw [← hv, skipB_go hr c22])
    have hend : skipB LT z r = r := skipB_end (by first | (rintro ⟨a1, a2⟩; exact absurd (nI_cmp' (by omega) (by omega) c8) (by omega)) | (rintro ⟨a1, a2⟩; exact c22 a2))
    rw [hend] at hv
    refine m_aload_n dX6_nextLetter_38 rfl ?_
    refine m_getfield dX6_nextLetter_39 fl_X6_27 (by first | assumption | rfl) (by first | assumption | rfl) ?_
    show mW _ _ _ _ _ _ _ _ (.int _ :: _)
    refine m_if_lt (t := 68) dX6_nextLetter_42 (by decide) (fun c42 => ?_) (fun c42 => ?_)
    · have hlt : ¬ r < z := by first | (have := nI_cmp' (by omega) (by omega) c53; omega) | exact absurd c42 (nI_pos (by omega))
      refine m_iconst (v := -1) dX6_nextLetter_68 (by decide) ?_
      exact m_ireturn hF dX6_nextLetter_69 rfl rfl rfl ⟨by unfold ltrB; rw [← hv]; first | rw [if_pos hlt] | rw [if_neg hlt], by rw [← hv]⟩
    refine m_aload_n dX6_nextLetter_45 rfl ?_
    refine m_getfield dX6_nextLetter_46 fl_X6_27 (by first | assumption | rfl) (by first | assumption | rfl) ?_
    show mW _ _ _ _ _ _ _ _ (.int _ :: _)
    refine m_aload_n dX6_nextLetter_49 rfl ?_
    refine m_getfield dX6_nextLetter_50 fl_X6_23 (by first | assumption | rfl) (by first | assumption | rfl) ?_
    show mW _ _ _ _ _ _ _ _ (.int _ :: _)
    refine m_icmp_ge (t := 68) dX6_nextLetter_53 (by decide) (fun c53 => ?_) (fun c53 => ?_)
    · have hlt : ¬ r < z := by first | (have := nI_cmp' (by omega) (by omega) c53; omega) | exact absurd c42 (nI_pos (by omega))
      refine m_iconst (v := -1) dX6_nextLetter_68 (by decide) ?_
      exact m_ireturn hF dX6_nextLetter_69 rfl rfl rfl ⟨by unfold ltrB; rw [← hv]; first | rw [if_pos hlt] | rw [if_neg hlt], by rw [← hv]⟩
    have hlt : r < z := nI_cmp (by omega) (by omega) c53
    refine m_aload_n dX6_nextLetter_56 rfl ?_
    refine m_getfield dX6_nextLetter_57 fl_X6_11 (by first | assumption | rfl) (by first | assumption | rfl) ?_
    show mW _ _ _ _ _ _ _ _ (.ref _ :: _)
    refine m_aload_n dX6_nextLetter_60 rfl ?_
    refine m_getfield dX6_nextLetter_61 fl_X6_27 (by first | assumption | rfl) (by first | assumption | rfl) ?_
    show mW _ _ _ _ _ _ _ _ (.int _ :: _)
    refine m_baload dX6_nextLetter_64 (by first | assumption | rfl) (mIx_lit (show r < 60 by omega) (by decide)) ?_
    refine m_goto (t := 69) dX6_nextLetter_65 (by decide) ?_
    exact m_ireturn hF dX6_nextLetter_69 rfl rfl rfl ⟨by unfold ltrB; rw [← hv]; first | rw [if_pos hlt] | rw [if_neg hlt], by rw [← hv]⟩

theorem t_X6_nextLetter {n : Nat} {hp : mHp} {LT : Nat → Int32} {z p : Nat} {tq fg pw : Int32} (h1 : hp 33 = eO 6 (oTape tq (nI z) (nI p) fg pw)) (h2 : hp 34 = eB 60 LT) (hz : z ≤ 60) (hpz : p ≤ z) : mC D_X6_nextLetter [.ref 33] n hp (rI (ltrB LT z p) (va_up hp 33 (eO 6 (oTape tq (nI z) (nI (skipB LT z p)) fg pw)))) := by
  refine m_enter rfl rfl (Nat.le_of_ble_eq_true rfl) (fun K hF => ?_)
  have := l_X6_nextLetter h1 h2 hz hpz hF (z + 1) p hpz (by omega) rfl
  rw [va_uid hp h1] at this
  exact this
theorem ltrB_lt {LT : Nat → Int32} {z p : Nat} (h : ltrB LT z p ≠ -1) : skipB LT z p < z := by
  unfold ltrB at h
  by_cases e : skipB LT z p < z
  · exact e
  · rw [if_neg e] at h
    exact absurd rfl h
theorem ltrB_ge {LT : Nat → Int32} {z p : Nat} {a : Int32} (h : ¬ ltrB LT z p < a) (ha : 0 ≤ a) : skipB LT z p < z := by
  apply ltrB_lt
  intro e
  rw [e] at h
  apply h
  rw [Int32.lt_iff_toInt_lt]
  rw [Int32.le_iff_toInt_le] at ha
  have : (-1 : Int32).toInt = -1 := by decide
  have : (0 : Int32).toInt = 0 := by decide
  omega
theorem ltrB_eq {LT : Nat → Int32} {z p : Nat} {a : Int32} (h : ltrB LT z p = a) (ha : a ≠ -1) : skipB LT z p < z := ltrB_lt (by rw [h]; exact ha)
/-- a figure's number -/
def digN (l : Int32) : Nat := (l - 48).toInt.toNat
theorem digN_of {l a b : Int32} (h1 : ¬ l < a) (h2 : ¬ b < l) (ha : 48 ≤ a.toInt) (hb : b.toInt ≤ 57) : l - 48 = nI (digN l) ∧ (digN l : Int) = l.toInt - 48 := by
  rw [Int32.lt_iff_toInt_lt] at h1 h2
  have e : (l - 48).toInt = l.toInt - 48 := by
    rw [Int32.toInt_sub]
    have : (48 : Int32).toInt = 48 := by decide
    rw [this]
    exact bmod32 (by omega) (by omega)
  unfold digN
  refine ⟨?_, by rw [e]; omega⟩
  apply Int32.toInt_inj.mp
  rw [nI_toInt (by rw [e]; omega), e]
  omega
/-- a power, behind its s: its number, and the place behind it -/
def cPow (LT : Nat → Int32) (z p : Nat) : Nat × Nat := if ltrB LT z p < 50 then (1, skipB LT z p) else if 52 < ltrB LT z p then (1, skipB LT z p) else (digN (ltrB LT z p), skipB LT z p + 1)
theorem cPow_ok {LT : Nat → Int32} {z p : Nat} (h : p ≤ z) : (cPow LT z p).1 ≤ 4 ∧ 1 ≤ (cPow LT z p).1 ∧ (cPow LT z p).2 ≤ z ∧ p ≤ (cPow LT z p).2 := by
  unfold cPow
  have h1 := skipB_z (LT := LT) h
  have h2 := skipB_p (LT := LT) h
  by_cases c1 : ltrB LT z p < 50
  · rw [if_pos c1]
    exact ⟨Nat.le_of_ble_eq_true rfl, Nat.le_of_ble_eq_true rfl, h1, h2⟩
  · rw [if_neg c1]
    by_cases c2 : 52 < ltrB LT z p
    · rw [if_pos c2]
      exact ⟨Nat.le_of_ble_eq_true rfl, Nat.le_of_ble_eq_true rfl, h1, h2⟩
    · rw [if_neg c2]
      have h3 := ltrB_ge c1 (by decide)
      have h4 := (digN_of c1 c2 (by decide) (by decide)).2
      rw [Int32.lt_iff_toInt_lt] at c1 c2
      have e1 : (50 : Int32).toInt = 50 := by decide
      have e2 : (52 : Int32).toInt = 52 := by decide
      refine ⟨?_, ?_, by dsimp only; omega, by dsimp only; omega⟩ <;> dsimp only <;> omega
theorem t_X6_append {n : Nat} {hp : mHp} {LT : Nat → Int32} {z : Nat} {tq pl fg pw l : Int32} (h1 : hp 33 = eO 6 (oTape tq (nI z) pl fg pw)) (h2 : hp 34 = eB 60 LT) (hz : z ≤ 60) : mC D_X6_append [.ref 33, .int l] n hp (rI (if nI z < 60 then 1 else 0) (if nI z < 60 then va_up (va_up hp 34 (eB 60 (va_up LT z (vp_nar .byte l.toInt8.toInt32)))) 33 (eO 6 (oTape tq (nI (z + 1)) pl fg pw)) else hp)) := by
  refine m_enter rfl rfl (Nat.le_of_ble_eq_true rfl) (fun K hF => ?_)
  show mW K _ 0 0 _ _ 0 [.ref 33, .int l] []
  refine m_aload_n dX6_append_0 rfl ?_
  refine m_getfield dX6_append_1 fl_X6_23 (by first | assumption | rfl) (by first | assumption | rfl) ?_
  show mW _ _ _ _ _ _ _ _ (.int _ :: _)
  refine m_bipush (v := 60) dX6_append_4 (by decide) ?_
  refine m_icmp_lt (t := 11) dX6_append_6 (by decide) (fun c6 => ?_) (fun c6 => ?_)
  rotate_left
  · refine m_iconst (v := 0) dX6_append_9 (by decide) ?_
    exact m_zreturn hF dX6_append_10 rfl rfl rfl rfl ⟨by simp only [if_neg c6], by simp only [if_neg c6]⟩
  have hlt : z < 60 := by
    rcases Nat.lt_or_ge z 60 with q | q
    · exact q
    · exact absurd c6 (nI_nlt (b := 60) q (by omega))
  refine m_aload_n dX6_append_11 rfl ?_
  refine m_getfield dX6_append_12 fl_X6_11 (by first | assumption | rfl) (by first | assumption | rfl) ?_
  show mW _ _ _ _ _ _ _ _ (.ref _ :: _)
  refine m_aload_n dX6_append_15 rfl ?_
  refine m_getfield dX6_append_16 fl_X6_23 (by first | assumption | rfl) (by first | assumption | rfl) ?_
  show mW _ _ _ _ _ _ _ _ (.int _ :: _)
  refine m_iload_n dX6_append_19 rfl ?_
  refine m_i2b dX6_append_20 ?_
  refine m_bastore dX6_append_21 (by first | assumption | rfl) (mIx_lit hlt (by decide)) ?_
  try rw [va_uu]
  refine m_aload_n dX6_append_22 rfl ?_
  refine m_dup dX6_append_23 rfl ?_
  refine m_getfield dX6_append_24 fl_X6_23 (by first | assumption | rfl) (by first | assumption | rfl) ?_
  show mW _ _ _ _ _ _ _ _ (.int _ :: _)
  refine m_iconst (v := 1) dX6_append_27 (by decide) ?_
  refine m_iadd dX6_append_28 ?_
  refine m_ci (v := nI (z + 1)) (nI_1 z) ?_
  refine m_putfield dX6_append_29 fl_X6_23 (by first | assumption | rfl) (fun _ => rfl) (fun _ => rfl) ?_
  try rw [va_uu]
  rw [oTape_3]
  refine m_iconst (v := 1) dX6_append_32 (by decide) ?_
  exact m_zreturn hF dX6_append_33 rfl rfl rfl rfl ⟨by simp only [if_pos c6], by simp only [if_pos c6]⟩

theorem t_X6_readPower {n : Nat} {hp : mHp} {LT : Nat → Int32} {z p : Nat} {tq fg pw : Int32} (h1 : hp 33 = eO 6 (oTape tq (nI z) (nI p) fg pw)) (h2 : hp 34 = eB 60 LT) (hz : z ≤ 60) (hpz : p ≤ z) : mC D_X6_readPower [.ref 33] n hp (rV (va_up hp 33 (eO 6 (oTape tq (nI z) (nI (cPow LT z p).2) (fg) (nI (cPow LT z p).1))))) := by
  refine m_enter rfl rfl (Nat.le_of_ble_eq_true rfl) (fun K hF => ?_)
  show mW K _ 0 0 _ _ 0 [.ref 33, .retAddr 0] []
  refine m_aload_n dX6_readPower_0 rfl ?_
  refine m_invV_I dX6_readPower_1 lk_X6_46 ar_X6_nextLetter (ci := 6) rfl rfl (by first | assumption | rfl) (t_X6_nextLetter (by first | assumption | rfl) (by first | assumption | rfl) (by first | assumption | rfl) (by first | assumption | rfl)) rfl (Nat.le_of_ble_eq_true rfl) (by decide) (by decide) (by decide) (by decide) rfl rfl ?_
  try rw [va_uu]
  refine m_istore_n dX6_readPower_4 (by decide) ?_
  show mW _ _ _ _ _ _ 5 [_, _] _
  refine m_aload_n dX6_readPower_5 rfl ?_
  refine m_iconst (v := 1) dX6_readPower_6 (by decide) ?_
  refine m_putfield dX6_readPower_7 fl_X6_33 (by first | assumption | rfl) (fun _ => rfl) (fun _ => rfl) ?_
  try rw [va_uu]
  rw [oTape_6]
  refine m_iload_n dX6_readPower_10 rfl ?_
  refine m_bipush (v := 50) dX6_readPower_11 (by decide) ?_
  refine m_icmp_lt (t := 40) dX6_readPower_13 (by decide) (fun c13 => ?_) (fun c13 => ?_)
  · exact m_return hF dX6_readPower_40 rfl rfl rfl ⟨rfl, by unfold cPow; simp only [if_pos c13] <;> rfl⟩
  refine m_iload_n dX6_readPower_16 rfl ?_
  refine m_bipush (v := 52) dX6_readPower_17 (by decide) ?_
  refine m_icmp_gt (t := 40) dX6_readPower_19 (by decide) (fun c19 => ?_) (fun c19 => ?_)
  · exact m_return hF dX6_readPower_40 rfl rfl rfl ⟨rfl, by unfold cPow; simp only [if_neg c13, if_pos c19] <;> rfl⟩
  refine m_aload_n dX6_readPower_22 rfl ?_
  refine m_iload_n dX6_readPower_23 rfl ?_
  refine m_bipush (v := 48) dX6_readPower_24 (by decide) ?_
  refine m_isub dX6_readPower_26 ?_
  refine m_ci (v := nI (digN (ltrB LT z p))) (digN_of c13 c19 (by decide) (by decide)).1 ?_
  refine m_putfield dX6_readPower_27 fl_X6_33 (by first | assumption | rfl) (fun _ => rfl) (fun _ => rfl) ?_
  try rw [va_uu]
  rw [oTape_6]
  refine m_aload_n dX6_readPower_30 rfl ?_
  refine m_dup dX6_readPower_31 rfl ?_
  refine m_getfield dX6_readPower_32 fl_X6_27 (by first | assumption | rfl) (by first | assumption | rfl) ?_
  show mW _ _ _ _ _ _ _ _ (.int _ :: _)
  refine m_iconst (v := 1) dX6_readPower_35 (by decide) ?_
  refine m_iadd dX6_readPower_36 ?_
  refine m_ci (v := nI (skipB LT z p + 1)) (nI_1 _) ?_
  refine m_putfield dX6_readPower_37 fl_X6_27 (by first | assumption | rfl) (fun _ => rfl) (fun _ => rfl) ?_
  try rw [va_uu]
  rw [oTape_4]
  exact m_return hF dX6_readPower_40 rfl rfl rfl ⟨rfl, by unfold cPow; simp only [if_neg c13, if_neg c19] <;> rfl⟩

/-- a TERM: 1 (read) or 0, its figure, its power, the place behind it -/
def cTermS (LT : Nat → Int32) (z q : Nat) (fg l : Int32) : Int32 × Int32 × Nat × Nat := if l = 115 then (1, fg, cPow LT z (q + 1)) else (1, fg, 0, q)
def cTerm (LT : Nat → Int32) (z p : Nat) : Int32 × Int32 × Nat × Nat :=
  if ltrB LT z p < 49 then if ltrB LT z p = 115 then (1, 1, cPow LT z (skipB LT z p + 1)) else (0, 1, 0, skipB LT z p)
  else if 57 < ltrB LT z p then if ltrB LT z p = 115 then (1, 1, cPow LT z (skipB LT z p + 1)) else (0, 1, 0, skipB LT z p)
  else if ltrB LT z (skipB LT z p + 1) = 115 then (1, nI (digN (ltrB LT z p)), cPow LT z (skipB LT z (skipB LT z p + 1) + 1)) else (1, nI (digN (ltrB LT z p)), 0, skipB LT z (skipB LT z p + 1))
set_option maxHeartbeats 4000000 in
set_option maxRecDepth 100000 in
theorem t_X6_readTerm {n : Nat} {hp : mHp} {LT : Nat → Int32} {z p : Nat} {tq fg pw : Int32} (h1 : hp 33 = eO 6 (oTape tq (nI z) (nI p) fg pw)) (h2 : hp 34 = eB 60 LT) (hz : z ≤ 60) (hpz : p ≤ z) : mC D_X6_readTerm [.ref 33] n hp (rI (cTerm LT z p).1 (va_up hp 33 (eO 6 (oTape tq (nI z) (nI (cTerm LT z p).2.2.2) ((cTerm LT z p).2.1) (nI (cTerm LT z p).2.2.1))))) := by
  refine m_enter rfl rfl (Nat.le_of_ble_eq_true rfl) (fun K hF => ?_)
  show mW K _ 0 0 _ _ 0 [.ref 33, .retAddr 0] []
  have hq := skipB_z (LT := LT) hpz
  refine m_aload_n dX6_readTerm_0 rfl ?_
  refine m_invV_I dX6_readTerm_1 lk_X6_46 ar_X6_nextLetter (ci := 6) rfl rfl (by first | assumption | rfl) (t_X6_nextLetter (by first | assumption | rfl) (by first | assumption | rfl) (by first | assumption | rfl) (by first | assumption | rfl)) rfl (Nat.le_of_ble_eq_true rfl) (by decide) (by decide) (by decide) (by decide) rfl rfl ?_
  try rw [va_uu]
  refine m_istore_n dX6_readTerm_4 (by decide) ?_
  show mW _ _ _ _ _ _ 5 [_, _] _
  refine m_aload_n dX6_readTerm_5 rfl ?_
  refine m_iconst (v := 1) dX6_readTerm_6 (by decide) ?_
  refine m_putfield dX6_readTerm_7 fl_X6_30 (by first | assumption | rfl) (fun _ => rfl) (fun _ => rfl) ?_
  try rw [va_uu]
  rw [oTape_5]
  refine m_aload_n dX6_readTerm_10 rfl ?_
  refine m_iconst (v := 0) dX6_readTerm_11 (by decide) ?_
  refine m_putfield dX6_readTerm_12 fl_X6_33 (by first | assumption | rfl) (fun _ => rfl) (fun _ => rfl) ?_
  try rw [va_uu]
  rw [oTape_6]
  refine m_iload_n dX6_readTerm_15 rfl ?_
  refine m_bipush (v := 49) dX6_readTerm_16 (by decide) ?_
  refine m_icmp_lt (t := 53) dX6_readTerm_18 (by decide) (fun c18 => ?_) (fun c18 => ?_)
  · refine m_iload_n dX6_readTerm_53 rfl ?_
    refine m_bipush (v := 115) dX6_readTerm_54 (by decide) ?_
    refine m_icmp_eq (t := 61) dX6_readTerm_56 (by decide) (fun c56 => ?_) (fun c56 => ?_)
    rotate_left
    · refine m_iconst (v := 0) dX6_readTerm_59 (by decide) ?_
      exact m_zreturn hF dX6_readTerm_60 rfl rfl rfl rfl (by first | (exact absurd (by assumption) (by assumption : ¬ ltrB LT z p = 115)) | exact ⟨by unfold cTerm; simp only [if_pos c18, if_neg c56] <;> rfl, by unfold cTerm; simp only [if_pos c18, if_neg c56] <;> rfl⟩)
    refine m_iload_n dX6_readTerm_61 rfl ?_
    refine m_bipush (v := 115) dX6_readTerm_62 (by decide) ?_
    refine m_icmp_ne (t := 81) dX6_readTerm_64 (by decide) (fun q => absurd c56 q) (fun _ => ?_)
    first | have hlt2 := ltrB_eq (by assumption) (by decide) | skip
    refine m_aload_n dX6_readTerm_67 rfl ?_
    refine m_dup dX6_readTerm_68 rfl ?_
    refine m_getfield dX6_readTerm_69 fl_X6_27 (by first | assumption | rfl) (by first | assumption | rfl) ?_
    show mW _ _ _ _ _ _ _ _ (.int _ :: _)
    refine m_iconst (v := 1) dX6_readTerm_72 (by decide) ?_
    refine m_iadd dX6_readTerm_73 ?_
    first | refine m_ci (v := nI (skipB LT z (skipB LT z p + 1) + 1)) (nI_1 _) ?_ | refine m_ci (v := nI (skipB LT z p + 1)) (nI_1 _) ?_
    refine m_putfield dX6_readTerm_74 fl_X6_27 (by first | assumption | rfl) (fun _ => rfl) (fun _ => rfl) ?_
    try rw [va_uu]
    rw [oTape_4]
    refine m_aload_n dX6_readTerm_77 rfl ?_
    refine m_invV_V dX6_readTerm_78 lk_X6_54 ar_X6_readPower (ci := 6) rfl rfl (by first | assumption | rfl) (t_X6_readPower (by first | assumption | rfl) (by first | assumption | rfl) hz (by first | exact ltrB_eq (by assumption) (by decide) | omega)) rfl (Nat.le_of_ble_eq_true rfl) (by decide) (by decide) (by decide) (by decide) rfl rfl ?_
    try rw [va_uu]
    refine m_iconst (v := 1) dX6_readTerm_81 (by decide) ?_
    exact m_zreturn hF dX6_readTerm_82 rfl rfl rfl rfl (by first | (exact absurd (by assumption) (by assumption : ¬ ltrB LT z p = 115)) | exact ⟨by unfold cTerm; simp only [if_pos c18, if_pos c56] <;> rfl, by unfold cTerm; simp only [if_pos c18, if_pos c56] <;> rfl⟩)
  refine m_iload_n dX6_readTerm_21 rfl ?_
  refine m_bipush (v := 57) dX6_readTerm_22 (by decide) ?_
  refine m_icmp_gt (t := 53) dX6_readTerm_24 (by decide) (fun c24 => ?_) (fun c24 => ?_)
  · refine m_iload_n dX6_readTerm_53 rfl ?_
    refine m_bipush (v := 115) dX6_readTerm_54 (by decide) ?_
    refine m_icmp_eq (t := 61) dX6_readTerm_56 (by decide) (fun c56_1 => ?_) (fun c56_1 => ?_)
    rotate_left
    · refine m_iconst (v := 0) dX6_readTerm_59 (by decide) ?_
      exact m_zreturn hF dX6_readTerm_60 rfl rfl rfl rfl (by first | (exact absurd (by assumption) (by assumption : ¬ ltrB LT z p = 115)) | exact ⟨by unfold cTerm; simp only [if_neg c18, if_pos c24, if_neg c56_1] <;> rfl, by unfold cTerm; simp only [if_neg c18, if_pos c24, if_neg c56_1] <;> rfl⟩)
    refine m_iload_n dX6_readTerm_61 rfl ?_
    refine m_bipush (v := 115) dX6_readTerm_62 (by decide) ?_
    refine m_icmp_ne (t := 81) dX6_readTerm_64 (by decide) (fun q => absurd c56_1 q) (fun _ => ?_)
    first | have hlt2 := ltrB_eq (by assumption) (by decide) | skip
    refine m_aload_n dX6_readTerm_67 rfl ?_
    refine m_dup dX6_readTerm_68 rfl ?_
    refine m_getfield dX6_readTerm_69 fl_X6_27 (by first | assumption | rfl) (by first | assumption | rfl) ?_
    show mW _ _ _ _ _ _ _ _ (.int _ :: _)
    refine m_iconst (v := 1) dX6_readTerm_72 (by decide) ?_
    refine m_iadd dX6_readTerm_73 ?_
    first | refine m_ci (v := nI (skipB LT z (skipB LT z p + 1) + 1)) (nI_1 _) ?_ | refine m_ci (v := nI (skipB LT z p + 1)) (nI_1 _) ?_
    refine m_putfield dX6_readTerm_74 fl_X6_27 (by first | assumption | rfl) (fun _ => rfl) (fun _ => rfl) ?_
    try rw [va_uu]
    rw [oTape_4]
    refine m_aload_n dX6_readTerm_77 rfl ?_
    refine m_invV_V dX6_readTerm_78 lk_X6_54 ar_X6_readPower (ci := 6) rfl rfl (by first | assumption | rfl) (t_X6_readPower (by first | assumption | rfl) (by first | assumption | rfl) hz (by first | exact ltrB_eq (by assumption) (by decide) | omega)) rfl (Nat.le_of_ble_eq_true rfl) (by decide) (by decide) (by decide) (by decide) rfl rfl ?_
    try rw [va_uu]
    refine m_iconst (v := 1) dX6_readTerm_81 (by decide) ?_
    exact m_zreturn hF dX6_readTerm_82 rfl rfl rfl rfl (by first | (exact absurd (by assumption) (by assumption : ¬ ltrB LT z p = 115)) | exact ⟨by unfold cTerm; simp only [if_neg c18, if_pos c24, if_pos c56_1] <;> rfl, by unfold cTerm; simp only [if_neg c18, if_pos c24, if_pos c56_1] <;> rfl⟩)
  refine m_aload_n dX6_readTerm_27 rfl ?_
  refine m_iload_n dX6_readTerm_28 rfl ?_
  refine m_bipush (v := 48) dX6_readTerm_29 (by decide) ?_
  refine m_isub dX6_readTerm_31 ?_
  have hlt := ltrB_ge c18 (by decide)
  refine m_ci (v := nI (digN (ltrB LT z p))) (digN_of c18 c24 (by decide) (by decide)).1 ?_
  refine m_putfield dX6_readTerm_32 fl_X6_30 (by first | assumption | rfl) (fun _ => rfl) (fun _ => rfl) ?_
  try rw [va_uu]
  rw [oTape_5]
  refine m_aload_n dX6_readTerm_35 rfl ?_
  refine m_dup dX6_readTerm_36 rfl ?_
  refine m_getfield dX6_readTerm_37 fl_X6_27 (by first | assumption | rfl) (by first | assumption | rfl) ?_
  show mW _ _ _ _ _ _ _ _ (.int _ :: _)
  refine m_iconst (v := 1) dX6_readTerm_40 (by decide) ?_
  refine m_iadd dX6_readTerm_41 ?_
  refine m_ci (v := nI (skipB LT z p + 1)) (nI_1 _) ?_
  refine m_putfield dX6_readTerm_42 fl_X6_27 (by first | assumption | rfl) (fun _ => rfl) (fun _ => rfl) ?_
  try rw [va_uu]
  rw [oTape_4]
  refine m_aload_n dX6_readTerm_45 rfl ?_
  refine m_invV_I dX6_readTerm_46 lk_X6_46 ar_X6_nextLetter (ci := 6) rfl rfl (by first | assumption | rfl) (t_X6_nextLetter (by first | assumption | rfl) (by first | assumption | rfl) hz (by omega)) rfl (Nat.le_of_ble_eq_true rfl) (by decide) (by decide) (by decide) (by decide) rfl rfl ?_
  try rw [va_uu]
  have hq2 := skipB_z (LT := LT) (show skipB LT z p + 1 ≤ z from hlt)
  refine m_istore_n dX6_readTerm_49 (by decide) ?_
  show mW _ _ _ _ _ _ 50 [_, _] _
  refine m_goto (t := 61) dX6_readTerm_50 (by decide) ?_
  refine m_iload_n dX6_readTerm_61 rfl ?_
  refine m_bipush (v := 115) dX6_readTerm_62 (by decide) ?_
  refine m_icmp_ne (t := 81) dX6_readTerm_64 (by decide) (fun c64 => ?_) (fun c64 => ?_)
  · refine m_iconst (v := 1) dX6_readTerm_81 (by decide) ?_
    exact m_zreturn hF dX6_readTerm_82 rfl rfl rfl rfl (by first | (exact absurd (by assumption) (by assumption : ¬ ltrB LT z p = 115)) | exact ⟨by unfold cTerm; simp only [if_neg c18, if_neg c24, if_neg c64] <;> rfl, by unfold cTerm; simp only [if_neg c18, if_neg c24, if_neg c64] <;> rfl⟩)
  first | have hlt2 := ltrB_eq (by assumption) (by decide) | skip
  refine m_aload_n dX6_readTerm_67 rfl ?_
  refine m_dup dX6_readTerm_68 rfl ?_
  refine m_getfield dX6_readTerm_69 fl_X6_27 (by first | assumption | rfl) (by first | assumption | rfl) ?_
  show mW _ _ _ _ _ _ _ _ (.int _ :: _)
  refine m_iconst (v := 1) dX6_readTerm_72 (by decide) ?_
  refine m_iadd dX6_readTerm_73 ?_
  first | refine m_ci (v := nI (skipB LT z (skipB LT z p + 1) + 1)) (nI_1 _) ?_ | refine m_ci (v := nI (skipB LT z p + 1)) (nI_1 _) ?_
  refine m_putfield dX6_readTerm_74 fl_X6_27 (by first | assumption | rfl) (fun _ => rfl) (fun _ => rfl) ?_
  try rw [va_uu]
  rw [oTape_4]
  refine m_aload_n dX6_readTerm_77 rfl ?_
  refine m_invV_V dX6_readTerm_78 lk_X6_54 ar_X6_readPower (ci := 6) rfl rfl (by first | assumption | rfl) (t_X6_readPower (by first | assumption | rfl) (by first | assumption | rfl) hz (by first | exact ltrB_eq (by assumption) (by decide) | omega)) rfl (Nat.le_of_ble_eq_true rfl) (by decide) (by decide) (by decide) (by decide) rfl rfl ?_
  try rw [va_uu]
  refine m_iconst (v := 1) dX6_readTerm_81 (by decide) ?_
  exact m_zreturn hF dX6_readTerm_82 rfl rfl rfl rfl (by first | (exact absurd (by assumption) (by assumption : ¬ ltrB LT z p = 115)) | exact ⟨by unfold cTerm; simp only [if_neg c18, if_neg c24, if_pos c64] <;> rfl, by unfold cTerm; simp only [if_neg c18, if_neg c24, if_pos c64] <;> rfl⟩)

theorem cTerm_ok {LT : Nat → Int32} {z p : Nat} (h : p ≤ z) : (cTerm LT z p).2.2.1 ≤ 4 ∧ (cTerm LT z p).2.2.2 ≤ z ∧ p ≤ (cTerm LT z p).2.2.2 ∧ ((cTerm LT z p).1 ≠ 0 → p < (cTerm LT z p).2.2.2) := by
  have h1 := skipB_z (LT := LT) h
  have h2 := skipB_p (LT := LT) h
  have S : ltrB LT z p = 115 → cPow LT z (skipB LT z p + 1) = cPow LT z (skipB LT z p + 1) ∧ (cPow LT z (skipB LT z p + 1)).1 ≤ 4 ∧ (cPow LT z (skipB LT z p + 1)).2 ≤ z ∧ p < (cPow LT z (skipB LT z p + 1)).2 := fun e => by
    have h3 := ltrB_eq e (by decide)
    have h4 := cPow_ok (LT := LT) (show skipB LT z p + 1 ≤ z from h3)
    exact ⟨rfl, h4.1, h4.2.2.1, by omega⟩
  have T : ∀ b : Bool, (if ltrB LT z p = 115 then ((1 : Int32), (1 : Int32), cPow LT z (skipB LT z p + 1)) else (0, 1, 0, skipB LT z p)).2.2.1 ≤ 4 ∧ (if ltrB LT z p = 115 then ((1 : Int32), (1 : Int32), cPow LT z (skipB LT z p + 1)) else (0, 1, 0, skipB LT z p)).2.2.2 ≤ z ∧ p ≤ (if ltrB LT z p = 115 then ((1 : Int32), (1 : Int32), cPow LT z (skipB LT z p + 1)) else (0, 1, 0, skipB LT z p)).2.2.2 ∧ ((if ltrB LT z p = 115 then ((1 : Int32), (1 : Int32), cPow LT z (skipB LT z p + 1)) else (0, 1, 0, skipB LT z p)).1 ≠ 0 → p < (if ltrB LT z p = 115 then ((1 : Int32), (1 : Int32), cPow LT z (skipB LT z p + 1)) else (0, 1, 0, skipB LT z p)).2.2.2) := fun _ => by
    by_cases e : ltrB LT z p = 115
    · simp only [if_pos e]
      obtain ⟨-, a1, a2, a3⟩ := S e
      exact ⟨a1, a2, Nat.le_of_lt a3, fun _ => a3⟩
    · simp only [if_neg e]
      exact ⟨Nat.zero_le _, h1, h2, fun q => absurd rfl q⟩
  unfold cTerm
  by_cases c1 : ltrB LT z p < 49
  · simp only [if_pos c1]
    exact T true
  · simp only [if_neg c1]
    by_cases c2 : 57 < ltrB LT z p
    · simp only [if_pos c2]
      exact T true
    · simp only [if_neg c2]
      have h3 := ltrB_ge c1 (by decide)
      have h5 := skipB_z (LT := LT) (show skipB LT z p + 1 ≤ z from h3)
      have h6 := skipB_p (LT := LT) (show skipB LT z p + 1 ≤ z from h3)
      by_cases c3 : ltrB LT z (skipB LT z p + 1) = 115
      · simp only [if_pos c3]
        have h7 := ltrB_eq c3 (by decide)
        have h4 := cPow_ok (LT := LT) (show skipB LT z (skipB LT z p + 1) + 1 ≤ z from h7)
        refine ⟨h4.1, h4.2.2.1, ?_, fun _ => ?_⟩ <;> omega
      · simp only [if_neg c3]
        refine ⟨Nat.zero_le _, h5, ?_, fun _ => ?_⟩ <;> omega
/-- TERMS from p on, each with its sign gone by: what is answered (-1: no fault), the PARTS, then figure, power, place as they are left -/
def cTerms (LT : Nat → Int32) (z b : Nat) : Nat → Int32 → Int32 → Int32 → Nat → Nat → (Nat → Int32) → Int32 × (Nat → Int32) × Int32 × Nat × Nat
  | 0, _, _, fg, pw, p, P => (nI p, P, fg, pw, p)
  | m + 1, la, sg, _, _, p, P =>
    if (cTerm LT z (skipB LT z p)).1 = 0 then (nI (skipB LT z p), P, (cTerm LT z (skipB LT z p)).2)
    else if nI (cTerm LT z (skipB LT z p)).2.2.1 < la then
      if ltrB LT z (cTerm LT z (skipB LT z p)).2.2.2 = 43 then cTerms LT z b m (nI (cTerm LT z (skipB LT z p)).2.2.1) 1 (cTerm LT z (skipB LT z p)).2.1 (cTerm LT z (skipB LT z p)).2.2.1 (skipB LT z (cTerm LT z (skipB LT z p)).2.2.2 + 1) (va_up P (b + (cTerm LT z (skipB LT z p)).2.2.1) (sg * (cTerm LT z (skipB LT z p)).2.1))
      else if ltrB LT z (cTerm LT z (skipB LT z p)).2.2.2 = 45 then cTerms LT z b m (nI (cTerm LT z (skipB LT z p)).2.2.1) (-1) (cTerm LT z (skipB LT z p)).2.1 (cTerm LT z (skipB LT z p)).2.2.1 (skipB LT z (cTerm LT z (skipB LT z p)).2.2.2 + 1) (va_up P (b + (cTerm LT z (skipB LT z p)).2.2.1) (sg * (cTerm LT z (skipB LT z p)).2.1))
      else (-1, va_up P (b + (cTerm LT z (skipB LT z p)).2.2.1) (sg * (cTerm LT z (skipB LT z p)).2.1), (cTerm LT z (skipB LT z p)).2.1, (cTerm LT z (skipB LT z p)).2.2.1, skipB LT z (cTerm LT z (skipB LT z p)).2.2.2)
    else (nI (skipB LT z p), P, (cTerm LT z (skipB LT z p)).2)
set_option maxHeartbeats 4000000 in
set_option maxRecDepth 100000 in
theorem l_X6_readTerms {n : Nat} {hp : mHp} {LT : Nat → Int32} {z b : Nat} {tq : Int32} (h1 : hp 34 = eB 60 LT) (hz : z ≤ 60) (hb : b ≤ 5) {X : Int32 × (Nat → Int32) × Int32 × Nat × Nat} {K : mK} (hF : mFin K D_X6_readTerms n (rI (X).1 (va_up (va_up hp 35 (eI 10 (X.2.1))) 33 (eO 6 (oTape tq (nI z) (nI (X.2.2.2.2)) (X.2.2.1) (nI (X.2.2.2.1))))))) : ∀ m k : Nat, ∀ (la sg : Int32) (v5 v6 : Value) (fg : Int32) (pw p : Nat) (P : Nat → Int32), p ≤ z → k + m = 60 → cTerms LT z b m la sg fg pw p P = X → mW K D_X6_readTerms 0 0 n (va_up (va_up hp 35 (eI 10 (P))) 33 (eO 6 (oTape tq (nI z) (nI (p)) (fg) (nI (pw))))) 28 [.ref 33, .int (nI b), .int la, .int sg, .int (nI k), v5, v6] [] := by
  intro m
  induction m using Nat.strongRecOn with
  | ind m ih =>
    intro k la sg v5 v6 fg pw p P hpz hk hv
    have a1 : va_up (va_up hp 35 (eI 10 (P))) 33 (eO 6 (oTape tq (nI z) (nI (p)) (fg) (nI (pw)))) 34 = eB 60 LT := h1
    have a2 : va_up (va_up hp 35 (eI 10 (P))) 33 (eO 6 (oTape tq (nI z) (nI (p)) (fg) (nI (pw)))) 33 = eO 6 (oTape tq (nI z) (nI p) fg (nI pw)) := rfl
    have a3 : va_up (va_up hp 35 (eI 10 (P))) 33 (eO 6 (oTape tq (nI z) (nI (p)) (fg) (nI (pw)))) 35 = eI 10 P := rfl
    refine m_iload dX6_readTerms_28 rfl ?_
    refine m_bipush (v := 60) dX6_readTerms_30 (by decide) ?_
    refine m_icmp_ge (t := 137) dX6_readTerms_32 (by decide) (fun c32 => ?_) (fun c32 => ?_)
    · have hm : m = 0 := by have := nI_cmp' (b := 60) (by decide) (by omega) c32; omega
      subst hm
      refine m_aload_n dX6_readTerms_137 rfl ?_
      refine m_getfield dX6_readTerms_138 fl_X6_27 (by first | assumption | rfl) (by first | assumption | rfl) ?_
      show mW _ _ _ _ _ _ _ _ (.int _ :: _)
      exact m_ireturn hF dX6_readTerms_141 rfl rfl rfl ⟨by rw [← hv, cTerms], by rw [← hv, cTerms]⟩
    obtain ⟨m, rfl⟩ : ∃ m', m = m' + 1 := ⟨m - 1, by have := nI_cmp (b := 60) (by decide) (by omega) c32; omega⟩
    have hq := skipB_z (LT := LT) hpz
    have hT := cTerm_ok (LT := LT) hq
    refine m_aload_n dX6_readTerms_35 rfl ?_
    refine m_invV_I dX6_readTerms_36 lk_X6_46 ar_X6_nextLetter (ci := 6) rfl rfl (by first | assumption | rfl) (t_X6_nextLetter (by first | assumption | rfl) (by first | assumption | rfl) hz hpz) rfl (Nat.le_of_ble_eq_true rfl) (by decide) (by decide) (by decide) (by decide) rfl rfl ?_
    try rw [va_uu]
    refine m_pop dX6_readTerms_39 rfl ?_
    refine m_aload_n dX6_readTerms_40 rfl ?_
    refine m_getfield dX6_readTerms_41 fl_X6_27 (by first | assumption | rfl) (by first | assumption | rfl) ?_
    show mW _ _ _ _ _ _ _ _ (.int _ :: _)
    refine m_istore dX6_readTerms_44 (by decide) ?_
    show mW _ _ _ _ _ _ 46 [_, _, _, _, _, _, _] _
    refine m_aload_n dX6_readTerms_46 rfl ?_
    refine m_invV_I dX6_readTerms_47 lk_X6_50 ar_X6_readTerm (ci := 6) rfl rfl (by first | assumption | rfl) (t_X6_readTerm (by first | assumption | rfl) (by first | assumption | rfl) hz hq) rfl (Nat.le_of_ble_eq_true rfl) (by decide) (by decide) (by decide) (by decide) rfl rfl ?_
    try rw [va_uu]
    refine m_if_eq (t := 61) dX6_readTerms_50 (by decide) (fun c50 => ?_) (fun c50 => ?_)
    · refine m_iload dX6_readTerms_61 rfl ?_
      exact m_ireturn hF dX6_readTerms_63 rfl rfl rfl ⟨by rw [← hv, cTerms]; first | rw [if_pos c50] | rw [if_neg c50, if_neg c58], by rw [← hv, cTerms]; first | rw [if_pos c50] | rw [if_neg c50, if_neg c58]⟩
    refine m_aload_n dX6_readTerms_53 rfl ?_
    refine m_getfield dX6_readTerms_54 fl_X6_33 (by first | assumption | rfl) (by first | assumption | rfl) ?_
    show mW _ _ _ _ _ _ _ _ (.int _ :: _)
    refine m_iload_n dX6_readTerms_57 rfl ?_
    refine m_icmp_lt (t := 64) dX6_readTerms_58 (by decide) (fun c58 => ?_) (fun c58 => ?_)
    rotate_left
    · refine m_iload dX6_readTerms_61 rfl ?_
      exact m_ireturn hF dX6_readTerms_63 rfl rfl rfl ⟨by rw [← hv, cTerms]; first | rw [if_pos c50] | rw [if_neg c50, if_neg c58], by rw [← hv, cTerms]; first | rw [if_pos c50] | rw [if_neg c50, if_neg c58]⟩
    refine m_aload_n dX6_readTerms_64 rfl ?_
    refine m_getfield dX6_readTerms_65 fl_X6_15 (by first | assumption | rfl) (by first | assumption | rfl) ?_
    show mW _ _ _ _ _ _ _ _ (.ref _ :: _)
    refine m_iload_n dX6_readTerms_68 rfl ?_
    refine m_aload_n dX6_readTerms_69 rfl ?_
    refine m_getfield dX6_readTerms_70 fl_X6_33 (by first | assumption | rfl) (by first | assumption | rfl) ?_
    show mW _ _ _ _ _ _ _ _ (.int _ :: _)
    refine m_iadd dX6_readTerms_73 ?_
    refine m_ci (v := nI (b + (cTerm LT z (skipB LT z p)).2.2.1)) (nI_add _ _) ?_
    refine m_iload_n dX6_readTerms_74 rfl ?_
    refine m_aload_n dX6_readTerms_75 rfl ?_
    refine m_getfield dX6_readTerms_76 fl_X6_30 (by first | assumption | rfl) (by first | assumption | rfl) ?_
    show mW _ _ _ _ _ _ _ _ (.int _ :: _)
    refine m_imul dX6_readTerms_79 ?_
    refine m_iastore dX6_readTerms_80 (by first | assumption | rfl) (mIx_lit (show b + (cTerm LT z (skipB LT z p)).2.2.1 < 10 by omega) (by decide)) ?_
    try rw [va_uu]
    have hq2 := skipB_z (LT := LT) hT.2.1
    rw [va_uc _ _ _ (by decide : (33 : Nat) ≠ 35)]
    try rw [va_uu]
    refine m_aload_n dX6_readTerms_81 rfl ?_
    refine m_getfield dX6_readTerms_82 fl_X6_33 (by first | assumption | rfl) (by first | assumption | rfl) ?_
    show mW _ _ _ _ _ _ _ _ (.int _ :: _)
    refine m_istore_n dX6_readTerms_85 (by decide) ?_
    show mW _ _ _ _ _ _ 86 [_, _, _, _, _, _, _] _
    refine m_aload_n dX6_readTerms_86 rfl ?_
    refine m_invV_I dX6_readTerms_87 lk_X6_46 ar_X6_nextLetter (ci := 6) rfl rfl (by first | assumption | rfl) (t_X6_nextLetter (by first | assumption | rfl) (by first | assumption | rfl) hz hT.2.1) rfl (Nat.le_of_ble_eq_true rfl) (by decide) (by decide) (by decide) (by decide) rfl rfl ?_
    try rw [va_uu]
    refine m_istore dX6_readTerms_90 (by decide) ?_
    show mW _ _ _ _ _ _ 92 [_, _, _, _, _, _, _] _
    refine m_iload dX6_readTerms_92 rfl ?_
    refine m_bipush (v := 43) dX6_readTerms_94 (by decide) ?_
    refine m_icmp_eq (t := 108) dX6_readTerms_96 (by decide) (fun c96 => ?_) (fun c96 => ?_)
    · refine m_iload dX6_readTerms_108 rfl ?_
      refine m_bipush (v := 43) dX6_readTerms_110 (by decide) ?_
      refine m_icmp_ne (t := 119) dX6_readTerms_112 (by decide) (fun q => absurd c96 q) (fun _ => ?_)
      refine m_iconst (v := 1) dX6_readTerms_115 (by decide) ?_
      refine m_goto (t := 120) dX6_readTerms_116 (by decide) ?_
      refine m_istore_n dX6_readTerms_120 (by decide) ?_
      show mW _ _ _ _ _ _ 121 [_, _, _, _, _, _, _] _
      refine m_aload_n dX6_readTerms_121 rfl ?_
      refine m_dup dX6_readTerms_122 rfl ?_
      refine m_getfield dX6_readTerms_123 fl_X6_27 (by first | assumption | rfl) (by first | assumption | rfl) ?_
      show mW _ _ _ _ _ _ _ _ (.int _ :: _)
      refine m_iconst (v := 1) dX6_readTerms_126 (by decide) ?_
      refine m_iadd dX6_readTerms_127 ?_
      refine m_ci (v := nI (skipB LT z (cTerm LT z (skipB LT z p)).2.2.2 + 1)) (nI_1 _) ?_
      refine m_putfield dX6_readTerms_128 fl_X6_27 (by first | assumption | rfl) (fun _ => rfl) (fun _ => rfl) ?_
      try rw [va_uu]
      rw [oTape_4]
      refine m_iinc (v := nI (k + 1)) dX6_readTerms_131 rfl (nI_1 k) (by decide) ?_
      show mW _ _ _ _ _ _ 134 [_, _, _, _, _, _, _] _
      refine m_goto (t := 28) dX6_readTerms_134 (by decide) ?_
      rw [cTerms, if_neg c50, if_pos c58] at hv
      first | (rw [if_pos (by assumption : ltrB LT z (cTerm LT z (skipB LT z p)).2.2.2 = 43)] at hv; exact ih m (by omega) (k + 1) _ _ _ _ _ _ _ _ (ltrB_eq (by assumption) (by decide)) (by omega) hv) | (rw [if_neg (by assumption : ¬ ltrB LT z (cTerm LT z (skipB LT z p)).2.2.2 = 43), if_pos (by assumption : ltrB LT z (cTerm LT z (skipB LT z p)).2.2.2 = 45)] at hv; exact ih m (by omega) (k + 1) _ _ _ _ _ _ _ _ (ltrB_eq (by assumption) (by decide)) (by omega) hv) | exact absurd (by assumption) (by assumption : ¬ ltrB LT z (cTerm LT z (skipB LT z p)).2.2.2 = 43)
    refine m_iload dX6_readTerms_99 rfl ?_
    refine m_bipush (v := 45) dX6_readTerms_101 (by decide) ?_
    refine m_icmp_eq (t := 108) dX6_readTerms_103 (by decide) (fun c103 => ?_) (fun c103 => ?_)
    rotate_left
    · refine m_iconst (v := -1) dX6_readTerms_106 (by decide) ?_
      exact m_ireturn hF dX6_readTerms_107 rfl rfl rfl ⟨by rw [← hv, cTerms, if_neg c50, if_pos c58, if_neg c96, if_neg c103], by rw [← hv, cTerms, if_neg c50, if_pos c58, if_neg c96, if_neg c103]⟩
    refine m_iload dX6_readTerms_108 rfl ?_
    refine m_bipush (v := 43) dX6_readTerms_110 (by decide) ?_
    refine m_icmp_ne (t := 119) dX6_readTerms_112 (by decide) (fun _ => ?_) (fun q => absurd q c96)
    refine m_iconst (v := -1) dX6_readTerms_119 (by decide) ?_
    refine m_istore_n dX6_readTerms_120 (by decide) ?_
    show mW _ _ _ _ _ _ 121 [_, _, _, _, _, _, _] _
    refine m_aload_n dX6_readTerms_121 rfl ?_
    refine m_dup dX6_readTerms_122 rfl ?_
    refine m_getfield dX6_readTerms_123 fl_X6_27 (by first | assumption | rfl) (by first | assumption | rfl) ?_
    show mW _ _ _ _ _ _ _ _ (.int _ :: _)
    refine m_iconst (v := 1) dX6_readTerms_126 (by decide) ?_
    refine m_iadd dX6_readTerms_127 ?_
    refine m_ci (v := nI (skipB LT z (cTerm LT z (skipB LT z p)).2.2.2 + 1)) (nI_1 _) ?_
    refine m_putfield dX6_readTerms_128 fl_X6_27 (by first | assumption | rfl) (fun _ => rfl) (fun _ => rfl) ?_
    try rw [va_uu]
    rw [oTape_4]
    refine m_iinc (v := nI (k + 1)) dX6_readTerms_131 rfl (nI_1 k) (by decide) ?_
    show mW _ _ _ _ _ _ 134 [_, _, _, _, _, _, _] _
    refine m_goto (t := 28) dX6_readTerms_134 (by decide) ?_
    rw [cTerms, if_neg c50, if_pos c58] at hv
    first | (rw [if_pos (by assumption : ltrB LT z (cTerm LT z (skipB LT z p)).2.2.2 = 43)] at hv; exact ih m (by omega) (k + 1) _ _ _ _ _ _ _ _ (ltrB_eq (by assumption) (by decide)) (by omega) hv) | (rw [if_neg (by assumption : ¬ ltrB LT z (cTerm LT z (skipB LT z p)).2.2.2 = 43), if_pos (by assumption : ltrB LT z (cTerm LT z (skipB LT z p)).2.2.2 = 45)] at hv; exact ih m (by omega) (k + 1) _ _ _ _ _ _ _ _ (ltrB_eq (by assumption) (by decide)) (by omega) hv) | exact absurd (by assumption) (by assumption : ¬ ltrB LT z (cTerm LT z (skipB LT z p)).2.2.2 = 43)

def cTermsAll (LT : Nat → Int32) (z b : Nat) (fg : Int32) (pw p : Nat) (P : Nat → Int32) : Int32 × (Nat → Int32) × Int32 × Nat × Nat := if ltrB LT z p = 45 then cTerms LT z b 60 5 (-1) fg pw (skipB LT z p + 1) P else cTerms LT z b 60 5 1 fg pw (skipB LT z p) P
theorem cTerms_ok {LT : Nat → Int32} {z b : Nat} : ∀ (m : Nat) (la sg fg : Int32) (pw p : Nat) (P : Nat → Int32), p ≤ z → (cTerms LT z b m la sg fg pw p P).2.2.2.2 ≤ z
  | 0, _, _, _, _, _, _, h => h
  | m + 1, la, sg, fg, pw, p, P, h => by
    have h1 := skipB_z (LT := LT) h
    have h2 := cTerm_ok (LT := LT) h1
    have h3 := skipB_z (LT := LT) h2.2.1
    rw [cTerms]
    split
    · exact h2.2.1
    · split
      · split
        · exact cTerms_ok m _ _ _ _ _ _ (ltrB_eq (by assumption) (by decide))
        · split
          · exact cTerms_ok m _ _ _ _ _ _ (ltrB_eq (by assumption) (by decide))
          · exact h3
      · exact h2.2.1
theorem cTermsAll_ok {LT : Nat → Int32} {z b : Nat} (fg : Int32) (pw p : Nat) (P : Nat → Int32) (h : p ≤ z) : (cTermsAll LT z b fg pw p P).2.2.2.2 ≤ z := by
  unfold cTermsAll
  split
  · exact cTerms_ok _ _ _ _ _ _ _ (ltrB_eq (by assumption) (by decide))
  · exact cTerms_ok _ _ _ _ _ _ _ (skipB_z h)
theorem t_X6_readTerms {n : Nat} {hp : mHp} {LT : Nat → Int32} {z b p pw : Nat} {tq fg : Int32} {P : Nat → Int32} (h1 : hp 33 = eO 6 (oTape tq (nI z) (nI p) fg (nI pw))) (h2 : hp 34 = eB 60 LT) (h3 : hp 35 = eI 10 P) (hz : z ≤ 60) (hb : b ≤ 5) (hpz : p ≤ z) : mC D_X6_readTerms [.ref 33, .int (nI b)] n hp (rI (cTermsAll LT z b fg pw p P).1 (va_up (va_up hp 35 (eI 10 ((cTermsAll LT z b fg pw p P).2.1))) 33 (eO 6 (oTape tq (nI z) (nI ((cTermsAll LT z b fg pw p P).2.2.2.2)) ((cTermsAll LT z b fg pw p P).2.2.1) (nI ((cTermsAll LT z b fg pw p P).2.2.2.1)))))) := by
  refine m_enter rfl rfl (Nat.le_of_ble_eq_true rfl) (fun K hF => ?_)
  show mW K _ 0 0 _ _ 0 [.ref 33, .int (nI b), .retAddr 0, .retAddr 0, .retAddr 0, .retAddr 0, .retAddr 0] []
  refine m_iconst (v := 5) dX6_readTerms_0 (by decide) ?_
  refine m_istore_n dX6_readTerms_1 (by decide) ?_
  show mW _ _ _ _ _ _ 2 [_, _, _, _, _, _, _] _
  refine m_iconst (v := 1) dX6_readTerms_2 (by decide) ?_
  refine m_istore_n dX6_readTerms_3 (by decide) ?_
  show mW _ _ _ _ _ _ 4 [_, _, _, _, _, _, _] _
  refine m_aload_n dX6_readTerms_4 rfl ?_
  refine m_invV_I dX6_readTerms_5 lk_X6_46 ar_X6_nextLetter (ci := 6) rfl rfl (by first | assumption | rfl) (t_X6_nextLetter (by first | assumption | rfl) (by first | assumption | rfl) hz hpz) rfl (Nat.le_of_ble_eq_true rfl) (by decide) (by decide) (by decide) (by decide) rfl rfl ?_
  try rw [va_uu]
  refine m_bipush (v := 45) dX6_readTerms_8 (by decide) ?_
  refine m_icmp_ne (t := 25) dX6_readTerms_10 (by decide) (fun c10 => ?_) (fun c10 => ?_)
  · refine m_iconst (v := 0) dX6_readTerms_25 (by decide) ?_
    refine m_istore dX6_readTerms_26 (by decide) ?_
    show mW _ _ _ _ _ _ 28 [_, _, _, _, _, _, _] _
    first
      | (have e := l_X6_readTerms (hp := hp) (tq := tq) h2 hz hb hF 60 0 5 (-1) (.retAddr 0) (.retAddr 0) fg pw (skipB LT z p + 1) P (ltrB_eq (by assumption) (by decide)) rfl (by unfold cTermsAll; rw [if_pos (by assumption)]); rw [va_uid hp h3] at e; exact e)
      | (have e := l_X6_readTerms (hp := hp) (tq := tq) h2 hz hb hF 60 0 5 1 (.retAddr 0) (.retAddr 0) fg pw (skipB LT z p) P (skipB_z hpz) rfl (by unfold cTermsAll; rw [if_neg (by assumption)]); rw [va_uid hp h3] at e; exact e)
  refine m_iconst (v := -1) dX6_readTerms_13 (by decide) ?_
  refine m_istore_n dX6_readTerms_14 (by decide) ?_
  show mW _ _ _ _ _ _ 15 [_, _, _, _, _, _, _] _
  refine m_aload_n dX6_readTerms_15 rfl ?_
  refine m_dup dX6_readTerms_16 rfl ?_
  refine m_getfield dX6_readTerms_17 fl_X6_27 (by first | assumption | rfl) (by first | assumption | rfl) ?_
  show mW _ _ _ _ _ _ _ _ (.int _ :: _)
  refine m_iconst (v := 1) dX6_readTerms_20 (by decide) ?_
  refine m_iadd dX6_readTerms_21 ?_
  refine m_ci (v := nI (skipB LT z p + 1)) (nI_1 _) ?_
  refine m_putfield dX6_readTerms_22 fl_X6_27 (by first | assumption | rfl) (fun _ => rfl) (fun _ => rfl) ?_
  try rw [va_uu]
  rw [oTape_4]
  refine m_iconst (v := 0) dX6_readTerms_25 (by decide) ?_
  refine m_istore dX6_readTerms_26 (by decide) ?_
  show mW _ _ _ _ _ _ 28 [_, _, _, _, _, _, _] _
  first
    | (have e := l_X6_readTerms (hp := hp) (tq := tq) h2 hz hb hF 60 0 5 (-1) (.retAddr 0) (.retAddr 0) fg pw (skipB LT z p + 1) P (ltrB_eq (by assumption) (by decide)) rfl (by unfold cTermsAll; rw [if_pos (by assumption)]); rw [va_uid hp h3] at e; exact e)
    | (have e := l_X6_readTerms (hp := hp) (tq := tq) h2 hz hb hF 60 0 5 1 (.retAddr 0) (.retAddr 0) fg pw (skipB LT z p) P (skipB_z hpz) rfl (by unfold cTermsAll; rw [if_neg (by assumption)]); rw [va_uid hp h3] at e; exact e)

/-- a TEXT: the fault (-1: none), whether Q is told, the PARTS; figure, power, place -/
def cText2 (LT : Nat → Int32) (z : Nat) (tq : Int32) (R : Int32 × (Nat → Int32) × Int32 × Nat × Nat) : Int32 × Int32 × (Nat → Int32) × Int32 × Nat × Nat :=
  if R.1 = -1 then
    if ltrB LT z R.2.2.2.2 = -1 then (R.1, tq, R.2.1, R.2.2.1, R.2.2.2.1, skipB LT z R.2.2.2.2) else (nI (skipB LT z R.2.2.2.2), tq, R.2.1, R.2.2.1, R.2.2.2.1, skipB LT z R.2.2.2.2)
  else (R.1, tq, R.2)
def cText (LT : Nat → Int32) (z : Nat) (fg : Int32) (pw : Nat) (P : Nat → Int32) : Int32 × Int32 × (Nat → Int32) × Int32 × Nat × Nat :=
  if (cTermsAll LT z 0 fg pw 0 P).1 = -1 then
    if ltrB LT z (cTermsAll LT z 0 fg pw 0 P).2.2.2.2 = 59 then cText2 LT z 1 (cTermsAll LT z 5 (cTermsAll LT z 0 fg pw 0 P).2.2.1 (cTermsAll LT z 0 fg pw 0 P).2.2.2.1 (skipB LT z (cTermsAll LT z 0 fg pw 0 P).2.2.2.2 + 1) (cTermsAll LT z 0 fg pw 0 P).2.1)
    else cText2 LT z 0 ((cTermsAll LT z 0 fg pw 0 P).1, (cTermsAll LT z 0 fg pw 0 P).2.1, (cTermsAll LT z 0 fg pw 0 P).2.2.1, (cTermsAll LT z 0 fg pw 0 P).2.2.2.1, skipB LT z (cTermsAll LT z 0 fg pw 0 P).2.2.2.2)
  else ((cTermsAll LT z 0 fg pw 0 P).1, 0, (cTermsAll LT z 0 fg pw 0 P).2)
set_option maxHeartbeats 4000000 in
set_option maxRecDepth 100000 in
theorem t_X6_readText {n : Nat} {hp : mHp} {LT : Nat → Int32} {z pw : Nat} {tq pl fg : Int32} {P : Nat → Int32} (h1 : hp 33 = eO 6 (oTape tq (nI z) pl fg (nI pw))) (h2 : hp 34 = eB 60 LT) (h3 : hp 35 = eI 10 P) (hz : z ≤ 60) : mC D_X6_readText [.ref 33] n hp (rI (cText LT z fg pw (fillTo P 0 10)).1 (va_up (va_up hp 35 (eI 10 (cText LT z fg pw (fillTo P 0 10)).2.2.1)) 33 (eO 6 (oTape (cText LT z fg pw (fillTo P 0 10)).2.1 (nI z) (nI (cText LT z fg pw (fillTo P 0 10)).2.2.2.2.2) (cText LT z fg pw (fillTo P 0 10)).2.2.2.1 (nI (cText LT z fg pw (fillTo P 0 10)).2.2.2.2.1))))) := by
  refine m_enter rfl rfl (Nat.le_of_ble_eq_true rfl) (fun K hF => ?_)
  show mW K _ 0 0 _ _ 0 [.ref 33, .retAddr 0] []
  have k1 := cTermsAll_ok (LT := LT) (z := z) (b := 0) fg pw 0 (fillTo P 0 10) (Nat.zero_le _)
  have k2 := skipB_z (LT := LT) k1
  refine m_aload_n dX6_readText_0 rfl ?_
  refine m_getfield dX6_readText_1 fl_X6_15 (by first | assumption | rfl) (by first | assumption | rfl) ?_
  show mW _ _ _ _ _ _ _ _ (.ref _ :: _)
  refine m_iconst (v := 0) dX6_readText_4 (by decide) ?_
  refine m_invS_V dX6_readText_5 lk_X6_36 ar_J7_fill_53178 (t_J7_fill_53178 (by first | assumption | rfl) (by decide)) rfl (Nat.le_of_ble_eq_true rfl) (by decide) (by decide) (by decide) (by decide) rfl rfl ?_
  try rw [va_uu]
  refine m_aload_n dX6_readText_8 rfl ?_
  refine m_iconst (v := 0) dX6_readText_9 (by decide) ?_
  refine m_putfield dX6_readText_10 fl_X6_19 (by first | assumption | rfl) (fun _ => rfl) (fun _ => rfl) ?_
  try rw [va_uu]
  rw [oTape_2]
  refine m_aload_n dX6_readText_13 rfl ?_
  refine m_iconst (v := 0) dX6_readText_14 (by decide) ?_
  refine m_putfield dX6_readText_15 fl_X6_27 (by first | assumption | rfl) (fun _ => rfl) (fun _ => rfl) ?_
  try rw [va_uu]
  rw [oTape_4]
  refine m_aload_n dX6_readText_18 rfl ?_
  refine m_iconst (v := 0) dX6_readText_19 (by decide) ?_
  refine m_invV_I dX6_readText_20 lk_X6_42 ar_X6_readTerms (ci := 6) rfl rfl (by first | assumption | rfl) (t_X6_readTerms (b := 0) (p := 0) (by first | assumption | rfl) (by first | assumption | rfl) (by first | assumption | rfl) hz (by decide) (Nat.zero_le _)) rfl (Nat.le_of_ble_eq_true rfl) (by decide) (by decide) (by decide) (by decide) rfl rfl ?_
  try rw [va_uu]
  refine m_istore_n dX6_readText_23 (by decide) ?_
  show mW _ _ _ _ _ _ 24 [_, _] _
  refine m_iload_n dX6_readText_24 rfl ?_
  refine m_iconst (v := -1) dX6_readText_25 (by decide) ?_
  refine m_icmp_ne (t := 59) dX6_readText_26 (by decide) (fun c26 => ?_) (fun c26 => ?_)
  · refine m_iload_n dX6_readText_59 rfl ?_
    refine m_iconst (v := -1) dX6_readText_60 (by decide) ?_
    refine m_icmp_ne (t := 77) dX6_readText_61 (by decide) (fun _ => ?_) (fun q => absurd q c26)
    refine m_iload_n dX6_readText_77 rfl ?_
    exact m_ireturn hF dX6_readText_78 rfl rfl rfl ⟨by unfold cText cText2; simp only [if_neg c26], by unfold cText cText2; simp only [if_neg c26] <;> (first | rfl | (funext q; by_cases q1 : q = 33 <;> by_cases q2 : q = 35 <;> simp [va_up, q1, q2]))⟩
  refine m_aload_n dX6_readText_29 rfl ?_
  refine m_invV_I dX6_readText_30 lk_X6_46 ar_X6_nextLetter (ci := 6) rfl rfl (by first | assumption | rfl) (t_X6_nextLetter (by first | assumption | rfl) (by first | assumption | rfl) hz k1) rfl (Nat.le_of_ble_eq_true rfl) (by decide) (by decide) (by decide) (by decide) rfl rfl ?_
  try rw [va_uu]
  refine m_bipush (v := 59) dX6_readText_33 (by decide) ?_
  refine m_icmp_ne (t := 59) dX6_readText_35 (by decide) (fun c35 => ?_) (fun c35 => ?_)
  · refine m_iload_n dX6_readText_59 rfl ?_
    refine m_iconst (v := -1) dX6_readText_60 (by decide) ?_
    refine m_icmp_ne (t := 77) dX6_readText_61 (by decide) (fun q => absurd c26 q) (fun _ => ?_)
    refine m_aload_n dX6_readText_64 rfl ?_
    refine m_invV_I dX6_readText_65 lk_X6_46 ar_X6_nextLetter (ci := 6) rfl rfl (by first | assumption | rfl) (t_X6_nextLetter (by first | assumption | rfl) (by first | assumption | rfl) hz (by first | exact k2 | exact cTermsAll_ok _ _ _ _ (ltrB_eq c35 (by decide)))) rfl (Nat.le_of_ble_eq_true rfl) (by decide) (by decide) (by decide) (by decide) rfl rfl ?_
    try rw [va_uu]
    refine m_iconst (v := -1) dX6_readText_68 (by decide) ?_
    refine m_icmp_eq (t := 77) dX6_readText_69 (by decide) (fun c69 => ?_) (fun c69 => ?_)
    · refine m_iload_n dX6_readText_77 rfl ?_
      exact m_ireturn hF dX6_readText_78 rfl rfl rfl ⟨by unfold cText cText2; simp only [if_pos c26, if_neg c35, if_pos c69], by unfold cText cText2; simp only [if_pos c26, if_neg c35, if_pos c69] <;> (first | rfl | (funext q; by_cases q1 : q = 33 <;> by_cases q2 : q = 35 <;> simp [va_up, q1, q2]))⟩
    refine m_aload_n dX6_readText_72 rfl ?_
    refine m_getfield dX6_readText_73 fl_X6_27 (by first | assumption | rfl) (by first | assumption | rfl) ?_
    show mW _ _ _ _ _ _ _ _ (.int _ :: _)
    refine m_istore_n dX6_readText_76 (by decide) ?_
    show mW _ _ _ _ _ _ 77 [_, _] _
    refine m_iload_n dX6_readText_77 rfl ?_
    exact m_ireturn hF dX6_readText_78 rfl rfl rfl ⟨by unfold cText cText2; simp only [if_pos c26, if_neg c35, if_neg c69], by unfold cText cText2; simp only [if_pos c26, if_neg c35, if_neg c69] <;> (first | rfl | (funext q; by_cases q1 : q = 33 <;> by_cases q2 : q = 35 <;> simp [va_up, q1, q2]))⟩
  refine m_aload_n dX6_readText_38 rfl ?_
  refine m_dup dX6_readText_39 rfl ?_
  refine m_getfield dX6_readText_40 fl_X6_27 (by first | assumption | rfl) (by first | assumption | rfl) ?_
  show mW _ _ _ _ _ _ _ _ (.int _ :: _)
  refine m_iconst (v := 1) dX6_readText_43 (by decide) ?_
  refine m_iadd dX6_readText_44 ?_
  refine m_ci (v := nI (skipB LT z (cTermsAll LT z 0 fg pw 0 (fillTo P 0 10)).2.2.2.2 + 1)) (nI_1 _) ?_
  refine m_putfield dX6_readText_45 fl_X6_27 (by first | assumption | rfl) (fun _ => rfl) (fun _ => rfl) ?_
  try rw [va_uu]
  rw [oTape_4]
  refine m_aload_n dX6_readText_48 rfl ?_
  refine m_iconst (v := 1) dX6_readText_49 (by decide) ?_
  refine m_putfield dX6_readText_50 fl_X6_19 (by first | assumption | rfl) (fun _ => rfl) (fun _ => rfl) ?_
  try rw [va_uu]
  rw [oTape_2]
  refine m_aload_n dX6_readText_53 rfl ?_
  refine m_iconst (v := 5) dX6_readText_54 (by decide) ?_
  refine m_invV_I dX6_readText_55 lk_X6_42 ar_X6_readTerms (ci := 6) rfl rfl (by first | assumption | rfl) (t_X6_readTerms (b := 5) (by first | assumption | rfl) (by first | assumption | rfl) (by first | assumption | rfl) hz (by decide) (ltrB_eq c35 (by decide))) rfl (Nat.le_of_ble_eq_true rfl) (by decide) (by decide) (by decide) (by decide) rfl rfl ?_
  try rw [va_uu]
  refine m_istore_n dX6_readText_58 (by decide) ?_
  show mW _ _ _ _ _ _ 59 [_, _] _
  refine m_iload_n dX6_readText_59 rfl ?_
  refine m_iconst (v := -1) dX6_readText_60 (by decide) ?_
  refine m_icmp_ne (t := 77) dX6_readText_61 (by decide) (fun c61 => ?_) (fun c61 => ?_)
  · refine m_iload_n dX6_readText_77 rfl ?_
    exact m_ireturn hF dX6_readText_78 rfl rfl rfl ⟨by unfold cText cText2; simp only [if_pos c26, if_pos c35, if_neg c61], by unfold cText cText2; simp only [if_pos c26, if_pos c35, if_neg c61] <;> (first | rfl | (funext q; by_cases q1 : q = 33 <;> by_cases q2 : q = 35 <;> simp [va_up, q1, q2]))⟩
  refine m_aload_n dX6_readText_64 rfl ?_
  refine m_invV_I dX6_readText_65 lk_X6_46 ar_X6_nextLetter (ci := 6) rfl rfl (by first | assumption | rfl) (t_X6_nextLetter (by first | assumption | rfl) (by first | assumption | rfl) hz (by first | exact k2 | exact cTermsAll_ok _ _ _ _ (ltrB_eq c35 (by decide)))) rfl (Nat.le_of_ble_eq_true rfl) (by decide) (by decide) (by decide) (by decide) rfl rfl ?_
  try rw [va_uu]
  refine m_iconst (v := -1) dX6_readText_68 (by decide) ?_
  refine m_icmp_eq (t := 77) dX6_readText_69 (by decide) (fun c69_1 => ?_) (fun c69_1 => ?_)
  · refine m_iload_n dX6_readText_77 rfl ?_
    exact m_ireturn hF dX6_readText_78 rfl rfl rfl ⟨by unfold cText cText2; simp only [if_pos c26, if_pos c35, if_pos c61, if_pos c69_1], by unfold cText cText2; simp only [if_pos c26, if_pos c35, if_pos c61, if_pos c69_1] <;> (first | rfl | (funext q; by_cases q1 : q = 33 <;> by_cases q2 : q = 35 <;> simp [va_up, q1, q2]))⟩
  refine m_aload_n dX6_readText_72 rfl ?_
  refine m_getfield dX6_readText_73 fl_X6_27 (by first | assumption | rfl) (by first | assumption | rfl) ?_
  show mW _ _ _ _ _ _ _ _ (.int _ :: _)
  refine m_istore_n dX6_readText_76 (by decide) ?_
  show mW _ _ _ _ _ _ 77 [_, _] _
  refine m_iload_n dX6_readText_77 rfl ?_
  exact m_ireturn hF dX6_readText_78 rfl rfl rfl ⟨by unfold cText cText2; simp only [if_pos c26, if_pos c35, if_pos c61, if_neg c69_1], by unfold cText cText2; simp only [if_pos c26, if_pos c35, if_pos c61, if_neg c69_1] <;> (first | rfl | (funext q; by_cases q1 : q = 33 <;> by_cases q2 : q = 35 <;> simp [va_up, q1, q2]))⟩

