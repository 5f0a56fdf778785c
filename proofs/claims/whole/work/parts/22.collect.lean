/-! ===== SpanBook.collect ===== -/
def iZ (w : Int) : Int32 := Int32.ofInt w
theorem iZ_toInt {w : Int} (h1 : -2147483648 ≤ w) (h2 : w < 2147483648) : (iZ w).toInt = w := Int32.toInt_ofInt_of_le (by omega) (by omega)
theorem iZ_1 (w : Int) : iZ w + 1 = iZ (w + 1) := (Int32.ofInt_add w 1).symm
theorem iZ_lt {a b : Int} (ha : -2147483648 ≤ a) (ha2 : a < 2147483648) (hb : -2147483648 ≤ b) (hb2 : b < 2147483648) : iZ a < iZ b ↔ a < b := by
  rw [Int32.lt_iff_toInt_lt, iZ_toInt ha ha2, iZ_toInt hb hb2]
theorem lackN_congr {f g : Nat → Int64} (h : ∀ j, j < 5 → f j = g j) : lackN f = lackN g := by
  unfold lackN
  rw [h 1 (by decide), h 2 (by decide), h 3 (by decide), h 4 (by decide)]
theorem tB_congr {f g : Nat → Int64} (h : ∀ j, j < 5 → f j = g j) {l k : Nat} (hk : k < 5) : tB f l k = tB g l k := by
  unfold tB
  rw [h _ (by omega : k - l < 5)]
theorem turnV_congr {f g : Nat → Int64} (h : ∀ j, j < 5 → f j = g j) (l : Nat) : turnV f l = turnV g l := by
  unfold turnV
  rw [tB_congr h (show 0 < 5 by decide), tB_congr h (show 1 < 5 by decide), tB_congr h (show 2 < 5 by decide), tB_congr h (show 3 < 5 by decide), tB_congr h (show 4 < 5 by decide)]
theorem stC_congr {f g : Nat → Int64} (h : ∀ j, j < 5 → f j = g j) : stC f = stC g := by
  unfold stC
  rw [deg5_congr h, lackN_congr h, turnV_congr h]
/-- the spans of gains at which F isn't 0, and how many gains there are -/
def colG (F : Int → Int32) : Nat → Int → SpS → Int32 → SpS × Int32
  | 0, _, S, sg => (S, sg)
  | r + 1, w, S, sg => if F w = 0 then colG F r (w + 1) S sg else colG F r (w + 1) (addG S (iZ w)) (sg + 1)
def hpK54 (hp : mHp) (LO : Nat → Int64) (S : SpS) (sg : Int32) (T : Nat → Int64) : mHp := fun q => if q = 54 then eO 5 (oBk54 (1) (nI S.2.2) (sg)) else if q = 56 then eL 5 LO else if q = 57 then eI 32 S.1 else if q = 58 then eI 32 S.2.1 else if q = 53 then eL 5 T else hp q
theorem hpK54_L {hp : mHp} {LO L' : Nat → Int64} {S : SpS} {sg : Int32} {T : Nat → Int64} : va_up (hpK54 hp LO S sg T) 56 (eL 5 L') = hpK54 hp L' S sg T := by
  funext q
  by_cases e : q = 56
  · subst e
    rfl
  · rw [va_up_ne _ _ e]
    unfold hpK54
    simp only [if_neg e]
theorem hpK54_T {hp : mHp} {LO T' : Nat → Int64} {S : SpS} {sg : Int32} {T : Nat → Int64} : va_up (hpK54 hp LO S sg T) 53 (eL 5 T') = hpK54 hp LO S sg T' := by
  funext q
  by_cases e : q = 53
  · subst e
    rfl
  · rw [va_up_ne _ _ e]
    unfold hpK54
    simp only [if_neg e]
theorem hpK54_g {hp : mHp} {LO : Nat → Int64} {S : SpS} {sg sg' : Int32} {T : Nat → Int64} : va_up (hpK54 hp LO S sg T) 54 (Sum.inr (5, oBk54 1 (nI S.2.2) sg')) = hpK54 hp LO S sg' T := by
  funext q
  by_cases e : q = 54
  · subst e
    rfl
  · rw [va_up_ne _ _ e]
    unfold hpK54
    simp only [if_neg e]
theorem hpK54_S {hp : mHp} {LO : Nat → Int64} {S S' : SpS} {sg : Int32} {T : Nat → Int64} : va_up (va_up (va_up (hpK54 hp LO S sg T) 57 (eI 32 S'.1)) 58 (eI 32 S'.2.1)) 54 (eO 5 (oBk54 (1) (nI S'.2.2) (sg))) = hpK54 hp LO S' sg T := by
  funext q
  by_cases e : q = 54
  · subst e
    rfl
  · rw [va_up_ne _ _ e]
    by_cases e1 : q = 58
    · subst e1
      rfl
    · rw [va_up_ne _ _ e1]
      by_cases e2 : q = 57
      · subst e2
        rfl
      · rw [va_up_ne _ _ e2]
        unfold hpK54
        simp only [if_neg e, if_neg e1, if_neg e2]
set_option maxHeartbeats 4000000 in
set_option maxRecDepth 100000 in
theorem l_X5_collect_54 {n : Nat} {hp : mHp} {P : Nat → Int32} {g d ri ev le : Int32} (h1 : hp 1 = eO 3 (oSet 2 g d)) (h2 : hp 2 = eI 10 P) (h44 : hp 44 = eO 1 (oJudge ri ev le)) {R : SpS × Int32} {K : mK} (hF : mFin K D_X5_collect n (fun v hp' => v = none ∧ ∃ (LO' T' : Nat → Int64), hp' = hpK54 hp LO' R.1 R.2 T')) : ∀ (r : Nat) (w : Int) (LO : Nat → Int64) (S : SpS) (sg : Int32) (T : Nat → Int64), -800 ≤ w → w + r = 801 → S.2.2 ≤ 32 → colG (fun w => stA (loopI P (iZ w))) r w S sg = R → mW K D_X5_collect 0 0 n (hpK54 hp LO S sg T) 14 [.ref 54, .ref 1, .ref 44, .int (iZ w)] [] := by
  intro r
  induction r using Nat.strongRecOn with
  | ind r ih =>
    intro w LO S sg T hw1 hwr hS hv
    refine m_iload_n dX5_collect_14 rfl ?_
    refine m_sipush (v := 800) dX5_collect_15 (by decide) ?_
    refine m_icmp_gt (t := 66) dX5_collect_18 (by decide) (fun c18 => ?_) (fun c18 => ?_)
    · have hr : r = 0 := by
        have := (iZ_lt (a := 800) (by decide) (by decide) (by omega) (by omega)).mp c18
        omega
      subst hr
      have hv : (S, sg) = R := hv
      subst hv
      exact m_return hF dX5_collect_66 rfl rfl rfl ⟨rfl, LO, T, rfl⟩
    have hw : w ≤ 800 := by
      rcases Int.lt_or_le 800 w with q | q
      · exact absurd ((iZ_lt (a := 800) (by decide) (by decide) (by omega) (by omega)).mpr q) c18
      · exact q
    obtain ⟨r, rfl⟩ : ∃ r', r = r' + 1 := ⟨r - 1, by omega⟩
    refine m_aload_n dX5_collect_21 rfl ?_
    refine m_aload_n dX5_collect_22 rfl ?_
    refine m_getfield dX5_collect_23 fl_X5_19 (by first | assumption | rfl) (by first | assumption | rfl) ?_
    show mW _ _ _ _ _ _ _ _ (.ref _ :: _)
    refine m_iload_n dX5_collect_26 rfl ?_
    refine m_invV_V dX5_collect_27 lk_X5_62 ar_X3_fillLoop (ci := 3) rfl rfl (by first | assumption | rfl) (t_X3_fillLoop (h := 1) (q := 2) (r := 56) h1 h2 rfl) rfl (Nat.le_of_ble_eq_true rfl) (by decide) (by decide) (by decide) (by decide) rfl rfl ?_
    try rw [va_uu]
    rw [hpK54_L]
    have hF5 : ∀ j, j < 5 → fill5 (loopI P (iZ w)) LO j = loopI P (iZ w) j := fun j hj => fill5_at hj
    refine m_aload_n dX5_collect_30 rfl ?_
    refine m_aload_n dX5_collect_31 rfl ?_
    refine m_getfield dX5_collect_32 fl_X5_9 (by first | assumption | rfl) (by first | assumption | rfl) ?_
    show mW _ _ _ _ _ _ _ _ (.int _ :: _)
    refine m_aload_n dX5_collect_35 rfl ?_
    refine m_getfield dX5_collect_36 fl_X5_19 (by first | assumption | rfl) (by first | assumption | rfl) ?_
    show mW _ _ _ _ _ _ _ _ (.ref _ :: _)
    refine m_invV_I dX5_collect_39 lk_X5_66 ar_X1_isSteady (ci := 1) rfl rfl (by first | assumption | rfl) (t_X1_isSteady0 rfl) rfl (Nat.le_of_ble_eq_true rfl) (by decide) (by decide) (by decide) (by decide) rfl rfl ?_
    try rw [va_uu]
    refine m_ci (v := stA (loopI P (iZ w))) (stA_congr hF5) ?_
    refine m_if_eq (t := 60) dX5_collect_42 (by decide) (fun c42 => ?_) (fun c42 => ?_)
    · refine m_iinc (v := iZ (w + 1)) dX5_collect_60 rfl (iZ_1 w) (by decide) ?_
      show mW _ _ _ _ _ _ 63 [_, _, _, _] _
      refine m_goto (t := 14) dX5_collect_63 (by decide) ?_
      first
        | (rw [colG, if_pos (by assumption)] at hv; exact ih r (by omega) _ _ _ _ _ (by omega) (by omega) hS hv)
        | (rw [colG, if_neg (by assumption)] at hv; exact ih r (by omega) _ _ _ _ _ (by omega) (by omega) (addG_le _ hS) hv)
    refine m_aload_n dX5_collect_45 rfl ?_
    refine m_dup dX5_collect_46 rfl ?_
    refine m_getfield dX5_collect_47 fl_X5_39 (by first | assumption | rfl) (by first | assumption | rfl) ?_
    show mW _ _ _ _ _ _ _ _ (.int _ :: _)
    refine m_iconst (v := 1) dX5_collect_50 (by decide) ?_
    refine m_iadd dX5_collect_51 ?_
    refine m_putfield dX5_collect_52 fl_X5_39 (by first | assumption | rfl) (fun _ => rfl) (fun _ => rfl) ?_
    try rw [va_uu]
    rw [oBk54_8]
    rw [hpK54_g]
    refine m_aload_n dX5_collect_55 rfl ?_
    refine m_iload_n dX5_collect_56 rfl ?_
    refine m_invV_V dX5_collect_57 lk_X5_72 ar_X5_addGain (ci := 5) rfl rfl (by first | assumption | rfl) (t_X5_addGain_54 (LE := S.1) (GR := S.2.1) (s := S.2.2) rfl rfl rfl hS) rfl (Nat.le_of_ble_eq_true rfl) (by decide) (by decide) (by decide) (by decide) rfl rfl ?_
    rw [hpK54_S]
    try rw [va_uu]
    refine m_iinc (v := iZ (w + 1)) dX5_collect_60 rfl (iZ_1 w) (by decide) ?_
    show mW _ _ _ _ _ _ 63 [_, _, _, _] _
    refine m_goto (t := 14) dX5_collect_63 (by decide) ?_
    first
      | (rw [colG, if_pos (by assumption)] at hv; exact ih r (by omega) _ _ _ _ _ (by omega) (by omega) hS hv)
      | (rw [colG, if_neg (by assumption)] at hv; exact ih r (by omega) _ _ _ _ _ (by omega) (by omega) (addG_le _ hS) hv)

set_option maxHeartbeats 4000000 in
set_option maxRecDepth 100000 in
theorem t_X5_collect_54 {n : Nat} {hp : mHp} {P : Nat → Int32} {g d ri ev le : Int32} (h1 : hp 1 = eO 3 (oSet 2 g d)) (h2 : hp 2 = eI 10 P) (h44 : hp 44 = eO 1 (oJudge ri ev le)) {LE GR : Nat → Int32} {LO T : Nat → Int64} {sz sg : Int32} (i0 : hp 54 = eO 5 (oBk54 (1) (sz) (sg))) (i2 : hp 56 = eL 5 LO) (i3 : hp 57 = eI 32 LE) (i4 : hp 58 = eI 32 GR) (i5 : hp 53 = eL 5 T) : mC D_X5_collect [.ref 54, .ref 1, .ref 44] n hp (fun v hp' => v = none ∧ ∃ (LO' T' : Nat → Int64), hp' = hpK54 hp LO' (colG (fun w => stA (loopI P (iZ w))) 1601 (-800) (LE, GR, 0) 0).1 (colG (fun w => stA (loopI P (iZ w))) 1601 (-800) (LE, GR, 0) 0).2 T') := by
  refine m_enter rfl rfl (Nat.le_of_ble_eq_true rfl) (fun K hF => ?_)
  show mW K _ 0 0 _ _ 0 [.ref 54, .ref 1, .ref 44, .retAddr 0] []
  refine m_aload_n dX5_collect_0 rfl ?_
  refine m_iconst (v := 0) dX5_collect_1 (by decide) ?_
  refine m_putfield dX5_collect_2 fl_X5_36 (by first | assumption | rfl) (fun _ => rfl) (fun _ => rfl) ?_
  try rw [va_uu]
  rw [oBk54_7]
  refine m_aload_n dX5_collect_5 rfl ?_
  refine m_iconst (v := 0) dX5_collect_6 (by decide) ?_
  refine m_putfield dX5_collect_7 fl_X5_39 (by first | assumption | rfl) (fun _ => rfl) (fun _ => rfl) ?_
  try rw [va_uu]
  rw [oBk54_8]
  refine m_sipush (v := -800) dX5_collect_10 (by decide) ?_
  refine m_istore_n dX5_collect_13 (by decide) ?_
  show mW _ _ _ _ _ _ 14 [_, _, _, _] _
  have e : va_up hp 54 (Sum.inr (5, oBk54 1 0 0)) = hpK54 hp LO (LE, GR, 0) 0 T := by
    funext q
    unfold hpK54
    by_cases e0 : q = 54
    · subst e0
      rfl
    · rw [va_up_ne _ _ e0, if_neg e0]
      by_cases e1 : q = 56
      · subst e1
        exact i2
      · rw [if_neg e1]
        by_cases e2 : q = 57
        · subst e2
          exact i3
        · rw [if_neg e2]
          by_cases e3 : q = 58
          · subst e3
            exact i4
          · rw [if_neg e3]
            by_cases e4 : q = 53
            · subst e4
              exact i5
            · rw [if_neg e4]
  rw [e]
  exact l_X5_collect_54 h1 h2 h44 hF 1601 (-800) LO (LE, GR, 0) 0 T (by decide) (by decide) (Nat.zero_le _) rfl
def hpK60 (hp : mHp) (LO : Nat → Int64) (S : SpS) (sg : Int32) (T : Nat → Int64) : mHp := fun q => if q = 60 then eO 5 (oBk60 (1) (nI S.2.2) (sg)) else if q = 62 then eL 5 LO else if q = 63 then eI 32 S.1 else if q = 64 then eI 32 S.2.1 else if q = 53 then eL 5 T else hp q
theorem hpK60_L {hp : mHp} {LO L' : Nat → Int64} {S : SpS} {sg : Int32} {T : Nat → Int64} : va_up (hpK60 hp LO S sg T) 62 (eL 5 L') = hpK60 hp L' S sg T := by
  funext q
  by_cases e : q = 62
  · subst e
    rfl
  · rw [va_up_ne _ _ e]
    unfold hpK60
    simp only [if_neg e]
theorem hpK60_T {hp : mHp} {LO T' : Nat → Int64} {S : SpS} {sg : Int32} {T : Nat → Int64} : va_up (hpK60 hp LO S sg T) 53 (eL 5 T') = hpK60 hp LO S sg T' := by
  funext q
  by_cases e : q = 53
  · subst e
    rfl
  · rw [va_up_ne _ _ e]
    unfold hpK60
    simp only [if_neg e]
theorem hpK60_g {hp : mHp} {LO : Nat → Int64} {S : SpS} {sg sg' : Int32} {T : Nat → Int64} : va_up (hpK60 hp LO S sg T) 60 (Sum.inr (5, oBk60 1 (nI S.2.2) sg')) = hpK60 hp LO S sg' T := by
  funext q
  by_cases e : q = 60
  · subst e
    rfl
  · rw [va_up_ne _ _ e]
    unfold hpK60
    simp only [if_neg e]
theorem hpK60_S {hp : mHp} {LO : Nat → Int64} {S S' : SpS} {sg : Int32} {T : Nat → Int64} : va_up (va_up (va_up (hpK60 hp LO S sg T) 63 (eI 32 S'.1)) 64 (eI 32 S'.2.1)) 60 (eO 5 (oBk60 (1) (nI S'.2.2) (sg))) = hpK60 hp LO S' sg T := by
  funext q
  by_cases e : q = 60
  · subst e
    rfl
  · rw [va_up_ne _ _ e]
    by_cases e1 : q = 64
    · subst e1
      rfl
    · rw [va_up_ne _ _ e1]
      by_cases e2 : q = 63
      · subst e2
        rfl
      · rw [va_up_ne _ _ e2]
        unfold hpK60
        simp only [if_neg e, if_neg e1, if_neg e2]
set_option maxHeartbeats 4000000 in
set_option maxRecDepth 100000 in
theorem l_X5_collect_60 {n : Nat} {hp : mHp} {P : Nat → Int32} {g d ri ev le : Int32} (h1 : hp 1 = eO 3 (oSet 2 g d)) (h2 : hp 2 = eI 10 P) (h44 : hp 44 = eO 1 (oJudge ri ev le)) {R : SpS × Int32} {K : mK} (hF : mFin K D_X5_collect n (fun v hp' => v = none ∧ ∃ (LO' T' : Nat → Int64), hp' = hpK60 hp LO' R.1 R.2 T')) : ∀ (r : Nat) (w : Int) (LO : Nat → Int64) (S : SpS) (sg : Int32) (T : Nat → Int64), -800 ≤ w → w + r = 801 → S.2.2 ≤ 32 → colG (fun w => stC (loopI P (iZ w))) r w S sg = R → mW K D_X5_collect 0 0 n (hpK60 hp LO S sg T) 14 [.ref 60, .ref 1, .ref 44, .int (iZ w)] [] := by
  intro r
  induction r using Nat.strongRecOn with
  | ind r ih =>
    intro w LO S sg T hw1 hwr hS hv
    refine m_iload_n dX5_collect_14 rfl ?_
    refine m_sipush (v := 800) dX5_collect_15 (by decide) ?_
    refine m_icmp_gt (t := 66) dX5_collect_18 (by decide) (fun c18 => ?_) (fun c18 => ?_)
    · have hr : r = 0 := by
        have := (iZ_lt (a := 800) (by decide) (by decide) (by omega) (by omega)).mp c18
        omega
      subst hr
      have hv : (S, sg) = R := hv
      subst hv
      exact m_return hF dX5_collect_66 rfl rfl rfl ⟨rfl, LO, T, rfl⟩
    have hw : w ≤ 800 := by
      rcases Int.lt_or_le 800 w with q | q
      · exact absurd ((iZ_lt (a := 800) (by decide) (by decide) (by omega) (by omega)).mpr q) c18
      · exact q
    obtain ⟨r, rfl⟩ : ∃ r', r = r' + 1 := ⟨r - 1, by omega⟩
    refine m_aload_n dX5_collect_21 rfl ?_
    refine m_aload_n dX5_collect_22 rfl ?_
    refine m_getfield dX5_collect_23 fl_X5_19 (by first | assumption | rfl) (by first | assumption | rfl) ?_
    show mW _ _ _ _ _ _ _ _ (.ref _ :: _)
    refine m_iload_n dX5_collect_26 rfl ?_
    refine m_invV_V dX5_collect_27 lk_X5_62 ar_X3_fillLoop (ci := 3) rfl rfl (by first | assumption | rfl) (t_X3_fillLoop (h := 1) (q := 2) (r := 62) h1 h2 rfl) rfl (Nat.le_of_ble_eq_true rfl) (by decide) (by decide) (by decide) (by decide) rfl rfl ?_
    try rw [va_uu]
    rw [hpK60_L]
    have hF5 : ∀ j, j < 5 → fill5 (loopI P (iZ w)) LO j = loopI P (iZ w) j := fun j hj => fill5_at hj
    refine m_aload_n dX5_collect_30 rfl ?_
    refine m_aload_n dX5_collect_31 rfl ?_
    refine m_getfield dX5_collect_32 fl_X5_9 (by first | assumption | rfl) (by first | assumption | rfl) ?_
    show mW _ _ _ _ _ _ _ _ (.int _ :: _)
    refine m_aload_n dX5_collect_35 rfl ?_
    refine m_getfield dX5_collect_36 fl_X5_19 (by first | assumption | rfl) (by first | assumption | rfl) ?_
    show mW _ _ _ _ _ _ _ _ (.ref _ :: _)
    refine m_invV dX5_collect_39 lk_X5_66 ar_X1_isSteady (ci := 1) rfl rfl (by first | assumption | rfl) (t_X1_isSteady1 h44 rfl rfl (by decide)) rfl (Nat.le_of_ble_eq_true rfl) (by decide) (by decide) (by decide) (by decide) (fun v hp' q => ?_)
    obtain ⟨rfl, T', rfl⟩ := q
    rw [hpK60_T]
    show mW K _ 0 0 n _ 42 [.ref 60, .ref 1, .ref 44, .int (iZ w)] [.int _]
    refine m_ci (v := stC (loopI P (iZ w))) (stC_congr hF5) ?_
    refine m_if_eq (t := 60) dX5_collect_42 (by decide) (fun c42 => ?_) (fun c42 => ?_)
    · refine m_iinc (v := iZ (w + 1)) dX5_collect_60 rfl (iZ_1 w) (by decide) ?_
      show mW _ _ _ _ _ _ 63 [_, _, _, _] _
      refine m_goto (t := 14) dX5_collect_63 (by decide) ?_
      first
        | (rw [colG, if_pos (by assumption)] at hv; exact ih r (by omega) _ _ _ _ _ (by omega) (by omega) hS hv)
        | (rw [colG, if_neg (by assumption)] at hv; exact ih r (by omega) _ _ _ _ _ (by omega) (by omega) (addG_le _ hS) hv)
    refine m_aload_n dX5_collect_45 rfl ?_
    refine m_dup dX5_collect_46 rfl ?_
    refine m_getfield dX5_collect_47 fl_X5_39 (by first | assumption | rfl) (by first | assumption | rfl) ?_
    show mW _ _ _ _ _ _ _ _ (.int _ :: _)
    refine m_iconst (v := 1) dX5_collect_50 (by decide) ?_
    refine m_iadd dX5_collect_51 ?_
    refine m_putfield dX5_collect_52 fl_X5_39 (by first | assumption | rfl) (fun _ => rfl) (fun _ => rfl) ?_
    try rw [va_uu]
    rw [oBk60_8]
    rw [hpK60_g]
    refine m_aload_n dX5_collect_55 rfl ?_
    refine m_iload_n dX5_collect_56 rfl ?_
    refine m_invV_V dX5_collect_57 lk_X5_72 ar_X5_addGain (ci := 5) rfl rfl (by first | assumption | rfl) (t_X5_addGain_60 (LE := S.1) (GR := S.2.1) (s := S.2.2) rfl rfl rfl hS) rfl (Nat.le_of_ble_eq_true rfl) (by decide) (by decide) (by decide) (by decide) rfl rfl ?_
    rw [hpK60_S]
    try rw [va_uu]
    refine m_iinc (v := iZ (w + 1)) dX5_collect_60 rfl (iZ_1 w) (by decide) ?_
    show mW _ _ _ _ _ _ 63 [_, _, _, _] _
    refine m_goto (t := 14) dX5_collect_63 (by decide) ?_
    first
      | (rw [colG, if_pos (by assumption)] at hv; exact ih r (by omega) _ _ _ _ _ (by omega) (by omega) hS hv)
      | (rw [colG, if_neg (by assumption)] at hv; exact ih r (by omega) _ _ _ _ _ (by omega) (by omega) (addG_le _ hS) hv)

set_option maxHeartbeats 4000000 in
set_option maxRecDepth 100000 in
theorem t_X5_collect_60 {n : Nat} {hp : mHp} {P : Nat → Int32} {g d ri ev le : Int32} (h1 : hp 1 = eO 3 (oSet 2 g d)) (h2 : hp 2 = eI 10 P) (h44 : hp 44 = eO 1 (oJudge ri ev le)) {LE GR : Nat → Int32} {LO T : Nat → Int64} {sz sg : Int32} (i0 : hp 60 = eO 5 (oBk60 (1) (sz) (sg))) (i2 : hp 62 = eL 5 LO) (i3 : hp 63 = eI 32 LE) (i4 : hp 64 = eI 32 GR) (i5 : hp 53 = eL 5 T) : mC D_X5_collect [.ref 60, .ref 1, .ref 44] n hp (fun v hp' => v = none ∧ ∃ (LO' T' : Nat → Int64), hp' = hpK60 hp LO' (colG (fun w => stC (loopI P (iZ w))) 1601 (-800) (LE, GR, 0) 0).1 (colG (fun w => stC (loopI P (iZ w))) 1601 (-800) (LE, GR, 0) 0).2 T') := by
  refine m_enter rfl rfl (Nat.le_of_ble_eq_true rfl) (fun K hF => ?_)
  show mW K _ 0 0 _ _ 0 [.ref 60, .ref 1, .ref 44, .retAddr 0] []
  refine m_aload_n dX5_collect_0 rfl ?_
  refine m_iconst (v := 0) dX5_collect_1 (by decide) ?_
  refine m_putfield dX5_collect_2 fl_X5_36 (by first | assumption | rfl) (fun _ => rfl) (fun _ => rfl) ?_
  try rw [va_uu]
  rw [oBk60_7]
  refine m_aload_n dX5_collect_5 rfl ?_
  refine m_iconst (v := 0) dX5_collect_6 (by decide) ?_
  refine m_putfield dX5_collect_7 fl_X5_39 (by first | assumption | rfl) (fun _ => rfl) (fun _ => rfl) ?_
  try rw [va_uu]
  rw [oBk60_8]
  refine m_sipush (v := -800) dX5_collect_10 (by decide) ?_
  refine m_istore_n dX5_collect_13 (by decide) ?_
  show mW _ _ _ _ _ _ 14 [_, _, _, _] _
  have e : va_up hp 60 (Sum.inr (5, oBk60 1 0 0)) = hpK60 hp LO (LE, GR, 0) 0 T := by
    funext q
    unfold hpK60
    by_cases e0 : q = 60
    · subst e0
      rfl
    · rw [va_up_ne _ _ e0, if_neg e0]
      by_cases e1 : q = 62
      · subst e1
        exact i2
      · rw [if_neg e1]
        by_cases e2 : q = 63
        · subst e2
          exact i3
        · rw [if_neg e2]
          by_cases e3 : q = 64
          · subst e3
            exact i4
          · rw [if_neg e3]
            by_cases e4 : q = 53
            · subst e4
              exact i5
            · rw [if_neg e4]
  rw [e]
  exact l_X5_collect_60 h1 h2 h44 hF 1601 (-800) LO (LE, GR, 0) 0 T (by decide) (by decide) (Nat.zero_le _) rfl
