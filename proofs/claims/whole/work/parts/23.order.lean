/-! ===== SpanBook.orderByWidth ===== -/
/-- how many of the first s stand ahead of i: wider ones, and like ones with a lesser number -/
def rk (w : Nat → Int) : Nat → Nat → Nat
  | 0, _ => 0
  | s + 1, i => rk w s i + (if w i < w s ∨ (w s = w i ∧ s < i) then 1 else 0)
theorem rk_mono {w : Nat → Int} {a b : Nat} : ∀ s : Nat, (∀ j, j < s → (w a < w j ∨ (w j = w a ∧ j < a)) → (w b < w j ∨ (w j = w b ∧ j < b))) → rk w s a ≤ rk w s b
  | 0, _ => Nat.le_refl _
  | s + 1, h => by
    have ih := rk_mono s (fun j hj => h j (by omega))
    unfold rk
    by_cases c : w a < w s ∨ (w s = w a ∧ s < a)
    · rw [if_pos c, if_pos (h s (by omega) c)]
      omega
    · rw [if_neg c]
      omega
theorem rk_lt {w : Nat → Int} {a b x : Nat} : ∀ s : Nat, (∀ j, j < s → (w a < w j ∨ (w j = w a ∧ j < a)) → (w b < w j ∨ (w j = w b ∧ j < b))) → x < s → ¬ (w a < w x ∨ (w x = w a ∧ x < a)) → (w b < w x ∨ (w x = w b ∧ x < b)) → rk w s a < rk w s b
  | 0, _, hx, _, _ => absurd hx (by omega)
  | s + 1, h, hx, h1, h2 => by
    unfold rk
    by_cases e : x = s
    · subst e
      have := rk_mono (a := a) (b := b) x (fun j hj => h j (by omega))
      rw [if_neg h1, if_pos h2]
      omega
    · have ih := rk_lt s (fun j hj => h j (by omega)) (by omega : x < s) h1 h2
      by_cases c : w a < w s ∨ (w s = w a ∧ s < a)
      · rw [if_pos c, if_pos (h s (by omega) c)]
        omega
      · rw [if_neg c]
        omega
theorem rk_iff {w : Nat → Int} {k i : Nat} (hi : i < k) : w i < w k ↔ rk w k k ≤ rk w k i := by
  constructor
  · intro h
    exact rk_mono k (fun j hj c => by omega)
  · intro h
    rcases Int.lt_or_le (w i) (w k) with q | q
    · exact q
    · have := rk_lt (w := w) (a := i) (b := k) (x := i) k (fun j hj c => by omega) hi (by omega) (by omega)
      omega
/-- the first k in their order: where each stands -/
def ordOk (w : Nat → Int) (BW : Nat → Int32) (k : Nat) : Prop := (∀ i, i < k → BW (rk w k i) = nI i) ∧ (∀ q, q < k → ∃ i, i < k ∧ rk w k i = q) ∧ ∀ i, i < k → rk w k i < k
theorem rk_kk_le (w : Nat → Int) (k : Nat) : ∀ s, rk w s k ≤ s
  | 0 => Nat.le_refl _
  | s + 1 => by
    have := rk_kk_le w k s
    unfold rk
    split <;> omega
theorem rk_s {w : Nat → Int} {k i : Nat} (hi : i < k) : rk w (k + 1) i = rk w k i + (if w i < w k then 1 else 0) := by
  show rk w k i + _ = _
  congr 1
  by_cases c : w i < w k
  · rw [if_pos (Or.inl c), if_pos c]
  · rw [if_neg (by omega), if_neg c]
theorem rk_k {w : Nat → Int} {k : Nat} : rk w (k + 1) k = rk w k k := by
  show rk w k k + _ = _
  rw [if_neg (by omega), Nat.add_zero]
/-- the inner loop: from q on all have moved by one -/
def midOk (w : Nat → Int) (BW : Nat → Int32) (k q : Nat) : Prop := ∀ i, i < k → (rk w k i < q → BW (rk w k i) = nI i) ∧ (q ≤ rk w k i → BW (rk w k i + 1) = nI i)
theorem ordOk.done {w : Nat → Int} {BW0 BW : Nat → Int32} {k q : Nat} (h0 : ordOk w BW0 k) (h : midOk w BW k q) (hq : q = rk w k k) : ordOk w (va_up BW q (nI k)) (k + 1) := by
  refine ⟨fun i hi => ?_, fun p hp => ?_, fun i hi => ?_⟩
  · rcases (show i < k ∨ i = k by omega) with c | rfl
    · rw [rk_s c]
      have e := rk_iff (w := w) c
      by_cases d : w i < w k
      · rw [if_pos d]
        have := e.mp d
        rw [va_up_ne _ _ (by omega)]
        exact (h i c).2 (by omega)
      · rw [if_neg d]
        have : ¬ rk w k k ≤ rk w k i := fun z => d (e.mpr z)
        rw [Nat.add_zero, va_up_ne _ _ (by omega)]
        exact (h i c).1 (by omega)
    · rw [rk_k, ← hq, va_up_self]
  · rcases Nat.lt_trichotomy p q with c | c | c
    · obtain ⟨i, hi, e⟩ := h0.2.1 p (by have := rk_kk_le w k k; omega)
      refine ⟨i, by omega, ?_⟩
      rw [rk_s hi, if_neg (fun z => by have := (rk_iff hi).mp z; omega)]
      exact e
    · exact ⟨k, by omega, by rw [rk_k, ← hq, c]⟩
    · obtain ⟨i, hi, e⟩ := h0.2.1 (p - 1) (by omega)
      refine ⟨i, by omega, ?_⟩
      rw [rk_s hi, if_pos ((rk_iff hi).mpr (by omega))]
      omega
  · rcases (show i < k ∨ i = k by omega) with c | rfl
    · have := h0.2.2 i c
      rw [rk_s c]
      split <;> omega
    · rw [rk_k]
      have := rk_kk_le w i i
      omega
theorem ordOk.mid {w : Nat → Int} {BW : Nat → Int32} {k : Nat} (h : ordOk w BW k) : midOk w BW k k := fun i hi => ⟨fun _ => h.1 i hi, fun z => absurd (h.2.2 i hi) (by omega)⟩
theorem midOk.go {w : Nat → Int} {BW0 BW : Nat → Int32} {k q i : Nat} (h0 : ordOk w BW0 k) (h : midOk w BW k q) (hq : 0 < q) (hi : i < k) (hri : rk w k i = q - 1) : midOk w (va_up BW q (BW (q - 1))) k (q - 1) := by
  intro j hj
  refine ⟨fun c => ?_, fun c => ?_⟩
  · rw [va_up_ne _ _ (by omega)]
    exact (h j hj).1 (by omega)
  · by_cases e : rk w k j = q - 1
    · rw [e, show q - 1 + 1 = q by omega, va_up_self, ← e]
      exact (h j hj).1 (by omega)
    · rw [va_up_ne _ _ (by omega)]
      exact (h j hj).2 (by omega)
def wdI (LE GR : Nat → Int32) (i : Nat) : Int := (GR i - LE i).toInt
theorem nI_dec {q : Nat} (h : 0 < q) : nI q + Int32.ofInt (-1) = nI (q - 1) := by
  obtain ⟨p, rfl⟩ : ∃ p, q = p + 1 := ⟨q - 1, by omega⟩
  rw [show Int32.ofInt (-1) = (-1 : Int32) by decide, ← Int32.sub_eq_add_neg, nI_pred, Nat.add_sub_cancel]
set_option maxHeartbeats 4000000 in
set_option maxRecDepth 100000 in
theorem l_X5_order_54 {n : Nat} {hp : mHp} {LE GR : Nat → Int32} {md sg : Int32} {s : Nat} (h0 : hp 54 = eO 5 (oBk54 md (nI s) sg)) (h3 : hp 57 = eI 32 LE) (h4 : hp 58 = eI 32 GR) (hs : s ≤ 32) {k : Nat} {BW0 : Nat → Int32} {K : mK} (hks : k < s) (h9 : ordOk (wdI LE GR) BW0 k) (hout : ∀ (v : Value) (BW : Nat → Int32), ordOk (wdI LE GR) BW (k + 1) → mW K D_X5_orderByWidth 0 0 n (va_up hp 59 (eI 32 BW)) 2 [.ref 54, .int (nI (k + 1)), v] []) : ∀ (q : Nat) (BW : Nat → Int32), q ≤ k → midOk (wdI LE GR) BW k q → rk (wdI LE GR) k k ≤ q → mW K D_X5_orderByWidth 0 0 n (va_up hp 59 (eI 32 BW)) 12 [.ref 54, .int (nI k), .int (nI q)] [] := by
  have a0 : ∀ B, va_up hp 59 (eI 32 B) 54 = eO 5 (oBk54 md (nI s) sg) := fun _ => h0
  have a3 : ∀ B, va_up hp 59 (eI 32 B) 57 = eI 32 LE := fun _ => h3
  have a4 : ∀ B, va_up hp 59 (eI 32 B) 58 = eI 32 GR := fun _ => h4
  intro q
  induction q using Nat.strongRecOn with
  | ind q ih =>
    intro BW hqk hm hle
    refine m_iload_n dX5_orderByWidth_12 rfl ?_
    refine m_if_le (t := 56) dX5_orderByWidth_13 (by decide) (fun c13 => ?_) (fun c13 => ?_)
    · have hqe : q = rk (wdI LE GR) k k := by
        first
          | (have hge : ¬ wdI LE GR i < wdI LE GR k := by
               rw [Int32.le_iff_toInt_le] at c33
               unfold wdI
               omega
             have : ¬ rk (wdI LE GR) k k ≤ rk (wdI LE GR) k i := fun z => hge (hiff.mpr z)
             omega)
          | (have h0q : q = 0 := by
               rcases Nat.eq_zero_or_pos q with z | z
               · exact z
               · exact absurd c13 (nI_nle z (by omega))
             omega)
      refine m_aload_n dX5_orderByWidth_56 rfl ?_
      refine m_getfield dX5_orderByWidth_57 fl_X5_29 (by first | assumption | rfl | exact a0 _ | exact a3 _ | exact a4 _) (by first | assumption | rfl | exact a0 _ | exact a3 _ | exact a4 _) ?_
      show mW _ _ _ _ _ _ _ _ (.ref _ :: _)
      refine m_iload_n dX5_orderByWidth_60 rfl ?_
      refine m_iload_n dX5_orderByWidth_61 rfl ?_
      refine m_iastore dX5_orderByWidth_62 (by first | assumption | rfl | exact a0 _ | exact a3 _ | exact a4 _) (mIx_lit (show q < 32 by omega) (by decide)) ?_
      try rw [va_uu]
      refine m_iinc (v := nI (k + 1)) dX5_orderByWidth_63 rfl (nI_1 k) (by decide) ?_
      show mW _ _ _ _ _ _ 66 [_, _, _] _
      refine m_goto (t := 2) dX5_orderByWidth_66 (by decide) ?_
      exact hout _ _ (h9.done hm hqe)
    have hq : 0 < q := by
      rcases Nat.eq_zero_or_pos q with z | z
      · subst z
        exact absurd (by decide) c13
      · exact z
    obtain ⟨i, hi, hri⟩ := h9.2.1 (q - 1) (by omega)
    have hbi : BW (q - 1) = nI i := by rw [← hri]; exact (hm i hi).1 (by omega)
    have hiff := rk_iff (w := wdI LE GR) hi
    refine m_aload_n dX5_orderByWidth_16 rfl ?_
    refine m_aload_n dX5_orderByWidth_17 rfl ?_
    refine m_getfield dX5_orderByWidth_18 fl_X5_29 (by first | assumption | rfl | exact a0 _ | exact a3 _ | exact a4 _) (by first | assumption | rfl | exact a0 _ | exact a3 _ | exact a4 _) ?_
    show mW _ _ _ _ _ _ _ _ (.ref _ :: _)
    refine m_iload_n dX5_orderByWidth_21 rfl ?_
    refine m_iconst (v := 1) dX5_orderByWidth_22 (by decide) ?_
    refine m_isub dX5_orderByWidth_23 ?_
    refine m_ci (v := nI (q - 1)) (nI_subN (b := 1) hq) ?_
    refine m_iaload dX5_orderByWidth_24 (by first | assumption | rfl | exact a0 _ | exact a3 _ | exact a4 _) (mIx_lit (show q - 1 < 32 by omega) (by decide)) ?_
    refine m_ci (v := nI i) hbi ?_
    refine m_invV_I dX5_orderByWidth_25 lk_X5_76 ar_X5_widthOf (ci := 5) rfl rfl (by first | assumption | rfl | exact a0 _ | exact a3 _ | exact a4 _) (t_X5_widthOf_54 (a0 _) (a3 _) (a4 _) (show i < 32 by omega)) rfl (Nat.le_of_ble_eq_true rfl) (by decide) (by decide) (by decide) (by decide) rfl rfl ?_
    try rw [va_uu]
    refine m_aload_n dX5_orderByWidth_28 rfl ?_
    refine m_iload_n dX5_orderByWidth_29 rfl ?_
    refine m_invV_I dX5_orderByWidth_30 lk_X5_76 ar_X5_widthOf (ci := 5) rfl rfl (by first | assumption | rfl | exact a0 _ | exact a3 _ | exact a4 _) (t_X5_widthOf_54 (a0 _) (a3 _) (a4 _) (show k < 32 by omega)) rfl (Nat.le_of_ble_eq_true rfl) (by decide) (by decide) (by decide) (by decide) rfl rfl ?_
    try rw [va_uu]
    refine m_icmp_ge (t := 56) dX5_orderByWidth_33 (by decide) (fun c33 => ?_) (fun c33 => ?_)
    rotate_left
    · have hlt : wdI LE GR i < wdI LE GR k := by
        rw [Int32.le_iff_toInt_le] at c33
        unfold wdI
        omega
      refine m_aload_n dX5_orderByWidth_36 rfl ?_
      refine m_getfield dX5_orderByWidth_37 fl_X5_29 (by first | assumption | rfl | exact a0 _ | exact a3 _ | exact a4 _) (by first | assumption | rfl | exact a0 _ | exact a3 _ | exact a4 _) ?_
      show mW _ _ _ _ _ _ _ _ (.ref _ :: _)
      refine m_iload_n dX5_orderByWidth_40 rfl ?_
      refine m_aload_n dX5_orderByWidth_41 rfl ?_
      refine m_getfield dX5_orderByWidth_42 fl_X5_29 (by first | assumption | rfl | exact a0 _ | exact a3 _ | exact a4 _) (by first | assumption | rfl | exact a0 _ | exact a3 _ | exact a4 _) ?_
      show mW _ _ _ _ _ _ _ _ (.ref _ :: _)
      refine m_iload_n dX5_orderByWidth_45 rfl ?_
      refine m_iconst (v := 1) dX5_orderByWidth_46 (by decide) ?_
      refine m_isub dX5_orderByWidth_47 ?_
      refine m_ci (v := nI (q - 1)) (nI_subN (b := 1) hq) ?_
      refine m_iaload dX5_orderByWidth_48 (by first | assumption | rfl | exact a0 _ | exact a3 _ | exact a4 _) (mIx_lit (show q - 1 < 32 by omega) (by decide)) ?_
      refine m_iastore dX5_orderByWidth_49 (by first | assumption | rfl | exact a0 _ | exact a3 _ | exact a4 _) (mIx_lit (show q < 32 by omega) (by decide)) ?_
      try rw [va_uu]
      refine m_iinc (v := nI (q - 1)) dX5_orderByWidth_50 rfl (nI_dec hq) (by decide) ?_
      show mW _ _ _ _ _ _ 53 [_, _, _] _
      refine m_goto (t := 12) dX5_orderByWidth_53 (by decide) ?_
      exact ih (q - 1) (by omega) (va_up BW q (BW (q - 1))) (by omega) (hm.go h9 hq hi hri) (by have := hiff.mp hlt; omega)
    have hqe : q = rk (wdI LE GR) k k := by
      first
        | (have hge : ¬ wdI LE GR i < wdI LE GR k := by
             rw [Int32.le_iff_toInt_le] at c33
             unfold wdI
             omega
           have : ¬ rk (wdI LE GR) k k ≤ rk (wdI LE GR) k i := fun z => hge (hiff.mpr z)
           omega)
        | (have h0q : q = 0 := by
             rcases Nat.eq_zero_or_pos q with z | z
             · exact z
             · exact absurd c13 (nI_nle z (by omega))
           omega)
    refine m_aload_n dX5_orderByWidth_56 rfl ?_
    refine m_getfield dX5_orderByWidth_57 fl_X5_29 (by first | assumption | rfl | exact a0 _ | exact a3 _ | exact a4 _) (by first | assumption | rfl | exact a0 _ | exact a3 _ | exact a4 _) ?_
    show mW _ _ _ _ _ _ _ _ (.ref _ :: _)
    refine m_iload_n dX5_orderByWidth_60 rfl ?_
    refine m_iload_n dX5_orderByWidth_61 rfl ?_
    refine m_iastore dX5_orderByWidth_62 (by first | assumption | rfl | exact a0 _ | exact a3 _ | exact a4 _) (mIx_lit (show q < 32 by omega) (by decide)) ?_
    try rw [va_uu]
    refine m_iinc (v := nI (k + 1)) dX5_orderByWidth_63 rfl (nI_1 k) (by decide) ?_
    show mW _ _ _ _ _ _ 66 [_, _, _] _
    refine m_goto (t := 2) dX5_orderByWidth_66 (by decide) ?_
    exact hout _ _ (h9.done hm hqe)

set_option maxHeartbeats 4000000 in
set_option maxRecDepth 100000 in
theorem l_X5_orderO_54 {n : Nat} {hp : mHp} {LE GR : Nat → Int32} {md sg : Int32} {s : Nat} (h0 : hp 54 = eO 5 (oBk54 md (nI s) sg)) (h3 : hp 57 = eI 32 LE) (h4 : hp 58 = eI 32 GR) (hs : s ≤ 32) {K : mK} (hF : mFin K D_X5_orderByWidth n (fun v hp' => v = none ∧ ∃ BW' : Nat → Int32, hp' = va_up hp 59 (eI 32 BW') ∧ ordOk (wdI LE GR) BW' s)) : ∀ m k : Nat, k ≤ s → s + 1 ≤ k + m → ∀ (v : Value) (BW : Nat → Int32), ordOk (wdI LE GR) BW k → mW K D_X5_orderByWidth 0 0 n (va_up hp 59 (eI 32 BW)) 2 [.ref 54, .int (nI k), v] [] := by
  have a0 : ∀ B, va_up hp 59 (eI 32 B) 54 = eO 5 (oBk54 md (nI s) sg) := fun _ => h0
  have a3 : ∀ B, va_up hp 59 (eI 32 B) 57 = eI 32 LE := fun _ => h3
  have a4 : ∀ B, va_up hp 59 (eI 32 B) 58 = eI 32 GR := fun _ => h4
  intro m
  induction m with
  | zero =>
    intro k hk hm
    exact absurd hk (by omega)
  | succ m ih =>
    intro k hk hm v BW h9
    refine m_iload_n dX5_orderByWidth_2 rfl ?_
    refine m_aload_n dX5_orderByWidth_3 rfl ?_
    refine m_getfield dX5_orderByWidth_4 fl_X5_36 (by first | assumption | rfl | exact a0 _ | exact a3 _ | exact a4 _) (by first | assumption | rfl | exact a0 _ | exact a3 _ | exact a4 _) ?_
    show mW _ _ _ _ _ _ _ _ (.int _ :: _)
    refine m_icmp_ge (t := 69) dX5_orderByWidth_7 (by decide) (fun c7 => ?_) (fun c7 => ?_)
    · have hks : k = s := by have := nI_cmp' (by omega) (by omega) c7; omega
      subst hks
      exact m_return hF dX5_orderByWidth_69 rfl rfl rfl ⟨rfl, BW, rfl, h9⟩
    have hk : k < s := nI_cmp (by omega) (by omega) c7
    refine m_iload_n dX5_orderByWidth_10 rfl ?_
    refine m_istore_n dX5_orderByWidth_11 (by decide) ?_
    show mW _ _ _ _ _ _ 12 [_, _, _] _
    exact l_X5_order_54 h0 h3 h4 hs hk h9 (fun v BW h => ih (k + 1) (by omega) (by omega) v BW h) k BW (Nat.le_refl _) h9.mid (rk_kk_le _ _ _)

set_option maxHeartbeats 4000000 in
set_option maxRecDepth 100000 in
theorem t_X5_orderByWidth_54 {n : Nat} {hp : mHp} {LE GR : Nat → Int32} {md sg : Int32} {s : Nat} (h0 : hp 54 = eO 5 (oBk54 md (nI s) sg)) (h3 : hp 57 = eI 32 LE) (h4 : hp 58 = eI 32 GR) (hs : s ≤ 32) {BW : Nat → Int32} (h5 : hp 59 = eI 32 BW) : mC D_X5_orderByWidth [.ref 54] n hp (fun v hp' => v = none ∧ ∃ BW' : Nat → Int32, hp' = va_up hp 59 (eI 32 BW') ∧ ordOk (wdI LE GR) BW' s) := by
  refine m_enter rfl rfl (Nat.le_of_ble_eq_true rfl) (fun K hF => ?_)
  show mW K _ 0 0 _ _ 0 [.ref 54, .retAddr 0, .retAddr 0] []
  refine m_iconst (v := 0) dX5_orderByWidth_0 (by decide) ?_
  refine m_istore_n dX5_orderByWidth_1 (by decide) ?_
  show mW _ _ _ _ _ _ 2 [_, _, _] _
  have e := l_X5_orderO_54 h0 h3 h4 hs hF (s + 1) 0 (by omega) (by omega) (.retAddr 0) BW ⟨fun i hi => absurd hi (by omega), fun q hq => absurd hq (by omega), fun i hi => absurd hi (by omega)⟩
  rw [va_uid hp h5] at e
  exact e
set_option maxHeartbeats 4000000 in
set_option maxRecDepth 100000 in
theorem l_X5_order_60 {n : Nat} {hp : mHp} {LE GR : Nat → Int32} {md sg : Int32} {s : Nat} (h0 : hp 60 = eO 5 (oBk60 md (nI s) sg)) (h3 : hp 63 = eI 32 LE) (h4 : hp 64 = eI 32 GR) (hs : s ≤ 32) {k : Nat} {BW0 : Nat → Int32} {K : mK} (hks : k < s) (h9 : ordOk (wdI LE GR) BW0 k) (hout : ∀ (v : Value) (BW : Nat → Int32), ordOk (wdI LE GR) BW (k + 1) → mW K D_X5_orderByWidth 0 0 n (va_up hp 65 (eI 32 BW)) 2 [.ref 60, .int (nI (k + 1)), v] []) : ∀ (q : Nat) (BW : Nat → Int32), q ≤ k → midOk (wdI LE GR) BW k q → rk (wdI LE GR) k k ≤ q → mW K D_X5_orderByWidth 0 0 n (va_up hp 65 (eI 32 BW)) 12 [.ref 60, .int (nI k), .int (nI q)] [] := by
  have a0 : ∀ B, va_up hp 65 (eI 32 B) 60 = eO 5 (oBk60 md (nI s) sg) := fun _ => h0
  have a3 : ∀ B, va_up hp 65 (eI 32 B) 63 = eI 32 LE := fun _ => h3
  have a4 : ∀ B, va_up hp 65 (eI 32 B) 64 = eI 32 GR := fun _ => h4
  intro q
  induction q using Nat.strongRecOn with
  | ind q ih =>
    intro BW hqk hm hle
    refine m_iload_n dX5_orderByWidth_12 rfl ?_
    refine m_if_le (t := 56) dX5_orderByWidth_13 (by decide) (fun c13 => ?_) (fun c13 => ?_)
    · have hqe : q = rk (wdI LE GR) k k := by
        first
          | (have hge : ¬ wdI LE GR i < wdI LE GR k := by
               rw [Int32.le_iff_toInt_le] at c33
               unfold wdI
               omega
             have : ¬ rk (wdI LE GR) k k ≤ rk (wdI LE GR) k i := fun z => hge (hiff.mpr z)
             omega)
          | (have h0q : q = 0 := by
               rcases Nat.eq_zero_or_pos q with z | z
               · exact z
               · exact absurd c13 (nI_nle z (by omega))
             omega)
      refine m_aload_n dX5_orderByWidth_56 rfl ?_
      refine m_getfield dX5_orderByWidth_57 fl_X5_29 (by first | assumption | rfl | exact a0 _ | exact a3 _ | exact a4 _) (by first | assumption | rfl | exact a0 _ | exact a3 _ | exact a4 _) ?_
      show mW _ _ _ _ _ _ _ _ (.ref _ :: _)
      refine m_iload_n dX5_orderByWidth_60 rfl ?_
      refine m_iload_n dX5_orderByWidth_61 rfl ?_
      refine m_iastore dX5_orderByWidth_62 (by first | assumption | rfl | exact a0 _ | exact a3 _ | exact a4 _) (mIx_lit (show q < 32 by omega) (by decide)) ?_
      try rw [va_uu]
      refine m_iinc (v := nI (k + 1)) dX5_orderByWidth_63 rfl (nI_1 k) (by decide) ?_
      show mW _ _ _ _ _ _ 66 [_, _, _] _
      refine m_goto (t := 2) dX5_orderByWidth_66 (by decide) ?_
      exact hout _ _ (h9.done hm hqe)
    have hq : 0 < q := by
      rcases Nat.eq_zero_or_pos q with z | z
      · subst z
        exact absurd (by decide) c13
      · exact z
    obtain ⟨i, hi, hri⟩ := h9.2.1 (q - 1) (by omega)
    have hbi : BW (q - 1) = nI i := by rw [← hri]; exact (hm i hi).1 (by omega)
    have hiff := rk_iff (w := wdI LE GR) hi
    refine m_aload_n dX5_orderByWidth_16 rfl ?_
    refine m_aload_n dX5_orderByWidth_17 rfl ?_
    refine m_getfield dX5_orderByWidth_18 fl_X5_29 (by first | assumption | rfl | exact a0 _ | exact a3 _ | exact a4 _) (by first | assumption | rfl | exact a0 _ | exact a3 _ | exact a4 _) ?_
    show mW _ _ _ _ _ _ _ _ (.ref _ :: _)
    refine m_iload_n dX5_orderByWidth_21 rfl ?_
    refine m_iconst (v := 1) dX5_orderByWidth_22 (by decide) ?_
    refine m_isub dX5_orderByWidth_23 ?_
    refine m_ci (v := nI (q - 1)) (nI_subN (b := 1) hq) ?_
    refine m_iaload dX5_orderByWidth_24 (by first | assumption | rfl | exact a0 _ | exact a3 _ | exact a4 _) (mIx_lit (show q - 1 < 32 by omega) (by decide)) ?_
    refine m_ci (v := nI i) hbi ?_
    refine m_invV_I dX5_orderByWidth_25 lk_X5_76 ar_X5_widthOf (ci := 5) rfl rfl (by first | assumption | rfl | exact a0 _ | exact a3 _ | exact a4 _) (t_X5_widthOf_60 (a0 _) (a3 _) (a4 _) (show i < 32 by omega)) rfl (Nat.le_of_ble_eq_true rfl) (by decide) (by decide) (by decide) (by decide) rfl rfl ?_
    try rw [va_uu]
    refine m_aload_n dX5_orderByWidth_28 rfl ?_
    refine m_iload_n dX5_orderByWidth_29 rfl ?_
    refine m_invV_I dX5_orderByWidth_30 lk_X5_76 ar_X5_widthOf (ci := 5) rfl rfl (by first | assumption | rfl | exact a0 _ | exact a3 _ | exact a4 _) (t_X5_widthOf_60 (a0 _) (a3 _) (a4 _) (show k < 32 by omega)) rfl (Nat.le_of_ble_eq_true rfl) (by decide) (by decide) (by decide) (by decide) rfl rfl ?_
    try rw [va_uu]
    refine m_icmp_ge (t := 56) dX5_orderByWidth_33 (by decide) (fun c33 => ?_) (fun c33 => ?_)
    rotate_left
    · have hlt : wdI LE GR i < wdI LE GR k := by
        rw [Int32.le_iff_toInt_le] at c33
        unfold wdI
        omega
      refine m_aload_n dX5_orderByWidth_36 rfl ?_
      refine m_getfield dX5_orderByWidth_37 fl_X5_29 (by first | assumption | rfl | exact a0 _ | exact a3 _ | exact a4 _) (by first | assumption | rfl | exact a0 _ | exact a3 _ | exact a4 _) ?_
      show mW _ _ _ _ _ _ _ _ (.ref _ :: _)
      refine m_iload_n dX5_orderByWidth_40 rfl ?_
      refine m_aload_n dX5_orderByWidth_41 rfl ?_
      refine m_getfield dX5_orderByWidth_42 fl_X5_29 (by first | assumption | rfl | exact a0 _ | exact a3 _ | exact a4 _) (by first | assumption | rfl | exact a0 _ | exact a3 _ | exact a4 _) ?_
      show mW _ _ _ _ _ _ _ _ (.ref _ :: _)
      refine m_iload_n dX5_orderByWidth_45 rfl ?_
      refine m_iconst (v := 1) dX5_orderByWidth_46 (by decide) ?_
      refine m_isub dX5_orderByWidth_47 ?_
      refine m_ci (v := nI (q - 1)) (nI_subN (b := 1) hq) ?_
      refine m_iaload dX5_orderByWidth_48 (by first | assumption | rfl | exact a0 _ | exact a3 _ | exact a4 _) (mIx_lit (show q - 1 < 32 by omega) (by decide)) ?_
      refine m_iastore dX5_orderByWidth_49 (by first | assumption | rfl | exact a0 _ | exact a3 _ | exact a4 _) (mIx_lit (show q < 32 by omega) (by decide)) ?_
      try rw [va_uu]
      refine m_iinc (v := nI (q - 1)) dX5_orderByWidth_50 rfl (nI_dec hq) (by decide) ?_
      show mW _ _ _ _ _ _ 53 [_, _, _] _
      refine m_goto (t := 12) dX5_orderByWidth_53 (by decide) ?_
      exact ih (q - 1) (by omega) (va_up BW q (BW (q - 1))) (by omega) (hm.go h9 hq hi hri) (by have := hiff.mp hlt; omega)
    have hqe : q = rk (wdI LE GR) k k := by
      first
        | (have hge : ¬ wdI LE GR i < wdI LE GR k := by
             rw [Int32.le_iff_toInt_le] at c33
             unfold wdI
             omega
           have : ¬ rk (wdI LE GR) k k ≤ rk (wdI LE GR) k i := fun z => hge (hiff.mpr z)
           omega)
        | (have h0q : q = 0 := by
             rcases Nat.eq_zero_or_pos q with z | z
             · exact z
             · exact absurd c13 (nI_nle z (by omega))
           omega)
    refine m_aload_n dX5_orderByWidth_56 rfl ?_
    refine m_getfield dX5_orderByWidth_57 fl_X5_29 (by first | assumption | rfl | exact a0 _ | exact a3 _ | exact a4 _) (by first | assumption | rfl | exact a0 _ | exact a3 _ | exact a4 _) ?_
    show mW _ _ _ _ _ _ _ _ (.ref _ :: _)
    refine m_iload_n dX5_orderByWidth_60 rfl ?_
    refine m_iload_n dX5_orderByWidth_61 rfl ?_
    refine m_iastore dX5_orderByWidth_62 (by first | assumption | rfl | exact a0 _ | exact a3 _ | exact a4 _) (mIx_lit (show q < 32 by omega) (by decide)) ?_
    try rw [va_uu]
    refine m_iinc (v := nI (k + 1)) dX5_orderByWidth_63 rfl (nI_1 k) (by decide) ?_
    show mW _ _ _ _ _ _ 66 [_, _, _] _
    refine m_goto (t := 2) dX5_orderByWidth_66 (by decide) ?_
    exact hout _ _ (h9.done hm hqe)

set_option maxHeartbeats 4000000 in
set_option maxRecDepth 100000 in
theorem l_X5_orderO_60 {n : Nat} {hp : mHp} {LE GR : Nat → Int32} {md sg : Int32} {s : Nat} (h0 : hp 60 = eO 5 (oBk60 md (nI s) sg)) (h3 : hp 63 = eI 32 LE) (h4 : hp 64 = eI 32 GR) (hs : s ≤ 32) {K : mK} (hF : mFin K D_X5_orderByWidth n (fun v hp' => v = none ∧ ∃ BW' : Nat → Int32, hp' = va_up hp 65 (eI 32 BW') ∧ ordOk (wdI LE GR) BW' s)) : ∀ m k : Nat, k ≤ s → s + 1 ≤ k + m → ∀ (v : Value) (BW : Nat → Int32), ordOk (wdI LE GR) BW k → mW K D_X5_orderByWidth 0 0 n (va_up hp 65 (eI 32 BW)) 2 [.ref 60, .int (nI k), v] [] := by
  have a0 : ∀ B, va_up hp 65 (eI 32 B) 60 = eO 5 (oBk60 md (nI s) sg) := fun _ => h0
  have a3 : ∀ B, va_up hp 65 (eI 32 B) 63 = eI 32 LE := fun _ => h3
  have a4 : ∀ B, va_up hp 65 (eI 32 B) 64 = eI 32 GR := fun _ => h4
  intro m
  induction m with
  | zero =>
    intro k hk hm
    exact absurd hk (by omega)
  | succ m ih =>
    intro k hk hm v BW h9
    refine m_iload_n dX5_orderByWidth_2 rfl ?_
    refine m_aload_n dX5_orderByWidth_3 rfl ?_
    refine m_getfield dX5_orderByWidth_4 fl_X5_36 (by first | assumption | rfl | exact a0 _ | exact a3 _ | exact a4 _) (by first | assumption | rfl | exact a0 _ | exact a3 _ | exact a4 _) ?_
    show mW _ _ _ _ _ _ _ _ (.int _ :: _)
    refine m_icmp_ge (t := 69) dX5_orderByWidth_7 (by decide) (fun c7 => ?_) (fun c7 => ?_)
    · have hks : k = s := by have := nI_cmp' (by omega) (by omega) c7; omega
      subst hks
      exact m_return hF dX5_orderByWidth_69 rfl rfl rfl ⟨rfl, BW, rfl, h9⟩
    have hk : k < s := nI_cmp (by omega) (by omega) c7
    refine m_iload_n dX5_orderByWidth_10 rfl ?_
    refine m_istore_n dX5_orderByWidth_11 (by decide) ?_
    show mW _ _ _ _ _ _ 12 [_, _, _] _
    exact l_X5_order_60 h0 h3 h4 hs hk h9 (fun v BW h => ih (k + 1) (by omega) (by omega) v BW h) k BW (Nat.le_refl _) h9.mid (rk_kk_le _ _ _)

set_option maxHeartbeats 4000000 in
set_option maxRecDepth 100000 in
theorem t_X5_orderByWidth_60 {n : Nat} {hp : mHp} {LE GR : Nat → Int32} {md sg : Int32} {s : Nat} (h0 : hp 60 = eO 5 (oBk60 md (nI s) sg)) (h3 : hp 63 = eI 32 LE) (h4 : hp 64 = eI 32 GR) (hs : s ≤ 32) {BW : Nat → Int32} (h5 : hp 65 = eI 32 BW) : mC D_X5_orderByWidth [.ref 60] n hp (fun v hp' => v = none ∧ ∃ BW' : Nat → Int32, hp' = va_up hp 65 (eI 32 BW') ∧ ordOk (wdI LE GR) BW' s) := by
  refine m_enter rfl rfl (Nat.le_of_ble_eq_true rfl) (fun K hF => ?_)
  show mW K _ 0 0 _ _ 0 [.ref 60, .retAddr 0, .retAddr 0] []
  refine m_iconst (v := 0) dX5_orderByWidth_0 (by decide) ?_
  refine m_istore_n dX5_orderByWidth_1 (by decide) ?_
  show mW _ _ _ _ _ _ 2 [_, _, _] _
  have e := l_X5_orderO_60 h0 h3 h4 hs hF (s + 1) 0 (by omega) (by omega) (.retAddr 0) BW ⟨fun i hi => absurd hi (by omega), fun q hq => absurd hq (by omega), fun i hi => absurd hi (by omega)⟩
  rw [va_uid hp h5] at e
  exact e
