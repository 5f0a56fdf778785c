/-! ===== the reference: widest ===== -/
theorem ordOk_ex (w : Nat → Int) : ∀ k : Nat, ∃ BW, ordOk w BW k
  | 0 => ⟨fun _ => 0, fun i hi => absurd hi (Nat.not_lt_zero _), fun i hi => absurd hi (Nat.not_lt_zero _), fun i hi => absurd hi (Nat.not_lt_zero _)⟩
  | k + 1 => by
    obtain ⟨BW, h⟩ := ordOk_ex w k
    refine ⟨_, ordOk.done (BW := fun p => if p < rk w k k then BW p else BW (p - 1)) h (fun i hi => ⟨fun q => ?_, fun q => ?_⟩) rfl⟩
    · show (if rk w k i < rk w k k then BW (rk w k i) else BW (rk w k i - 1)) = nI i
      rw [if_pos q]
      exact h.1 i hi
    · show (if rk w k i + 1 < rk w k k then BW (rk w k i + 1) else BW (rk w k i + 1 - 1)) = nI i
      rw [if_neg (by omega), show rk w k i + 1 - 1 = rk w k i by omega]
      exact h.1 i hi
def spB (S : SpS) : Prop := ∀ t, t < S.2.2 → (-800 ≤ (S.1 t).toInt ∧ (S.1 t).toInt ≤ 800) ∧ (-800 ≤ (S.2.1 t).toInt ∧ (S.2.1 t).toInt ≤ 800)
theorem spB_push {S : SpS} {v : Int32} (h : spB S) (hv : -800 ≤ v.toInt ∧ v.toInt ≤ 800) : spB (va_up S.1 S.2.2 v, va_up S.2.1 S.2.2 v, S.2.2 + 1) := fun t ht => by
  have ht : t < S.2.2 + 1 := ht
  show (-800 ≤ (va_up S.1 S.2.2 v t).toInt ∧ (va_up S.1 S.2.2 v t).toInt ≤ 800) ∧ (-800 ≤ (va_up S.2.1 S.2.2 v t).toInt ∧ (va_up S.2.1 S.2.2 v t).toInt ≤ 800)
  by_cases e : t = S.2.2
  · rw [e, va_up_self, va_up_self]
    exact ⟨hv, hv⟩
  · rw [va_up_ne _ _ e, va_up_ne _ _ e]
    exact h t (by omega)
theorem spB_add {S : SpS} {v : Int32} (h : spB S) (hv : -800 ≤ v.toInt ∧ v.toInt ≤ 800) : spB (addG S v) := by
  unfold addG
  split
  · split
    · exact h
    · exact spB_push h hv
  · split
    · intro t ht
      have ht : t < S.2.2 := ht
      refine ⟨(h t ht).1, ?_⟩
      show -800 ≤ (va_up S.2.1 (S.2.2 - 1) v t).toInt ∧ (va_up S.2.1 (S.2.2 - 1) v t).toInt ≤ 800
      by_cases e : t = S.2.2 - 1
      · rw [e, va_up_self]
        exact hv
      · rw [va_up_ne _ _ e]
        exact (h t ht).2
    · split
      · exact h
      · exact spB_push h hv
theorem colG_bd {F : Int → Int32} : ∀ (r : Nat) (w : Int) (S : SpS) (sg : Int32), -800 ≤ w → w + r ≤ 801 → spB S → spB (colG F r w S sg).1
  | 0, _, _, _, _, _, h => h
  | r + 1, w, S, sg, h1, h2, h => by
    rw [colG]
    split
    · exact colG_bd r (w + 1) S sg (by omega) (by omega) h
    · exact colG_bd r (w + 1) _ _ (by omega) (by omega) (spB_add h (by rw [iZ_toInt (by omega) (by omega)]; omega))
theorem spn_bd (b : Int32) (c : Nat → Int32) : spB (spn b c).1 := colG_bd 1601 (-800) _ _ (by decide) (by decide) (fun t ht => absurd ht (Nat.not_lt_zero _))
theorem sub_bd {a b : Int32} (ha : -800 ≤ a.toInt ∧ a.toInt ≤ 800) (hb : -800 ≤ b.toInt ∧ b.toInt ≤ 800) : (a - b).toInt = a.toInt - b.toInt := by
  rw [Int32.toInt_sub]
  exact bmod32 (by omega) (by omega)
theorem mor_toInt {a b c d : Int32} (ha : -800 ≤ a.toInt ∧ a.toInt ≤ 800) (hb : -800 ≤ b.toInt ∧ b.toInt ≤ 800) (hc : -800 ≤ c.toInt ∧ c.toInt ≤ 800) (hd : -800 ≤ d.toInt ∧ d.toInt ≤ 800) : (a - b - c + d).toInt = (a - b).toInt - (c - d).toInt := by
  have e : (a - b - c).toInt = a.toInt - b.toInt - c.toInt := by
    rw [Int32.toInt_sub, sub_bd ha hb]
    exact bmod32 (by omega) (by omega)
  rw [Int32.toInt_add, e, sub_bd ha hb, sub_bd hc hd]
  rw [show a.toInt - b.toInt - c.toInt + d.toInt = a.toInt - b.toInt - (c.toInt - d.toInt) by omega]
  exact bmod32 (by omega) (by omega)
abbrev morV (FR TO : Nat → Int32) (i j : Nat) : Int32 := TO j - FR j - TO i + FR i
theorem mor_eq {FR TO : Nat → Int32} {i j s : Nat} (hb : spB (FR, TO, s)) (hi : i < s) (hj : j < s) : (morV FR TO i j).toInt = wdI FR TO j - wdI FR TO i := mor_toInt (hb j hj).2 (hb j hj).1 (hb i hi).2 (hb i hi).1
theorem mor_gt {FR TO : Nat → Int32} {i j s : Nat} (hb : spB (FR, TO, s)) (hi : i < s) (hj : j < s) : 0 < morV FR TO i j ↔ wdI FR TO i < wdI FR TO j := by
  rw [Int32.lt_iff_toInt_lt, mor_eq hb hi hj, show (0 : Int32).toInt = 0 by decide]
  omega
theorem mor_0 {FR TO : Nat → Int32} {i j s : Nat} (hb : spB (FR, TO, s)) (hi : i < s) (hj : j < s) : morV FR TO i j = 0 ↔ wdI FR TO j = wdI FR TO i := by
  constructor
  · intro h
    have := mor_eq hb hi hj
    rw [h, show (0 : Int32).toInt = 0 by decide] at this
    omega
  · intro h
    apply Int32.toInt_inj.mp
    rw [mor_eq hb hi hj, show (0 : Int32).toInt = 0 by decide]
    omega
theorem spB_of {FR TO : Nat → Int32} {X : SpS} (hE : spE (FR, TO, X.2.2) X) (hb : spB X) : spB (FR, TO, X.2.2) := fun t ht => by
  have ht : t < X.2.2 := ht
  show (-800 ≤ (FR t).toInt ∧ (FR t).toInt ≤ 800) ∧ (-800 ≤ (TO t).toInt ∧ (TO t).toInt ≤ 800)
  rw [show FR t = X.1 t from (hE.2 t ht).1, show TO t = X.2.1 t from (hE.2 t ht).2]
  exact hb t ht
set_option maxHeartbeats 400000 in
set_option maxRecDepth 100000 in
theorem l_X8_widest1 {n : Nat} {hp : mHp} {ac ia tm ri ev le ch ls rm ra fa : Int32} {s i : Nat} {FR TO : Nat → Int32} {b k w : Int32} (h1 : hp 67 = eO 8 (oMod ac ia tm ri ev le ch ls rm (nI s) ra fa)) (h8 : hp 82 = eI 801 FR) (h9 : hp 83 = eI 801 TO) (hs : s ≤ 32) (hi : i < s) (hb : spB (FR, TO, s)) {K : mK} (hk9 : ∀ v7 : Value, mW K D_X8_widest 0 0 n hp 110 [.ref 67, .int b, .int k, .int w, .int (nI i), .int (nI (rk (wdI FR TO) s i)), .int (nI s), v7] []) : ∀ (m j : Nat) (v7 : Value), j + m = s → mW K D_X8_widest 0 0 n hp 35 [.ref 67, .int b, .int k, .int w, .int (nI i), .int (nI (rk (wdI FR TO) j i)), .int (nI j), v7] [] := by
  intro m
  induction m using Nat.strongRecOn with
  | ind m ih =>
    intro j v7 hjm
    refine m_iload dX8_widest_35 rfl ?_
    refine m_aload_n dX8_widest_37 rfl ?_
    refine m_getfield dX8_widest_38 fl_X8_201 (by first | assumption | rfl) (by first | assumption | rfl) ?_
    show mW _ _ _ _ _ _ _ _ (.int _ :: _)
    refine m_icmp_ge (t := 110) dX8_widest_41 (by decide) (fun cc => ?_) (fun cc => ?_)
    · have hm : m = 0 := by have := nI_cmp' (by omega) (by omega) cc; omega
      subst hm
      obtain rfl : j = s := by omega
      exact hk9 _
    have hlt : j < s := nI_cmp (by omega) (by omega) cc
    obtain ⟨m, rfl⟩ : ∃ m', m = m' + 1 := ⟨m - 1, by omega⟩
    refine m_aload_n dX8_widest_44 rfl ?_
    refine m_getfield dX8_widest_45 fl_X8_60 (by first | assumption | rfl) (by first | assumption | rfl) ?_
    show mW _ _ _ _ _ _ _ _ (.ref _ :: _)
    refine m_iload dX8_widest_48 rfl ?_
    refine m_iaload dX8_widest_50 (by first | assumption | rfl) (mIx_lit (show j < 801 by omega) (by decide)) ?_
    refine m_aload_n dX8_widest_51 rfl ?_
    refine m_getfield dX8_widest_52 fl_X8_57 (by first | assumption | rfl) (by first | assumption | rfl) ?_
    show mW _ _ _ _ _ _ _ _ (.ref _ :: _)
    refine m_iload dX8_widest_55 rfl ?_
    refine m_iaload dX8_widest_57 (by first | assumption | rfl) (mIx_lit (show j < 801 by omega) (by decide)) ?_
    refine m_isub dX8_widest_58 ?_
    refine m_aload_n dX8_widest_59 rfl ?_
    refine m_getfield dX8_widest_60 fl_X8_60 (by first | assumption | rfl) (by first | assumption | rfl) ?_
    show mW _ _ _ _ _ _ _ _ (.ref _ :: _)
    refine m_iload dX8_widest_63 rfl ?_
    refine m_iaload dX8_widest_65 (by first | assumption | rfl) (mIx_lit (show i < 801 by omega) (by decide)) ?_
    refine m_isub dX8_widest_66 ?_
    refine m_aload_n dX8_widest_67 rfl ?_
    refine m_getfield dX8_widest_68 fl_X8_57 (by first | assumption | rfl) (by first | assumption | rfl) ?_
    show mW _ _ _ _ _ _ _ _ (.ref _ :: _)
    refine m_iload dX8_widest_71 rfl ?_
    refine m_iaload dX8_widest_73 (by first | assumption | rfl) (mIx_lit (show i < 801 by omega) (by decide)) ?_
    refine m_iadd dX8_widest_74 ?_
    refine m_ci (v := morV FR TO i j) rfl ?_
    refine m_istore dX8_widest_75 (by decide) ?_
    show mW _ _ _ _ _ _ 77 [_, _, _, _, _, _, _, _] _
    refine m_iload dX8_widest_77 rfl ?_
    refine m_iload dX8_widest_79 rfl ?_
    refine m_if_gt (t := 96) dX8_widest_81 (by decide) (fun c81 => ?_) (fun c81 => ?_)
    · refine m_iconst (v := 1) dX8_widest_96 (by decide) ?_
      refine m_goto (t := 101) dX8_widest_97 (by decide) ?_
      refine m_iadd dX8_widest_101 ?_
      refine m_ci (v := nI (rk (wdI FR TO) (j + 1) i)) (by rw [rk, if_pos (Or.inl ((mor_gt hb hi hlt).mp c81))]; exact nI_add _ 1) ?_
      refine m_istore dX8_widest_102 (by decide) ?_
      show mW _ _ _ _ _ _ 104 [_, _, _, _, _, _, _, _] _
      refine m_iinc (v := nI (j + 1)) dX8_widest_104 rfl (nI_1 j) (by decide) ?_
      show mW _ _ _ _ _ _ 107 [_, _, _, _, _, _, _, _] _
      refine m_goto (t := 35) dX8_widest_107 (by decide) ?_
      exact ih m (by omega) (j + 1) _ (by omega)
    refine m_iload dX8_widest_84 rfl ?_
    refine m_if_ne (t := 100) dX8_widest_86 (by decide) (fun c86 => ?_) (fun c86 => ?_)
    · refine m_iconst (v := 0) dX8_widest_100 (by decide) ?_
      refine m_iadd dX8_widest_101 ?_
      refine m_ci (v := nI (rk (wdI FR TO) (j + 1) i)) (by rw [rk, if_neg (by rintro (y | y); exact c81 ((mor_gt hb hi hlt).mpr y); exact c86 ((mor_0 hb hi hlt).mpr y.1))]; exact nI_add _ 0) ?_
      refine m_istore dX8_widest_102 (by decide) ?_
      show mW _ _ _ _ _ _ 104 [_, _, _, _, _, _, _, _] _
      refine m_iinc (v := nI (j + 1)) dX8_widest_104 rfl (nI_1 j) (by decide) ?_
      show mW _ _ _ _ _ _ 107 [_, _, _, _, _, _, _, _] _
      refine m_goto (t := 35) dX8_widest_107 (by decide) ?_
      exact ih m (by omega) (j + 1) _ (by omega)
    refine m_iload dX8_widest_89 rfl ?_
    refine m_iload dX8_widest_91 rfl ?_
    refine m_icmp_ge (t := 100) dX8_widest_93 (by decide) (fun c93 => ?_) (fun c93 => ?_)
    · refine m_iconst (v := 0) dX8_widest_100 (by decide) ?_
      refine m_iadd dX8_widest_101 ?_
      refine m_ci (v := nI (rk (wdI FR TO) (j + 1) i)) (by rw [rk, if_neg (by rintro (y | y); exact c81 ((mor_gt hb hi hlt).mpr y); exact absurd y.2 (by have := nI_cmp' (by omega) (by omega) c93; omega))]; exact nI_add _ 0) ?_
      refine m_istore dX8_widest_102 (by decide) ?_
      show mW _ _ _ _ _ _ 104 [_, _, _, _, _, _, _, _] _
      refine m_iinc (v := nI (j + 1)) dX8_widest_104 rfl (nI_1 j) (by decide) ?_
      show mW _ _ _ _ _ _ 107 [_, _, _, _, _, _, _, _] _
      refine m_goto (t := 35) dX8_widest_107 (by decide) ?_
      exact ih m (by omega) (j + 1) _ (by omega)
    refine m_iconst (v := 1) dX8_widest_96 (by decide) ?_
    refine m_goto (t := 101) dX8_widest_97 (by decide) ?_
    refine m_iadd dX8_widest_101 ?_
    refine m_ci (v := nI (rk (wdI FR TO) (j + 1) i)) (by rw [rk, if_pos (Or.inr ⟨(mor_0 hb hi hlt).mp c86, nI_cmp (by omega) (by omega) c93⟩)]; exact nI_add _ 1) ?_
    refine m_istore dX8_widest_102 (by decide) ?_
    show mW _ _ _ _ _ _ 104 [_, _, _, _, _, _, _, _] _
    refine m_iinc (v := nI (j + 1)) dX8_widest_104 rfl (nI_1 j) (by decide) ?_
    show mW _ _ _ _ _ _ 107 [_, _, _, _, _, _, _, _] _
    refine m_goto (t := 35) dX8_widest_107 (by decide) ?_
    exact ih m (by omega) (j + 1) _ (by omega)

set_option maxHeartbeats 400000 in
set_option maxRecDepth 100000 in
theorem l_X8_widest2 {n : Nat} {hp : mHp} {ac ia tm ri ev le ch ls rm ra fa : Int32} {s : Nat} {FR TO : Nat → Int32} {b k w : Int32} (h1 : hp 67 = eO 8 (oMod ac ia tm ri ev le ch ls rm (nI s) ra fa)) (h8 : hp 82 = eI 801 FR) (h9 : hp 83 = eI 801 TO) (hs : s ≤ 32) (hb : spB (FR, TO, s)) {K : mK} {Q : mQ} (hF : mFin K D_X8_widest n Q) (hN9 : (∀ t, t < s → ¬ nI (rk (wdI FR TO) s t) = k) → Q (some (.int (-4))) hp) (hY9 : ∀ i, i < s → nI (rk (wdI FR TO) s i) = k → Q (some (.int ((if w = 0 then FR i else TO i) + 800))) hp) : ∀ (m i : Nat) (v5 v6 v7 : Value), i + m = s → (∀ t, t < i → ¬ nI (rk (wdI FR TO) s t) = k) → mW K D_X8_widest 0 0 n hp 20 [.ref 67, .int b, .int k, .int w, .int (nI i), v5, v6, v7] [] := by
  intro m
  induction m using Nat.strongRecOn with
  | ind m ih =>
    intro i v5 v6 v7 him hno
    refine m_iload dX8_widest_20 rfl ?_
    refine m_aload_n dX8_widest_22 rfl ?_
    refine m_getfield dX8_widest_23 fl_X8_201 (by first | assumption | rfl) (by first | assumption | rfl) ?_
    show mW _ _ _ _ _ _ _ _ (.int _ :: _)
    refine m_icmp_ge (t := 148) dX8_widest_26 (by decide) (fun cc => ?_) (fun cc => ?_)
    · have hm : m = 0 := by have := nI_cmp' (by omega) (by omega) cc; omega
      subst hm
      obtain rfl : i = s := by omega
      refine m_bipush (v := -4) dX8_widest_148 (by decide) ?_
      exact m_ireturn hF dX8_widest_150 rfl rfl rfl (hN9 hno)
    have hi : i < s := nI_cmp (by omega) (by omega) cc
    obtain ⟨m, rfl⟩ : ∃ m', m = m' + 1 := ⟨m - 1, by omega⟩
    refine m_iconst (v := 0) dX8_widest_29 (by decide) ?_
    refine m_istore dX8_widest_30 (by decide) ?_
    show mW _ _ _ _ _ _ 32 [_, _, _, _, _, _, _, _] _
    refine m_iconst (v := 0) dX8_widest_32 (by decide) ?_
    refine m_istore dX8_widest_33 (by decide) ?_
    show mW _ _ _ _ _ _ 35 [_, _, _, _, _, _, _, _] _
    refine l_X8_widest1 h1 h8 h9 hs hi hb (fun v7 => ?_) s 0 _ (by omega)
    refine m_iload dX8_widest_110 rfl ?_
    refine m_iload_n dX8_widest_112 rfl ?_
    refine m_icmp_ne (t := 142) dX8_widest_113 (by decide) (fun c113 => ?_) (fun c113 => ?_)
    · refine m_iinc (v := nI (i + 1)) dX8_widest_142 rfl (nI_1 i) (by decide) ?_
      show mW _ _ _ _ _ _ 145 [_, _, _, _, _, _, _, _] _
      refine m_goto (t := 20) dX8_widest_145 (by decide) ?_
      exact ih m (by omega) (i + 1) _ _ _ (by omega) (fun t ht => by
        by_cases e : t = i
        · rw [e]
          exact c113
        · exact hno t (by omega))
    refine m_iload_n dX8_widest_116 rfl ?_
    refine m_if_ne (t := 130) dX8_widest_117 (by decide) (fun c117 => ?_) (fun c117 => ?_)
    · refine m_aload_n dX8_widest_130 rfl ?_
      refine m_getfield dX8_widest_131 fl_X8_60 (by first | assumption | rfl) (by first | assumption | rfl) ?_
      show mW _ _ _ _ _ _ _ _ (.ref _ :: _)
      refine m_iload dX8_widest_134 rfl ?_
      refine m_iaload dX8_widest_136 (by first | assumption | rfl) (mIx_lit (show i < 801 by omega) (by decide)) ?_
      refine m_sipush (v := 800) dX8_widest_137 (by decide) ?_
      refine m_iadd dX8_widest_140 ?_
      exact m_ireturn hF dX8_widest_141 rfl rfl rfl (by have q9 := hY9 i hi c113; rw [if_neg c117] at q9; exact q9)
    refine m_aload_n dX8_widest_120 rfl ?_
    refine m_getfield dX8_widest_121 fl_X8_57 (by first | assumption | rfl) (by first | assumption | rfl) ?_
    show mW _ _ _ _ _ _ _ _ (.ref _ :: _)
    refine m_iload dX8_widest_124 rfl ?_
    refine m_iaload dX8_widest_126 (by first | assumption | rfl) (mIx_lit (show i < 801 by omega) (by decide)) ?_
    refine m_goto (t := 137) dX8_widest_127 (by decide) ?_
    refine m_sipush (v := 800) dX8_widest_137 (by decide) ?_
    refine m_iadd dX8_widest_140 ?_
    exact m_ireturn hF dX8_widest_141 rfl rfl rfl (by have q9 := hY9 i hi c113; rw [if_pos c117] at q9; exact q9)

theorem nI_lt_of {a b : Nat} (h : a < b) (hb : b < 2 ^ 31) : nI a < nI b := by
  rw [Int32.lt_iff_toInt_lt, nI_toInt (by omega), nI_toInt hb]
  omega
set_option maxHeartbeats 400000 in
set_option maxRecDepth 100000 in
theorem t_X8_widest {n : Nat} {hp : mHp} {S : TS} {ia tm : Int32} (h : mRep hp S ia tm) (hX : mScX hp) (hS : mSp hp) (hC : okC S.1) (hTU : TUK) (hST : STK) (hSK : SPK) {b k w : Int32} : mC D_X8_widest [.ref 67, .int b, .int k, .int w] n hp (fun r hp' => r = some (.int (sWidest S b k w)) ∧ mRep hp' S ia tm ∧ mScX hp' ∧ mSp hp' ∧ offQ hp hp') := by
  refine m_enter rfl rfl (Nat.le_of_ble_eq_true rfl) (fun K hF => ?_)
  show mW K _ 0 0 _ _ 0 [.ref 67, .int b, .int k, .int w, .retAddr 0, .retAddr 0, .retAddr 0, .retAddr 0] []
  obtain ⟨X, hv⟩ : ∃ X, ∀ _ : Unit, spn b S.1 = X := ⟨_, fun _ => rfl⟩
  obtain ⟨ri, ev, le, ch, ls, rm, sm, ra, fa, C, PA, h1, -⟩ := id h
  refine m_iload_n dX8_widest_0 rfl ?_
  refine m_iload_n dX8_widest_1 rfl ?_
  refine m_iload_n dX8_widest_2 rfl ?_
  refine m_invS_I dX8_widest_3 lk_X8_207 ar_X8_isAsk (t_X8_isAsk) rfl (Nat.le_of_ble_eq_true rfl) (by decide) (by decide) (by decide) (by decide) rfl rfl ?_
  try rw [va_uu]
  refine m_if_ne (t := 11) dX8_widest_6 (by decide) (fun c6 => ?_) (fun c6 => ?_)
  rotate_left
  · refine m_iconst (v := -1) dX8_widest_9 (by decide) ?_
    exact m_ireturn hF dX8_widest_10 rfl rfl rfl ⟨by unfold sWidest; rw [if_neg (askM_iff.mp c6)], h, hX, hS, offQ.rf⟩
  have hok : inC b 2 ∧ 0 ≤ k ∧ inC w 2 := Classical.not_not.mp (fun y => c6 (askM_iff.mpr y))
  refine m_aload_n dX8_widest_11 rfl ?_
  refine m_iload_n dX8_widest_12 rfl ?_
  refine m_invV dX8_widest_13 lk_X8_211 ar_X8_laysSpans (ci := 8) rfl rfl (by first | assumption | rfl) (t_X8_laysSpans h hX hS hC hTU hST hSK hok.1 (X := X) hv) rfl (Nat.le_of_ble_eq_true rfl) (by decide) (by decide) (by decide) (by decide) (fun v hp' q => ?_)
  obtain ⟨rfl, gQ⟩ := q
  obtain ⟨ri1, ev1, le1, ch1, ls1, rm1, ra1, fa1, C1, PA1, FR, TO, g1, g2, g3, g4, g5, g6, gX, g8, g9, gL, gE, gO⟩ := gQ
  have gR : mRep hp' S ia tm := ⟨ri1, ev1, le1, ch1, ls1, rm1, _, ra1, fa1, C1, PA1, g1, g2, g3, g4, g5, g6⟩
  show mW K _ 0 0 n hp' 16 [.ref 67, .int b, .int k, .int w, _, _, _, _] [.int X.2]
  refine m_pop dX8_widest_16 rfl ?_
  refine m_iconst (v := 0) dX8_widest_17 (by decide) ?_
  refine m_istore dX8_widest_18 (by decide) ?_
  show mW _ _ _ _ _ _ 20 [_, _, _, _, _, _, _, _] _
  obtain ⟨BW, hBW⟩ := ordOk_ex (wdI FR TO) X.1.2.2
  obtain ⟨kI, kL⟩ := nI_of0 (x := k) (Int32.le_iff_toInt_le.mp hok.2.1)
  have hbd : spB (FR, TO, X.1.2.2) := spB_of gE (by rw [← hv ()]; exact spn_bd b S.1)
  refine l_X8_widest2 (s := X.1.2.2) g1 g8 g9 gL hbd hF (fun hno => ⟨?_, gR, gX, ⟨FR, TO, g8, g9⟩, gO⟩) (fun i hi hrk => ⟨?_, gR, gX, ⟨FR, TO, g8, g9⟩, gO⟩) X.1.2.2 0 _ _ _ (by omega) (fun t ht => absurd ht (Nat.not_lt_zero _))
  · unfold sWidest
    rw [if_pos hok, hv (), if_neg]
    intro y
    rw [kI] at y
    have hlt := nI_ltN kL (by omega) y
    obtain ⟨i, hi, ei⟩ := hBW.2.1 _ hlt
    exact hno i hi (by rw [ei]; exact kI.symm)
  · have hr := hBW.2.2 i hi
    have hk9 : tN k = rk (wdI FR TO) X.1.2.2 i := by
      unfold tN
      rw [← hrk, nI_toInt (by omega)]
      rfl
    obtain ⟨i', hi', e1, e2⟩ := spWd_eq (q := tN k) gE hBW gL (by rw [hk9]; exact hr)
    have e3 : i' = i := by
      have e4 := hBW.1 i hi
      rw [← hk9, e1] at e4
      have e5 := congrArg Int32.toInt e4
      rw [nI_toInt (by omega), nI_toInt (by omega)] at e5
      omega
    unfold sWidest
    rw [if_pos hok, hv (), if_pos (show k < nI X.1.2.2 by rw [← hrk]; exact nI_lt_of hr (by omega)), e2, e3]
    unfold spEnd
    rw [← (gE.2 i hi).1, ← (gE.2 i hi).2]
    try rfl

