/-! ===== the reference: spans ===== -/
/-- how many spans begin -/
def cntU (F : Int → Int32) : Nat → Int → Int32 → Nat
  | 0, _, _ => 0
  | r + 1, w, was => if F w = 0 then cntU F r (w + 1) 0 else (if was = 0 then 1 else 0) + cntU F r (w + 1) 1
/-- there are never more spans than the class can hold -/
def SPK : Prop := ∀ (b : Int32) (c : Nat → Int32), inC b 2 → okC c → cntU (spF b c) 1601 (-800) 0 ≤ 32
def wasI (S : SpS) (w : Int) (was : Int32) : Prop := (was = 1 ∧ 0 < S.2.2 ∧ S.2.1 (S.2.2 - 1) = iZ (w - 1)) ∨ (was = 0 ∧ (S.2.2 = 0 ∨ (S.2.1 (S.2.2 - 1)).toInt < w - 1))
theorem iZ_m1 (w : Int) : iZ w - 1 = iZ (w - 1) := (Int32.ofInt_sub w 1).symm
theorem addG_ext {S : SpS} {w : Int} (h : S.2.2 ≤ 32) (h1 : 0 < S.2.2) (h2 : S.2.1 (S.2.2 - 1) = iZ (w - 1)) : addG S (iZ w) = (S.1, va_up S.2.1 (S.2.2 - 1) (iZ w), S.2.2) := by
  unfold addG
  rw [if_neg (by rw [Int32.le_iff_toInt_le, nI_toInt (by omega), show (0 : Int32).toInt = 0 by decide]; omega), if_pos (by rw [iZ_m1]; exact h2)]
theorem addG_new {S : SpS} {w : Int} (h : S.2.2 < 32) (hw : -800 ≤ w) (hw2 : w ≤ 800) (h2 : S.2.2 = 0 ∨ (S.2.1 (S.2.2 - 1)).toInt < w - 1) : addG S (iZ w) = (va_up S.1 S.2.2 (iZ w), va_up S.2.1 S.2.2 (iZ w), S.2.2 + 1) := by
  have n32 : ¬ 32 ≤ nI S.2.2 := by
    rw [Int32.le_iff_toInt_le, nI_toInt (by omega), show (32 : Int32).toInt = 32 by decide]
    omega
  unfold addG
  by_cases e : nI S.2.2 ≤ 0
  · rw [if_pos e, if_neg n32]
  · rw [if_neg e, if_neg n32, if_neg]
    intro y
    rcases h2 with q | q
    · rw [q] at e
      exact e (by decide)
    · rw [y, iZ_m1, iZ_toInt (by omega) (by omega)] at q
      omega
theorem wasI_new {A B : Nat → Int32} {s : Nat} {w : Int} : wasI (A, va_up B s (iZ w), s + 1) (w + 1) 1 := Or.inl ⟨rfl, by show 0 < s + 1; omega, by show va_up B s (iZ w) (s + 1 - 1) = _; rw [show s + 1 - 1 = s by omega, va_up_self, show w + 1 - 1 = w by omega]⟩
theorem wasI_ext {A B : Nat → Int32} {s : Nat} {w : Int} (h : 0 < s) : wasI (A, va_up B (s - 1) (iZ w), s) (w + 1) 1 := Or.inl ⟨rfl, h, by show va_up B (s - 1) (iZ w) (s - 1) = _; rw [va_up_self, show w + 1 - 1 = w by omega]⟩
theorem wasI_no {S : SpS} {w : Int} {was : Int32} (hw : -801 ≤ w - 1) (hw2 : w ≤ 801) (h : wasI S w was) : wasI S (w + 1) 0 := by
  rcases h with ⟨-, h1, h2⟩ | ⟨-, h1 | h1⟩
  · exact Or.inr ⟨rfl, Or.inr (by rw [h2, iZ_toInt (by omega) (by omega)]; omega)⟩
  · exact Or.inr ⟨rfl, Or.inl h1⟩
  · exact Or.inr ⟨rfl, Or.inr (by omega)⟩
theorem spE_new {FR TO : Nat → Int32} {s : Nat} {S : SpS} {v : Int32} (h : spE (FR, TO, s) S) : spE (va_up FR s v, va_up TO s v, s + 1) (va_up S.1 S.2.2 v, va_up S.2.1 S.2.2 v, S.2.2 + 1) := spE_push h
theorem spE_ex {FR TO : Nat → Int32} {s : Nat} {S : SpS} {v : Int32} (h : spE (FR, TO, s) S) : spE (FR, va_up TO (s - 1) v, s) (S.1, va_up S.2.1 (S.2.2 - 1) v, S.2.2) := by
  obtain ⟨h1, h2⟩ := h
  have h1 : s = S.2.2 := h1
  refine ⟨h1, fun t ht => ⟨(h2 t ht).1, ?_⟩⟩
  show va_up TO (s - 1) v t = va_up S.2.1 (S.2.2 - 1) v t
  rw [← h1]
  unfold va_up
  by_cases e : t = s - 1
  · rw [if_pos e, if_pos e]
  · rw [if_neg e, if_neg e]
    exact (h2 t ht).2
def offQ (hp hp' : mHp) : Prop := ∀ q, (q < 67 ∨ 67 < q ∧ q < 76 ∨ 79 < q ∧ q < 82 ∨ 83 < q) → hp' q = hp q
theorem offQ.rf {hp : mHp} : offQ hp hp := fun _ _ => rfl
def mSp (hp : mHp) : Prop := ∃ FR TO : Nat → Int32, hp 82 = eI 801 FR ∧ hp 83 = eI 801 TO
/-- what is left of a walk over all gains -/
def spQ (hp0 : mHp) (S : TS) (ia tm : Int32) (X : SpS × Int32) (hp' : mHp) : Prop := ∃ (ri ev le ch ls rm ra fa : Int32) (C PA FR TO : Nat → Int32), hp' 67 = eO 8 (oMod (nI S.2.1) ia tm ri ev le ch ls rm (nI X.1.2.2) ra fa) ∧ hp' 68 = eI 12 C ∧ hp' 69 = eI 72 PA ∧ S.2.1 ≤ 6 ∧ eq12 C S.1 ∧ mHist PA S.2.1 S.2.2 ∧ mScX hp' ∧ hp' 82 = eI 801 FR ∧ hp' 83 = eI 801 TO ∧ X.1.2.2 ≤ 32 ∧ spE (FR, TO, X.1.2.2) X.1 ∧ offQ hp0 hp'
theorem nI_sub1 (s : Nat) : nI (s + 1) - 1 = nI s := by
  rw [← nI_1, Int32.sub_eq_add_neg, Int32.add_assoc]
  exact Int32.add_zero _
theorem nI_sub1' {s : Nat} (h : 0 < s) : nI s - 1 = nI (s - 1) := by
  obtain ⟨t, rfl⟩ : ∃ t, s = t + 1 := ⟨s - 1, by omega⟩
  exact nI_sub1 t
theorem mScX_of {hp hp' : mHp} (h : mScX hp) (e : ∀ q, 76 ≤ q → q ≤ 79 → hp' q = hp q) : mScX hp' := by
  obtain ⟨Z, A, T0, Pr, s1, s2, s3, s4⟩ := h
  exact ⟨Z, A, T0, Pr, (e 76 (by decide) (by decide)).trans s1, (e 77 (by decide) (by decide)).trans s2, (e 78 (by decide) (by decide)).trans s3, (e 79 (by decide) (by decide)).trans s4⟩
set_option maxHeartbeats 400000 in
set_option maxRecDepth 100000 in
theorem l_X8_laysSpans {n : Nat} {hp0 : mHp} {T : TS} {ia tm b rm ra fa : Int32} {C PA : Nat → Int32} {X : SpS × Int32} (hC : okC T.1) (hTU : TUK) (hST : STK) (hb : inC b 2) (h4 : T.2.1 ≤ 6) (h5 : eq12 C T.1) (h6 : mHist PA T.2.1 T.2.2) {K : mK} (hF : mFin K D_X8_laysSpans n (fun r hp' => r = some (.int X.2) ∧ spQ hp0 T ia tm X hp')) : ∀ (r : Nat) (w : Int) (hp : mHp) (S : SpS) (sg was ri ev le ch ls : Int32) (FR TO : Nat → Int32) (v5 : Value), -800 ≤ w → w + r = 801 → hp 67 = eO 8 (oMod (nI T.2.1) ia tm ri ev le ch ls rm (nI S.2.2) ra fa) → hp 68 = eI 12 C → hp 69 = eI 72 PA → mScX hp → hp 82 = eI 801 FR → hp 83 = eI 801 TO → spE (FR, TO, S.2.2) S → wasI S w was → S.2.2 + cntU (spF b T.1) r w was ≤ 32 → (∀ _ : Unit, colG (spF b T.1) r w S sg = X) → offQ hp0 hp → mW K D_X8_laysSpans 0 0 n hp 14 [.ref 67, .int b, .int sg, .int was, .int (iZ w), v5] [] := by
  intro r
  induction r using Nat.strongRecOn with
  | ind r ih =>
    intro w hp S sg was ri ev le ch ls FR TO v5 hw0 hwr h1 h2 h3 hX h8 h9 hE hwI hU hv ho
    obtain ⟨Z0, A0, T0, Pr, s1, s2, s3, s4⟩ := hX
    have y1 : ∀ f : mE, va_up hp 76 f 67 = _ := fun f => (va_up_ne _ _ (by decide)).trans h1
    refine m_iload dX8_laysSpans_14 rfl ?_
    refine m_sipush (v := 800) dX8_laysSpans_16 (by decide) ?_
    refine m_icmp_gt (t := 95) dX8_laysSpans_19 (by decide) (fun cc => ?_) (fun cc => ?_)
    · have hw8 : 800 < w := (iZ_lt (a := 800) (b := w) (by decide) (by decide) (by omega) (by omega)).mp cc
      have hr : r = 0 := by omega
      subst hr
      have hXe : (S, sg) = X := hv ()
      subst hXe
      refine m_iload_n dX8_laysSpans_95 rfl ?_
      exact m_ireturn hF dX8_laysSpans_96 rfl rfl rfl ⟨rfl, ri, ev, le, ch, ls, rm, ra, fa, C, PA, FR, TO, h1, h2, h3, h4, h5, h6, ⟨Z0, A0, T0, Pr, s1, s2, s3, s4⟩, h8, h9, by show S.2.2 ≤ 32; omega, hE, ho⟩
    have hw8 : w ≤ 800 := by
      rcases Int.lt_or_le 800 w with q | q
      · exact absurd ((iZ_lt (a := 800) (b := w) (by decide) (by decide) (by omega) (by omega)).mpr q) cc
      · exact q
    have hv9 : inG (iZ w) := by
      rw [show inG (iZ w) = (-800 ≤ (iZ w).toInt ∧ (iZ w).toInt ≤ 800) from rfl, iZ_toInt (by omega) (by omega)]
      omega
    obtain ⟨r, rfl⟩ : ∃ r', r = r' + 1 := ⟨r - 1, by omega⟩
    refine m_aload_n dX8_laysSpans_22 rfl ?_
    refine m_iload dX8_laysSpans_23 rfl ?_
    refine m_invV_V dX8_laysSpans_25 lk_X8_167 ar_X8_loops (ci := 8) rfl rfl (by first | assumption | rfl | exact y1 _ | exact z1 _ | exact z2 _ _ | exact va_up_self _ _ _) (t_X8_loops h1 h2 s1) rfl (Nat.le_of_ble_eq_true rfl) (by decide) (by decide) (by decide) (by decide) rfl rfl ?_
    try rw [va_uu]
    refine m_aload_n dX8_laysSpans_28 rfl ?_
    refine m_iload_n dX8_laysSpans_29 rfl ?_
    refine m_invV dX8_laysSpans_30 lk_X8_204 ar_X8_isSteady (ci := 8) rfl rfl (by first | assumption | rfl | exact y1 _ | exact z1 _ | exact z2 _ _ | exact va_up_self _ _ _) (t_st5 (b := b) (Z := fill5 (loopL C (iZ w)) Z0) (y1 _) ⟨A0, T0, Pr, va_up_self _ _ _, (va_up_ne _ _ (by decide)).trans s2, (va_up_ne _ _ (by decide)).trans s3, (va_up_ne _ _ (by decide)).trans s4⟩ hTU hST (bL_of (loopL_b hC.1 hv9) (fun t ht => (fill5_at ht).trans ((loopL_eq h5 ht).trans loopL_Z))) hb) rfl (Nat.le_of_ble_eq_true rfl) (by decide) (by decide) (by decide) (by decide) (fun v hp' q => ?_)
    obtain ⟨x, rfl, x01, xs, ⟨ri1, ev1, le1, ch1, ls1, g1⟩, gX, gO⟩ := q
    have e9 : stB b (fill5 (loopL C (iZ w)) Z0) = spF b T.1 w := stB_eq (fun t ht => (fill5_at ht).trans ((loopL_eq h5 ht).trans (loopL_I hC.1 hv9 ht)))
    rw [e9] at xs
    have g2 : hp' 68 = eI 12 C := (gO 68 (by decide)).trans ((va_up_ne _ _ (by decide)).trans h2)
    have g3 : hp' 69 = eI 72 PA := (gO 69 (by decide)).trans ((va_up_ne _ _ (by decide)).trans h3)
    have g8 : hp' 82 = eI 801 FR := (gO 82 (by decide)).trans ((va_up_ne _ _ (by decide)).trans h8)
    have g9 : hp' 83 = eI 801 TO := (gO 83 (by decide)).trans ((va_up_ne _ _ (by decide)).trans h9)
    have gQ : offQ hp0 hp' := fun q hq => (by rw [gO q (by omega), va_up_ne _ _ (by omega)]; exact ho q hq)
    have z1 : ∀ f : mE, va_up hp' 82 f 67 = _ := fun f => (va_up_ne _ _ (by decide)).trans g1
    have z2 : ∀ f g : mE, va_up (va_up hp' 82 f) 67 g 83 = eI 801 TO := fun f g => (va_up_ne _ _ (by decide)).trans ((va_up_ne _ _ (by decide)).trans g9)
    show mW K _ 0 0 n hp' 33 [.ref 67, .int b, .int sg, .int was, .int (iZ w), _] [.int x]
    refine m_istore dX8_laysSpans_33 (by decide) ?_
    show mW _ _ _ _ _ _ 35 [_, _, _, _, _, _] _
    refine m_iload dX8_laysSpans_35 rfl ?_
    refine m_if_eq (t := 65) dX8_laysSpans_37 (by decide) (fun c37 => ?_) (fun c37 => ?_)
    · refine m_iload dX8_laysSpans_65 rfl ?_
      refine m_if_eq (t := 86) dX8_laysSpans_67 (by decide) (fun _ => ?_) (fun q => absurd c37 q)
      refine m_iload dX8_laysSpans_86 rfl ?_
      refine m_istore_n dX8_laysSpans_88 (by decide) ?_
      show mW _ _ _ _ _ _ 89 [_, _, _, _, _, _] _
      have hxx := xs.mp c37
      rw [cntU, if_pos hxx] at hU
      rw [c37]
      refine m_iinc (v := iZ (w + 1)) dX8_laysSpans_89 rfl (iZ_1 w) (by decide) ?_
      show mW _ _ _ _ _ _ 92 [_, _, _, _, _, _] _
      refine m_goto (t := 14) dX8_laysSpans_92 (by decide) ?_
      exact ih r (by omega) (w + 1) hp' S sg 0 ri1 ev1 le1 ch1 ls1 FR TO _ (by omega) (by omega) g1 g2 g3 gX g8 g9 hE (wasI_no (by omega) (by omega) hwI) hU (fun _ => by have q := hv (); rw [colG, if_pos hxx] at q; exact q) gQ
    refine m_iload_n dX8_laysSpans_40 rfl ?_
    refine m_if_ne (t := 65) dX8_laysSpans_41 (by decide) (fun c41 => ?_) (fun c41 => ?_)
    · refine m_iload dX8_laysSpans_65 rfl ?_
      refine m_if_eq (t := 86) dX8_laysSpans_67 (by decide) (fun q => absurd q c37) (fun _ => ?_)
      refine m_aload_n dX8_laysSpans_70 rfl ?_
      refine m_getfield dX8_laysSpans_71 fl_X8_60 (by first | assumption | rfl | exact y1 _ | exact z1 _ | exact z2 _ _ | exact va_up_self _ _ _) (by first | assumption | rfl | exact y1 _ | exact z1 _ | exact z2 _ _ | exact va_up_self _ _ _) ?_
      show mW _ _ _ _ _ _ _ _ (.ref _ :: _)
      refine m_aload_n dX8_laysSpans_74 rfl ?_
      refine m_getfield dX8_laysSpans_75 fl_X8_201 (by first | assumption | rfl | exact y1 _ | exact z1 _ | exact z2 _ _ | exact va_up_self _ _ _) (by first | assumption | rfl | exact y1 _ | exact z1 _ | exact z2 _ _ | exact va_up_self _ _ _) ?_
      show mW _ _ _ _ _ _ _ _ (.int _ :: _)
      refine m_iconst (v := 1) dX8_laysSpans_78 (by decide) ?_
      refine m_isub dX8_laysSpans_79 ?_
      have hs0 : 0 < S.2.2 := hwI.elim (fun y => y.2.1) (fun y => absurd y.1 c41)
      refine m_ci (v := nI (S.2.2 - 1)) (nI_sub1' hs0) ?_
      refine m_iload dX8_laysSpans_80 rfl ?_
      refine m_iastore dX8_laysSpans_82 (by first | assumption | rfl | exact y1 _ | exact z1 _ | exact z2 _ _ | exact va_up_self _ _ _) (mIx_lit (show S.2.2 - 1 < 801 by omega) (by decide)) ?_
      try rw [va_uu]
      refine m_iinc dX8_laysSpans_83 rfl rfl (by decide) ?_
      show mW _ _ _ _ _ _ 86 [_, _, _, _, _, _] _
      refine m_iload dX8_laysSpans_86 rfl ?_
      refine m_istore_n dX8_laysSpans_88 (by decide) ?_
      show mW _ _ _ _ _ _ 89 [_, _, _, _, _, _] _
      have hxx := fun y => c37 (xs.mpr y)
      rw [cntU, if_neg hxx, if_neg c41] at hU
      rw [x01.resolve_left c37]
      have hw1 := hwI.elim (fun y => y.2.2) (fun y => absurd y.1 c41)
      refine m_iinc (v := iZ (w + 1)) dX8_laysSpans_89 rfl (iZ_1 w) (by decide) ?_
      show mW _ _ _ _ _ _ 92 [_, _, _, _, _, _] _
      refine m_goto (t := 14) dX8_laysSpans_92 (by decide) ?_
      exact ih r (by omega) (w + 1) _ (S.1, va_up S.2.1 (S.2.2 - 1) (iZ w), S.2.2) (sg + 1) 1 ri1 ev1 le1 ch1 ls1 FR (va_up TO (S.2.2 - 1) (iZ w)) _ (by omega) (by omega) ((va_up_ne _ _ (by decide)).trans g1) ((va_up_ne _ _ (by decide)).trans g2) ((va_up_ne _ _ (by decide)).trans g3) (mScX_of gX (fun q a b => va_up_ne _ _ (by omega))) ((va_up_ne _ _ (by decide)).trans g8) (va_up_self _ _ _) (spE_ex hE) (wasI_ext hs0) (by show S.2.2 + _ ≤ 32; omega) (fun _ => by have q := hv (); rw [colG, if_neg hxx, addG_ext (by omega) hs0 hw1] at q; exact q) (fun q hq => by rw [va_up_ne _ _ (by omega)]; exact gQ q hq)
    refine m_aload_n dX8_laysSpans_44 rfl ?_
    refine m_getfield dX8_laysSpans_45 fl_X8_57 (by first | assumption | rfl | exact y1 _ | exact z1 _ | exact z2 _ _ | exact va_up_self _ _ _) (by first | assumption | rfl | exact y1 _ | exact z1 _ | exact z2 _ _ | exact va_up_self _ _ _) ?_
    show mW _ _ _ _ _ _ _ _ (.ref _ :: _)
    refine m_aload_n dX8_laysSpans_48 rfl ?_
    refine m_getfield dX8_laysSpans_49 fl_X8_201 (by first | assumption | rfl | exact y1 _ | exact z1 _ | exact z2 _ _ | exact va_up_self _ _ _) (by first | assumption | rfl | exact y1 _ | exact z1 _ | exact z2 _ _ | exact va_up_self _ _ _) ?_
    show mW _ _ _ _ _ _ _ _ (.int _ :: _)
    refine m_iload dX8_laysSpans_52 rfl ?_
    refine m_iastore dX8_laysSpans_54 (by first | assumption | rfl | exact y1 _ | exact z1 _ | exact z2 _ _ | exact va_up_self _ _ _) (mIx_lit (show S.2.2 < 801 by omega) (by decide)) ?_
    try rw [va_uu]
    refine m_aload_n dX8_laysSpans_55 rfl ?_
    refine m_dup dX8_laysSpans_56 rfl ?_
    refine m_getfield dX8_laysSpans_57 fl_X8_201 (by first | assumption | rfl | exact y1 _ | exact z1 _ | exact z2 _ _ | exact va_up_self _ _ _) (by first | assumption | rfl | exact y1 _ | exact z1 _ | exact z2 _ _ | exact va_up_self _ _ _) ?_
    show mW _ _ _ _ _ _ _ _ (.int _ :: _)
    refine m_iconst (v := 1) dX8_laysSpans_60 (by decide) ?_
    refine m_iadd dX8_laysSpans_61 ?_
    refine m_ci (v := nI (S.2.2 + 1)) (nI_add S.2.2 1) ?_
    refine m_putfield dX8_laysSpans_62 fl_X8_201 (by first | assumption | rfl | exact y1 _ | exact z1 _ | exact z2 _ _ | exact va_up_self _ _ _) (fun _ => rfl) (fun _ => rfl) ?_
    try rw [va_uu]
    rw [oMod_25]
    refine m_iload dX8_laysSpans_65 rfl ?_
    refine m_if_eq (t := 86) dX8_laysSpans_67 (by decide) (fun q => absurd q c37) (fun _ => ?_)
    refine m_aload_n dX8_laysSpans_70 rfl ?_
    refine m_getfield dX8_laysSpans_71 fl_X8_60 (by first | assumption | rfl | exact y1 _ | exact z1 _ | exact z2 _ _ | exact va_up_self _ _ _) (by first | assumption | rfl | exact y1 _ | exact z1 _ | exact z2 _ _ | exact va_up_self _ _ _) ?_
    show mW _ _ _ _ _ _ _ _ (.ref _ :: _)
    refine m_aload_n dX8_laysSpans_74 rfl ?_
    refine m_getfield dX8_laysSpans_75 fl_X8_201 (by first | assumption | rfl | exact y1 _ | exact z1 _ | exact z2 _ _ | exact va_up_self _ _ _) (by first | assumption | rfl | exact y1 _ | exact z1 _ | exact z2 _ _ | exact va_up_self _ _ _) ?_
    show mW _ _ _ _ _ _ _ _ (.int _ :: _)
    refine m_iconst (v := 1) dX8_laysSpans_78 (by decide) ?_
    refine m_isub dX8_laysSpans_79 ?_
    refine m_ci (v := nI S.2.2) (nI_sub1 S.2.2) ?_
    refine m_iload dX8_laysSpans_80 rfl ?_
    refine m_iastore dX8_laysSpans_82 (by first | assumption | rfl | exact y1 _ | exact z1 _ | exact z2 _ _ | exact va_up_self _ _ _) (mIx_lit (show S.2.2 < 801 by omega) (by decide)) ?_
    try rw [va_uu]
    refine m_iinc dX8_laysSpans_83 rfl rfl (by decide) ?_
    show mW _ _ _ _ _ _ 86 [_, _, _, _, _, _] _
    refine m_iload dX8_laysSpans_86 rfl ?_
    refine m_istore_n dX8_laysSpans_88 (by decide) ?_
    show mW _ _ _ _ _ _ 89 [_, _, _, _, _, _] _
    have hxx := fun y => c37 (xs.mpr y)
    rw [cntU, if_neg hxx, if_pos c41] at hU
    rw [x01.resolve_left c37]
    have hw0 : S.2.2 = 0 ∨ (S.2.1 (S.2.2 - 1)).toInt < w - 1 := hwI.elim (fun y => absurd (y.1.symm.trans c41) (by decide)) (fun y => y.2)
    refine m_iinc (v := iZ (w + 1)) dX8_laysSpans_89 rfl (iZ_1 w) (by decide) ?_
    show mW _ _ _ _ _ _ 92 [_, _, _, _, _, _] _
    refine m_goto (t := 14) dX8_laysSpans_92 (by decide) ?_
    exact ih r (by omega) (w + 1) _ (va_up S.1 S.2.2 (iZ w), va_up S.2.1 S.2.2 (iZ w), S.2.2 + 1) (sg + 1) 1 ri1 ev1 le1 ch1 ls1 (va_up FR S.2.2 (iZ w)) (va_up TO S.2.2 (iZ w)) _ (by omega) (by omega) ((va_up_ne _ _ (by decide)).trans (va_up_self _ _ _)) ((va_up_ne _ _ (by decide)).trans ((va_up_ne _ _ (by decide)).trans ((va_up_ne _ _ (by decide)).trans g2))) ((va_up_ne _ _ (by decide)).trans ((va_up_ne _ _ (by decide)).trans ((va_up_ne _ _ (by decide)).trans g3))) (mScX_of gX (fun q a b => by rw [va_up_ne _ _ (by omega), va_up_ne _ _ (by omega), va_up_ne _ _ (by omega)])) ((va_up_ne _ _ (by decide)).trans ((va_up_ne _ _ (by decide)).trans (va_up_self _ _ _))) (va_up_self _ _ _) (spE_new hE) wasI_new (by show S.2.2 + 1 + _ ≤ 32; omega) (fun _ => by have q := hv (); rw [colG, if_neg hxx, addG_new (by omega) (by omega) hw8 hw0] at q; exact q) (fun q hq => by rw [va_up_ne _ _ (by omega), va_up_ne _ _ (by omega), va_up_ne _ _ (by omega)]; exact gQ q hq)

set_option maxHeartbeats 400000 in
set_option maxRecDepth 100000 in
theorem t_X8_laysSpans {n : Nat} {hp : mHp} {S : TS} {ia tm : Int32} (h : mRep hp S ia tm) (hX : mScX hp) (hS : mSp hp) (hC : okC S.1) (hTU : TUK) (hST : STK) (hSK : SPK) {b : Int32} (hb : inC b 2) {X : SpS × Int32} (hv : ∀ _ : Unit, spn b S.1 = X) : mC D_X8_laysSpans [.ref 67, .int b] n hp (fun r hp' => r = some (.int X.2) ∧ spQ hp S ia tm X hp') := by
  refine m_enter rfl rfl (Nat.le_of_ble_eq_true rfl) (fun K hF => ?_)
  show mW K _ 0 0 _ _ 0 [.ref 67, .int b, .retAddr 0, .retAddr 0, .retAddr 0, .retAddr 0] []
  have hR := h
  obtain ⟨ri, ev, le, ch, ls, rm, sm, ra, fa, C, PA, h1, h2, h3, h4, h5, h6⟩ := h
  obtain ⟨FR, TO, h8, h9⟩ := hS
  refine m_aload_n dX8_laysSpans_0 rfl ?_
  refine m_iconst (v := 0) dX8_laysSpans_1 (by decide) ?_
  refine m_putfield dX8_laysSpans_2 fl_X8_201 (by first | assumption | rfl) (fun _ => rfl) (fun _ => rfl) ?_
  try rw [va_uu]
  rw [oMod_25]
  refine m_iconst (v := 0) dX8_laysSpans_5 (by decide) ?_
  refine m_istore_n dX8_laysSpans_6 (by decide) ?_
  show mW _ _ _ _ _ _ 7 [_, _, _, _, _, _] _
  refine m_iconst (v := 0) dX8_laysSpans_7 (by decide) ?_
  refine m_istore_n dX8_laysSpans_8 (by decide) ?_
  show mW _ _ _ _ _ _ 9 [_, _, _, _, _, _] _
  refine m_sipush (v := -800) dX8_laysSpans_9 (by decide) ?_
  refine m_istore dX8_laysSpans_12 (by decide) ?_
  show mW _ _ _ _ _ _ 14 [_, _, _, _, _, _] _
  exact l_X8_laysSpans (hp0 := hp) hC hTU hST hb h4 h5 h6 hF 1601 (-800) _ (fun _ => 0, fun _ => 0, 0) 0 0 ri ev le ch ls FR TO _ (by decide) (by decide) (va_up_self _ _ _) ((va_up_ne _ _ (by decide)).trans h2) ((va_up_ne _ _ (by decide)).trans h3) (mScX_of hX (fun q a b => va_up_ne _ _ (by omega))) ((va_up_ne _ _ (by decide)).trans h8) ((va_up_ne _ _ (by decide)).trans h9) ⟨rfl, fun t ht => absurd ht (Nat.not_lt_zero _)⟩ (Or.inr ⟨rfl, Or.inl rfl⟩) (by rw [Nat.zero_add]; exact hSK b S.1 hb hC) (fun _ => hv ()) (fun q hq => va_up_ne _ _ (by omega))

set_option maxHeartbeats 400000 in
set_option maxRecDepth 100000 in
theorem t_X8_spans {n : Nat} {hp : mHp} {S : TS} {ia tm : Int32} (h : mRep hp S ia tm) (hX : mScX hp) (hS : mSp hp) (hC : okC S.1) (hTU : TUK) (hST : STK) (hSK : SPK) {b w : Int32} : mC D_X8_spans [.ref 67, .int b, .int w] n hp (fun r hp' => r = some (.int (sSpans S b w)) ∧ mRep hp' S ia tm ∧ mScX hp' ∧ mSp hp' ∧ offQ hp hp') := by
  refine m_enter rfl rfl (Nat.le_of_ble_eq_true rfl) (fun K hF => ?_)
  show mW K _ 0 0 _ _ 0 [.ref 67, .int b, .int w, .retAddr 0] []
  obtain ⟨X, hv⟩ : ∃ X, ∀ _ : Unit, spn b S.1 = X := ⟨_, fun _ => rfl⟩
  obtain ⟨ri, ev, le, ch, ls, rm, sm, ra, fa, C, PA, h1, -⟩ := id h
  refine m_iload_n dX8_spans_0 rfl ?_
  refine m_i2l dX8_spans_1 ?_
  refine m_lconst (v := 0) dX8_spans_2 (by decide) ?_
  refine m_lconst (v := 1) dX8_spans_3 (by decide) ?_
  refine m_invS_I dX8_spans_4 lk_X8_141 ar_X8_in (t_X8_in) rfl (Nat.le_of_ble_eq_true rfl) (by decide) (by decide) (by decide) (by decide) rfl rfl ?_
  try rw [va_uu]
  refine m_if_eq (t := 20) dX8_spans_7 (by decide) (fun c7 => ?_) (fun c7 => ?_)
  · refine m_iconst (v := -1) dX8_spans_20 (by decide) ?_
    exact m_ireturn hF dX8_spans_21 rfl rfl rfl ⟨by unfold sSpans; rw [if_neg (by rintro ⟨y0, y1⟩; first | exact in2_iff.mp c7 y0 | exact in2_iff.mp c17 y1)], h, hX, hS, offQ.rf⟩
  refine m_iload_n dX8_spans_10 rfl ?_
  refine m_i2l dX8_spans_11 ?_
  refine m_lconst (v := 0) dX8_spans_12 (by decide) ?_
  refine m_lconst (v := 1) dX8_spans_13 (by decide) ?_
  refine m_invS_I dX8_spans_14 lk_X8_141 ar_X8_in (t_X8_in) rfl (Nat.le_of_ble_eq_true rfl) (by decide) (by decide) (by decide) (by decide) rfl rfl ?_
  try rw [va_uu]
  refine m_if_ne (t := 22) dX8_spans_17 (by decide) (fun c17 => ?_) (fun c17 => ?_)
  rotate_left
  · refine m_iconst (v := -1) dX8_spans_20 (by decide) ?_
    exact m_ireturn hF dX8_spans_21 rfl rfl rfl ⟨by unfold sSpans; rw [if_neg (by rintro ⟨y0, y1⟩; first | exact in2_iff.mp c7 y0 | exact in2_iff.mp c17 y1)], h, hX, hS, offQ.rf⟩
  have hok : inC b 2 ∧ inC w 2 := ⟨Classical.not_not.mp (fun y => c7 (in2_iff.mpr y)), Classical.not_not.mp (fun y => c17 (in2_iff.mpr y))⟩
  refine m_aload_n dX8_spans_22 rfl ?_
  refine m_iload_n dX8_spans_23 rfl ?_
  refine m_invV dX8_spans_24 lk_X8_211 ar_X8_laysSpans (ci := 8) rfl rfl (by first | assumption | rfl) (t_X8_laysSpans h hX hS hC hTU hST hSK hok.1 (X := X) hv) rfl (Nat.le_of_ble_eq_true rfl) (by decide) (by decide) (by decide) (by decide) (fun v hp' q => ?_)
  obtain ⟨rfl, gQ⟩ := q
  obtain ⟨ri1, ev1, le1, ch1, ls1, rm1, ra1, fa1, C1, PA1, FR, TO, g1, g2, g3, g4, g5, g6, gX, g8, g9, gL, gE, gO⟩ := gQ
  have gR : mRep hp' S ia tm := ⟨ri1, ev1, le1, ch1, ls1, rm1, _, ra1, fa1, C1, PA1, g1, g2, g3, g4, g5, g6⟩
  show mW K _ 0 0 n hp' 27 [.ref 67, .int b, .int w, _] [.int X.2]
  refine m_istore_n dX8_spans_27 (by decide) ?_
  show mW _ _ _ _ _ _ 28 [_, _, _, _] _
  refine m_iload_n dX8_spans_28 rfl ?_
  refine m_if_ne (t := 39) dX8_spans_29 (by decide) (fun c29 => ?_) (fun c29 => ?_)
  · refine m_iload_n dX8_spans_39 rfl ?_
    exact m_ireturn hF dX8_spans_40 rfl rfl rfl ⟨by unfold sSpans; rw [if_pos hok, hv (), if_neg c29], gR, gX, ⟨FR, TO, g8, g9⟩, gO⟩
  refine m_aload_n dX8_spans_32 rfl ?_
  refine m_getfield dX8_spans_33 fl_X8_201 (by first | assumption | rfl) (by first | assumption | rfl) ?_
  show mW _ _ _ _ _ _ _ _ (.int _ :: _)
  refine m_goto (t := 40) dX8_spans_36 (by decide) ?_
  exact m_ireturn hF dX8_spans_40 rfl rfl rfl ⟨by unfold sSpans; rw [if_pos hok, hv (), if_pos c29], gR, gX, ⟨FR, TO, g8, g9⟩, gO⟩

set_option maxHeartbeats 400000 in
set_option maxRecDepth 100000 in
theorem t_X8_span {n : Nat} {hp : mHp} {S : TS} {ia tm : Int32} (h : mRep hp S ia tm) (hX : mScX hp) (hS : mSp hp) (hC : okC S.1) (hTU : TUK) (hST : STK) (hSK : SPK) {b k w : Int32} : mC D_X8_span [.ref 67, .int b, .int k, .int w] n hp (fun r hp' => r = some (.int (sSpan S b k w)) ∧ mRep hp' S ia tm ∧ mScX hp' ∧ mSp hp' ∧ offQ hp hp') := by
  refine m_enter rfl rfl (Nat.le_of_ble_eq_true rfl) (fun K hF => ?_)
  show mW K _ 0 0 _ _ 0 [.ref 67, .int b, .int k, .int w] []
  obtain ⟨X, hv⟩ : ∃ X, ∀ _ : Unit, spn b S.1 = X := ⟨_, fun _ => rfl⟩
  obtain ⟨ri, ev, le, ch, ls, rm, sm, ra, fa, C, PA, h1, -⟩ := id h
  refine m_iload_n dX8_span_0 rfl ?_
  refine m_iload_n dX8_span_1 rfl ?_
  refine m_iload_n dX8_span_2 rfl ?_
  refine m_invS_I dX8_span_3 lk_X8_207 ar_X8_isAsk (t_X8_isAsk) rfl (Nat.le_of_ble_eq_true rfl) (by decide) (by decide) (by decide) (by decide) rfl rfl ?_
  try rw [va_uu]
  refine m_if_ne (t := 11) dX8_span_6 (by decide) (fun c6 => ?_) (fun c6 => ?_)
  rotate_left
  · refine m_iconst (v := -1) dX8_span_9 (by decide) ?_
    exact m_ireturn hF dX8_span_10 rfl rfl rfl ⟨by unfold sSpan; rw [if_neg (askM_iff.mp c6)], h, hX, hS, offQ.rf⟩
  have hok : inC b 2 ∧ 0 ≤ k ∧ inC w 2 := Classical.not_not.mp (fun y => c6 (askM_iff.mpr y))
  refine m_aload_n dX8_span_11 rfl ?_
  refine m_iload_n dX8_span_12 rfl ?_
  refine m_invV dX8_span_13 lk_X8_211 ar_X8_laysSpans (ci := 8) rfl rfl (by first | assumption | rfl) (t_X8_laysSpans h hX hS hC hTU hST hSK hok.1 (X := X) hv) rfl (Nat.le_of_ble_eq_true rfl) (by decide) (by decide) (by decide) (by decide) (fun v hp' q => ?_)
  obtain ⟨rfl, gQ⟩ := q
  obtain ⟨ri1, ev1, le1, ch1, ls1, rm1, ra1, fa1, C1, PA1, FR, TO, g1, g2, g3, g4, g5, g6, gX, g8, g9, gL, gE, gO⟩ := gQ
  have gR : mRep hp' S ia tm := ⟨ri1, ev1, le1, ch1, ls1, rm1, _, ra1, fa1, C1, PA1, g1, g2, g3, g4, g5, g6⟩
  show mW K _ 0 0 n hp' 16 [.ref 67, .int b, .int k, .int w] [.int X.2]
  refine m_pop dX8_span_16 rfl ?_
  refine m_iload_n dX8_span_17 rfl ?_
  refine m_aload_n dX8_span_18 rfl ?_
  refine m_getfield dX8_span_19 fl_X8_201 (by first | assumption | rfl) (by first | assumption | rfl) ?_
  show mW _ _ _ _ _ _ _ _ (.int _ :: _)
  refine m_icmp_lt (t := 30) dX8_span_22 (by decide) (fun c22 => ?_) (fun c22 => ?_)
  rotate_left
  · refine m_bipush (v := -4) dX8_span_25 (by decide) ?_
    refine m_goto (t := 53) dX8_span_27 (by decide) ?_
    exact m_ireturn hF dX8_span_53 rfl rfl rfl ⟨by unfold sSpan; rw [if_pos hok, hv (), if_neg c22], gR, gX, ⟨FR, TO, g8, g9⟩, gO⟩
  obtain ⟨kI, kL⟩ := nI_of0 (x := k) (Int32.le_iff_toInt_le.mp hok.2.1)
  have hA : tN k < X.1.2.2 := (by rw [kI] at c22; exact nI_ltN kL (by omega) c22)
  refine m_iload_n dX8_span_30 rfl ?_
  refine m_if_ne (t := 43) dX8_span_31 (by decide) (fun c31 => ?_) (fun c31 => ?_)
  · refine m_aload_n dX8_span_43 rfl ?_
    refine m_getfield dX8_span_44 fl_X8_60 (by first | assumption | rfl) (by first | assumption | rfl) ?_
    show mW _ _ _ _ _ _ _ _ (.ref _ :: _)
    refine m_iload_n dX8_span_47 rfl ?_
    refine m_iaload dX8_span_48 (by first | assumption | rfl) (by rw [kI]; exact mIx_lit (show tN k < 801 by omega) (by decide)) ?_
    refine m_sipush (v := 800) dX8_span_49 (by decide) ?_
    refine m_iadd dX8_span_52 ?_
    exact m_ireturn hF dX8_span_53 rfl rfl rfl ⟨by unfold sSpan; rw [if_pos hok, hv (), if_pos c22]; unfold spEnd; rw [if_neg c31, ← (gE.2 (tN k) hA).2], gR, gX, ⟨FR, TO, g8, g9⟩, gO⟩
  refine m_aload_n dX8_span_34 rfl ?_
  refine m_getfield dX8_span_35 fl_X8_57 (by first | assumption | rfl) (by first | assumption | rfl) ?_
  show mW _ _ _ _ _ _ _ _ (.ref _ :: _)
  refine m_iload_n dX8_span_38 rfl ?_
  refine m_iaload dX8_span_39 (by first | assumption | rfl) (by rw [kI]; exact mIx_lit (show tN k < 801 by omega) (by decide)) ?_
  refine m_goto (t := 49) dX8_span_40 (by decide) ?_
  refine m_sipush (v := 800) dX8_span_49 (by decide) ?_
  refine m_iadd dX8_span_52 ?_
  exact m_ireturn hF dX8_span_53 rfl rfl rfl ⟨by unfold sSpan; rw [if_pos hok, hv (), if_pos c22]; unfold spEnd; rw [if_pos c31, ← (gE.2 (tN k) hA).1], gR, gX, ⟨FR, TO, g8, g9⟩, gO⟩

