/-! ===== the reference: read ===== -/
def rtQ (b : Nat) (R R' : RtT) : Prop := R.1 = R'.1 ∧ R.2.2.2.2 = R'.2.2.2.2 ∧ ∀ t, b ≤ t → t < b + 5 → R.2.1 t = R'.2.1 t
theorem up_E {P P' : Nat → Int32} {b k : Nat} {x : Int32} (h : ∀ t, b ≤ t → t < b + 5 → P t = P' t) : ∀ t, b ≤ t → t < b + 5 → va_up P k x t = va_up P' k x t := fun t h1 h2 => by
  unfold va_up
  by_cases e : t = k
  · rw [if_pos e, if_pos e]
  · rw [if_neg e, if_neg e]
    exact h t h1 h2
theorem cTerms_E {LT : Nat → Int32} {z b : Nat} : ∀ (m : Nat) (la sg fg fg' : Int32) (pw pw' p : Nat) (P P' : Nat → Int32), (∀ t, b ≤ t → t < b + 5 → P t = P' t) → rtQ b (cTerms LT z b m la sg fg pw p P) (cTerms LT z b m la sg fg' pw' p P')
  | 0, la, sg, fg, fg', pw, pw', p, P, P', h => ⟨rfl, rfl, h⟩
  | m + 1, la, sg, fg, fg', pw, pw', p, P, P', h => by
    by_cases e0 : (cTerm LT z p).1 = 0
    · rw [cTerms_f e0, cTerms_f e0]
      exact ⟨rfl, rfl, h⟩
    · by_cases e1 : nI (cTerm LT z p).2.2.1 < la
      · rw [cTerms_s e0 e1, cTerms_s e0 e1]
        unfold cNext
        by_cases c1 : ltrB LT z (cTerm LT z p).2.2.2 = 43
        · rw [if_pos c1, if_pos c1]
          exact cTerms_E m _ _ _ _ _ _ _ _ _ (up_E h)
        · rw [if_neg c1, if_neg c1]
          by_cases c2 : ltrB LT z (cTerm LT z p).2.2.2 = 45
          · rw [if_pos c2, if_pos c2]
            exact cTerms_E m _ _ _ _ _ _ _ _ _ (up_E h)
          · rw [if_neg c2, if_neg c2]
            exact ⟨rfl, rfl, up_E h⟩
      · rw [cTerms_g e0 e1, cTerms_g e0 e1]
        exact ⟨rfl, rfl, h⟩
theorem cTerms_o {LT : Nat → Int32} {z b t : Nat} (ht : t < b ∨ b + 5 ≤ t) : ∀ (m : Nat) (la sg fg : Int32) (pw p : Nat) (P : Nat → Int32), p ≤ z → (cTerms LT z b m la sg fg pw p P).2.1 t = P t
  | 0, la, sg, fg, pw, p, P, h => rfl
  | m + 1, la, sg, fg, pw, p, P, h => by
    by_cases e0 : (cTerm LT z p).1 = 0
    · rw [cTerms_f e0]
    · by_cases e1 : nI (cTerm LT z p).2.2.1 < la
      · have k1 := cTerm_ok (LT := LT) h
        have k2 : ∀ x : Int32, va_up P (b + (cTerm LT z p).2.2.1) x t = P t := fun x => va_up_ne _ _ (by omega)
        rw [cTerms_s e0 e1]
        unfold cNext
        by_cases c1 : ltrB LT z (cTerm LT z p).2.2.2 = 43
        · rw [if_pos c1, cTerms_o ht m _ _ _ _ _ _ (ltrB_eq c1 (by decide)), k2]
        · rw [if_neg c1]
          by_cases c2 : ltrB LT z (cTerm LT z p).2.2.2 = 45
          · rw [if_pos c2, cTerms_o ht m _ _ _ _ _ _ (ltrB_eq c2 (by decide)), k2]
          · rw [if_neg c2]
            exact k2 _
      · rw [cTerms_g e0 e1]
theorem cTermsAll_E {LT : Nat → Int32} {z b p : Nat} {fg fg' : Int32} {pw pw' : Nat} {P P' : Nat → Int32} (h : ∀ t, b ≤ t → t < b + 5 → P t = P' t) : rtQ b (cTermsAll LT z b fg pw p P) (cTermsAll LT z b fg' pw' p P') := by
  unfold cTermsAll
  by_cases e : ltrB LT z p = 45
  · rw [if_pos e, if_pos e]
    exact cTerms_E _ _ _ _ _ _ _ _ _ _ h
  · rw [if_neg e, if_neg e]
    exact cTerms_E _ _ _ _ _ _ _ _ _ _ h
theorem cTermsAll_o {LT : Nat → Int32} {z b t : Nat} (ht : t < b ∨ b + 5 ≤ t) {fg : Int32} {pw p : Nat} {P : Nat → Int32} (h : p ≤ z) : (cTermsAll LT z b fg pw p P).2.1 t = P t := by
  unfold cTermsAll
  by_cases e : ltrB LT z p = 45
  · rw [if_pos e]
    exact cTerms_o ht _ _ _ _ _ _ _ (ltrB_eq e (by decide))
  · rw [if_neg e]
    exact cTerms_o ht _ _ _ _ _ _ _ (skipB_z h)
theorem zer5_in {RD : Nat → Int32} {w t : Nat} (h1 : 5 * w ≤ t) (h2 : t < 5 * w + 5) : zer5 RD w t = 0 := by
  unfold zer5 va_up
  by_cases e4 : t = 5 * w + 4
  · rw [if_pos e4]
  · rw [if_neg e4]
    by_cases e3 : t = 5 * w + 3
    · rw [if_pos e3]
    · rw [if_neg e3]
      by_cases e2 : t = 5 * w + 2
      · rw [if_pos e2]
      · rw [if_neg e2]
        by_cases e1 : t = 5 * w + 1
        · rw [if_pos e1]
        · rw [if_neg e1, if_pos (by omega)]
theorem zer5_out {RD : Nat → Int32} {w t : Nat} (h : t < 5 * w ∨ 5 * w + 5 ≤ t) : zer5 RD w t = RD t := by
  unfold zer5
  rw [va_up_ne _ _ (by omega), va_up_ne _ _ (by omega), va_up_ne _ _ (by omega), va_up_ne _ _ (by omega), va_up_ne _ _ (by omega)]
def tpOk (z : Nat) (LT : Nat → Int32) : Prop := ∀ t, t < z → 32 ≤ (LT t).toInt ∧ (LT t).toInt ≤ 126
theorem ltr_end {TP : Nat → Int32} {z p : Nat} (h : tpOk z TP) : ltrM TP z p = 0 ↔ ltrB TP z p = -1 := by
  unfold ltrM ltrB
  by_cases e : skipB TP z p < z
  · rw [if_pos e, if_pos e]
    have := h _ e
    constructor
    · intro q
      rw [q] at this
      exact absurd this.1 (by decide)
    · intro q
      rw [q] at this
      exact absurd this.1 (by decide)
  · rw [if_neg e, if_neg e]
    exact ⟨fun _ => rfl, fun _ => rfl⟩
theorem ltrB_idem {TP : Nat → Int32} {z p : Nat} : ltrB TP z (skipB TP z p) = ltrB TP z p := by
  unfold ltrB
  rw [skipB_idem]
section
variable {TP D P RD RD2 : Nat → Int32} {z q q2 pw pw2 : Nat} {fg fg2 : Int32}
theorem rd_1 (h0 : ∀ t, t < 10 → P t = 0) : rtQ 0 (cTermsAll TP z 0 fg2 pw2 0 (zer5 D 0)) (cTermsAll TP z 0 fg pw 0 P) := cTermsAll_E (fun t h1 h2 => by rw [h0 t (by omega), zer5_in (by omega) (by omega)])
theorem rdA (hz : z ≤ 60) (h0 : ∀ t, t < 10 → P t = 0) (h : trmP (cTermsAll TP z 0 fg2 pw2 0 (zer5 D 0)) TP z q 1 RD) : (cText TP z fg pw P).1 = nI q ∧ (cText TP z fg pw P).1 ≠ -1 := by
  obtain ⟨hq, h | ⟨h1, -, h2, h3⟩⟩ := h
  · exact absurd h.2.1 (by decide)
  · have E := rd_1 (TP := TP) (z := z) (fg2 := fg2) (pw2 := pw2) (fg := fg) (pw := pw) (D := D) h0
    have e : (cText TP z fg pw P).1 = nI q := by
      unfold cText
      rw [if_neg (by rw [← E.1]; exact h1)]
      exact E.1.symm.trans h2
    exact ⟨e, by rw [e]; exact nI_nm1 (by omega)⟩
theorem rdB (hz : z ≤ 60) (hL : tpOk z TP) (h0 : ∀ t, t < 10 → P t = 0) (h : trmP (cTermsAll TP z 0 fg2 pw2 0 (zer5 D 0)) TP z q 0 RD) (h59 : ¬ ltrM TP z q = 59) : (cText TP z fg pw P).2.1 = 0 ∧ (¬ ltrM TP z q = 0 → (cText TP z fg pw P).1 = nI (skipB TP z q) ∧ (cText TP z fg pw P).1 ≠ -1) ∧ (ltrM TP z q = 0 → (cText TP z fg pw P).1 = -1 ∧ (∀ t, t < 5 → RD t = (cText TP z fg pw P).2.2.1 t) ∧ ∀ t, 5 ≤ t → RD t = D t) := by
  obtain ⟨hq, ⟨h1, -, h2, h3⟩ | h⟩ := h
  · have E := rd_1 (TP := TP) (z := z) (fg2 := fg2) (pw2 := pw2) (fg := fg) (pw := pw) (D := D) h0
    have e1 : (cTermsAll TP z 0 fg pw 0 P).1 = -1 := E.1.symm.trans h1
    have e2 : (cTermsAll TP z 0 fg pw 0 P).2.2.2.2 = q := E.2.1.symm.trans h2.symm
    have n59 : ¬ ltrB TP z q = 59 := fun y => h59 ((ltrM_B (by decide) (by decide)).mpr y)
    unfold cText
    rw [if_pos e1, e2, if_neg n59]
    unfold cText2
    rw [if_pos e1, ltrB_idem, skipB_idem]
    by_cases c : ltrB TP z q = -1
    · rw [if_pos c]
      refine ⟨rfl, fun y => absurd ((ltr_end hL).mpr c) y, fun _ => ⟨e1, fun t ht => ?_, fun t ht => ?_⟩⟩
      · rw [h3]
        exact E.2.2 t (Nat.zero_le _) ht
      · rw [h3, cTermsAll_o (Or.inr ht) (Nat.zero_le _), zer5_out (Or.inr ht)]
    · rw [if_neg c]
      exact ⟨rfl, fun y => ⟨rfl, nI_nm1 (by have := skipB_z (LT := TP) hq; omega)⟩, fun y => absurd ((ltr_end hL).mp y) c⟩
  · exact absurd h.2.1 (by decide)
theorem rd_2 (h0 : ∀ t, t < 10 → P t = 0) (h : trmP (cTermsAll TP z 0 fg2 pw2 0 (zer5 D 0)) TP z q 0 RD) (h59 : ltrM TP z q = 59) {fg3 : Int32} {pw3 : Nat} : ∃ R : RtT, cText TP z fg pw P = cText2 TP z 1 R ∧ rtQ 5 (cTermsAll TP z 5 fg3 pw3 (skipB TP z q + 1) (zer5 RD 1)) R ∧ ∀ t, t < 5 → R.2.1 t = RD t := by
  obtain ⟨hq, ⟨h1, -, h2, h3⟩ | h⟩ := h
  · have E := rd_1 (TP := TP) (z := z) (fg2 := fg2) (pw2 := pw2) (fg := fg) (pw := pw) (D := D) h0
    have e1 : (cTermsAll TP z 0 fg pw 0 P).1 = -1 := E.1.symm.trans h1
    have e2 : (cTermsAll TP z 0 fg pw 0 P).2.2.2.2 = q := E.2.1.symm.trans h2.symm
    have y59 : ltrB TP z q = 59 := (ltrM_B (by decide) (by decide)).mp h59
    refine ⟨cTermsAll TP z 5 (cTermsAll TP z 0 fg pw 0 P).2.2.1 (cTermsAll TP z 0 fg pw 0 P).2.2.2.1 (skipB TP z q + 1) (cTermsAll TP z 0 fg pw 0 P).2.1, ?_, cTermsAll_E (fun t a b => ?_), fun t ht => ?_⟩
    · unfold cText
      rw [if_pos e1, e2, if_pos y59]
    · rw [zer5_in (by omega) (by omega), cTermsAll_o (Or.inr (by omega)) (Nat.zero_le _), h0 t (by omega)]
    · rw [cTermsAll_o (Or.inl ht) (ltrB_eq y59 (by decide)), h3]
      exact (E.2.2 t (Nat.zero_le _) ht).symm
  · exact absurd h.2.1 (by decide)
theorem rdC1 (hz : z ≤ 60) (h0 : ∀ t, t < 10 → P t = 0) (h : trmP (cTermsAll TP z 0 fg2 pw2 0 (zer5 D 0)) TP z q 0 RD) (h59 : ltrM TP z q = 59) (h2 : trmP (cTermsAll TP z 5 fg2 pw2 (skipB TP z q + 1) (zer5 RD 1)) TP z q2 1 RD2) : (cText TP z fg pw P).1 = nI q2 ∧ (cText TP z fg pw P).1 ≠ -1 := by
  obtain ⟨R, e, E, -⟩ := rd_2 (fg := fg) (pw := pw) (fg3 := fg2) (pw3 := pw2) h0 h h59
  obtain ⟨hq, h | ⟨h1, -, h2, h3⟩⟩ := h2
  · exact absurd h.2.1 (by decide)
  · have k : (cText TP z fg pw P).1 = nI q2 := by
      rw [e]
      unfold cText2
      rw [if_neg (by rw [← E.1]; exact h1)]
      exact E.1.symm.trans h2
    exact ⟨k, by rw [k]; exact nI_nm1 (by omega)⟩
theorem rdD (hz : z ≤ 60) (hL : tpOk z TP) (h0 : ∀ t, t < 10 → P t = 0) (h : trmP (cTermsAll TP z 0 fg2 pw2 0 (zer5 D 0)) TP z q 0 RD) (h59 : ltrM TP z q = 59) (h2 : trmP (cTermsAll TP z 5 fg2 pw2 (skipB TP z q + 1) (zer5 RD 1)) TP z q2 0 RD2) : (cText TP z fg pw P).2.1 = 1 ∧ (¬ ltrM TP z q2 = 0 → (cText TP z fg pw P).1 = nI (skipB TP z q2) ∧ (cText TP z fg pw P).1 ≠ -1) ∧ (ltrM TP z q2 = 0 → (cText TP z fg pw P).1 = -1 ∧ ∀ t, t < 10 → RD2 t = (cText TP z fg pw P).2.2.1 t) := by
  have s9 : skipB TP z q + 1 ≤ z := ltrB_eq ((ltrM_B (by decide) (by decide)).mp h59) (by decide)
  obtain ⟨R, e, E, F⟩ := rd_2 (fg := fg) (pw := pw) (fg3 := fg2) (pw3 := pw2) h0 h h59
  obtain ⟨hq, ⟨h1, -, h2, h3⟩ | h⟩ := h2
  · have e1 : R.1 = -1 := E.1.symm.trans h1
    have e2 : R.2.2.2.2 = q2 := E.2.1.symm.trans h2.symm
    rw [e]
    unfold cText2
    rw [if_pos e1, e2]
    by_cases c : ltrB TP z q2 = -1
    · rw [if_pos c]
      refine ⟨rfl, fun y => absurd ((ltr_end hL).mpr c) y, fun _ => ⟨e1, fun t ht => ?_⟩⟩
      rw [h3]
      by_cases t5 : t < 5
      · rw [cTermsAll_o (Or.inl t5) s9, zer5_out (Or.inl t5)]
        exact (F t t5).symm
      · exact E.2.2 t (by omega) (by omega)
    · rw [if_neg c]
      exact ⟨rfl, fun y => ⟨rfl, nI_nm1 (by have := skipB_z (LT := TP) hq; omega)⟩, fun y => absurd ((ltr_end hL).mp y) c⟩
  · exact absurd h.2.1 (by decide)
end
section
variable {TP LT : Nat → Int32} {z : Nat}
theorem skipB_c (h : ∀ t, t < z → TP t = LT t) : ∀ (m p : Nat), z - p ≤ m → skipB TP z p = skipB LT z p := by
  intro m
  induction m with
  | zero =>
    intro p hp
    rw [skipB_end (by omega), skipB_end (by omega)]
  | succ m ih =>
    intro p hp
    by_cases e : p < z ∧ TP p = 32
    · rw [skipB_go e.1 e.2, skipB_go e.1 (by rw [← h p e.1]; exact e.2)]
      exact ih (p + 1) (by omega)
    · rw [skipB_end e, skipB_end (fun y => e ⟨y.1, by rw [h p y.1]; exact y.2⟩)]
theorem skipB_c' (h : ∀ t, t < z → TP t = LT t) (p : Nat) : skipB TP z p = skipB LT z p := skipB_c h (z - p) p (Nat.le_refl _)
theorem ltrB_c (h : ∀ t, t < z → TP t = LT t) (p : Nat) : ltrB TP z p = ltrB LT z p := by
  unfold ltrB
  rw [skipB_c' h]
  by_cases e : skipB LT z p < z
  · rw [if_pos e, if_pos e, h _ e]
  · rw [if_neg e, if_neg e]
theorem cPow_c (h : ∀ t, t < z → TP t = LT t) (p : Nat) : cPow TP z p = cPow LT z p := by
  unfold cPow
  simp only [skipB_c' h, ltrB_c h]
theorem cTerm_c (h : ∀ t, t < z → TP t = LT t) (p : Nat) : cTerm TP z p = cTerm LT z p := by
  unfold cTerm
  simp only [skipB_c' h, ltrB_c h, cPow_c h]
theorem cTerms_c (h : ∀ t, t < z → TP t = LT t) {b : Nat} : ∀ (m : Nat) (la sg fg : Int32) (pw p : Nat) (P : Nat → Int32), cTerms TP z b m la sg fg pw p P = cTerms LT z b m la sg fg pw p P
  | 0, _, _, _, _, _, _ => rfl
  | m + 1, la, sg, fg, pw, p, P => by
    rw [cTerms, cTerms]
    simp only [skipB_c' h, ltrB_c h, cTerm_c h, cTerms_c h m]
theorem cTermsAll_c (h : ∀ t, t < z → TP t = LT t) {b : Nat} (fg : Int32) (pw p : Nat) (P : Nat → Int32) : cTermsAll TP z b fg pw p P = cTermsAll LT z b fg pw p P := by
  unfold cTermsAll
  simp only [skipB_c' h, ltrB_c h, cTerms_c h]
theorem cText_c (h : ∀ t, t < z → TP t = LT t) (fg : Int32) (pw : Nat) (P : Nat → Int32) : cText TP z fg pw P = cText LT z fg pw P := by
  unfold cText cText2
  simp only [skipB_c' h, ltrB_c h, cTermsAll_c h]
end
def mRd (hp : mHp) : Prop := ∃ RD, hp 84 = eI 10 RD
theorem va_4b {α : Type} (f : Nat → α) (a b : Nat) (x y x2 y2 : α) : va_up (va_up (va_up (va_up f b y) a x) a x2) b y2 = va_up (va_up f a x2) b y2 := by
  funext q
  by_cases e1 : q = b <;> by_cases e2 : q = a <;> simp [va_up, e1, e2]
theorem sRd_f {S : TS} {R : RdT} (h : R.1 ≠ -1) : sRead S R = (-20 - R.1, S) := if_neg h
theorem sRd_s {S : TS} {R : RdT} (h : R.1 = -1) : sRead S R = (orN (degI (rdC S.1 R) 0), rdC S.1 R, pushK S.2.1, pushH S.1 S.2.2) := if_pos h
set_option maxHeartbeats 400000 in
set_option maxRecDepth 100000 in
theorem t_X8_read {n : Nat} {hp : mHp} {S : TS} {ia : Int32} {z : Nat} {LT : Nat → Int32} (h : mRep hp S ia (nI z)) (hT : mTape hp z LT) (hL9 : tpOk z LT) (hD : mRd hp) (fg : Int32) (pw : Nat) (P : Nat → Int32) : mC D_X8_read [.ref 67] n hp (fun r hp' => r = some (.int (sRead S (cText LT z fg pw (fillTo P 0 10))).1) ∧ mRep hp' (sRead S (cText LT z fg pw (fillTo P 0 10))).2 ia 0 ∧ mTape hp' 0 LT ∧ mRd hp' ∧ ∀ q, (q < 67 ∨ 69 < q ∧ q ≠ 84) → hp' q = hp q) := by
  refine m_enter rfl rfl (Nat.le_of_ble_eq_true rfl) (fun K hF => ?_)
  show mW K _ 0 0 _ _ 0 [.ref 67, .retAddr 0] []
  have hR := h
  obtain ⟨ri, ev, le, ch, ls, rm, sm, ra, fa, C, PA, h1, h2, h3, h4, h5, h6⟩ := h
  obtain ⟨hz, TP, t1, t2⟩ := hT
  obtain ⟨RD, d1⟩ := hD
  have hL : tpOk z TP := fun t ht => (by rw [t2 t ht]; exact hL9 t ht)
  have h0 : ∀ t, t < 10 → fillTo P 0 10 t = 0 := fun t ht => if_pos ht
  refine m_aload_n dX8_read_0 rfl ?_
  refine m_iconst (v := 0) dX8_read_1 (by decide) ?_
  refine m_putfield dX8_read_2 fl_X8_226 (by first | assumption | rfl | exact va_up_self _ _ _ | exact (va_up_ne _ _ (by decide)).trans (va_up_self _ _ _) | exact (va_up_ne _ _ (by decide)).trans k1) (fun _ => rfl) (fun _ => rfl) ?_
  try rw [va_uu]
  rw [oMod_26]
  refine m_aload_n dX8_read_5 rfl ?_
  refine m_iconst (v := 0) dX8_read_6 (by decide) ?_
  refine m_putfield dX8_read_7 fl_X8_241 (by first | assumption | rfl | exact va_up_self _ _ _ | exact (va_up_ne _ _ (by decide)).trans (va_up_self _ _ _) | exact (va_up_ne _ _ (by decide)).trans k1) (fun _ => rfl) (fun _ => rfl) ?_
  try rw [va_uu]
  rw [oMod_27]
  refine m_aload_n dX8_read_10 rfl ?_
  refine m_getfield dX8_read_11 fl_X8_7 (by first | assumption | rfl | exact va_up_self _ _ _ | exact (va_up_ne _ _ (by decide)).trans (va_up_self _ _ _) | exact (va_up_ne _ _ (by decide)).trans k1) (by first | assumption | rfl | exact va_up_self _ _ _ | exact (va_up_ne _ _ (by decide)).trans (va_up_self _ _ _) | exact (va_up_ne _ _ (by decide)).trans k1) ?_
  show mW _ _ _ _ _ _ _ _ (.ref _ :: _)
  refine m_iconst (v := 0) dX8_read_14 (by decide) ?_
  refine m_aload_n dX8_read_15 rfl ?_
  refine m_getfield dX8_read_16 fl_X8_63 (by first | assumption | rfl | exact va_up_self _ _ _ | exact (va_up_ne _ _ (by decide)).trans (va_up_self _ _ _) | exact (va_up_ne _ _ (by decide)).trans k1) (by first | assumption | rfl | exact va_up_self _ _ _ | exact (va_up_ne _ _ (by decide)).trans (va_up_self _ _ _) | exact (va_up_ne _ _ (by decide)).trans k1) ?_
  show mW _ _ _ _ _ _ _ _ (.ref _ :: _)
  refine m_iconst (v := 0) dX8_read_19 (by decide) ?_
  refine m_bipush (v := 10) dX8_read_20 (by decide) ?_
  refine m_invS_V dX8_read_22 lk_X8_69 ar_X8_bring (t_X8_bring (a := 68) (b := 84) (la := 12) (lb := 10) (f := C) (g := RD) (i := 0) (j := 0) (m := 10) ((va_up_ne _ _ (by decide)).trans h2) ((va_up_ne _ _ (by decide)).trans d1) (Or.inl (by decide)) (by decide) (by decide) (by decide) (by decide)) rfl (Nat.le_of_ble_eq_true rfl) (by decide) (by decide) (by decide) (by decide) rfl rfl ?_
  try rw [va_uu]
  refine m_aload_n dX8_read_25 rfl ?_
  refine m_iconst (v := 0) dX8_read_26 (by decide) ?_
  refine m_invV dX8_read_27 lk_X8_252 ar_X8_terms (ci := 8) rfl rfl (by first | assumption | rfl | exact va_up_self _ _ _ | exact (va_up_ne _ _ (by decide)).trans (va_up_self _ _ _) | exact (va_up_ne _ _ (by decide)).trans k1) (t_X8_terms (p := 0) (w := 0) ((va_up_ne _ _ (by decide)).trans (va_up_self _ _ _)) ((va_up_ne _ _ (by decide)).trans ((va_up_ne _ _ (by decide)).trans t1)) (va_up_self _ _ _) hz (Nat.zero_le _) (by decide) 0 0) rfl (Nat.le_of_ble_eq_true rfl) (by decide) (by decide) (by decide) (by decide) (fun v hp' q => ?_)
  obtain ⟨q1, fa1, RD1, rfl, rfl, T1⟩ := q
  rw [va_4b]
  show mW K _ 0 0 n _ 30 [.ref 67, _] []
  have f1 : fa1 = 0 ∨ fa1 = 1 := T1.2.elim (fun y => Or.inl y.2.1) (fun y => Or.inr y.2.1)
  rcases f1 with rfl | rfl
  · skip
    refine m_aload_n dX8_read_30 rfl ?_
    refine m_getfield dX8_read_31 fl_X8_241 (by first | assumption | rfl | exact va_up_self _ _ _ | exact (va_up_ne _ _ (by decide)).trans (va_up_self _ _ _) | exact (va_up_ne _ _ (by decide)).trans k1) (by first | assumption | rfl | exact va_up_self _ _ _ | exact (va_up_ne _ _ (by decide)).trans (va_up_self _ _ _) | exact (va_up_ne _ _ (by decide)).trans k1) ?_
    show mW _ _ _ _ _ _ _ _ (.int _ :: _)
    skip
    refine m_if_ne (t := 63) dX8_read_34 (by decide) (fun q => absurd rfl q) (fun _ => ?_)
    refine m_aload_n dX8_read_37 rfl ?_
    refine m_aload_n dX8_read_38 rfl ?_
    refine m_invV_I dX8_read_39 lk_X8_229 ar_X8_looks (ci := 8) rfl rfl (by first | assumption | rfl | exact va_up_self _ _ _ | exact (va_up_ne _ _ (by decide)).trans (va_up_self _ _ _) | exact (va_up_ne _ _ (by decide)).trans k1) (t_X8_looks (va_up_self _ _ _) ((va_up_ne _ _ (by decide)).trans ((va_up_ne _ _ (by decide)).trans t1)) hz T1.1) rfl (Nat.le_of_ble_eq_true rfl) (by decide) (by decide) (by decide) (by decide) rfl rfl ?_
    try rw [va_uu]
    refine m_bipush (v := 59) dX8_read_42 (by decide) ?_
    refine m_icmp_ne (t := 51) dX8_read_44 (by decide) (fun c44 => ?_) (fun c44 => ?_)
    · have n59 : ¬ ltrM TP z q1 = 59 := c44
      refine m_iconst (v := 0) dX8_read_51 (by decide) ?_
      refine m_invV_I dX8_read_52 lk_X8_237 ar_X8_goesBy (ci := 8) rfl rfl (by first | assumption | rfl | exact va_up_self _ _ _ | exact (va_up_ne _ _ (by decide)).trans (va_up_self _ _ _) | exact (va_up_ne _ _ (by decide)).trans k1) (t_X8_goesBy (va_up_self _ _ _) (by decide)) rfl (Nat.le_of_ble_eq_true rfl) (by decide) (by decide) (by decide) (by decide) rfl rfl ?_
      try rw [va_uu]
      rw [if_pos rfl]
      refine m_if_eq (t := 63) dX8_read_55 (by decide) (fun _ => ?_) (fun q => absurd (by decide) q)
      skip
      refine m_aload_n dX8_read_63 rfl ?_
      refine m_aload_n dX8_read_64 rfl ?_
      refine m_getfield dX8_read_65 fl_X8_241 (by first | assumption | rfl | exact va_up_self _ _ _ | exact (va_up_ne _ _ (by decide)).trans (va_up_self _ _ _) | exact (va_up_ne _ _ (by decide)).trans k1) (by first | assumption | rfl | exact va_up_self _ _ _ | exact (va_up_ne _ _ (by decide)).trans (va_up_self _ _ _) | exact (va_up_ne _ _ (by decide)).trans k1) ?_
      show mW _ _ _ _ _ _ _ _ (.int _ :: _)
      skip
      refine m_if_ne (t := 78) dX8_read_68 (by decide) (fun q => absurd rfl q) (fun _ => ?_)
      refine m_aload_n dX8_read_71 rfl ?_
      refine m_invV_I dX8_read_72 lk_X8_229 ar_X8_looks (ci := 8) rfl rfl (by first | assumption | rfl | exact va_up_self _ _ _ | exact (va_up_ne _ _ (by decide)).trans (va_up_self _ _ _) | exact (va_up_ne _ _ (by decide)).trans k1) (t_X8_looks (va_up_self _ _ _) ((va_up_ne _ _ (by decide)).trans ((va_up_ne _ _ (by decide)).trans t1)) hz (skipB_z T1.1)) rfl (Nat.le_of_ble_eq_true rfl) (by decide) (by decide) (by decide) (by decide) rfl rfl ?_
      try rw [va_uu]
      rw [ltrM_idem, skipB_idem]
      refine m_if_eq (t := 82) dX8_read_75 (by decide) (fun c75 => ?_) (fun c75 => ?_)
      rotate_left
      · skip
        refine m_iconst (v := 1) dX8_read_78 (by decide) ?_
        refine m_goto (t := 83) dX8_read_79 (by decide) ?_
        refine m_putfield dX8_read_83 fl_X8_241 (by first | assumption | rfl | exact va_up_self _ _ _ | exact (va_up_ne _ _ (by decide)).trans (va_up_self _ _ _) | exact (va_up_ne _ _ (by decide)).trans k1) (fun _ => rfl) (fun _ => rfl) ?_
        try rw [va_uu]
        rw [oMod_27]
        refine m_aload_n dX8_read_86 rfl ?_
        refine m_invV_I dX8_read_87 lk_X8_229 ar_X8_looks (ci := 8) rfl rfl (by first | assumption | rfl | exact va_up_self _ _ _ | exact (va_up_ne _ _ (by decide)).trans (va_up_self _ _ _) | exact (va_up_ne _ _ (by decide)).trans k1) (t_X8_looks (va_up_self _ _ _) ((va_up_ne _ _ (by decide)).trans ((va_up_ne _ _ (by decide)).trans t1)) hz (skipB_z T1.1)) rfl (Nat.le_of_ble_eq_true rfl) (by decide) (by decide) (by decide) (by decide) rfl rfl ?_
        try rw [va_uu]
        rw [skipB_idem]
        refine m_pop dX8_read_90 rfl ?_
        refine m_aload_n dX8_read_91 rfl ?_
        refine m_getfield dX8_read_92 fl_X8_226 (by first | assumption | rfl | exact va_up_self _ _ _ | exact (va_up_ne _ _ (by decide)).trans (va_up_self _ _ _) | exact (va_up_ne _ _ (by decide)).trans k1) (by first | assumption | rfl | exact va_up_self _ _ _ | exact (va_up_ne _ _ (by decide)).trans (va_up_self _ _ _) | exact (va_up_ne _ _ (by decide)).trans k1) ?_
        show mW _ _ _ _ _ _ _ _ (.int _ :: _)
        refine m_istore_n dX8_read_95 (by decide) ?_
        show mW _ _ _ _ _ _ 96 [_, _] _
        refine m_aload_n dX8_read_96 rfl ?_
        refine m_iconst (v := 0) dX8_read_97 (by decide) ?_
        refine m_putfield dX8_read_98 fl_X8_223 (by first | assumption | rfl | exact va_up_self _ _ _ | exact (va_up_ne _ _ (by decide)).trans (va_up_self _ _ _) | exact (va_up_ne _ _ (by decide)).trans k1) (fun _ => rfl) (fun _ => rfl) ?_
        try rw [va_uu]
        rw [oMod_7]
        refine m_aload_n dX8_read_101 rfl ?_
        refine m_getfield dX8_read_102 fl_X8_241 (by first | assumption | rfl | exact va_up_self _ _ _ | exact (va_up_ne _ _ (by decide)).trans (va_up_self _ _ _) | exact (va_up_ne _ _ (by decide)).trans k1) (by first | assumption | rfl | exact va_up_self _ _ _ | exact (va_up_ne _ _ (by decide)).trans (va_up_self _ _ _) | exact (va_up_ne _ _ (by decide)).trans k1) ?_
        show mW _ _ _ _ _ _ _ _ (.int _ :: _)
        skip
        refine m_if_eq (t := 113) dX8_read_105 (by decide) (fun q => absurd q (by decide)) (fun _ => ?_)
        have F := (rdB (fg := fg) (pw := pw) (P := fillTo P 0 10) hz hL h0 T1 n59).2.1 c75
        refine m_bipush (v := -20) dX8_read_108 (by decide) ?_
        refine m_iload_n dX8_read_110 rfl ?_
        refine m_isub dX8_read_111 ?_
        exact m_ireturn hF dX8_read_112 rfl rfl rfl ⟨by rw [← cText_c t2, sRd_f F.2, F.1], by rw [← cText_c t2, sRd_f F.2]; exact ⟨ri, ev, le, ch, ls, rm, sm, _, _, C, PA, va_up_self _ _ _, (va_up_ne _ _ (by decide)).trans ((va_up_ne _ _ (by decide)).trans h2), (va_up_ne _ _ (by decide)).trans ((va_up_ne _ _ (by decide)).trans h3), h4, h5, h6⟩, ⟨by decide, TP, (va_up_ne _ _ (by decide)).trans ((va_up_ne _ _ (by decide)).trans t1), fun t ht => absurd ht (Nat.not_lt_zero _)⟩, ⟨_, (va_up_ne _ _ (by decide)).trans (va_up_self _ _ _)⟩, fun q hq => by rw [va_up_ne _ _ (by omega), va_up_ne _ _ (by omega)]⟩
      skip
      refine m_iconst (v := 0) dX8_read_82 (by decide) ?_
      refine m_putfield dX8_read_83 fl_X8_241 (by first | assumption | rfl | exact va_up_self _ _ _ | exact (va_up_ne _ _ (by decide)).trans (va_up_self _ _ _) | exact (va_up_ne _ _ (by decide)).trans k1) (fun _ => rfl) (fun _ => rfl) ?_
      try rw [va_uu]
      rw [oMod_27]
      refine m_aload_n dX8_read_86 rfl ?_
      refine m_invV_I dX8_read_87 lk_X8_229 ar_X8_looks (ci := 8) rfl rfl (by first | assumption | rfl | exact va_up_self _ _ _ | exact (va_up_ne _ _ (by decide)).trans (va_up_self _ _ _) | exact (va_up_ne _ _ (by decide)).trans k1) (t_X8_looks (va_up_self _ _ _) ((va_up_ne _ _ (by decide)).trans ((va_up_ne _ _ (by decide)).trans t1)) hz (skipB_z T1.1)) rfl (Nat.le_of_ble_eq_true rfl) (by decide) (by decide) (by decide) (by decide) rfl rfl ?_
      try rw [va_uu]
      rw [skipB_idem]
      refine m_pop dX8_read_90 rfl ?_
      refine m_aload_n dX8_read_91 rfl ?_
      refine m_getfield dX8_read_92 fl_X8_226 (by first | assumption | rfl | exact va_up_self _ _ _ | exact (va_up_ne _ _ (by decide)).trans (va_up_self _ _ _) | exact (va_up_ne _ _ (by decide)).trans k1) (by first | assumption | rfl | exact va_up_self _ _ _ | exact (va_up_ne _ _ (by decide)).trans (va_up_self _ _ _) | exact (va_up_ne _ _ (by decide)).trans k1) ?_
      show mW _ _ _ _ _ _ _ _ (.int _ :: _)
      refine m_istore_n dX8_read_95 (by decide) ?_
      show mW _ _ _ _ _ _ 96 [_, _] _
      refine m_aload_n dX8_read_96 rfl ?_
      refine m_iconst (v := 0) dX8_read_97 (by decide) ?_
      refine m_putfield dX8_read_98 fl_X8_223 (by first | assumption | rfl | exact va_up_self _ _ _ | exact (va_up_ne _ _ (by decide)).trans (va_up_self _ _ _) | exact (va_up_ne _ _ (by decide)).trans k1) (fun _ => rfl) (fun _ => rfl) ?_
      try rw [va_uu]
      rw [oMod_7]
      refine m_aload_n dX8_read_101 rfl ?_
      refine m_getfield dX8_read_102 fl_X8_241 (by first | assumption | rfl | exact va_up_self _ _ _ | exact (va_up_ne _ _ (by decide)).trans (va_up_self _ _ _) | exact (va_up_ne _ _ (by decide)).trans k1) (by first | assumption | rfl | exact va_up_self _ _ _ | exact (va_up_ne _ _ (by decide)).trans (va_up_self _ _ _) | exact (va_up_ne _ _ (by decide)).trans k1) ?_
      show mW _ _ _ _ _ _ _ _ (.int _ :: _)
      skip
      refine m_if_eq (t := 113) dX8_read_105 (by decide) (fun _ => ?_) (fun q => absurd (by decide) q)
      have F0 := rdB (fg := fg) (pw := pw) (P := fillTo P 0 10) hz hL h0 T1 n59
      have F := F0.2.2 c75
      have hcp : eq12 (va_cpy RD1 C 0 0 10) (rdC S.1 (cText TP z fg pw (fillTo P 0 10))) := fun t ht => (by
        unfold va_cpy rdC rdN
        rw [if_pos F0.1]
        by_cases t5 : t < 5
        · rw [if_pos (by omega), if_pos t5, show 0 + (t - 0) = t by omega]
          exact F.2.1 t t5
        · rw [if_neg t5]
          by_cases t10 : t < 10
          · rw [if_pos (by omega), show 0 + (t - 0) = t by omega, F.2.2 t (by omega)]
            unfold va_cpy
            rw [if_pos (by omega), show 0 + (t - 0) = t by omega]
            exact h5 t ht
          · rw [if_neg (by omega)]
            exact h5 t ht)
      have w1 : ∀ f g : mE, va_up (va_up hp 84 f) 67 g 68 = eI 12 C := fun f g => (va_up_ne _ _ (by decide)).trans ((va_up_ne _ _ (by decide)).trans h2)
      have w2 : ∀ f : mE, va_up (va_up hp 84 (eI 10 RD1)) 67 f 84 = eI 10 RD1 := fun f => (va_up_ne _ _ (by decide)).trans (va_up_self _ _ _)
      have w3 : ∀ f g : mE, va_up (va_up hp 84 f) 67 g 69 = eI 72 PA := fun f g => (va_up_ne _ _ (by decide)).trans ((va_up_ne _ _ (by decide)).trans h3)
      have w4 : ∀ f g : mE, va_up (va_up hp 84 f) 67 g 72 = eI 60 TP := fun f g => (va_up_ne _ _ (by decide)).trans ((va_up_ne _ _ (by decide)).trans t1)
      refine m_aload_n dX8_read_113 rfl ?_
      refine m_invV dX8_read_114 lk_X8_153 ar_X8_notes (ci := 8) rfl rfl (by first | assumption | rfl | exact va_up_self _ _ _ | exact (va_up_ne _ _ (by decide)).trans (va_up_self _ _ _) | exact (va_up_ne _ _ (by decide)).trans k1) (t_notes (S := S) (ia := ia) (tm := 0) ⟨ri, ev, le, ch, ls, rm, sm, _, _, C, PA, va_up_self _ _ _, w1 _ _, w3 _ _, h4, h5, h6⟩ (w1 _ _)) rfl (Nat.le_of_ble_eq_true rfl) (by decide) (by decide) (by decide) (by decide) (fun v hp' q => ?_)
      obtain ⟨rfl, gR, g2, gO⟩ := q
      obtain ⟨ri3, ev3, le3, ch3, ls3, rm3, sm3, ra3, fa3, C3, PA3, k1, k2, k3, k4, k5, k6⟩ := gR
      have g84 : hp' 84 = eI 10 RD1 := (gO 84 (by decide)).trans (w2 _)
      have g72 : hp' 72 = eI 60 TP := (gO 72 (by decide)).trans (w4 _ _)
      show mW K _ 0 0 n hp' 117 [.ref 67, _] []
      refine m_aload_n dX8_read_117 rfl ?_
      refine m_getfield dX8_read_118 fl_X8_63 (by first | assumption | rfl | exact va_up_self _ _ _ | exact (va_up_ne _ _ (by decide)).trans (va_up_self _ _ _) | exact (va_up_ne _ _ (by decide)).trans k1) (by first | assumption | rfl | exact va_up_self _ _ _ | exact (va_up_ne _ _ (by decide)).trans (va_up_self _ _ _) | exact (va_up_ne _ _ (by decide)).trans k1) ?_
      show mW _ _ _ _ _ _ _ _ (.ref _ :: _)
      refine m_iconst (v := 0) dX8_read_121 (by decide) ?_
      refine m_aload_n dX8_read_122 rfl ?_
      refine m_getfield dX8_read_123 fl_X8_7 (by first | assumption | rfl | exact va_up_self _ _ _ | exact (va_up_ne _ _ (by decide)).trans (va_up_self _ _ _) | exact (va_up_ne _ _ (by decide)).trans k1) (by first | assumption | rfl | exact va_up_self _ _ _ | exact (va_up_ne _ _ (by decide)).trans (va_up_self _ _ _) | exact (va_up_ne _ _ (by decide)).trans k1) ?_
      show mW _ _ _ _ _ _ _ _ (.ref _ :: _)
      refine m_iconst (v := 0) dX8_read_126 (by decide) ?_
      refine m_bipush (v := 10) dX8_read_127 (by decide) ?_
      refine m_invS_V dX8_read_129 lk_X8_69 ar_X8_bring (t_X8_bring (a := 84) (b := 68) (la := 10) (lb := 12) (f := RD1) (g := C) (i := 0) (j := 0) (m := 10) g84 g2 (Or.inl (by decide)) (by decide) (by decide) (by decide) (by decide)) rfl (Nat.le_of_ble_eq_true rfl) (by decide) (by decide) (by decide) (by decide) rfl rfl ?_
      try rw [va_uu]
      refine m_aload_n dX8_read_132 rfl ?_
      refine m_iconst (v := 0) dX8_read_133 (by decide) ?_
      refine m_invV_I dX8_read_134 lk_X8_164 ar_X8_degreeOf (ci := 8) rfl rfl (by first | assumption | rfl | exact va_up_self _ _ _ | exact (va_up_ne _ _ (by decide)).trans (va_up_self _ _ _) | exact (va_up_ne _ _ (by decide)).trans k1) (t_X8_degreeOf (w := 0) ((va_up_ne _ _ (by decide)).trans k1) (va_up_self _ _ _) (by decide)) rfl (Nat.le_of_ble_eq_true rfl) (by decide) (by decide) (by decide) (by decide) rfl rfl ?_
      try rw [va_uu]
      exact m_ireturn hF dX8_read_137 rfl rfl rfl ⟨by rw [← cText_c t2, sRd_s F.1, degI_eq (fun t ht => hcp t (by omega)) (by decide)], by rw [← cText_c t2, sRd_s F.1]; exact ⟨ri3, ev3, le3, ch3, ls3, rm3, sm3, ra3, fa3, _, PA3, (va_up_ne _ _ (by decide)).trans k1, va_up_self _ _ _, (va_up_ne _ _ (by decide)).trans k3, k4, hcp, k6⟩, ⟨by decide, TP, (va_up_ne _ _ (by decide)).trans g72, fun t ht => absurd ht (Nat.not_lt_zero _)⟩, ⟨_, (va_up_ne _ _ (by decide)).trans g84⟩, fun q hq => by rw [va_up_ne _ _ (by omega), gO q (by omega), va_up_ne _ _ (by omega), va_up_ne _ _ (by omega)]⟩
    have e59 : ltrM TP z q1 = 59 := c44
    have s9 : skipB TP z q1 + 1 ≤ z := ltrB_eq ((ltrM_B (by decide) (by decide)).mp e59) (by decide)
    refine m_iconst (v := 1) dX8_read_47 (by decide) ?_
    refine m_goto (t := 52) dX8_read_48 (by decide) ?_
    refine m_invV_I dX8_read_52 lk_X8_237 ar_X8_goesBy (ci := 8) rfl rfl (by first | assumption | rfl | exact va_up_self _ _ _ | exact (va_up_ne _ _ (by decide)).trans (va_up_self _ _ _) | exact (va_up_ne _ _ (by decide)).trans k1) (t_X8_goesBy (va_up_self _ _ _) (by decide)) rfl (Nat.le_of_ble_eq_true rfl) (by decide) (by decide) (by decide) (by decide) rfl rfl ?_
    try rw [va_uu]
    rw [if_neg (by decide)]
    refine m_if_eq (t := 63) dX8_read_55 (by decide) (fun q => absurd q (by decide)) (fun _ => ?_)
    refine m_aload_n dX8_read_58 rfl ?_
    refine m_iconst (v := 1) dX8_read_59 (by decide) ?_
    refine m_invV dX8_read_60 lk_X8_252 ar_X8_terms (ci := 8) rfl rfl (by first | assumption | rfl | exact va_up_self _ _ _ | exact (va_up_ne _ _ (by decide)).trans (va_up_self _ _ _) | exact (va_up_ne _ _ (by decide)).trans k1) (t_X8_terms (w := 1) (va_up_self _ _ _) ((va_up_ne _ _ (by decide)).trans ((va_up_ne _ _ (by decide)).trans t1)) ((va_up_ne _ _ (by decide)).trans (va_up_self _ _ _)) hz s9 (by decide) 0 0) rfl (Nat.le_of_ble_eq_true rfl) (by decide) (by decide) (by decide) (by decide) (fun v hp' q => ?_)
    obtain ⟨q2, fa2, RD2, rfl, rfl, T2⟩ := q
    rw [va_4]
    show mW K _ 0 0 n _ 63 [.ref 67, _] []
    have f2 : fa2 = 0 ∨ fa2 = 1 := T2.2.elim (fun y => Or.inl y.2.1) (fun y => Or.inr y.2.1)
    rcases f2 with rfl | rfl
    · skip
      refine m_aload_n dX8_read_63 rfl ?_
      refine m_aload_n dX8_read_64 rfl ?_
      refine m_getfield dX8_read_65 fl_X8_241 (by first | assumption | rfl | exact va_up_self _ _ _ | exact (va_up_ne _ _ (by decide)).trans (va_up_self _ _ _) | exact (va_up_ne _ _ (by decide)).trans k1) (by first | assumption | rfl | exact va_up_self _ _ _ | exact (va_up_ne _ _ (by decide)).trans (va_up_self _ _ _) | exact (va_up_ne _ _ (by decide)).trans k1) ?_
      show mW _ _ _ _ _ _ _ _ (.int _ :: _)
      skip
      refine m_if_ne (t := 78) dX8_read_68 (by decide) (fun q => absurd rfl q) (fun _ => ?_)
      refine m_aload_n dX8_read_71 rfl ?_
      refine m_invV_I dX8_read_72 lk_X8_229 ar_X8_looks (ci := 8) rfl rfl (by first | assumption | rfl | exact va_up_self _ _ _ | exact (va_up_ne _ _ (by decide)).trans (va_up_self _ _ _) | exact (va_up_ne _ _ (by decide)).trans k1) (t_X8_looks (va_up_self _ _ _) ((va_up_ne _ _ (by decide)).trans ((va_up_ne _ _ (by decide)).trans t1)) hz T2.1) rfl (Nat.le_of_ble_eq_true rfl) (by decide) (by decide) (by decide) (by decide) rfl rfl ?_
      try rw [va_uu]
      skip
      refine m_if_eq (t := 82) dX8_read_75 (by decide) (fun c75 => ?_) (fun c75 => ?_)
      rotate_left
      · skip
        refine m_iconst (v := 1) dX8_read_78 (by decide) ?_
        refine m_goto (t := 83) dX8_read_79 (by decide) ?_
        refine m_putfield dX8_read_83 fl_X8_241 (by first | assumption | rfl | exact va_up_self _ _ _ | exact (va_up_ne _ _ (by decide)).trans (va_up_self _ _ _) | exact (va_up_ne _ _ (by decide)).trans k1) (fun _ => rfl) (fun _ => rfl) ?_
        try rw [va_uu]
        rw [oMod_27]
        refine m_aload_n dX8_read_86 rfl ?_
        refine m_invV_I dX8_read_87 lk_X8_229 ar_X8_looks (ci := 8) rfl rfl (by first | assumption | rfl | exact va_up_self _ _ _ | exact (va_up_ne _ _ (by decide)).trans (va_up_self _ _ _) | exact (va_up_ne _ _ (by decide)).trans k1) (t_X8_looks (va_up_self _ _ _) ((va_up_ne _ _ (by decide)).trans ((va_up_ne _ _ (by decide)).trans t1)) hz (skipB_z T2.1)) rfl (Nat.le_of_ble_eq_true rfl) (by decide) (by decide) (by decide) (by decide) rfl rfl ?_
        try rw [va_uu]
        rw [skipB_idem]
        refine m_pop dX8_read_90 rfl ?_
        refine m_aload_n dX8_read_91 rfl ?_
        refine m_getfield dX8_read_92 fl_X8_226 (by first | assumption | rfl | exact va_up_self _ _ _ | exact (va_up_ne _ _ (by decide)).trans (va_up_self _ _ _) | exact (va_up_ne _ _ (by decide)).trans k1) (by first | assumption | rfl | exact va_up_self _ _ _ | exact (va_up_ne _ _ (by decide)).trans (va_up_self _ _ _) | exact (va_up_ne _ _ (by decide)).trans k1) ?_
        show mW _ _ _ _ _ _ _ _ (.int _ :: _)
        refine m_istore_n dX8_read_95 (by decide) ?_
        show mW _ _ _ _ _ _ 96 [_, _] _
        refine m_aload_n dX8_read_96 rfl ?_
        refine m_iconst (v := 0) dX8_read_97 (by decide) ?_
        refine m_putfield dX8_read_98 fl_X8_223 (by first | assumption | rfl | exact va_up_self _ _ _ | exact (va_up_ne _ _ (by decide)).trans (va_up_self _ _ _) | exact (va_up_ne _ _ (by decide)).trans k1) (fun _ => rfl) (fun _ => rfl) ?_
        try rw [va_uu]
        rw [oMod_7]
        refine m_aload_n dX8_read_101 rfl ?_
        refine m_getfield dX8_read_102 fl_X8_241 (by first | assumption | rfl | exact va_up_self _ _ _ | exact (va_up_ne _ _ (by decide)).trans (va_up_self _ _ _) | exact (va_up_ne _ _ (by decide)).trans k1) (by first | assumption | rfl | exact va_up_self _ _ _ | exact (va_up_ne _ _ (by decide)).trans (va_up_self _ _ _) | exact (va_up_ne _ _ (by decide)).trans k1) ?_
        show mW _ _ _ _ _ _ _ _ (.int _ :: _)
        skip
        refine m_if_eq (t := 113) dX8_read_105 (by decide) (fun q => absurd q (by decide)) (fun _ => ?_)
        have F := (rdD (fg := fg) (pw := pw) (P := fillTo P 0 10) hz hL h0 T1 e59 T2).2.1 c75
        refine m_bipush (v := -20) dX8_read_108 (by decide) ?_
        refine m_iload_n dX8_read_110 rfl ?_
        refine m_isub dX8_read_111 ?_
        exact m_ireturn hF dX8_read_112 rfl rfl rfl ⟨by rw [← cText_c t2, sRd_f F.2, F.1], by rw [← cText_c t2, sRd_f F.2]; exact ⟨ri, ev, le, ch, ls, rm, sm, _, _, C, PA, va_up_self _ _ _, (va_up_ne _ _ (by decide)).trans ((va_up_ne _ _ (by decide)).trans h2), (va_up_ne _ _ (by decide)).trans ((va_up_ne _ _ (by decide)).trans h3), h4, h5, h6⟩, ⟨by decide, TP, (va_up_ne _ _ (by decide)).trans ((va_up_ne _ _ (by decide)).trans t1), fun t ht => absurd ht (Nat.not_lt_zero _)⟩, ⟨_, (va_up_ne _ _ (by decide)).trans (va_up_self _ _ _)⟩, fun q hq => by rw [va_up_ne _ _ (by omega), va_up_ne _ _ (by omega)]⟩
      skip
      refine m_iconst (v := 0) dX8_read_82 (by decide) ?_
      refine m_putfield dX8_read_83 fl_X8_241 (by first | assumption | rfl | exact va_up_self _ _ _ | exact (va_up_ne _ _ (by decide)).trans (va_up_self _ _ _) | exact (va_up_ne _ _ (by decide)).trans k1) (fun _ => rfl) (fun _ => rfl) ?_
      try rw [va_uu]
      rw [oMod_27]
      refine m_aload_n dX8_read_86 rfl ?_
      refine m_invV_I dX8_read_87 lk_X8_229 ar_X8_looks (ci := 8) rfl rfl (by first | assumption | rfl | exact va_up_self _ _ _ | exact (va_up_ne _ _ (by decide)).trans (va_up_self _ _ _) | exact (va_up_ne _ _ (by decide)).trans k1) (t_X8_looks (va_up_self _ _ _) ((va_up_ne _ _ (by decide)).trans ((va_up_ne _ _ (by decide)).trans t1)) hz (skipB_z T2.1)) rfl (Nat.le_of_ble_eq_true rfl) (by decide) (by decide) (by decide) (by decide) rfl rfl ?_
      try rw [va_uu]
      rw [skipB_idem]
      refine m_pop dX8_read_90 rfl ?_
      refine m_aload_n dX8_read_91 rfl ?_
      refine m_getfield dX8_read_92 fl_X8_226 (by first | assumption | rfl | exact va_up_self _ _ _ | exact (va_up_ne _ _ (by decide)).trans (va_up_self _ _ _) | exact (va_up_ne _ _ (by decide)).trans k1) (by first | assumption | rfl | exact va_up_self _ _ _ | exact (va_up_ne _ _ (by decide)).trans (va_up_self _ _ _) | exact (va_up_ne _ _ (by decide)).trans k1) ?_
      show mW _ _ _ _ _ _ _ _ (.int _ :: _)
      refine m_istore_n dX8_read_95 (by decide) ?_
      show mW _ _ _ _ _ _ 96 [_, _] _
      refine m_aload_n dX8_read_96 rfl ?_
      refine m_iconst (v := 0) dX8_read_97 (by decide) ?_
      refine m_putfield dX8_read_98 fl_X8_223 (by first | assumption | rfl | exact va_up_self _ _ _ | exact (va_up_ne _ _ (by decide)).trans (va_up_self _ _ _) | exact (va_up_ne _ _ (by decide)).trans k1) (fun _ => rfl) (fun _ => rfl) ?_
      try rw [va_uu]
      rw [oMod_7]
      refine m_aload_n dX8_read_101 rfl ?_
      refine m_getfield dX8_read_102 fl_X8_241 (by first | assumption | rfl | exact va_up_self _ _ _ | exact (va_up_ne _ _ (by decide)).trans (va_up_self _ _ _) | exact (va_up_ne _ _ (by decide)).trans k1) (by first | assumption | rfl | exact va_up_self _ _ _ | exact (va_up_ne _ _ (by decide)).trans (va_up_self _ _ _) | exact (va_up_ne _ _ (by decide)).trans k1) ?_
      show mW _ _ _ _ _ _ _ _ (.int _ :: _)
      skip
      refine m_if_eq (t := 113) dX8_read_105 (by decide) (fun _ => ?_) (fun q => absurd (by decide) q)
      have F0 := rdD (fg := fg) (pw := pw) (P := fillTo P 0 10) hz hL h0 T1 e59 T2
      have F := F0.2.2 c75
      have hcp : eq12 (va_cpy RD2 C 0 0 10) (rdC S.1 (cText TP z fg pw (fillTo P 0 10))) := fun t ht => (by
        unfold va_cpy rdC rdN
        rw [if_neg (show ¬ (cText TP z fg pw (fillTo P 0 10)).2.1 = 0 from fun y => absurd (F0.1.symm.trans y) (by decide))]
        by_cases t10 : t < 10
        · rw [if_pos (by omega), if_pos t10, show 0 + (t - 0) = t by omega]
          exact F.2 t t10
        · rw [if_neg (by omega), if_neg t10]
          exact h5 t ht)
      have w1 : ∀ f g : mE, va_up (va_up hp 84 f) 67 g 68 = eI 12 C := fun f g => (va_up_ne _ _ (by decide)).trans ((va_up_ne _ _ (by decide)).trans h2)
      have w2 : ∀ f : mE, va_up (va_up hp 84 (eI 10 RD2)) 67 f 84 = eI 10 RD2 := fun f => (va_up_ne _ _ (by decide)).trans (va_up_self _ _ _)
      have w3 : ∀ f g : mE, va_up (va_up hp 84 f) 67 g 69 = eI 72 PA := fun f g => (va_up_ne _ _ (by decide)).trans ((va_up_ne _ _ (by decide)).trans h3)
      have w4 : ∀ f g : mE, va_up (va_up hp 84 f) 67 g 72 = eI 60 TP := fun f g => (va_up_ne _ _ (by decide)).trans ((va_up_ne _ _ (by decide)).trans t1)
      refine m_aload_n dX8_read_113 rfl ?_
      refine m_invV dX8_read_114 lk_X8_153 ar_X8_notes (ci := 8) rfl rfl (by first | assumption | rfl | exact va_up_self _ _ _ | exact (va_up_ne _ _ (by decide)).trans (va_up_self _ _ _) | exact (va_up_ne _ _ (by decide)).trans k1) (t_notes (S := S) (ia := ia) (tm := 0) ⟨ri, ev, le, ch, ls, rm, sm, _, _, C, PA, va_up_self _ _ _, w1 _ _, w3 _ _, h4, h5, h6⟩ (w1 _ _)) rfl (Nat.le_of_ble_eq_true rfl) (by decide) (by decide) (by decide) (by decide) (fun v hp' q => ?_)
      obtain ⟨rfl, gR, g2, gO⟩ := q
      obtain ⟨ri3, ev3, le3, ch3, ls3, rm3, sm3, ra3, fa3, C3, PA3, k1, k2, k3, k4, k5, k6⟩ := gR
      have g84 : hp' 84 = eI 10 RD2 := (gO 84 (by decide)).trans (w2 _)
      have g72 : hp' 72 = eI 60 TP := (gO 72 (by decide)).trans (w4 _ _)
      show mW K _ 0 0 n hp' 117 [.ref 67, _] []
      refine m_aload_n dX8_read_117 rfl ?_
      refine m_getfield dX8_read_118 fl_X8_63 (by first | assumption | rfl | exact va_up_self _ _ _ | exact (va_up_ne _ _ (by decide)).trans (va_up_self _ _ _) | exact (va_up_ne _ _ (by decide)).trans k1) (by first | assumption | rfl | exact va_up_self _ _ _ | exact (va_up_ne _ _ (by decide)).trans (va_up_self _ _ _) | exact (va_up_ne _ _ (by decide)).trans k1) ?_
      show mW _ _ _ _ _ _ _ _ (.ref _ :: _)
      refine m_iconst (v := 0) dX8_read_121 (by decide) ?_
      refine m_aload_n dX8_read_122 rfl ?_
      refine m_getfield dX8_read_123 fl_X8_7 (by first | assumption | rfl | exact va_up_self _ _ _ | exact (va_up_ne _ _ (by decide)).trans (va_up_self _ _ _) | exact (va_up_ne _ _ (by decide)).trans k1) (by first | assumption | rfl | exact va_up_self _ _ _ | exact (va_up_ne _ _ (by decide)).trans (va_up_self _ _ _) | exact (va_up_ne _ _ (by decide)).trans k1) ?_
      show mW _ _ _ _ _ _ _ _ (.ref _ :: _)
      refine m_iconst (v := 0) dX8_read_126 (by decide) ?_
      refine m_bipush (v := 10) dX8_read_127 (by decide) ?_
      refine m_invS_V dX8_read_129 lk_X8_69 ar_X8_bring (t_X8_bring (a := 84) (b := 68) (la := 10) (lb := 12) (f := RD2) (g := C) (i := 0) (j := 0) (m := 10) g84 g2 (Or.inl (by decide)) (by decide) (by decide) (by decide) (by decide)) rfl (Nat.le_of_ble_eq_true rfl) (by decide) (by decide) (by decide) (by decide) rfl rfl ?_
      try rw [va_uu]
      refine m_aload_n dX8_read_132 rfl ?_
      refine m_iconst (v := 0) dX8_read_133 (by decide) ?_
      refine m_invV_I dX8_read_134 lk_X8_164 ar_X8_degreeOf (ci := 8) rfl rfl (by first | assumption | rfl | exact va_up_self _ _ _ | exact (va_up_ne _ _ (by decide)).trans (va_up_self _ _ _) | exact (va_up_ne _ _ (by decide)).trans k1) (t_X8_degreeOf (w := 0) ((va_up_ne _ _ (by decide)).trans k1) (va_up_self _ _ _) (by decide)) rfl (Nat.le_of_ble_eq_true rfl) (by decide) (by decide) (by decide) (by decide) rfl rfl ?_
      try rw [va_uu]
      exact m_ireturn hF dX8_read_137 rfl rfl rfl ⟨by rw [← cText_c t2, sRd_s F.1, degI_eq (fun t ht => hcp t (by omega)) (by decide)], by rw [← cText_c t2, sRd_s F.1]; exact ⟨ri3, ev3, le3, ch3, ls3, rm3, sm3, ra3, fa3, _, PA3, (va_up_ne _ _ (by decide)).trans k1, va_up_self _ _ _, (va_up_ne _ _ (by decide)).trans k3, k4, hcp, k6⟩, ⟨by decide, TP, (va_up_ne _ _ (by decide)).trans g72, fun t ht => absurd ht (Nat.not_lt_zero _)⟩, ⟨_, (va_up_ne _ _ (by decide)).trans g84⟩, fun q hq => by rw [va_up_ne _ _ (by omega), gO q (by omega), va_up_ne _ _ (by omega), va_up_ne _ _ (by omega)]⟩
    · skip
      refine m_aload_n dX8_read_63 rfl ?_
      refine m_aload_n dX8_read_64 rfl ?_
      refine m_getfield dX8_read_65 fl_X8_241 (by first | assumption | rfl | exact va_up_self _ _ _ | exact (va_up_ne _ _ (by decide)).trans (va_up_self _ _ _) | exact (va_up_ne _ _ (by decide)).trans k1) (by first | assumption | rfl | exact va_up_self _ _ _ | exact (va_up_ne _ _ (by decide)).trans (va_up_self _ _ _) | exact (va_up_ne _ _ (by decide)).trans k1) ?_
      show mW _ _ _ _ _ _ _ _ (.int _ :: _)
      skip
      refine m_if_ne (t := 78) dX8_read_68 (by decide) (fun _ => ?_) (fun q => absurd q (by decide))
      skip
      refine m_iconst (v := 1) dX8_read_78 (by decide) ?_
      refine m_goto (t := 83) dX8_read_79 (by decide) ?_
      refine m_putfield dX8_read_83 fl_X8_241 (by first | assumption | rfl | exact va_up_self _ _ _ | exact (va_up_ne _ _ (by decide)).trans (va_up_self _ _ _) | exact (va_up_ne _ _ (by decide)).trans k1) (fun _ => rfl) (fun _ => rfl) ?_
      try rw [va_uu]
      rw [oMod_27]
      refine m_aload_n dX8_read_86 rfl ?_
      refine m_invV_I dX8_read_87 lk_X8_229 ar_X8_looks (ci := 8) rfl rfl (by first | assumption | rfl | exact va_up_self _ _ _ | exact (va_up_ne _ _ (by decide)).trans (va_up_self _ _ _) | exact (va_up_ne _ _ (by decide)).trans k1) (t_X8_looks (va_up_self _ _ _) ((va_up_ne _ _ (by decide)).trans ((va_up_ne _ _ (by decide)).trans t1)) hz T2.1) rfl (Nat.le_of_ble_eq_true rfl) (by decide) (by decide) (by decide) (by decide) rfl rfl ?_
      try rw [va_uu]
      skip
      refine m_pop dX8_read_90 rfl ?_
      refine m_aload_n dX8_read_91 rfl ?_
      refine m_getfield dX8_read_92 fl_X8_226 (by first | assumption | rfl | exact va_up_self _ _ _ | exact (va_up_ne _ _ (by decide)).trans (va_up_self _ _ _) | exact (va_up_ne _ _ (by decide)).trans k1) (by first | assumption | rfl | exact va_up_self _ _ _ | exact (va_up_ne _ _ (by decide)).trans (va_up_self _ _ _) | exact (va_up_ne _ _ (by decide)).trans k1) ?_
      show mW _ _ _ _ _ _ _ _ (.int _ :: _)
      refine m_istore_n dX8_read_95 (by decide) ?_
      show mW _ _ _ _ _ _ 96 [_, _] _
      refine m_aload_n dX8_read_96 rfl ?_
      refine m_iconst (v := 0) dX8_read_97 (by decide) ?_
      refine m_putfield dX8_read_98 fl_X8_223 (by first | assumption | rfl | exact va_up_self _ _ _ | exact (va_up_ne _ _ (by decide)).trans (va_up_self _ _ _) | exact (va_up_ne _ _ (by decide)).trans k1) (fun _ => rfl) (fun _ => rfl) ?_
      try rw [va_uu]
      rw [oMod_7]
      refine m_aload_n dX8_read_101 rfl ?_
      refine m_getfield dX8_read_102 fl_X8_241 (by first | assumption | rfl | exact va_up_self _ _ _ | exact (va_up_ne _ _ (by decide)).trans (va_up_self _ _ _) | exact (va_up_ne _ _ (by decide)).trans k1) (by first | assumption | rfl | exact va_up_self _ _ _ | exact (va_up_ne _ _ (by decide)).trans (va_up_self _ _ _) | exact (va_up_ne _ _ (by decide)).trans k1) ?_
      show mW _ _ _ _ _ _ _ _ (.int _ :: _)
      skip
      refine m_if_eq (t := 113) dX8_read_105 (by decide) (fun q => absurd q (by decide)) (fun _ => ?_)
      have F := rdC1 (fg := fg) (pw := pw) (P := fillTo P 0 10) hz h0 T1 e59 T2
      have sk : skipB TP z q2 = q2 := (T2.2.resolve_left (fun y => absurd y.2.1 (by decide))).2.2.2
      rw [sk]
      refine m_bipush (v := -20) dX8_read_108 (by decide) ?_
      refine m_iload_n dX8_read_110 rfl ?_
      refine m_isub dX8_read_111 ?_
      exact m_ireturn hF dX8_read_112 rfl rfl rfl ⟨by rw [← cText_c t2, sRd_f F.2, F.1], by rw [← cText_c t2, sRd_f F.2]; exact ⟨ri, ev, le, ch, ls, rm, sm, _, _, C, PA, va_up_self _ _ _, (va_up_ne _ _ (by decide)).trans ((va_up_ne _ _ (by decide)).trans h2), (va_up_ne _ _ (by decide)).trans ((va_up_ne _ _ (by decide)).trans h3), h4, h5, h6⟩, ⟨by decide, TP, (va_up_ne _ _ (by decide)).trans ((va_up_ne _ _ (by decide)).trans t1), fun t ht => absurd ht (Nat.not_lt_zero _)⟩, ⟨_, (va_up_ne _ _ (by decide)).trans (va_up_self _ _ _)⟩, fun q hq => by rw [va_up_ne _ _ (by omega), va_up_ne _ _ (by omega)]⟩
  · skip
    refine m_aload_n dX8_read_30 rfl ?_
    refine m_getfield dX8_read_31 fl_X8_241 (by first | assumption | rfl | exact va_up_self _ _ _ | exact (va_up_ne _ _ (by decide)).trans (va_up_self _ _ _) | exact (va_up_ne _ _ (by decide)).trans k1) (by first | assumption | rfl | exact va_up_self _ _ _ | exact (va_up_ne _ _ (by decide)).trans (va_up_self _ _ _) | exact (va_up_ne _ _ (by decide)).trans k1) ?_
    show mW _ _ _ _ _ _ _ _ (.int _ :: _)
    skip
    refine m_if_ne (t := 63) dX8_read_34 (by decide) (fun _ => ?_) (fun q => absurd q (by decide))
    skip
    refine m_aload_n dX8_read_63 rfl ?_
    refine m_aload_n dX8_read_64 rfl ?_
    refine m_getfield dX8_read_65 fl_X8_241 (by first | assumption | rfl | exact va_up_self _ _ _ | exact (va_up_ne _ _ (by decide)).trans (va_up_self _ _ _) | exact (va_up_ne _ _ (by decide)).trans k1) (by first | assumption | rfl | exact va_up_self _ _ _ | exact (va_up_ne _ _ (by decide)).trans (va_up_self _ _ _) | exact (va_up_ne _ _ (by decide)).trans k1) ?_
    show mW _ _ _ _ _ _ _ _ (.int _ :: _)
    skip
    refine m_if_ne (t := 78) dX8_read_68 (by decide) (fun _ => ?_) (fun q => absurd q (by decide))
    skip
    refine m_iconst (v := 1) dX8_read_78 (by decide) ?_
    refine m_goto (t := 83) dX8_read_79 (by decide) ?_
    refine m_putfield dX8_read_83 fl_X8_241 (by first | assumption | rfl | exact va_up_self _ _ _ | exact (va_up_ne _ _ (by decide)).trans (va_up_self _ _ _) | exact (va_up_ne _ _ (by decide)).trans k1) (fun _ => rfl) (fun _ => rfl) ?_
    try rw [va_uu]
    rw [oMod_27]
    refine m_aload_n dX8_read_86 rfl ?_
    refine m_invV_I dX8_read_87 lk_X8_229 ar_X8_looks (ci := 8) rfl rfl (by first | assumption | rfl | exact va_up_self _ _ _ | exact (va_up_ne _ _ (by decide)).trans (va_up_self _ _ _) | exact (va_up_ne _ _ (by decide)).trans k1) (t_X8_looks (va_up_self _ _ _) ((va_up_ne _ _ (by decide)).trans ((va_up_ne _ _ (by decide)).trans t1)) hz T1.1) rfl (Nat.le_of_ble_eq_true rfl) (by decide) (by decide) (by decide) (by decide) rfl rfl ?_
    try rw [va_uu]
    skip
    refine m_pop dX8_read_90 rfl ?_
    refine m_aload_n dX8_read_91 rfl ?_
    refine m_getfield dX8_read_92 fl_X8_226 (by first | assumption | rfl | exact va_up_self _ _ _ | exact (va_up_ne _ _ (by decide)).trans (va_up_self _ _ _) | exact (va_up_ne _ _ (by decide)).trans k1) (by first | assumption | rfl | exact va_up_self _ _ _ | exact (va_up_ne _ _ (by decide)).trans (va_up_self _ _ _) | exact (va_up_ne _ _ (by decide)).trans k1) ?_
    show mW _ _ _ _ _ _ _ _ (.int _ :: _)
    refine m_istore_n dX8_read_95 (by decide) ?_
    show mW _ _ _ _ _ _ 96 [_, _] _
    refine m_aload_n dX8_read_96 rfl ?_
    refine m_iconst (v := 0) dX8_read_97 (by decide) ?_
    refine m_putfield dX8_read_98 fl_X8_223 (by first | assumption | rfl | exact va_up_self _ _ _ | exact (va_up_ne _ _ (by decide)).trans (va_up_self _ _ _) | exact (va_up_ne _ _ (by decide)).trans k1) (fun _ => rfl) (fun _ => rfl) ?_
    try rw [va_uu]
    rw [oMod_7]
    refine m_aload_n dX8_read_101 rfl ?_
    refine m_getfield dX8_read_102 fl_X8_241 (by first | assumption | rfl | exact va_up_self _ _ _ | exact (va_up_ne _ _ (by decide)).trans (va_up_self _ _ _) | exact (va_up_ne _ _ (by decide)).trans k1) (by first | assumption | rfl | exact va_up_self _ _ _ | exact (va_up_ne _ _ (by decide)).trans (va_up_self _ _ _) | exact (va_up_ne _ _ (by decide)).trans k1) ?_
    show mW _ _ _ _ _ _ _ _ (.int _ :: _)
    skip
    refine m_if_eq (t := 113) dX8_read_105 (by decide) (fun q => absurd q (by decide)) (fun _ => ?_)
    have F := rdA (fg := fg) (pw := pw) (P := fillTo P 0 10) hz h0 T1
    have sk : skipB TP z q1 = q1 := (T1.2.resolve_left (fun y => absurd y.2.1 (by decide))).2.2.2
    rw [sk]
    refine m_bipush (v := -20) dX8_read_108 (by decide) ?_
    refine m_iload_n dX8_read_110 rfl ?_
    refine m_isub dX8_read_111 ?_
    exact m_ireturn hF dX8_read_112 rfl rfl rfl ⟨by rw [← cText_c t2, sRd_f F.2, F.1], by rw [← cText_c t2, sRd_f F.2]; exact ⟨ri, ev, le, ch, ls, rm, sm, _, _, C, PA, va_up_self _ _ _, (va_up_ne _ _ (by decide)).trans ((va_up_ne _ _ (by decide)).trans h2), (va_up_ne _ _ (by decide)).trans ((va_up_ne _ _ (by decide)).trans h3), h4, h5, h6⟩, ⟨by decide, TP, (va_up_ne _ _ (by decide)).trans ((va_up_ne _ _ (by decide)).trans t1), fun t ht => absurd ht (Nat.not_lt_zero _)⟩, ⟨_, (va_up_ne _ _ (by decide)).trans (va_up_self _ _ _)⟩, fun q hq => by rw [va_up_ne _ _ (by omega), va_up_ne _ _ (by omega)]⟩

