/-! ===== the reference: terms ===== -/
theorem va_4 {α : Type} (f : Nat → α) (a b : Nat) (x y x2 y2 : α) : va_up (va_up (va_up (va_up f a x) b y) a x2) b y2 = va_up (va_up f a x2) b y2 := by
  funext q
  by_cases e1 : q = b <;> by_cases e2 : q = a <;> simp [va_up, e1, e2]
theorem cTerm_skip {TP : Nat → Int32} {z p : Nat} : cTerm TP z (skipB TP z p) = cTerm TP z p := by
  have e : ltrB TP z (skipB TP z p) = ltrB TP z p := by
    unfold ltrB
    rw [skipB_idem]
  unfold cTerm
  rw [e, skipB_idem]
theorem mTm_f {TP RD : Nat → Int32} {z p w : Nat} {sg la fa : Int32} (h : (cTerm TP z p).1 = 0) : mTm TP z p w sg la fa RD = (0, (cTerm TP z p).2.2.2, 1, RD) := by
  unfold mTm
  exact if_pos h
theorem mTm_g {TP RD : Nat → Int32} {z p w : Nat} {sg la fa : Int32} (h : ¬ (cTerm TP z p).1 = 0) (hl : ¬ nI (cTerm TP z p).2.2.1 < la) : mTm TP z p w sg la fa RD = (0, skipB TP z p, 1, RD) := by
  unfold mTm
  rw [if_neg h, if_neg hl]
theorem mTm_s {TP RD : Nat → Int32} {z p w : Nat} {sg la fa : Int32} (h : ¬ (cTerm TP z p).1 = 0) (hl : nI (cTerm TP z p).2.2.1 < la) : mTm TP z p w sg la fa RD = (nI (cTerm TP z p).2.2.1, (cTerm TP z p).2.2.2, fa, va_up RD (5 * w + (cTerm TP z p).2.2.1) (sg * (cTerm TP z p).2.1)) := by
  unfold mTm
  rw [if_neg h, if_pos hl]
theorem cTerm_f {TP : Nat → Int32} {z p : Nat} (h : (cTerm TP z p).1 = 0) : (cTerm TP z p).2.2.2 = skipB TP z p := by
  by_cases d : inI (ltrM TP z p).toInt64 49 57 = 0
  · have e := cTerm_nd d
    by_cases s : ltrM TP z p = 115
    · rw [if_pos s] at e
      rw [e] at h
      exact absurd h (show ¬ (1 : Int32) = 0 by decide)
    · rw [if_neg s] at e
      rw [e]
  · have e := (cTerm_d d).1
    by_cases s : ltrM TP z (skipB TP z p + 1) = 115
    · rw [if_pos s] at e
      rw [e] at h
      exact absurd h (show ¬ (1 : Int32) = 0 by decide)
    · rw [if_neg s] at e
      rw [e] at h
      exact absurd h (show ¬ (1 : Int32) = 0 by decide)
theorem ltrM_B {TP : Nat → Int32} {z p : Nat} {a : Int32} (h0 : a ≠ 0) (h1 : a ≠ -1) : ltrM TP z p = a ↔ ltrB TP z p = a := by
  rcases ltrMB (TP := TP) (z := z) (p := p) with e | ⟨e1, e2⟩
  · rw [e]
  · rw [e1, e2]
    exact ⟨fun q => absurd q.symm h0, fun q => absurd q.symm h1⟩
/-- behind a term -/
def cNext (LT : Nat → Int32) (z b m : Nat) (v : Int32) (k q : Nat) (P : Nat → Int32) : Int32 × (Nat → Int32) × Int32 × Nat × Nat := if ltrB LT z q = 43 then cTerms LT z b m (nI k) 1 v k (skipB LT z q + 1) P else if ltrB LT z q = 45 then cTerms LT z b m (nI k) (-1) v k (skipB LT z q + 1) P else (-1, P, v, k, skipB LT z q)
theorem cTerms_f {LT P : Nat → Int32} {z b m : Nat} {la sg fg : Int32} {pw p : Nat} (h : (cTerm LT z p).1 = 0) : cTerms LT z b (m + 1) la sg fg pw p P = (nI (skipB LT z p), P, (cTerm LT z p).2) := by
  rw [cTerms, cTerm_skip, if_pos h]
theorem cTerms_g {LT P : Nat → Int32} {z b m : Nat} {la sg fg : Int32} {pw p : Nat} (h : ¬ (cTerm LT z p).1 = 0) (hl : ¬ nI (cTerm LT z p).2.2.1 < la) : cTerms LT z b (m + 1) la sg fg pw p P = (nI (skipB LT z p), P, (cTerm LT z p).2) := by
  rw [cTerms, cTerm_skip, if_neg h, if_neg hl]
theorem cTerms_s {LT P : Nat → Int32} {z b m : Nat} {la sg fg : Int32} {pw p : Nat} (h : ¬ (cTerm LT z p).1 = 0) (hl : nI (cTerm LT z p).2.2.1 < la) : cTerms LT z b (m + 1) la sg fg pw p P = cNext LT z b m (cTerm LT z p).2.1 (cTerm LT z p).2.2.1 (cTerm LT z p).2.2.2 (va_up P (b + (cTerm LT z p).2.2.1) (sg * (cTerm LT z p).2.1)) := by
  rw [cTerms, cTerm_skip, if_neg h, if_pos hl]
  rfl
abbrev RtT : Type := Int32 × (Nat → Int32) × Int32 × Nat × Nat
/-- what the reference keeps of terms that were read -/
def trmP (R : RtT) (TP : Nat → Int32) (z q : Nat) (fa : Int32) (RD : Nat → Int32) : Prop := q ≤ z ∧ ((R.1 = -1 ∧ fa = 0 ∧ q = R.2.2.2.2 ∧ RD = R.2.1) ∨ (R.1 ≠ -1 ∧ fa = 1 ∧ R.1 = nI q ∧ skipB TP z q = q))
theorem nI_nm1 {q : Nat} (h : q ≤ 60) : nI q ≠ -1 := fun e => by
  have := congrArg Int32.toInt e
  rw [nI_toInt (by omega), show (-1 : Int32).toInt = -1 by decide] at this
  omega
theorem nI_ltN {a b : Nat} (ha : a < 2 ^ 31) (hb : b < 2 ^ 31) (h : nI a < nI b) : a < b := by
  rw [Int32.lt_iff_toInt_lt, nI_toInt ha, nI_toInt hb] at h
  omega
theorem nI_lt5 {k : Nat} (h : k ≤ 4) : nI k < 5 := by
  rw [Int32.lt_iff_toInt_lt, nI_toInt (by omega), show (5 : Int32).toInt = 5 by decide]
  omega
set_option maxHeartbeats 400000 in
set_option maxRecDepth 100000 in
theorem l_X8_terms {n : Nat} {hp : mHp} {TP : Nat → Int32} {z w : Nat} {ac ia ri ev le ch ls rm sm : Int32} (h2 : hp 72 = eI 60 TP) (hz : z ≤ 60) (hw : w < 2) {R : RtT} {K : mK} (hF : mFin K D_X8_terms n (fun r hp' => ∃ (q : Nat) (fa : Int32) (RD' : Nat → Int32), r = none ∧ hp' = va_up (va_up hp 84 (eI 10 RD')) 67 (eO 8 (oMod ac ia (nI z) ri ev le ch ls rm sm (nI q) fa)) ∧ trmP (R) TP z q fa RD')) : ∀ (m k q : Nat) (RD : Nat → Int32) (v : Int32) (v3 : Value), k < m → k ≤ 4 → q ≤ z → cNext TP z (5 * w) m v k q RD = R → mW K D_X8_terms 0 0 n (va_up (va_up hp 84 (eI 10 RD)) 67 (eO 8 (oMod ac ia (nI z) ri ev le ch ls rm sm (nI q) 0))) 57 [.ref 67, .int (nI w), .int (nI k), v3] [] := by
  intro m
  induction m with
  | zero =>
    intro k q RD v v3 h3
    exact absurd h3 (by omega)
  | succ m ih =>
    intro k q RD v v3 h3 hk hq hR
    have hsz := skipB_z (LT := TP) hq
    refine m_aload_n dX8_terms_57 rfl ?_
    refine m_getfield dX8_terms_58 fl_X8_241 (va_up_self _ _ _) rfl ?_
    show mW _ _ _ _ _ _ _ _ (.int _ :: _)
    refine m_if_ne (t := 118) dX8_terms_61 (by decide) (fun q => absurd rfl q) (fun _ => ?_)
    refine m_aload_n dX8_terms_64 rfl ?_
    refine m_invV_I dX8_terms_65 lk_X8_229 ar_X8_looks (ci := 8) rfl rfl (by first | assumption | rfl | exact va_up_self _ _ _) (t_X8_looks (va_up_self _ _ _) ((va_up_ne _ _ (by decide)).trans ((va_up_ne _ _ (by decide)).trans h2)) hz (by omega)) rfl (Nat.le_of_ble_eq_true rfl) (by decide) (by decide) (by decide) (by decide) rfl rfl ?_
    try rw [va_uu]
    refine m_bipush (v := 43) dX8_terms_68 (by decide) ?_
    refine m_icmp_eq (t := 82) dX8_terms_70 (by decide) (fun c70 => ?_) (fun c70 => ?_)
    · have l43 : ltrB TP z q = 43 := (ltrM_B (by decide) (by decide)).mp c70
      have s9 := ltrB_eq l43 (by decide)
      have nx : cNext TP z (5 * w) (m + 1) v k q RD = cTerms TP z (5 * w) (m + 1) (nI k) 1 v k (skipB TP z q + 1) RD := if_pos l43
      refine m_aload_n dX8_terms_82 rfl ?_
      refine m_invV_I dX8_terms_83 lk_X8_229 ar_X8_looks (ci := 8) rfl rfl (by first | assumption | rfl | exact va_up_self _ _ _) (t_X8_looks (va_up_self _ _ _) ((va_up_ne _ _ (by decide)).trans ((va_up_ne _ _ (by decide)).trans h2)) hz (by omega)) rfl (Nat.le_of_ble_eq_true rfl) (by decide) (by decide) (by decide) (by decide) rfl rfl ?_
      try rw [va_uu]
      rw [ltrM_idem, skipB_idem]
      refine m_bipush (v := 43) dX8_terms_86 (by decide) ?_
      refine m_icmp_ne (t := 95) dX8_terms_88 (by decide) (fun c88 => ?_) (fun c88 => ?_)
      · exact absurd c70 c88
      skip
      refine m_iconst (v := 1) dX8_terms_91 (by decide) ?_
      refine m_goto (t := 96) dX8_terms_92 (by decide) ?_
      refine m_istore_n dX8_terms_96 (by decide) ?_
      show mW _ _ _ _ _ _ 97 [_, _, _, _] _
      refine m_aload_n dX8_terms_97 rfl ?_
      refine m_dup dX8_terms_98 rfl ?_
      refine m_getfield dX8_terms_99 fl_X8_226 (by first | assumption | rfl | exact va_up_self _ _ _) (by first | assumption | rfl | exact va_up_self _ _ _) ?_
      show mW _ _ _ _ _ _ _ _ (.int _ :: _)
      refine m_iconst (v := 1) dX8_terms_102 (by decide) ?_
      refine m_iadd dX8_terms_103 ?_
      refine m_ci (v := nI (skipB TP z q + 1)) (nI_add _ 1) ?_
      refine m_putfield dX8_terms_104 fl_X8_226 (by first | assumption | rfl | exact va_up_self _ _ _) (fun _ => rfl) (fun _ => rfl) ?_
      try rw [va_uu]
      rw [oMod_26]
      refine m_aload_n dX8_terms_107 rfl ?_
      refine m_iload_n dX8_terms_108 rfl ?_
      refine m_iload_n dX8_terms_109 rfl ?_
      refine m_iload_n dX8_terms_110 rfl ?_
      refine m_invV_I dX8_terms_111 lk_X8_249 ar_X8_term (ci := 8) rfl rfl (by first | assumption | rfl | exact va_up_self _ _ _) (t_X8_term (va_up_self _ _ _) ((va_up_ne _ _ (by decide)).trans ((va_up_ne _ _ (by decide)).trans h2)) ((va_up_ne _ _ (by decide)).trans (va_up_self _ _ _)) hz (by omega) hw) rfl (Nat.le_of_ble_eq_true rfl) (by decide) (by decide) (by decide) (by decide) rfl rfl ?_
      try rw [va_uu]
      by_cases e0 : (cTerm TP z (skipB TP z q + 1)).1 = 0
      · rw [mTm_f e0, va_4]
        rw [show cNext TP z (5 * w) (m + 1) v k q RD = _ from nx, cTerms_f e0] at hR
        have hs := cTerm_f e0
        have k1 := skipB_z (LT := TP) (show skipB TP z q + 1 ≤ z from s9)
        have hq9 : trmP R TP z (cTerm TP z (skipB TP z q + 1)).2.2.2 1 RD := (by rw [hs, ← hR]; exact ⟨k1, Or.inr ⟨nI_nm1 (by omega), rfl, rfl, skipB_idem⟩⟩)
        refine m_istore_n dX8_terms_114 (by decide) ?_
        show mW _ _ _ _ _ _ 115 [_, _, _, _] _
        refine m_goto (t := 57) dX8_terms_115 (by decide) ?_
        refine m_aload_n dX8_terms_57 rfl ?_
        refine m_getfield dX8_terms_58 fl_X8_241 (va_up_self _ _ _) rfl ?_
        show mW _ _ _ _ _ _ _ _ (.int _ :: _)
        refine m_if_ne (t := 118) dX8_terms_61 (by decide) (fun _ => ?_) (fun q => absurd q (show ¬ (1 : Int32) = 0 by decide))
        exact m_return hF dX8_terms_118 rfl rfl rfl ⟨_, _, _, rfl, rfl, hq9⟩
      by_cases e1 : nI (cTerm TP z (skipB TP z q + 1)).2.2.1 < nI k
      · rw [mTm_s e0 e1, va_4]
        rw [show cNext TP z (5 * w) (m + 1) v k q RD = _ from nx, cTerms_s e0 e1] at hR
        have k1 := cTerm_ok (LT := TP) (show skipB TP z q + 1 ≤ z from s9)
        have k2 := nI_ltN (by omega) (by omega) e1
        refine m_istore_n dX8_terms_114 (by decide) ?_
        show mW _ _ _ _ _ _ 115 [_, _, _, _] _
        refine m_goto (t := 57) dX8_terms_115 (by decide) ?_
        exact ih _ _ _ _ _ (by omega) k1.1 k1.2.1 hR
      rw [mTm_g e0 e1, va_4]
      rw [show cNext TP z (5 * w) (m + 1) v k q RD = _ from nx, cTerms_g e0 e1] at hR
      have k1 := skipB_z (LT := TP) (show skipB TP z q + 1 ≤ z from s9)
      have hq9 : trmP R TP z (skipB TP z (skipB TP z q + 1)) 1 RD := (by rw [← hR]; exact ⟨k1, Or.inr ⟨nI_nm1 (by omega), rfl, rfl, skipB_idem⟩⟩)
      refine m_istore_n dX8_terms_114 (by decide) ?_
      show mW _ _ _ _ _ _ 115 [_, _, _, _] _
      refine m_goto (t := 57) dX8_terms_115 (by decide) ?_
      refine m_aload_n dX8_terms_57 rfl ?_
      refine m_getfield dX8_terms_58 fl_X8_241 (va_up_self _ _ _) rfl ?_
      show mW _ _ _ _ _ _ _ _ (.int _ :: _)
      refine m_if_ne (t := 118) dX8_terms_61 (by decide) (fun _ => ?_) (fun q => absurd q (show ¬ (1 : Int32) = 0 by decide))
      exact m_return hF dX8_terms_118 rfl rfl rfl ⟨_, _, _, rfl, rfl, hq9⟩
    refine m_aload_n dX8_terms_73 rfl ?_
    refine m_invV_I dX8_terms_74 lk_X8_229 ar_X8_looks (ci := 8) rfl rfl (by first | assumption | rfl | exact va_up_self _ _ _) (t_X8_looks (va_up_self _ _ _) ((va_up_ne _ _ (by decide)).trans ((va_up_ne _ _ (by decide)).trans h2)) hz (by omega)) rfl (Nat.le_of_ble_eq_true rfl) (by decide) (by decide) (by decide) (by decide) rfl rfl ?_
    try rw [va_uu]
    rw [ltrM_idem, skipB_idem]
    refine m_bipush (v := 45) dX8_terms_77 (by decide) ?_
    refine m_icmp_ne (t := 118) dX8_terms_79 (by decide) (fun c79 => ?_) (fun c79 => ?_)
    · have n43 : ¬ ltrB TP z q = 43 := fun e => c70 ((ltrM_B (by decide) (by decide)).mpr e)
      have n45 : ¬ ltrB TP z q = 45 := fun e => c79 ((ltrM_B (by decide) (by decide)).mpr e)
      rw [show cNext TP z (5 * w) (m + 1) v k q RD = (-1, RD, v, k, skipB TP z q) from (if_neg n43).trans (if_neg n45)] at hR
      exact m_return hF dX8_terms_118 rfl rfl rfl ⟨_, _, _, rfl, rfl, by rw [← hR]; exact ⟨hsz, Or.inl ⟨rfl, rfl, rfl, rfl⟩⟩⟩
    have l45 : ltrB TP z q = 45 := (ltrM_B (by decide) (by decide)).mp c79
    have s9 := ltrB_eq l45 (by decide)
    have nx : cNext TP z (5 * w) (m + 1) v k q RD = cTerms TP z (5 * w) (m + 1) (nI k) (-1) v k (skipB TP z q + 1) RD := (if_neg (by rw [l45]; decide)).trans (if_pos l45)
    refine m_aload_n dX8_terms_82 rfl ?_
    refine m_invV_I dX8_terms_83 lk_X8_229 ar_X8_looks (ci := 8) rfl rfl (by first | assumption | rfl | exact va_up_self _ _ _) (t_X8_looks (va_up_self _ _ _) ((va_up_ne _ _ (by decide)).trans ((va_up_ne _ _ (by decide)).trans h2)) hz (by omega)) rfl (Nat.le_of_ble_eq_true rfl) (by decide) (by decide) (by decide) (by decide) rfl rfl ?_
    try rw [va_uu]
    rw [ltrM_idem, skipB_idem]
    refine m_bipush (v := 43) dX8_terms_86 (by decide) ?_
    refine m_icmp_ne (t := 95) dX8_terms_88 (by decide) (fun c88 => ?_) (fun c88 => ?_)
    rotate_left
    · exact absurd (c79.symm.trans c88) (by decide)
    skip
    refine m_iconst (v := -1) dX8_terms_95 (by decide) ?_
    refine m_istore_n dX8_terms_96 (by decide) ?_
    show mW _ _ _ _ _ _ 97 [_, _, _, _] _
    refine m_aload_n dX8_terms_97 rfl ?_
    refine m_dup dX8_terms_98 rfl ?_
    refine m_getfield dX8_terms_99 fl_X8_226 (by first | assumption | rfl | exact va_up_self _ _ _) (by first | assumption | rfl | exact va_up_self _ _ _) ?_
    show mW _ _ _ _ _ _ _ _ (.int _ :: _)
    refine m_iconst (v := 1) dX8_terms_102 (by decide) ?_
    refine m_iadd dX8_terms_103 ?_
    refine m_ci (v := nI (skipB TP z q + 1)) (nI_add _ 1) ?_
    refine m_putfield dX8_terms_104 fl_X8_226 (by first | assumption | rfl | exact va_up_self _ _ _) (fun _ => rfl) (fun _ => rfl) ?_
    try rw [va_uu]
    rw [oMod_26]
    refine m_aload_n dX8_terms_107 rfl ?_
    refine m_iload_n dX8_terms_108 rfl ?_
    refine m_iload_n dX8_terms_109 rfl ?_
    refine m_iload_n dX8_terms_110 rfl ?_
    refine m_invV_I dX8_terms_111 lk_X8_249 ar_X8_term (ci := 8) rfl rfl (by first | assumption | rfl | exact va_up_self _ _ _) (t_X8_term (va_up_self _ _ _) ((va_up_ne _ _ (by decide)).trans ((va_up_ne _ _ (by decide)).trans h2)) ((va_up_ne _ _ (by decide)).trans (va_up_self _ _ _)) hz (by omega) hw) rfl (Nat.le_of_ble_eq_true rfl) (by decide) (by decide) (by decide) (by decide) rfl rfl ?_
    try rw [va_uu]
    by_cases e0 : (cTerm TP z (skipB TP z q + 1)).1 = 0
    · rw [mTm_f e0, va_4]
      rw [show cNext TP z (5 * w) (m + 1) v k q RD = _ from nx, cTerms_f e0] at hR
      have hs := cTerm_f e0
      have k1 := skipB_z (LT := TP) (show skipB TP z q + 1 ≤ z from s9)
      have hq9 : trmP R TP z (cTerm TP z (skipB TP z q + 1)).2.2.2 1 RD := (by rw [hs, ← hR]; exact ⟨k1, Or.inr ⟨nI_nm1 (by omega), rfl, rfl, skipB_idem⟩⟩)
      refine m_istore_n dX8_terms_114 (by decide) ?_
      show mW _ _ _ _ _ _ 115 [_, _, _, _] _
      refine m_goto (t := 57) dX8_terms_115 (by decide) ?_
      refine m_aload_n dX8_terms_57 rfl ?_
      refine m_getfield dX8_terms_58 fl_X8_241 (va_up_self _ _ _) rfl ?_
      show mW _ _ _ _ _ _ _ _ (.int _ :: _)
      refine m_if_ne (t := 118) dX8_terms_61 (by decide) (fun _ => ?_) (fun q => absurd q (show ¬ (1 : Int32) = 0 by decide))
      exact m_return hF dX8_terms_118 rfl rfl rfl ⟨_, _, _, rfl, rfl, hq9⟩
    by_cases e1 : nI (cTerm TP z (skipB TP z q + 1)).2.2.1 < nI k
    · rw [mTm_s e0 e1, va_4]
      rw [show cNext TP z (5 * w) (m + 1) v k q RD = _ from nx, cTerms_s e0 e1] at hR
      have k1 := cTerm_ok (LT := TP) (show skipB TP z q + 1 ≤ z from s9)
      have k2 := nI_ltN (by omega) (by omega) e1
      refine m_istore_n dX8_terms_114 (by decide) ?_
      show mW _ _ _ _ _ _ 115 [_, _, _, _] _
      refine m_goto (t := 57) dX8_terms_115 (by decide) ?_
      exact ih _ _ _ _ _ (by omega) k1.1 k1.2.1 hR
    rw [mTm_g e0 e1, va_4]
    rw [show cNext TP z (5 * w) (m + 1) v k q RD = _ from nx, cTerms_g e0 e1] at hR
    have k1 := skipB_z (LT := TP) (show skipB TP z q + 1 ≤ z from s9)
    have hq9 : trmP R TP z (skipB TP z (skipB TP z q + 1)) 1 RD := (by rw [← hR]; exact ⟨k1, Or.inr ⟨nI_nm1 (by omega), rfl, rfl, skipB_idem⟩⟩)
    refine m_istore_n dX8_terms_114 (by decide) ?_
    show mW _ _ _ _ _ _ 115 [_, _, _, _] _
    refine m_goto (t := 57) dX8_terms_115 (by decide) ?_
    refine m_aload_n dX8_terms_57 rfl ?_
    refine m_getfield dX8_terms_58 fl_X8_241 (va_up_self _ _ _) rfl ?_
    show mW _ _ _ _ _ _ _ _ (.int _ :: _)
    refine m_if_ne (t := 118) dX8_terms_61 (by decide) (fun _ => ?_) (fun q => absurd q (show ¬ (1 : Int32) = 0 by decide))
    exact m_return hF dX8_terms_118 rfl rfl rfl ⟨_, _, _, rfl, rfl, hq9⟩

def zer5 (RD : Nat → Int32) (w : Nat) : Nat → Int32 := va_up (va_up (va_up (va_up (va_up RD (5 * w + 0) 0) (5 * w + 1) 0) (5 * w + 2) 0) (5 * w + 3) 0) (5 * w + 4) 0
set_option maxHeartbeats 400000 in
set_option maxRecDepth 100000 in
theorem t_X8_terms {n : Nat} {hp : mHp} {TP RD : Nat → Int32} {z w p : Nat} {ac ia ri ev le ch ls rm sm : Int32} (h1 : hp 67 = eO 8 (oMod ac ia (nI z) ri ev le ch ls rm sm (nI p) 0)) (h2 : hp 72 = eI 60 TP) (h3 : hp 84 = eI 10 RD) (hz : z ≤ 60) (hpz : p ≤ z) (hw : w < 2) (fg : Int32) (pw : Nat) : mC D_X8_terms [.ref 67, .int (nI w)] n hp (fun r hp' => ∃ (q : Nat) (fa : Int32) (RD' : Nat → Int32), r = none ∧ hp' = va_up (va_up hp 84 (eI 10 RD')) 67 (eO 8 (oMod ac ia (nI z) ri ev le ch ls rm sm (nI q) fa)) ∧ trmP (cTermsAll TP z (5 * w) fg pw p (zer5 RD w)) TP z q fa RD') := by
  refine m_enter rfl rfl (Nat.le_of_ble_eq_true rfl) (fun K hF => ?_)
  show mW K _ 0 0 _ _ 0 [.ref 67, .int (nI w), .retAddr 0, .retAddr 0] []
  have hsz := skipB_z (LT := TP) hpz
  have y1 : ∀ f : mE, va_up hp 84 f 67 = _ := fun f => (va_up_ne _ _ (by decide)).trans h1
  refine m_iconst (v := 0) dX8_terms_0 (by decide) ?_
  refine m_istore_n dX8_terms_1 (by decide) ?_
  show mW _ _ _ _ _ _ 2 [_, _, _, _] _
  refine m_iload_n dX8_terms_2 rfl ?_
  refine m_iconst (v := 5) dX8_terms_3 (by decide) ?_
  refine m_icmp_ge (t := 24) dX8_terms_4 (by decide) (fun q => absurd q (by decide)) (fun _ => ?_)
  refine m_aload_n dX8_terms_7 rfl ?_
  refine m_getfield dX8_terms_8 fl_X8_63 (by first | assumption | rfl | exact y1 _ | exact va_up_self _ _ _) (by first | assumption | rfl | exact y1 _ | exact va_up_self _ _ _) ?_
  show mW _ _ _ _ _ _ _ _ (.ref _ :: _)
  refine m_iconst (v := 5) dX8_terms_11 (by decide) ?_
  refine m_iload_n dX8_terms_12 rfl ?_
  refine m_imul dX8_terms_13 ?_
  refine m_ci (v := nI (5 * w)) (nI_mulN 5 w) ?_
  refine m_iload_n dX8_terms_14 rfl ?_
  refine m_iadd dX8_terms_15 ?_
  refine m_ci (v := nI (5 * w + 0)) (by exact nI_add (5 * w) 0) ?_
  refine m_iconst (v := 0) dX8_terms_16 (by decide) ?_
  refine m_iastore dX8_terms_17 (by first | assumption | rfl | exact y1 _ | exact va_up_self _ _ _) (mIx_lit (show 5 * w + 0 < 10 by omega) (by decide)) ?_
  try rw [va_uu]
  refine m_iinc (v := 1) dX8_terms_18 rfl (by decide) (by decide) ?_
  show mW _ _ _ _ _ _ 21 [_, _, _, _] _
  refine m_goto (t := 2) dX8_terms_21 (by decide) ?_
  refine m_iload_n dX8_terms_2 rfl ?_
  refine m_iconst (v := 5) dX8_terms_3 (by decide) ?_
  refine m_icmp_ge (t := 24) dX8_terms_4 (by decide) (fun q => absurd q (by decide)) (fun _ => ?_)
  refine m_aload_n dX8_terms_7 rfl ?_
  refine m_getfield dX8_terms_8 fl_X8_63 (by first | assumption | rfl | exact y1 _ | exact va_up_self _ _ _) (by first | assumption | rfl | exact y1 _ | exact va_up_self _ _ _) ?_
  show mW _ _ _ _ _ _ _ _ (.ref _ :: _)
  refine m_iconst (v := 5) dX8_terms_11 (by decide) ?_
  refine m_iload_n dX8_terms_12 rfl ?_
  refine m_imul dX8_terms_13 ?_
  refine m_ci (v := nI (5 * w)) (nI_mulN 5 w) ?_
  refine m_iload_n dX8_terms_14 rfl ?_
  refine m_iadd dX8_terms_15 ?_
  refine m_ci (v := nI (5 * w + 1)) (by exact nI_add (5 * w) 1) ?_
  refine m_iconst (v := 0) dX8_terms_16 (by decide) ?_
  refine m_iastore dX8_terms_17 (by first | assumption | rfl | exact y1 _ | exact va_up_self _ _ _) (mIx_lit (show 5 * w + 1 < 10 by omega) (by decide)) ?_
  try rw [va_uu]
  refine m_iinc (v := 2) dX8_terms_18 rfl (by decide) (by decide) ?_
  show mW _ _ _ _ _ _ 21 [_, _, _, _] _
  refine m_goto (t := 2) dX8_terms_21 (by decide) ?_
  refine m_iload_n dX8_terms_2 rfl ?_
  refine m_iconst (v := 5) dX8_terms_3 (by decide) ?_
  refine m_icmp_ge (t := 24) dX8_terms_4 (by decide) (fun q => absurd q (by decide)) (fun _ => ?_)
  refine m_aload_n dX8_terms_7 rfl ?_
  refine m_getfield dX8_terms_8 fl_X8_63 (by first | assumption | rfl | exact y1 _ | exact va_up_self _ _ _) (by first | assumption | rfl | exact y1 _ | exact va_up_self _ _ _) ?_
  show mW _ _ _ _ _ _ _ _ (.ref _ :: _)
  refine m_iconst (v := 5) dX8_terms_11 (by decide) ?_
  refine m_iload_n dX8_terms_12 rfl ?_
  refine m_imul dX8_terms_13 ?_
  refine m_ci (v := nI (5 * w)) (nI_mulN 5 w) ?_
  refine m_iload_n dX8_terms_14 rfl ?_
  refine m_iadd dX8_terms_15 ?_
  refine m_ci (v := nI (5 * w + 2)) (by exact nI_add (5 * w) 2) ?_
  refine m_iconst (v := 0) dX8_terms_16 (by decide) ?_
  refine m_iastore dX8_terms_17 (by first | assumption | rfl | exact y1 _ | exact va_up_self _ _ _) (mIx_lit (show 5 * w + 2 < 10 by omega) (by decide)) ?_
  try rw [va_uu]
  refine m_iinc (v := 3) dX8_terms_18 rfl (by decide) (by decide) ?_
  show mW _ _ _ _ _ _ 21 [_, _, _, _] _
  refine m_goto (t := 2) dX8_terms_21 (by decide) ?_
  refine m_iload_n dX8_terms_2 rfl ?_
  refine m_iconst (v := 5) dX8_terms_3 (by decide) ?_
  refine m_icmp_ge (t := 24) dX8_terms_4 (by decide) (fun q => absurd q (by decide)) (fun _ => ?_)
  refine m_aload_n dX8_terms_7 rfl ?_
  refine m_getfield dX8_terms_8 fl_X8_63 (by first | assumption | rfl | exact y1 _ | exact va_up_self _ _ _) (by first | assumption | rfl | exact y1 _ | exact va_up_self _ _ _) ?_
  show mW _ _ _ _ _ _ _ _ (.ref _ :: _)
  refine m_iconst (v := 5) dX8_terms_11 (by decide) ?_
  refine m_iload_n dX8_terms_12 rfl ?_
  refine m_imul dX8_terms_13 ?_
  refine m_ci (v := nI (5 * w)) (nI_mulN 5 w) ?_
  refine m_iload_n dX8_terms_14 rfl ?_
  refine m_iadd dX8_terms_15 ?_
  refine m_ci (v := nI (5 * w + 3)) (by exact nI_add (5 * w) 3) ?_
  refine m_iconst (v := 0) dX8_terms_16 (by decide) ?_
  refine m_iastore dX8_terms_17 (by first | assumption | rfl | exact y1 _ | exact va_up_self _ _ _) (mIx_lit (show 5 * w + 3 < 10 by omega) (by decide)) ?_
  try rw [va_uu]
  refine m_iinc (v := 4) dX8_terms_18 rfl (by decide) (by decide) ?_
  show mW _ _ _ _ _ _ 21 [_, _, _, _] _
  refine m_goto (t := 2) dX8_terms_21 (by decide) ?_
  refine m_iload_n dX8_terms_2 rfl ?_
  refine m_iconst (v := 5) dX8_terms_3 (by decide) ?_
  refine m_icmp_ge (t := 24) dX8_terms_4 (by decide) (fun q => absurd q (by decide)) (fun _ => ?_)
  refine m_aload_n dX8_terms_7 rfl ?_
  refine m_getfield dX8_terms_8 fl_X8_63 (by first | assumption | rfl | exact y1 _ | exact va_up_self _ _ _) (by first | assumption | rfl | exact y1 _ | exact va_up_self _ _ _) ?_
  show mW _ _ _ _ _ _ _ _ (.ref _ :: _)
  refine m_iconst (v := 5) dX8_terms_11 (by decide) ?_
  refine m_iload_n dX8_terms_12 rfl ?_
  refine m_imul dX8_terms_13 ?_
  refine m_ci (v := nI (5 * w)) (nI_mulN 5 w) ?_
  refine m_iload_n dX8_terms_14 rfl ?_
  refine m_iadd dX8_terms_15 ?_
  refine m_ci (v := nI (5 * w + 4)) (by exact nI_add (5 * w) 4) ?_
  refine m_iconst (v := 0) dX8_terms_16 (by decide) ?_
  refine m_iastore dX8_terms_17 (by first | assumption | rfl | exact y1 _ | exact va_up_self _ _ _) (mIx_lit (show 5 * w + 4 < 10 by omega) (by decide)) ?_
  try rw [va_uu]
  refine m_iinc (v := 5) dX8_terms_18 rfl (by decide) (by decide) ?_
  show mW _ _ _ _ _ _ 21 [_, _, _, _] _
  refine m_goto (t := 2) dX8_terms_21 (by decide) ?_
  refine m_iload_n dX8_terms_2 rfl ?_
  refine m_iconst (v := 5) dX8_terms_3 (by decide) ?_
  refine m_icmp_ge (t := 24) dX8_terms_4 (by decide) (fun _ => ?_) (fun q => absurd (by decide) q)
  refine m_aload_n dX8_terms_24 rfl ?_
  refine m_iload_n dX8_terms_25 rfl ?_
  refine m_aload_n dX8_terms_26 rfl ?_
  refine m_aload_n dX8_terms_27 rfl ?_
  refine m_invV_I dX8_terms_28 lk_X8_229 ar_X8_looks (ci := 8) rfl rfl (by first | assumption | rfl | exact y1 _ | exact va_up_self _ _ _) (t_X8_looks (y1 _) ((va_up_ne _ _ (by decide)).trans h2) hz hpz) rfl (Nat.le_of_ble_eq_true rfl) (by decide) (by decide) (by decide) (by decide) rfl rfl ?_
  try rw [va_uu]
  refine m_bipush (v := 45) dX8_terms_31 (by decide) ?_
  refine m_icmp_ne (t := 40) dX8_terms_33 (by decide) (fun c33 => ?_) (fun c33 => ?_)
  · have n45 : ¬ ltrB TP z p = 45 := fun e => c33 ((ltrM_B (by decide) (by decide)).mpr e)
    refine m_iconst (v := 0) dX8_terms_40 (by decide) ?_
    refine m_invV_I dX8_terms_41 lk_X8_237 ar_X8_goesBy (ci := 8) rfl rfl (by first | assumption | rfl | exact y1 _ | exact va_up_self _ _ _) (t_X8_goesBy (va_up_self _ _ _) (by decide)) rfl (Nat.le_of_ble_eq_true rfl) (by decide) (by decide) (by decide) (by decide) rfl rfl ?_
    try rw [va_uu]
    rw [if_pos rfl]
    refine m_if_eq (t := 51) dX8_terms_44 (by decide) (fun _ => ?_) (fun q => absurd (by decide) q)
    refine m_iconst (v := 1) dX8_terms_51 (by decide) ?_
    refine m_iconst (v := 5) dX8_terms_52 (by decide) ?_
    refine m_invV_I dX8_terms_53 lk_X8_249 ar_X8_term (ci := 8) rfl rfl (by first | assumption | rfl | exact y1 _ | exact va_up_self _ _ _) (t_X8_term (va_up_self _ _ _) ((va_up_ne _ _ (by decide)).trans ((va_up_ne _ _ (by decide)).trans h2)) ((va_up_ne _ _ (by decide)).trans (va_up_self _ _ _)) hz (by omega) hw) rfl (Nat.le_of_ble_eq_true rfl) (by decide) (by decide) (by decide) (by decide) rfl rfl ?_
    try rw [va_uu]
    have hR : cTermsAll TP z (5 * w) fg pw p (zer5 RD w) = cTerms TP z (5 * w) 60 5 1 fg pw (skipB TP z p) (zer5 RD w) := if_neg n45
    by_cases e0 : (cTerm TP z (skipB TP z p)).1 = 0
    · rw [mTm_f e0, va_4]
      rw [cTerms_f e0] at hR
      have hs := cTerm_f e0
      have k1 := skipB_z (LT := TP) hsz
      have hq9 : trmP (cTermsAll TP z (5 * w) fg pw p (zer5 RD w)) TP z (cTerm TP z (skipB TP z p)).2.2.2 1 (zer5 RD w) := (by rw [hs, hR]; exact ⟨k1, Or.inr ⟨nI_nm1 (by omega), rfl, rfl, skipB_idem⟩⟩)
      refine m_istore_n dX8_terms_56 (by decide) ?_
      show mW _ _ _ _ _ _ 57 [_, _, _, _] _
      refine m_aload_n dX8_terms_57 rfl ?_
      refine m_getfield dX8_terms_58 fl_X8_241 (va_up_self _ _ _) rfl ?_
      show mW _ _ _ _ _ _ _ _ (.int _ :: _)
      refine m_if_ne (t := 118) dX8_terms_61 (by decide) (fun _ => ?_) (fun q => absurd q (show ¬ (1 : Int32) = 0 by decide))
      exact m_return hF dX8_terms_118 rfl rfl rfl ⟨_, _, _, rfl, rfl, hq9⟩
    have k1 := cTerm_ok (LT := TP) hsz
    have e1 := nI_lt5 k1.1
    rw [mTm_s e0 e1, va_4]
    rw [cTerms_s e0 e1] at hR
    refine m_istore_n dX8_terms_56 (by decide) ?_
    show mW _ _ _ _ _ _ 57 [_, _, _, _] _
    exact l_X8_terms h2 hz hw hF 59 _ _ _ _ _ (by omega) k1.1 k1.2.1 hR.symm
  have l45 : ltrB TP z p = 45 := (ltrM_B (by decide) (by decide)).mp c33
  have s9 := ltrB_eq l45 (by decide)
  refine m_iconst (v := 1) dX8_terms_36 (by decide) ?_
  refine m_goto (t := 41) dX8_terms_37 (by decide) ?_
  refine m_invV_I dX8_terms_41 lk_X8_237 ar_X8_goesBy (ci := 8) rfl rfl (by first | assumption | rfl | exact y1 _ | exact va_up_self _ _ _) (t_X8_goesBy (va_up_self _ _ _) (by decide)) rfl (Nat.le_of_ble_eq_true rfl) (by decide) (by decide) (by decide) (by decide) rfl rfl ?_
  try rw [va_uu]
  rw [if_neg (by decide)]
  refine m_if_eq (t := 51) dX8_terms_44 (by decide) (fun q => absurd q (by decide)) (fun _ => ?_)
  refine m_iconst (v := -1) dX8_terms_47 (by decide) ?_
  refine m_goto (t := 52) dX8_terms_48 (by decide) ?_
  refine m_iconst (v := 5) dX8_terms_52 (by decide) ?_
  refine m_invV_I dX8_terms_53 lk_X8_249 ar_X8_term (ci := 8) rfl rfl (by first | assumption | rfl | exact y1 _ | exact va_up_self _ _ _) (t_X8_term (va_up_self _ _ _) ((va_up_ne _ _ (by decide)).trans ((va_up_ne _ _ (by decide)).trans h2)) ((va_up_ne _ _ (by decide)).trans (va_up_self _ _ _)) hz (by omega) hw) rfl (Nat.le_of_ble_eq_true rfl) (by decide) (by decide) (by decide) (by decide) rfl rfl ?_
  try rw [va_uu]
  have hR : cTermsAll TP z (5 * w) fg pw p (zer5 RD w) = cTerms TP z (5 * w) 60 5 (-1) fg pw (skipB TP z p + 1) (zer5 RD w) := if_pos l45
  by_cases e0 : (cTerm TP z (skipB TP z p + 1)).1 = 0
  · rw [mTm_f e0, va_4]
    rw [cTerms_f e0] at hR
    have hs := cTerm_f e0
    have k1 := skipB_z (LT := TP) (show skipB TP z p + 1 ≤ z from s9)
    have hq9 : trmP (cTermsAll TP z (5 * w) fg pw p (zer5 RD w)) TP z (cTerm TP z (skipB TP z p + 1)).2.2.2 1 (zer5 RD w) := (by rw [hs, hR]; exact ⟨k1, Or.inr ⟨nI_nm1 (by omega), rfl, rfl, skipB_idem⟩⟩)
    refine m_istore_n dX8_terms_56 (by decide) ?_
    show mW _ _ _ _ _ _ 57 [_, _, _, _] _
    refine m_aload_n dX8_terms_57 rfl ?_
    refine m_getfield dX8_terms_58 fl_X8_241 (va_up_self _ _ _) rfl ?_
    show mW _ _ _ _ _ _ _ _ (.int _ :: _)
    refine m_if_ne (t := 118) dX8_terms_61 (by decide) (fun _ => ?_) (fun q => absurd q (show ¬ (1 : Int32) = 0 by decide))
    exact m_return hF dX8_terms_118 rfl rfl rfl ⟨_, _, _, rfl, rfl, hq9⟩
  have k1 := cTerm_ok (LT := TP) (show skipB TP z p + 1 ≤ z from s9)
  have e1 := nI_lt5 k1.1
  rw [mTm_s e0 e1, va_4]
  rw [cTerms_s e0 e1] at hR
  refine m_istore_n dX8_terms_56 (by decide) ?_
  show mW _ _ _ _ _ _ 57 [_, _, _, _] _
  exact l_X8_terms h2 hz hw hF 59 _ _ _ _ _ (by omega) k1.1 k1.2.1 hR.symm

