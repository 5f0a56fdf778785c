/-! ===== LoopJudge: the judge, boxes ===== -/
theorem chkS_eq {Z Z' : Nat → Int64} (h : ∀ t, t < 5 → Z t = Z' t) {mi : Int32} : ∀ (r k : Nat) (c : Int32), k + r ≤ 5 → chkS Z mi r k c = chkS Z' mi r k c
  | 0, _, _, _ => rfl
  | r + 1, k, c, hk => by
    rw [chkS, chkS, h k (by omega), chkS_eq h r (k + 1) c (by omega)]
theorem stA_eq {Z Z' : Nat → Int64} (h : ∀ t, t < 5 → Z t = Z' t) : stA Z = stA Z' := by
  unfold stA
  simp only [deg5_eq h, chkS_eq h 1 0 _ (by decide), chkS_eq h 2 0 _ (by decide), chkS_eq h 3 0 _ (by decide), chkS_eq h 4 0 _ (by decide), h 0 (by decide), h 1 (by decide), h 2 (by decide), h 3 (by decide), h 4 (by decide)]
theorem tB_eq {Z Z' : Nat → Int64} (h : ∀ t, t < 5 → Z t = Z' t) {l k : Nat} (hk : k < 5) : tB Z l k = tB Z' l k := by
  unfold tB
  rw [h (k - l) (by omega)]
theorem turnV_eq {Z Z' : Nat → Int64} (h : ∀ t, t < 5 → Z t = Z' t) {l j : Nat} (hj : j < 5) : turnV Z l j = turnV Z' l j := by
  unfold turnV
  simp only [tB_eq h (show 0 < 5 by decide), tB_eq h (show 1 < 5 by decide), tB_eq h (show 2 < 5 by decide), tB_eq h (show 3 < 5 by decide), tB_eq h (show 4 < 5 by decide)]
theorem lackN_eq {Z Z' : Nat → Int64} (h : ∀ t, t < 5 → Z t = Z' t) : lackN Z = lackN Z' := by
  unfold lackN
  simp only [h 1 (by decide), h 2 (by decide), h 3 (by decide), h 4 (by decide)]
theorem stC_eq {Z Z' : Nat → Int64} (h : ∀ t, t < 5 → Z t = Z' t) : stC Z = stC Z' := by
  unfold stC
  rw [deg5_eq h, lackN_eq h, turnV_eq h (by decide), stA_eq (fun t ht => turnV_eq h ht)]
def stB (b : Int32) (Z : Nat → Int64) : Int32 := if b = 0 then stA Z else stC Z
theorem stB_eq {b : Int32} {Z Z' : Nat → Int64} (h : ∀ t, t < 5 → Z t = Z' t) : stB b Z = stB b Z' := by
  unfold stB
  rw [stA_eq h, stC_eq h]
def cJudge (hp : mHp) : Prop := ∃ (LL : Nat → Nat → Int64) (DG : Nat → Int32) (m : Nat) (ri ev le : Int32) (T : Nat → Int64), hp = hpC hp LL DG m ∧ hp 44 = eO 1 (oJudge ri ev le) ∧ hp 46 = eR tyJJ 5 rLines ∧ hp 53 = eL 5 T
theorem hpC_of {hp hp' : mHp} {LL : Nat → Nat → Int64} {DG : Nat → Int32} {m : Nat} (h : hp = hpC hp LL DG m) (e : ∀ q, 45 ≤ q → q ≤ 52 → hp' q = hp q) : hp' = hpC hp' LL DG m := by
  funext q
  have hq := congrFun h q
  unfold hpC at hq ⊢
  by_cases e1 : q = 45
  · rw [if_pos e1] at hq ⊢
    rw [e q (by omega) (by omega)]
    exact hq
  · rw [if_neg e1] at hq ⊢
    by_cases e2 : q = 52
    · rw [if_pos e2] at hq ⊢
      rw [e q (by omega) (by omega)]
      exact hq
    · rw [if_neg e2] at hq ⊢
      by_cases e3 : 47 ≤ q ∧ q < 52
      · rw [if_pos e3] at hq ⊢
        rw [e q (by omega) (by omega)]
        exact hq
      · rw [if_neg e3]
theorem hpC_self {hp : mHp} {LL : Nat → Nat → Int64} {DG : Nat → Int32} {m : Nat} : hpC hp LL DG m = hpC (hpC hp LL DG m) LL DG m := by
  funext q
  unfold hpC
  by_cases e1 : q = 45
  · rw [if_pos e1, if_pos e1]
  · rw [if_neg e1, if_neg e1]
    by_cases e2 : q = 52
    · rw [if_pos e2, if_pos e2]
    · rw [if_neg e2, if_neg e2]
      by_cases e3 : 47 ≤ q ∧ q < 52
      · rw [if_pos e3, if_pos e3]
      · rw [if_neg e3, if_neg e3]
theorem hpC_off {hp : mHp} {LL : Nat → Nat → Int64} {DG : Nat → Int32} {m q : Nat} (h : q < 45 ∨ q = 46 ∨ 52 < q) : hpC hp LL DG m q = hp q := by
  unfold hpC
  rw [if_neg (by omega), if_neg (by omega), if_neg (by omega)]
theorem cJudge.of {hp hp' : mHp} (h : cJudge hp) (e : ∀ q, 44 ≤ q → q ≤ 53 → hp' q = hp q) : cJudge hp' := by
  obtain ⟨LL, DG, m, ri, ev, le, T, h1, h2, h3, h4⟩ := h
  exact ⟨LL, DG, m, ri, ev, le, T, hpC_of h1 (fun q a b => e q (by omega) (by omega)), (e 44 (by decide) (by decide)).trans h2, (e 46 (by decide) (by decide)).trans h3, (e 53 (by decide) (by decide)).trans h4⟩
theorem t_steady {n : Nat} {hp : mHp} {b : Int32} {Z : Nat → Int64} (hb : inC b 2) (hJ : cJudge hp) (hh : hp 66 = eL 5 Z) : mC D_X1_isSteady [.ref 44, .int b, .ref 66] n hp (fun v hp' => v = some (.int (stB b Z)) ∧ cJudge hp' ∧ ∀ q, q ≠ 53 → hp' q = hp q) := by
  obtain ⟨w, hw, rfl, -⟩ := inC_N hb
  match w, hw with
  | 0, _ =>
    exact (t_X1_isSteady0 hh).mono (by
      rintro v hp' ⟨rfl, rfl⟩
      exact ⟨rfl, hJ, fun _ _ => rfl⟩)
  | 1, _ =>
    obtain ⟨LL, DG, m, ri, ev, le, T, h1, h2, h3, h4⟩ := hJ
    exact (t_X1_isSteady1 h2 h4 hh (by decide)).mono (by
      rintro v hp' ⟨rfl, T', rfl⟩
      refine ⟨rfl, ⟨LL, DG, m, ri, ev, le, T', hpC_of h1 (fun q a b => va_up_ne _ _ (by omega)), (va_up_ne _ _ (by decide)).trans h2, (va_up_ne _ _ (by decide)).trans h3, va_up_self _ _ _⟩, fun q hq => va_up_ne _ _ hq⟩)
/-- nothing but the judge's own cells and the numbers under hand have changed -/
def offJ (hp hp' : mHp) : Prop := ∀ q, (q < 44 ∨ (53 < q ∧ q < 66) ∨ 66 < q) → hp' q = hp q
theorem offJ.rf {hp : mHp} : offJ hp hp := fun _ _ => rfl
abbrev qJ (hp : mHp) (x : Int32) : mQ := fun r hp' => r = some (.int x) ∧ cJudge hp' ∧ cPol hp' ∧ offJ hp hp'
/-- how many of the sets Z i, Z (i + 1), .. are steady -/
def cntS (F : Nat → Int32) : Nat → Nat → Int32 → Int32
  | 0, _, t => t
  | r + 1, i, t => if F i = 0 then cntS F r (i + 1) t else cntS F r (i + 1) (t + 1)
def corP (c : Nat → Int32) (r : Int32) (i t : Nat) : Int64 := (c t + r * mCS.getD (5 * i + t) 0).toInt64
def nbP (c : Nat → Int32) (i t : Nat) : Int64 := (c t + nI (i / 3 ^ t % 3) - 1).toInt64
theorem corP_eq {P c : Nat → Int32} {r : Int32} {i t : Nat} (h : ∀ t, t < 10 → P t = c t) (ht : t < 5) : corP P r i t = corP c r i t := by
  unfold corP
  rw [h t (by omega)]
theorem nbP_eq {P c : Nat → Int32} {i t : Nat} (h : ∀ t, t < 10 → P t = c t) (ht : t < 5) : nbP P i t = nbP c i t := by
  unfold nbP
  rw [h t (by omega)]
def sCorners (S : TS) (r : Int32) : Int32 := if r < 0 then -1 else if r ≤ 9 then cntS (fun i => stA (corP S.1 r i)) 4 0 0 else -1
def sNeigh (S : TS) (b : Int32) : Int32 := if inC b 2 then cntS (fun i => stB b (nbP S.1 i)) 243 0 0 else -1
set_option maxHeartbeats 400000 in
set_option maxRecDepth 100000 in
theorem l_X7_corners {n : Nat} {hp0 : mHp} {kf : Int32} {S : TS} {ρ V : Int32} {K : mK} (hF : mFin K D_X7_corners n (qJ hp0 V)) : ∀ (r i : Nat) (hp : mHp) (t : Int32) (vx : Value), i + r = 4 → cTop hp kf → cTold hp S → cJudge hp → cPol hp → (∀ _ : Unit, cntS (fun i => stA (corP S.1 ρ i)) r i t = V) → offJ hp0 hp → mW K D_X7_corners 0 0 n hp 16 [.ref 0, .int ρ, .int t, .int (nI i), vx] [] := by
  intro r
  induction r using Nat.strongRecOn with
  | ind r ih =>
    intro i hp t vx hir h0 hS hJ hP hv ho
    have hS0 := hS
    have a0 : hp 0 = eO 7 (oTop kf) := h0
    obtain ⟨⟨P, g, d, p1, p2, p3⟩, hH⟩ := hS
    obtain ⟨v1, v2, v3⟩ := vec_set p3
    have hS1 : cSet hp 1 S.1 := ⟨P, g, d, p1, p2, p3⟩
    obtain ⟨w0, G0, D0, PP0, k1, k2, k3, -⟩ := id hH
    obtain ⟨L, hL⟩ := hP
    have y0 : ∀ f : mE, va_up hp 66 f 0 = eO 7 (oTop kf) := fun f => (va_up_ne _ _ (by decide)).trans a0
    have y1 : ∀ f : mE, va_up hp 66 f 1 = eO 3 (oSet 2 g d) := fun f => (va_up_ne _ _ (by decide)).trans p1
    have y2 : ∀ f : mE, va_up hp 66 f 2 = eI 10 P := fun f => (va_up_ne _ _ (by decide)).trans p2
    obtain ⟨-, -, -, rij, evj, lej, -, -, j2, -, -⟩ := id hJ
    have y4 : ∀ f : mE, va_up hp 66 f 44 = eO 1 (oJudge rij evj lej) := fun f => (va_up_ne _ _ (by decide)).trans j2
    refine m_iload_n dX7_corners_16 rfl ?_
    refine m_iconst (v := 4) dX7_corners_17 (by decide) ?_
    refine m_icmp_ge (t := 91) dX7_corners_18 (by decide) (fun cc => ?_) (fun cc => ?_)
    · have hr : r = 0 := by have := nI_cmp' (b := 4) (by decide) (by omega) cc; omega
      subst hr
      refine m_iload_n dX7_corners_91 rfl ?_
      exact m_ireturn hF dX7_corners_92 rfl rfl rfl ⟨by rw [← hv ()]; rfl, hJ, ⟨L, hL⟩, ho⟩
    have hi4 : i < 4 := nI_cmp (by decide) (by omega) cc
    obtain ⟨r, rfl⟩ : ∃ r', r = r' + 1 := ⟨r - 1, by omega⟩
    rw [cntS] at hv
    refine m_iconst (v := 0) dX7_corners_21 (by decide) ?_
    refine m_istore dX7_corners_22 (by decide) ?_
    show mW _ _ _ _ _ _ 24 [_, _, _, _, _] _
    refine m_iload dX7_corners_24 rfl ?_
    refine m_iconst (v := 5) dX7_corners_26 (by decide) ?_
    refine m_icmp_ge (t := 67) dX7_corners_27 (by decide) (fun q => absurd q (by decide)) (fun _ => ?_)
    skip
    refine m_aload_n dX7_corners_30 rfl ?_
    refine m_getfield dX7_corners_31 fl_X7_69 (by first | assumption | rfl | exact y0 _ | exact y1 _ | exact y2 _ | exact y4 _ | exact va_up_self _ _ _) (by first | assumption | rfl | exact y0 _ | exact y1 _ | exact y2 _ | exact y4 _ | exact va_up_self _ _ _) ?_
    show mW _ _ _ _ _ _ _ _ (.ref _ :: _)
    refine m_iload dX7_corners_34 rfl ?_
    refine m_aload_n dX7_corners_36 rfl ?_
    refine m_getfield dX7_corners_37 fl_X7_12 (by first | assumption | rfl | exact y0 _ | exact y1 _ | exact y2 _ | exact y4 _ | exact va_up_self _ _ _) (by first | assumption | rfl | exact y0 _ | exact y1 _ | exact y2 _ | exact y4 _ | exact va_up_self _ _ _) ?_
    show mW _ _ _ _ _ _ _ _ (.ref _ :: _)
    refine m_getfield dX7_corners_40 fl_X7_81 (by first | assumption | rfl | exact y0 _ | exact y1 _ | exact y2 _ | exact y4 _ | exact va_up_self _ _ _) (by first | assumption | rfl | exact y0 _ | exact y1 _ | exact y2 _ | exact y4 _ | exact va_up_self _ _ _) ?_
    show mW _ _ _ _ _ _ _ _ (.ref _ :: _)
    refine m_iload dX7_corners_43 rfl ?_
    refine m_iaload (k := 0) dX7_corners_45 (by first | assumption | rfl | exact y0 _ | exact y1 _ | exact y2 _ | exact y4 _ | exact va_up_self _ _ _) ⟨by decide, by decide⟩ ?_
    refine m_iload_n dX7_corners_46 rfl ?_
    refine m_getstatic dX7_corners_47 w_2_194 ?_
    refine m_iload_n dX7_corners_50 rfl ?_
    refine m_iconst (v := 5) dX7_corners_51 (by decide) ?_
    refine m_imul dX7_corners_52 ?_
    refine m_ci (v := nI (5 * i)) (by rw [Nat.mul_comm]; exact nI_mulN i 5) ?_
    refine m_iload dX7_corners_53 rfl ?_
    refine m_iadd dX7_corners_55 ?_
    refine m_ci (v := nI (5 * i + 0)) (by exact nI_add (5 * i) 0) ?_
    refine m_staload dX7_corners_56 (mIx_lit (show 5 * i + 0 < 20 by omega) (by decide)) ?_
    refine m_imul dX7_corners_57 ?_
    refine m_iadd dX7_corners_58 ?_
    refine m_i2l dX7_corners_59 ?_
    refine m_lastore (k := 0) dX7_corners_60 (by first | assumption | rfl | exact y0 _ | exact y1 _ | exact y2 _ | exact y4 _ | exact va_up_self _ _ _) ⟨by decide, by decide⟩ ?_
    try rw [va_uu]
    refine m_iinc (v := 1) dX7_corners_61 rfl (by decide) (by decide) ?_
    show mW _ _ _ _ _ _ 64 [_, _, _, _, _] _
    refine m_goto (t := 24) dX7_corners_64 (by decide) ?_
    refine m_iload dX7_corners_24 rfl ?_
    refine m_iconst (v := 5) dX7_corners_26 (by decide) ?_
    refine m_icmp_ge (t := 67) dX7_corners_27 (by decide) (fun q => absurd q (by decide)) (fun _ => ?_)
    skip
    refine m_aload_n dX7_corners_30 rfl ?_
    refine m_getfield dX7_corners_31 fl_X7_69 (by first | assumption | rfl | exact y0 _ | exact y1 _ | exact y2 _ | exact y4 _ | exact va_up_self _ _ _) (by first | assumption | rfl | exact y0 _ | exact y1 _ | exact y2 _ | exact y4 _ | exact va_up_self _ _ _) ?_
    show mW _ _ _ _ _ _ _ _ (.ref _ :: _)
    refine m_iload dX7_corners_34 rfl ?_
    refine m_aload_n dX7_corners_36 rfl ?_
    refine m_getfield dX7_corners_37 fl_X7_12 (by first | assumption | rfl | exact y0 _ | exact y1 _ | exact y2 _ | exact y4 _ | exact va_up_self _ _ _) (by first | assumption | rfl | exact y0 _ | exact y1 _ | exact y2 _ | exact y4 _ | exact va_up_self _ _ _) ?_
    show mW _ _ _ _ _ _ _ _ (.ref _ :: _)
    refine m_getfield dX7_corners_40 fl_X7_81 (by first | assumption | rfl | exact y0 _ | exact y1 _ | exact y2 _ | exact y4 _ | exact va_up_self _ _ _) (by first | assumption | rfl | exact y0 _ | exact y1 _ | exact y2 _ | exact y4 _ | exact va_up_self _ _ _) ?_
    show mW _ _ _ _ _ _ _ _ (.ref _ :: _)
    refine m_iload dX7_corners_43 rfl ?_
    refine m_iaload (k := 1) dX7_corners_45 (by first | assumption | rfl | exact y0 _ | exact y1 _ | exact y2 _ | exact y4 _ | exact va_up_self _ _ _) ⟨by decide, by decide⟩ ?_
    refine m_iload_n dX7_corners_46 rfl ?_
    refine m_getstatic dX7_corners_47 w_2_194 ?_
    refine m_iload_n dX7_corners_50 rfl ?_
    refine m_iconst (v := 5) dX7_corners_51 (by decide) ?_
    refine m_imul dX7_corners_52 ?_
    refine m_ci (v := nI (5 * i)) (by rw [Nat.mul_comm]; exact nI_mulN i 5) ?_
    refine m_iload dX7_corners_53 rfl ?_
    refine m_iadd dX7_corners_55 ?_
    refine m_ci (v := nI (5 * i + 1)) (by exact nI_add (5 * i) 1) ?_
    refine m_staload dX7_corners_56 (mIx_lit (show 5 * i + 1 < 20 by omega) (by decide)) ?_
    refine m_imul dX7_corners_57 ?_
    refine m_iadd dX7_corners_58 ?_
    refine m_i2l dX7_corners_59 ?_
    refine m_lastore (k := 1) dX7_corners_60 (by first | assumption | rfl | exact y0 _ | exact y1 _ | exact y2 _ | exact y4 _ | exact va_up_self _ _ _) ⟨by decide, by decide⟩ ?_
    try rw [va_uu]
    refine m_iinc (v := 2) dX7_corners_61 rfl (by decide) (by decide) ?_
    show mW _ _ _ _ _ _ 64 [_, _, _, _, _] _
    refine m_goto (t := 24) dX7_corners_64 (by decide) ?_
    refine m_iload dX7_corners_24 rfl ?_
    refine m_iconst (v := 5) dX7_corners_26 (by decide) ?_
    refine m_icmp_ge (t := 67) dX7_corners_27 (by decide) (fun q => absurd q (by decide)) (fun _ => ?_)
    skip
    refine m_aload_n dX7_corners_30 rfl ?_
    refine m_getfield dX7_corners_31 fl_X7_69 (by first | assumption | rfl | exact y0 _ | exact y1 _ | exact y2 _ | exact y4 _ | exact va_up_self _ _ _) (by first | assumption | rfl | exact y0 _ | exact y1 _ | exact y2 _ | exact y4 _ | exact va_up_self _ _ _) ?_
    show mW _ _ _ _ _ _ _ _ (.ref _ :: _)
    refine m_iload dX7_corners_34 rfl ?_
    refine m_aload_n dX7_corners_36 rfl ?_
    refine m_getfield dX7_corners_37 fl_X7_12 (by first | assumption | rfl | exact y0 _ | exact y1 _ | exact y2 _ | exact y4 _ | exact va_up_self _ _ _) (by first | assumption | rfl | exact y0 _ | exact y1 _ | exact y2 _ | exact y4 _ | exact va_up_self _ _ _) ?_
    show mW _ _ _ _ _ _ _ _ (.ref _ :: _)
    refine m_getfield dX7_corners_40 fl_X7_81 (by first | assumption | rfl | exact y0 _ | exact y1 _ | exact y2 _ | exact y4 _ | exact va_up_self _ _ _) (by first | assumption | rfl | exact y0 _ | exact y1 _ | exact y2 _ | exact y4 _ | exact va_up_self _ _ _) ?_
    show mW _ _ _ _ _ _ _ _ (.ref _ :: _)
    refine m_iload dX7_corners_43 rfl ?_
    refine m_iaload (k := 2) dX7_corners_45 (by first | assumption | rfl | exact y0 _ | exact y1 _ | exact y2 _ | exact y4 _ | exact va_up_self _ _ _) ⟨by decide, by decide⟩ ?_
    refine m_iload_n dX7_corners_46 rfl ?_
    refine m_getstatic dX7_corners_47 w_2_194 ?_
    refine m_iload_n dX7_corners_50 rfl ?_
    refine m_iconst (v := 5) dX7_corners_51 (by decide) ?_
    refine m_imul dX7_corners_52 ?_
    refine m_ci (v := nI (5 * i)) (by rw [Nat.mul_comm]; exact nI_mulN i 5) ?_
    refine m_iload dX7_corners_53 rfl ?_
    refine m_iadd dX7_corners_55 ?_
    refine m_ci (v := nI (5 * i + 2)) (by exact nI_add (5 * i) 2) ?_
    refine m_staload dX7_corners_56 (mIx_lit (show 5 * i + 2 < 20 by omega) (by decide)) ?_
    refine m_imul dX7_corners_57 ?_
    refine m_iadd dX7_corners_58 ?_
    refine m_i2l dX7_corners_59 ?_
    refine m_lastore (k := 2) dX7_corners_60 (by first | assumption | rfl | exact y0 _ | exact y1 _ | exact y2 _ | exact y4 _ | exact va_up_self _ _ _) ⟨by decide, by decide⟩ ?_
    try rw [va_uu]
    refine m_iinc (v := 3) dX7_corners_61 rfl (by decide) (by decide) ?_
    show mW _ _ _ _ _ _ 64 [_, _, _, _, _] _
    refine m_goto (t := 24) dX7_corners_64 (by decide) ?_
    refine m_iload dX7_corners_24 rfl ?_
    refine m_iconst (v := 5) dX7_corners_26 (by decide) ?_
    refine m_icmp_ge (t := 67) dX7_corners_27 (by decide) (fun q => absurd q (by decide)) (fun _ => ?_)
    skip
    refine m_aload_n dX7_corners_30 rfl ?_
    refine m_getfield dX7_corners_31 fl_X7_69 (by first | assumption | rfl | exact y0 _ | exact y1 _ | exact y2 _ | exact y4 _ | exact va_up_self _ _ _) (by first | assumption | rfl | exact y0 _ | exact y1 _ | exact y2 _ | exact y4 _ | exact va_up_self _ _ _) ?_
    show mW _ _ _ _ _ _ _ _ (.ref _ :: _)
    refine m_iload dX7_corners_34 rfl ?_
    refine m_aload_n dX7_corners_36 rfl ?_
    refine m_getfield dX7_corners_37 fl_X7_12 (by first | assumption | rfl | exact y0 _ | exact y1 _ | exact y2 _ | exact y4 _ | exact va_up_self _ _ _) (by first | assumption | rfl | exact y0 _ | exact y1 _ | exact y2 _ | exact y4 _ | exact va_up_self _ _ _) ?_
    show mW _ _ _ _ _ _ _ _ (.ref _ :: _)
    refine m_getfield dX7_corners_40 fl_X7_81 (by first | assumption | rfl | exact y0 _ | exact y1 _ | exact y2 _ | exact y4 _ | exact va_up_self _ _ _) (by first | assumption | rfl | exact y0 _ | exact y1 _ | exact y2 _ | exact y4 _ | exact va_up_self _ _ _) ?_
    show mW _ _ _ _ _ _ _ _ (.ref _ :: _)
    refine m_iload dX7_corners_43 rfl ?_
    refine m_iaload (k := 3) dX7_corners_45 (by first | assumption | rfl | exact y0 _ | exact y1 _ | exact y2 _ | exact y4 _ | exact va_up_self _ _ _) ⟨by decide, by decide⟩ ?_
    refine m_iload_n dX7_corners_46 rfl ?_
    refine m_getstatic dX7_corners_47 w_2_194 ?_
    refine m_iload_n dX7_corners_50 rfl ?_
    refine m_iconst (v := 5) dX7_corners_51 (by decide) ?_
    refine m_imul dX7_corners_52 ?_
    refine m_ci (v := nI (5 * i)) (by rw [Nat.mul_comm]; exact nI_mulN i 5) ?_
    refine m_iload dX7_corners_53 rfl ?_
    refine m_iadd dX7_corners_55 ?_
    refine m_ci (v := nI (5 * i + 3)) (by exact nI_add (5 * i) 3) ?_
    refine m_staload dX7_corners_56 (mIx_lit (show 5 * i + 3 < 20 by omega) (by decide)) ?_
    refine m_imul dX7_corners_57 ?_
    refine m_iadd dX7_corners_58 ?_
    refine m_i2l dX7_corners_59 ?_
    refine m_lastore (k := 3) dX7_corners_60 (by first | assumption | rfl | exact y0 _ | exact y1 _ | exact y2 _ | exact y4 _ | exact va_up_self _ _ _) ⟨by decide, by decide⟩ ?_
    try rw [va_uu]
    refine m_iinc (v := 4) dX7_corners_61 rfl (by decide) (by decide) ?_
    show mW _ _ _ _ _ _ 64 [_, _, _, _, _] _
    refine m_goto (t := 24) dX7_corners_64 (by decide) ?_
    refine m_iload dX7_corners_24 rfl ?_
    refine m_iconst (v := 5) dX7_corners_26 (by decide) ?_
    refine m_icmp_ge (t := 67) dX7_corners_27 (by decide) (fun q => absurd q (by decide)) (fun _ => ?_)
    skip
    refine m_aload_n dX7_corners_30 rfl ?_
    refine m_getfield dX7_corners_31 fl_X7_69 (by first | assumption | rfl | exact y0 _ | exact y1 _ | exact y2 _ | exact y4 _ | exact va_up_self _ _ _) (by first | assumption | rfl | exact y0 _ | exact y1 _ | exact y2 _ | exact y4 _ | exact va_up_self _ _ _) ?_
    show mW _ _ _ _ _ _ _ _ (.ref _ :: _)
    refine m_iload dX7_corners_34 rfl ?_
    refine m_aload_n dX7_corners_36 rfl ?_
    refine m_getfield dX7_corners_37 fl_X7_12 (by first | assumption | rfl | exact y0 _ | exact y1 _ | exact y2 _ | exact y4 _ | exact va_up_self _ _ _) (by first | assumption | rfl | exact y0 _ | exact y1 _ | exact y2 _ | exact y4 _ | exact va_up_self _ _ _) ?_
    show mW _ _ _ _ _ _ _ _ (.ref _ :: _)
    refine m_getfield dX7_corners_40 fl_X7_81 (by first | assumption | rfl | exact y0 _ | exact y1 _ | exact y2 _ | exact y4 _ | exact va_up_self _ _ _) (by first | assumption | rfl | exact y0 _ | exact y1 _ | exact y2 _ | exact y4 _ | exact va_up_self _ _ _) ?_
    show mW _ _ _ _ _ _ _ _ (.ref _ :: _)
    refine m_iload dX7_corners_43 rfl ?_
    refine m_iaload (k := 4) dX7_corners_45 (by first | assumption | rfl | exact y0 _ | exact y1 _ | exact y2 _ | exact y4 _ | exact va_up_self _ _ _) ⟨by decide, by decide⟩ ?_
    refine m_iload_n dX7_corners_46 rfl ?_
    refine m_getstatic dX7_corners_47 w_2_194 ?_
    refine m_iload_n dX7_corners_50 rfl ?_
    refine m_iconst (v := 5) dX7_corners_51 (by decide) ?_
    refine m_imul dX7_corners_52 ?_
    refine m_ci (v := nI (5 * i)) (by rw [Nat.mul_comm]; exact nI_mulN i 5) ?_
    refine m_iload dX7_corners_53 rfl ?_
    refine m_iadd dX7_corners_55 ?_
    refine m_ci (v := nI (5 * i + 4)) (by exact nI_add (5 * i) 4) ?_
    refine m_staload dX7_corners_56 (mIx_lit (show 5 * i + 4 < 20 by omega) (by decide)) ?_
    refine m_imul dX7_corners_57 ?_
    refine m_iadd dX7_corners_58 ?_
    refine m_i2l dX7_corners_59 ?_
    refine m_lastore (k := 4) dX7_corners_60 (by first | assumption | rfl | exact y0 _ | exact y1 _ | exact y2 _ | exact y4 _ | exact va_up_self _ _ _) ⟨by decide, by decide⟩ ?_
    try rw [va_uu]
    refine m_iinc (v := 5) dX7_corners_61 rfl (by decide) (by decide) ?_
    show mW _ _ _ _ _ _ 64 [_, _, _, _, _] _
    refine m_goto (t := 24) dX7_corners_64 (by decide) ?_
    refine m_iload dX7_corners_24 rfl ?_
    refine m_iconst (v := 5) dX7_corners_26 (by decide) ?_
    refine m_icmp_ge (t := 67) dX7_corners_27 (by decide) (fun _ => ?_) (fun q => absurd (by decide) q)
    refine m_aload_n dX7_corners_67 rfl ?_
    refine m_getfield dX7_corners_68 fl_X7_53 (by first | assumption | rfl | exact y0 _ | exact y1 _ | exact y2 _ | exact y4 _ | exact va_up_self _ _ _) (by first | assumption | rfl | exact y0 _ | exact y1 _ | exact y2 _ | exact y4 _ | exact va_up_self _ _ _) ?_
    show mW _ _ _ _ _ _ _ _ (.ref _ :: _)
    refine m_iconst (v := 0) dX7_corners_71 (by decide) ?_
    refine m_aload_n dX7_corners_72 rfl ?_
    refine m_getfield dX7_corners_73 fl_X7_69 (by first | assumption | rfl | exact y0 _ | exact y1 _ | exact y2 _ | exact y4 _ | exact va_up_self _ _ _) (by first | assumption | rfl | exact y0 _ | exact y1 _ | exact y2 _ | exact y4 _ | exact va_up_self _ _ _) ?_
    show mW _ _ _ _ _ _ _ _ (.ref _ :: _)
    refine m_invV dX7_corners_76 lk_X7_166 ar_X1_isSteady (ci := 1) rfl rfl (by first | assumption | rfl | exact y0 _ | exact y1 _ | exact y2 _ | exact y4 _ | exact va_up_self _ _ _) (t_steady (b := 0) (by decide) (hJ.of (fun q r1 r2 => va_up_ne _ _ (by omega))) (va_up_self _ _ _)) rfl (Nat.le_of_ble_eq_true rfl) (by decide) (by decide) (by decide) (by decide) (fun v hp' q => ?_)
    obtain ⟨rfl, gJ, gO⟩ := q
    have g0 : cTop hp' kf := (gO 0 (by decide)).trans (y0 _)
    have gT : cTold hp' S := hS0.of (fun q r1 r2 => by rw [gO q (by omega), va_up_ne _ _ (by omega)])
    have gP := (gO 66 (by decide)).trans (va_up_self hp 66 _)
    have e9 : stB 0 (fill5 (corP P ρ i) L) = stA (corP S.1 ρ i) := stB_eq (b := 0) (fun t ht => (fill5_at ht).trans (corP_eq v1 ht))
    show mW K _ 0 0 n hp' 79 [.ref 0, .int ρ, .int t, .int (nI i), .int 5] [.int (stB 0 (fill5 (corP P ρ i) L))]
    rw [e9]
    refine m_if_eq (t := 85) dX7_corners_79 (by decide) (fun c79 => ?_) (fun c79 => ?_)
    · rw [if_pos c79] at hv
      refine m_iinc (v := nI (i + 1)) dX7_corners_85 rfl (nI_1 i) (by decide) ?_
      show mW _ _ _ _ _ _ 88 [_, _, _, _, _] _
      refine m_goto (t := 16) dX7_corners_88 (by decide) ?_
      exact ih r (by omega) (i + 1) hp' _ _ (by omega) g0 gT gJ ⟨_, gP⟩ hv (fun q hq => by rw [gO q (by omega), va_up_ne _ _ (by omega)]; exact ho q hq)
    rw [if_neg c79] at hv
    refine m_iinc (v := t + 1) dX7_corners_82 rfl rfl (by decide) ?_
    show mW _ _ _ _ _ _ 85 [_, _, _, _, _] _
    refine m_iinc (v := nI (i + 1)) dX7_corners_85 rfl (nI_1 i) (by decide) ?_
    show mW _ _ _ _ _ _ 88 [_, _, _, _, _] _
    refine m_goto (t := 16) dX7_corners_88 (by decide) ?_
    exact ih r (by omega) (i + 1) hp' _ _ (by omega) g0 gT gJ ⟨_, gP⟩ hv (fun q hq => by rw [gO q (by omega), va_up_ne _ _ (by omega)]; exact ho q hq)

set_option maxHeartbeats 400000 in
set_option maxRecDepth 100000 in
theorem t_X7_corners {n : Nat} {hp : mHp} {S : TS} {kf : Int32} (h0 : cTop hp kf) (hS : cTold hp S) (hJ : cJudge hp) (hP : cPol hp) {ρ : Int32} : mC D_X7_corners [.ref 0, .int ρ] n hp (qJ hp (sCorners S ρ)) := by
  refine m_enter rfl rfl (Nat.le_of_ble_eq_true rfl) (fun K hF => ?_)
  show mW K _ 0 0 _ _ 0 [.ref 0, .int ρ, .retAddr 0, .retAddr 0, .retAddr 0] []
  refine m_iload_n dX7_corners_0 rfl ?_
  refine m_if_lt (t := 10) dX7_corners_1 (by decide) (fun c1 => ?_) (fun c1 => ?_)
  · refine m_iconst (v := -1) dX7_corners_10 (by decide) ?_
    exact m_ireturn hF dX7_corners_11 rfl rfl rfl ⟨by unfold sCorners; rw [if_pos c1], hJ, hP, offJ.rf⟩
  refine m_iload_n dX7_corners_4 rfl ?_
  refine m_bipush (v := 9) dX7_corners_5 (by decide) ?_
  refine m_icmp_le (t := 12) dX7_corners_7 (by decide) (fun c7 => ?_) (fun c7 => ?_)
  rotate_left
  · refine m_iconst (v := -1) dX7_corners_10 (by decide) ?_
    exact m_ireturn hF dX7_corners_11 rfl rfl rfl ⟨by unfold sCorners; rw [if_neg c1, if_neg c7], hJ, hP, offJ.rf⟩
  refine m_iconst (v := 0) dX7_corners_12 (by decide) ?_
  refine m_istore_n dX7_corners_13 (by decide) ?_
  show mW _ _ _ _ _ _ 14 [_, _, _, _, _] _
  refine m_iconst (v := 0) dX7_corners_14 (by decide) ?_
  refine m_istore_n dX7_corners_15 (by decide) ?_
  show mW _ _ _ _ _ _ 16 [_, _, _, _, _] _
  exact l_X7_corners (V := sCorners S ρ) hF 4 0 hp 0 _ rfl h0 hS hJ hP (fun _ => by unfold sCorners; rw [if_neg c1, if_pos c7]) offJ.rf

theorem nb_lt {i : Nat} (k : Nat) (h : i < 243) : i / 3 ^ k < 2 ^ 31 := Nat.lt_of_le_of_lt (Nat.div_le_self _ _) (by omega)
theorem nb_rem {i : Nat} (k : Nat) (h : i < 243) : nI (i / 3 ^ k) - nI (i / 3 ^ k) / 3 * 3 = nI (i / 3 ^ k % 3) := nI_rem (b := 3) (nb_lt k h) (by decide)
theorem nb_div {i k kk : Nat} (e : kk = k + 1) (h : i < 243) : nI (i / 3 ^ k) / 3 = nI (i / 3 ^ kk) := by
  rw [e, Nat.pow_succ, ← Nat.div_div_eq_div_mul]
  exact nI_div (b := 3) (nb_lt k h) (by decide)
set_option maxHeartbeats 400000 in
set_option maxRecDepth 100000 in
theorem l_X7_neighbours {n : Nat} {hp0 : mHp} {kf : Int32} {S : TS} {b V : Int32} (hb : inC b 2) {K : mK} (hF : mFin K D_X7_neighbours n (qJ hp0 V)) : ∀ (r i : Nat) (hp : mHp) (t : Int32) (vx vy : Value), i + r = 243 → cTop hp kf → cTold hp S → cJudge hp → cPol hp → (∀ _ : Unit, cntS (fun i => stB b (nbP S.1 i)) r i t = V) → offJ hp0 hp → mW K D_X7_neighbours 0 0 n hp 14 [.ref 0, .int b, .int t, .int (nI i), vx, vy] [] := by
  intro r
  induction r using Nat.strongRecOn with
  | ind r ih =>
    intro i hp t vx vy hir h0 hS hJ hP hv ho
    have hS0 := hS
    have a0 : hp 0 = eO 7 (oTop kf) := h0
    obtain ⟨⟨P, g, d, p1, p2, p3⟩, hH⟩ := hS
    obtain ⟨v1, v2, v3⟩ := vec_set p3
    have hS1 : cSet hp 1 S.1 := ⟨P, g, d, p1, p2, p3⟩
    obtain ⟨w0, G0, D0, PP0, k1, k2, k3, -⟩ := id hH
    obtain ⟨L, hL⟩ := hP
    have y0 : ∀ f : mE, va_up hp 66 f 0 = eO 7 (oTop kf) := fun f => (va_up_ne _ _ (by decide)).trans a0
    have y1 : ∀ f : mE, va_up hp 66 f 1 = eO 3 (oSet 2 g d) := fun f => (va_up_ne _ _ (by decide)).trans p1
    have y2 : ∀ f : mE, va_up hp 66 f 2 = eI 10 P := fun f => (va_up_ne _ _ (by decide)).trans p2
    obtain ⟨-, -, -, rij, evj, lej, -, -, j2, -, -⟩ := id hJ
    have y4 : ∀ f : mE, va_up hp 66 f 44 = eO 1 (oJudge rij evj lej) := fun f => (va_up_ne _ _ (by decide)).trans j2
    refine m_iload_n dX7_neighbours_14 rfl ?_
    refine m_sipush (v := 243) dX7_neighbours_15 (by decide) ?_
    refine m_icmp_ge (t := 94) dX7_neighbours_18 (by decide) (fun cc => ?_) (fun cc => ?_)
    · have hr : r = 0 := by have := nI_cmp' (b := 243) (by decide) (by omega) cc; omega
      subst hr
      refine m_iload_n dX7_neighbours_94 rfl ?_
      exact m_ireturn hF dX7_neighbours_95 rfl rfl rfl ⟨by rw [← hv ()]; rfl, hJ, ⟨L, hL⟩, ho⟩
    have hi4 : i < 243 := nI_cmp (by decide) (by omega) cc
    obtain ⟨r, rfl⟩ : ∃ r', r = r' + 1 := ⟨r - 1, by omega⟩
    rw [cntS] at hv
    refine m_iload_n dX7_neighbours_21 rfl ?_
    refine m_ci (v := nI (i / 3 ^ 0)) (by rw [Nat.pow_zero, Nat.div_one]) ?_
    refine m_istore dX7_neighbours_22 (by decide) ?_
    show mW _ _ _ _ _ _ 24 [_, _, _, _, _, _] _
    refine m_iconst (v := 0) dX7_neighbours_24 (by decide) ?_
    refine m_istore dX7_neighbours_25 (by decide) ?_
    show mW _ _ _ _ _ _ 27 [_, _, _, _, _, _] _
    refine m_iload dX7_neighbours_27 rfl ?_
    refine m_iconst (v := 5) dX7_neighbours_29 (by decide) ?_
    refine m_icmp_ge (t := 70) dX7_neighbours_30 (by decide) (fun q => absurd q (by decide)) (fun _ => ?_)
    skip
    refine m_aload_n dX7_neighbours_33 rfl ?_
    refine m_getfield dX7_neighbours_34 fl_X7_69 (by first | assumption | rfl | exact y0 _ | exact y1 _ | exact y2 _ | exact y4 _ | exact va_up_self _ _ _) (by first | assumption | rfl | exact y0 _ | exact y1 _ | exact y2 _ | exact y4 _ | exact va_up_self _ _ _) ?_
    show mW _ _ _ _ _ _ _ _ (.ref _ :: _)
    refine m_iload dX7_neighbours_37 rfl ?_
    refine m_aload_n dX7_neighbours_39 rfl ?_
    refine m_getfield dX7_neighbours_40 fl_X7_12 (by first | assumption | rfl | exact y0 _ | exact y1 _ | exact y2 _ | exact y4 _ | exact va_up_self _ _ _) (by first | assumption | rfl | exact y0 _ | exact y1 _ | exact y2 _ | exact y4 _ | exact va_up_self _ _ _) ?_
    show mW _ _ _ _ _ _ _ _ (.ref _ :: _)
    refine m_getfield dX7_neighbours_43 fl_X7_81 (by first | assumption | rfl | exact y0 _ | exact y1 _ | exact y2 _ | exact y4 _ | exact va_up_self _ _ _) (by first | assumption | rfl | exact y0 _ | exact y1 _ | exact y2 _ | exact y4 _ | exact va_up_self _ _ _) ?_
    show mW _ _ _ _ _ _ _ _ (.ref _ :: _)
    refine m_iload dX7_neighbours_46 rfl ?_
    refine m_iaload (k := 0) dX7_neighbours_48 (by first | assumption | rfl | exact y0 _ | exact y1 _ | exact y2 _ | exact y4 _ | exact va_up_self _ _ _) ⟨by decide, by decide⟩ ?_
    refine m_iload dX7_neighbours_49 rfl ?_
    refine m_iconst (v := 3) dX7_neighbours_51 (by decide) ?_
    refine m_irem dX7_neighbours_52 (by decide) ?_
    refine m_ci (v := nI (i / 3 ^ 0 % 3)) (nb_rem 0 hi4) ?_
    refine m_iadd dX7_neighbours_53 ?_
    refine m_iconst (v := 1) dX7_neighbours_54 (by decide) ?_
    refine m_isub dX7_neighbours_55 ?_
    refine m_i2l dX7_neighbours_56 ?_
    refine m_lastore (k := 0) dX7_neighbours_57 (by first | assumption | rfl | exact y0 _ | exact y1 _ | exact y2 _ | exact y4 _ | exact va_up_self _ _ _) ⟨by decide, by decide⟩ ?_
    try rw [va_uu]
    refine m_iload dX7_neighbours_58 rfl ?_
    refine m_iconst (v := 3) dX7_neighbours_60 (by decide) ?_
    refine m_idiv dX7_neighbours_61 (by decide) ?_
    refine m_ci (v := nI (i / 3 ^ 1)) (nb_div (k := 0) (kk := 1) rfl hi4) ?_
    refine m_istore dX7_neighbours_62 (by decide) ?_
    show mW _ _ _ _ _ _ 64 [_, _, _, _, _, _] _
    refine m_iinc (v := 1) dX7_neighbours_64 rfl (by decide) (by decide) ?_
    show mW _ _ _ _ _ _ 67 [_, _, _, _, _, _] _
    refine m_goto (t := 27) dX7_neighbours_67 (by decide) ?_
    refine m_iload dX7_neighbours_27 rfl ?_
    refine m_iconst (v := 5) dX7_neighbours_29 (by decide) ?_
    refine m_icmp_ge (t := 70) dX7_neighbours_30 (by decide) (fun q => absurd q (by decide)) (fun _ => ?_)
    skip
    refine m_aload_n dX7_neighbours_33 rfl ?_
    refine m_getfield dX7_neighbours_34 fl_X7_69 (by first | assumption | rfl | exact y0 _ | exact y1 _ | exact y2 _ | exact y4 _ | exact va_up_self _ _ _) (by first | assumption | rfl | exact y0 _ | exact y1 _ | exact y2 _ | exact y4 _ | exact va_up_self _ _ _) ?_
    show mW _ _ _ _ _ _ _ _ (.ref _ :: _)
    refine m_iload dX7_neighbours_37 rfl ?_
    refine m_aload_n dX7_neighbours_39 rfl ?_
    refine m_getfield dX7_neighbours_40 fl_X7_12 (by first | assumption | rfl | exact y0 _ | exact y1 _ | exact y2 _ | exact y4 _ | exact va_up_self _ _ _) (by first | assumption | rfl | exact y0 _ | exact y1 _ | exact y2 _ | exact y4 _ | exact va_up_self _ _ _) ?_
    show mW _ _ _ _ _ _ _ _ (.ref _ :: _)
    refine m_getfield dX7_neighbours_43 fl_X7_81 (by first | assumption | rfl | exact y0 _ | exact y1 _ | exact y2 _ | exact y4 _ | exact va_up_self _ _ _) (by first | assumption | rfl | exact y0 _ | exact y1 _ | exact y2 _ | exact y4 _ | exact va_up_self _ _ _) ?_
    show mW _ _ _ _ _ _ _ _ (.ref _ :: _)
    refine m_iload dX7_neighbours_46 rfl ?_
    refine m_iaload (k := 1) dX7_neighbours_48 (by first | assumption | rfl | exact y0 _ | exact y1 _ | exact y2 _ | exact y4 _ | exact va_up_self _ _ _) ⟨by decide, by decide⟩ ?_
    refine m_iload dX7_neighbours_49 rfl ?_
    refine m_iconst (v := 3) dX7_neighbours_51 (by decide) ?_
    refine m_irem dX7_neighbours_52 (by decide) ?_
    refine m_ci (v := nI (i / 3 ^ 1 % 3)) (nb_rem 1 hi4) ?_
    refine m_iadd dX7_neighbours_53 ?_
    refine m_iconst (v := 1) dX7_neighbours_54 (by decide) ?_
    refine m_isub dX7_neighbours_55 ?_
    refine m_i2l dX7_neighbours_56 ?_
    refine m_lastore (k := 1) dX7_neighbours_57 (by first | assumption | rfl | exact y0 _ | exact y1 _ | exact y2 _ | exact y4 _ | exact va_up_self _ _ _) ⟨by decide, by decide⟩ ?_
    try rw [va_uu]
    refine m_iload dX7_neighbours_58 rfl ?_
    refine m_iconst (v := 3) dX7_neighbours_60 (by decide) ?_
    refine m_idiv dX7_neighbours_61 (by decide) ?_
    refine m_ci (v := nI (i / 3 ^ 2)) (nb_div (k := 1) (kk := 2) rfl hi4) ?_
    refine m_istore dX7_neighbours_62 (by decide) ?_
    show mW _ _ _ _ _ _ 64 [_, _, _, _, _, _] _
    refine m_iinc (v := 2) dX7_neighbours_64 rfl (by decide) (by decide) ?_
    show mW _ _ _ _ _ _ 67 [_, _, _, _, _, _] _
    refine m_goto (t := 27) dX7_neighbours_67 (by decide) ?_
    refine m_iload dX7_neighbours_27 rfl ?_
    refine m_iconst (v := 5) dX7_neighbours_29 (by decide) ?_
    refine m_icmp_ge (t := 70) dX7_neighbours_30 (by decide) (fun q => absurd q (by decide)) (fun _ => ?_)
    skip
    refine m_aload_n dX7_neighbours_33 rfl ?_
    refine m_getfield dX7_neighbours_34 fl_X7_69 (by first | assumption | rfl | exact y0 _ | exact y1 _ | exact y2 _ | exact y4 _ | exact va_up_self _ _ _) (by first | assumption | rfl | exact y0 _ | exact y1 _ | exact y2 _ | exact y4 _ | exact va_up_self _ _ _) ?_
    show mW _ _ _ _ _ _ _ _ (.ref _ :: _)
    refine m_iload dX7_neighbours_37 rfl ?_
    refine m_aload_n dX7_neighbours_39 rfl ?_
    refine m_getfield dX7_neighbours_40 fl_X7_12 (by first | assumption | rfl | exact y0 _ | exact y1 _ | exact y2 _ | exact y4 _ | exact va_up_self _ _ _) (by first | assumption | rfl | exact y0 _ | exact y1 _ | exact y2 _ | exact y4 _ | exact va_up_self _ _ _) ?_
    show mW _ _ _ _ _ _ _ _ (.ref _ :: _)
    refine m_getfield dX7_neighbours_43 fl_X7_81 (by first | assumption | rfl | exact y0 _ | exact y1 _ | exact y2 _ | exact y4 _ | exact va_up_self _ _ _) (by first | assumption | rfl | exact y0 _ | exact y1 _ | exact y2 _ | exact y4 _ | exact va_up_self _ _ _) ?_
    show mW _ _ _ _ _ _ _ _ (.ref _ :: _)
    refine m_iload dX7_neighbours_46 rfl ?_
    refine m_iaload (k := 2) dX7_neighbours_48 (by first | assumption | rfl | exact y0 _ | exact y1 _ | exact y2 _ | exact y4 _ | exact va_up_self _ _ _) ⟨by decide, by decide⟩ ?_
    refine m_iload dX7_neighbours_49 rfl ?_
    refine m_iconst (v := 3) dX7_neighbours_51 (by decide) ?_
    refine m_irem dX7_neighbours_52 (by decide) ?_
    refine m_ci (v := nI (i / 3 ^ 2 % 3)) (nb_rem 2 hi4) ?_
    refine m_iadd dX7_neighbours_53 ?_
    refine m_iconst (v := 1) dX7_neighbours_54 (by decide) ?_
    refine m_isub dX7_neighbours_55 ?_
    refine m_i2l dX7_neighbours_56 ?_
    refine m_lastore (k := 2) dX7_neighbours_57 (by first | assumption | rfl | exact y0 _ | exact y1 _ | exact y2 _ | exact y4 _ | exact va_up_self _ _ _) ⟨by decide, by decide⟩ ?_
    try rw [va_uu]
    refine m_iload dX7_neighbours_58 rfl ?_
    refine m_iconst (v := 3) dX7_neighbours_60 (by decide) ?_
    refine m_idiv dX7_neighbours_61 (by decide) ?_
    refine m_ci (v := nI (i / 3 ^ 3)) (nb_div (k := 2) (kk := 3) rfl hi4) ?_
    refine m_istore dX7_neighbours_62 (by decide) ?_
    show mW _ _ _ _ _ _ 64 [_, _, _, _, _, _] _
    refine m_iinc (v := 3) dX7_neighbours_64 rfl (by decide) (by decide) ?_
    show mW _ _ _ _ _ _ 67 [_, _, _, _, _, _] _
    refine m_goto (t := 27) dX7_neighbours_67 (by decide) ?_
    refine m_iload dX7_neighbours_27 rfl ?_
    refine m_iconst (v := 5) dX7_neighbours_29 (by decide) ?_
    refine m_icmp_ge (t := 70) dX7_neighbours_30 (by decide) (fun q => absurd q (by decide)) (fun _ => ?_)
    skip
    refine m_aload_n dX7_neighbours_33 rfl ?_
    refine m_getfield dX7_neighbours_34 fl_X7_69 (by first | assumption | rfl | exact y0 _ | exact y1 _ | exact y2 _ | exact y4 _ | exact va_up_self _ _ _) (by first | assumption | rfl | exact y0 _ | exact y1 _ | exact y2 _ | exact y4 _ | exact va_up_self _ _ _) ?_
    show mW _ _ _ _ _ _ _ _ (.ref _ :: _)
    refine m_iload dX7_neighbours_37 rfl ?_
    refine m_aload_n dX7_neighbours_39 rfl ?_
    refine m_getfield dX7_neighbours_40 fl_X7_12 (by first | assumption | rfl | exact y0 _ | exact y1 _ | exact y2 _ | exact y4 _ | exact va_up_self _ _ _) (by first | assumption | rfl | exact y0 _ | exact y1 _ | exact y2 _ | exact y4 _ | exact va_up_self _ _ _) ?_
    show mW _ _ _ _ _ _ _ _ (.ref _ :: _)
    refine m_getfield dX7_neighbours_43 fl_X7_81 (by first | assumption | rfl | exact y0 _ | exact y1 _ | exact y2 _ | exact y4 _ | exact va_up_self _ _ _) (by first | assumption | rfl | exact y0 _ | exact y1 _ | exact y2 _ | exact y4 _ | exact va_up_self _ _ _) ?_
    show mW _ _ _ _ _ _ _ _ (.ref _ :: _)
    refine m_iload dX7_neighbours_46 rfl ?_
    refine m_iaload (k := 3) dX7_neighbours_48 (by first | assumption | rfl | exact y0 _ | exact y1 _ | exact y2 _ | exact y4 _ | exact va_up_self _ _ _) ⟨by decide, by decide⟩ ?_
    refine m_iload dX7_neighbours_49 rfl ?_
    refine m_iconst (v := 3) dX7_neighbours_51 (by decide) ?_
    refine m_irem dX7_neighbours_52 (by decide) ?_
    refine m_ci (v := nI (i / 3 ^ 3 % 3)) (nb_rem 3 hi4) ?_
    refine m_iadd dX7_neighbours_53 ?_
    refine m_iconst (v := 1) dX7_neighbours_54 (by decide) ?_
    refine m_isub dX7_neighbours_55 ?_
    refine m_i2l dX7_neighbours_56 ?_
    refine m_lastore (k := 3) dX7_neighbours_57 (by first | assumption | rfl | exact y0 _ | exact y1 _ | exact y2 _ | exact y4 _ | exact va_up_self _ _ _) ⟨by decide, by decide⟩ ?_
    try rw [va_uu]
    refine m_iload dX7_neighbours_58 rfl ?_
    refine m_iconst (v := 3) dX7_neighbours_60 (by decide) ?_
    refine m_idiv dX7_neighbours_61 (by decide) ?_
    refine m_ci (v := nI (i / 3 ^ 4)) (nb_div (k := 3) (kk := 4) rfl hi4) ?_
    refine m_istore dX7_neighbours_62 (by decide) ?_
    show mW _ _ _ _ _ _ 64 [_, _, _, _, _, _] _
    refine m_iinc (v := 4) dX7_neighbours_64 rfl (by decide) (by decide) ?_
    show mW _ _ _ _ _ _ 67 [_, _, _, _, _, _] _
    refine m_goto (t := 27) dX7_neighbours_67 (by decide) ?_
    refine m_iload dX7_neighbours_27 rfl ?_
    refine m_iconst (v := 5) dX7_neighbours_29 (by decide) ?_
    refine m_icmp_ge (t := 70) dX7_neighbours_30 (by decide) (fun q => absurd q (by decide)) (fun _ => ?_)
    skip
    refine m_aload_n dX7_neighbours_33 rfl ?_
    refine m_getfield dX7_neighbours_34 fl_X7_69 (by first | assumption | rfl | exact y0 _ | exact y1 _ | exact y2 _ | exact y4 _ | exact va_up_self _ _ _) (by first | assumption | rfl | exact y0 _ | exact y1 _ | exact y2 _ | exact y4 _ | exact va_up_self _ _ _) ?_
    show mW _ _ _ _ _ _ _ _ (.ref _ :: _)
    refine m_iload dX7_neighbours_37 rfl ?_
    refine m_aload_n dX7_neighbours_39 rfl ?_
    refine m_getfield dX7_neighbours_40 fl_X7_12 (by first | assumption | rfl | exact y0 _ | exact y1 _ | exact y2 _ | exact y4 _ | exact va_up_self _ _ _) (by first | assumption | rfl | exact y0 _ | exact y1 _ | exact y2 _ | exact y4 _ | exact va_up_self _ _ _) ?_
    show mW _ _ _ _ _ _ _ _ (.ref _ :: _)
    refine m_getfield dX7_neighbours_43 fl_X7_81 (by first | assumption | rfl | exact y0 _ | exact y1 _ | exact y2 _ | exact y4 _ | exact va_up_self _ _ _) (by first | assumption | rfl | exact y0 _ | exact y1 _ | exact y2 _ | exact y4 _ | exact va_up_self _ _ _) ?_
    show mW _ _ _ _ _ _ _ _ (.ref _ :: _)
    refine m_iload dX7_neighbours_46 rfl ?_
    refine m_iaload (k := 4) dX7_neighbours_48 (by first | assumption | rfl | exact y0 _ | exact y1 _ | exact y2 _ | exact y4 _ | exact va_up_self _ _ _) ⟨by decide, by decide⟩ ?_
    refine m_iload dX7_neighbours_49 rfl ?_
    refine m_iconst (v := 3) dX7_neighbours_51 (by decide) ?_
    refine m_irem dX7_neighbours_52 (by decide) ?_
    refine m_ci (v := nI (i / 3 ^ 4 % 3)) (nb_rem 4 hi4) ?_
    refine m_iadd dX7_neighbours_53 ?_
    refine m_iconst (v := 1) dX7_neighbours_54 (by decide) ?_
    refine m_isub dX7_neighbours_55 ?_
    refine m_i2l dX7_neighbours_56 ?_
    refine m_lastore (k := 4) dX7_neighbours_57 (by first | assumption | rfl | exact y0 _ | exact y1 _ | exact y2 _ | exact y4 _ | exact va_up_self _ _ _) ⟨by decide, by decide⟩ ?_
    try rw [va_uu]
    refine m_iload dX7_neighbours_58 rfl ?_
    refine m_iconst (v := 3) dX7_neighbours_60 (by decide) ?_
    refine m_idiv dX7_neighbours_61 (by decide) ?_
    refine m_ci (v := nI (i / 3 ^ 5)) (nb_div (k := 4) (kk := 5) rfl hi4) ?_
    refine m_istore dX7_neighbours_62 (by decide) ?_
    show mW _ _ _ _ _ _ 64 [_, _, _, _, _, _] _
    refine m_iinc (v := 5) dX7_neighbours_64 rfl (by decide) (by decide) ?_
    show mW _ _ _ _ _ _ 67 [_, _, _, _, _, _] _
    refine m_goto (t := 27) dX7_neighbours_67 (by decide) ?_
    refine m_iload dX7_neighbours_27 rfl ?_
    refine m_iconst (v := 5) dX7_neighbours_29 (by decide) ?_
    refine m_icmp_ge (t := 70) dX7_neighbours_30 (by decide) (fun _ => ?_) (fun q => absurd (by decide) q)
    refine m_aload_n dX7_neighbours_70 rfl ?_
    refine m_getfield dX7_neighbours_71 fl_X7_53 (by first | assumption | rfl | exact y0 _ | exact y1 _ | exact y2 _ | exact y4 _ | exact va_up_self _ _ _) (by first | assumption | rfl | exact y0 _ | exact y1 _ | exact y2 _ | exact y4 _ | exact va_up_self _ _ _) ?_
    show mW _ _ _ _ _ _ _ _ (.ref _ :: _)
    refine m_iload_n dX7_neighbours_74 rfl ?_
    refine m_aload_n dX7_neighbours_75 rfl ?_
    refine m_getfield dX7_neighbours_76 fl_X7_69 (by first | assumption | rfl | exact y0 _ | exact y1 _ | exact y2 _ | exact y4 _ | exact va_up_self _ _ _) (by first | assumption | rfl | exact y0 _ | exact y1 _ | exact y2 _ | exact y4 _ | exact va_up_self _ _ _) ?_
    show mW _ _ _ _ _ _ _ _ (.ref _ :: _)
    refine m_invV dX7_neighbours_79 lk_X7_166 ar_X1_isSteady (ci := 1) rfl rfl (by first | assumption | rfl | exact y0 _ | exact y1 _ | exact y2 _ | exact y4 _ | exact va_up_self _ _ _) (t_steady (b := b) hb (hJ.of (fun q r1 r2 => va_up_ne _ _ (by omega))) (va_up_self _ _ _)) rfl (Nat.le_of_ble_eq_true rfl) (by decide) (by decide) (by decide) (by decide) (fun v hp' q => ?_)
    obtain ⟨rfl, gJ, gO⟩ := q
    have g0 : cTop hp' kf := (gO 0 (by decide)).trans (y0 _)
    have gT : cTold hp' S := hS0.of (fun q r1 r2 => by rw [gO q (by omega), va_up_ne _ _ (by omega)])
    have gP := (gO 66 (by decide)).trans (va_up_self hp 66 _)
    have e9 : stB b (fill5 (nbP P i) L) = stB b (nbP S.1 i) := stB_eq (b := b) (fun t ht => (fill5_at ht).trans (nbP_eq v1 ht))
    show mW K _ 0 0 n hp' 82 [.ref 0, .int b, .int t, .int (nI i), .int (nI (i / 3 ^ 5)), .int 5] [.int (stB b (fill5 (nbP P i) L))]
    rw [e9]
    refine m_if_eq (t := 88) dX7_neighbours_82 (by decide) (fun c82 => ?_) (fun c82 => ?_)
    · rw [if_pos c82] at hv
      refine m_iinc (v := nI (i + 1)) dX7_neighbours_88 rfl (nI_1 i) (by decide) ?_
      show mW _ _ _ _ _ _ 91 [_, _, _, _, _, _] _
      refine m_goto (t := 14) dX7_neighbours_91 (by decide) ?_
      exact ih r (by omega) (i + 1) hp' _ _ _ (by omega) g0 gT gJ ⟨_, gP⟩ hv (fun q hq => by rw [gO q (by omega), va_up_ne _ _ (by omega)]; exact ho q hq)
    rw [if_neg c82] at hv
    refine m_iinc (v := t + 1) dX7_neighbours_85 rfl rfl (by decide) ?_
    show mW _ _ _ _ _ _ 88 [_, _, _, _, _, _] _
    refine m_iinc (v := nI (i + 1)) dX7_neighbours_88 rfl (nI_1 i) (by decide) ?_
    show mW _ _ _ _ _ _ 91 [_, _, _, _, _, _] _
    refine m_goto (t := 14) dX7_neighbours_91 (by decide) ?_
    exact ih r (by omega) (i + 1) hp' _ _ _ (by omega) g0 gT gJ ⟨_, gP⟩ hv (fun q hq => by rw [gO q (by omega), va_up_ne _ _ (by omega)]; exact ho q hq)

set_option maxHeartbeats 400000 in
set_option maxRecDepth 100000 in
theorem t_X7_neighbours {n : Nat} {hp : mHp} {S : TS} {kf : Int32} (h0 : cTop hp kf) (hS : cTold hp S) (hJ : cJudge hp) (hP : cPol hp) {b : Int32} : mC D_X7_neighbours [.ref 0, .int b] n hp (qJ hp (sNeigh S b)) := by
  refine m_enter rfl rfl (Nat.le_of_ble_eq_true rfl) (fun K hF => ?_)
  show mW K _ 0 0 _ _ 0 [.ref 0, .int b, .retAddr 0, .retAddr 0, .retAddr 0, .retAddr 0] []
  refine m_iload_n dX7_neighbours_0 rfl ?_
  refine m_iconst (v := 2) dX7_neighbours_1 (by decide) ?_
  refine m_invS_I dX7_neighbours_2 lk_X7_73 ar_X7_isChoice (t_X7_isChoice) rfl (Nat.le_of_ble_eq_true rfl) (by decide) (by decide) (by decide) (by decide) rfl rfl ?_
  try rw [va_uu]
  refine m_if_ne (t := 10) dX7_neighbours_5 (by decide) (fun c5 => ?_) (fun c5 => ?_)
  rotate_left
  · refine m_iconst (v := -1) dX7_neighbours_8 (by decide) ?_
    exact m_ireturn hF dX7_neighbours_9 rfl rfl rfl ⟨by unfold sNeigh; rw [if_neg (ch_no (by decide) c5)], hJ, hP, offJ.rf⟩
  have hb : inC b 2 := ch_ok (by decide) c5
  refine m_iconst (v := 0) dX7_neighbours_10 (by decide) ?_
  refine m_istore_n dX7_neighbours_11 (by decide) ?_
  show mW _ _ _ _ _ _ 12 [_, _, _, _, _, _] _
  refine m_iconst (v := 0) dX7_neighbours_12 (by decide) ?_
  refine m_istore_n dX7_neighbours_13 (by decide) ?_
  show mW _ _ _ _ _ _ 14 [_, _, _, _, _, _] _
  exact l_X7_neighbours (V := sNeigh S b) hb hF 243 0 hp 0 _ _ rfl h0 hS hJ hP (fun _ => by unfold sNeigh; rw [if_pos hb]) offJ.rf

