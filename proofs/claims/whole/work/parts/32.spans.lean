/-! ===== LoopJudge: spans ===== -/
theorem m_cArg {K : mK} {M : MD} {cs sl n : Nat} {hp : mHp} {pc : Nat} {lv st : List Value} {x u v : Int32} (e : u = v) (kk : mW K M cs sl n hp pc lv (.int x :: .int v :: st)) : mW K M cs sl n hp pc lv (.int x :: .int u :: st) := by
  rw [e]
  exact kk
theorem eqP_ok {A B : Nat → Int32} : ∀ (r k : Nat), eqP A B r k ≠ 0 → ∀ t, k ≤ t → t < k + r → A t = B t
  | 0, k, _, t, h1, h2 => absurd h2 (by omega)
  | r + 1, k, h, t, h1, h2 => by
    rw [eqP] at h
    by_cases e : A k = B k
    · rw [if_pos e] at h
      by_cases e2 : t = k
      · rw [e2]
        exact e
      · exact eqP_ok r (k + 1) h t (by omega) (by omega)
    · rw [if_neg e] at h
      exact absurd rfl h
theorem colG_le {F : Int → Int32} : ∀ (r : Nat) (w : Int) (S : SpS) (sg : Int32), S.2.2 ≤ 32 → (colG F r w S sg).1.2.2 ≤ 32
  | 0, _, _, _, h => h
  | r + 1, w, S, sg, h => by
    rw [colG]
    by_cases e : F w = 0
    · rw [if_pos e]
      exact colG_le r _ _ _ h
    · rw [if_neg e]
      exact colG_le r _ _ _ (addG_le _ h)
/-- the same spans so far -/
def spE (S T : SpS) : Prop := S.2.2 = T.2.2 ∧ ∀ t, t < S.2.2 → S.1 t = T.1 t ∧ S.2.1 t = T.2.1 t
theorem spE_push {S T : SpS} {v : Int32} (h : spE S T) : spE (va_up S.1 S.2.2 v, va_up S.2.1 S.2.2 v, S.2.2 + 1) (va_up T.1 T.2.2 v, va_up T.2.1 T.2.2 v, T.2.2 + 1) := by
  refine ⟨congrArg (· + 1) h.1, fun t ht => ?_⟩
  have ht : t < S.2.2 + 1 := ht
  show va_up S.1 S.2.2 v t = va_up T.1 T.2.2 v t ∧ va_up S.2.1 S.2.2 v t = va_up T.2.1 T.2.2 v t
  rw [← h.1]
  by_cases e : t = S.2.2
  · rw [e, va_up_self, va_up_self, va_up_self, va_up_self]
    exact ⟨rfl, rfl⟩
  · rw [va_up_ne _ _ e, va_up_ne _ _ e, va_up_ne _ _ e, va_up_ne _ _ e]
    exact h.2 t (by omega)
theorem spE_add {S T : SpS} {v : Int32} (h : spE S T) (hs : S.2.2 ≤ 32) : spE (addG S v) (addG T v) := by
  unfold addG
  rw [← h.1]
  by_cases e1 : nI S.2.2 ≤ 0
  · rw [if_pos e1, if_pos e1]
    by_cases e2 : 32 ≤ nI S.2.2
    · rw [if_pos e2, if_pos e2]
      exact h
    · rw [if_neg e2, if_neg e2]
      have := spE_push (v := v) h
      rw [← h.1] at this
      exact this
  · rw [if_neg e1, if_neg e1]
    have h0 : 0 < S.2.2 := by
      refine Nat.pos_of_ne_zero (fun z => e1 ?_)
      rw [z]
      decide
    rw [← (h.2 (S.2.2 - 1) (by omega)).2]
    by_cases e3 : S.2.1 (S.2.2 - 1) = v - 1
    · rw [if_pos e3, if_pos e3]
      refine ⟨rfl, fun t ht => ⟨(h.2 t ht).1, ?_⟩⟩
      show va_up S.2.1 (S.2.2 - 1) v t = va_up T.2.1 (S.2.2 - 1) v t
      by_cases e : t = S.2.2 - 1
      · rw [e, va_up_self, va_up_self]
      · rw [va_up_ne _ _ e, va_up_ne _ _ e]
        exact (h.2 t ht).2
    · rw [if_neg e3, if_neg e3]
      by_cases e2 : 32 ≤ nI S.2.2
      · rw [if_pos e2, if_pos e2]
        exact h
      · rw [if_neg e2, if_neg e2]
        have := spE_push (v := v) h
        rw [← h.1] at this
        exact this
theorem spE_col {F : Int → Int32} : ∀ (r : Nat) (w : Int) (S T : SpS) (sg : Int32), spE S T → S.2.2 ≤ 32 → spE (colG F r w S sg).1 (colG F r w T sg).1 ∧ (colG F r w S sg).2 = (colG F r w T sg).2
  | 0, _, _, _, _, h, _ => ⟨h, rfl⟩
  | r + 1, w, S, T, sg, h, hs => by
    rw [colG, colG]
    by_cases e : F w = 0
    · rw [if_pos e, if_pos e]
      exact spE_col r _ _ _ _ h hs
    · rw [if_neg e, if_neg e]
      exact spE_col r _ _ _ _ (spE_add h hs) (addG_le _ hs)
/-- the spans by which b, of the parts c -/
def spF (b : Int32) (c : Nat → Int32) (w : Int) : Int32 := stB b (loopI c (iZ w))
def spn (b : Int32) (c : Nat → Int32) : SpS × Int32 := colG (spF b c) 1601 (-800) (fun _ => 0, fun _ => 0, 0) 0
theorem spn_le (b : Int32) (c : Nat → Int32) : (spn b c).1.2.2 ≤ 32 := colG_le _ _ _ _ (by decide)
theorem spn_eq {b : Int32} {A c : Nat → Int32} (h : ∀ t, t < 10 → A t = c t) : spn b A = spn b c := by
  have e : spF b A = spF b c := by
    funext w
    exact stB_eq (fun t ht => loopI_eq h ht)
  unfold spn
  rw [e]
def bkOk (b : Int32) (A : Nat → Int32) (s : Nat) (sg : Int32) (LE GR BW : Nat → Int32) : Prop := spE (LE, GR, s) (spn b A).1 ∧ sg = (spn b A).2 ∧ ordOk (wdI LE GR) BW s
theorem bkOk_eq {b : Int32} {A c : Nat → Int32} {s : Nat} {sg : Int32} {LE GR BW : Nat → Int32} (h : ∀ t, t < 10 → A t = c t) (k : bkOk b A s sg LE GR BW) : bkOk b c s sg LE GR BW := by
  unfold bkOk at *
  rw [← spn_eq h]
  exact k
theorem rk_congr {w w' : Nat → Int} {i m : Nat} (hi : i < m) (h : ∀ t, t < m → w t = w' t) : ∀ s, s ≤ m → rk w s i = rk w' s i
  | 0, _ => rfl
  | s + 1, hs => by
    rw [rk, rk, rk_congr hi h s (by omega), h i hi, h s (by omega)]
/-- which span stands at place q by width -/
def wdX (w : Nat → Int) (s q : Nat) : Nat → Nat
  | 0 => 0
  | m + 1 => if rk w s m = q then m else wdX w s q m
theorem wdX_at {w : Nat → Int} {BW : Nat → Int32} {s q : Nat} (h : ordOk w BW s) (hs : s ≤ 32) (hq : q < s) : ∃ i, i < s ∧ BW q = nI i ∧ wdX w s q s = i := by
  obtain ⟨h1, h2, h3⟩ := h
  obtain ⟨i, hi, ei⟩ := h2 q hq
  refine ⟨i, hi, by rw [← ei]; exact h1 i hi, ?_⟩
  have key : ∀ m, i < m → m ≤ s → wdX w s q m = i := by
    intro m
    induction m with
    | zero => intro a; omega
    | succ m ih =>
      intro a b
      rw [wdX]
      by_cases e : rk w s m = q
      · rw [if_pos e]
        have q1 := h1 m (by omega)
        have q2 := h1 i hi
        rw [e] at q1
        rw [ei] at q2
        have q3 := congrArg Int32.toInt (q1.symm.trans q2)
        rw [nI_toInt (by omega), nI_toInt (by omega)] at q3
        omega
      · rw [if_neg e]
        refine ih ?_ (by omega)
        rcases Nat.lt_or_ge i m with y | y
        · exact y
        · exact absurd (by rw [show m = i by omega]; exact ei) e
  exact key s hi (Nat.le_refl _)
theorem wdX_congr {w w' : Nat → Int} {s q : Nat} (h : ∀ t, t < s → w t = w' t) : ∀ m, m ≤ s → wdX w s q m = wdX w' s q m
  | 0, _ => rfl
  | m + 1, hm => by
    rw [wdX, wdX, rk_congr (show m < s by omega) h s (Nat.le_refl _), wdX_congr h m (by omega)]
def spEnd (X : SpS) (i : Nat) (w : Int32) : Int32 := (if w = 0 then X.1 i else X.2.1 i) + 800
def sSpan (S : TS) (b k w : Int32) : Int32 := if inC b 2 ∧ 0 ≤ k ∧ inC w 2 then (if k < nI (spn b S.1).1.2.2 then spEnd (spn b S.1).1 (tN k) w else -4) else -1
def spWd (X : SpS) (q : Nat) : Nat := wdX (wdI X.1 X.2.1) X.2.2 q X.2.2
def sWidest (S : TS) (b k w : Int32) : Int32 := if inC b 2 ∧ 0 ≤ k ∧ inC w 2 then (if k < nI (spn b S.1).1.2.2 then spEnd (spn b S.1).1 (spWd (spn b S.1).1 (tN k)) w else -4) else -1
def sSpans (S : TS) (b w : Int32) : Int32 := if inC b 2 ∧ inC w 2 then (if w = 0 then nI (spn b S.1).1.2.2 else (spn b S.1).2) else -1
theorem spWd_eq {X : SpS} {LE GR BW : Nat → Int32} {s q : Nat} (hE : spE (LE, GR, s) X) (h : ordOk (wdI LE GR) BW s) (hs : s ≤ 32) (hq : q < s) : ∃ i, i < s ∧ BW q = nI i ∧ spWd X q = i := by
  obtain ⟨i, hi, e1, e2⟩ := wdX_at h hs hq
  refine ⟨i, hi, e1, ?_⟩
  have hE1 : s = X.2.2 := hE.1
  unfold spWd
  rw [← hE1, ← e2]
  refine (wdX_congr (fun t ht => ?_) s (Nat.le_refl _)).symm
  have q1 : LE t = X.1 t := (hE.2 t ht).1
  have q2 : GR t = X.2.1 t := (hE.2 t ht).2
  unfold wdI
  rw [q1, q2]
def cBk54 (hp : mHp) : Prop := ∃ (md : Int32) (s : Nat) (sg : Int32) (A : Nat → Int32) (LO : Nat → Int64) (LE GR BW : Nat → Int32), hp 54 = eO 5 (oBk54 md (nI s) sg) ∧ hp 55 = eI 10 A ∧ hp 56 = eL 5 LO ∧ hp 57 = eI 32 LE ∧ hp 58 = eI 32 GR ∧ hp 59 = eI 32 BW ∧ s ≤ 32 ∧ (md = 0 ∨ (md = 1 ∧ bkOk 0 A s sg LE GR BW))
def cBn54 (hp : mHp) (c : Nat → Int32) : Prop := ∃ (s : Nat) (sg : Int32) (A : Nat → Int32) (LO : Nat → Int64) (LE GR BW : Nat → Int32), hp 54 = eO 5 (oBk54 1 (nI s) sg) ∧ hp 55 = eI 10 A ∧ hp 56 = eL 5 LO ∧ hp 57 = eI 32 LE ∧ hp 58 = eI 32 GR ∧ hp 59 = eI 32 BW ∧ s ≤ 32 ∧ bkOk 0 A s sg LE GR BW ∧ ∀ t, t < 10 → A t = c t
theorem cBn54.bk {hp : mHp} {c : Nat → Int32} (h : cBn54 hp c) : cBk54 hp := by
  obtain ⟨s, sg, A, LO, LE, GR, BW, h1, h2, h3, h4, h5, h6, h7, h8, -⟩ := h
  exact ⟨1, s, sg, A, LO, LE, GR, BW, h1, h2, h3, h4, h5, h6, h7, Or.inr ⟨rfl, h8⟩⟩
theorem cBk54.of {hp hp' : mHp} (h : cBk54 hp) (e : ∀ q, 54 ≤ q → q ≤ 59 → hp' q = hp q) : cBk54 hp' := by
  obtain ⟨md, s, sg, A, LO, LE, GR, BW, h1, h2, h3, h4, h5, h6, h7, h8⟩ := h
  exact ⟨md, s, sg, A, LO, LE, GR, BW, (e 54 (by decide) (by decide)).trans h1, (e 55 (by decide) (by decide)).trans h2, (e 56 (by decide) (by decide)).trans h3, (e 57 (by decide) (by decide)).trans h4, (e 58 (by decide) (by decide)).trans h5, (e 59 (by decide) (by decide)).trans h6, h7, h8⟩
set_option maxHeartbeats 400000 in
set_option maxRecDepth 100000 in
theorem t_X5_refresh_54 {n : Nat} {hp : mHp} {c : Nat → Int32} (hS : cSet hp 1 c) (hB : cBk54 hp) (hJ : cJudge hp) : mC D_X5_refresh [.ref 54, .ref 1, .ref 44] n hp (fun v hp' => v = none ∧ cJudge hp' ∧ cBn54 hp' c ∧ ∀ q, q ≠ 53 → (q < 54 ∨ 59 < q) → hp' q = hp q) := by
  refine m_enter rfl rfl (Nat.le_of_ble_eq_true rfl) (fun K hF => ?_)
  show mW K _ 0 0 _ _ 0 [.ref 54, .ref 1, .ref 44] []
  obtain ⟨P, g, d, p1, p2, p3⟩ := id hS
  obtain ⟨v1, v2, v3⟩ := vec_set p3
  obtain ⟨md, s, sg, A, LO, LE, GR, BW, b1, b2, b3, b4, b5, b6, b7, b8⟩ := hB
  obtain ⟨LL0, DG0, m0, ri1, ev1, le1, T0, j1, j2, j3, j4⟩ := id hJ
  refine m_aload_n dX5_refresh_0 rfl ?_
  refine m_getfield dX5_refresh_1 fl_X5_32 (by first | assumption | rfl | exact va_up_self _ _ _ | exact (va_up_ne _ _ (by decide)).trans b1) (by first | assumption | rfl | exact va_up_self _ _ _ | exact (va_up_ne _ _ (by decide)).trans b1) ?_
  show mW _ _ _ _ _ _ _ _ (.int _ :: _)
  refine m_if_eq (t := 16) dX5_refresh_4 (by decide) (fun c4 => ?_) (fun c4 => ?_)
  · refine m_aload_n dX5_refresh_16 rfl ?_
    refine m_getfield dX5_refresh_17 fl_X5_46 (by first | assumption | rfl | exact va_up_self _ _ _ | exact (va_up_ne _ _ (by decide)).trans b1) (by first | assumption | rfl | exact va_up_self _ _ _ | exact (va_up_ne _ _ (by decide)).trans b1) ?_
    show mW _ _ _ _ _ _ _ _ (.ref _ :: _)
    refine m_iconst (v := 0) dX5_refresh_20 (by decide) ?_
    refine m_aload_n dX5_refresh_21 rfl ?_
    refine m_getfield dX5_refresh_22 fl_X5_15 (by first | assumption | rfl | exact va_up_self _ _ _ | exact (va_up_ne _ _ (by decide)).trans b1) (by first | assumption | rfl | exact va_up_self _ _ _ | exact (va_up_ne _ _ (by decide)).trans b1) ?_
    show mW _ _ _ _ _ _ _ _ (.ref _ :: _)
    refine m_iconst (v := 0) dX5_refresh_25 (by decide) ?_
    refine m_bipush (v := 10) dX5_refresh_26 (by decide) ?_
    refine m_copyI (s0 := 0) (d0 := 0) (k := 10) dX5_refresh_28 lk_X5_49 (by first | assumption | rfl | exact va_up_self _ _ _ | exact (va_up_ne _ _ (by decide)).trans b1) (by first | assumption | rfl | exact va_up_self _ _ _ | exact (va_up_ne _ _ (by decide)).trans b1) (by decide) (by decide) (by decide) (by decide) (by decide) (Nat.le_of_ble_eq_true rfl) (by decide) ?_
    refine m_aload_n dX5_refresh_31 rfl ?_
    refine m_iconst (v := 1) dX5_refresh_32 (by decide) ?_
    refine m_putfield dX5_refresh_33 fl_X5_32 (by first | assumption | rfl | exact va_up_self _ _ _ | exact (va_up_ne _ _ (by decide)).trans b1) (fun _ => rfl) (fun _ => rfl) ?_
    try rw [va_uu]
    rw [oBk54_6]
    refine m_aload_n dX5_refresh_36 rfl ?_
    refine m_aload_n dX5_refresh_37 rfl ?_
    refine m_aload_n dX5_refresh_38 rfl ?_
    refine m_invV dX5_refresh_39 lk_X5_55 ar_X5_collect (ci := 5) rfl rfl (by first | assumption | rfl | exact va_up_self _ _ _ | exact (va_up_ne _ _ (by decide)).trans b1) (t_X5_collect_54 (P := P) (LE := LE) (GR := GR) (LO := LO) (T := T0) (sz := nI s) (sg := sg) (by first | exact (va_up_ne _ _ (by decide)).trans ((va_up_ne _ _ (by decide)).trans p1)) (by first | exact (va_up_ne _ _ (by decide)).trans ((va_up_ne _ _ (by decide)).trans p2)) (by first | exact (va_up_ne _ _ (by decide)).trans ((va_up_ne _ _ (by decide)).trans j2)) rfl (by first | exact (va_up_ne _ _ (by decide)).trans ((va_up_ne _ _ (by decide)).trans b3)) (by first | exact (va_up_ne _ _ (by decide)).trans ((va_up_ne _ _ (by decide)).trans b4)) (by first | exact (va_up_ne _ _ (by decide)).trans ((va_up_ne _ _ (by decide)).trans b5)) (by first | exact (va_up_ne _ _ (by decide)).trans ((va_up_ne _ _ (by decide)).trans j4))) rfl (Nat.le_of_ble_eq_true rfl) (by decide) (by decide) (by decide) (by decide) (fun v hp' q => ?_)
    obtain ⟨rfl, LO', T', rfl⟩ := q
    have hA : ∀ t, t < 10 → va_cpy P A 0 0 10 t = P t := fun t ht => cpy10 ht
    have hFF : (fun w => stA (loopI P (iZ w))) = spF 0 (va_cpy P A 0 0 10) := by
      funext w
      exact (stB_eq (b := 0) (fun t ht => (loopI_eq hA ht).symm) : stB 0 (loopI P (iZ w)) = _)
    have hsp : spE (colG (fun w => stA (loopI P (iZ w))) 1601 (-800) (LE, GR, 0) 0).1 (spn 0 (va_cpy P A 0 0 10)).1 ∧ (colG (fun w => stA (loopI P (iZ w))) 1601 (-800) (LE, GR, 0) 0).2 = (spn 0 (va_cpy P A 0 0 10)).2 := by
      rw [hFF]
      exact spE_col 1601 (-800) (LE, GR, 0) (fun _ => 0, fun _ => 0, 0) 0 ⟨rfl, fun t ht => absurd ht (Nat.not_lt_zero _)⟩ (Nat.zero_le _)
    have hle : (colG (fun w => stA (loopI P (iZ w))) 1601 (-800) (LE, GR, 0) 0).1.2.2 ≤ 32 := colG_le _ _ _ _ (Nat.zero_le _)
    clear hFF
    generalize (colG (fun w => stA (loopI P (iZ w))) 1601 (-800) (LE, GR, 0) 0) = R at hsp hle ⊢
    show mW K _ 0 0 n _ 42 [.ref 54, .ref 1, .ref 44] []
    refine m_aload_n dX5_refresh_42 rfl ?_
    refine m_invV dX5_refresh_43 lk_X5_59 ar_X5_orderByWidth (ci := 5) rfl rfl (by first | assumption | rfl | exact va_up_self _ _ _ | exact (va_up_ne _ _ (by decide)).trans b1) (t_X5_orderByWidth_54 (s := R.1.2.2) (LE := R.1.1) (GR := R.1.2.1) (BW := BW) rfl rfl rfl hle b6) rfl (Nat.le_of_ble_eq_true rfl) (by decide) (by decide) (by decide) (by decide) (fun v hp' q => ?_)
    obtain ⟨rfl, BW', rfl, hord⟩ := q
    show mW K _ 0 0 n _ 46 [.ref 54, .ref 1, .ref 44] []
    have hoff : ∀ q, q ≠ 53 → (q < 54 ∨ 59 < q) → (va_up (hpK54 (va_up (va_up hp 55 (eI 10 (va_cpy P A 0 0 10))) 54 (eO 5 (oBk54 1 (nI s) sg))) LO' R.1 R.2 T') 59 (eI 32 BW')) q = hp q := by
      intro q h1 h2
      rw [va_up_ne _ _ (by omega)]
      unfold hpK54
      rw [if_neg (by omega), if_neg (by omega), if_neg (by omega), if_neg (by omega), if_neg (by omega), va_up_ne _ _ (by omega), va_up_ne _ _ (by omega)]
    exact m_return hF dX5_refresh_46 rfl rfl rfl ⟨rfl, ⟨LL0, DG0, m0, ri1, ev1, le1, T', hpC_of j1 (fun q a b => hoff q (by omega) (by omega)), (hoff 44 (by decide) (by decide)).trans j2, (hoff 46 (by decide) (by decide)).trans j3, rfl⟩, ⟨R.1.2.2, R.2, va_cpy P A 0 0 10, LO', R.1.1, R.1.2.1, BW', rfl, rfl, rfl, rfl, rfl, rfl, hle, ⟨hsp.1, hsp.2, hord⟩, fun t ht => (cpy10 ht).trans (v1 t ht)⟩, fun q h53 hq => hoff q h53 hq⟩
  have hmd : md = 1 := by rcases b8 with y | y; exact absurd y c4; exact y.1
  have hbk := (b8.resolve_left c4).2
  refine m_aload_n dX5_refresh_7 rfl ?_
  refine m_aload_n dX5_refresh_8 rfl ?_
  refine m_invV_I dX5_refresh_9 lk_X5_42 ar_X5_isOf (ci := 5) rfl rfl (by first | assumption | rfl | exact va_up_self _ _ _ | exact (va_up_ne _ _ (by decide)).trans b1) (t_X5_isOf_54 b1 b2 p1 p2) rfl (Nat.le_of_ble_eq_true rfl) (by decide) (by decide) (by decide) (by decide) rfl rfl ?_
  try rw [va_uu]
  refine m_if_eq (t := 16) dX5_refresh_12 (by decide) (fun c12 => ?_) (fun c12 => ?_)
  rotate_left
  · exact m_return hF dX5_refresh_15 rfl rfl rfl ⟨rfl, hJ, ⟨s, sg, A, LO, LE, GR, BW, hmd ▸ b1, b2, b3, b4, b5, b6, b7, hbk, fun t ht => (eqP_ok 10 0 c12 t (by omega) (by omega)).trans (v1 t ht)⟩, fun _ _ _ => rfl⟩
  refine m_aload_n dX5_refresh_16 rfl ?_
  refine m_getfield dX5_refresh_17 fl_X5_46 (by first | assumption | rfl | exact va_up_self _ _ _ | exact (va_up_ne _ _ (by decide)).trans b1) (by first | assumption | rfl | exact va_up_self _ _ _ | exact (va_up_ne _ _ (by decide)).trans b1) ?_
  show mW _ _ _ _ _ _ _ _ (.ref _ :: _)
  refine m_iconst (v := 0) dX5_refresh_20 (by decide) ?_
  refine m_aload_n dX5_refresh_21 rfl ?_
  refine m_getfield dX5_refresh_22 fl_X5_15 (by first | assumption | rfl | exact va_up_self _ _ _ | exact (va_up_ne _ _ (by decide)).trans b1) (by first | assumption | rfl | exact va_up_self _ _ _ | exact (va_up_ne _ _ (by decide)).trans b1) ?_
  show mW _ _ _ _ _ _ _ _ (.ref _ :: _)
  refine m_iconst (v := 0) dX5_refresh_25 (by decide) ?_
  refine m_bipush (v := 10) dX5_refresh_26 (by decide) ?_
  refine m_copyI (s0 := 0) (d0 := 0) (k := 10) dX5_refresh_28 lk_X5_49 (by first | assumption | rfl | exact va_up_self _ _ _ | exact (va_up_ne _ _ (by decide)).trans b1) (by first | assumption | rfl | exact va_up_self _ _ _ | exact (va_up_ne _ _ (by decide)).trans b1) (by decide) (by decide) (by decide) (by decide) (by decide) (Nat.le_of_ble_eq_true rfl) (by decide) ?_
  refine m_aload_n dX5_refresh_31 rfl ?_
  refine m_iconst (v := 1) dX5_refresh_32 (by decide) ?_
  refine m_putfield dX5_refresh_33 fl_X5_32 (by first | assumption | rfl | exact va_up_self _ _ _ | exact (va_up_ne _ _ (by decide)).trans b1) (fun _ => rfl) (fun _ => rfl) ?_
  try rw [va_uu]
  rw [oBk54_6]
  refine m_aload_n dX5_refresh_36 rfl ?_
  refine m_aload_n dX5_refresh_37 rfl ?_
  refine m_aload_n dX5_refresh_38 rfl ?_
  refine m_invV dX5_refresh_39 lk_X5_55 ar_X5_collect (ci := 5) rfl rfl (by first | assumption | rfl | exact va_up_self _ _ _ | exact (va_up_ne _ _ (by decide)).trans b1) (t_X5_collect_54 (P := P) (LE := LE) (GR := GR) (LO := LO) (T := T0) (sz := nI s) (sg := sg) (by first | exact (va_up_ne _ _ (by decide)).trans ((va_up_ne _ _ (by decide)).trans p1)) (by first | exact (va_up_ne _ _ (by decide)).trans ((va_up_ne _ _ (by decide)).trans p2)) (by first | exact (va_up_ne _ _ (by decide)).trans ((va_up_ne _ _ (by decide)).trans j2)) rfl (by first | exact (va_up_ne _ _ (by decide)).trans ((va_up_ne _ _ (by decide)).trans b3)) (by first | exact (va_up_ne _ _ (by decide)).trans ((va_up_ne _ _ (by decide)).trans b4)) (by first | exact (va_up_ne _ _ (by decide)).trans ((va_up_ne _ _ (by decide)).trans b5)) (by first | exact (va_up_ne _ _ (by decide)).trans ((va_up_ne _ _ (by decide)).trans j4))) rfl (Nat.le_of_ble_eq_true rfl) (by decide) (by decide) (by decide) (by decide) (fun v hp' q => ?_)
  obtain ⟨rfl, LO', T', rfl⟩ := q
  have hA : ∀ t, t < 10 → va_cpy P A 0 0 10 t = P t := fun t ht => cpy10 ht
  have hFF : (fun w => stA (loopI P (iZ w))) = spF 0 (va_cpy P A 0 0 10) := by
    funext w
    exact (stB_eq (b := 0) (fun t ht => (loopI_eq hA ht).symm) : stB 0 (loopI P (iZ w)) = _)
  have hsp : spE (colG (fun w => stA (loopI P (iZ w))) 1601 (-800) (LE, GR, 0) 0).1 (spn 0 (va_cpy P A 0 0 10)).1 ∧ (colG (fun w => stA (loopI P (iZ w))) 1601 (-800) (LE, GR, 0) 0).2 = (spn 0 (va_cpy P A 0 0 10)).2 := by
    rw [hFF]
    exact spE_col 1601 (-800) (LE, GR, 0) (fun _ => 0, fun _ => 0, 0) 0 ⟨rfl, fun t ht => absurd ht (Nat.not_lt_zero _)⟩ (Nat.zero_le _)
  have hle : (colG (fun w => stA (loopI P (iZ w))) 1601 (-800) (LE, GR, 0) 0).1.2.2 ≤ 32 := colG_le _ _ _ _ (Nat.zero_le _)
  clear hFF
  generalize (colG (fun w => stA (loopI P (iZ w))) 1601 (-800) (LE, GR, 0) 0) = R at hsp hle ⊢
  show mW K _ 0 0 n _ 42 [.ref 54, .ref 1, .ref 44] []
  refine m_aload_n dX5_refresh_42 rfl ?_
  refine m_invV dX5_refresh_43 lk_X5_59 ar_X5_orderByWidth (ci := 5) rfl rfl (by first | assumption | rfl | exact va_up_self _ _ _ | exact (va_up_ne _ _ (by decide)).trans b1) (t_X5_orderByWidth_54 (s := R.1.2.2) (LE := R.1.1) (GR := R.1.2.1) (BW := BW) rfl rfl rfl hle b6) rfl (Nat.le_of_ble_eq_true rfl) (by decide) (by decide) (by decide) (by decide) (fun v hp' q => ?_)
  obtain ⟨rfl, BW', rfl, hord⟩ := q
  show mW K _ 0 0 n _ 46 [.ref 54, .ref 1, .ref 44] []
  have hoff : ∀ q, q ≠ 53 → (q < 54 ∨ 59 < q) → (va_up (hpK54 (va_up (va_up hp 55 (eI 10 (va_cpy P A 0 0 10))) 54 (eO 5 (oBk54 1 (nI s) sg))) LO' R.1 R.2 T') 59 (eI 32 BW')) q = hp q := by
    intro q h1 h2
    rw [va_up_ne _ _ (by omega)]
    unfold hpK54
    rw [if_neg (by omega), if_neg (by omega), if_neg (by omega), if_neg (by omega), if_neg (by omega), va_up_ne _ _ (by omega), va_up_ne _ _ (by omega)]
  exact m_return hF dX5_refresh_46 rfl rfl rfl ⟨rfl, ⟨LL0, DG0, m0, ri1, ev1, le1, T', hpC_of j1 (fun q a b => hoff q (by omega) (by omega)), (hoff 44 (by decide) (by decide)).trans j2, (hoff 46 (by decide) (by decide)).trans j3, rfl⟩, ⟨R.1.2.2, R.2, va_cpy P A 0 0 10, LO', R.1.1, R.1.2.1, BW', rfl, rfl, rfl, rfl, rfl, rfl, hle, ⟨hsp.1, hsp.2, hord⟩, fun t ht => (cpy10 ht).trans (v1 t ht)⟩, fun q h53 hq => hoff q h53 hq⟩

def cBk60 (hp : mHp) : Prop := ∃ (md : Int32) (s : Nat) (sg : Int32) (A : Nat → Int32) (LO : Nat → Int64) (LE GR BW : Nat → Int32), hp 60 = eO 5 (oBk60 md (nI s) sg) ∧ hp 61 = eI 10 A ∧ hp 62 = eL 5 LO ∧ hp 63 = eI 32 LE ∧ hp 64 = eI 32 GR ∧ hp 65 = eI 32 BW ∧ s ≤ 32 ∧ (md = 0 ∨ (md = 1 ∧ bkOk 1 A s sg LE GR BW))
def cBn60 (hp : mHp) (c : Nat → Int32) : Prop := ∃ (s : Nat) (sg : Int32) (A : Nat → Int32) (LO : Nat → Int64) (LE GR BW : Nat → Int32), hp 60 = eO 5 (oBk60 1 (nI s) sg) ∧ hp 61 = eI 10 A ∧ hp 62 = eL 5 LO ∧ hp 63 = eI 32 LE ∧ hp 64 = eI 32 GR ∧ hp 65 = eI 32 BW ∧ s ≤ 32 ∧ bkOk 1 A s sg LE GR BW ∧ ∀ t, t < 10 → A t = c t
theorem cBn60.bk {hp : mHp} {c : Nat → Int32} (h : cBn60 hp c) : cBk60 hp := by
  obtain ⟨s, sg, A, LO, LE, GR, BW, h1, h2, h3, h4, h5, h6, h7, h8, -⟩ := h
  exact ⟨1, s, sg, A, LO, LE, GR, BW, h1, h2, h3, h4, h5, h6, h7, Or.inr ⟨rfl, h8⟩⟩
theorem cBk60.of {hp hp' : mHp} (h : cBk60 hp) (e : ∀ q, 60 ≤ q → q ≤ 65 → hp' q = hp q) : cBk60 hp' := by
  obtain ⟨md, s, sg, A, LO, LE, GR, BW, h1, h2, h3, h4, h5, h6, h7, h8⟩ := h
  exact ⟨md, s, sg, A, LO, LE, GR, BW, (e 60 (by decide) (by decide)).trans h1, (e 61 (by decide) (by decide)).trans h2, (e 62 (by decide) (by decide)).trans h3, (e 63 (by decide) (by decide)).trans h4, (e 64 (by decide) (by decide)).trans h5, (e 65 (by decide) (by decide)).trans h6, h7, h8⟩
set_option maxHeartbeats 400000 in
set_option maxRecDepth 100000 in
theorem t_X5_refresh_60 {n : Nat} {hp : mHp} {c : Nat → Int32} (hS : cSet hp 1 c) (hB : cBk60 hp) (hJ : cJudge hp) : mC D_X5_refresh [.ref 60, .ref 1, .ref 44] n hp (fun v hp' => v = none ∧ cJudge hp' ∧ cBn60 hp' c ∧ ∀ q, q ≠ 53 → (q < 60 ∨ 65 < q) → hp' q = hp q) := by
  refine m_enter rfl rfl (Nat.le_of_ble_eq_true rfl) (fun K hF => ?_)
  show mW K _ 0 0 _ _ 0 [.ref 60, .ref 1, .ref 44] []
  obtain ⟨P, g, d, p1, p2, p3⟩ := id hS
  obtain ⟨v1, v2, v3⟩ := vec_set p3
  obtain ⟨md, s, sg, A, LO, LE, GR, BW, b1, b2, b3, b4, b5, b6, b7, b8⟩ := hB
  obtain ⟨LL0, DG0, m0, ri1, ev1, le1, T0, j1, j2, j3, j4⟩ := id hJ
  refine m_aload_n dX5_refresh_0 rfl ?_
  refine m_getfield dX5_refresh_1 fl_X5_32 (by first | assumption | rfl | exact va_up_self _ _ _ | exact (va_up_ne _ _ (by decide)).trans b1) (by first | assumption | rfl | exact va_up_self _ _ _ | exact (va_up_ne _ _ (by decide)).trans b1) ?_
  show mW _ _ _ _ _ _ _ _ (.int _ :: _)
  refine m_if_eq (t := 16) dX5_refresh_4 (by decide) (fun c4 => ?_) (fun c4 => ?_)
  · refine m_aload_n dX5_refresh_16 rfl ?_
    refine m_getfield dX5_refresh_17 fl_X5_46 (by first | assumption | rfl | exact va_up_self _ _ _ | exact (va_up_ne _ _ (by decide)).trans b1) (by first | assumption | rfl | exact va_up_self _ _ _ | exact (va_up_ne _ _ (by decide)).trans b1) ?_
    show mW _ _ _ _ _ _ _ _ (.ref _ :: _)
    refine m_iconst (v := 0) dX5_refresh_20 (by decide) ?_
    refine m_aload_n dX5_refresh_21 rfl ?_
    refine m_getfield dX5_refresh_22 fl_X5_15 (by first | assumption | rfl | exact va_up_self _ _ _ | exact (va_up_ne _ _ (by decide)).trans b1) (by first | assumption | rfl | exact va_up_self _ _ _ | exact (va_up_ne _ _ (by decide)).trans b1) ?_
    show mW _ _ _ _ _ _ _ _ (.ref _ :: _)
    refine m_iconst (v := 0) dX5_refresh_25 (by decide) ?_
    refine m_bipush (v := 10) dX5_refresh_26 (by decide) ?_
    refine m_copyI (s0 := 0) (d0 := 0) (k := 10) dX5_refresh_28 lk_X5_49 (by first | assumption | rfl | exact va_up_self _ _ _ | exact (va_up_ne _ _ (by decide)).trans b1) (by first | assumption | rfl | exact va_up_self _ _ _ | exact (va_up_ne _ _ (by decide)).trans b1) (by decide) (by decide) (by decide) (by decide) (by decide) (Nat.le_of_ble_eq_true rfl) (by decide) ?_
    refine m_aload_n dX5_refresh_31 rfl ?_
    refine m_iconst (v := 1) dX5_refresh_32 (by decide) ?_
    refine m_putfield dX5_refresh_33 fl_X5_32 (by first | assumption | rfl | exact va_up_self _ _ _ | exact (va_up_ne _ _ (by decide)).trans b1) (fun _ => rfl) (fun _ => rfl) ?_
    try rw [va_uu]
    rw [oBk60_6]
    refine m_aload_n dX5_refresh_36 rfl ?_
    refine m_aload_n dX5_refresh_37 rfl ?_
    refine m_aload_n dX5_refresh_38 rfl ?_
    refine m_invV dX5_refresh_39 lk_X5_55 ar_X5_collect (ci := 5) rfl rfl (by first | assumption | rfl | exact va_up_self _ _ _ | exact (va_up_ne _ _ (by decide)).trans b1) (t_X5_collect_60 (P := P) (LE := LE) (GR := GR) (LO := LO) (T := T0) (sz := nI s) (sg := sg) (by first | exact (va_up_ne _ _ (by decide)).trans ((va_up_ne _ _ (by decide)).trans p1)) (by first | exact (va_up_ne _ _ (by decide)).trans ((va_up_ne _ _ (by decide)).trans p2)) (by first | exact (va_up_ne _ _ (by decide)).trans ((va_up_ne _ _ (by decide)).trans j2)) rfl (by first | exact (va_up_ne _ _ (by decide)).trans ((va_up_ne _ _ (by decide)).trans b3)) (by first | exact (va_up_ne _ _ (by decide)).trans ((va_up_ne _ _ (by decide)).trans b4)) (by first | exact (va_up_ne _ _ (by decide)).trans ((va_up_ne _ _ (by decide)).trans b5)) (by first | exact (va_up_ne _ _ (by decide)).trans ((va_up_ne _ _ (by decide)).trans j4))) rfl (Nat.le_of_ble_eq_true rfl) (by decide) (by decide) (by decide) (by decide) (fun v hp' q => ?_)
    obtain ⟨rfl, LO', T', rfl⟩ := q
    have hA : ∀ t, t < 10 → va_cpy P A 0 0 10 t = P t := fun t ht => cpy10 ht
    have hFF : (fun w => stC (loopI P (iZ w))) = spF 1 (va_cpy P A 0 0 10) := by
      funext w
      exact (stB_eq (b := 1) (fun t ht => (loopI_eq hA ht).symm) : stB 1 (loopI P (iZ w)) = _)
    have hsp : spE (colG (fun w => stC (loopI P (iZ w))) 1601 (-800) (LE, GR, 0) 0).1 (spn 1 (va_cpy P A 0 0 10)).1 ∧ (colG (fun w => stC (loopI P (iZ w))) 1601 (-800) (LE, GR, 0) 0).2 = (spn 1 (va_cpy P A 0 0 10)).2 := by
      rw [hFF]
      exact spE_col 1601 (-800) (LE, GR, 0) (fun _ => 0, fun _ => 0, 0) 0 ⟨rfl, fun t ht => absurd ht (Nat.not_lt_zero _)⟩ (Nat.zero_le _)
    have hle : (colG (fun w => stC (loopI P (iZ w))) 1601 (-800) (LE, GR, 0) 0).1.2.2 ≤ 32 := colG_le _ _ _ _ (Nat.zero_le _)
    clear hFF
    generalize (colG (fun w => stC (loopI P (iZ w))) 1601 (-800) (LE, GR, 0) 0) = R at hsp hle ⊢
    show mW K _ 0 0 n _ 42 [.ref 60, .ref 1, .ref 44] []
    refine m_aload_n dX5_refresh_42 rfl ?_
    refine m_invV dX5_refresh_43 lk_X5_59 ar_X5_orderByWidth (ci := 5) rfl rfl (by first | assumption | rfl | exact va_up_self _ _ _ | exact (va_up_ne _ _ (by decide)).trans b1) (t_X5_orderByWidth_60 (s := R.1.2.2) (LE := R.1.1) (GR := R.1.2.1) (BW := BW) rfl rfl rfl hle b6) rfl (Nat.le_of_ble_eq_true rfl) (by decide) (by decide) (by decide) (by decide) (fun v hp' q => ?_)
    obtain ⟨rfl, BW', rfl, hord⟩ := q
    show mW K _ 0 0 n _ 46 [.ref 60, .ref 1, .ref 44] []
    have hoff : ∀ q, q ≠ 53 → (q < 60 ∨ 65 < q) → (va_up (hpK60 (va_up (va_up hp 61 (eI 10 (va_cpy P A 0 0 10))) 60 (eO 5 (oBk60 1 (nI s) sg))) LO' R.1 R.2 T') 65 (eI 32 BW')) q = hp q := by
      intro q h1 h2
      rw [va_up_ne _ _ (by omega)]
      unfold hpK60
      rw [if_neg (by omega), if_neg (by omega), if_neg (by omega), if_neg (by omega), if_neg (by omega), va_up_ne _ _ (by omega), va_up_ne _ _ (by omega)]
    exact m_return hF dX5_refresh_46 rfl rfl rfl ⟨rfl, ⟨LL0, DG0, m0, ri1, ev1, le1, T', hpC_of j1 (fun q a b => hoff q (by omega) (by omega)), (hoff 44 (by decide) (by decide)).trans j2, (hoff 46 (by decide) (by decide)).trans j3, rfl⟩, ⟨R.1.2.2, R.2, va_cpy P A 0 0 10, LO', R.1.1, R.1.2.1, BW', rfl, rfl, rfl, rfl, rfl, rfl, hle, ⟨hsp.1, hsp.2, hord⟩, fun t ht => (cpy10 ht).trans (v1 t ht)⟩, fun q h53 hq => hoff q h53 hq⟩
  have hmd : md = 1 := by rcases b8 with y | y; exact absurd y c4; exact y.1
  have hbk := (b8.resolve_left c4).2
  refine m_aload_n dX5_refresh_7 rfl ?_
  refine m_aload_n dX5_refresh_8 rfl ?_
  refine m_invV_I dX5_refresh_9 lk_X5_42 ar_X5_isOf (ci := 5) rfl rfl (by first | assumption | rfl | exact va_up_self _ _ _ | exact (va_up_ne _ _ (by decide)).trans b1) (t_X5_isOf_60 b1 b2 p1 p2) rfl (Nat.le_of_ble_eq_true rfl) (by decide) (by decide) (by decide) (by decide) rfl rfl ?_
  try rw [va_uu]
  refine m_if_eq (t := 16) dX5_refresh_12 (by decide) (fun c12 => ?_) (fun c12 => ?_)
  rotate_left
  · exact m_return hF dX5_refresh_15 rfl rfl rfl ⟨rfl, hJ, ⟨s, sg, A, LO, LE, GR, BW, hmd ▸ b1, b2, b3, b4, b5, b6, b7, hbk, fun t ht => (eqP_ok 10 0 c12 t (by omega) (by omega)).trans (v1 t ht)⟩, fun _ _ _ => rfl⟩
  refine m_aload_n dX5_refresh_16 rfl ?_
  refine m_getfield dX5_refresh_17 fl_X5_46 (by first | assumption | rfl | exact va_up_self _ _ _ | exact (va_up_ne _ _ (by decide)).trans b1) (by first | assumption | rfl | exact va_up_self _ _ _ | exact (va_up_ne _ _ (by decide)).trans b1) ?_
  show mW _ _ _ _ _ _ _ _ (.ref _ :: _)
  refine m_iconst (v := 0) dX5_refresh_20 (by decide) ?_
  refine m_aload_n dX5_refresh_21 rfl ?_
  refine m_getfield dX5_refresh_22 fl_X5_15 (by first | assumption | rfl | exact va_up_self _ _ _ | exact (va_up_ne _ _ (by decide)).trans b1) (by first | assumption | rfl | exact va_up_self _ _ _ | exact (va_up_ne _ _ (by decide)).trans b1) ?_
  show mW _ _ _ _ _ _ _ _ (.ref _ :: _)
  refine m_iconst (v := 0) dX5_refresh_25 (by decide) ?_
  refine m_bipush (v := 10) dX5_refresh_26 (by decide) ?_
  refine m_copyI (s0 := 0) (d0 := 0) (k := 10) dX5_refresh_28 lk_X5_49 (by first | assumption | rfl | exact va_up_self _ _ _ | exact (va_up_ne _ _ (by decide)).trans b1) (by first | assumption | rfl | exact va_up_self _ _ _ | exact (va_up_ne _ _ (by decide)).trans b1) (by decide) (by decide) (by decide) (by decide) (by decide) (Nat.le_of_ble_eq_true rfl) (by decide) ?_
  refine m_aload_n dX5_refresh_31 rfl ?_
  refine m_iconst (v := 1) dX5_refresh_32 (by decide) ?_
  refine m_putfield dX5_refresh_33 fl_X5_32 (by first | assumption | rfl | exact va_up_self _ _ _ | exact (va_up_ne _ _ (by decide)).trans b1) (fun _ => rfl) (fun _ => rfl) ?_
  try rw [va_uu]
  rw [oBk60_6]
  refine m_aload_n dX5_refresh_36 rfl ?_
  refine m_aload_n dX5_refresh_37 rfl ?_
  refine m_aload_n dX5_refresh_38 rfl ?_
  refine m_invV dX5_refresh_39 lk_X5_55 ar_X5_collect (ci := 5) rfl rfl (by first | assumption | rfl | exact va_up_self _ _ _ | exact (va_up_ne _ _ (by decide)).trans b1) (t_X5_collect_60 (P := P) (LE := LE) (GR := GR) (LO := LO) (T := T0) (sz := nI s) (sg := sg) (by first | exact (va_up_ne _ _ (by decide)).trans ((va_up_ne _ _ (by decide)).trans p1)) (by first | exact (va_up_ne _ _ (by decide)).trans ((va_up_ne _ _ (by decide)).trans p2)) (by first | exact (va_up_ne _ _ (by decide)).trans ((va_up_ne _ _ (by decide)).trans j2)) rfl (by first | exact (va_up_ne _ _ (by decide)).trans ((va_up_ne _ _ (by decide)).trans b3)) (by first | exact (va_up_ne _ _ (by decide)).trans ((va_up_ne _ _ (by decide)).trans b4)) (by first | exact (va_up_ne _ _ (by decide)).trans ((va_up_ne _ _ (by decide)).trans b5)) (by first | exact (va_up_ne _ _ (by decide)).trans ((va_up_ne _ _ (by decide)).trans j4))) rfl (Nat.le_of_ble_eq_true rfl) (by decide) (by decide) (by decide) (by decide) (fun v hp' q => ?_)
  obtain ⟨rfl, LO', T', rfl⟩ := q
  have hA : ∀ t, t < 10 → va_cpy P A 0 0 10 t = P t := fun t ht => cpy10 ht
  have hFF : (fun w => stC (loopI P (iZ w))) = spF 1 (va_cpy P A 0 0 10) := by
    funext w
    exact (stB_eq (b := 1) (fun t ht => (loopI_eq hA ht).symm) : stB 1 (loopI P (iZ w)) = _)
  have hsp : spE (colG (fun w => stC (loopI P (iZ w))) 1601 (-800) (LE, GR, 0) 0).1 (spn 1 (va_cpy P A 0 0 10)).1 ∧ (colG (fun w => stC (loopI P (iZ w))) 1601 (-800) (LE, GR, 0) 0).2 = (spn 1 (va_cpy P A 0 0 10)).2 := by
    rw [hFF]
    exact spE_col 1601 (-800) (LE, GR, 0) (fun _ => 0, fun _ => 0, 0) 0 ⟨rfl, fun t ht => absurd ht (Nat.not_lt_zero _)⟩ (Nat.zero_le _)
  have hle : (colG (fun w => stC (loopI P (iZ w))) 1601 (-800) (LE, GR, 0) 0).1.2.2 ≤ 32 := colG_le _ _ _ _ (Nat.zero_le _)
  clear hFF
  generalize (colG (fun w => stC (loopI P (iZ w))) 1601 (-800) (LE, GR, 0) 0) = R at hsp hle ⊢
  show mW K _ 0 0 n _ 42 [.ref 60, .ref 1, .ref 44] []
  refine m_aload_n dX5_refresh_42 rfl ?_
  refine m_invV dX5_refresh_43 lk_X5_59 ar_X5_orderByWidth (ci := 5) rfl rfl (by first | assumption | rfl | exact va_up_self _ _ _ | exact (va_up_ne _ _ (by decide)).trans b1) (t_X5_orderByWidth_60 (s := R.1.2.2) (LE := R.1.1) (GR := R.1.2.1) (BW := BW) rfl rfl rfl hle b6) rfl (Nat.le_of_ble_eq_true rfl) (by decide) (by decide) (by decide) (by decide) (fun v hp' q => ?_)
  obtain ⟨rfl, BW', rfl, hord⟩ := q
  show mW K _ 0 0 n _ 46 [.ref 60, .ref 1, .ref 44] []
  have hoff : ∀ q, q ≠ 53 → (q < 60 ∨ 65 < q) → (va_up (hpK60 (va_up (va_up hp 61 (eI 10 (va_cpy P A 0 0 10))) 60 (eO 5 (oBk60 1 (nI s) sg))) LO' R.1 R.2 T') 65 (eI 32 BW')) q = hp q := by
    intro q h1 h2
    rw [va_up_ne _ _ (by omega)]
    unfold hpK60
    rw [if_neg (by omega), if_neg (by omega), if_neg (by omega), if_neg (by omega), if_neg (by omega), va_up_ne _ _ (by omega), va_up_ne _ _ (by omega)]
  exact m_return hF dX5_refresh_46 rfl rfl rfl ⟨rfl, ⟨LL0, DG0, m0, ri1, ev1, le1, T', hpC_of j1 (fun q a b => hoff q (by omega) (by omega)), (hoff 44 (by decide) (by decide)).trans j2, (hoff 46 (by decide) (by decide)).trans j3, rfl⟩, ⟨R.1.2.2, R.2, va_cpy P A 0 0 10, LO', R.1.1, R.1.2.1, BW', rfl, rfl, rfl, rfl, rfl, rfl, hle, ⟨hsp.1, hsp.2, hord⟩, fun t ht => (cpy10 ht).trans (v1 t ht)⟩, fun q h53 hq => hoff q h53 hq⟩

theorem t_endOf_54 {n : Nat} {hp : mHp} {LE GR : Nat → Int32} {md sz sg w : Int32} {k : Nat} (h0 : hp 54 = eO 5 (oBk54 md sz sg)) (h3 : hp 57 = eI 32 LE) (h4 : hp 58 = eI 32 GR) (hk : k < 32) (hw : inC w 2) : mC D_X5_endOf [.ref 54, .int (nI k), .int w] n hp (rI ((if w = 0 then LE k else GR k) + 800) hp) := by
  obtain ⟨x, hx, rfl, -⟩ := inC_N hw
  match x, hx with
  | 0, _ => exact t_X5_endOf_54_0 h0 h3 h4 hk
  | 1, _ => exact t_X5_endOf_54_1 h0 h3 h4 hk
set_option maxHeartbeats 400000 in
set_option maxRecDepth 100000 in
theorem t_X7_bookOf_54 {n : Nat} {hp : mHp} {S : TS} {kf : Int32} (h0 : cTop hp kf) (hS : cTold hp S) (hJ : cJudge hp) (hB1 : cBk54 hp) (hB2 : cBk60 hp) : mC D_X7_bookOf [.ref 0, .int 0] n hp (fun r hp' => r = some (.ref 54) ∧ cJudge hp' ∧ cBn54 hp' S.1 ∧ cBk60 hp' ∧ ∀ q, (q < 44 ∨ 65 < q) → hp' q = hp q) := by
  refine m_enter rfl rfl (Nat.le_of_ble_eq_true rfl) (fun K hF => ?_)
  show mW K _ 0 0 _ _ 0 [.ref 0, .int 0, .retAddr 0] []
  have hS0 := hS.1
  have a0 : hp 0 = eO 7 (oTop kf) := h0
  obtain ⟨⟨P, g, d, p1, p2, p3⟩, hH⟩ := hS
  obtain ⟨v1, v2, v3⟩ := vec_set p3
  have hS1 : cSet hp 1 S.1 := ⟨P, g, d, p1, p2, p3⟩
  obtain ⟨w0, G0, D0, PP0, k1, k2, k3, -⟩ := id hH
  obtain ⟨-, -, -, ri1, ev1, le1, -, -, j2, -, -⟩ := id hJ
  obtain ⟨md, s, sg, A, LO, LE, GR, BW, b1, -⟩ := id hB1
  refine m_iload_n dX7_bookOf_0 rfl ?_
  refine m_if_ne (t := 11) dX7_bookOf_1 (by decide) (fun q => absurd rfl q) (fun _ => ?_)
  refine m_aload_n dX7_bookOf_4 rfl ?_
  refine m_getfield dX7_bookOf_5 fl_X7_62 (by first | assumption | rfl) (by first | assumption | rfl) ?_
  show mW _ _ _ _ _ _ _ _ (.ref _ :: _)
  refine m_goto (t := 15) dX7_bookOf_8 (by decide) ?_
  refine m_astore_n dX7_bookOf_15 (by decide) ?_
  show mW _ _ _ _ _ _ 16 [_, _, _] _
  refine m_aload_n dX7_bookOf_16 rfl ?_
  refine m_aload_n dX7_bookOf_17 rfl ?_
  refine m_getfield dX7_bookOf_18 fl_X7_12 (by first | assumption | rfl) (by first | assumption | rfl) ?_
  show mW _ _ _ _ _ _ _ _ (.ref _ :: _)
  refine m_aload_n dX7_bookOf_21 rfl ?_
  refine m_getfield dX7_bookOf_22 fl_X7_53 (by first | assumption | rfl) (by first | assumption | rfl) ?_
  show mW _ _ _ _ _ _ _ _ (.ref _ :: _)
  refine m_invV dX7_bookOf_25 lk_X7_265 ar_X5_refresh (ci := 5) rfl rfl (by first | assumption | rfl) (t_X5_refresh_54 hS0 hB1 hJ) rfl (Nat.le_of_ble_eq_true rfl) (by decide) (by decide) (by decide) (by decide) (fun v hp' q => ?_)
  obtain ⟨rfl, gJ, gB, gO⟩ := q
  show mW K _ 0 0 n hp' 28 [.ref 0, .int 0, .ref 54] []
  refine m_aload_n dX7_bookOf_28 rfl ?_
  exact m_areturn hF dX7_bookOf_29 rfl (Or.inl ⟨_, rfl⟩) rfl rfl ⟨rfl, gJ, gB, hB2.of (fun q r1 r2 => gO q (by omega) (by omega)), fun q hq => gO q (by omega) (by omega)⟩

set_option maxHeartbeats 400000 in
set_option maxRecDepth 100000 in
theorem t_X7_span_54 {n : Nat} {hp : mHp} {S : TS} {kf : Int32} (h0 : cTop hp kf) (hS : cTold hp S) (hJ : cJudge hp) (hB1 : cBk54 hp) (hB2 : cBk60 hp) {k w : Int32} : mC D_X7_span [.ref 0, .int 0, .int k, .int w] n hp (fun r hp' => r = some (.int (sSpan S 0 k w)) ∧ cJudge hp' ∧ cBk54 hp' ∧ cBk60 hp' ∧ ∀ q, (q < 44 ∨ 65 < q) → hp' q = hp q) := by
  refine m_enter rfl rfl (Nat.le_of_ble_eq_true rfl) (fun K hF => ?_)
  show mW K _ 0 0 _ _ 0 [.ref 0, .int 0, .int k, .int w, .retAddr 0] []
  have hS0 := hS
  have a0 : hp 0 = eO 7 (oTop kf) := h0
  obtain ⟨⟨P, g, d, p1, p2, p3⟩, hH⟩ := hS
  obtain ⟨v1, v2, v3⟩ := vec_set p3
  have hS1 : cSet hp 1 S.1 := ⟨P, g, d, p1, p2, p3⟩
  obtain ⟨w0, G0, D0, PP0, k1, k2, k3, -⟩ := id hH
  refine m_iload_n dX7_span_0 rfl ?_
  refine m_iconst (v := 2) dX7_span_1 (by decide) ?_
  refine m_invS_I dX7_span_2 lk_X7_73 ar_X7_isChoice (t_X7_isChoice) rfl (Nat.le_of_ble_eq_true rfl) (by decide) (by decide) (by decide) (by decide) rfl rfl ?_
  try rw [va_uu]
  refine m_if_eq (t := 20) dX7_span_5 (by decide) (fun c5 => ?_) (fun c5 => ?_)
  · refine m_iconst (v := -1) dX7_span_20 (by decide) ?_
    exact m_ireturn hF dX7_span_21 rfl rfl rfl ⟨by unfold sSpan; rw [if_neg (by rintro ⟨y0, y1, y2⟩; first | exact ch_no (by decide) (by assumption : chI 0 (nI 2) = 0) y0 | exact absurd c9 (Int32.not_lt.mpr y1) | exact ch_no (by decide) (by assumption : chI w (nI 2) = 0) y2)], hJ, hB1, hB2, fun _ _ => rfl⟩
  refine m_iload_n dX7_span_8 rfl ?_
  refine m_if_lt (t := 20) dX7_span_9 (by decide) (fun c9 => ?_) (fun c9 => ?_)
  · refine m_iconst (v := -1) dX7_span_20 (by decide) ?_
    exact m_ireturn hF dX7_span_21 rfl rfl rfl ⟨by unfold sSpan; rw [if_neg (by rintro ⟨y0, y1, y2⟩; first | exact ch_no (by decide) (by assumption : chI 0 (nI 2) = 0) y0 | exact absurd c9 (Int32.not_lt.mpr y1) | exact ch_no (by decide) (by assumption : chI w (nI 2) = 0) y2)], hJ, hB1, hB2, fun _ _ => rfl⟩
  refine m_iload_n dX7_span_12 rfl ?_
  refine m_iconst (v := 2) dX7_span_13 (by decide) ?_
  refine m_invS_I dX7_span_14 lk_X7_73 ar_X7_isChoice (t_X7_isChoice) rfl (Nat.le_of_ble_eq_true rfl) (by decide) (by decide) (by decide) (by decide) rfl rfl ?_
  try rw [va_uu]
  refine m_if_ne (t := 22) dX7_span_17 (by decide) (fun c17 => ?_) (fun c17 => ?_)
  rotate_left
  · refine m_iconst (v := -1) dX7_span_20 (by decide) ?_
    exact m_ireturn hF dX7_span_21 rfl rfl rfl ⟨by unfold sSpan; rw [if_neg (by rintro ⟨y0, y1, y2⟩; first | exact ch_no (by decide) (by assumption : chI 0 (nI 2) = 0) y0 | exact absurd c9 (Int32.not_lt.mpr y1) | exact ch_no (by decide) (by assumption : chI w (nI 2) = 0) y2)], hJ, hB1, hB2, fun _ _ => rfl⟩
  have hok : inC 0 2 ∧ 0 ≤ k ∧ inC w 2 := ⟨ch_ok (by decide) c5, Int32.not_lt.mp c9, ch_ok (by decide) c17⟩
  refine m_aload_n dX7_span_22 rfl ?_
  refine m_iload_n dX7_span_23 rfl ?_
  refine m_invV dX7_span_24 lk_X7_148 ar_X7_bookOf (ci := 7) rfl rfl (by first | assumption | rfl) (t_X7_bookOf_54 h0 hS0 hJ hB1 hB2) rfl (Nat.le_of_ble_eq_true rfl) (by decide) (by decide) (by decide) (by decide) (fun v hp' q => ?_)
  obtain ⟨rfl, gJ, gB, gB2, gO⟩ := q
  have gBk := gB.bk
  obtain ⟨s, sg, A, LO, LE, GR, BW, e1, e2, e3, e4, e5, e6, e7, e8, e9⟩ := gB
  have f1 := bkOk_eq e9 e8
  have f2 : s = (spn 0 S.1).1.2.2 := f1.1.1
  have f3 : ∀ t, t < s → LE t = (spn 0 S.1).1.1 t ∧ GR t = (spn 0 S.1).1.2.1 t := f1.1.2
  show mW K _ 0 0 n hp' 27 [.ref 0, .int 0, .int k, .int w, .retAddr 0] [.ref 54]
  refine m_astore dX7_span_27 (by decide) ?_
  show mW _ _ _ _ _ _ 29 [_, _, _, _, _] _
  refine m_iload_n dX7_span_29 rfl ?_
  refine m_aload dX7_span_30 rfl ?_
  refine m_getfield dX7_span_32 fl_X7_152 (by first | assumption | rfl) (by first | assumption | rfl) ?_
  show mW _ _ _ _ _ _ _ _ (.int _ :: _)
  refine m_icmp_ge (t := 48) dX7_span_35 (by decide) (fun c35 => ?_) (fun c35 => ?_)
  · refine m_bipush (v := -4) dX7_span_48 (by decide) ?_
    exact m_ireturn hF dX7_span_50 rfl rfl rfl ⟨by unfold sSpan; rw [if_pos hok, if_neg (by rw [← f2]; exact fun y => absurd c35 (Int32.not_le.mpr y))], gJ, gBk, gB2, gO⟩
  obtain ⟨kI, kL⟩ := nI_of0 (x := k) (Int32.le_iff_toInt_le.mp hok.2.1)
  have hA : tN k < s := by
    have q := Int32.lt_iff_toInt_lt.mp (Int32.not_le.mp c35)
    rw [kI, nI_toInt kL, nI_toInt (by omega)] at q
    show k.toInt.toNat < _
    omega
  have hlt : ∀ _ : Unit, k < nI (spn 0 S.1).1.2.2 := fun _ => by rw [← f2]; exact Int32.not_le.mp c35
  have hix : mIx k (tN k) 32 := ⟨by have hk0 : 0 ≤ k.toInt := Int32.le_iff_toInt_le.mp hok.2.1; show k.toInt = ((k.toInt.toNat : Nat) : Int); omega, by omega⟩
  refine m_aload dX7_span_38 rfl ?_
  refine m_iload_n dX7_span_40 rfl ?_
  refine m_iload_n dX7_span_41 rfl ?_
  show mW K _ 0 0 n hp' 42 _ [.int w, .int k, .ref _]
  refine m_cArg (v := nI (tN k)) kI ?_
  refine m_invV_I dX7_span_42 lk_X7_153 ar_X5_endOf (ci := 5) rfl rfl (by first | assumption | rfl) (t_endOf_54 e1 e4 e5 (show tN k < 32 by omega) hok.2.2) rfl (Nat.le_of_ble_eq_true rfl) (by decide) (by decide) (by decide) (by decide) rfl rfl ?_
  try rw [va_uu]
  refine m_goto (t := 50) dX7_span_45 (by decide) ?_
  exact m_ireturn hF dX7_span_50 rfl rfl rfl ⟨by unfold sSpan spEnd; rw [if_pos hok, if_pos (hlt ()), ← (f3 _ hA).1, ← (f3 _ hA).2], gJ, gBk, gB2, gO⟩

set_option maxHeartbeats 400000 in
set_option maxRecDepth 100000 in
theorem t_X7_widest_54 {n : Nat} {hp : mHp} {S : TS} {kf : Int32} (h0 : cTop hp kf) (hS : cTold hp S) (hJ : cJudge hp) (hB1 : cBk54 hp) (hB2 : cBk60 hp) {k w : Int32} : mC D_X7_widest [.ref 0, .int 0, .int k, .int w] n hp (fun r hp' => r = some (.int (sWidest S 0 k w)) ∧ cJudge hp' ∧ cBk54 hp' ∧ cBk60 hp' ∧ ∀ q, (q < 44 ∨ 65 < q) → hp' q = hp q) := by
  refine m_enter rfl rfl (Nat.le_of_ble_eq_true rfl) (fun K hF => ?_)
  show mW K _ 0 0 _ _ 0 [.ref 0, .int 0, .int k, .int w, .retAddr 0] []
  have hS0 := hS
  have a0 : hp 0 = eO 7 (oTop kf) := h0
  obtain ⟨⟨P, g, d, p1, p2, p3⟩, hH⟩ := hS
  obtain ⟨v1, v2, v3⟩ := vec_set p3
  have hS1 : cSet hp 1 S.1 := ⟨P, g, d, p1, p2, p3⟩
  obtain ⟨w0, G0, D0, PP0, k1, k2, k3, -⟩ := id hH
  refine m_iload_n dX7_widest_0 rfl ?_
  refine m_iconst (v := 2) dX7_widest_1 (by decide) ?_
  refine m_invS_I dX7_widest_2 lk_X7_73 ar_X7_isChoice (t_X7_isChoice) rfl (Nat.le_of_ble_eq_true rfl) (by decide) (by decide) (by decide) (by decide) rfl rfl ?_
  try rw [va_uu]
  refine m_if_eq (t := 20) dX7_widest_5 (by decide) (fun c5 => ?_) (fun c5 => ?_)
  · refine m_iconst (v := -1) dX7_widest_20 (by decide) ?_
    exact m_ireturn hF dX7_widest_21 rfl rfl rfl ⟨by unfold sWidest; rw [if_neg (by rintro ⟨y0, y1, y2⟩; first | exact ch_no (by decide) (by assumption : chI 0 (nI 2) = 0) y0 | exact absurd c9 (Int32.not_lt.mpr y1) | exact ch_no (by decide) (by assumption : chI w (nI 2) = 0) y2)], hJ, hB1, hB2, fun _ _ => rfl⟩
  refine m_iload_n dX7_widest_8 rfl ?_
  refine m_if_lt (t := 20) dX7_widest_9 (by decide) (fun c9 => ?_) (fun c9 => ?_)
  · refine m_iconst (v := -1) dX7_widest_20 (by decide) ?_
    exact m_ireturn hF dX7_widest_21 rfl rfl rfl ⟨by unfold sWidest; rw [if_neg (by rintro ⟨y0, y1, y2⟩; first | exact ch_no (by decide) (by assumption : chI 0 (nI 2) = 0) y0 | exact absurd c9 (Int32.not_lt.mpr y1) | exact ch_no (by decide) (by assumption : chI w (nI 2) = 0) y2)], hJ, hB1, hB2, fun _ _ => rfl⟩
  refine m_iload_n dX7_widest_12 rfl ?_
  refine m_iconst (v := 2) dX7_widest_13 (by decide) ?_
  refine m_invS_I dX7_widest_14 lk_X7_73 ar_X7_isChoice (t_X7_isChoice) rfl (Nat.le_of_ble_eq_true rfl) (by decide) (by decide) (by decide) (by decide) rfl rfl ?_
  try rw [va_uu]
  refine m_if_ne (t := 22) dX7_widest_17 (by decide) (fun c17 => ?_) (fun c17 => ?_)
  rotate_left
  · refine m_iconst (v := -1) dX7_widest_20 (by decide) ?_
    exact m_ireturn hF dX7_widest_21 rfl rfl rfl ⟨by unfold sWidest; rw [if_neg (by rintro ⟨y0, y1, y2⟩; first | exact ch_no (by decide) (by assumption : chI 0 (nI 2) = 0) y0 | exact absurd c9 (Int32.not_lt.mpr y1) | exact ch_no (by decide) (by assumption : chI w (nI 2) = 0) y2)], hJ, hB1, hB2, fun _ _ => rfl⟩
  have hok : inC 0 2 ∧ 0 ≤ k ∧ inC w 2 := ⟨ch_ok (by decide) c5, Int32.not_lt.mp c9, ch_ok (by decide) c17⟩
  refine m_aload_n dX7_widest_22 rfl ?_
  refine m_iload_n dX7_widest_23 rfl ?_
  refine m_invV dX7_widest_24 lk_X7_148 ar_X7_bookOf (ci := 7) rfl rfl (by first | assumption | rfl) (t_X7_bookOf_54 h0 hS0 hJ hB1 hB2) rfl (Nat.le_of_ble_eq_true rfl) (by decide) (by decide) (by decide) (by decide) (fun v hp' q => ?_)
  obtain ⟨rfl, gJ, gB, gB2, gO⟩ := q
  have gBk := gB.bk
  obtain ⟨s, sg, A, LO, LE, GR, BW, e1, e2, e3, e4, e5, e6, e7, e8, e9⟩ := gB
  have f1 := bkOk_eq e9 e8
  have f2 : s = (spn 0 S.1).1.2.2 := f1.1.1
  have f3 : ∀ t, t < s → LE t = (spn 0 S.1).1.1 t ∧ GR t = (spn 0 S.1).1.2.1 t := f1.1.2
  show mW K _ 0 0 n hp' 27 [.ref 0, .int 0, .int k, .int w, .retAddr 0] [.ref 54]
  refine m_astore dX7_widest_27 (by decide) ?_
  show mW _ _ _ _ _ _ 29 [_, _, _, _, _] _
  refine m_iload_n dX7_widest_29 rfl ?_
  refine m_aload dX7_widest_30 rfl ?_
  refine m_getfield dX7_widest_32 fl_X7_152 (by first | assumption | rfl) (by first | assumption | rfl) ?_
  show mW _ _ _ _ _ _ _ _ (.int _ :: _)
  refine m_icmp_ge (t := 54) dX7_widest_35 (by decide) (fun c35 => ?_) (fun c35 => ?_)
  · refine m_bipush (v := -4) dX7_widest_54 (by decide) ?_
    exact m_ireturn hF dX7_widest_56 rfl rfl rfl ⟨by unfold sWidest; rw [if_pos hok, if_neg (by rw [← f2]; exact fun y => absurd c35 (Int32.not_le.mpr y))], gJ, gBk, gB2, gO⟩
  obtain ⟨kI, kL⟩ := nI_of0 (x := k) (Int32.le_iff_toInt_le.mp hok.2.1)
  have hA : tN k < s := by
    have q := Int32.lt_iff_toInt_lt.mp (Int32.not_le.mp c35)
    rw [kI, nI_toInt kL, nI_toInt (by omega)] at q
    show k.toInt.toNat < _
    omega
  have hlt : ∀ _ : Unit, k < nI (spn 0 S.1).1.2.2 := fun _ => by rw [← f2]; exact Int32.not_le.mp c35
  have hix : mIx k (tN k) 32 := ⟨by have hk0 : 0 ≤ k.toInt := Int32.le_iff_toInt_le.mp hok.2.1; show k.toInt = ((k.toInt.toNat : Nat) : Int); omega, by omega⟩
  obtain ⟨i, hi, ei, eX0⟩ := spWd_eq f1.1 f1.2.2 e7 hA
  have eX : ∀ _ : Unit, spWd (spn 0 S.1).1 (tN k) = i := fun _ => eX0
  clear eX0
  refine m_aload dX7_widest_38 rfl ?_
  refine m_aload dX7_widest_40 rfl ?_
  refine m_getfield dX7_widest_42 fl_X7_157 (by first | assumption | rfl) (by first | assumption | rfl) ?_
  show mW _ _ _ _ _ _ _ _ (.ref _ :: _)
  refine m_iload_n dX7_widest_45 rfl ?_
  refine m_iaload dX7_widest_46 (by first | assumption | rfl) hix ?_
  refine m_ci (v := nI i) ei ?_
  refine m_iload_n dX7_widest_47 rfl ?_
  refine m_invV_I dX7_widest_48 lk_X7_153 ar_X5_endOf (ci := 5) rfl rfl (by first | assumption | rfl) (t_endOf_54 e1 e4 e5 (show i < 32 by omega) hok.2.2) rfl (Nat.le_of_ble_eq_true rfl) (by decide) (by decide) (by decide) (by decide) rfl rfl ?_
  try rw [va_uu]
  refine m_goto (t := 56) dX7_widest_51 (by decide) ?_
  exact m_ireturn hF dX7_widest_56 rfl rfl rfl ⟨by unfold sWidest spEnd; rw [if_pos hok, if_pos (hlt ()), eX (), ← (f3 _ hi).1, ← (f3 _ hi).2], gJ, gBk, gB2, gO⟩

set_option maxHeartbeats 400000 in
set_option maxRecDepth 100000 in
theorem t_X7_spans_54 {n : Nat} {hp : mHp} {S : TS} {kf : Int32} (h0 : cTop hp kf) (hS : cTold hp S) (hJ : cJudge hp) (hB1 : cBk54 hp) (hB2 : cBk60 hp) {w : Int32} : mC D_X7_spans [.ref 0, .int 0, .int w] n hp (fun r hp' => r = some (.int (sSpans S 0 w)) ∧ cJudge hp' ∧ cBk54 hp' ∧ cBk60 hp' ∧ ∀ q, (q < 44 ∨ 65 < q) → hp' q = hp q) := by
  refine m_enter rfl rfl (Nat.le_of_ble_eq_true rfl) (fun K hF => ?_)
  show mW K _ 0 0 _ _ 0 [.ref 0, .int 0, .int w, .retAddr 0] []
  have hS0 := hS
  have a0 : hp 0 = eO 7 (oTop kf) := h0
  obtain ⟨⟨P, g, d, p1, p2, p3⟩, hH⟩ := hS
  obtain ⟨v1, v2, v3⟩ := vec_set p3
  have hS1 : cSet hp 1 S.1 := ⟨P, g, d, p1, p2, p3⟩
  obtain ⟨w0, G0, D0, PP0, k1, k2, k3, -⟩ := id hH
  refine m_iload_n dX7_spans_0 rfl ?_
  refine m_iconst (v := 2) dX7_spans_1 (by decide) ?_
  refine m_invS_I dX7_spans_2 lk_X7_73 ar_X7_isChoice (t_X7_isChoice) rfl (Nat.le_of_ble_eq_true rfl) (by decide) (by decide) (by decide) (by decide) rfl rfl ?_
  try rw [va_uu]
  refine m_if_eq (t := 16) dX7_spans_5 (by decide) (fun c5 => ?_) (fun c5 => ?_)
  · refine m_iconst (v := -1) dX7_spans_16 (by decide) ?_
    exact m_ireturn hF dX7_spans_17 rfl rfl rfl ⟨by unfold sSpans; rw [if_neg (by rintro ⟨y0, y1⟩; first | exact ch_no (by decide) (by assumption : chI 0 (nI 2) = 0) y0 | exact ch_no (by decide) (by assumption : chI w (nI 2) = 0) y1)], hJ, hB1, hB2, fun _ _ => rfl⟩
  refine m_iload_n dX7_spans_8 rfl ?_
  refine m_iconst (v := 2) dX7_spans_9 (by decide) ?_
  refine m_invS_I dX7_spans_10 lk_X7_73 ar_X7_isChoice (t_X7_isChoice) rfl (Nat.le_of_ble_eq_true rfl) (by decide) (by decide) (by decide) (by decide) rfl rfl ?_
  try rw [va_uu]
  refine m_if_ne (t := 18) dX7_spans_13 (by decide) (fun c13 => ?_) (fun c13 => ?_)
  rotate_left
  · refine m_iconst (v := -1) dX7_spans_16 (by decide) ?_
    exact m_ireturn hF dX7_spans_17 rfl rfl rfl ⟨by unfold sSpans; rw [if_neg (by rintro ⟨y0, y1⟩; first | exact ch_no (by decide) (by assumption : chI 0 (nI 2) = 0) y0 | exact ch_no (by decide) (by assumption : chI w (nI 2) = 0) y1)], hJ, hB1, hB2, fun _ _ => rfl⟩
  have hok : inC 0 2 ∧ inC w 2 := ⟨ch_ok (by decide) c5, ch_ok (by decide) c13⟩
  refine m_aload_n dX7_spans_18 rfl ?_
  refine m_iload_n dX7_spans_19 rfl ?_
  refine m_invV dX7_spans_20 lk_X7_148 ar_X7_bookOf (ci := 7) rfl rfl (by first | assumption | rfl) (t_X7_bookOf_54 h0 hS0 hJ hB1 hB2) rfl (Nat.le_of_ble_eq_true rfl) (by decide) (by decide) (by decide) (by decide) (fun v hp' q => ?_)
  obtain ⟨rfl, gJ, gB, gB2, gO⟩ := q
  have gBk := gB.bk
  obtain ⟨s, sg, A, LO, LE, GR, BW, e1, e2, e3, e4, e5, e6, e7, e8, e9⟩ := gB
  have f1 := bkOk_eq e9 e8
  have f2 : s = (spn 0 S.1).1.2.2 := f1.1.1
  have f3 : ∀ t, t < s → LE t = (spn 0 S.1).1.1 t ∧ GR t = (spn 0 S.1).1.2.1 t := f1.1.2
  show mW K _ 0 0 n hp' 23 [.ref 0, .int 0, .int w, .retAddr 0] [.ref 54]
  refine m_astore_n dX7_spans_23 (by decide) ?_
  show mW _ _ _ _ _ _ 24 [_, _, _, _] _
  refine m_iload_n dX7_spans_24 rfl ?_
  refine m_if_ne (t := 35) dX7_spans_25 (by decide) (fun c25 => ?_) (fun c25 => ?_)
  · refine m_aload_n dX7_spans_35 rfl ?_
    refine m_getfield dX7_spans_36 fl_X7_160 (by first | assumption | rfl) (by first | assumption | rfl) ?_
    show mW _ _ _ _ _ _ _ _ (.int _ :: _)
    exact m_ireturn hF dX7_spans_39 rfl rfl rfl ⟨by unfold sSpans; rw [if_pos hok, if_neg c25]; exact congrArg (fun z => some (Value.int z)) f1.2.1, gJ, gBk, gB2, gO⟩
  refine m_aload_n dX7_spans_28 rfl ?_
  refine m_getfield dX7_spans_29 fl_X7_152 (by first | assumption | rfl) (by first | assumption | rfl) ?_
  show mW _ _ _ _ _ _ _ _ (.int _ :: _)
  refine m_goto (t := 39) dX7_spans_32 (by decide) ?_
  exact m_ireturn hF dX7_spans_39 rfl rfl rfl ⟨by unfold sSpans; rw [if_pos hok, if_pos c25, ← f2], gJ, gBk, gB2, gO⟩

theorem t_endOf_60 {n : Nat} {hp : mHp} {LE GR : Nat → Int32} {md sz sg w : Int32} {k : Nat} (h0 : hp 60 = eO 5 (oBk60 md sz sg)) (h3 : hp 63 = eI 32 LE) (h4 : hp 64 = eI 32 GR) (hk : k < 32) (hw : inC w 2) : mC D_X5_endOf [.ref 60, .int (nI k), .int w] n hp (rI ((if w = 0 then LE k else GR k) + 800) hp) := by
  obtain ⟨x, hx, rfl, -⟩ := inC_N hw
  match x, hx with
  | 0, _ => exact t_X5_endOf_60_0 h0 h3 h4 hk
  | 1, _ => exact t_X5_endOf_60_1 h0 h3 h4 hk
set_option maxHeartbeats 400000 in
set_option maxRecDepth 100000 in
theorem t_X7_bookOf_60 {n : Nat} {hp : mHp} {S : TS} {kf : Int32} (h0 : cTop hp kf) (hS : cTold hp S) (hJ : cJudge hp) (hB1 : cBk54 hp) (hB2 : cBk60 hp) : mC D_X7_bookOf [.ref 0, .int 1] n hp (fun r hp' => r = some (.ref 60) ∧ cJudge hp' ∧ cBn60 hp' S.1 ∧ cBk54 hp' ∧ ∀ q, (q < 44 ∨ 65 < q) → hp' q = hp q) := by
  refine m_enter rfl rfl (Nat.le_of_ble_eq_true rfl) (fun K hF => ?_)
  show mW K _ 0 0 _ _ 0 [.ref 0, .int 1, .retAddr 0] []
  have hS0 := hS.1
  have a0 : hp 0 = eO 7 (oTop kf) := h0
  obtain ⟨⟨P, g, d, p1, p2, p3⟩, hH⟩ := hS
  obtain ⟨v1, v2, v3⟩ := vec_set p3
  have hS1 : cSet hp 1 S.1 := ⟨P, g, d, p1, p2, p3⟩
  obtain ⟨w0, G0, D0, PP0, k1, k2, k3, -⟩ := id hH
  obtain ⟨-, -, -, ri1, ev1, le1, -, -, j2, -, -⟩ := id hJ
  obtain ⟨md, s, sg, A, LO, LE, GR, BW, b1, -⟩ := id hB2
  refine m_iload_n dX7_bookOf_0 rfl ?_
  refine m_if_ne (t := 11) dX7_bookOf_1 (by decide) (fun _ => ?_) (fun q => absurd q (by decide))
  refine m_aload_n dX7_bookOf_11 rfl ?_
  refine m_getfield dX7_bookOf_12 fl_X7_66 (by first | assumption | rfl) (by first | assumption | rfl) ?_
  show mW _ _ _ _ _ _ _ _ (.ref _ :: _)
  refine m_astore_n dX7_bookOf_15 (by decide) ?_
  show mW _ _ _ _ _ _ 16 [_, _, _] _
  refine m_aload_n dX7_bookOf_16 rfl ?_
  refine m_aload_n dX7_bookOf_17 rfl ?_
  refine m_getfield dX7_bookOf_18 fl_X7_12 (by first | assumption | rfl) (by first | assumption | rfl) ?_
  show mW _ _ _ _ _ _ _ _ (.ref _ :: _)
  refine m_aload_n dX7_bookOf_21 rfl ?_
  refine m_getfield dX7_bookOf_22 fl_X7_53 (by first | assumption | rfl) (by first | assumption | rfl) ?_
  show mW _ _ _ _ _ _ _ _ (.ref _ :: _)
  refine m_invV dX7_bookOf_25 lk_X7_265 ar_X5_refresh (ci := 5) rfl rfl (by first | assumption | rfl) (t_X5_refresh_60 hS0 hB2 hJ) rfl (Nat.le_of_ble_eq_true rfl) (by decide) (by decide) (by decide) (by decide) (fun v hp' q => ?_)
  obtain ⟨rfl, gJ, gB, gO⟩ := q
  show mW K _ 0 0 n hp' 28 [.ref 0, .int 1, .ref 60] []
  refine m_aload_n dX7_bookOf_28 rfl ?_
  exact m_areturn hF dX7_bookOf_29 rfl (Or.inl ⟨_, rfl⟩) rfl rfl ⟨rfl, gJ, gB, hB1.of (fun q r1 r2 => gO q (by omega) (by omega)), fun q hq => gO q (by omega) (by omega)⟩

set_option maxHeartbeats 400000 in
set_option maxRecDepth 100000 in
theorem t_X7_span_60 {n : Nat} {hp : mHp} {S : TS} {kf : Int32} (h0 : cTop hp kf) (hS : cTold hp S) (hJ : cJudge hp) (hB1 : cBk54 hp) (hB2 : cBk60 hp) {k w : Int32} : mC D_X7_span [.ref 0, .int 1, .int k, .int w] n hp (fun r hp' => r = some (.int (sSpan S 1 k w)) ∧ cJudge hp' ∧ cBk54 hp' ∧ cBk60 hp' ∧ ∀ q, (q < 44 ∨ 65 < q) → hp' q = hp q) := by
  refine m_enter rfl rfl (Nat.le_of_ble_eq_true rfl) (fun K hF => ?_)
  show mW K _ 0 0 _ _ 0 [.ref 0, .int 1, .int k, .int w, .retAddr 0] []
  have hS0 := hS
  have a0 : hp 0 = eO 7 (oTop kf) := h0
  obtain ⟨⟨P, g, d, p1, p2, p3⟩, hH⟩ := hS
  obtain ⟨v1, v2, v3⟩ := vec_set p3
  have hS1 : cSet hp 1 S.1 := ⟨P, g, d, p1, p2, p3⟩
  obtain ⟨w0, G0, D0, PP0, k1, k2, k3, -⟩ := id hH
  refine m_iload_n dX7_span_0 rfl ?_
  refine m_iconst (v := 2) dX7_span_1 (by decide) ?_
  refine m_invS_I dX7_span_2 lk_X7_73 ar_X7_isChoice (t_X7_isChoice) rfl (Nat.le_of_ble_eq_true rfl) (by decide) (by decide) (by decide) (by decide) rfl rfl ?_
  try rw [va_uu]
  refine m_if_eq (t := 20) dX7_span_5 (by decide) (fun c5 => ?_) (fun c5 => ?_)
  · refine m_iconst (v := -1) dX7_span_20 (by decide) ?_
    exact m_ireturn hF dX7_span_21 rfl rfl rfl ⟨by unfold sSpan; rw [if_neg (by rintro ⟨y0, y1, y2⟩; first | exact ch_no (by decide) (by assumption : chI 1 (nI 2) = 0) y0 | exact absurd c9 (Int32.not_lt.mpr y1) | exact ch_no (by decide) (by assumption : chI w (nI 2) = 0) y2)], hJ, hB1, hB2, fun _ _ => rfl⟩
  refine m_iload_n dX7_span_8 rfl ?_
  refine m_if_lt (t := 20) dX7_span_9 (by decide) (fun c9 => ?_) (fun c9 => ?_)
  · refine m_iconst (v := -1) dX7_span_20 (by decide) ?_
    exact m_ireturn hF dX7_span_21 rfl rfl rfl ⟨by unfold sSpan; rw [if_neg (by rintro ⟨y0, y1, y2⟩; first | exact ch_no (by decide) (by assumption : chI 1 (nI 2) = 0) y0 | exact absurd c9 (Int32.not_lt.mpr y1) | exact ch_no (by decide) (by assumption : chI w (nI 2) = 0) y2)], hJ, hB1, hB2, fun _ _ => rfl⟩
  refine m_iload_n dX7_span_12 rfl ?_
  refine m_iconst (v := 2) dX7_span_13 (by decide) ?_
  refine m_invS_I dX7_span_14 lk_X7_73 ar_X7_isChoice (t_X7_isChoice) rfl (Nat.le_of_ble_eq_true rfl) (by decide) (by decide) (by decide) (by decide) rfl rfl ?_
  try rw [va_uu]
  refine m_if_ne (t := 22) dX7_span_17 (by decide) (fun c17 => ?_) (fun c17 => ?_)
  rotate_left
  · refine m_iconst (v := -1) dX7_span_20 (by decide) ?_
    exact m_ireturn hF dX7_span_21 rfl rfl rfl ⟨by unfold sSpan; rw [if_neg (by rintro ⟨y0, y1, y2⟩; first | exact ch_no (by decide) (by assumption : chI 1 (nI 2) = 0) y0 | exact absurd c9 (Int32.not_lt.mpr y1) | exact ch_no (by decide) (by assumption : chI w (nI 2) = 0) y2)], hJ, hB1, hB2, fun _ _ => rfl⟩
  have hok : inC 1 2 ∧ 0 ≤ k ∧ inC w 2 := ⟨ch_ok (by decide) c5, Int32.not_lt.mp c9, ch_ok (by decide) c17⟩
  refine m_aload_n dX7_span_22 rfl ?_
  refine m_iload_n dX7_span_23 rfl ?_
  refine m_invV dX7_span_24 lk_X7_148 ar_X7_bookOf (ci := 7) rfl rfl (by first | assumption | rfl) (t_X7_bookOf_60 h0 hS0 hJ hB1 hB2) rfl (Nat.le_of_ble_eq_true rfl) (by decide) (by decide) (by decide) (by decide) (fun v hp' q => ?_)
  obtain ⟨rfl, gJ, gB, gB2, gO⟩ := q
  have gBk := gB.bk
  obtain ⟨s, sg, A, LO, LE, GR, BW, e1, e2, e3, e4, e5, e6, e7, e8, e9⟩ := gB
  have f1 := bkOk_eq e9 e8
  have f2 : s = (spn 1 S.1).1.2.2 := f1.1.1
  have f3 : ∀ t, t < s → LE t = (spn 1 S.1).1.1 t ∧ GR t = (spn 1 S.1).1.2.1 t := f1.1.2
  show mW K _ 0 0 n hp' 27 [.ref 0, .int 1, .int k, .int w, .retAddr 0] [.ref 60]
  refine m_astore dX7_span_27 (by decide) ?_
  show mW _ _ _ _ _ _ 29 [_, _, _, _, _] _
  refine m_iload_n dX7_span_29 rfl ?_
  refine m_aload dX7_span_30 rfl ?_
  refine m_getfield dX7_span_32 fl_X7_152 (by first | assumption | rfl) (by first | assumption | rfl) ?_
  show mW _ _ _ _ _ _ _ _ (.int _ :: _)
  refine m_icmp_ge (t := 48) dX7_span_35 (by decide) (fun c35 => ?_) (fun c35 => ?_)
  · refine m_bipush (v := -4) dX7_span_48 (by decide) ?_
    exact m_ireturn hF dX7_span_50 rfl rfl rfl ⟨by unfold sSpan; rw [if_pos hok, if_neg (by rw [← f2]; exact fun y => absurd c35 (Int32.not_le.mpr y))], gJ, gB2, gBk, gO⟩
  obtain ⟨kI, kL⟩ := nI_of0 (x := k) (Int32.le_iff_toInt_le.mp hok.2.1)
  have hA : tN k < s := by
    have q := Int32.lt_iff_toInt_lt.mp (Int32.not_le.mp c35)
    rw [kI, nI_toInt kL, nI_toInt (by omega)] at q
    show k.toInt.toNat < _
    omega
  have hlt : ∀ _ : Unit, k < nI (spn 1 S.1).1.2.2 := fun _ => by rw [← f2]; exact Int32.not_le.mp c35
  have hix : mIx k (tN k) 32 := ⟨by have hk0 : 0 ≤ k.toInt := Int32.le_iff_toInt_le.mp hok.2.1; show k.toInt = ((k.toInt.toNat : Nat) : Int); omega, by omega⟩
  refine m_aload dX7_span_38 rfl ?_
  refine m_iload_n dX7_span_40 rfl ?_
  refine m_iload_n dX7_span_41 rfl ?_
  show mW K _ 0 0 n hp' 42 _ [.int w, .int k, .ref _]
  refine m_cArg (v := nI (tN k)) kI ?_
  refine m_invV_I dX7_span_42 lk_X7_153 ar_X5_endOf (ci := 5) rfl rfl (by first | assumption | rfl) (t_endOf_60 e1 e4 e5 (show tN k < 32 by omega) hok.2.2) rfl (Nat.le_of_ble_eq_true rfl) (by decide) (by decide) (by decide) (by decide) rfl rfl ?_
  try rw [va_uu]
  refine m_goto (t := 50) dX7_span_45 (by decide) ?_
  exact m_ireturn hF dX7_span_50 rfl rfl rfl ⟨by unfold sSpan spEnd; rw [if_pos hok, if_pos (hlt ()), ← (f3 _ hA).1, ← (f3 _ hA).2], gJ, gB2, gBk, gO⟩

set_option maxHeartbeats 400000 in
set_option maxRecDepth 100000 in
theorem t_X7_widest_60 {n : Nat} {hp : mHp} {S : TS} {kf : Int32} (h0 : cTop hp kf) (hS : cTold hp S) (hJ : cJudge hp) (hB1 : cBk54 hp) (hB2 : cBk60 hp) {k w : Int32} : mC D_X7_widest [.ref 0, .int 1, .int k, .int w] n hp (fun r hp' => r = some (.int (sWidest S 1 k w)) ∧ cJudge hp' ∧ cBk54 hp' ∧ cBk60 hp' ∧ ∀ q, (q < 44 ∨ 65 < q) → hp' q = hp q) := by
  refine m_enter rfl rfl (Nat.le_of_ble_eq_true rfl) (fun K hF => ?_)
  show mW K _ 0 0 _ _ 0 [.ref 0, .int 1, .int k, .int w, .retAddr 0] []
  have hS0 := hS
  have a0 : hp 0 = eO 7 (oTop kf) := h0
  obtain ⟨⟨P, g, d, p1, p2, p3⟩, hH⟩ := hS
  obtain ⟨v1, v2, v3⟩ := vec_set p3
  have hS1 : cSet hp 1 S.1 := ⟨P, g, d, p1, p2, p3⟩
  obtain ⟨w0, G0, D0, PP0, k1, k2, k3, -⟩ := id hH
  refine m_iload_n dX7_widest_0 rfl ?_
  refine m_iconst (v := 2) dX7_widest_1 (by decide) ?_
  refine m_invS_I dX7_widest_2 lk_X7_73 ar_X7_isChoice (t_X7_isChoice) rfl (Nat.le_of_ble_eq_true rfl) (by decide) (by decide) (by decide) (by decide) rfl rfl ?_
  try rw [va_uu]
  refine m_if_eq (t := 20) dX7_widest_5 (by decide) (fun c5 => ?_) (fun c5 => ?_)
  · refine m_iconst (v := -1) dX7_widest_20 (by decide) ?_
    exact m_ireturn hF dX7_widest_21 rfl rfl rfl ⟨by unfold sWidest; rw [if_neg (by rintro ⟨y0, y1, y2⟩; first | exact ch_no (by decide) (by assumption : chI 1 (nI 2) = 0) y0 | exact absurd c9 (Int32.not_lt.mpr y1) | exact ch_no (by decide) (by assumption : chI w (nI 2) = 0) y2)], hJ, hB1, hB2, fun _ _ => rfl⟩
  refine m_iload_n dX7_widest_8 rfl ?_
  refine m_if_lt (t := 20) dX7_widest_9 (by decide) (fun c9 => ?_) (fun c9 => ?_)
  · refine m_iconst (v := -1) dX7_widest_20 (by decide) ?_
    exact m_ireturn hF dX7_widest_21 rfl rfl rfl ⟨by unfold sWidest; rw [if_neg (by rintro ⟨y0, y1, y2⟩; first | exact ch_no (by decide) (by assumption : chI 1 (nI 2) = 0) y0 | exact absurd c9 (Int32.not_lt.mpr y1) | exact ch_no (by decide) (by assumption : chI w (nI 2) = 0) y2)], hJ, hB1, hB2, fun _ _ => rfl⟩
  refine m_iload_n dX7_widest_12 rfl ?_
  refine m_iconst (v := 2) dX7_widest_13 (by decide) ?_
  refine m_invS_I dX7_widest_14 lk_X7_73 ar_X7_isChoice (t_X7_isChoice) rfl (Nat.le_of_ble_eq_true rfl) (by decide) (by decide) (by decide) (by decide) rfl rfl ?_
  try rw [va_uu]
  refine m_if_ne (t := 22) dX7_widest_17 (by decide) (fun c17 => ?_) (fun c17 => ?_)
  rotate_left
  · refine m_iconst (v := -1) dX7_widest_20 (by decide) ?_
    exact m_ireturn hF dX7_widest_21 rfl rfl rfl ⟨by unfold sWidest; rw [if_neg (by rintro ⟨y0, y1, y2⟩; first | exact ch_no (by decide) (by assumption : chI 1 (nI 2) = 0) y0 | exact absurd c9 (Int32.not_lt.mpr y1) | exact ch_no (by decide) (by assumption : chI w (nI 2) = 0) y2)], hJ, hB1, hB2, fun _ _ => rfl⟩
  have hok : inC 1 2 ∧ 0 ≤ k ∧ inC w 2 := ⟨ch_ok (by decide) c5, Int32.not_lt.mp c9, ch_ok (by decide) c17⟩
  refine m_aload_n dX7_widest_22 rfl ?_
  refine m_iload_n dX7_widest_23 rfl ?_
  refine m_invV dX7_widest_24 lk_X7_148 ar_X7_bookOf (ci := 7) rfl rfl (by first | assumption | rfl) (t_X7_bookOf_60 h0 hS0 hJ hB1 hB2) rfl (Nat.le_of_ble_eq_true rfl) (by decide) (by decide) (by decide) (by decide) (fun v hp' q => ?_)
  obtain ⟨rfl, gJ, gB, gB2, gO⟩ := q
  have gBk := gB.bk
  obtain ⟨s, sg, A, LO, LE, GR, BW, e1, e2, e3, e4, e5, e6, e7, e8, e9⟩ := gB
  have f1 := bkOk_eq e9 e8
  have f2 : s = (spn 1 S.1).1.2.2 := f1.1.1
  have f3 : ∀ t, t < s → LE t = (spn 1 S.1).1.1 t ∧ GR t = (spn 1 S.1).1.2.1 t := f1.1.2
  show mW K _ 0 0 n hp' 27 [.ref 0, .int 1, .int k, .int w, .retAddr 0] [.ref 60]
  refine m_astore dX7_widest_27 (by decide) ?_
  show mW _ _ _ _ _ _ 29 [_, _, _, _, _] _
  refine m_iload_n dX7_widest_29 rfl ?_
  refine m_aload dX7_widest_30 rfl ?_
  refine m_getfield dX7_widest_32 fl_X7_152 (by first | assumption | rfl) (by first | assumption | rfl) ?_
  show mW _ _ _ _ _ _ _ _ (.int _ :: _)
  refine m_icmp_ge (t := 54) dX7_widest_35 (by decide) (fun c35 => ?_) (fun c35 => ?_)
  · refine m_bipush (v := -4) dX7_widest_54 (by decide) ?_
    exact m_ireturn hF dX7_widest_56 rfl rfl rfl ⟨by unfold sWidest; rw [if_pos hok, if_neg (by rw [← f2]; exact fun y => absurd c35 (Int32.not_le.mpr y))], gJ, gB2, gBk, gO⟩
  obtain ⟨kI, kL⟩ := nI_of0 (x := k) (Int32.le_iff_toInt_le.mp hok.2.1)
  have hA : tN k < s := by
    have q := Int32.lt_iff_toInt_lt.mp (Int32.not_le.mp c35)
    rw [kI, nI_toInt kL, nI_toInt (by omega)] at q
    show k.toInt.toNat < _
    omega
  have hlt : ∀ _ : Unit, k < nI (spn 1 S.1).1.2.2 := fun _ => by rw [← f2]; exact Int32.not_le.mp c35
  have hix : mIx k (tN k) 32 := ⟨by have hk0 : 0 ≤ k.toInt := Int32.le_iff_toInt_le.mp hok.2.1; show k.toInt = ((k.toInt.toNat : Nat) : Int); omega, by omega⟩
  obtain ⟨i, hi, ei, eX0⟩ := spWd_eq f1.1 f1.2.2 e7 hA
  have eX : ∀ _ : Unit, spWd (spn 1 S.1).1 (tN k) = i := fun _ => eX0
  clear eX0
  refine m_aload dX7_widest_38 rfl ?_
  refine m_aload dX7_widest_40 rfl ?_
  refine m_getfield dX7_widest_42 fl_X7_157 (by first | assumption | rfl) (by first | assumption | rfl) ?_
  show mW _ _ _ _ _ _ _ _ (.ref _ :: _)
  refine m_iload_n dX7_widest_45 rfl ?_
  refine m_iaload dX7_widest_46 (by first | assumption | rfl) hix ?_
  refine m_ci (v := nI i) ei ?_
  refine m_iload_n dX7_widest_47 rfl ?_
  refine m_invV_I dX7_widest_48 lk_X7_153 ar_X5_endOf (ci := 5) rfl rfl (by first | assumption | rfl) (t_endOf_60 e1 e4 e5 (show i < 32 by omega) hok.2.2) rfl (Nat.le_of_ble_eq_true rfl) (by decide) (by decide) (by decide) (by decide) rfl rfl ?_
  try rw [va_uu]
  refine m_goto (t := 56) dX7_widest_51 (by decide) ?_
  exact m_ireturn hF dX7_widest_56 rfl rfl rfl ⟨by unfold sWidest spEnd; rw [if_pos hok, if_pos (hlt ()), eX (), ← (f3 _ hi).1, ← (f3 _ hi).2], gJ, gB2, gBk, gO⟩

set_option maxHeartbeats 400000 in
set_option maxRecDepth 100000 in
theorem t_X7_spans_60 {n : Nat} {hp : mHp} {S : TS} {kf : Int32} (h0 : cTop hp kf) (hS : cTold hp S) (hJ : cJudge hp) (hB1 : cBk54 hp) (hB2 : cBk60 hp) {w : Int32} : mC D_X7_spans [.ref 0, .int 1, .int w] n hp (fun r hp' => r = some (.int (sSpans S 1 w)) ∧ cJudge hp' ∧ cBk54 hp' ∧ cBk60 hp' ∧ ∀ q, (q < 44 ∨ 65 < q) → hp' q = hp q) := by
  refine m_enter rfl rfl (Nat.le_of_ble_eq_true rfl) (fun K hF => ?_)
  show mW K _ 0 0 _ _ 0 [.ref 0, .int 1, .int w, .retAddr 0] []
  have hS0 := hS
  have a0 : hp 0 = eO 7 (oTop kf) := h0
  obtain ⟨⟨P, g, d, p1, p2, p3⟩, hH⟩ := hS
  obtain ⟨v1, v2, v3⟩ := vec_set p3
  have hS1 : cSet hp 1 S.1 := ⟨P, g, d, p1, p2, p3⟩
  obtain ⟨w0, G0, D0, PP0, k1, k2, k3, -⟩ := id hH
  refine m_iload_n dX7_spans_0 rfl ?_
  refine m_iconst (v := 2) dX7_spans_1 (by decide) ?_
  refine m_invS_I dX7_spans_2 lk_X7_73 ar_X7_isChoice (t_X7_isChoice) rfl (Nat.le_of_ble_eq_true rfl) (by decide) (by decide) (by decide) (by decide) rfl rfl ?_
  try rw [va_uu]
  refine m_if_eq (t := 16) dX7_spans_5 (by decide) (fun c5 => ?_) (fun c5 => ?_)
  · refine m_iconst (v := -1) dX7_spans_16 (by decide) ?_
    exact m_ireturn hF dX7_spans_17 rfl rfl rfl ⟨by unfold sSpans; rw [if_neg (by rintro ⟨y0, y1⟩; first | exact ch_no (by decide) (by assumption : chI 1 (nI 2) = 0) y0 | exact ch_no (by decide) (by assumption : chI w (nI 2) = 0) y1)], hJ, hB1, hB2, fun _ _ => rfl⟩
  refine m_iload_n dX7_spans_8 rfl ?_
  refine m_iconst (v := 2) dX7_spans_9 (by decide) ?_
  refine m_invS_I dX7_spans_10 lk_X7_73 ar_X7_isChoice (t_X7_isChoice) rfl (Nat.le_of_ble_eq_true rfl) (by decide) (by decide) (by decide) (by decide) rfl rfl ?_
  try rw [va_uu]
  refine m_if_ne (t := 18) dX7_spans_13 (by decide) (fun c13 => ?_) (fun c13 => ?_)
  rotate_left
  · refine m_iconst (v := -1) dX7_spans_16 (by decide) ?_
    exact m_ireturn hF dX7_spans_17 rfl rfl rfl ⟨by unfold sSpans; rw [if_neg (by rintro ⟨y0, y1⟩; first | exact ch_no (by decide) (by assumption : chI 1 (nI 2) = 0) y0 | exact ch_no (by decide) (by assumption : chI w (nI 2) = 0) y1)], hJ, hB1, hB2, fun _ _ => rfl⟩
  have hok : inC 1 2 ∧ inC w 2 := ⟨ch_ok (by decide) c5, ch_ok (by decide) c13⟩
  refine m_aload_n dX7_spans_18 rfl ?_
  refine m_iload_n dX7_spans_19 rfl ?_
  refine m_invV dX7_spans_20 lk_X7_148 ar_X7_bookOf (ci := 7) rfl rfl (by first | assumption | rfl) (t_X7_bookOf_60 h0 hS0 hJ hB1 hB2) rfl (Nat.le_of_ble_eq_true rfl) (by decide) (by decide) (by decide) (by decide) (fun v hp' q => ?_)
  obtain ⟨rfl, gJ, gB, gB2, gO⟩ := q
  have gBk := gB.bk
  obtain ⟨s, sg, A, LO, LE, GR, BW, e1, e2, e3, e4, e5, e6, e7, e8, e9⟩ := gB
  have f1 := bkOk_eq e9 e8
  have f2 : s = (spn 1 S.1).1.2.2 := f1.1.1
  have f3 : ∀ t, t < s → LE t = (spn 1 S.1).1.1 t ∧ GR t = (spn 1 S.1).1.2.1 t := f1.1.2
  show mW K _ 0 0 n hp' 23 [.ref 0, .int 1, .int w, .retAddr 0] [.ref 60]
  refine m_astore_n dX7_spans_23 (by decide) ?_
  show mW _ _ _ _ _ _ 24 [_, _, _, _] _
  refine m_iload_n dX7_spans_24 rfl ?_
  refine m_if_ne (t := 35) dX7_spans_25 (by decide) (fun c25 => ?_) (fun c25 => ?_)
  · refine m_aload_n dX7_spans_35 rfl ?_
    refine m_getfield dX7_spans_36 fl_X7_160 (by first | assumption | rfl) (by first | assumption | rfl) ?_
    show mW _ _ _ _ _ _ _ _ (.int _ :: _)
    exact m_ireturn hF dX7_spans_39 rfl rfl rfl ⟨by unfold sSpans; rw [if_pos hok, if_neg c25]; exact congrArg (fun z => some (Value.int z)) f1.2.1, gJ, gB2, gBk, gO⟩
  refine m_aload_n dX7_spans_28 rfl ?_
  refine m_getfield dX7_spans_29 fl_X7_152 (by first | assumption | rfl) (by first | assumption | rfl) ?_
  show mW _ _ _ _ _ _ _ _ (.int _ :: _)
  refine m_goto (t := 39) dX7_spans_32 (by decide) ?_
  exact m_ireturn hF dX7_spans_39 rfl rfl rfl ⟨by unfold sSpans; rw [if_pos hok, if_pos c25, ← f2], gJ, gB2, gBk, gO⟩

set_option maxHeartbeats 400000 in
set_option maxRecDepth 100000 in
theorem t_X7_span_bad {n : Nat} {hp : mHp} {S : TS} {kf : Int32} (h0 : cTop hp kf) (hS : cTold hp S) (hJ : cJudge hp) (hB1 : cBk54 hp) (hB2 : cBk60 hp) {b k w : Int32} (hb : ¬ inC b 2) : mC D_X7_span [.ref 0, .int b, .int k, .int w] n hp (fun r hp' => r = some (.int (sSpan S b k w)) ∧ cJudge hp' ∧ cBk54 hp' ∧ cBk60 hp' ∧ ∀ q, (q < 44 ∨ 65 < q) → hp' q = hp q) := by
  refine m_enter rfl rfl (Nat.le_of_ble_eq_true rfl) (fun K hF => ?_)
  show mW K _ 0 0 _ _ 0 [.ref 0, .int b, .int k, .int w, .retAddr 0] []
  refine m_iload_n dX7_span_0 rfl ?_
  refine m_iconst (v := 2) dX7_span_1 (by decide) ?_
  refine m_invS_I dX7_span_2 lk_X7_73 ar_X7_isChoice (t_X7_isChoice) rfl (Nat.le_of_ble_eq_true rfl) (by decide) (by decide) (by decide) (by decide) rfl rfl ?_
  try rw [va_uu]
  refine m_if_eq (t := 20) dX7_span_5 (by decide) (fun c5 => ?_) (fun c5 => ?_)
  · refine m_iconst (v := -1) dX7_span_20 (by decide) ?_
    exact m_ireturn hF dX7_span_21 rfl rfl rfl ⟨by unfold sSpan; rw [if_neg (fun y => hb y.1)], hJ, hB1, hB2, fun _ _ => rfl⟩
  refine m_iload_n dX7_span_8 rfl ?_
  refine m_if_lt (t := 20) dX7_span_9 (by decide) (fun c9 => ?_) (fun c9 => ?_)
  · refine m_iconst (v := -1) dX7_span_20 (by decide) ?_
    exact m_ireturn hF dX7_span_21 rfl rfl rfl ⟨by unfold sSpan; rw [if_neg (fun y => hb y.1)], hJ, hB1, hB2, fun _ _ => rfl⟩
  refine m_iload_n dX7_span_12 rfl ?_
  refine m_iconst (v := 2) dX7_span_13 (by decide) ?_
  refine m_invS_I dX7_span_14 lk_X7_73 ar_X7_isChoice (t_X7_isChoice) rfl (Nat.le_of_ble_eq_true rfl) (by decide) (by decide) (by decide) (by decide) rfl rfl ?_
  try rw [va_uu]
  refine m_if_ne (t := 22) dX7_span_17 (by decide) (fun c17 => ?_) (fun c17 => ?_)
  · exact absurd (ch_ok (by decide) c5) hb
  refine m_iconst (v := -1) dX7_span_20 (by decide) ?_
  exact m_ireturn hF dX7_span_21 rfl rfl rfl ⟨by unfold sSpan; rw [if_neg (fun y => hb y.1)], hJ, hB1, hB2, fun _ _ => rfl⟩

theorem t_X7_span {n : Nat} {hp : mHp} {S : TS} {kf : Int32} (h0 : cTop hp kf) (hS : cTold hp S) (hJ : cJudge hp) (hB1 : cBk54 hp) (hB2 : cBk60 hp) {b k w : Int32} : mC D_X7_span [.ref 0, .int b, .int k, .int w] n hp (fun r hp' => r = some (.int (sSpan S b k w)) ∧ cJudge hp' ∧ cBk54 hp' ∧ cBk60 hp' ∧ ∀ q, (q < 44 ∨ 65 < q) → hp' q = hp q) := by
  by_cases hb : inC b 2
  · obtain ⟨x, hx, rfl, -⟩ := inC_N hb
    match x, hx with
    | 0, _ => exact t_X7_span_54 h0 hS hJ hB1 hB2
    | 1, _ => exact t_X7_span_60 h0 hS hJ hB1 hB2
  · exact t_X7_span_bad h0 hS hJ hB1 hB2 hb
set_option maxHeartbeats 400000 in
set_option maxRecDepth 100000 in
theorem t_X7_widest_bad {n : Nat} {hp : mHp} {S : TS} {kf : Int32} (h0 : cTop hp kf) (hS : cTold hp S) (hJ : cJudge hp) (hB1 : cBk54 hp) (hB2 : cBk60 hp) {b k w : Int32} (hb : ¬ inC b 2) : mC D_X7_widest [.ref 0, .int b, .int k, .int w] n hp (fun r hp' => r = some (.int (sWidest S b k w)) ∧ cJudge hp' ∧ cBk54 hp' ∧ cBk60 hp' ∧ ∀ q, (q < 44 ∨ 65 < q) → hp' q = hp q) := by
  refine m_enter rfl rfl (Nat.le_of_ble_eq_true rfl) (fun K hF => ?_)
  show mW K _ 0 0 _ _ 0 [.ref 0, .int b, .int k, .int w, .retAddr 0] []
  refine m_iload_n dX7_widest_0 rfl ?_
  refine m_iconst (v := 2) dX7_widest_1 (by decide) ?_
  refine m_invS_I dX7_widest_2 lk_X7_73 ar_X7_isChoice (t_X7_isChoice) rfl (Nat.le_of_ble_eq_true rfl) (by decide) (by decide) (by decide) (by decide) rfl rfl ?_
  try rw [va_uu]
  refine m_if_eq (t := 20) dX7_widest_5 (by decide) (fun c5 => ?_) (fun c5 => ?_)
  · refine m_iconst (v := -1) dX7_widest_20 (by decide) ?_
    exact m_ireturn hF dX7_widest_21 rfl rfl rfl ⟨by unfold sWidest; rw [if_neg (fun y => hb y.1)], hJ, hB1, hB2, fun _ _ => rfl⟩
  refine m_iload_n dX7_widest_8 rfl ?_
  refine m_if_lt (t := 20) dX7_widest_9 (by decide) (fun c9 => ?_) (fun c9 => ?_)
  · refine m_iconst (v := -1) dX7_widest_20 (by decide) ?_
    exact m_ireturn hF dX7_widest_21 rfl rfl rfl ⟨by unfold sWidest; rw [if_neg (fun y => hb y.1)], hJ, hB1, hB2, fun _ _ => rfl⟩
  refine m_iload_n dX7_widest_12 rfl ?_
  refine m_iconst (v := 2) dX7_widest_13 (by decide) ?_
  refine m_invS_I dX7_widest_14 lk_X7_73 ar_X7_isChoice (t_X7_isChoice) rfl (Nat.le_of_ble_eq_true rfl) (by decide) (by decide) (by decide) (by decide) rfl rfl ?_
  try rw [va_uu]
  refine m_if_ne (t := 22) dX7_widest_17 (by decide) (fun c17 => ?_) (fun c17 => ?_)
  · exact absurd (ch_ok (by decide) c5) hb
  refine m_iconst (v := -1) dX7_widest_20 (by decide) ?_
  exact m_ireturn hF dX7_widest_21 rfl rfl rfl ⟨by unfold sWidest; rw [if_neg (fun y => hb y.1)], hJ, hB1, hB2, fun _ _ => rfl⟩

theorem t_X7_widest {n : Nat} {hp : mHp} {S : TS} {kf : Int32} (h0 : cTop hp kf) (hS : cTold hp S) (hJ : cJudge hp) (hB1 : cBk54 hp) (hB2 : cBk60 hp) {b k w : Int32} : mC D_X7_widest [.ref 0, .int b, .int k, .int w] n hp (fun r hp' => r = some (.int (sWidest S b k w)) ∧ cJudge hp' ∧ cBk54 hp' ∧ cBk60 hp' ∧ ∀ q, (q < 44 ∨ 65 < q) → hp' q = hp q) := by
  by_cases hb : inC b 2
  · obtain ⟨x, hx, rfl, -⟩ := inC_N hb
    match x, hx with
    | 0, _ => exact t_X7_widest_54 h0 hS hJ hB1 hB2
    | 1, _ => exact t_X7_widest_60 h0 hS hJ hB1 hB2
  · exact t_X7_widest_bad h0 hS hJ hB1 hB2 hb
set_option maxHeartbeats 400000 in
set_option maxRecDepth 100000 in
theorem t_X7_spans_bad {n : Nat} {hp : mHp} {S : TS} {kf : Int32} (h0 : cTop hp kf) (hS : cTold hp S) (hJ : cJudge hp) (hB1 : cBk54 hp) (hB2 : cBk60 hp) {b w : Int32} (hb : ¬ inC b 2) : mC D_X7_spans [.ref 0, .int b, .int w] n hp (fun r hp' => r = some (.int (sSpans S b w)) ∧ cJudge hp' ∧ cBk54 hp' ∧ cBk60 hp' ∧ ∀ q, (q < 44 ∨ 65 < q) → hp' q = hp q) := by
  refine m_enter rfl rfl (Nat.le_of_ble_eq_true rfl) (fun K hF => ?_)
  show mW K _ 0 0 _ _ 0 [.ref 0, .int b, .int w, .retAddr 0] []
  refine m_iload_n dX7_spans_0 rfl ?_
  refine m_iconst (v := 2) dX7_spans_1 (by decide) ?_
  refine m_invS_I dX7_spans_2 lk_X7_73 ar_X7_isChoice (t_X7_isChoice) rfl (Nat.le_of_ble_eq_true rfl) (by decide) (by decide) (by decide) (by decide) rfl rfl ?_
  try rw [va_uu]
  refine m_if_eq (t := 16) dX7_spans_5 (by decide) (fun c5 => ?_) (fun c5 => ?_)
  · refine m_iconst (v := -1) dX7_spans_16 (by decide) ?_
    exact m_ireturn hF dX7_spans_17 rfl rfl rfl ⟨by unfold sSpans; rw [if_neg (fun y => hb y.1)], hJ, hB1, hB2, fun _ _ => rfl⟩
  refine m_iload_n dX7_spans_8 rfl ?_
  refine m_iconst (v := 2) dX7_spans_9 (by decide) ?_
  refine m_invS_I dX7_spans_10 lk_X7_73 ar_X7_isChoice (t_X7_isChoice) rfl (Nat.le_of_ble_eq_true rfl) (by decide) (by decide) (by decide) (by decide) rfl rfl ?_
  try rw [va_uu]
  refine m_if_ne (t := 18) dX7_spans_13 (by decide) (fun c13 => ?_) (fun c13 => ?_)
  · exact absurd (ch_ok (by decide) c5) hb
  refine m_iconst (v := -1) dX7_spans_16 (by decide) ?_
  exact m_ireturn hF dX7_spans_17 rfl rfl rfl ⟨by unfold sSpans; rw [if_neg (fun y => hb y.1)], hJ, hB1, hB2, fun _ _ => rfl⟩

theorem t_X7_spans {n : Nat} {hp : mHp} {S : TS} {kf : Int32} (h0 : cTop hp kf) (hS : cTold hp S) (hJ : cJudge hp) (hB1 : cBk54 hp) (hB2 : cBk60 hp) {b w : Int32} : mC D_X7_spans [.ref 0, .int b, .int w] n hp (fun r hp' => r = some (.int (sSpans S b w)) ∧ cJudge hp' ∧ cBk54 hp' ∧ cBk60 hp' ∧ ∀ q, (q < 44 ∨ 65 < q) → hp' q = hp q) := by
  by_cases hb : inC b 2
  · obtain ⟨x, hx, rfl, -⟩ := inC_N hb
    match x, hx with
    | 0, _ => exact t_X7_spans_54 h0 hS hJ hB1 hB2
    | 1, _ => exact t_X7_spans_60 h0 hS hJ hB1 hB2
  · exact t_X7_spans_bad h0 hS hJ hB1 hB2 hb
