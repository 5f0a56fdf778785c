/-! ===== LoopJudge: roots, rows ===== -/
/-- the twelve numbers are within their bounds -/
def okC (c : Nat → Int32) : Prop := (∀ t, t < 10 → in9 (c t)) ∧ inG (c 10)
def loopZ (c : Nat → Int32) (v : Int32) (k : Nat) : Int := 8 * (c k).toInt + v.toInt * (c (5 + k)).toInt
def bnd7 (z : Nat → Int) : Prop := ∀ j, j < 5 → -7272 ≤ z j ∧ z j ≤ 7272
/-- of such numbers the chains fit -/
def CHK : Prop := ∀ z : Nat → Int, bnd7 z → chOk z ∧ chOk (tnZ z)
theorem mul_bd {v x : Int} (h1 : -800 ≤ v) (h2 : v ≤ 800) (h3 : -9 ≤ x) (h4 : x ≤ 9) : -7200 ≤ v * x ∧ v * x ≤ 7200 := by
  have a : v * x ≤ 7200 ∧ -7200 ≤ v * x := by
    rcases Int.le_total 0 x with h | h
    · have q1 := Int.mul_le_mul_of_nonneg_right h2 h
      have q2 := Int.mul_le_mul_of_nonneg_right h1 h
      omega
    · have q1 := Int.mul_le_mul_of_nonpos_right h2 h
      have q2 := Int.mul_le_mul_of_nonpos_right h1 h
      omega
  exact ⟨a.2, a.1⟩
theorem loopZ_bd {c : Nat → Int32} {v : Int32} (h : ∀ t, t < 10 → in9 (c t)) (hv : inG v) : bnd7 (loopZ c v) := fun j hj => by
  have a := h j (by omega)
  have b := h (5 + j) (by omega)
  have m := mul_bd hv.1 hv.2 b.1 b.2
  unfold in9 at a
  unfold loopZ
  omega
theorem loopI_Z {c : Nat → Int32} {v : Int32} {j : Nat} (h : ∀ t, t < 10 → in9 (c t)) (hv : inG v) (hj : j < 5) : loopI c v j = lZ (loopZ c v j) := by
  have a := h j (by omega)
  have b := h (5 + j) (by omega)
  have m := mul_bd hv.1 hv.2 b.1 b.2
  unfold in9 at a
  unfold loopI
  rw [lZ_i]
  congr 1
  rw [Int32.toInt_add, Int32.toInt_mul, Int32.toInt_mul, show (8 : Int32).toInt = 8 by decide, Int.bmod_eq_of_le (n := 8 * (c j).toInt) (by omega) (by omega), Int.bmod_eq_of_le (n := v.toInt * (c (5 + j)).toInt) (by omega) (by omega)]
  unfold loopZ
  exact Int.bmod_eq_of_le (by omega) (by omega)
def rtR (b : Int32) (z : Nat → Int) : Int32 := if b = 0 then cAR z else cAR (tnZ z)
def rtE (b : Int32) (z : Nat → Int) : Int32 := if b = 0 then cAE z else cAE (tnZ z) + (4 - dgZ (tnZ z))
def rtL (b : Int32) (z : Nat → Int) : Int32 := if b = 0 then cAL z else cAL (tnZ z) - (4 - dgZ z)
def rtW (b : Int32) (z : Nat → Int) (w : Int32) : Int32 := if w = 0 then rtR b z else if w = 1 then rtE b z else if w = 2 then rtL b z else if w = 3 then (if rtR b z = 0 then (if rtE b z = 0 then 1 else 0) else 0) else -1
def sRoots (S : TS) (b v w : Int32) : Int32 := if inC b 2 ∧ inG v ∧ inC w 4 then (if deg5 (loopI S.1 v) = -1 then -4 else rtW b (loopZ S.1 v) w) else -1
def sRows (S : TS) : Int32 := nI (szZ (loopZ S.1 (S.1 10)))
def rowV (x : Int64) (w : Int32) : Int64 := if w = 0 then (if 0 < x then x else -x) else if x = 0 then 0 else if x ≤ 0 then 2 else 1
def sRow (S : TS) (i k w : Int32) : Int64 := if 0 ≤ i ∧ inC k 5 ∧ inC w 2 then (if i < nI (szZ (loopZ S.1 (S.1 10))) then rowV (lZ (rowZ (loopZ S.1 (S.1 10)) (tN i) (tN k))) w else -4) else -1
theorem bdZ_7 {z : Nat → Int} (h : bnd7 z) : ∀ j, j < 5 → bdZ (z j) := fun j hj => by
  have := h j hj
  unfold bdZ
  omega
theorem cJudge_C {hp : mHp} {LL : Nat → Nat → Int64} {DG : Nat → Int32} {m : Nat} {ri ev le : Int32} {T : Nat → Int64} (h44 : hp 44 = eO 1 (oJudge ri ev le)) (h46 : hp 46 = eR tyJJ 5 rLines) (h53 : hp 53 = eL 5 T) : cJudge (hpC hp LL DG m) := ⟨LL, DG, m, ri, ev, le, T, hpC_self, (hpC_off (by omega)).trans h44, (hpC_off (by omega)).trans h46, (hpC_off (by omega)).trans h53⟩
theorem t_fill {n : Nat} {hp : mHp} {Z : Nat → Int64} {z : Nat → Int} (hJ : cJudge hp) (hh : hp 66 = eL 5 Z) (hZ : ∀ j, j < 5 → Z j = lZ (z j)) (hb : bnd7 z) (hc : CHK) : mC D_X0_fill [.ref 45, .ref 66] n hp (fun v hp' => v = none ∧ cJudge hp' ∧ hp' 44 = hp 44 ∧ hp' 46 = eR tyJJ 5 rLines ∧ hp' 45 = eO 0 (oChain (nI (szZ z))) ∧ (∀ j, j < szZ z → ∃ f : Nat → Int64, hp' (47 + j) = eL 5 f ∧ ∀ k, k < 5 → f k = lZ (rowZ z j k)) ∧ ∀ q, (q < 44 ∨ 53 < q) → hp' q = hp q) := by
  obtain ⟨LL, DG, m, ri, ev, le, T, h1, h2, h3, h4⟩ := hJ
  have q := t_X0_fill (n := n) (LL := LL) (DG := DG) (m := m) h3 hh (by decide) hZ (bdZ_7 hb) (hc z hb).1
  rw [← h1] at q
  refine q.mono ?_
  rintro v hp' ⟨rfl, LL', DG', rfl, hch⟩
  refine ⟨rfl, cJudge_C h2 h3 h4, hpC_off (by omega), (hpC_off (by omega)).trans h3, rfl, fun j hj => ⟨LL' j, hpC_row (Nat.lt_of_lt_of_le hj (szZ_le z)), (hch j hj).1⟩, fun q hq => hpC_off (by omega)⟩
theorem t_counts {n : Nat} {hp : mHp} {b : Int32} {Z : Nat → Int64} {z : Nat → Int} (hb2 : inC b 2) (hJ : cJudge hp) (hh : hp 66 = eL 5 Z) (hZ : ∀ j, j < 5 → Z j = lZ (z j)) (hb : bnd7 z) (hbt : ∀ j, j < 5 → bdZ (tnZ z j)) (hd : dgZ z ≠ -1) (hc : CHK) : mC D_X1_countRootsOf [.ref 44, .int b, .ref 66] n hp (fun v hp' => v = none ∧ cJudge hp' ∧ hp' 44 = eO 1 (oJudge (rtR b z) (rtE b z) (rtL b z)) ∧ ∀ q, (q < 44 ∨ 53 < q) → hp' q = hp q) := by
  obtain ⟨w, hw, rfl, -⟩ := inC_N hb2
  obtain ⟨LL, DG, m, ri, ev, le, T, h1, h2, h3, h4⟩ := hJ
  match w, hw with
  | 0, _ =>
    have q := t_X1_countRootsOf0 (n := n) (LL := LL) (DG := DG) (m := m) h2 h3 h4 hh (by decide) hZ (bdZ_7 hb) (hc z hb).1
    rw [← h1] at q
    refine q.mono ?_
    rintro v hp' ⟨rfl, LL', DG', rfl⟩
    exact ⟨rfl, cJudge_C (va_up_self _ _ _) ((va_up_ne _ _ (by decide)).trans h3) ((va_up_ne _ _ (by decide)).trans h4), (hpC_off (by omega)).trans (va_up_self _ _ _), fun q hq => (hpC_off (by omega)).trans (va_up_ne _ _ (by omega))⟩
  | 1, _ =>
    have q := t_X1_countRootsOf1 (n := n) (LL := LL) (DG := DG) (m := m) h2 h3 h4 hh (by decide) hZ (bdZ_7 hb) hd hbt (hc z hb).2
    rw [← h1] at q
    refine q.mono ?_
    rintro v hp' ⟨rfl, LL', DG', T', rfl⟩
    exact ⟨rfl, cJudge_C (va_up_self _ _ _) ((va_up_ne _ _ (by decide)).trans ((va_up_ne _ _ (by decide)).trans h3)) ((va_up_ne _ _ (by decide)).trans (va_up_self _ _ _)), (hpC_off (by omega)).trans (va_up_self _ _ _), fun q hq => (hpC_off (by omega)).trans ((va_up_ne _ _ (by omega)).trans (va_up_ne _ _ (by omega)))⟩
theorem tBZ_bd {z : Nat → Int} (h : bnd7 z) {l k : Nat} (hk : k < 5) : -7272 ≤ tBZ z l k ∧ tBZ z l k ≤ 7272 := by
  unfold tBZ
  by_cases e : k < l
  · rw [if_pos e]
    omega
  · rw [if_neg e]
    exact h _ (by omega)
theorem tnZ_bd {z : Nat → Int} (h : bnd7 z) : ∀ j, j < 5 → -130000 ≤ tnZ z j ∧ tnZ z j ≤ 130000 := fun j hj => by
  have a0 := tBZ_bd h (l := lackZ z) (k := 0) (by decide)
  have a1 := tBZ_bd h (l := lackZ z) (k := 1) (by decide)
  have a2 := tBZ_bd h (l := lackZ z) (k := 2) (by decide)
  have a3 := tBZ_bd h (l := lackZ z) (k := 3) (by decide)
  have a4 := tBZ_bd h (l := lackZ z) (k := 4) (by decide)
  match j, hj with
  | 0, _ =>
    show -130000 ≤ tBZ z (lackZ z) 0 + tBZ z (lackZ z) 1 + tBZ z (lackZ z) 2 + tBZ z (lackZ z) 3 + tBZ z (lackZ z) 4 ∧ tBZ z (lackZ z) 0 + tBZ z (lackZ z) 1 + tBZ z (lackZ z) 2 + tBZ z (lackZ z) 3 + tBZ z (lackZ z) 4 ≤ 130000
    omega
  | 1, _ =>
    show -130000 ≤ 4 * (tBZ z (lackZ z) 4 - tBZ z (lackZ z) 0) + 2 * (tBZ z (lackZ z) 3 - tBZ z (lackZ z) 1) ∧ 4 * (tBZ z (lackZ z) 4 - tBZ z (lackZ z) 0) + 2 * (tBZ z (lackZ z) 3 - tBZ z (lackZ z) 1) ≤ 130000
    omega
  | 2, _ =>
    show -130000 ≤ 6 * (tBZ z (lackZ z) 4 + tBZ z (lackZ z) 0) - 2 * tBZ z (lackZ z) 2 ∧ 6 * (tBZ z (lackZ z) 4 + tBZ z (lackZ z) 0) - 2 * tBZ z (lackZ z) 2 ≤ 130000
    omega
  | 3, _ =>
    show -130000 ≤ 4 * (tBZ z (lackZ z) 4 - tBZ z (lackZ z) 0) - 2 * (tBZ z (lackZ z) 3 - tBZ z (lackZ z) 1) ∧ 4 * (tBZ z (lackZ z) 4 - tBZ z (lackZ z) 0) - 2 * (tBZ z (lackZ z) 3 - tBZ z (lackZ z) 1) ≤ 130000
    omega
  | 4, _ =>
    show -130000 ≤ tBZ z (lackZ z) 0 - tBZ z (lackZ z) 1 + tBZ z (lackZ z) 2 - tBZ z (lackZ z) 3 + tBZ z (lackZ z) 4 ∧ tBZ z (lackZ z) 0 - tBZ z (lackZ z) 1 + tBZ z (lackZ z) 2 - tBZ z (lackZ z) 3 + tBZ z (lackZ z) 4 ≤ 130000
    omega
set_option maxHeartbeats 400000 in
set_option maxRecDepth 100000 in
theorem t_X7_countRoots {n : Nat} {hp : mHp} {S : TS} {kf : Int32} (h0 : cTop hp kf) (hS : cTold hp S) (hJ : cJudge hp) (hP : cPol hp) (hC : okC S.1) (hK : CHK) {b v w : Int32} : mC D_X7_countRoots [.ref 0, .int b, .int v, .int w] n hp (qJ hp (sRoots S b v w)) := by
  refine m_enter rfl rfl (Nat.le_of_ble_eq_true rfl) (fun K hF => ?_)
  show mW K _ 0 0 _ _ 0 [.ref 0, .int b, .int v, .int w] []
  have a0 : hp 0 = eO 7 (oTop kf) := h0
  obtain ⟨⟨P, g, d, p1, p2, p3⟩, hH⟩ := hS
  obtain ⟨v1, v2, v3⟩ := vec_set p3
  have hS1 : cSet hp 1 S.1 := ⟨P, g, d, p1, p2, p3⟩
  obtain ⟨w0, G0, D0, PP0, k1, k2, k3, -⟩ := id hH
  have hP0 := hP
  obtain ⟨L, hL⟩ := hP
  obtain ⟨-, -, -, ri1, ev1, le1, -, -, j2, -, -⟩ := id hJ
  have y4 : ∀ f : mE, va_up hp 66 f 44 = eO 1 (oJudge ri1 ev1 le1) := fun f => (va_up_ne _ _ (by decide)).trans j2
  have y0 : ∀ f : mE, va_up hp 66 f 0 = eO 7 (oTop kf) := fun f => (va_up_ne _ _ (by decide)).trans a0
  refine m_iload_n dX7_countRoots_0 rfl ?_
  refine m_iconst (v := 2) dX7_countRoots_1 (by decide) ?_
  refine m_invS_I dX7_countRoots_2 lk_X7_73 ar_X7_isChoice (t_X7_isChoice) rfl (Nat.le_of_ble_eq_true rfl) (by decide) (by decide) (by decide) (by decide) rfl rfl ?_
  try rw [va_uu]
  refine m_if_eq (t := 23) dX7_countRoots_5 (by decide) (fun c5 => ?_) (fun c5 => ?_)
  · refine m_iconst (v := -1) dX7_countRoots_23 (by decide) ?_
    exact m_ireturn hF dX7_countRoots_24 rfl rfl rfl ⟨by unfold sRoots; rw [if_neg (by rintro ⟨y0, y1, y2⟩; first | exact ch_no (by decide) (by assumption : chI b (nI 2) = 0) y0 | exact gnI_iff.mp (by assumption : gnI v = 0) y1 | exact ch_no (by decide) (by assumption : chI w (nI 4) = 0) y2)], hJ, hP0, offJ.rf⟩
  refine m_iload_n dX7_countRoots_8 rfl ?_
  refine m_invS_I dX7_countRoots_9 lk_X7_89 ar_X7_isGain (t_X7_isGain) rfl (Nat.le_of_ble_eq_true rfl) (by decide) (by decide) (by decide) (by decide) rfl rfl ?_
  try rw [va_uu]
  refine m_if_eq (t := 23) dX7_countRoots_12 (by decide) (fun c12 => ?_) (fun c12 => ?_)
  · refine m_iconst (v := -1) dX7_countRoots_23 (by decide) ?_
    exact m_ireturn hF dX7_countRoots_24 rfl rfl rfl ⟨by unfold sRoots; rw [if_neg (by rintro ⟨y0, y1, y2⟩; first | exact ch_no (by decide) (by assumption : chI b (nI 2) = 0) y0 | exact gnI_iff.mp (by assumption : gnI v = 0) y1 | exact ch_no (by decide) (by assumption : chI w (nI 4) = 0) y2)], hJ, hP0, offJ.rf⟩
  refine m_iload_n dX7_countRoots_15 rfl ?_
  refine m_iconst (v := 4) dX7_countRoots_16 (by decide) ?_
  refine m_invS_I dX7_countRoots_17 lk_X7_73 ar_X7_isChoice (t_X7_isChoice) rfl (Nat.le_of_ble_eq_true rfl) (by decide) (by decide) (by decide) (by decide) rfl rfl ?_
  try rw [va_uu]
  refine m_if_ne (t := 25) dX7_countRoots_20 (by decide) (fun c20 => ?_) (fun c20 => ?_)
  rotate_left
  · refine m_iconst (v := -1) dX7_countRoots_23 (by decide) ?_
    exact m_ireturn hF dX7_countRoots_24 rfl rfl rfl ⟨by unfold sRoots; rw [if_neg (by rintro ⟨y0, y1, y2⟩; first | exact ch_no (by decide) (by assumption : chI b (nI 2) = 0) y0 | exact gnI_iff.mp (by assumption : gnI v = 0) y1 | exact ch_no (by decide) (by assumption : chI w (nI 4) = 0) y2)], hJ, hP0, offJ.rf⟩
  have hok : inC b 2 ∧ inG v ∧ inC w 4 := ⟨ch_ok (by decide) c5, Classical.not_not.mp (fun z => c12 (gnI_iff.mpr z)), ch_ok (by decide) c20⟩
  have hdg : ∀ _ : Unit, deg5 (fill5 (loopI P v) L) = deg5 (loopI S.1 v) := fun _ => deg5_eq (fun t ht => (fill5_at ht).trans (loopI_eq v1 ht))
  refine m_aload_n dX7_countRoots_25 rfl ?_
  refine m_getfield dX7_countRoots_26 fl_X7_12 (by first | assumption | rfl | exact y0 _ | exact y4 _ | exact va_up_self _ _ _) (by first | assumption | rfl | exact y0 _ | exact y4 _ | exact va_up_self _ _ _) ?_
  show mW _ _ _ _ _ _ _ _ (.ref _ :: _)
  refine m_aload_n dX7_countRoots_29 rfl ?_
  refine m_getfield dX7_countRoots_30 fl_X7_69 (by first | assumption | rfl | exact y0 _ | exact y4 _ | exact va_up_self _ _ _) (by first | assumption | rfl | exact y0 _ | exact y4 _ | exact va_up_self _ _ _) ?_
  show mW _ _ _ _ _ _ _ _ (.ref _ :: _)
  refine m_iload_n dX7_countRoots_33 rfl ?_
  refine m_invV_V dX7_countRoots_34 lk_X7_104 ar_X3_fillLoop (ci := 3) rfl rfl (by first | assumption | rfl | exact y0 _ | exact y4 _ | exact va_up_self _ _ _) (t_X3_fillLoop p1 p2 hL) rfl (Nat.le_of_ble_eq_true rfl) (by decide) (by decide) (by decide) (by decide) rfl rfl ?_
  try rw [va_uu]
  refine m_aload_n dX7_countRoots_37 rfl ?_
  refine m_getfield dX7_countRoots_38 fl_X7_69 (by first | assumption | rfl | exact y0 _ | exact y4 _ | exact va_up_self _ _ _) (by first | assumption | rfl | exact y0 _ | exact y4 _ | exact va_up_self _ _ _) ?_
  show mW _ _ _ _ _ _ _ _ (.ref _ :: _)
  refine m_invS_I dX7_countRoots_41 lk_X7_108 ar_X7_degreeOf (t_X7_degreeOf (va_up_self _ _ _)) rfl (Nat.le_of_ble_eq_true rfl) (by decide) (by decide) (by decide) (by decide) rfl rfl ?_
  try rw [va_uu]
  refine m_iconst (v := -1) dX7_countRoots_44 (by decide) ?_
  refine m_icmp_ne (t := 51) dX7_countRoots_45 (by decide) (fun c45 => ?_) (fun c45 => ?_)
  rotate_left
  · refine m_bipush (v := -4) dX7_countRoots_48 (by decide) ?_
    exact m_ireturn hF dX7_countRoots_50 rfl rfl rfl ⟨by unfold sRoots; rw [if_pos hok, if_pos ((hdg ()).symm.trans c45)], hJ.of (fun q r1 r2 => va_up_ne _ _ (by omega)), ⟨_, va_up_self _ _ _⟩, fun q hq => va_up_ne _ _ (by omega)⟩
  have hdn : ¬ deg5 (loopI S.1 v) = -1 := fun z => c45 ((hdg ()).trans z)
  refine m_aload_n dX7_countRoots_51 rfl ?_
  refine m_getfield dX7_countRoots_52 fl_X7_53 (by first | assumption | rfl | exact y0 _ | exact y4 _ | exact va_up_self _ _ _) (by first | assumption | rfl | exact y0 _ | exact y4 _ | exact va_up_self _ _ _) ?_
  show mW _ _ _ _ _ _ _ _ (.ref _ :: _)
  refine m_iload_n dX7_countRoots_55 rfl ?_
  refine m_aload_n dX7_countRoots_56 rfl ?_
  refine m_getfield dX7_countRoots_57 fl_X7_69 (by first | assumption | rfl | exact y0 _ | exact y4 _ | exact va_up_self _ _ _) (by first | assumption | rfl | exact y0 _ | exact y4 _ | exact va_up_self _ _ _) ?_
  show mW _ _ _ _ _ _ _ _ (.ref _ :: _)
  refine m_invV dX7_countRoots_60 lk_X7_252 ar_X1_countRootsOf (ci := 1) rfl rfl (by first | assumption | rfl | exact y0 _ | exact y4 _ | exact va_up_self _ _ _) (t_counts (z := loopZ S.1 v) hok.1 (hJ.of (fun q r1 r2 => va_up_ne _ _ (by omega))) (va_up_self _ _ _) (fun j hj => (fill5_at hj).trans ((loopI_eq v1 hj).trans (loopI_Z hC.1 hok.2.1 hj))) (loopZ_bd hC.1 hok.2.1) (fun j hj => by have := tnZ_bd (loopZ_bd hC.1 hok.2.1) j hj; unfold bdZ; omega) (by rw [← deg5_Z (fun j hj => loopI_Z hC.1 hok.2.1 hj) (bdZ_7 (loopZ_bd hC.1 hok.2.1))]; exact hdn) hK) rfl (Nat.le_of_ble_eq_true rfl) (by decide) (by decide) (by decide) (by decide) (fun v9 hp' q => ?_)
  obtain ⟨rfl, gJ, g44, gO⟩ := q
  have g0 : hp' 0 = eO 7 (oTop kf) := (gO 0 (by decide)).trans ((va_up_ne _ _ (by decide)).trans a0)
  have gP : hp' 66 = _ := (gO 66 (by decide)).trans (va_up_self hp 66 _)
  show mW K _ 0 0 n hp' 63 [.ref 0, .int b, .int v, .int w] []
  refine m_iload_n dX7_countRoots_63 rfl ?_
  refine m_tabCase (v := 0) (t := 92) dX7_countRoots_64 (by decide) (by decide) rfl (by decide) (fun w64_0 => ?_) (fun w64_0 => ?_)
  · refine m_aload_n dX7_countRoots_92 rfl ?_
    refine m_getfield dX7_countRoots_93 fl_X7_53 (by first | assumption | rfl | exact y0 _ | exact y4 _ | exact va_up_self _ _ _) (by first | assumption | rfl | exact y0 _ | exact y4 _ | exact va_up_self _ _ _) ?_
    show mW _ _ _ _ _ _ _ _ (.ref _ :: _)
    refine m_getfield dX7_countRoots_96 fl_X7_256 (by first | assumption | rfl | exact y0 _ | exact y4 _ | exact va_up_self _ _ _) (by first | assumption | rfl | exact y0 _ | exact y4 _ | exact va_up_self _ _ _) ?_
    show mW _ _ _ _ _ _ _ _ (.int _ :: _)
    exact m_ireturn hF dX7_countRoots_99 rfl rfl rfl ⟨by unfold sRoots rtW; rw [if_pos hok, if_neg hdn, if_pos w64_0], gJ, ⟨_, gP⟩, fun q hq => by rw [gO q (by omega), va_up_ne _ _ (by omega)]⟩
  refine m_tabCase (v := 1) (t := 100) dX7_countRoots_64 (by decide) (by decide) rfl (by decide) (fun w64_1 => ?_) (fun w64_1 => ?_)
  · refine m_aload_n dX7_countRoots_100 rfl ?_
    refine m_getfield dX7_countRoots_101 fl_X7_53 (by first | assumption | rfl | exact y0 _ | exact y4 _ | exact va_up_self _ _ _) (by first | assumption | rfl | exact y0 _ | exact y4 _ | exact va_up_self _ _ _) ?_
    show mW _ _ _ _ _ _ _ _ (.ref _ :: _)
    refine m_getfield dX7_countRoots_104 fl_X7_259 (by first | assumption | rfl | exact y0 _ | exact y4 _ | exact va_up_self _ _ _) (by first | assumption | rfl | exact y0 _ | exact y4 _ | exact va_up_self _ _ _) ?_
    show mW _ _ _ _ _ _ _ _ (.int _ :: _)
    exact m_ireturn hF dX7_countRoots_107 rfl rfl rfl ⟨by unfold sRoots rtW; rw [if_pos hok, if_neg hdn, if_neg w64_0, if_pos w64_1], gJ, ⟨_, gP⟩, fun q hq => by rw [gO q (by omega), va_up_ne _ _ (by omega)]⟩
  refine m_tabCase (v := 2) (t := 108) dX7_countRoots_64 (by decide) (by decide) rfl (by decide) (fun w64_2 => ?_) (fun w64_2 => ?_)
  · refine m_aload_n dX7_countRoots_108 rfl ?_
    refine m_getfield dX7_countRoots_109 fl_X7_53 (by first | assumption | rfl | exact y0 _ | exact y4 _ | exact va_up_self _ _ _) (by first | assumption | rfl | exact y0 _ | exact y4 _ | exact va_up_self _ _ _) ?_
    show mW _ _ _ _ _ _ _ _ (.ref _ :: _)
    refine m_getfield dX7_countRoots_112 fl_X7_262 (by first | assumption | rfl | exact y0 _ | exact y4 _ | exact va_up_self _ _ _) (by first | assumption | rfl | exact y0 _ | exact y4 _ | exact va_up_self _ _ _) ?_
    show mW _ _ _ _ _ _ _ _ (.int _ :: _)
    exact m_ireturn hF dX7_countRoots_115 rfl rfl rfl ⟨by unfold sRoots rtW; rw [if_pos hok, if_neg hdn, if_neg w64_0, if_neg w64_1, if_pos w64_2], gJ, ⟨_, gP⟩, fun q hq => by rw [gO q (by omega), va_up_ne _ _ (by omega)]⟩
  refine m_tabOut (t := 116) dX7_countRoots_64 (by have q0 := tabNe (z := 0) (by decide) w64_0; have q1 := tabNe (z := 1) (by decide) w64_1; have q2 := tabNe (z := 2) (by decide) w64_2; omega) (by decide) ?_
  have w64_3 : w = 3 := by
    obtain ⟨k, hk, e, -⟩ := inC_N hok.2.2
    rcases (show k = 0 ∨ k = 1 ∨ k = 2 ∨ k = 3 by omega) with q | q | q | q
    · exact absurd (by rw [e, q]; rfl) w64_0
    · exact absurd (by rw [e, q]; rfl) w64_1
    · exact absurd (by rw [e, q]; rfl) w64_2
    · rw [e, q]; rfl
  refine m_aload_n dX7_countRoots_116 rfl ?_
  refine m_getfield dX7_countRoots_117 fl_X7_53 (by first | assumption | rfl | exact y0 _ | exact y4 _ | exact va_up_self _ _ _) (by first | assumption | rfl | exact y0 _ | exact y4 _ | exact va_up_self _ _ _) ?_
  show mW _ _ _ _ _ _ _ _ (.ref _ :: _)
  refine m_getfield dX7_countRoots_120 fl_X7_256 (by first | assumption | rfl | exact y0 _ | exact y4 _ | exact va_up_self _ _ _) (by first | assumption | rfl | exact y0 _ | exact y4 _ | exact va_up_self _ _ _) ?_
  show mW _ _ _ _ _ _ _ _ (.int _ :: _)
  refine m_if_ne (t := 140) dX7_countRoots_123 (by decide) (fun c123 => ?_) (fun c123 => ?_)
  · refine m_iconst (v := 0) dX7_countRoots_140 (by decide) ?_
    exact m_ireturn hF dX7_countRoots_141 rfl rfl rfl ⟨by unfold sRoots rtW; rw [if_pos hok, if_neg hdn, if_neg w64_0, if_neg w64_1, if_neg w64_2, if_pos w64_3, if_neg c123], gJ, ⟨_, gP⟩, fun q hq => by rw [gO q (by omega), va_up_ne _ _ (by omega)]⟩
  refine m_aload_n dX7_countRoots_126 rfl ?_
  refine m_getfield dX7_countRoots_127 fl_X7_53 (by first | assumption | rfl | exact y0 _ | exact y4 _ | exact va_up_self _ _ _) (by first | assumption | rfl | exact y0 _ | exact y4 _ | exact va_up_self _ _ _) ?_
  show mW _ _ _ _ _ _ _ _ (.ref _ :: _)
  refine m_getfield dX7_countRoots_130 fl_X7_259 (by first | assumption | rfl | exact y0 _ | exact y4 _ | exact va_up_self _ _ _) (by first | assumption | rfl | exact y0 _ | exact y4 _ | exact va_up_self _ _ _) ?_
  show mW _ _ _ _ _ _ _ _ (.int _ :: _)
  refine m_if_ne (t := 140) dX7_countRoots_133 (by decide) (fun c133 => ?_) (fun c133 => ?_)
  · refine m_iconst (v := 0) dX7_countRoots_140 (by decide) ?_
    exact m_ireturn hF dX7_countRoots_141 rfl rfl rfl ⟨by unfold sRoots rtW; rw [if_pos hok, if_neg hdn, if_neg w64_0, if_neg w64_1, if_neg w64_2, if_pos w64_3, if_pos c123, if_neg c133], gJ, ⟨_, gP⟩, fun q hq => by rw [gO q (by omega), va_up_ne _ _ (by omega)]⟩
  refine m_iconst (v := 1) dX7_countRoots_136 (by decide) ?_
  refine m_goto (t := 141) dX7_countRoots_137 (by decide) ?_
  exact m_ireturn hF dX7_countRoots_141 rfl rfl rfl ⟨by unfold sRoots rtW; rw [if_pos hok, if_neg hdn, if_neg w64_0, if_neg w64_1, if_neg w64_2, if_pos w64_3, if_pos c123, if_pos c133], gJ, ⟨_, gP⟩, fun q hq => by rw [gO q (by omega), va_up_ne _ _ (by omega)]⟩

set_option maxHeartbeats 400000 in
set_option maxRecDepth 100000 in
theorem t_X7_roots {n : Nat} {hp : mHp} {S : TS} {kf : Int32} (h0 : cTop hp kf) (hS : cTold hp S) (hJ : cJudge hp) (hP : cPol hp) (hC : okC S.1) (hK : CHK) {b w : Int32} : mC D_X7_roots [.ref 0, .int b, .int w] n hp (qJ hp (sRoots S b (S.1 10) w)) := by
  refine m_enter rfl rfl (Nat.le_of_ble_eq_true rfl) (fun K hF => ?_)
  show mW K _ 0 0 _ _ 0 [.ref 0, .int b, .int w] []
  have hS0 := hS
  have a0 : hp 0 = eO 7 (oTop kf) := h0
  obtain ⟨⟨P, g, d, p1, p2, p3⟩, hH⟩ := hS
  obtain ⟨v1, v2, v3⟩ := vec_set p3
  have hS1 : cSet hp 1 S.1 := ⟨P, g, d, p1, p2, p3⟩
  obtain ⟨w0, G0, D0, PP0, k1, k2, k3, -⟩ := id hH
  refine m_aload_n dX7_roots_0 rfl ?_
  refine m_iload_n dX7_roots_1 rfl ?_
  refine m_aload_n dX7_roots_2 rfl ?_
  refine m_getfield dX7_roots_3 fl_X7_12 (by first | assumption | rfl) (by first | assumption | rfl) ?_
  show mW _ _ _ _ _ _ _ _ (.ref _ :: _)
  refine m_getfield dX7_roots_6 fl_X7_93 (by first | assumption | rfl) (by first | assumption | rfl) ?_
  show mW _ _ _ _ _ _ _ _ (.int _ :: _)
  refine m_iload_n dX7_roots_9 rfl ?_
  refine m_invV dX7_roots_10 lk_X7_115 ar_X7_countRoots (ci := 7) rfl rfl (by first | assumption | rfl) (t_X7_countRoots h0 hS0 hJ hP hC hK) rfl (Nat.le_of_ble_eq_true rfl) (by decide) (by decide) (by decide) (by decide) (fun v hp' q => ?_)
  rw [v2] at q
  obtain ⟨rfl, q2⟩ := q
  show mW K _ 0 0 n hp' 13 [.ref 0, .int b, .int w] [.int _]
  exact m_ireturn hF dX7_roots_13 rfl rfl rfl ⟨rfl, q2⟩

set_option maxHeartbeats 400000 in
set_option maxRecDepth 100000 in
theorem t_X7_at {n : Nat} {hp : mHp} {S : TS} {kf : Int32} (h0 : cTop hp kf) (hS : cTold hp S) (hJ : cJudge hp) (hP : cPol hp) (hC : okC S.1) (hK : CHK) {b v w : Int32} : mC D_X7_at [.ref 0, .int b, .int v, .int w] n hp (qJ hp (sRoots S b v w)) := by
  refine m_enter rfl rfl (Nat.le_of_ble_eq_true rfl) (fun K hF => ?_)
  show mW K _ 0 0 _ _ 0 [.ref 0, .int b, .int v, .int w] []
  have a0 : hp 0 = eO 7 (oTop kf) := h0
  refine m_aload_n dX7_at_0 rfl ?_
  refine m_iload_n dX7_at_1 rfl ?_
  refine m_iload_n dX7_at_2 rfl ?_
  refine m_iload_n dX7_at_3 rfl ?_
  refine m_invV dX7_at_4 lk_X7_115 ar_X7_countRoots (ci := 7) rfl rfl (by first | assumption | rfl) (t_X7_countRoots h0 hS hJ hP hC hK) rfl (Nat.le_of_ble_eq_true rfl) (by decide) (by decide) (by decide) (by decide) (fun v9 hp' q => ?_)
  obtain ⟨rfl, q2⟩ := q
  show mW K _ 0 0 n hp' 7 [.ref 0, .int b, .int v, .int w] [.int _]
  exact m_ireturn hF dX7_at_7 rfl rfl rfl ⟨rfl, q2⟩

set_option maxHeartbeats 400000 in
set_option maxRecDepth 100000 in
theorem t_X7_rows {n : Nat} {hp : mHp} {S : TS} {kf : Int32} (h0 : cTop hp kf) (hS : cTold hp S) (hJ : cJudge hp) (hP : cPol hp) (hC : okC S.1) (hK : CHK) : mC D_X7_rows [.ref 0] n hp (qJ hp (sRows S)) := by
  refine m_enter rfl rfl (Nat.le_of_ble_eq_true rfl) (fun K hF => ?_)
  show mW K _ 0 0 _ _ 0 [.ref 0] []
  have a0 : hp 0 = eO 7 (oTop kf) := h0
  obtain ⟨⟨P, g, d, p1, p2, p3⟩, hH⟩ := hS
  obtain ⟨v1, v2, v3⟩ := vec_set p3
  have hS1 : cSet hp 1 S.1 := ⟨P, g, d, p1, p2, p3⟩
  obtain ⟨w0, G0, D0, PP0, k1, k2, k3, -⟩ := id hH
  have hP0 := hP
  obtain ⟨L, hL⟩ := hP
  obtain ⟨LL0, DG0, m0, ri1, ev1, le1, T0, j1, j2, j3, j4⟩ := id hJ
  have y4 : ∀ f : mE, va_up hp 66 f 44 = eO 1 (oJudge ri1 ev1 le1) := fun f => (va_up_ne _ _ (by decide)).trans j2
  have y0 : ∀ f : mE, va_up hp 66 f 0 = eO 7 (oTop kf) := fun f => (va_up_ne _ _ (by decide)).trans a0
  have j5 : hp 45 = eO 0 (oChain (nI m0)) := congrFun j1 45
  clear j1
  have y5 : ∀ f : mE, va_up hp 66 f 45 = eO 0 (oChain (nI m0)) := fun f => (va_up_ne _ _ (by decide)).trans j5
  refine m_aload_n dX7_rows_0 rfl ?_
  refine m_getfield dX7_rows_1 fl_X7_12 (by first | assumption | rfl | exact y0 _ | exact y4 _ | exact y5 _ | exact va_up_self _ _ _) (by first | assumption | rfl | exact y0 _ | exact y4 _ | exact y5 _ | exact va_up_self _ _ _) ?_
  show mW _ _ _ _ _ _ _ _ (.ref _ :: _)
  refine m_aload_n dX7_rows_4 rfl ?_
  refine m_getfield dX7_rows_5 fl_X7_69 (by first | assumption | rfl | exact y0 _ | exact y4 _ | exact y5 _ | exact va_up_self _ _ _) (by first | assumption | rfl | exact y0 _ | exact y4 _ | exact y5 _ | exact va_up_self _ _ _) ?_
  show mW _ _ _ _ _ _ _ _ (.ref _ :: _)
  refine m_aload_n dX7_rows_8 rfl ?_
  refine m_getfield dX7_rows_9 fl_X7_12 (by first | assumption | rfl | exact y0 _ | exact y4 _ | exact y5 _ | exact va_up_self _ _ _) (by first | assumption | rfl | exact y0 _ | exact y4 _ | exact y5 _ | exact va_up_self _ _ _) ?_
  show mW _ _ _ _ _ _ _ _ (.ref _ :: _)
  refine m_getfield dX7_rows_12 fl_X7_93 (by first | assumption | rfl | exact y0 _ | exact y4 _ | exact y5 _ | exact va_up_self _ _ _) (by first | assumption | rfl | exact y0 _ | exact y4 _ | exact y5 _ | exact va_up_self _ _ _) ?_
  show mW _ _ _ _ _ _ _ _ (.int _ :: _)
  refine m_invV_V dX7_rows_15 lk_X7_104 ar_X3_fillLoop (ci := 3) rfl rfl (by first | assumption | rfl | exact y0 _ | exact y4 _ | exact y5 _ | exact va_up_self _ _ _) (t_X3_fillLoop p1 p2 hL) rfl (Nat.le_of_ble_eq_true rfl) (by decide) (by decide) (by decide) (by decide) rfl rfl ?_
  try rw [va_uu]
  refine m_aload_n dX7_rows_18 rfl ?_
  refine m_getfield dX7_rows_19 fl_X7_53 (by first | assumption | rfl | exact y0 _ | exact y4 _ | exact y5 _ | exact va_up_self _ _ _) (by first | assumption | rfl | exact y0 _ | exact y4 _ | exact y5 _ | exact va_up_self _ _ _) ?_
  show mW _ _ _ _ _ _ _ _ (.ref _ :: _)
  refine m_getfield dX7_rows_22 fl_X7_121 (by first | assumption | rfl | exact y0 _ | exact y4 _ | exact y5 _ | exact va_up_self _ _ _) (by first | assumption | rfl | exact y0 _ | exact y4 _ | exact y5 _ | exact va_up_self _ _ _) ?_
  show mW _ _ _ _ _ _ _ _ (.ref _ :: _)
  refine m_aload_n dX7_rows_25 rfl ?_
  refine m_getfield dX7_rows_26 fl_X7_69 (by first | assumption | rfl | exact y0 _ | exact y4 _ | exact y5 _ | exact va_up_self _ _ _) (by first | assumption | rfl | exact y0 _ | exact y4 _ | exact y5 _ | exact va_up_self _ _ _) ?_
  show mW _ _ _ _ _ _ _ _ (.ref _ :: _)
  refine m_invV dX7_rows_29 lk_X7_125 ar_X0_fill (ci := 0) rfl rfl (by first | assumption | rfl | exact y0 _ | exact y4 _ | exact y5 _ | exact va_up_self _ _ _) (t_fill (z := loopZ S.1 (S.1 10)) (hJ.of (fun q r1 r2 => va_up_ne _ _ (by omega))) (va_up_self _ _ _) (fun j hj => (fill5_at hj).trans ((loopI_eq v1 hj).trans (by rw [v2]; exact loopI_Z hC.1 hC.2 hj))) (loopZ_bd hC.1 hC.2) hK) rfl (Nat.le_of_ble_eq_true rfl) (by decide) (by decide) (by decide) (by decide) (fun v hp' q => ?_)
  obtain ⟨rfl, gJ, g44, g46, g45, gR, gO⟩ := q
  have g44' : hp' 44 = eO 1 (oJudge ri1 ev1 le1) := g44.trans (y4 _)
  have g0 : hp' 0 = eO 7 (oTop kf) := (gO 0 (by decide)).trans (y0 _)
  have gP : hp' 66 = _ := (gO 66 (by decide)).trans (va_up_self hp 66 _)
  show mW K _ 0 0 n hp' 32 [.ref 0] []
  refine m_aload_n dX7_rows_32 rfl ?_
  refine m_getfield dX7_rows_33 fl_X7_53 (by first | assumption | rfl | exact y0 _ | exact y4 _ | exact y5 _ | exact va_up_self _ _ _) (by first | assumption | rfl | exact y0 _ | exact y4 _ | exact y5 _ | exact va_up_self _ _ _) ?_
  show mW _ _ _ _ _ _ _ _ (.ref _ :: _)
  refine m_getfield dX7_rows_36 fl_X7_121 (by first | assumption | rfl | exact y0 _ | exact y4 _ | exact y5 _ | exact va_up_self _ _ _) (by first | assumption | rfl | exact y0 _ | exact y4 _ | exact y5 _ | exact va_up_self _ _ _) ?_
  show mW _ _ _ _ _ _ _ _ (.ref _ :: _)
  refine m_getfield dX7_rows_39 fl_X7_131 (by first | assumption | rfl | exact y0 _ | exact y4 _ | exact y5 _ | exact va_up_self _ _ _) (by first | assumption | rfl | exact y0 _ | exact y4 _ | exact y5 _ | exact va_up_self _ _ _) ?_
  show mW _ _ _ _ _ _ _ _ (.int _ :: _)
  exact m_ireturn hF dX7_rows_42 rfl rfl rfl ⟨rfl, gJ, ⟨_, gP⟩, fun q hq => by rw [gO q (by omega), va_up_ne _ _ (by omega)]⟩

set_option maxHeartbeats 400000 in
set_option maxRecDepth 100000 in
theorem t_X7_row {n : Nat} {hp : mHp} {S : TS} {kf : Int32} (h0 : cTop hp kf) (hS : cTold hp S) (hJ : cJudge hp) (hP : cPol hp) (hC : okC S.1) (hK : CHK) {i k w : Int32} : mC D_X7_row [.ref 0, .int i, .int k, .int w] n hp (fun r hp' => r = some (.long (sRow S i k w)) ∧ cJudge hp' ∧ cPol hp' ∧ offJ hp hp') := by
  refine m_enter rfl rfl (Nat.le_of_ble_eq_true rfl) (fun K hF => ?_)
  show mW K _ 0 0 _ _ 0 [.ref 0, .int i, .int k, .int w, .retAddr 0, .retAddr 0] []
  have a0 : hp 0 = eO 7 (oTop kf) := h0
  obtain ⟨⟨P, g, d, p1, p2, p3⟩, hH⟩ := hS
  obtain ⟨v1, v2, v3⟩ := vec_set p3
  have hS1 : cSet hp 1 S.1 := ⟨P, g, d, p1, p2, p3⟩
  obtain ⟨w0, G0, D0, PP0, k1, k2, k3, -⟩ := id hH
  have hP0 := hP
  obtain ⟨L, hL⟩ := hP
  obtain ⟨LL0, DG0, m0, ri1, ev1, le1, T0, j1, j2, j3, j4⟩ := id hJ
  have y4 : ∀ f : mE, va_up hp 66 f 44 = eO 1 (oJudge ri1 ev1 le1) := fun f => (va_up_ne _ _ (by decide)).trans j2
  have y0 : ∀ f : mE, va_up hp 66 f 0 = eO 7 (oTop kf) := fun f => (va_up_ne _ _ (by decide)).trans a0
  have j5 : hp 45 = eO 0 (oChain (nI m0)) := congrFun j1 45
  clear j1
  have y5 : ∀ f : mE, va_up hp 66 f 45 = eO 0 (oChain (nI m0)) := fun f => (va_up_ne _ _ (by decide)).trans j5
  refine m_iload_n dX7_row_0 rfl ?_
  refine m_if_lt (t := 20) dX7_row_1 (by decide) (fun c1 => ?_) (fun c1 => ?_)
  · refine m_ldc2 dX7_row_20 cl_X7_119 ?_
    exact m_lreturn hF dX7_row_23 rfl rfl rfl ⟨by unfold sRow; rw [if_neg (by rintro ⟨y0, y1, y2⟩; first | exact absurd c1 (Int32.not_lt.mpr y0) | exact ch_no (by decide) (by assumption : chI k (nI 5) = 0) y1 | exact ch_no (by decide) (by assumption : chI w (nI 2) = 0) y2)], hJ, hP0, offJ.rf⟩
  refine m_iload_n dX7_row_4 rfl ?_
  refine m_iconst (v := 5) dX7_row_5 (by decide) ?_
  refine m_invS_I dX7_row_6 lk_X7_73 ar_X7_isChoice (t_X7_isChoice) rfl (Nat.le_of_ble_eq_true rfl) (by decide) (by decide) (by decide) (by decide) rfl rfl ?_
  try rw [va_uu]
  refine m_if_eq (t := 20) dX7_row_9 (by decide) (fun c9 => ?_) (fun c9 => ?_)
  · refine m_ldc2 dX7_row_20 cl_X7_119 ?_
    exact m_lreturn hF dX7_row_23 rfl rfl rfl ⟨by unfold sRow; rw [if_neg (by rintro ⟨y0, y1, y2⟩; first | exact absurd c1 (Int32.not_lt.mpr y0) | exact ch_no (by decide) (by assumption : chI k (nI 5) = 0) y1 | exact ch_no (by decide) (by assumption : chI w (nI 2) = 0) y2)], hJ, hP0, offJ.rf⟩
  refine m_iload_n dX7_row_12 rfl ?_
  refine m_iconst (v := 2) dX7_row_13 (by decide) ?_
  refine m_invS_I dX7_row_14 lk_X7_73 ar_X7_isChoice (t_X7_isChoice) rfl (Nat.le_of_ble_eq_true rfl) (by decide) (by decide) (by decide) (by decide) rfl rfl ?_
  try rw [va_uu]
  refine m_if_ne (t := 24) dX7_row_17 (by decide) (fun c17 => ?_) (fun c17 => ?_)
  rotate_left
  · refine m_ldc2 dX7_row_20 cl_X7_119 ?_
    exact m_lreturn hF dX7_row_23 rfl rfl rfl ⟨by unfold sRow; rw [if_neg (by rintro ⟨y0, y1, y2⟩; first | exact absurd c1 (Int32.not_lt.mpr y0) | exact ch_no (by decide) (by assumption : chI k (nI 5) = 0) y1 | exact ch_no (by decide) (by assumption : chI w (nI 2) = 0) y2)], hJ, hP0, offJ.rf⟩
  have hok : 0 ≤ i ∧ inC k 5 ∧ inC w 2 := ⟨Int32.not_lt.mp c1, ch_ok (by decide) c9, ch_ok (by decide) c17⟩
  obtain ⟨k, hk, rfl, ek⟩ := inC_n hok.2.1
  refine m_aload_n dX7_row_24 rfl ?_
  refine m_getfield dX7_row_25 fl_X7_12 (by first | assumption | rfl | exact y0 _ | exact y4 _ | exact y5 _ | exact va_up_self _ _ _) (by first | assumption | rfl | exact y0 _ | exact y4 _ | exact y5 _ | exact va_up_self _ _ _) ?_
  show mW _ _ _ _ _ _ _ _ (.ref _ :: _)
  refine m_aload_n dX7_row_28 rfl ?_
  refine m_getfield dX7_row_29 fl_X7_69 (by first | assumption | rfl | exact y0 _ | exact y4 _ | exact y5 _ | exact va_up_self _ _ _) (by first | assumption | rfl | exact y0 _ | exact y4 _ | exact y5 _ | exact va_up_self _ _ _) ?_
  show mW _ _ _ _ _ _ _ _ (.ref _ :: _)
  refine m_aload_n dX7_row_32 rfl ?_
  refine m_getfield dX7_row_33 fl_X7_12 (by first | assumption | rfl | exact y0 _ | exact y4 _ | exact y5 _ | exact va_up_self _ _ _) (by first | assumption | rfl | exact y0 _ | exact y4 _ | exact y5 _ | exact va_up_self _ _ _) ?_
  show mW _ _ _ _ _ _ _ _ (.ref _ :: _)
  refine m_getfield dX7_row_36 fl_X7_93 (by first | assumption | rfl | exact y0 _ | exact y4 _ | exact y5 _ | exact va_up_self _ _ _) (by first | assumption | rfl | exact y0 _ | exact y4 _ | exact y5 _ | exact va_up_self _ _ _) ?_
  show mW _ _ _ _ _ _ _ _ (.int _ :: _)
  refine m_invV_V dX7_row_39 lk_X7_104 ar_X3_fillLoop (ci := 3) rfl rfl (by first | assumption | rfl | exact y0 _ | exact y4 _ | exact y5 _ | exact va_up_self _ _ _) (t_X3_fillLoop p1 p2 hL) rfl (Nat.le_of_ble_eq_true rfl) (by decide) (by decide) (by decide) (by decide) rfl rfl ?_
  try rw [va_uu]
  refine m_aload_n dX7_row_42 rfl ?_
  refine m_getfield dX7_row_43 fl_X7_53 (by first | assumption | rfl | exact y0 _ | exact y4 _ | exact y5 _ | exact va_up_self _ _ _) (by first | assumption | rfl | exact y0 _ | exact y4 _ | exact y5 _ | exact va_up_self _ _ _) ?_
  show mW _ _ _ _ _ _ _ _ (.ref _ :: _)
  refine m_getfield dX7_row_46 fl_X7_121 (by first | assumption | rfl | exact y0 _ | exact y4 _ | exact y5 _ | exact va_up_self _ _ _) (by first | assumption | rfl | exact y0 _ | exact y4 _ | exact y5 _ | exact va_up_self _ _ _) ?_
  show mW _ _ _ _ _ _ _ _ (.ref _ :: _)
  refine m_aload_n dX7_row_49 rfl ?_
  refine m_getfield dX7_row_50 fl_X7_69 (by first | assumption | rfl | exact y0 _ | exact y4 _ | exact y5 _ | exact va_up_self _ _ _) (by first | assumption | rfl | exact y0 _ | exact y4 _ | exact y5 _ | exact va_up_self _ _ _) ?_
  show mW _ _ _ _ _ _ _ _ (.ref _ :: _)
  refine m_invV dX7_row_53 lk_X7_125 ar_X0_fill (ci := 0) rfl rfl (by first | assumption | rfl | exact y0 _ | exact y4 _ | exact y5 _ | exact va_up_self _ _ _) (t_fill (z := loopZ S.1 (S.1 10)) (hJ.of (fun q r1 r2 => va_up_ne _ _ (by omega))) (va_up_self _ _ _) (fun j hj => (fill5_at hj).trans ((loopI_eq v1 hj).trans (by rw [v2]; exact loopI_Z hC.1 hC.2 hj))) (loopZ_bd hC.1 hC.2) hK) rfl (Nat.le_of_ble_eq_true rfl) (by decide) (by decide) (by decide) (by decide) (fun v hp' q => ?_)
  obtain ⟨rfl, gJ, g44, g46, g45, gR, gO⟩ := q
  have g44' : hp' 44 = eO 1 (oJudge ri1 ev1 le1) := g44.trans (y4 _)
  have g0 : hp' 0 = eO 7 (oTop kf) := (gO 0 (by decide)).trans (y0 _)
  have gP : hp' 66 = _ := (gO 66 (by decide)).trans (va_up_self hp 66 _)
  show mW K _ 0 0 n hp' 56 [.ref 0, .int i, .int (nI k), .int w, .retAddr 0, .retAddr 0] []
  refine m_iload_n dX7_row_56 rfl ?_
  refine m_aload_n dX7_row_57 rfl ?_
  refine m_getfield dX7_row_58 fl_X7_53 (by first | assumption | rfl | exact y0 _ | exact y4 _ | exact y5 _ | exact va_up_self _ _ _) (by first | assumption | rfl | exact y0 _ | exact y4 _ | exact y5 _ | exact va_up_self _ _ _) ?_
  show mW _ _ _ _ _ _ _ _ (.ref _ :: _)
  refine m_getfield dX7_row_61 fl_X7_121 (by first | assumption | rfl | exact y0 _ | exact y4 _ | exact y5 _ | exact va_up_self _ _ _) (by first | assumption | rfl | exact y0 _ | exact y4 _ | exact y5 _ | exact va_up_self _ _ _) ?_
  show mW _ _ _ _ _ _ _ _ (.ref _ :: _)
  refine m_getfield dX7_row_64 fl_X7_131 (by first | assumption | rfl | exact y0 _ | exact y4 _ | exact y5 _ | exact va_up_self _ _ _) (by first | assumption | rfl | exact y0 _ | exact y4 _ | exact y5 _ | exact va_up_self _ _ _) ?_
  show mW _ _ _ _ _ _ _ _ (.int _ :: _)
  refine m_icmp_lt (t := 74) dX7_row_67 (by decide) (fun c67 => ?_) (fun c67 => ?_)
  rotate_left
  · refine m_ldc2 dX7_row_70 cl_X7_134 ?_
    exact m_lreturn hF dX7_row_73 rfl rfl rfl ⟨by unfold sRow; rw [if_pos hok, if_neg c67], gJ, ⟨_, gP⟩, fun q hq => by rw [gO q (by omega), va_up_ne _ _ (by omega)]⟩
  obtain ⟨eI, lI⟩ := nI_of0 (x := i) (by have := Int32.le_iff_toInt_le.mp hok.1; exact this)
  have hs5 := szZ_le (loopZ S.1 (S.1 10))
  have hA : tN i < szZ (loopZ S.1 (S.1 10)) := by
    have q := Int32.lt_iff_toInt_lt.mp c67
    rw [eI, nI_toInt lI, nI_toInt (by omega)] at q
    show i.toInt.toNat < _
    omega
  obtain ⟨f, gf1, gf2⟩ := gR _ hA
  generalize hAA : tN i = A at hA gf1 gf2
  have eA : tN i = A := hAA
  have hix : mIx i A 5 := by rw [eI]; rw [← hAA]; exact mIx_lit (by show tN i < 5; omega) (by decide)
  refine m_aload_n dX7_row_74 rfl ?_
  refine m_getfield dX7_row_75 fl_X7_53 (by first | assumption | rfl | exact y0 _ | exact y4 _ | exact y5 _ | exact va_up_self _ _ _) (by first | assumption | rfl | exact y0 _ | exact y4 _ | exact y5 _ | exact va_up_self _ _ _) ?_
  show mW _ _ _ _ _ _ _ _ (.ref _ :: _)
  refine m_getfield dX7_row_78 fl_X7_121 (by first | assumption | rfl | exact y0 _ | exact y4 _ | exact y5 _ | exact va_up_self _ _ _) (by first | assumption | rfl | exact y0 _ | exact y4 _ | exact y5 _ | exact va_up_self _ _ _) ?_
  show mW _ _ _ _ _ _ _ _ (.ref _ :: _)
  refine m_getfield dX7_row_81 fl_X7_136 (by first | assumption | rfl | exact y0 _ | exact y4 _ | exact y5 _ | exact va_up_self _ _ _) (by first | assumption | rfl | exact y0 _ | exact y4 _ | exact y5 _ | exact va_up_self _ _ _) ?_
  show mW _ _ _ _ _ _ _ _ (.ref _ :: _)
  refine m_iload_n dX7_row_84 rfl ?_
  refine m_aaloadJ dX7_row_85 (by first | assumption | rfl | exact y0 _ | exact y4 _ | exact y5 _ | exact va_up_self _ _ _) hix (rLines_at (show A < 5 by omega)) ?_
  refine m_iload_n dX7_row_86 rfl ?_
  refine m_laload dX7_row_87 (by first | assumption | rfl | exact y0 _ | exact y4 _ | exact y5 _ | exact va_up_self _ _ _) (mIx_lit hk (by decide)) ?_
  refine m_lstore dX7_row_88 (by decide) ?_
  show mW _ _ _ _ _ _ 90 [_, _, _, _, _, _] _
  refine m_iload_n dX7_row_90 rfl ?_
  refine m_if_ne (t := 100) dX7_row_91 (by decide) (fun c91 => ?_) (fun c91 => ?_)
  rotate_left
  · refine m_lload dX7_row_94 rfl ?_
    refine m_mabs dX7_row_96 lk_X7_140 (Nat.le_of_ble_eq_true rfl) (by decide) (by decide) (by decide) ?_
    exact m_lreturn hF dX7_row_99 rfl rfl rfl ⟨by unfold sRow; rw [if_pos hok, if_pos c67, eA, ek, ← gf2 k hk]; unfold rowV; rw [if_pos c91], gJ, ⟨_, gP⟩, fun q hq => by rw [gO q (by omega), va_up_ne _ _ (by omega)]⟩
  refine m_lload dX7_row_100 rfl ?_
  refine m_lconst (v := 0) dX7_row_102 (by decide) ?_
  refine m_lc_ne (t := 111) dX7_row_103 dX7_row_104 (by decide) (fun c103 => ?_) (fun c103 => ?_)
  rotate_left
  · refine m_lconst (v := 0) dX7_row_107 (by decide) ?_
    refine m_goto (t := 125) dX7_row_108 (by decide) ?_
    exact m_lreturn hF dX7_row_125 rfl rfl rfl ⟨by unfold sRow; rw [if_pos hok, if_pos c67, eA, ek, ← gf2 k hk]; unfold rowV; rw [if_neg c91, if_pos c103], gJ, ⟨_, gP⟩, fun q hq => by rw [gO q (by omega), va_up_ne _ _ (by omega)]⟩
  refine m_lload dX7_row_111 rfl ?_
  refine m_lconst (v := 0) dX7_row_113 (by decide) ?_
  refine m_lc_le (t := 122) dX7_row_114 dX7_row_115 (by decide) (fun c114 => ?_) (fun c114 => ?_)
  · refine m_ldc2 dX7_row_122 cl_X7_146 ?_
    exact m_lreturn hF dX7_row_125 rfl rfl rfl ⟨by unfold sRow; rw [if_pos hok, if_pos c67, eA, ek, ← gf2 k hk]; unfold rowV; rw [if_neg c91, if_neg c103, if_pos c114], gJ, ⟨_, gP⟩, fun q hq => by rw [gO q (by omega), va_up_ne _ _ (by omega)]⟩
  refine m_lconst (v := 1) dX7_row_118 (by decide) ?_
  refine m_goto (t := 125) dX7_row_119 (by decide) ?_
  exact m_lreturn hF dX7_row_125 rfl rfl rfl ⟨by unfold sRow; rw [if_pos hok, if_pos c67, eA, ek, ← gf2 k hk]; unfold rowV; rw [if_neg c91, if_neg c103, if_neg c114], gJ, ⟨_, gP⟩, fun q hq => by rw [gO q (by omega), va_up_ne _ _ (by omega)]⟩

