/-! ===== all calls, over the whole of either side ===== -/
/-- what is left to the mathematics -/
def MATH : Prop := CHK ∧ TUK ∧ STK ∧ RTK ∧ RWK ∧ SPK
theorem mTape.of {hp hp' : mHp} {z : Nat} {LT : Nat → Int32} (h : mTape hp z LT) (e : ∀ q, 72 ≤ q → q ≤ 72 → hp' q = hp q) : mTape hp' z LT := by
  obtain ⟨hz, TP, h1, h2⟩ := h
  exact ⟨hz, TP, (e 72 (by decide) (by decide)).trans h1, h2⟩
theorem mRw.of {hp hp' : mHp} (h : mRw hp) (e : ∀ q, 80 ≤ q → q ≤ 81 → hp' q = hp q) : mRw hp' := by
  obtain ⟨R, U, h1, h2⟩ := h
  exact ⟨R, U, (e 80 (by decide) (by decide)).trans h1, (e 81 (by decide) (by decide)).trans h2⟩
theorem mSp.of {hp hp' : mHp} (h : mSp hp) (e : ∀ q, 82 ≤ q → q ≤ 83 → hp' q = hp q) : mSp hp' := by
  obtain ⟨R, U, h1, h2⟩ := h
  exact ⟨R, U, (e 82 (by decide) (by decide)).trans h1, (e 83 (by decide) (by decide)).trans h2⟩
theorem mRd.of {hp hp' : mHp} (h : mRd hp) (e : ∀ q, 84 ≤ q → q ≤ 84 → hp' q = hp q) : mRd hp' := by
  obtain ⟨R, h1⟩ := h
  exact ⟨R, (e 84 (by decide) (by decide)).trans h1⟩
theorem cPol.of {hp hp' : mHp} (h : cPol hp) (e : ∀ q, 66 ≤ q → q ≤ 66 → hp' q = hp q) : cPol hp' := by
  obtain ⟨R, h1⟩ := h
  exact ⟨R, (e 66 (by decide) (by decide)).trans h1⟩
theorem cTop.of {hp hp' : mHp} {kf : Int32} (h : cTop hp kf) (e : ∀ q, 0 ≤ q → q ≤ 0 → hp' q = hp q) : cTop hp' kf := (e 0 (by decide) (by decide)).trans h
theorem mScX.of {hp hp' : mHp} (h : mScX hp) (e : ∀ q, 76 ≤ q → q ≤ 79 → hp' q = hp q) : mScX hp' := mScX_of h e
theorem mRep.top {hp : mHp} {S : TS} {ia tm : Int32} (h : mRep hp S ia tm) : mTop hp := by
  obtain ⟨ri, ev, le, ch, ls, rm, sm, ra, fa, C, PA, h1, -⟩ := h
  exact ⟨_, _, _, _, _, _, _, _, _, _, _, _, h1⟩
theorem mScX.pol {hp : mHp} (h : mScX hp) : mPol hp := by
  obtain ⟨Z, A, T0, Pr, s1, -⟩ := h
  exact ⟨Z, s1⟩
theorem cAll.of {hp hp' : mHp} {kf : Int32} {S T : TS} {z : Nat} {LT : Nat → Int32} {X : SH} (h : cAll hp kf S T z LT X) (gO : ∀ q, q < 67 → hp' q = hp q) : cAll hp' kf S T z LT X := by
  obtain ⟨k1, k2, k3, k4, k5, k6, k7, k8, k9⟩ := h
  exact ⟨k1.of (fun q a b => gO q (by omega)), k2.of (fun q a b => gO q (by omega)), k3.of (fun q a b => gO q (by omega)), k4.of (fun q a b => gO q (by omega)), k5.of (fun q a b => gO q (by omega)), k6.of (fun q a b => gO q (by omega)), k7.of (fun q a b => gO q (by omega)), k8.of (fun q a b => gO q (by omega)), k9.of (fun q a b => gO q (by omega))⟩
theorem mAll.of {hp hp' : mHp} {S T : TS} {ia : Int32} {z : Nat} {LT : Nat → Int32} {X : SH} (h : mAll hp S T ia z LT X) (gO : ∀ q, 66 < q → hp' q = hp q) : mAll hp' S T ia z LT X := by
  obtain ⟨m1, m2, m3, m4, m5, m6, m7, m8⟩ := h
  exact ⟨m1.of (fun q a b => gO q (by omega)), m2.of (fun q a b => gO q (by omega)), m3.of (fun q a b => gO q (by omega)), m4.of (fun q a b => gO q (by omega)), m5.of (fun q a b => gO q (by omega)), m6.of (fun q a b => gO q (by omega)), m7.of (fun q a b => gO q (by omega)), m8.of (fun q a b => gO q (by omega))⟩
theorem cw_part {n : Nat} {hp : mHp} {kf : Int32} {S T : TS} {z : Nat} {LT : Nat → Int32} {X : SH} (h : cAll hp kf S T z LT X)  {a k x : Int32} : mC D_X7_part [.ref 0, .int a, .int k, .int x] n hp (fun r hp' => r = some (.int ((sPart S a k x).1)) ∧ cAll hp' kf (sPart S a k x).2 T z LT X ∧ ∀ q, 66 < q → hp' q = hp q) := by
  obtain ⟨k1, k2, k3, k4, k5, k6, k7, k8, k9⟩ := h
  refine (t_X7_part k1 k2 ).mono ?_
  rintro r hp' ⟨rfl, gT, gO⟩
  exact ⟨rfl, ⟨k1.of (fun q a b => gO q (by omega)), gT, k3.of (fun q a b => gO q (by omega)), k4.of (fun q a b => gO q (by omega)), k5.of (fun q a b => gO q (by omega)), k6.of (fun q a b => gO q (by omega)), k7.of (fun q a b => gO q (by omega)), k8.of (fun q a b => gO q (by omega)), k9.of (fun q a b => gO q (by omega))⟩, fun q hq => gO q (by omega)⟩
theorem mw_part {n : Nat} {hp : mHp} {S T : TS} {ia : Int32} {z : Nat} {LT : Nat → Int32} {X : SH} (h : mAll hp S T ia z LT X)  {a k x : Int32} : mC D_X8_part [.ref 67, .int a, .int k, .int x] n hp (fun r hp' => r = some (.int ((sPart S a k x).1)) ∧ mAll hp' (sPart S a k x).2 T ia z LT X ∧ ∀ q, q < 67 → hp' q = hp q) := by
  obtain ⟨m1, m2, m3, m4, m5, m6, m7, m8⟩ := h
  refine (t_X8_part m1 ).mono ?_
  rintro r hp' ⟨rfl, gT, gO⟩
  exact ⟨rfl, ⟨gT, m2.of (fun q a b => gO q (by omega)), m3.of (fun q a b => gO q (by omega)), m4.of (fun q a b => gO q (by omega)), m5.of (fun q a b => gO q (by omega)), m6.of (fun q a b => gO q (by omega)), m7.of (fun q a b => gO q (by omega)), m8.of (fun q a b => gO q (by omega))⟩, fun q hq => gO q (by omega)⟩
theorem cw_gain {n : Nat} {hp : mHp} {kf : Int32} {S T : TS} {z : Nat} {LT : Nat → Int32} {X : SH} (h : cAll hp kf S T z LT X)  {x : Int32} : mC D_X7_gain [.ref 0, .int x] n hp (fun r hp' => r = some (.int ((sGain S x).1)) ∧ cAll hp' kf (sGain S x).2 T z LT X ∧ ∀ q, 66 < q → hp' q = hp q) := by
  obtain ⟨k1, k2, k3, k4, k5, k6, k7, k8, k9⟩ := h
  refine (t_X7_gain k1 k2 ).mono ?_
  rintro r hp' ⟨rfl, gT, gO⟩
  exact ⟨rfl, ⟨k1.of (fun q a b => gO q (by omega)), gT, k3.of (fun q a b => gO q (by omega)), k4.of (fun q a b => gO q (by omega)), k5.of (fun q a b => gO q (by omega)), k6.of (fun q a b => gO q (by omega)), k7.of (fun q a b => gO q (by omega)), k8.of (fun q a b => gO q (by omega)), k9.of (fun q a b => gO q (by omega))⟩, fun q hq => gO q (by omega)⟩
theorem mw_gain {n : Nat} {hp : mHp} {S T : TS} {ia : Int32} {z : Nat} {LT : Nat → Int32} {X : SH} (h : mAll hp S T ia z LT X)  {x : Int32} : mC D_X8_gain [.ref 67, .int x] n hp (fun r hp' => r = some (.int ((sGain S x).1)) ∧ mAll hp' (sGain S x).2 T ia z LT X ∧ ∀ q, q < 67 → hp' q = hp q) := by
  obtain ⟨m1, m2, m3, m4, m5, m6, m7, m8⟩ := h
  refine (t_X8_gain m1 ).mono ?_
  rintro r hp' ⟨rfl, gT, gO⟩
  exact ⟨rfl, ⟨gT, m2.of (fun q a b => gO q (by omega)), m3.of (fun q a b => gO q (by omega)), m4.of (fun q a b => gO q (by omega)), m5.of (fun q a b => gO q (by omega)), m6.of (fun q a b => gO q (by omega)), m7.of (fun q a b => gO q (by omega)), m8.of (fun q a b => gO q (by omega))⟩, fun q hq => gO q (by omega)⟩
theorem cw_drift {n : Nat} {hp : mHp} {kf : Int32} {S T : TS} {z : Nat} {LT : Nat → Int32} {X : SH} (h : cAll hp kf S T z LT X) (h11 : 0 ≤ (S.1 11).toInt) {x : Int32} : mC D_X7_drift [.ref 0, .int x] n hp (fun r hp' => r = some (.int ((sDrift S x).1)) ∧ cAll hp' kf (sDrift S x).2 T z LT X ∧ ∀ q, 66 < q → hp' q = hp q) := by
  obtain ⟨k1, k2, k3, k4, k5, k6, k7, k8, k9⟩ := h
  refine (t_X7_drift k1 k2 h11).mono ?_
  rintro r hp' ⟨rfl, gT, gO⟩
  exact ⟨rfl, ⟨k1.of (fun q a b => gO q (by omega)), gT, k3.of (fun q a b => gO q (by omega)), k4.of (fun q a b => gO q (by omega)), k5.of (fun q a b => gO q (by omega)), k6.of (fun q a b => gO q (by omega)), k7.of (fun q a b => gO q (by omega)), k8.of (fun q a b => gO q (by omega)), k9.of (fun q a b => gO q (by omega))⟩, fun q hq => gO q (by omega)⟩
theorem mw_drift {n : Nat} {hp : mHp} {S T : TS} {ia : Int32} {z : Nat} {LT : Nat → Int32} {X : SH} (h : mAll hp S T ia z LT X) (h11 : 0 ≤ (S.1 11).toInt) {x : Int32} : mC D_X8_drift [.ref 67, .int x] n hp (fun r hp' => r = some (.int ((sDrift S x).1)) ∧ mAll hp' (sDrift S x).2 T ia z LT X ∧ ∀ q, q < 67 → hp' q = hp q) := by
  obtain ⟨m1, m2, m3, m4, m5, m6, m7, m8⟩ := h
  refine (t_X8_drift m1 h11).mono ?_
  rintro r hp' ⟨rfl, gT, gO⟩
  exact ⟨rfl, ⟨gT, m2.of (fun q a b => gO q (by omega)), m3.of (fun q a b => gO q (by omega)), m4.of (fun q a b => gO q (by omega)), m5.of (fun q a b => gO q (by omega)), m6.of (fun q a b => gO q (by omega)), m7.of (fun q a b => gO q (by omega)), m8.of (fun q a b => gO q (by omega))⟩, fun q hq => gO q (by omega)⟩
theorem cw_undo {n : Nat} {hp : mHp} {kf : Int32} {S T : TS} {z : Nat} {LT : Nat → Int32} {X : SH} (h : cAll hp kf S T z LT X)   : mC D_X7_undo [.ref 0] n hp (fun r hp' => r = some (.int ((sUndo S).1)) ∧ cAll hp' kf (sUndo S).2 T z LT X ∧ ∀ q, 66 < q → hp' q = hp q) := by
  obtain ⟨k1, k2, k3, k4, k5, k6, k7, k8, k9⟩ := h
  refine (t_X7_undo k1 k2 ).mono ?_
  rintro r hp' ⟨rfl, gT, gO⟩
  exact ⟨rfl, ⟨k1.of (fun q a b => gO q (by omega)), gT, k3.of (fun q a b => gO q (by omega)), k4.of (fun q a b => gO q (by omega)), k5.of (fun q a b => gO q (by omega)), k6.of (fun q a b => gO q (by omega)), k7.of (fun q a b => gO q (by omega)), k8.of (fun q a b => gO q (by omega)), k9.of (fun q a b => gO q (by omega))⟩, fun q hq => gO q (by omega)⟩
theorem mw_undo {n : Nat} {hp : mHp} {S T : TS} {ia : Int32} {z : Nat} {LT : Nat → Int32} {X : SH} (h : mAll hp S T ia z LT X)   : mC D_X8_undo [.ref 67] n hp (fun r hp' => r = some (.int ((sUndo S).1)) ∧ mAll hp' (sUndo S).2 T ia z LT X ∧ ∀ q, q < 67 → hp' q = hp q) := by
  obtain ⟨m1, m2, m3, m4, m5, m6, m7, m8⟩ := h
  refine (t_X8_undo m1 ).mono ?_
  rintro r hp' ⟨rfl, gT, gO⟩
  exact ⟨rfl, ⟨gT, m2.of (fun q a b => gO q (by omega)), m3.of (fun q a b => gO q (by omega)), m4.of (fun q a b => gO q (by omega)), m5.of (fun q a b => gO q (by omega)), m6.of (fun q a b => gO q (by omega)), m7.of (fun q a b => gO q (by omega)), m8.of (fun q a b => gO q (by omega))⟩, fun q hq => gO q (by omega)⟩
theorem cw_seed {n : Nat} {hp : mHp} {kf : Int32} {S T : TS} {z : Nat} {LT : Nat → Int32} {X : SH} (h : cAll hp kf S T z LT X)  {x : Int32} : mC D_X7_seed [.ref 0, .int x] n hp (fun r hp' => r = some (.int ((sSeed S x).1)) ∧ cAll hp' kf (sSeed S x).2 T z LT X ∧ ∀ q, 66 < q → hp' q = hp q) := by
  obtain ⟨k1, k2, k3, k4, k5, k6, k7, k8, k9⟩ := h
  refine (t_X7_seed k1 k2 ).mono ?_
  rintro r hp' ⟨rfl, gT, gO⟩
  exact ⟨rfl, ⟨k1.of (fun q a b => gO q (by omega)), gT, k3.of (fun q a b => gO q (by omega)), k4.of (fun q a b => gO q (by omega)), k5.of (fun q a b => gO q (by omega)), k6.of (fun q a b => gO q (by omega)), k7.of (fun q a b => gO q (by omega)), k8.of (fun q a b => gO q (by omega)), k9.of (fun q a b => gO q (by omega))⟩, fun q hq => gO q (by omega)⟩
theorem mw_seed {n : Nat} {hp : mHp} {S T : TS} {ia : Int32} {z : Nat} {LT : Nat → Int32} {X : SH} (h : mAll hp S T ia z LT X)  {x : Int32} : mC D_X8_seed [.ref 67, .int x] n hp (fun r hp' => r = some (.int ((sSeed S x).1)) ∧ mAll hp' (sSeed S x).2 T ia z LT X ∧ ∀ q, q < 67 → hp' q = hp q) := by
  obtain ⟨m1, m2, m3, m4, m5, m6, m7, m8⟩ := h
  refine (t_X8_seed m1 ).mono ?_
  rintro r hp' ⟨rfl, gT, gO⟩
  exact ⟨rfl, ⟨gT, m2.of (fun q a b => gO q (by omega)), m3.of (fun q a b => gO q (by omega)), m4.of (fun q a b => gO q (by omega)), m5.of (fun q a b => gO q (by omega)), m6.of (fun q a b => gO q (by omega)), m7.of (fun q a b => gO q (by omega)), m8.of (fun q a b => gO q (by omega))⟩, fun q hq => gO q (by omega)⟩
theorem cw_told {n : Nat} {hp : mHp} {kf : Int32} {S T : TS} {z : Nat} {LT : Nat → Int32} {X : SH} (h : cAll hp kf S T z LT X)  {a k : Int32} : mC D_X7_told [.ref 0, .int a, .int k] n hp (fun r hp' => r = some (.int (sTold S a k)) ∧ cAll hp' kf S T z LT X ∧ ∀ q, 66 < q → hp' q = hp q) := by
  obtain ⟨k1, k2, k3, k4, k5, k6, k7, k8, k9⟩ := h
  refine (t_X7_told k1 k2).mono ?_
  rintro r hp' ⟨rfl, rfl⟩
  have gO : ∀ q, hp' q = hp' q := fun _ => rfl
  exact ⟨rfl, ⟨k1.of (fun q a b => gO q), k2.of (fun q a b => gO q), k3.of (fun q a b => gO q), k4.of (fun q a b => gO q), k5.of (fun q a b => gO q), k6.of (fun q a b => gO q), k7.of (fun q a b => gO q), k8.of (fun q a b => gO q), k9.of (fun q a b => gO q)⟩, fun q hq => gO q⟩
theorem mw_told {n : Nat} {hp : mHp} {S T : TS} {ia : Int32} {z : Nat} {LT : Nat → Int32} {X : SH} (h : mAll hp S T ia z LT X)  {a k : Int32} : mC D_X8_told [.ref 67, .int a, .int k] n hp (fun r hp' => r = some (.int (sTold S a k)) ∧ mAll hp' S T ia z LT X ∧ ∀ q, q < 67 → hp' q = hp q) := by
  obtain ⟨m1, m2, m3, m4, m5, m6, m7, m8⟩ := h
  refine (t_X8_told m1).mono ?_
  rintro r hp' ⟨rfl, rfl⟩
  have gO : ∀ q, hp' q = hp' q := fun _ => rfl
  exact ⟨rfl, ⟨m1.of (fun q a b => gO q), m2.of (fun q a b => gO q), m3.of (fun q a b => gO q), m4.of (fun q a b => gO q), m5.of (fun q a b => gO q), m6.of (fun q a b => gO q), m7.of (fun q a b => gO q), m8.of (fun q a b => gO q)⟩, fun q hq => gO q⟩
theorem cw_count {n : Nat} {hp : mHp} {kf : Int32} {S T : TS} {z : Nat} {LT : Nat → Int32} {X : SH} (h : cAll hp kf S T z LT X)  {x : Int32} : mC D_X7_count [.ref 0, .int x] n hp (fun r hp' => r = some (.int (sCount S x)) ∧ cAll hp' kf S T z LT X ∧ ∀ q, 66 < q → hp' q = hp q) := by
  obtain ⟨k1, k2, k3, k4, k5, k6, k7, k8, k9⟩ := h
  refine (t_X7_count k1 k2 k9).mono ?_
  rintro r hp' ⟨rfl, gO, gP⟩
  exact ⟨rfl, ⟨k1.of (fun q a b => gO q (by omega)), k2.of (fun q a b => gO q (by omega)), k3.of (fun q a b => gO q (by omega)), k4.of (fun q a b => gO q (by omega)), k5.of (fun q a b => gO q (by omega)), k6.of (fun q a b => gO q (by omega)), k7.of (fun q a b => gO q (by omega)), k8.of (fun q a b => gO q (by omega)), gP⟩, fun q hq => gO q (by omega)⟩
theorem mw_count {n : Nat} {hp : mHp} {S T : TS} {ia : Int32} {z : Nat} {LT : Nat → Int32} {X : SH} (h : mAll hp S T ia z LT X) (hC : okC S.1) {x : Int32} : mC D_X8_count [.ref 67, .int x] n hp (fun r hp' => r = some (.int (sCount S x)) ∧ mAll hp' S T ia z LT X ∧ ∀ q, q < 67 → hp' q = hp q) := by
  obtain ⟨m1, m2, m3, m4, m5, m6, m7, m8⟩ := h
  refine (t_X8_count m1 hC m5.pol).mono ?_
  rintro r hp' ⟨rfl, gR, gP, gO⟩
  obtain ⟨L9, gP⟩ := gP
  have gX : mScX hp' := (by
    obtain ⟨Z, A, T0, Pr, s1, s2, s3, s4⟩ := m5
    exact ⟨L9, A, T0, Pr, gP, (gO 77 (by decide)).trans s2, (gO 78 (by decide)).trans s3, (gO 79 (by decide)).trans s4⟩)
  exact ⟨rfl, ⟨gR, m2.of (fun q a b => gO q (by omega)), m3.of (fun q a b => gO q (by omega)), m4.of (fun q a b => gO q (by omega)), gX, m6.of (fun q a b => gO q (by omega)), m7.of (fun q a b => gO q (by omega)), m8.of (fun q a b => gO q (by omega))⟩, fun q hq => gO q (by omega)⟩
theorem cw_roots {n : Nat} {hp : mHp} {kf : Int32} {S T : TS} {z : Nat} {LT : Nat → Int32} {X : SH} (h : cAll hp kf S T z LT X) (hC : okC S.1) (hM : MATH) {b w : Int32} : mC D_X7_roots [.ref 0, .int b, .int w] n hp (fun r hp' => r = some (.int (sRoots S b (S.1 10) w)) ∧ cAll hp' kf S T z LT X ∧ ∀ q, 66 < q → hp' q = hp q) := by
  obtain ⟨k1, k2, k3, k4, k5, k6, k7, k8, k9⟩ := h
  refine (t_X7_roots k1 k2 k6 k9 hC hM.1).mono ?_
  rintro r hp' ⟨rfl, gJ, gP, gO⟩
  exact ⟨rfl, ⟨k1.of (fun q a b => gO q (by omega)), k2.of (fun q a b => gO q (by omega)), k3.of (fun q a b => gO q (by omega)), k4.of (fun q a b => gO q (by omega)), k5.of (fun q a b => gO q (by omega)), gJ, k7.of (fun q a b => gO q (by omega)), k8.of (fun q a b => gO q (by omega)), gP⟩, fun q hq => gO q (by omega)⟩
theorem mw_roots {n : Nat} {hp : mHp} {S T : TS} {ia : Int32} {z : Nat} {LT : Nat → Int32} {X : SH} (h : mAll hp S T ia z LT X) (hC : okC S.1) (hM : MATH) {b w : Int32} : mC D_X8_roots [.ref 67, .int b, .int w] n hp (fun r hp' => r = some (.int (sRoots S b (S.1 10) w)) ∧ mAll hp' S T ia z LT X ∧ ∀ q, q < 67 → hp' q = hp q) := by
  obtain ⟨m1, m2, m3, m4, m5, m6, m7, m8⟩ := h
  refine (t_X8_roots m1 m5 hC hM.2.1 hM.2.2.2.1).mono ?_
  rintro r hp' ⟨rfl, gR, gX, gO⟩
  exact ⟨rfl, ⟨gR, m2.of (fun q a b => gO q (by omega)), m3.of (fun q a b => gO q (by omega)), m4.of (fun q a b => gO q (by omega)), gX, m6.of (fun q a b => gO q (by omega)), m7.of (fun q a b => gO q (by omega)), m8.of (fun q a b => gO q (by omega))⟩, fun q hq => gO q (by omega)⟩
theorem cw_at {n : Nat} {hp : mHp} {kf : Int32} {S T : TS} {z : Nat} {LT : Nat → Int32} {X : SH} (h : cAll hp kf S T z LT X) (hC : okC S.1) (hM : MATH) {b v w : Int32} : mC D_X7_at [.ref 0, .int b, .int v, .int w] n hp (fun r hp' => r = some (.int (sRoots S b v w)) ∧ cAll hp' kf S T z LT X ∧ ∀ q, 66 < q → hp' q = hp q) := by
  obtain ⟨k1, k2, k3, k4, k5, k6, k7, k8, k9⟩ := h
  refine (t_X7_at k1 k2 k6 k9 hC hM.1).mono ?_
  rintro r hp' ⟨rfl, gJ, gP, gO⟩
  exact ⟨rfl, ⟨k1.of (fun q a b => gO q (by omega)), k2.of (fun q a b => gO q (by omega)), k3.of (fun q a b => gO q (by omega)), k4.of (fun q a b => gO q (by omega)), k5.of (fun q a b => gO q (by omega)), gJ, k7.of (fun q a b => gO q (by omega)), k8.of (fun q a b => gO q (by omega)), gP⟩, fun q hq => gO q (by omega)⟩
theorem mw_at {n : Nat} {hp : mHp} {S T : TS} {ia : Int32} {z : Nat} {LT : Nat → Int32} {X : SH} (h : mAll hp S T ia z LT X) (hC : okC S.1) (hM : MATH) {b v w : Int32} : mC D_X8_at [.ref 67, .int b, .int v, .int w] n hp (fun r hp' => r = some (.int (sRoots S b v w)) ∧ mAll hp' S T ia z LT X ∧ ∀ q, q < 67 → hp' q = hp q) := by
  obtain ⟨m1, m2, m3, m4, m5, m6, m7, m8⟩ := h
  refine (t_X8_at m1 m5 hC hM.2.1 hM.2.2.2.1).mono ?_
  rintro r hp' ⟨rfl, gR, gX, gO⟩
  exact ⟨rfl, ⟨gR, m2.of (fun q a b => gO q (by omega)), m3.of (fun q a b => gO q (by omega)), m4.of (fun q a b => gO q (by omega)), gX, m6.of (fun q a b => gO q (by omega)), m7.of (fun q a b => gO q (by omega)), m8.of (fun q a b => gO q (by omega))⟩, fun q hq => gO q (by omega)⟩
theorem cw_rows {n : Nat} {hp : mHp} {kf : Int32} {S T : TS} {z : Nat} {LT : Nat → Int32} {X : SH} (h : cAll hp kf S T z LT X) (hC : okC S.1) (hM : MATH)  : mC D_X7_rows [.ref 0] n hp (fun r hp' => r = some (.int (sRows S)) ∧ cAll hp' kf S T z LT X ∧ ∀ q, 66 < q → hp' q = hp q) := by
  obtain ⟨k1, k2, k3, k4, k5, k6, k7, k8, k9⟩ := h
  refine (t_X7_rows k1 k2 k6 k9 hC hM.1).mono ?_
  rintro r hp' ⟨rfl, gJ, gP, gO⟩
  exact ⟨rfl, ⟨k1.of (fun q a b => gO q (by omega)), k2.of (fun q a b => gO q (by omega)), k3.of (fun q a b => gO q (by omega)), k4.of (fun q a b => gO q (by omega)), k5.of (fun q a b => gO q (by omega)), gJ, k7.of (fun q a b => gO q (by omega)), k8.of (fun q a b => gO q (by omega)), gP⟩, fun q hq => gO q (by omega)⟩
theorem cw_row {n : Nat} {hp : mHp} {kf : Int32} {S T : TS} {z : Nat} {LT : Nat → Int32} {X : SH} (h : cAll hp kf S T z LT X) (hC : okC S.1) (hM : MATH) {i k w : Int32} : mC D_X7_row [.ref 0, .int i, .int k, .int w] n hp (fun r hp' => r = some (.long (sRow S i k w)) ∧ cAll hp' kf S T z LT X ∧ ∀ q, 66 < q → hp' q = hp q) := by
  obtain ⟨k1, k2, k3, k4, k5, k6, k7, k8, k9⟩ := h
  refine (t_X7_row k1 k2 k6 k9 hC hM.1).mono ?_
  rintro r hp' ⟨rfl, gJ, gP, gO⟩
  exact ⟨rfl, ⟨k1.of (fun q a b => gO q (by omega)), k2.of (fun q a b => gO q (by omega)), k3.of (fun q a b => gO q (by omega)), k4.of (fun q a b => gO q (by omega)), k5.of (fun q a b => gO q (by omega)), gJ, k7.of (fun q a b => gO q (by omega)), k8.of (fun q a b => gO q (by omega)), gP⟩, fun q hq => gO q (by omega)⟩
theorem mw_rows {n : Nat} {hp : mHp} {S T : TS} {ia : Int32} {z : Nat} {LT : Nat → Int32} {X : SH} (h : mAll hp S T ia z LT X) (hC : okC S.1) (hM : MATH)  : mC D_X8_rows [.ref 67] n hp (fun r hp' => r = some (.int (sRows S)) ∧ mAll hp' S T ia z LT X ∧ ∀ q, q < 67 → hp' q = hp q) := by
  obtain ⟨m1, m2, m3, m4, m5, m6, m7, m8⟩ := h
  refine (t_X8_rows m1 m5 m6 hC hM.2.2.2.2.1).mono ?_
  rintro r hp' ⟨rfl, gR, gX, gY, gO⟩
  exact ⟨rfl, ⟨gR, m2.of (fun q a b => gO q (by omega)), m3.of (fun q a b => gO q (by omega)), m4.of (fun q a b => gO q (by omega)), gX, gY, m7.of (fun q a b => gO q (by omega)), m8.of (fun q a b => gO q (by omega))⟩, fun q hq => gO q (by omega)⟩
theorem mw_row {n : Nat} {hp : mHp} {S T : TS} {ia : Int32} {z : Nat} {LT : Nat → Int32} {X : SH} (h : mAll hp S T ia z LT X) (hC : okC S.1) (hM : MATH) {i k w : Int32} : mC D_X8_row [.ref 67, .int i, .int k, .int w] n hp (fun r hp' => r = some (.long (sRow S i k w)) ∧ mAll hp' S T ia z LT X ∧ ∀ q, q < 67 → hp' q = hp q) := by
  obtain ⟨m1, m2, m3, m4, m5, m6, m7, m8⟩ := h
  refine (t_X8_row m1 m5 m6 hC hM.2.2.2.2.1).mono ?_
  rintro r hp' ⟨rfl, gR, gX, gY, gO⟩
  exact ⟨rfl, ⟨gR, m2.of (fun q a b => gO q (by omega)), m3.of (fun q a b => gO q (by omega)), m4.of (fun q a b => gO q (by omega)), gX, gY, m7.of (fun q a b => gO q (by omega)), m8.of (fun q a b => gO q (by omega))⟩, fun q hq => gO q (by omega)⟩
theorem cw_span {n : Nat} {hp : mHp} {kf : Int32} {S T : TS} {z : Nat} {LT : Nat → Int32} {X : SH} (h : cAll hp kf S T z LT X)  {b k w : Int32} : mC D_X7_span [.ref 0, .int b, .int k, .int w] n hp (fun r hp' => r = some (.int (sSpan S b k w)) ∧ cAll hp' kf S T z LT X ∧ ∀ q, 66 < q → hp' q = hp q) := by
  obtain ⟨k1, k2, k3, k4, k5, k6, k7, k8, k9⟩ := h
  refine (t_X7_span k1 k2 k6 k7 k8).mono ?_
  rintro r hp' ⟨rfl, gJ, g7, g8, gO⟩
  exact ⟨rfl, ⟨k1.of (fun q a b => gO q (by omega)), k2.of (fun q a b => gO q (by omega)), k3.of (fun q a b => gO q (by omega)), k4.of (fun q a b => gO q (by omega)), k5.of (fun q a b => gO q (by omega)), gJ, g7, g8, k9.of (fun q a b => gO q (by omega))⟩, fun q hq => gO q (by omega)⟩
theorem mw_span {n : Nat} {hp : mHp} {S T : TS} {ia : Int32} {z : Nat} {LT : Nat → Int32} {X : SH} (h : mAll hp S T ia z LT X) (hC : okC S.1) (hM : MATH) {b k w : Int32} : mC D_X8_span [.ref 67, .int b, .int k, .int w] n hp (fun r hp' => r = some (.int (sSpan S b k w)) ∧ mAll hp' S T ia z LT X ∧ ∀ q, q < 67 → hp' q = hp q) := by
  obtain ⟨m1, m2, m3, m4, m5, m6, m7, m8⟩ := h
  refine (t_X8_span m1 m5 m7 hC hM.2.1 hM.2.2.1 hM.2.2.2.2.2).mono ?_
  rintro r hp' ⟨rfl, gR, gX, gY, gO⟩
  exact ⟨rfl, ⟨gR, m2.of (fun q a b => gO q (by omega)), m3.of (fun q a b => gO q (by omega)), m4.of (fun q a b => gO q (by omega)), gX, m6.of (fun q a b => gO q (by omega)), gY, m8.of (fun q a b => gO q (by omega))⟩, fun q hq => gO q (by omega)⟩
theorem cw_widest {n : Nat} {hp : mHp} {kf : Int32} {S T : TS} {z : Nat} {LT : Nat → Int32} {X : SH} (h : cAll hp kf S T z LT X)  {b k w : Int32} : mC D_X7_widest [.ref 0, .int b, .int k, .int w] n hp (fun r hp' => r = some (.int (sWidest S b k w)) ∧ cAll hp' kf S T z LT X ∧ ∀ q, 66 < q → hp' q = hp q) := by
  obtain ⟨k1, k2, k3, k4, k5, k6, k7, k8, k9⟩ := h
  refine (t_X7_widest k1 k2 k6 k7 k8).mono ?_
  rintro r hp' ⟨rfl, gJ, g7, g8, gO⟩
  exact ⟨rfl, ⟨k1.of (fun q a b => gO q (by omega)), k2.of (fun q a b => gO q (by omega)), k3.of (fun q a b => gO q (by omega)), k4.of (fun q a b => gO q (by omega)), k5.of (fun q a b => gO q (by omega)), gJ, g7, g8, k9.of (fun q a b => gO q (by omega))⟩, fun q hq => gO q (by omega)⟩
theorem mw_widest {n : Nat} {hp : mHp} {S T : TS} {ia : Int32} {z : Nat} {LT : Nat → Int32} {X : SH} (h : mAll hp S T ia z LT X) (hC : okC S.1) (hM : MATH) {b k w : Int32} : mC D_X8_widest [.ref 67, .int b, .int k, .int w] n hp (fun r hp' => r = some (.int (sWidest S b k w)) ∧ mAll hp' S T ia z LT X ∧ ∀ q, q < 67 → hp' q = hp q) := by
  obtain ⟨m1, m2, m3, m4, m5, m6, m7, m8⟩ := h
  refine (t_X8_widest m1 m5 m7 hC hM.2.1 hM.2.2.1 hM.2.2.2.2.2).mono ?_
  rintro r hp' ⟨rfl, gR, gX, gY, gO⟩
  exact ⟨rfl, ⟨gR, m2.of (fun q a b => gO q (by omega)), m3.of (fun q a b => gO q (by omega)), m4.of (fun q a b => gO q (by omega)), gX, m6.of (fun q a b => gO q (by omega)), gY, m8.of (fun q a b => gO q (by omega))⟩, fun q hq => gO q (by omega)⟩
theorem cw_spans {n : Nat} {hp : mHp} {kf : Int32} {S T : TS} {z : Nat} {LT : Nat → Int32} {X : SH} (h : cAll hp kf S T z LT X)  {b w : Int32} : mC D_X7_spans [.ref 0, .int b, .int w] n hp (fun r hp' => r = some (.int (sSpans S b w)) ∧ cAll hp' kf S T z LT X ∧ ∀ q, 66 < q → hp' q = hp q) := by
  obtain ⟨k1, k2, k3, k4, k5, k6, k7, k8, k9⟩ := h
  refine (t_X7_spans k1 k2 k6 k7 k8).mono ?_
  rintro r hp' ⟨rfl, gJ, g7, g8, gO⟩
  exact ⟨rfl, ⟨k1.of (fun q a b => gO q (by omega)), k2.of (fun q a b => gO q (by omega)), k3.of (fun q a b => gO q (by omega)), k4.of (fun q a b => gO q (by omega)), k5.of (fun q a b => gO q (by omega)), gJ, g7, g8, k9.of (fun q a b => gO q (by omega))⟩, fun q hq => gO q (by omega)⟩
theorem mw_spans {n : Nat} {hp : mHp} {S T : TS} {ia : Int32} {z : Nat} {LT : Nat → Int32} {X : SH} (h : mAll hp S T ia z LT X) (hC : okC S.1) (hM : MATH) {b w : Int32} : mC D_X8_spans [.ref 67, .int b, .int w] n hp (fun r hp' => r = some (.int (sSpans S b w)) ∧ mAll hp' S T ia z LT X ∧ ∀ q, q < 67 → hp' q = hp q) := by
  obtain ⟨m1, m2, m3, m4, m5, m6, m7, m8⟩ := h
  refine (t_X8_spans m1 m5 m7 hC hM.2.1 hM.2.2.1 hM.2.2.2.2.2).mono ?_
  rintro r hp' ⟨rfl, gR, gX, gY, gO⟩
  exact ⟨rfl, ⟨gR, m2.of (fun q a b => gO q (by omega)), m3.of (fun q a b => gO q (by omega)), m4.of (fun q a b => gO q (by omega)), gX, m6.of (fun q a b => gO q (by omega)), gY, m8.of (fun q a b => gO q (by omega))⟩, fun q hq => gO q (by omega)⟩
theorem cw_corners {n : Nat} {hp : mHp} {kf : Int32} {S T : TS} {z : Nat} {LT : Nat → Int32} {X : SH} (h : cAll hp kf S T z LT X)  {ρ : Int32} : mC D_X7_corners [.ref 0, .int ρ] n hp (fun r hp' => r = some (.int (sCorners S ρ)) ∧ cAll hp' kf S T z LT X ∧ ∀ q, 66 < q → hp' q = hp q) := by
  obtain ⟨k1, k2, k3, k4, k5, k6, k7, k8, k9⟩ := h
  refine (t_X7_corners k1 k2 k6 k9).mono ?_
  rintro r hp' ⟨rfl, gJ, gP, gO⟩
  exact ⟨rfl, ⟨k1.of (fun q a b => gO q (by omega)), k2.of (fun q a b => gO q (by omega)), k3.of (fun q a b => gO q (by omega)), k4.of (fun q a b => gO q (by omega)), k5.of (fun q a b => gO q (by omega)), gJ, k7.of (fun q a b => gO q (by omega)), k8.of (fun q a b => gO q (by omega)), gP⟩, fun q hq => gO q (by omega)⟩
theorem mw_corners {n : Nat} {hp : mHp} {S T : TS} {ia : Int32} {z : Nat} {LT : Nat → Int32} {X : SH} (h : mAll hp S T ia z LT X) (hC : okC S.1) (hM : MATH) {ρ : Int32} : mC D_X8_corners [.ref 67, .int ρ] n hp (fun r hp' => r = some (.int (sCorners S ρ)) ∧ mAll hp' S T ia z LT X ∧ ∀ q, q < 67 → hp' q = hp q) := by
  obtain ⟨m1, m2, m3, m4, m5, m6, m7, m8⟩ := h
  refine (t_X8_corners m1 m5 hC hM.2.1 hM.2.2.1).mono ?_
  rintro r hp' ⟨rfl, gR, gX, gO⟩
  exact ⟨rfl, ⟨gR, m2.of (fun q a b => gO q (by omega)), m3.of (fun q a b => gO q (by omega)), m4.of (fun q a b => gO q (by omega)), gX, m6.of (fun q a b => gO q (by omega)), m7.of (fun q a b => gO q (by omega)), m8.of (fun q a b => gO q (by omega))⟩, fun q hq => gO q (by omega)⟩
theorem cw_neighbours {n : Nat} {hp : mHp} {kf : Int32} {S T : TS} {z : Nat} {LT : Nat → Int32} {X : SH} (h : cAll hp kf S T z LT X)  {b : Int32} : mC D_X7_neighbours [.ref 0, .int b] n hp (fun r hp' => r = some (.int (sNeigh S b)) ∧ cAll hp' kf S T z LT X ∧ ∀ q, 66 < q → hp' q = hp q) := by
  obtain ⟨k1, k2, k3, k4, k5, k6, k7, k8, k9⟩ := h
  refine (t_X7_neighbours k1 k2 k6 k9).mono ?_
  rintro r hp' ⟨rfl, gJ, gP, gO⟩
  exact ⟨rfl, ⟨k1.of (fun q a b => gO q (by omega)), k2.of (fun q a b => gO q (by omega)), k3.of (fun q a b => gO q (by omega)), k4.of (fun q a b => gO q (by omega)), k5.of (fun q a b => gO q (by omega)), gJ, k7.of (fun q a b => gO q (by omega)), k8.of (fun q a b => gO q (by omega)), gP⟩, fun q hq => gO q (by omega)⟩
theorem mw_neighbours {n : Nat} {hp : mHp} {S T : TS} {ia : Int32} {z : Nat} {LT : Nat → Int32} {X : SH} (h : mAll hp S T ia z LT X) (hC : okC S.1) (hM : MATH) {b : Int32} : mC D_X8_neighbours [.ref 67, .int b] n hp (fun r hp' => r = some (.int (sNeigh S b)) ∧ mAll hp' S T ia z LT X ∧ ∀ q, q < 67 → hp' q = hp q) := by
  obtain ⟨m1, m2, m3, m4, m5, m6, m7, m8⟩ := h
  refine (t_X8_neighbours m1 m5 hC hM.2.1 hM.2.2.1).mono ?_
  rintro r hp' ⟨rfl, gR, gX, gO⟩
  exact ⟨rfl, ⟨gR, m2.of (fun q a b => gO q (by omega)), m3.of (fun q a b => gO q (by omega)), m4.of (fun q a b => gO q (by omega)), gX, m6.of (fun q a b => gO q (by omega)), m7.of (fun q a b => gO q (by omega)), m8.of (fun q a b => gO q (by omega))⟩, fun q hq => gO q (by omega)⟩
theorem cw_off {n : Nat} {hp : mHp} {kf : Int32} {S T : TS} {z : Nat} {LT : Nat → Int32} {X : SH} (h : cAll hp kf S T z LT X)  {c w : Int32} : mC D_X7_off [.ref 0, .int c, .int w] n hp (fun r hp' => r = some (.int (sOff S c w)) ∧ cAll hp' kf S T z LT X ∧ ∀ q, 66 < q → hp' q = hp q) := by
  obtain ⟨k1, k2, k3, k4, k5, k6, k7, k8, k9⟩ := h
  refine (t_X7_off k1 k2 k6 k9).mono ?_
  rintro r hp' ⟨rfl, gJ, gP, gO⟩
  exact ⟨rfl, ⟨k1.of (fun q a b => gO q (by omega)), k2.of (fun q a b => gO q (by omega)), k3.of (fun q a b => gO q (by omega)), k4.of (fun q a b => gO q (by omega)), k5.of (fun q a b => gO q (by omega)), gJ, k7.of (fun q a b => gO q (by omega)), k8.of (fun q a b => gO q (by omega)), gP⟩, fun q hq => gO q (by omega)⟩
theorem mw_off {n : Nat} {hp : mHp} {S T : TS} {ia : Int32} {z : Nat} {LT : Nat → Int32} {X : SH} (h : mAll hp S T ia z LT X) (hC : okC S.1) (hM : MATH) {c w : Int32} : mC D_X8_off [.ref 67, .int c, .int w] n hp (fun r hp' => r = some (.int (sOff S c w)) ∧ mAll hp' S T ia z LT X ∧ ∀ q, q < 67 → hp' q = hp q) := by
  obtain ⟨m1, m2, m3, m4, m5, m6, m7, m8⟩ := h
  refine (t_X8_off m1 m5 hC hM.2.1 hM.2.2.1).mono ?_
  rintro r hp' ⟨rfl, gR, gX, gO⟩
  exact ⟨rfl, ⟨gR, m2.of (fun q a b => gO q (by omega)), m3.of (fun q a b => gO q (by omega)), m4.of (fun q a b => gO q (by omega)), gX, m6.of (fun q a b => gO q (by omega)), m7.of (fun q a b => gO q (by omega)), m8.of (fun q a b => gO q (by omega))⟩, fun q hq => gO q (by omega)⟩
theorem cw_judged {n : Nat} {hp : mHp} {kf : Int32} {S T : TS} {z : Nat} {LT : Nat → Int32} {X : SH} (h : cAll hp kf S T z LT X) (hO : okS X) {s l i y : Int32} : mC D_X7_judged [.ref 0, .int s, .int l, .int i, .int y] n hp (fun r hp' => r = some (.int (sJudged X s l i y)) ∧ cAll hp' kf S T z LT X ∧ ∀ q, 66 < q → hp' q = hp q) := by
  obtain ⟨k1, k2, k3, k4, k5, k6, k7, k8, k9⟩ := h
  refine (t_X7_judged k1 k5 hO k6 k9).mono ?_
  rintro r hp' ⟨rfl, gJ, gP, gO⟩
  exact ⟨rfl, ⟨k1.of (fun q a b => gO q (by omega)), k2.of (fun q a b => gO q (by omega)), k3.of (fun q a b => gO q (by omega)), k4.of (fun q a b => gO q (by omega)), k5.of (fun q a b => gO q (by omega)), gJ, k7.of (fun q a b => gO q (by omega)), k8.of (fun q a b => gO q (by omega)), gP⟩, fun q hq => gO q (by omega)⟩
theorem mw_judged {n : Nat} {hp : mHp} {S T : TS} {ia : Int32} {z : Nat} {LT : Nat → Int32} {X : SH} (h : mAll hp S T ia z LT X) (hO : okS X) (hM : MATH) {s l i y : Int32} : mC D_X8_judged [.ref 67, .int s, .int l, .int i, .int y] n hp (fun r hp' => r = some (.int (sJudged X s l i y)) ∧ mAll hp' S T ia z LT X ∧ ∀ q, q < 67 → hp' q = hp q) := by
  obtain ⟨m1, m2, m3, m4, m5, m6, m7, m8⟩ := h
  refine (t_X8_judged m1 m4 hO m5 hM.2.1 hM.2.2.1).mono ?_
  rintro r hp' ⟨rfl, gR, gX, gO⟩
  exact ⟨rfl, ⟨gR, m2.of (fun q a b => gO q (by omega)), m3.of (fun q a b => gO q (by omega)), m4.of (fun q a b => gO q (by omega)), gX, m6.of (fun q a b => gO q (by omega)), m7.of (fun q a b => gO q (by omega)), m8.of (fun q a b => gO q (by omega))⟩, fun q hq => gO q (by omega)⟩
theorem cw_type {n : Nat} {hp : mHp} {kf : Int32} {S T : TS} {z : Nat} {LT : Nat → Int32} {X : SH} (h : cAll hp kf S T z LT X)  {x : Int32} : mC D_X7_type [.ref 0, .int x] n hp (fun r hp' => r = some (.int ((sType z LT x).1)) ∧ cAll hp' kf S T (sType z LT x).2.1 (sType z LT x).2.2 X ∧ ∀ q, 66 < q → hp' q = hp q) := by
  obtain ⟨k1, k2, k3, k4, k5, k6, k7, k8, k9⟩ := h
  refine (t_X7_type k1 k4).mono ?_
  rintro r hp' ⟨rfl, gT, gO⟩
  exact ⟨rfl, ⟨k1.of (fun q a b => gO q (by omega)), k2.of (fun q a b => gO q (by omega)), k3.of (fun q a b => gO q (by omega)), gT, k5.of (fun q a b => gO q (by omega)), k6.of (fun q a b => gO q (by omega)), k7.of (fun q a b => gO q (by omega)), k8.of (fun q a b => gO q (by omega)), k9.of (fun q a b => gO q (by omega))⟩, fun q hq => gO q (by omega)⟩
theorem mw_type {n : Nat} {hp : mHp} {S T : TS} {ia : Int32} {z : Nat} {LT : Nat → Int32} {X : SH} (h : mAll hp S T ia z LT X)  {x : Int32} : mC D_X8_type [.ref 67, .int x] n hp (fun r hp' => r = some (.int ((sType z LT x).1)) ∧ mAll hp' S T ia (sType z LT x).2.1 (sType z LT x).2.2 X ∧ ∀ q, q < 67 → hp' q = hp q) := by
  obtain ⟨m1, m2, m3, m4, m5, m6, m7, m8⟩ := h
  obtain ⟨ri, ev, le, ch, ls, rm, sm, ra, fa, C, PA, h1, h2, h3, h4, h5, h6⟩ := m1
  refine (t_X8_type h1 m3).mono ?_
  rintro r hp' ⟨rfl, g1, gT, gO⟩
  exact ⟨rfl, ⟨⟨ri, ev, le, ch, ls, rm, sm, ra, fa, C, PA, g1, (gO 68 (by decide) (by decide)).trans h2, (gO 69 (by decide) (by decide)).trans h3, h4, h5, h6⟩, m2.of (fun q a b => gO q (by omega) (by omega)), gT, m4.of (fun q a b => gO q (by omega) (by omega)), m5.of (fun q a b => gO q (by omega) (by omega)), m6.of (fun q a b => gO q (by omega) (by omega)), m7.of (fun q a b => gO q (by omega) (by omega)), m8.of (fun q a b => gO q (by omega) (by omega))⟩, fun q hq => gO q (by omega) (by omega)⟩
theorem cw_read {n : Nat} {hp : mHp} {kf : Int32} {S T : TS} {z : Nat} {LT : Nat → Int32} {X : SH} (h : cAll hp kf S T z LT X) : mC D_X7_read [.ref 0] n hp (fun r hp' => ∃ (fg : Int32) (pw : Nat) (P : Nat → Int32), r = some (.int (sRead S (cText LT z fg pw (fillTo P 0 10))).1) ∧ cAll hp' kf (sRead S (cText LT z fg pw (fillTo P 0 10))).2 T 0 LT X ∧ ∀ q, 66 < q → hp' q = hp q) := by
  obtain ⟨k1, k2, k3, k4, k5, k6, k7, k8, k9⟩ := h
  refine (t_X7_read k1 k2 k4).mono ?_
  rintro r hp' ⟨fg, pw, P, rfl, gT, gU, gO⟩
  exact ⟨fg, pw, P, rfl, ⟨k1.of (fun q a b => gO q (by omega)), gT, k3.of (fun q a b => gO q (by omega)), gU, k5.of (fun q a b => gO q (by omega)), k6.of (fun q a b => gO q (by omega)), k7.of (fun q a b => gO q (by omega)), k8.of (fun q a b => gO q (by omega)), k9.of (fun q a b => gO q (by omega))⟩, fun q hq => gO q (by omega)⟩
theorem mw_read {n : Nat} {hp : mHp} {S T : TS} {ia : Int32} {z : Nat} {LT : Nat → Int32} {X : SH} (h : mAll hp S T ia z LT X) (hL : tpOk z LT) (fg : Int32) (pw : Nat) (P : Nat → Int32) : mC D_X8_read [.ref 67] n hp (fun r hp' => r = some (.int (sRead S (cText LT z fg pw (fillTo P 0 10))).1) ∧ mAll hp' (sRead S (cText LT z fg pw (fillTo P 0 10))).2 T ia 0 LT X ∧ ∀ q, q < 67 → hp' q = hp q) := by
  obtain ⟨m1, m2, m3, m4, m5, m6, m7, m8⟩ := h
  refine (t_X8_read m1 m3 hL m8 fg pw P).mono ?_
  rintro r hp' ⟨rfl, gR, gT, gD, gO⟩
  exact ⟨rfl, ⟨gR, m2.of (fun q a b => gO q (by omega)), gT, m4.of (fun q a b => gO q (by omega)), m5.of (fun q a b => gO q (by omega)), m6.of (fun q a b => gO q (by omega)), m7.of (fun q a b => gO q (by omega)), gD⟩, fun q hq => gO q (by omega)⟩
theorem cw_image {n : Nat} {hp : mHp} {kf : Int32} {S T : TS} {z : Nat} {LT : Nat → Int32} {X : SH} (h : cAll hp kf S T z LT X) : mC D_X7_image [.ref 0] n hp (fun r hp' => r = some (.int 1) ∧ cAll hp' 1 S S z LT X ∧ ∀ q, 66 < q → hp' q = hp q) := by
  obtain ⟨k1, k2, k3, k4, k5, k6, k7, k8, k9⟩ := h
  refine (t_X7_image k1 k2 k3).mono ?_
  rintro r hp' ⟨rfl, g1, g2, g3, gO⟩
  exact ⟨rfl, ⟨g1, g2, g3, k4.of (fun q a b => gO q (by omega)), k5.of (fun q a b => gO q (by omega)), k6.of (fun q a b => gO q (by omega)), k7.of (fun q a b => gO q (by omega)), k8.of (fun q a b => gO q (by omega)), k9.of (fun q a b => gO q (by omega))⟩, fun q hq => gO q (by omega)⟩
theorem mw_image {n : Nat} {hp : mHp} {S T : TS} {ia : Int32} {z : Nat} {LT : Nat → Int32} {X : SH} (h : mAll hp S T ia z LT X) : mC D_X8_image [.ref 67] n hp (fun r hp' => r = some (.int 1) ∧ mAll hp' S S (nI S.2.1) z LT X ∧ ∀ q, q < 67 → hp' q = hp q) := by
  obtain ⟨m1, m2, m3, m4, m5, m6, m7, m8⟩ := h
  refine (t_X8_image m1 m2).mono ?_
  rintro r hp' ⟨rfl, g1, g2, gO⟩
  exact ⟨rfl, ⟨g1, g2, m3.of (fun q a b => gO q (by omega)), m4.of (fun q a b => gO q (by omega)), m5.of (fun q a b => gO q (by omega)), m6.of (fun q a b => gO q (by omega)), m7.of (fun q a b => gO q (by omega)), m8.of (fun q a b => gO q (by omega))⟩, fun q hq => gO q (by omega)⟩
theorem cw_restore {n : Nat} {hp : mHp} {kf : Int32} {S T : TS} {z : Nat} {LT : Nat → Int32} {X : SH} (h : cAll hp kf S T z LT X) : mC D_X7_restore [.ref 0] n hp (fun r hp' => r = some (.int (if kf = 0 then -4 else 1)) ∧ cAll hp' kf (if kf = 0 then S else T) T z LT X ∧ ∀ q, 66 < q → hp' q = hp q) := by
  obtain ⟨k1, k2, k3, k4, k5, k6, k7, k8, k9⟩ := h
  refine (t_X7_restore k1 k2 k3).mono ?_
  rintro r hp' ⟨rfl, g2, gO⟩
  exact ⟨rfl, ⟨k1.of (fun q a b => gO q (by omega)), g2, k3.of (fun q a b => gO q (by omega)), k4.of (fun q a b => gO q (by omega)), k5.of (fun q a b => gO q (by omega)), k6.of (fun q a b => gO q (by omega)), k7.of (fun q a b => gO q (by omega)), k8.of (fun q a b => gO q (by omega)), k9.of (fun q a b => gO q (by omega))⟩, fun q hq => gO q (by omega)⟩
theorem mw_restore {n : Nat} {hp : mHp} {S T : TS} {ia : Int32} {z : Nat} {LT : Nat → Int32} {X : SH} (h : mAll hp S T ia z LT X) : mC D_X8_restore [.ref 67] n hp (fun r hp' => r = some (.int (if 0 ≤ ia then 1 else -4)) ∧ mAll hp' (if 0 ≤ ia then T else S) T ia z LT X ∧ ∀ q, q < 67 → hp' q = hp q) := by
  obtain ⟨m1, m2, m3, m4, m5, m6, m7, m8⟩ := h
  refine (t_X8_restore m1 m2).mono ?_
  rintro r hp' ⟨rfl, g1, gO⟩
  exact ⟨rfl, ⟨g1, m2.of (fun q a b => gO q (by omega)), m3.of (fun q a b => gO q (by omega)), m4.of (fun q a b => gO q (by omega)), m5.of (fun q a b => gO q (by omega)), m6.of (fun q a b => gO q (by omega)), m7.of (fun q a b => gO q (by omega)), m8.of (fun q a b => gO q (by omega))⟩, fun q hq => gO q (by omega)⟩
theorem cw_film {n : Nat} {hp : mHp} {kf : Int32} {S T : TS} {z : Nat} {LT : Nat → Int32} {X : SH} (h : cAll hp kf S T z LT X) (hO : okS X) {w s l i : Int32} : mC D_X7_film [.ref 0, .int w, .int s, .int l, .int i] n hp (fun r hp' => r = some (.int ((sFilm S X w s l i).1)) ∧ cAll hp' kf S T z LT (sFilm S X w s l i).2 ∧ ∀ q, 66 < q → hp' q = hp q) := by
  obtain ⟨k1, k2, k3, k4, k5, k6, k7, k8, k9⟩ := h
  refine (t_X7_film k5 hO k1 k2).mono ?_
  rintro r hp' ⟨rfl, gT, gO⟩
  exact ⟨rfl, ⟨k1.of (fun q a b => gO q (by omega)), k2.of (fun q a b => gO q (by omega)), k3.of (fun q a b => gO q (by omega)), k4.of (fun q a b => gO q (by omega)), gT, k6.of (fun q a b => gO q (by omega)), k7.of (fun q a b => gO q (by omega)), k8.of (fun q a b => gO q (by omega)), k9.of (fun q a b => gO q (by omega))⟩, fun q hq => gO q (by omega)⟩
theorem mw_film {n : Nat} {hp : mHp} {S T : TS} {ia : Int32} {z : Nat} {LT : Nat → Int32} {X : SH} (h : mAll hp S T ia z LT X) (hO : okS X) {w s l i : Int32} : mC D_X8_film [.ref 67, .int w, .int s, .int l, .int i] n hp (fun r hp' => r = some (.int ((sFilm S X w s l i).1)) ∧ mAll hp' S T ia z LT (sFilm S X w s l i).2 ∧ ∀ q, q < 67 → hp' q = hp q) := by
  obtain ⟨m1, m2, m3, m4, m5, m6, m7, m8⟩ := h
  obtain ⟨ri, ev, le, ch, ls, rm, sm, ra, fa, C, PA, h1, h2, h3, h4, h5, h6⟩ := id m1
  refine (t_X8_film h2 h5 m1.top m4 hO).mono ?_
  rintro r hp' ⟨rfl, gT, gO⟩
  exact ⟨rfl, ⟨m1.of (fun q a b => gO q (by omega)), m2.of (fun q a b => gO q (by omega)), m3.of (fun q a b => gO q (by omega)), gT, m5.of (fun q a b => gO q (by omega)), m6.of (fun q a b => gO q (by omega)), m7.of (fun q a b => gO q (by omega)), m8.of (fun q a b => gO q (by omega))⟩, fun q hq => gO q (by omega)⟩
theorem cw_sheet {n : Nat} {hp : mHp} {kf : Int32} {S T : TS} {z : Nat} {LT : Nat → Int32} {X : SH} (h : cAll hp kf S T z LT X)  {s l y : Int32} : mC D_X7_sheet [.ref 0, .int s, .int l, .int y] n hp (fun r hp' => r = some (.int ((sSheet X s l y).1)) ∧ cAll hp' kf S T z LT (sSheet X s l y).2 ∧ ∀ q, 66 < q → hp' q = hp q) := by
  obtain ⟨k1, k2, k3, k4, k5, k6, k7, k8, k9⟩ := h
  refine (t_X7_sheet k1 k5).mono ?_
  rintro r hp' ⟨rfl, gT, gO⟩
  exact ⟨rfl, ⟨k1.of (fun q a b => gO q (by omega)), k2.of (fun q a b => gO q (by omega)), k3.of (fun q a b => gO q (by omega)), k4.of (fun q a b => gO q (by omega)), gT, k6.of (fun q a b => gO q (by omega)), k7.of (fun q a b => gO q (by omega)), k8.of (fun q a b => gO q (by omega)), k9.of (fun q a b => gO q (by omega))⟩, fun q hq => gO q (by omega)⟩
theorem mw_sheet {n : Nat} {hp : mHp} {S T : TS} {ia : Int32} {z : Nat} {LT : Nat → Int32} {X : SH} (h : mAll hp S T ia z LT X) (hO : okS X) {s l y : Int32} : mC D_X8_sheet [.ref 67, .int s, .int l, .int y] n hp (fun r hp' => r = some (.int ((sSheet X s l y).1)) ∧ mAll hp' S T ia z LT (sSheet X s l y).2 ∧ ∀ q, q < 67 → hp' q = hp q) := by
  obtain ⟨m1, m2, m3, m4, m5, m6, m7, m8⟩ := h
  refine (t_X8_sheet m1.top m4 hO).mono ?_
  rintro r hp' ⟨rfl, gT, gO⟩
  exact ⟨rfl, ⟨m1.of (fun q a b => gO q (by omega)), m2.of (fun q a b => gO q (by omega)), m3.of (fun q a b => gO q (by omega)), gT, m5.of (fun q a b => gO q (by omega)), m6.of (fun q a b => gO q (by omega)), m7.of (fun q a b => gO q (by omega)), m8.of (fun q a b => gO q (by omega))⟩, fun q hq => gO q (by omega)⟩
theorem cw_drop {n : Nat} {hp : mHp} {kf : Int32} {S T : TS} {z : Nat} {LT : Nat → Int32} {X : SH} (h : cAll hp kf S T z LT X)  {s : Int32} : mC D_X7_drop [.ref 0, .int s] n hp (fun r hp' => r = some (.int ((sDrop X s).1)) ∧ cAll hp' kf S T z LT (sDrop X s).2 ∧ ∀ q, 66 < q → hp' q = hp q) := by
  obtain ⟨k1, k2, k3, k4, k5, k6, k7, k8, k9⟩ := h
  refine (t_X7_drop k1 k5).mono ?_
  rintro r hp' ⟨rfl, gT, gO⟩
  exact ⟨rfl, ⟨k1.of (fun q a b => gO q (by omega)), k2.of (fun q a b => gO q (by omega)), k3.of (fun q a b => gO q (by omega)), k4.of (fun q a b => gO q (by omega)), gT, k6.of (fun q a b => gO q (by omega)), k7.of (fun q a b => gO q (by omega)), k8.of (fun q a b => gO q (by omega)), k9.of (fun q a b => gO q (by omega))⟩, fun q hq => gO q (by omega)⟩
theorem mw_drop {n : Nat} {hp : mHp} {S T : TS} {ia : Int32} {z : Nat} {LT : Nat → Int32} {X : SH} (h : mAll hp S T ia z LT X)  {s : Int32} : mC D_X8_drop [.ref 67, .int s] n hp (fun r hp' => r = some (.int ((sDrop X s).1)) ∧ mAll hp' S T ia z LT (sDrop X s).2 ∧ ∀ q, q < 67 → hp' q = hp q) := by
  obtain ⟨m1, m2, m3, m4, m5, m6, m7, m8⟩ := h
  refine (t_X8_drop m1.top m4).mono ?_
  rintro r hp' ⟨rfl, gT, gO⟩
  exact ⟨rfl, ⟨m1.of (fun q a b => gO q (by omega)), m2.of (fun q a b => gO q (by omega)), m3.of (fun q a b => gO q (by omega)), gT, m5.of (fun q a b => gO q (by omega)), m6.of (fun q a b => gO q (by omega)), m7.of (fun q a b => gO q (by omega)), m8.of (fun q a b => gO q (by omega))⟩, fun q hq => gO q (by omega)⟩
theorem cw_item {n : Nat} {hp : mHp} {kf : Int32} {S T : TS} {z : Nat} {LT : Nat → Int32} {X : SH} (h : cAll hp kf S T z LT X) (hO : okS X) {s l i : Int32} {v : Int64} : mC D_X7_item [.ref 0, .int s, .int l, .int i, .long v] n hp (fun r hp' => r = some (.int ((sItem X s l i v).1)) ∧ cAll hp' kf S T z LT (sItem X s l i v).2 ∧ ∀ q, 66 < q → hp' q = hp q) := by
  obtain ⟨k1, k2, k3, k4, k5, k6, k7, k8, k9⟩ := h
  refine (t_X7_item k1 k5 hO).mono ?_
  rintro r hp' ⟨rfl, gT, gO⟩
  exact ⟨rfl, ⟨k1.of (fun q a b => gO q (by omega)), k2.of (fun q a b => gO q (by omega)), k3.of (fun q a b => gO q (by omega)), k4.of (fun q a b => gO q (by omega)), gT, k6.of (fun q a b => gO q (by omega)), k7.of (fun q a b => gO q (by omega)), k8.of (fun q a b => gO q (by omega)), k9.of (fun q a b => gO q (by omega))⟩, fun q hq => gO q (by omega)⟩
theorem mw_item {n : Nat} {hp : mHp} {S T : TS} {ia : Int32} {z : Nat} {LT : Nat → Int32} {X : SH} (h : mAll hp S T ia z LT X) (hO : okS X) {s l i : Int32} {v : Int64} : mC D_X8_item [.ref 67, .int s, .int l, .int i, .long v] n hp (fun r hp' => r = some (.int ((sItem X s l i v).1)) ∧ mAll hp' S T ia z LT (sItem X s l i v).2 ∧ ∀ q, q < 67 → hp' q = hp q) := by
  obtain ⟨m1, m2, m3, m4, m5, m6, m7, m8⟩ := h
  refine (t_X8_item m1.top m4 hO).mono ?_
  rintro r hp' ⟨rfl, gT, gO⟩
  exact ⟨rfl, ⟨m1.of (fun q a b => gO q (by omega)), m2.of (fun q a b => gO q (by omega)), m3.of (fun q a b => gO q (by omega)), gT, m5.of (fun q a b => gO q (by omega)), m6.of (fun q a b => gO q (by omega)), m7.of (fun q a b => gO q (by omega)), m8.of (fun q a b => gO q (by omega))⟩, fun q hq => gO q (by omega)⟩
theorem cw_copy {n : Nat} {hp : mHp} {kf : Int32} {S T : TS} {z : Nat} {LT : Nat → Int32} {X : SH} (h : cAll hp kf S T z LT X) (hO : okS X) {s i t j y : Int32} : mC D_X7_copy [.ref 0, .int s, .int i, .int t, .int j, .int y] n hp (fun r hp' => r = some (.int ((sCopy X s i t j y).1)) ∧ cAll hp' kf S T z LT (sCopy X s i t j y).2 ∧ ∀ q, 66 < q → hp' q = hp q) := by
  obtain ⟨k1, k2, k3, k4, k5, k6, k7, k8, k9⟩ := h
  refine (t_X7_copy k1 k5 hO).mono ?_
  rintro r hp' ⟨rfl, gT, gO⟩
  exact ⟨rfl, ⟨k1.of (fun q a b => gO q (by omega)), k2.of (fun q a b => gO q (by omega)), k3.of (fun q a b => gO q (by omega)), k4.of (fun q a b => gO q (by omega)), gT, k6.of (fun q a b => gO q (by omega)), k7.of (fun q a b => gO q (by omega)), k8.of (fun q a b => gO q (by omega)), k9.of (fun q a b => gO q (by omega))⟩, fun q hq => gO q (by omega)⟩
theorem mw_copy {n : Nat} {hp : mHp} {S T : TS} {ia : Int32} {z : Nat} {LT : Nat → Int32} {X : SH} (h : mAll hp S T ia z LT X) (hO : okS X) {s i t j y : Int32} : mC D_X8_copy [.ref 67, .int s, .int i, .int t, .int j, .int y] n hp (fun r hp' => r = some (.int ((sCopy X s i t j y).1)) ∧ mAll hp' S T ia z LT (sCopy X s i t j y).2 ∧ ∀ q, q < 67 → hp' q = hp q) := by
  obtain ⟨m1, m2, m3, m4, m5, m6, m7, m8⟩ := h
  refine (t_X8_copy m1.top m4 hO).mono ?_
  rintro r hp' ⟨rfl, gT, gO⟩
  exact ⟨rfl, ⟨m1.of (fun q a b => gO q (by omega)), m2.of (fun q a b => gO q (by omega)), m3.of (fun q a b => gO q (by omega)), gT, m5.of (fun q a b => gO q (by omega)), m6.of (fun q a b => gO q (by omega)), m7.of (fun q a b => gO q (by omega)), m8.of (fun q a b => gO q (by omega))⟩, fun q hq => gO q (by omega)⟩
