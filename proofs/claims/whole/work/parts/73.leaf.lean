/-! ===== numbers: the chains, by their kinds ===== -/
def rowI (z : Nat → Int) (i d : Nat) (σ : Int) : Prop := dgZ (rowZ z i) = nI d ∧ dN (rowZ z i) = d ∧ d ≤ 4 ∧ (rowZ z i d).sign = σ ∧ σ ≠ 0 ∧ ∀ j, j < 5 → bdZ (rowZ z i j)
/-- a chain: how many lines, their degrees, the signs of what leads -/
def LF (z : Nat → Int) (D : List Nat) (σ : List Int) : Prop := 1 ≤ D.length ∧ D.length ≤ 5 ∧ (∀ i, i < D.length → rowI z i (D.getD i 0) (σ.getD i 0)) ∧ dgZ (rowZ z D.length) = -1 ∧ ∀ i, i + 1 < D.length → stepOk (rowZ z i) (rowZ z (i + 1))
theorem LF.rw {z : Nat → Int} {D : List Nat} {σ : List Int} (h : LF z D σ) : rwOk z := by
  obtain ⟨h1, h2, h3, h4, h5⟩ := h
  intro i hi hn
  have hk : i + 2 ≤ D.length := by
    rcases Nat.lt_or_ge D.length (i + 2) with q | q
    · exact absurd h4 (hn _ q)
    · exact q
  refine ⟨h5 i (by omega), fun e => ?_⟩
  subst e
  have e : D.length = 5 := by omega
  rw [e] at h4
  exact h4
theorem nI_m1 {d : Nat} (h : d ≤ 4) : nI d ≠ -1 := by
  match d, h with
  | 0, _ => decide
  | 1, _ => decide
  | 2, _ => decide
  | 3, _ => decide
  | 4, _ => decide
theorem LF.sz {z : Nat → Int} {D : List Nat} {σ : List Int} (h : LF z D σ) (h0 : dgZ z ≠ -1) : szZ z = D.length := by
  obtain ⟨h1, h2, h3, h4, h5⟩ := h
  have hn : ∀ j, j < D.length → dgZ (rowZ z j) ≠ -1 := fun j hj => by
    rw [(h3 j hj).1]
    exact nI_m1 (h3 j hj).2.2.1
  rcases Nat.lt_or_ge D.length 5 with q | q
  · exact szZ_at q h0 h1 hn h4
  · rw [show D.length = 5 by omega]
    exact szZ_5 h0 (fun j hj => hn j (by omega))
theorem LF_1 {z : Nat → Int} {d0 : Nat} {s0 : Int} (r0 : rowI z 0 d0 s0) (hz : dgZ (rowZ z 1) = -1) : LF z [d0] [s0] := ⟨by simp, by simp, fun i hi => by
  match i, hi with
  | 0, _ => exact r0
  | i + 1, h => exact absurd h (by simp), hz, fun i hi => absurd hi (by simp)⟩
theorem LF_2 {z : Nat → Int} {d0 d1 : Nat} {s0 s1 : Int} (r0 : rowI z 0 d0 s0) (r1 : rowI z 1 d1 s1) (hz : dgZ (rowZ z 2) = -1) (t0 : stepOk (rowZ z 0) (rowZ z 1)) : LF z [d0, d1] [s0, s1] := ⟨by simp, by simp, fun i hi => by
  match i, hi with
  | 0, _ => exact r0
  | 1, _ => exact r1
  | i + 2, h => exact absurd h (by simp), hz, fun i hi => by
  match i, hi with
  | 0, _ => exact t0
  | i + 1, h => exact absurd h (by simp)⟩
theorem LF_3 {z : Nat → Int} {d0 d1 d2 : Nat} {s0 s1 s2 : Int} (r0 : rowI z 0 d0 s0) (r1 : rowI z 1 d1 s1) (r2 : rowI z 2 d2 s2) (hz : dgZ (rowZ z 3) = -1) (t0 : stepOk (rowZ z 0) (rowZ z 1)) (t1 : stepOk (rowZ z 1) (rowZ z 2)) : LF z [d0, d1, d2] [s0, s1, s2] := ⟨by simp, by simp, fun i hi => by
  match i, hi with
  | 0, _ => exact r0
  | 1, _ => exact r1
  | 2, _ => exact r2
  | i + 3, h => exact absurd h (by simp), hz, fun i hi => by
  match i, hi with
  | 0, _ => exact t0
  | 1, _ => exact t1
  | i + 2, h => exact absurd h (by simp)⟩
theorem LF_4 {z : Nat → Int} {d0 d1 d2 d3 : Nat} {s0 s1 s2 s3 : Int} (r0 : rowI z 0 d0 s0) (r1 : rowI z 1 d1 s1) (r2 : rowI z 2 d2 s2) (r3 : rowI z 3 d3 s3) (hz : dgZ (rowZ z 4) = -1) (t0 : stepOk (rowZ z 0) (rowZ z 1)) (t1 : stepOk (rowZ z 1) (rowZ z 2)) (t2 : stepOk (rowZ z 2) (rowZ z 3)) : LF z [d0, d1, d2, d3] [s0, s1, s2, s3] := ⟨by simp, by simp, fun i hi => by
  match i, hi with
  | 0, _ => exact r0
  | 1, _ => exact r1
  | 2, _ => exact r2
  | 3, _ => exact r3
  | i + 4, h => exact absurd h (by simp), hz, fun i hi => by
  match i, hi with
  | 0, _ => exact t0
  | 1, _ => exact t1
  | 2, _ => exact t2
  | i + 3, h => exact absurd h (by simp)⟩
theorem LF_5 {z : Nat → Int} {d0 d1 d2 d3 d4 : Nat} {s0 s1 s2 s3 s4 : Int} (r0 : rowI z 0 d0 s0) (r1 : rowI z 1 d1 s1) (r2 : rowI z 2 d2 s2) (r3 : rowI z 3 d3 s3) (r4 : rowI z 4 d4 s4) (hz : dgZ (rowZ z 5) = -1) (t0 : stepOk (rowZ z 0) (rowZ z 1)) (t1 : stepOk (rowZ z 1) (rowZ z 2)) (t2 : stepOk (rowZ z 2) (rowZ z 3)) (t3 : stepOk (rowZ z 3) (rowZ z 4)) : LF z [d0, d1, d2, d3, d4] [s0, s1, s2, s3, s4] := ⟨by simp, by simp, fun i hi => by
  match i, hi with
  | 0, _ => exact r0
  | 1, _ => exact r1
  | 2, _ => exact r2
  | 3, _ => exact r3
  | 4, _ => exact r4
  | i + 5, h => exact absurd h (by simp), hz, fun i hi => by
  match i, hi with
  | 0, _ => exact t0
  | 1, _ => exact t1
  | 2, _ => exact t2
  | 3, _ => exact t3
  | i + 4, h => exact absurd h (by simp)⟩
/-- the first two lines: the part of the degree's parity, the other -/
theorem rows_e {z : Nat → Int} (h : dN z % 2 = 0) : rowZ z 0 = halfZ z 0 ∧ rowZ z 1 = halfZ z 1 := by
  constructor
  · show halfZ z (dN z % 2) = _
    rw [h]
  · show halfZ z (1 - dN z % 2) = _
    rw [h]
theorem rows_o {z : Nat → Int} (h : dN z % 2 = 1) : rowZ z 0 = halfZ z 1 ∧ rowZ z 1 = halfZ z 0 := by
  constructor
  · show halfZ z (dN z % 2) = _
    rw [h]
  · show halfZ z (1 - dN z % 2) = _
    rw [h]
theorem half_ab {z : Nat → Int} {N o : Nat} (h : bdN N z) : ∀ j, j < 5 → (halfZ z o j).natAbs ≤ N := fun j hj => by
  unfold halfZ
  split
  · exact h j hj
  · exact Nat.zero_le _
theorem rI4 {z : Nat → Int} {i : Nat} {σ : Int} {N : Nat} (hb : ∀ j, j < 5 → (rowZ z i j).natAbs ≤ N) (hN : N ≤ 9223372036854775807) (h : rowZ z i 4 ≠ 0) (hs : (rowZ z i 4).sign = σ) : rowI z i 4 σ := ⟨(dg4 h).1, (dg4 h).2, by decide, hs, by rw [← hs]; exact fun q => h (Int.sign_eq_zero_iff_zero.mp q), fun j hj => bd_of (hb j hj) hN⟩
theorem rI3 {z : Nat → Int} {i : Nat} {σ : Int} {N : Nat} (hb : ∀ j, j < 5 → (rowZ z i j).natAbs ≤ N) (hN : N ≤ 9223372036854775807) (h4 : rowZ z i 4 = 0) (h : rowZ z i 3 ≠ 0) (hs : (rowZ z i 3).sign = σ) : rowI z i 3 σ := ⟨(dg3 h4 h).1, (dg3 h4 h).2, by decide, hs, by rw [← hs]; exact fun q => h (Int.sign_eq_zero_iff_zero.mp q), fun j hj => bd_of (hb j hj) hN⟩
theorem rI2 {z : Nat → Int} {i : Nat} {σ : Int} {N : Nat} (hb : ∀ j, j < 5 → (rowZ z i j).natAbs ≤ N) (hN : N ≤ 9223372036854775807) (h4 : rowZ z i 4 = 0) (h3 : rowZ z i 3 = 0) (h : rowZ z i 2 ≠ 0) (hs : (rowZ z i 2).sign = σ) : rowI z i 2 σ := ⟨(dg2 h4 h3 h).1, (dg2 h4 h3 h).2, by decide, hs, by rw [← hs]; exact fun q => h (Int.sign_eq_zero_iff_zero.mp q), fun j hj => bd_of (hb j hj) hN⟩
theorem rI1 {z : Nat → Int} {i : Nat} {σ : Int} {N : Nat} (hb : ∀ j, j < 5 → (rowZ z i j).natAbs ≤ N) (hN : N ≤ 9223372036854775807) (h4 : rowZ z i 4 = 0) (h3 : rowZ z i 3 = 0) (h2 : rowZ z i 2 = 0) (h : rowZ z i 1 ≠ 0) (hs : (rowZ z i 1).sign = σ) : rowI z i 1 σ := ⟨(dg1 h4 h3 h2 h).1, (dg1 h4 h3 h2 h).2, by decide, hs, by rw [← hs]; exact fun q => h (Int.sign_eq_zero_iff_zero.mp q), fun j hj => bd_of (hb j hj) hN⟩
theorem rI0 {z : Nat → Int} {i : Nat} {σ : Int} {N : Nat} (hb : ∀ j, j < 5 → (rowZ z i j).natAbs ≤ N) (hN : N ≤ 9223372036854775807) (h4 : rowZ z i 4 = 0) (h3 : rowZ z i 3 = 0) (h2 : rowZ z i 2 = 0) (h1 : rowZ z i 1 = 0) (h : rowZ z i 0 ≠ 0) (hs : (rowZ z i 0).sign = σ) : rowI z i 0 σ := ⟨(dg0 h4 h3 h2 h1 h).1, (dg0 h4 h3 h2 h1 h).2, by decide, hs, by rw [← hs]; exact fun q => h (Int.sign_eq_zero_iff_zero.mp q), fun j hj => bd_of (hb j hj) hN⟩
/-- a line of one entry, which is a sign -/
theorem one_ab {v : Nat → Int} {k : Nat} {x : Int} (hk : k < 5) (h : v k = x.sign) (h0 : ∀ j, j < 5 → j ≠ k → v j = 0) : ∀ j, j < 5 → (v j).natAbs ≤ 1 := fun j hj => by
  by_cases e : j = k
  · rw [e, h]
    rcases Int.sign_trichotomy x with q | q | q <;> rw [q] <;> decide
  · rw [h0 j hj e]
    decide
theorem sg_ne0 {x : Int} (h : x ≠ 0) : x.sign ≠ 0 := fun q => h (Int.sign_eq_zero_iff_zero.mp q)
